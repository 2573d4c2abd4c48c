abbrev ws_mainS_scene (cI cC cZ cR : ClassId) (mm sc sea th th1 th2 th3 th4 th5 th6 th7 th8 th9 pi pia cm cm1 cm2 cm3 pd pda rd rda hh sla bsc bsea bth bth1 bth2 bth3 bth4 bth5 bth6 bth7 bth8 bth9 bpi bpia : Nat) (se : Nat → Int32) (mn : Int32) (ln : Nat → Int32) (hi : Nat → Int32) (wi : Nat → Int32) (br : Nat → Int32) (sp : Nat → Int32) (si : Nat → Int32) (le : Nat → Int32) (un : Nat → Int32) (ul : Nat → Int32) (px : Nat → Int32) (tm : Int32) (ps : Int32) (ft : Int32) (fk : Int32) (lea : Nat → Int32) (upr : Nat → Int32) (ris : Nat → Int32) (pl : Int32) (tx : Nat → Int32) (at_ : Int32) (kd : Int32) (va : Nat → Int32) (bse : Nat → Int32) (bmn : Int32) (bln : Nat → Int32) (bhi : Nat → Int32) (bwi : Nat → Int32) (bbr : Nat → Int32) (bsp : Nat → Int32) (bsi : Nat → Int32) (ble : Nat → Int32) (bun : Nat → Int32) (bul : Nat → Int32) (bpx : Nat → Int32) (btm : Int32) (bps : Int32) (bft : Int32) (bfk : Int32) (sfu : Nat → Option Nat) : va_W := [(mm, .inr (7, [.ref sc, .ref cm, .ref hh, .ref sla, .ref pd, .ref rd])), (sc, .inr (5, [.ref sea, .ref th, .ref pi, .int tm, .int ps, .int ft, .int fk])), (sea, .inl (cI, 4, .inl se)), (th, .inr (6, [.int mn, .ref th1, .ref th2, .ref th3, .ref th4, .ref th5, .ref th6, .ref th7, .ref th8, .ref th9])), (th1, .inl (cI, 8, .inl ln)), (th2, .inl (cI, 8, .inl hi)), (th3, .inl (cI, 8, .inl wi)), (th4, .inl (cI, 8, .inl br)), (th5, .inl (cI, 8, .inl sp)), (th6, .inl (cI, 8, .inl si)), (th7, .inl (cI, 8, .inl le)), (th8, .inl (cI, 8, .inl un)), (th9, .inl (cI, 8, .inl ul)), (pi, .inr (3, [.ref pia])), (pia, .inl (cI, 384, .inl px)), (cm, .inr (0, [.ref cm1, .ref cm2, .ref cm3])), (cm1, .inl (cI, 24, .inl lea)), (cm2, .inl (cI, 24, .inl upr)), (cm3, .inl (cI, 25, .inl ris)), (pd, .inr (2, [.ref pda, .int pl])), (pda, .inl (cC, 80, .inl tx)), (rd, .inr (4, [.ref pd, .int at_, .int kd, .ref rda])), (rda, .inl (cI, 7, .inl va)), (sla, .inl (cR, 2, .inr (.inr (.inr (.inr sfu))))), (bsc, .inr (5, [.ref bsea, .ref bth, .ref bpi, .int btm, .int bps, .int bft, .int bfk])), (bsea, .inl (cI, 4, .inl bse)), (bth, .inr (6, [.int bmn, .ref bth1, .ref bth2, .ref bth3, .ref bth4, .ref bth5, .ref bth6, .ref bth7, .ref bth8, .ref bth9])), (bth1, .inl (cI, 8, .inl bln)), (bth2, .inl (cI, 8, .inl bhi)), (bth3, .inl (cI, 8, .inl bwi)), (bth4, .inl (cI, 8, .inl bbr)), (bth5, .inl (cI, 8, .inl bsp)), (bth6, .inl (cI, 8, .inl bsi)), (bth7, .inl (cI, 8, .inl ble)), (bth8, .inl (cI, 8, .inl bun)), (bth9, .inl (cI, 8, .inl bul)), (bpi, .inr (3, [.ref bpia])), (bpia, .inl (cI, 384, .inl bpx))]
abbrev ws_mainS (cI cC cZ cR : ClassId) (mm sc sea th th1 th2 th3 th4 th5 th6 th7 th8 th9 pi pia cm cm1 cm2 cm3 pd pda rd rda hh sla : Nat) (se : Nat → Int32) (mn : Int32) (ln : Nat → Int32) (hi : Nat → Int32) (wi : Nat → Int32) (br : Nat → Int32) (sp : Nat → Int32) (si : Nat → Int32) (le : Nat → Int32) (un : Nat → Int32) (ul : Nat → Int32) (px : Nat → Int32) (tm : Int32) (ps : Int32) (ft : Int32) (fk : Int32) (lea : Nat → Int32) (upr : Nat → Int32) (ris : Nat → Int32) (pl : Int32) (tx : Nat → Int32) (at_ : Int32) (kd : Int32) (va : Nat → Int32) (sfu : Nat → Option Nat) : va_W := [(mm, .inr (7, [.ref sc, .ref cm, .ref hh, .ref sla, .ref pd, .ref rd])), (sc, .inr (5, [.ref sea, .ref th, .ref pi, .int tm, .int ps, .int ft, .int fk])), (sea, .inl (cI, 4, .inl se)), (th, .inr (6, [.int mn, .ref th1, .ref th2, .ref th3, .ref th4, .ref th5, .ref th6, .ref th7, .ref th8, .ref th9])), (th1, .inl (cI, 8, .inl ln)), (th2, .inl (cI, 8, .inl hi)), (th3, .inl (cI, 8, .inl wi)), (th4, .inl (cI, 8, .inl br)), (th5, .inl (cI, 8, .inl sp)), (th6, .inl (cI, 8, .inl si)), (th7, .inl (cI, 8, .inl le)), (th8, .inl (cI, 8, .inl un)), (th9, .inl (cI, 8, .inl ul)), (pi, .inr (3, [.ref pia])), (pia, .inl (cI, 384, .inl px)), (cm, .inr (0, [.ref cm1, .ref cm2, .ref cm3])), (cm1, .inl (cI, 24, .inl lea)), (cm2, .inl (cI, 24, .inl upr)), (cm3, .inl (cI, 25, .inl ris)), (pd, .inr (2, [.ref pda, .int pl])), (pda, .inl (cC, 80, .inl tx)), (rd, .inr (4, [.ref pd, .int at_, .int kd, .ref rda])), (rda, .inl (cI, 7, .inl va)), (sla, .inl (cR, 2, .inr (.inr (.inr (.inr sfu)))))]
abbrev ws_mainH_scene (cI cC cZ cR : ClassId) (mm sc sea th th1 th2 th3 th4 th5 th6 th7 th8 th9 pi pia cm cm1 cm2 cm3 pd pda rd rda hh hst sla bsc bsea bth bth1 bth2 bth3 bth4 bth5 bth6 bth7 bth8 bth9 bpi bpia : Nat) (se : Nat → Int32) (mn : Int32) (ln : Nat → Int32) (hi : Nat → Int32) (wi : Nat → Int32) (br : Nat → Int32) (sp : Nat → Int32) (si : Nat → Int32) (le : Nat → Int32) (un : Nat → Int32) (ul : Nat → Int32) (px : Nat → Int32) (tm : Int32) (ps : Int32) (ft : Int32) (fk : Int32) (lea : Nat → Int32) (upr : Nat → Int32) (ris : Nat → Int32) (pl : Int32) (tx : Nat → Int32) (at_ : Int32) (kd : Int32) (va : Nat → Int32) (nx : Int32) (hm : Int32) (bse : Nat → Int32) (bmn : Int32) (bln : Nat → Int32) (bhi : Nat → Int32) (bwi : Nat → Int32) (bbr : Nat → Int32) (bsp : Nat → Int32) (bsi : Nat → Int32) (ble : Nat → Int32) (bun : Nat → Int32) (bul : Nat → Int32) (bpx : Nat → Int32) (btm : Int32) (bps : Int32) (bft : Int32) (bfk : Int32) (hfu : Nat → Option Nat) : va_W := [(mm, .inr (7, [.ref sc, .ref cm, .ref hh, .ref sla, .ref pd, .ref rd])), (sc, .inr (5, [.ref sea, .ref th, .ref pi, .int tm, .int ps, .int ft, .int fk])), (sea, .inl (cI, 4, .inl se)), (th, .inr (6, [.int mn, .ref th1, .ref th2, .ref th3, .ref th4, .ref th5, .ref th6, .ref th7, .ref th8, .ref th9])), (th1, .inl (cI, 8, .inl ln)), (th2, .inl (cI, 8, .inl hi)), (th3, .inl (cI, 8, .inl wi)), (th4, .inl (cI, 8, .inl br)), (th5, .inl (cI, 8, .inl sp)), (th6, .inl (cI, 8, .inl si)), (th7, .inl (cI, 8, .inl le)), (th8, .inl (cI, 8, .inl un)), (th9, .inl (cI, 8, .inl ul)), (pi, .inr (3, [.ref pia])), (pia, .inl (cI, 384, .inl px)), (cm, .inr (0, [.ref cm1, .ref cm2, .ref cm3])), (cm1, .inl (cI, 24, .inl lea)), (cm2, .inl (cI, 24, .inl upr)), (cm3, .inl (cI, 25, .inl ris)), (pd, .inr (2, [.ref pda, .int pl])), (pda, .inl (cC, 80, .inl tx)), (rd, .inr (4, [.ref pd, .int at_, .int kd, .ref rda])), (rda, .inl (cI, 7, .inl va)), (hh, .inr (1, [.ref hst, .int nx, .int hm])), (hst, .inl (cR, 6, .inr (.inr (.inr (.inr hfu))))), (bsc, .inr (5, [.ref bsea, .ref bth, .ref bpi, .int btm, .int bps, .int bft, .int bfk])), (bsea, .inl (cI, 4, .inl bse)), (bth, .inr (6, [.int bmn, .ref bth1, .ref bth2, .ref bth3, .ref bth4, .ref bth5, .ref bth6, .ref bth7, .ref bth8, .ref bth9])), (bth1, .inl (cI, 8, .inl bln)), (bth2, .inl (cI, 8, .inl bhi)), (bth3, .inl (cI, 8, .inl bwi)), (bth4, .inl (cI, 8, .inl bbr)), (bth5, .inl (cI, 8, .inl bsp)), (bth6, .inl (cI, 8, .inl bsi)), (bth7, .inl (cI, 8, .inl ble)), (bth8, .inl (cI, 8, .inl bun)), (bth9, .inl (cI, 8, .inl bul)), (bpi, .inr (3, [.ref bpia])), (bpia, .inl (cI, 384, .inl bpx))]
abbrev ws_mainH_addr (cI cC cZ cR : ClassId) (mm sc sea th th1 th2 th3 th4 th5 th6 th7 th8 th9 pi pia cm cm1 cm2 cm3 pd pda rd rda hh hst sla bad : Nat) (se : Nat → Int32) (mn : Int32) (ln : Nat → Int32) (hi : Nat → Int32) (wi : Nat → Int32) (br : Nat → Int32) (sp : Nat → Int32) (si : Nat → Int32) (le : Nat → Int32) (un : Nat → Int32) (ul : Nat → Int32) (px : Nat → Int32) (tm : Int32) (ps : Int32) (ft : Int32) (fk : Int32) (lea : Nat → Int32) (upr : Nat → Int32) (ris : Nat → Int32) (pl : Int32) (tx : Nat → Int32) (at_ : Int32) (kd : Int32) (va : Nat → Int32) (nx : Int32) (hm : Int32) (hfu : Nat → Option Nat) : va_W := [(mm, .inr (7, [.ref sc, .ref cm, .ref hh, .ref sla, .ref pd, .ref rd])), (sc, .inr (5, [.ref sea, .ref th, .ref pi, .int tm, .int ps, .int ft, .int fk])), (sea, .inl (cI, 4, .inl se)), (th, .inr (6, [.int mn, .ref th1, .ref th2, .ref th3, .ref th4, .ref th5, .ref th6, .ref th7, .ref th8, .ref th9])), (th1, .inl (cI, 8, .inl ln)), (th2, .inl (cI, 8, .inl hi)), (th3, .inl (cI, 8, .inl wi)), (th4, .inl (cI, 8, .inl br)), (th5, .inl (cI, 8, .inl sp)), (th6, .inl (cI, 8, .inl si)), (th7, .inl (cI, 8, .inl le)), (th8, .inl (cI, 8, .inl un)), (th9, .inl (cI, 8, .inl ul)), (pi, .inr (3, [.ref pia])), (pia, .inl (cI, 384, .inl px)), (cm, .inr (0, [.ref cm1, .ref cm2, .ref cm3])), (cm1, .inl (cI, 24, .inl lea)), (cm2, .inl (cI, 24, .inl upr)), (cm3, .inl (cI, 25, .inl ris)), (pd, .inr (2, [.ref pda, .int pl])), (pda, .inl (cC, 80, .inl tx)), (rd, .inr (4, [.ref pd, .int at_, .int kd, .ref rda])), (rda, .inl (cI, 7, .inl va)), (hh, .inr (1, [.ref hst, .int nx, .int hm])), (hst, .inl (cR, 6, .inr (.inr (.inr (.inr hfu)))))]
-- LeaningLines.save
abbrev OUT_X7_save_x : Type := Int32
def f_X7_save_x (a0 : Int32) : Option OUT_X7_save_x :=
  bn (f_X7_within a0 0 1) (fun r1 => (if ¬ r1 = 0 then none else some ((-2))))
abbrev R_X7_save_x : Room := { frames := 4, cells := 14, slots := 478, locals := 120 }
set_option maxHeartbeats 4000000 in
set_option maxRecDepth 100000 in
theorem m_X7_save_x (l : Launch) (D : va_G) (cI cC cZ cR : ClassId) (mm sc sea th th1 th2 th3 th4 th5 th6 th7 th8 th9 pi pia cm cm1 cm2 cm3 pd pda rd rda hh sla : Nat) (sz : Nat) (se : Nat → Int32) (mn : Int32) (ln : Nat → Int32) (hi : Nat → Int32) (wi : Nat → Int32) (br : Nat → Int32) (sp : Nat → Int32) (si : Nat → Int32) (le : Nat → Int32) (un : Nat → Int32) (ul : Nat → Int32) (px : Nat → Int32) (tm : Int32) (ps : Int32) (ft : Int32) (fk : Int32) (lea : Nat → Int32) (upr : Nat → Int32) (ris : Nat → Int32) (pl : Int32) (tx : Nat → Int32) (at_ : Int32) (kd : Int32) (va : Nat → Int32)  (a0 : Int32)   (r : OUT_X7_save_x) (hf : f_X7_save_x a0 = some r) : Met l yX7_save wsX7_save R_X7_save_x (cPc D cI cC cZ cR [.ref mm, .int a0] sz (ws_main cI cC cZ cR mm sc sea th th1 th2 th3 th4 th5 th6 th7 th8 th9 pi pia cm cm1 cm2 cm3 pd pda rd rda hh sla se mn ln hi wi br sp si le un ul px tm ps ft fk lea upr ris pl tx at_ kd va)) (cQi D (ws_main cI cC cZ cR mm sc sea th th1 th2 th3 th4 th5 th6 th7 th8 th9 pi pia cm cm1 cm2 cm3 pd pda rd rda hh sla se mn ln hi wi br sp si le un ul px tm ps ft fk lea upr ris pl tx at_ kd va) (va_A (ws_main cI cC cZ cR mm sc sea th th1 th2 th3 th4 th5 th6 th7 th8 th9 pi pia cm cm1 cm2 cm3 pd pda rd rda hh sla se mn ln hi wi br sp si le un ul px tm ps ft fk lea upr ris pl tx at_ kd va) sz) r) 14 478 (va_A (ws_main cI cC cZ cR mm sc sea th th1 th2 th3 th4 th5 th6 th7 th8 th9 pi pia cm cm1 cm2 cm3 pd pda rd rda hh sla se mn ln hi wi br sp si le un ul px tm ps ft fk lea upr ris pl tx at_ kd va) sz) := by
  refine Met.ofW (cc := cX7_save) (maxL := 3) (ret := (some .int)) (by decide) rfl ?_
  intro p e s m args below meth c s₁ B hml hv
  obtain ⟨rfl, hsz, hP, hK, hD0⟩ := hv
  have hx := B.exec
  have hb := B.bytes
  have hr := B.returns
  have hts := atoms_spec (ws := wsX7_save) B.pre
  have hown : s.vm.findClass RX7 = some m.cls := findClass_of_methodNamed B.named
  have hlocks := B.notSynchronized
  subst hsz
  have hD := hD0.self (sz := s.heap.size)
  generalize hAe : va_A (ws_main cI cC cZ cR mm sc sea th th1 th2 th3 th4 th5 th6 th7 th8 th9 pi pia cm cm1 cm2 cm3 pd pda rd rda hh sla se mn ln hi wi br sp si le un ul px tm ps ft fk lea upr ris pl tx at_ kd va) s.heap.size = A at hD ⊢
  skip
  have hA : ∀ q : Nat, s.heap.size ≤ q → A q := fun q h => by rw [← hAe]; exact Or.inr h
  have hS : va_S A s.heap s.heap [] := va_S.rf
  have hl := lv_entry ([.ref mm, .int a0]) (n := 3) (Nat.le_of_ble_eq_true rfl)
  rw [lg_entry_eq]
  generalize (lg_sl ([.ref mm, .int a0]) ++ List.replicate (3 - (lg_sl ([.ref mm, .int a0])).length) Slot.unset).toArray = ls at hl ⊢
  have hl : lv_has ls 3 [(0, .ref mm), (1, .int a0)] := hl
  refine W_absQ (fun Q hQ => ?_)
  refine W.eq (g2 := F0 m 0 ls []) rfl ?_
  have h := hf
  unfold f_X7_save_x at h
  refine lv_iload_n hx hb dX7_save_0 rfl (lv_at hl 1 rfl) ?_
  refine lv_iconst (v := 0) hx hb dX7_save_1 (by decide) ?_
  refine lv_iconst (v := 1) hx hb dX7_save_2 (by decide) ?_
  obtain ⟨r1, hcr1, h⟩ := bn_sp h
  have hPc := hP.sub (ws' := []) [] rfl
  have hDc := hD.sub (ws' := []) [] (by decide) rfl
  have hFc := va_free (wc := []) hD hS hA [] rfl
  refine va_calli (va_runS (As := [.int a0, .int 0, .int 1]) (rest := []) ⟨hx, hb, hml, hown, hts⟩ (m_X7_within l D cI cC cZ cR  _  a0 0 1   r1 hcr1) (va_cwS 3 hts gX7_save_X7_within rfl rfl rfl (by decide +kernel) ⟨Nat.le_of_ble_eq_true rfl, Nat.le_of_ble_eq_true rfl⟩) (cPc_ps hPc hK hDc) rfl rfl hl.1 rfl (lv_room (Nat.le_of_ble_eq_true rfl)) dX7_save_3 ⟨Nat.le_of_ble_eq_true rfl, Nat.le_of_ble_eq_true rfl⟩) hS (fun q _ h => hFc q h) hFc (fun xq u t H1 locs ht hvm hw hB hz1 hk1 hS => ?_)
  rw [hw]
  obtain ⟨hP1, hD1⟩ := hB
  rw [ht] at hP1
  obtain ⟨hP, hD⟩ := va_join (wr := [(mm, .inr (7, [.ref sc, .ref cm, .ref hh, .ref sla, .ref pd, .ref rd])), (sc, .inr (5, [.ref sea, .ref th, .ref pi, .int tm, .int ps, .int ft, .int fk])), (sea, .inl (cI, 4, .inl se)), (th, .inr (6, [.int mn, .ref th1, .ref th2, .ref th3, .ref th4, .ref th5, .ref th6, .ref th7, .ref th8, .ref th9])), (th1, .inl (cI, 8, .inl ln)), (th2, .inl (cI, 8, .inl hi)), (th3, .inl (cI, 8, .inl wi)), (th4, .inl (cI, 8, .inl br)), (th5, .inl (cI, 8, .inl sp)), (th6, .inl (cI, 8, .inl si)), (th7, .inl (cI, 8, .inl le)), (th8, .inl (cI, 8, .inl un)), (th9, .inl (cI, 8, .inl ul)), (pi, .inr (3, [.ref pia])), (pia, .inl (cI, 384, .inl px)), (cm, .inr (0, [.ref cm1, .ref cm2, .ref cm3])), (cm1, .inl (cI, 24, .inl lea)), (cm2, .inl (cI, 24, .inl upr)), (cm3, .inl (cI, 25, .inl ris)), (pd, .inr (2, [.ref pda, .int pl])), (pda, .inl (cC, 80, .inl tx)), (rd, .inr (4, [.ref pd, .int at_, .int kd, .ref rda])), (rda, .inl (cI, 7, .inl va))]) (w1 := []) hP hD [] [0, 1, 2, 3, 4, 5, 6, 7, 8, 9, 10, 11, 12, 13, 14, 15, 16, 17, 18, 19, 20, 21, 22] rfl rfl (by decide) (by decide) hk1 hFc hP1 hD1
  generalize H1 = H at hP hS ⊢
  have hP : va_P D vwCl (ws_main cI cC cZ cR mm sc sea th th1 th2 th3 th4 th5 th6 th7 th8 th9 pi pia cm cm1 cm2 cm3 pd pda rd rda hh sla se mn ln hi wi br sp si le un ul px tm ps ft fk lea upr ris pl tx at_ kd va) H := hP
  have hD : va_D A (ws_main cI cC cZ cR mm sc sea th th1 th2 th3 th4 th5 th6 th7 th8 th9 pi pia cm cm1 cm2 cm3 pd pda rd rda hh sla se mn ln hi wi br sp si le un ul px tm ps ft fk lea upr ris pl tx at_ kd va) := hD
  refine lv_if_ne (tgt := 12) hx hb dX7_save_6 (by decide) (fun c2 => ?_) (fun c2 => ?_)
  · replace h := br_p c2 h
    exact no_sm h
  · replace h := br_n (not_not_intro c2) h
    refine lv_bipush (v := (-2)) hx hb dX7_save_9 (by decide) ?_
    have e9 := Option.some.inj h
    subst e9
    rw [hQ]
    refine W.widen (k := 14) (n := 478) (by decide) (by decide) ?_
    exact W.iret (v := (-2)) hx hb hr (fun t ht hW => ⟨⟨(-2), (), rfl, rfl, by rw [ht]; exact hP, hD⟩, hS.F ht⟩) hS.2.2 dX7_save_11
-- LeaningLines.save
abbrev OUT_X7_save_a : Type := Int32 × Int32 × Int32 × Int32 × Int32 × (Nat → Int32) × Int32 × (Nat → Int32) × (Nat → Int32) × (Nat → Int32) × (Nat → Int32) × (Nat → Int32) × (Nat → Int32) × (Nat → Int32) × (Nat → Int32) × (Nat → Int32) × (Nat → Int32)
def f_X7_save_a (se : Nat → Int32) (mn : Int32) (ln : Nat → Int32) (hi : Nat → Int32) (wi : Nat → Int32) (br : Nat → Int32) (sp : Nat → Int32) (si : Nat → Int32) (le : Nat → Int32) (un : Nat → Int32) (ul : Nat → Int32) (px : Nat → Int32) (tm : Int32) (ps : Int32) (ft : Int32) (fk : Int32) (bse : Nat → Int32) (bln : Nat → Int32) (bhi : Nat → Int32) (bwi : Nat → Int32) (bbr : Nat → Int32) (bsp : Nat → Int32) (bsi : Nat → Int32) (ble : Nat → Int32) (bun : Nat → Int32) (bul : Nat → Int32) (bpx : Nat → Int32) (a0 : Int32) : Option OUT_X7_save_a :=
  bn (f_X7_within a0 0 1) (fun r1 => (if ¬ r1 = 0 then gd a0 2 (bn (f_X5_copyFrom bse bln bhi bwi bbr bsp bsi ble bun bul bpx se mn ln hi wi br sp si le un ul px tm ps ft fk) (fun r2 => some ((mn, r2.1, r2.2.1, r2.2.2.1, r2.2.2.2.1, r2.2.2.2.2.1, r2.2.2.2.2.2.1, r2.2.2.2.2.2.2.1, r2.2.2.2.2.2.2.2.1, r2.2.2.2.2.2.2.2.2.1, r2.2.2.2.2.2.2.2.2.2.1, r2.2.2.2.2.2.2.2.2.2.2.1, r2.2.2.2.2.2.2.2.2.2.2.2.1, r2.2.2.2.2.2.2.2.2.2.2.2.2.1, r2.2.2.2.2.2.2.2.2.2.2.2.2.2.1, r2.2.2.2.2.2.2.2.2.2.2.2.2.2.2.1, r2.2.2.2.2.2.2.2.2.2.2.2.2.2.2.2)))) else none))
theorem uX7_save_a_X7 : ∀ w ∈ wsX70, w ∈ wsX7_save := by decide +kernel
theorem kX7_save_a_1 : Cond.fieldLink RX7 30 "LeaningLines" "slots" "[LLeaningLines$Scene;" ∈ wsX7_save := by decide +kernel
theorem kX7_save_a_2 : Cond.fieldLink RX7 10 "LeaningLines" "scene" "LLeaningLines$Scene;" ∈ wsX7_save := by decide +kernel
theorem uX7_save_a_X5 : ∀ w ∈ wsX50, w ∈ wsX7_save := by decide +kernel
theorem kX7_save_a_4 : Cond.fieldLink RX7 72 "LeaningLines$Scene" "things" "LLeaningLines$Things;" ∈ wsX7_save := by decide +kernel
theorem uX7_save_a_X6 : ∀ w ∈ wsX60, w ∈ wsX7_save := by decide +kernel
theorem kX7_save_a_6 : Cond.fieldLink RX7 176 "LeaningLines$Things" "many" "I" ∈ wsX7_save := by decide +kernel
abbrev R_X7_save_a : Room := { frames := 4, cells := 14, slots := 478, locals := 120 }
set_option maxHeartbeats 4000000 in
set_option maxRecDepth 100000 in
theorem m_X7_save_a (l : Launch) (D : va_G) (cI cC cZ cR : ClassId) (mm sc sea th th1 th2 th3 th4 th5 th6 th7 th8 th9 pi pia cm cm1 cm2 cm3 pd pda rd rda hh sla bsc bsea bth bth1 bth2 bth3 bth4 bth5 bth6 bth7 bth8 bth9 bpi bpia : Nat) (sz : Nat) (se : Nat → Int32) (mn : Int32) (ln : Nat → Int32) (hi : Nat → Int32) (wi : Nat → Int32) (br : Nat → Int32) (sp : Nat → Int32) (si : Nat → Int32) (le : Nat → Int32) (un : Nat → Int32) (ul : Nat → Int32) (px : Nat → Int32) (tm : Int32) (ps : Int32) (ft : Int32) (fk : Int32) (lea : Nat → Int32) (upr : Nat → Int32) (ris : Nat → Int32) (pl : Int32) (tx : Nat → Int32) (at_ : Int32) (kd : Int32) (va : Nat → Int32) (bse : Nat → Int32) (bmn : Int32) (bln : Nat → Int32) (bhi : Nat → Int32) (bwi : Nat → Int32) (bbr : Nat → Int32) (bsp : Nat → Int32) (bsi : Nat → Int32) (ble : Nat → Int32) (bun : Nat → Int32) (bul : Nat → Int32) (bpx : Nat → Int32) (btm : Int32) (bps : Int32) (bft : Int32) (bfk : Int32) (sfu : Nat → Option Nat) (a0 : Int32)  (hq : sfu a0.toNatClampNeg = some bsc) (r : OUT_X7_save_a) (hf : f_X7_save_a se mn ln hi wi br sp si le un ul px tm ps ft fk bse bln bhi bwi bbr bsp bsi ble bun bul bpx a0 = some r) : Met l yX7_save wsX7_save R_X7_save_a (cPc D cI cC cZ cR [.ref mm, .int a0] sz (ws_mainS_scene cI cC cZ cR mm sc sea th th1 th2 th3 th4 th5 th6 th7 th8 th9 pi pia cm cm1 cm2 cm3 pd pda rd rda hh sla bsc bsea bth bth1 bth2 bth3 bth4 bth5 bth6 bth7 bth8 bth9 bpi bpia se mn ln hi wi br sp si le un ul px tm ps ft fk lea upr ris pl tx at_ kd va bse bmn bln bhi bwi bbr bsp bsi ble bun bul bpx btm bps bft bfk sfu)) (cQi D (ws_mainS_scene cI cC cZ cR mm sc sea th th1 th2 th3 th4 th5 th6 th7 th8 th9 pi pia cm cm1 cm2 cm3 pd pda rd rda hh sla bsc bsea bth bth1 bth2 bth3 bth4 bth5 bth6 bth7 bth8 bth9 bpi bpia se mn ln hi wi br sp si le un ul px tm ps ft fk lea upr ris pl tx at_ kd va r.2.2.2.2.2.1 r.2.2.2.2.2.2.1 r.2.2.2.2.2.2.2.1 r.2.2.2.2.2.2.2.2.1 r.2.2.2.2.2.2.2.2.2.1 r.2.2.2.2.2.2.2.2.2.2.1 r.2.2.2.2.2.2.2.2.2.2.2.1 r.2.2.2.2.2.2.2.2.2.2.2.2.1 r.2.2.2.2.2.2.2.2.2.2.2.2.2.1 r.2.2.2.2.2.2.2.2.2.2.2.2.2.2.1 r.2.2.2.2.2.2.2.2.2.2.2.2.2.2.2.1 r.2.2.2.2.2.2.2.2.2.2.2.2.2.2.2.2 r.2.1 r.2.2.1 r.2.2.2.1 r.2.2.2.2.1 sfu) (va_A (ws_mainS_scene cI cC cZ cR mm sc sea th th1 th2 th3 th4 th5 th6 th7 th8 th9 pi pia cm cm1 cm2 cm3 pd pda rd rda hh sla bsc bsea bth bth1 bth2 bth3 bth4 bth5 bth6 bth7 bth8 bth9 bpi bpia se mn ln hi wi br sp si le un ul px tm ps ft fk lea upr ris pl tx at_ kd va bse bmn bln bhi bwi bbr bsp bsi ble bun bul bpx btm bps bft bfk sfu) sz) r.1) 14 478 (va_A (ws_mainS_scene cI cC cZ cR mm sc sea th th1 th2 th3 th4 th5 th6 th7 th8 th9 pi pia cm cm1 cm2 cm3 pd pda rd rda hh sla bsc bsea bth bth1 bth2 bth3 bth4 bth5 bth6 bth7 bth8 bth9 bpi bpia se mn ln hi wi br sp si le un ul px tm ps ft fk lea upr ris pl tx at_ kd va bse bmn bln bhi bwi bbr bsp bsi ble bun bul bpx btm bps bft bfk sfu) sz) := by
  refine Met.ofW (cc := cX7_save) (maxL := 3) (ret := (some .int)) (by decide) rfl ?_
  intro p e s m args below meth c s₁ B hml hv
  obtain ⟨rfl, hsz, hP, hK, hD0⟩ := hv
  have hx := B.exec
  have hb := B.bytes
  have hr := B.returns
  have hts := atoms_spec (ws := wsX7_save) B.pre
  have hown : s.vm.findClass RX7 = some m.cls := findClass_of_methodNamed B.named
  have hlocks := B.notSynchronized
  subst hsz
  have hD := hD0.self (sz := s.heap.size)
  generalize hAe : va_A (ws_mainS_scene cI cC cZ cR mm sc sea th th1 th2 th3 th4 th5 th6 th7 th8 th9 pi pia cm cm1 cm2 cm3 pd pda rd rda hh sla bsc bsea bth bth1 bth2 bth3 bth4 bth5 bth6 bth7 bth8 bth9 bpi bpia se mn ln hi wi br sp si le un ul px tm ps ft fk lea upr ris pl tx at_ kd va bse bmn bln bhi bwi bbr bsp bsi ble bun bul bpx btm bps bft bfk sfu) s.heap.size = A at hD ⊢
  skip
  have hA : ∀ q : Nat, s.heap.size ≤ q → A q := fun q h => by rw [← hAe]; exact Or.inr h
  have hS : va_S A s.heap s.heap [] := va_S.rf
  have hl := lv_entry ([.ref mm, .int a0]) (n := 3) (Nat.le_of_ble_eq_true rfl)
  rw [lg_entry_eq]
  generalize (lg_sl ([.ref mm, .int a0]) ++ List.replicate (3 - (lg_sl ([.ref mm, .int a0])).length) Slot.unset).toArray = ls at hl ⊢
  have hl : lv_has ls 3 [(0, .ref mm), (1, .int a0)] := hl
  refine W_absQ (fun Q hQ => ?_)
  refine W.eq (g2 := F0 m 0 ls []) rfl ?_
  have h := hf
  unfold f_X7_save_a at h
  refine lv_iload_n hx hb dX7_save_0 rfl (lv_at hl 1 rfl) ?_
  refine lv_iconst (v := 0) hx hb dX7_save_1 (by decide) ?_
  refine lv_iconst (v := 1) hx hb dX7_save_2 (by decide) ?_
  obtain ⟨r1, hcr1, h⟩ := bn_sp h
  have hPc := hP.sub (ws' := []) [] rfl
  have hDc := hD.sub (ws' := []) [] (by decide) rfl
  have hFc := va_free (wc := []) hD hS hA [] rfl
  refine va_calli (va_runS (As := [.int a0, .int 0, .int 1]) (rest := []) ⟨hx, hb, hml, hown, hts⟩ (m_X7_within l D cI cC cZ cR  _  a0 0 1   r1 hcr1) (va_cwS 3 hts gX7_save_X7_within rfl rfl rfl (by decide +kernel) ⟨Nat.le_of_ble_eq_true rfl, Nat.le_of_ble_eq_true rfl⟩) (cPc_ps hPc hK hDc) rfl rfl hl.1 rfl (lv_room (Nat.le_of_ble_eq_true rfl)) dX7_save_3 ⟨Nat.le_of_ble_eq_true rfl, Nat.le_of_ble_eq_true rfl⟩) hS (fun q _ h => hFc q h) hFc (fun xq u t H1 locs ht hvm hw hB hz1 hk1 hS => ?_)
  rw [hw]
  obtain ⟨hP1, hD1⟩ := hB
  rw [ht] at hP1
  obtain ⟨hP, hD⟩ := va_join (wr := [(mm, .inr (7, [.ref sc, .ref cm, .ref hh, .ref sla, .ref pd, .ref rd])), (sc, .inr (5, [.ref sea, .ref th, .ref pi, .int tm, .int ps, .int ft, .int fk])), (sea, .inl (cI, 4, .inl se)), (th, .inr (6, [.int mn, .ref th1, .ref th2, .ref th3, .ref th4, .ref th5, .ref th6, .ref th7, .ref th8, .ref th9])), (th1, .inl (cI, 8, .inl ln)), (th2, .inl (cI, 8, .inl hi)), (th3, .inl (cI, 8, .inl wi)), (th4, .inl (cI, 8, .inl br)), (th5, .inl (cI, 8, .inl sp)), (th6, .inl (cI, 8, .inl si)), (th7, .inl (cI, 8, .inl le)), (th8, .inl (cI, 8, .inl un)), (th9, .inl (cI, 8, .inl ul)), (pi, .inr (3, [.ref pia])), (pia, .inl (cI, 384, .inl px)), (cm, .inr (0, [.ref cm1, .ref cm2, .ref cm3])), (cm1, .inl (cI, 24, .inl lea)), (cm2, .inl (cI, 24, .inl upr)), (cm3, .inl (cI, 25, .inl ris)), (pd, .inr (2, [.ref pda, .int pl])), (pda, .inl (cC, 80, .inl tx)), (rd, .inr (4, [.ref pd, .int at_, .int kd, .ref rda])), (rda, .inl (cI, 7, .inl va)), (sla, .inl (cR, 2, .inr (.inr (.inr (.inr sfu))))), (bsc, .inr (5, [.ref bsea, .ref bth, .ref bpi, .int btm, .int bps, .int bft, .int bfk])), (bsea, .inl (cI, 4, .inl bse)), (bth, .inr (6, [.int bmn, .ref bth1, .ref bth2, .ref bth3, .ref bth4, .ref bth5, .ref bth6, .ref bth7, .ref bth8, .ref bth9])), (bth1, .inl (cI, 8, .inl bln)), (bth2, .inl (cI, 8, .inl bhi)), (bth3, .inl (cI, 8, .inl bwi)), (bth4, .inl (cI, 8, .inl bbr)), (bth5, .inl (cI, 8, .inl bsp)), (bth6, .inl (cI, 8, .inl bsi)), (bth7, .inl (cI, 8, .inl ble)), (bth8, .inl (cI, 8, .inl bun)), (bth9, .inl (cI, 8, .inl bul)), (bpi, .inr (3, [.ref bpia])), (bpia, .inl (cI, 384, .inl bpx))]) (w1 := []) hP hD [] [0, 1, 2, 3, 4, 5, 6, 7, 8, 9, 10, 11, 12, 13, 14, 15, 16, 17, 18, 19, 20, 21, 22, 23, 24, 25, 26, 27, 28, 29, 30, 31, 32, 33, 34, 35, 36, 37] rfl rfl (by decide) (by decide) hk1 hFc hP1 hD1
  generalize H1 = H at hP hS ⊢
  have hP : va_P D vwCl (ws_mainS_scene cI cC cZ cR mm sc sea th th1 th2 th3 th4 th5 th6 th7 th8 th9 pi pia cm cm1 cm2 cm3 pd pda rd rda hh sla bsc bsea bth bth1 bth2 bth3 bth4 bth5 bth6 bth7 bth8 bth9 bpi bpia se mn ln hi wi br sp si le un ul px tm ps ft fk lea upr ris pl tx at_ kd va bse bmn bln bhi bwi bbr bsp bsi ble bun bul bpx btm bps bft bfk sfu) H := hP
  have hD : va_D A (ws_mainS_scene cI cC cZ cR mm sc sea th th1 th2 th3 th4 th5 th6 th7 th8 th9 pi pia cm cm1 cm2 cm3 pd pda rd rda hh sla bsc bsea bth bth1 bth2 bth3 bth4 bth5 bth6 bth7 bth8 bth9 bpi bpia se mn ln hi wi br sp si le un ul px tm ps ft fk lea upr ris pl tx at_ kd va bse bmn bln bhi bwi bbr bsp bsi ble bun bul bpx btm bps bft bfk sfu) := hD
  refine lv_if_ne (tgt := 12) hx hb dX7_save_6 (by decide) (fun c3 => ?_) (fun c3 => ?_)
  · replace h := br_p c3 h
    refine lv_aload_n hx hb dX7_save_12 rfl (lv_at hl 0 rfl) ?_
    refine va_get (D := D) (ci := 7) (v := .ref sla) (C := RX7) (T := TX7) (N := 6) hx hb hts uX7_save_a_X7 hown hK.1 hP 0 rfl rfl 3 (by decide) (hts _ kX7_save_a_1) (fun _ h9 => h9) rfl dX7_save_13 ?_
    refine lv_iload_n hx hb dX7_save_16 rfl (lv_at hl 1 rfl) ?_
    obtain ⟨hin, h⟩ := gd_sp h
    refine va_aldq (D := D) hx hb hK.1 hP 23 3 rfl rfl hin dX7_save_17 ?_
    refine W.eq (g2 := F0 m 18 ls [.ref bsc]) (by rw [hq]; rfl) ?_
    refine lv_astore_n (lv' := [(2, .ref bsc), (0, .ref mm), (1, .int a0)]) hx hb dX7_save_18 rfl hl (by decide) rfl (fun ls hl => ?_)
    refine lv_aload_n hx hb dX7_save_19 rfl (lv_at hl 0 rfl) ?_
    refine lv_ifnonnull (tgt := 38) hx hb dX7_save_20 (by decide) ?_
    refine lv_aload_n hx hb dX7_save_38 rfl (lv_at hl 0 rfl) ?_
    refine lv_aload_n hx hb dX7_save_39 rfl (lv_at hl 1 rfl) ?_
    refine va_get (D := D) (ci := 7) (v := .ref sc) (C := RX7) (T := TX7) (N := 6) hx hb hts uX7_save_a_X7 hown hK.1 hP 0 rfl rfl 0 (by decide) (hts _ kX7_save_a_2) (fun _ h9 => h9) rfl dX7_save_40 ?_
    obtain ⟨r2, hcr2, h⟩ := bn_sp h
    have hPc := hP.sub (ws' := (ws_scene_scene cI cC cZ cR bsc bsea bth bth1 bth2 bth3 bth4 bth5 bth6 bth7 bth8 bth9 bpi bpia sc sea th th1 th2 th3 th4 th5 th6 th7 th8 th9 pi pia bse bmn bln bhi bwi bbr bsp bsi ble bun bul bpx btm bps bft bfk se mn ln hi wi br sp si le un ul px tm ps ft fk)) [24, 25, 26, 27, 28, 29, 30, 31, 32, 33, 34, 35, 36, 37, 1, 2, 3, 4, 5, 6, 7, 8, 9, 10, 11, 12, 13, 14] rfl
    have hDc := hD.sub (ws' := (ws_scene_scene cI cC cZ cR bsc bsea bth bth1 bth2 bth3 bth4 bth5 bth6 bth7 bth8 bth9 bpi bpia sc sea th th1 th2 th3 th4 th5 th6 th7 th8 th9 pi pia bse bmn bln bhi bwi bbr bsp bsi ble bun bul bpx btm bps bft bfk se mn ln hi wi br sp si le un ul px tm ps ft fk)) [24, 25, 26, 27, 28, 29, 30, 31, 32, 33, 34, 35, 36, 37, 1, 2, 3, 4, 5, 6, 7, 8, 9, 10, 11, 12, 13, 14] (by decide) rfl
    have hFc := va_free (wc := (ws_scene_scene cI cC cZ cR bsc bsea bth bth1 bth2 bth3 bth4 bth5 bth6 bth7 bth8 bth9 bpi bpia sc sea th th1 th2 th3 th4 th5 th6 th7 th8 th9 pi pia bse bmn bln bhi bwi bbr bsp bsi ble bun bul bpx btm bps bft bfk se mn ln hi wi br sp si le un ul px tm ps ft fk)) hD hS hA [24, 25, 26, 27, 28, 29, 30, 31, 32, 33, 34, 35, 36, 37, 1, 2, 3, 4, 5, 6, 7, 8, 9, 10, 11, 12, 13, 14] rfl
    refine va_callv (va_runV (As := [.ref sc]) (rest := []) ⟨hx, hb, hml, hown, hts⟩ (m_X5_copyFrom l D cI cC cZ cR bsc bsea bth bth1 bth2 bth3 bth4 bth5 bth6 bth7 bth8 bth9 bpi bpia sc sea th th1 th2 th3 th4 th5 th6 th7 th8 th9 pi pia _ bse bmn bln bhi bwi bbr bsp bsi ble bun bul bpx btm bps bft bfk se mn ln hi wi br sp si le un ul px tm ps ft fk    r2 hcr2) (cwV 1 hts gX7_save_X5_copyFrom rfl rfl rfl (by decide +kernel) ⟨Nat.le_of_ble_eq_true rfl, Nat.le_of_ble_eq_true rfl⟩) (cPc_pv hPc hK hDc (ci := 5) (q0 := 0) rfl rfl) rfl rfl hl.1 rfl (lv_room (Nat.le_of_ble_eq_true rfl)) dX7_save_43 ⟨Nat.le_of_ble_eq_true rfl, Nat.le_of_ble_eq_true rfl⟩) hS (fun q _ h => hFc q h) hFc (fun u t H1 locs ht hvm hw hB hz1 hk1 hS => ?_)
    obtain ⟨hP1, hD1⟩ := hB
    rw [ht] at hP1
    obtain ⟨hP, hD⟩ := va_join (wr := [(mm, .inr (7, [.ref sc, .ref cm, .ref hh, .ref sla, .ref pd, .ref rd])), (cm, .inr (0, [.ref cm1, .ref cm2, .ref cm3])), (cm1, .inl (cI, 24, .inl lea)), (cm2, .inl (cI, 24, .inl upr)), (cm3, .inl (cI, 25, .inl ris)), (pd, .inr (2, [.ref pda, .int pl])), (pda, .inl (cC, 80, .inl tx)), (rd, .inr (4, [.ref pd, .int at_, .int kd, .ref rda])), (rda, .inl (cI, 7, .inl va)), (sla, .inl (cR, 2, .inr (.inr (.inr (.inr sfu)))))]) (w1 := (ws_scene_scene cI cC cZ cR bsc bsea bth bth1 bth2 bth3 bth4 bth5 bth6 bth7 bth8 bth9 bpi bpia sc sea th th1 th2 th3 th4 th5 th6 th7 th8 th9 pi pia r2.2.2.2.2.1 r2.2.2.2.2.2.1 r2.2.2.2.2.2.2.1 r2.2.2.2.2.2.2.2.1 r2.2.2.2.2.2.2.2.2.1 r2.2.2.2.2.2.2.2.2.2.1 r2.2.2.2.2.2.2.2.2.2.2.1 r2.2.2.2.2.2.2.2.2.2.2.2.1 r2.2.2.2.2.2.2.2.2.2.2.2.2.1 r2.2.2.2.2.2.2.2.2.2.2.2.2.2.1 r2.2.2.2.2.2.2.2.2.2.2.2.2.2.2.1 r2.2.2.2.2.2.2.2.2.2.2.2.2.2.2.2 r2.1 r2.2.1 r2.2.2.1 r2.2.2.2.1 se mn ln hi wi br sp si le un ul px tm ps ft fk)) hP hD [24, 25, 26, 27, 28, 29, 30, 31, 32, 33, 34, 35, 36, 37, 1, 2, 3, 4, 5, 6, 7, 8, 9, 10, 11, 12, 13, 14] [0, 15, 16, 17, 18, 19, 20, 21, 22, 23] rfl rfl (by decide) (by decide) hk1 hFc hP1 hD1
    have hP := hP.sub (ws' := (ws_mainS_scene cI cC cZ cR mm sc sea th th1 th2 th3 th4 th5 th6 th7 th8 th9 pi pia cm cm1 cm2 cm3 pd pda rd rda hh sla bsc bsea bth bth1 bth2 bth3 bth4 bth5 bth6 bth7 bth8 bth9 bpi bpia se mn ln hi wi br sp si le un ul px tm ps ft fk lea upr ris pl tx at_ kd va r2.2.2.2.2.1 r2.2.2.2.2.2.1 r2.2.2.2.2.2.2.1 r2.2.2.2.2.2.2.2.1 r2.2.2.2.2.2.2.2.2.1 r2.2.2.2.2.2.2.2.2.2.1 r2.2.2.2.2.2.2.2.2.2.2.1 r2.2.2.2.2.2.2.2.2.2.2.2.1 r2.2.2.2.2.2.2.2.2.2.2.2.2.1 r2.2.2.2.2.2.2.2.2.2.2.2.2.2.1 r2.2.2.2.2.2.2.2.2.2.2.2.2.2.2.1 r2.2.2.2.2.2.2.2.2.2.2.2.2.2.2.2 r2.1 r2.2.1 r2.2.2.1 r2.2.2.2.1 sfu)) [0, 24, 25, 26, 27, 28, 29, 30, 31, 32, 33, 34, 35, 36, 37, 1, 2, 3, 4, 5, 6, 7, 8, 9, 10, 11, 12, 13, 14, 15, 16, 17, 18, 19, 20, 21, 22, 23] rfl
    have hD := hD.sub (ws' := (ws_mainS_scene cI cC cZ cR mm sc sea th th1 th2 th3 th4 th5 th6 th7 th8 th9 pi pia cm cm1 cm2 cm3 pd pda rd rda hh sla bsc bsea bth bth1 bth2 bth3 bth4 bth5 bth6 bth7 bth8 bth9 bpi bpia se mn ln hi wi br sp si le un ul px tm ps ft fk lea upr ris pl tx at_ kd va r2.2.2.2.2.1 r2.2.2.2.2.2.1 r2.2.2.2.2.2.2.1 r2.2.2.2.2.2.2.2.1 r2.2.2.2.2.2.2.2.2.1 r2.2.2.2.2.2.2.2.2.2.1 r2.2.2.2.2.2.2.2.2.2.2.1 r2.2.2.2.2.2.2.2.2.2.2.2.1 r2.2.2.2.2.2.2.2.2.2.2.2.2.1 r2.2.2.2.2.2.2.2.2.2.2.2.2.2.1 r2.2.2.2.2.2.2.2.2.2.2.2.2.2.2.1 r2.2.2.2.2.2.2.2.2.2.2.2.2.2.2.2 r2.1 r2.2.1 r2.2.2.1 r2.2.2.2.1 sfu)) [0, 24, 25, 26, 27, 28, 29, 30, 31, 32, 33, 34, 35, 36, 37, 1, 2, 3, 4, 5, 6, 7, 8, 9, 10, 11, 12, 13, 14, 15, 16, 17, 18, 19, 20, 21, 22, 23] (by decide) rfl
    generalize H1 = H at hP hS ⊢
    refine lv_aload_n hx hb dX7_save_46 rfl (lv_at hl 1 rfl) ?_
    refine va_get (D := D) (ci := 7) (v := .ref sc) (C := RX7) (T := TX7) (N := 6) hx hb hts uX7_save_a_X7 hown hK.1 hP 0 rfl rfl 0 (by decide) (hts _ kX7_save_a_2) (fun _ h9 => h9) rfl dX7_save_47 ?_
    refine va_get (D := D) (ci := 5) (v := .ref th) (C := RX5) (T := TX5) (N := 7) hx hb hts uX7_save_a_X5 hown hK.1 hP 1 rfl rfl 1 (by decide) (hts _ kX7_save_a_4) (fun _ h9 => h9) rfl dX7_save_50 ?_
    refine va_get (D := D) (ci := 6) (v := .int mn) (C := RX6) (T := TX6) (N := 10) hx hb hts uX7_save_a_X6 hown hK.1 hP 3 rfl rfl 0 (by decide) (hts _ kX7_save_a_6) (fun _ h9 => h9) rfl dX7_save_53 ?_
    have e9 := Option.some.inj h
    subst e9
    rw [hQ]
    refine W.widen (k := 14) (n := 478) (by decide) (by decide) ?_
    exact W.iret (v := mn) hx hb hr (fun t ht hW => ⟨⟨mn, (), rfl, rfl, by rw [ht]; exact hP, hD⟩, hS.F ht⟩) hS.2.2 dX7_save_56
  · replace h := br_n (not_not_intro c3) h
    exact no_sm h
-- LeaningLines.save
abbrev OUT_X7_save_b : Type := Int32 × Int32 × Int32 × Int32 × Int32 × (Nat → Int32) × Int32 × (Nat → Int32) × (Nat → Int32) × (Nat → Int32) × (Nat → Int32) × (Nat → Int32) × (Nat → Int32) × (Nat → Int32) × (Nat → Int32) × (Nat → Int32) × (Nat → Int32)
def f_X7_save_b (se : Nat → Int32) (mn : Int32) (ln : Nat → Int32) (hi : Nat → Int32) (wi : Nat → Int32) (br : Nat → Int32) (sp : Nat → Int32) (si : Nat → Int32) (le : Nat → Int32) (un : Nat → Int32) (ul : Nat → Int32) (px : Nat → Int32) (tm : Int32) (ps : Int32) (ft : Int32) (fk : Int32) (a0 : Int32) : Option OUT_X7_save_b :=
  bn (f_X7_within a0 0 1) (fun r1 => (if ¬ r1 = 0 then gd a0 2 (bn (f_X5_init) (fun r3 => gd a0 2 (bn (f_X5_copyFrom r3.2.1 r3.2.2.2.1 r3.2.2.2.2.1 r3.2.2.2.2.2.1 r3.2.2.2.2.2.2.1 r3.2.2.2.2.2.2.2.1 r3.2.2.2.2.2.2.2.2.1 r3.2.2.2.2.2.2.2.2.2.1 r3.2.2.2.2.2.2.2.2.2.2.1 r3.2.2.2.2.2.2.2.2.2.2.2.1 r3.2.2.2.2.2.2.2.2.2.2.2.2 se mn ln hi wi br sp si le un ul px tm ps ft fk) (fun r5 => some ((mn, r5.1, r5.2.1, r5.2.2.1, r5.2.2.2.1, r5.2.2.2.2.1, r5.2.2.2.2.2.1, r5.2.2.2.2.2.2.1, r5.2.2.2.2.2.2.2.1, r5.2.2.2.2.2.2.2.2.1, r5.2.2.2.2.2.2.2.2.2.1, r5.2.2.2.2.2.2.2.2.2.2.1, r5.2.2.2.2.2.2.2.2.2.2.2.1, r5.2.2.2.2.2.2.2.2.2.2.2.2.1, r5.2.2.2.2.2.2.2.2.2.2.2.2.2.1, r5.2.2.2.2.2.2.2.2.2.2.2.2.2.2.1, r5.2.2.2.2.2.2.2.2.2.2.2.2.2.2.2)))))) else none))
theorem uX7_save_b_X7 : ∀ w ∈ wsX70, w ∈ wsX7_save := by decide +kernel
theorem kX7_save_b_1 : Cond.fieldLink RX7 30 "LeaningLines" "slots" "[LLeaningLines$Scene;" ∈ wsX7_save := by decide +kernel
theorem uX7_save_b_X5 : ∀ w ∈ wsX50, w ∈ wsX7_save := by decide +kernel
theorem kX7_save_b_3 : Cond.classLink RX7 7 RX5 ∈ wsX7_save := by decide +kernel
theorem kX7_save_b_4 : Cond.instantiable RX5 7 ∈ wsX7_save := by decide +kernel
theorem kX7_save_b_5 : Cond.initialized RX5 ∈ wsX7_save := by decide +kernel
theorem kX7_save_b_6 : Cond.instanceMethod yX5_init ∈ wsX7_save := by decide +kernel
theorem kX7_save_b_7 : Cond.fieldLink RX7 10 "LeaningLines" "scene" "LLeaningLines$Scene;" ∈ wsX7_save := by decide +kernel
theorem kX7_save_b_8 : Cond.fieldLink RX7 72 "LeaningLines$Scene" "things" "LLeaningLines$Things;" ∈ wsX7_save := by decide +kernel
theorem uX7_save_b_X6 : ∀ w ∈ wsX60, w ∈ wsX7_save := by decide +kernel
theorem kX7_save_b_10 : Cond.fieldLink RX7 176 "LeaningLines$Things" "many" "I" ∈ wsX7_save := by decide +kernel
abbrev R_X7_save_b : Room := { frames := 4, cells := 14, slots := 478, locals := 120 }
set_option maxHeartbeats 4000000 in
set_option maxRecDepth 100000 in
theorem m_X7_save_b (l : Launch) (D : va_G) (cI cC cZ cR : ClassId) (mm sc sea th th1 th2 th3 th4 th5 th6 th7 th8 th9 pi pia cm cm1 cm2 cm3 pd pda rd rda hh sla : Nat) (sz : Nat) (se : Nat → Int32) (mn : Int32) (ln : Nat → Int32) (hi : Nat → Int32) (wi : Nat → Int32) (br : Nat → Int32) (sp : Nat → Int32) (si : Nat → Int32) (le : Nat → Int32) (un : Nat → Int32) (ul : Nat → Int32) (px : Nat → Int32) (tm : Int32) (ps : Int32) (ft : Int32) (fk : Int32) (lea : Nat → Int32) (upr : Nat → Int32) (ris : Nat → Int32) (pl : Int32) (tx : Nat → Int32) (at_ : Int32) (kd : Int32) (va : Nat → Int32) (sfu : Nat → Option Nat) (a0 : Int32) (b0 : Nat) (hq : sfu a0.toNatClampNeg = none) (r : OUT_X7_save_b) (hf : f_X7_save_b se mn ln hi wi br sp si le un ul px tm ps ft fk a0 = some r) : Met l yX7_save wsX7_save R_X7_save_b (cPcS D cI cC cZ cR b0 [.ref mm, .int a0] sz (ws_mainS cI cC cZ cR mm sc sea th th1 th2 th3 th4 th5 th6 th7 th8 th9 pi pia cm cm1 cm2 cm3 pd pda rd rda hh sla se mn ln hi wi br sp si le un ul px tm ps ft fk lea upr ris pl tx at_ kd va sfu)) (cQm D (va_A (ws_mainS cI cC cZ cR mm sc sea th th1 th2 th3 th4 th5 th6 th7 th8 th9 pi pia cm cm1 cm2 cm3 pd pda rd rda hh sla se mn ln hi wi br sp si le un ul px tm ps ft fk lea upr ris pl tx at_ kd va sfu) sz) r.1 (fun u => [(mm, .inr (7, [.ref sc, .ref cm, .ref hh, .ref sla, .ref pd, .ref rd])), (sc, .inr (5, [.ref sea, .ref th, .ref pi, .int tm, .int ps, .int ft, .int fk])), (sea, .inl (cI, 4, .inl se)), (th, .inr (6, [.int mn, .ref th1, .ref th2, .ref th3, .ref th4, .ref th5, .ref th6, .ref th7, .ref th8, .ref th9])), (th1, .inl (cI, 8, .inl ln)), (th2, .inl (cI, 8, .inl hi)), (th3, .inl (cI, 8, .inl wi)), (th4, .inl (cI, 8, .inl br)), (th5, .inl (cI, 8, .inl sp)), (th6, .inl (cI, 8, .inl si)), (th7, .inl (cI, 8, .inl le)), (th8, .inl (cI, 8, .inl un)), (th9, .inl (cI, 8, .inl ul)), (pi, .inr (3, [.ref pia])), (pia, .inl (cI, 384, .inl px)), (cm, .inr (0, [.ref cm1, .ref cm2, .ref cm3])), (cm1, .inl (cI, 24, .inl lea)), (cm2, .inl (cI, 24, .inl upr)), (cm3, .inl (cI, 25, .inl ris)), (pd, .inr (2, [.ref pda, .int pl])), (pda, .inl (cC, 80, .inl tx)), (rd, .inr (4, [.ref pd, .int at_, .int kd, .ref rda])), (rda, .inl (cI, 7, .inl va)), (sla, .inl (cR, 2, .inr (.inr (.inr (.inr (va_up sfu a0.toNatClampNeg (some (u 0)))))))), ((u 0), .inr (5, [.ref (u 1), .ref (u 2), .ref (u 12), .int r.2.1, .int r.2.2.1, .int r.2.2.2.1, .int r.2.2.2.2.1])), ((u 1), .inl (cI, 4, .inl r.2.2.2.2.2.1)), ((u 2), .inr (6, [.int r.2.2.2.2.2.2.1, .ref (u 3), .ref (u 4), .ref (u 5), .ref (u 6), .ref (u 7), .ref (u 8), .ref (u 9), .ref (u 10), .ref (u 11)])), ((u 3), .inl (cI, 8, .inl r.2.2.2.2.2.2.2.1)), ((u 4), .inl (cI, 8, .inl r.2.2.2.2.2.2.2.2.1)), ((u 5), .inl (cI, 8, .inl r.2.2.2.2.2.2.2.2.2.1)), ((u 6), .inl (cI, 8, .inl r.2.2.2.2.2.2.2.2.2.2.1)), ((u 7), .inl (cI, 8, .inl r.2.2.2.2.2.2.2.2.2.2.2.1)), ((u 8), .inl (cI, 8, .inl r.2.2.2.2.2.2.2.2.2.2.2.2.1)), ((u 9), .inl (cI, 8, .inl r.2.2.2.2.2.2.2.2.2.2.2.2.2.1)), ((u 10), .inl (cI, 8, .inl r.2.2.2.2.2.2.2.2.2.2.2.2.2.2.1)), ((u 11), .inl (cI, 8, .inl r.2.2.2.2.2.2.2.2.2.2.2.2.2.2.2.1)), ((u 12), .inr (3, [.ref (u 13)])), ((u 13), .inl (cI, 384, .inl r.2.2.2.2.2.2.2.2.2.2.2.2.2.2.2.2))])) 14 478 (va_A (ws_mainS cI cC cZ cR mm sc sea th th1 th2 th3 th4 th5 th6 th7 th8 th9 pi pia cm cm1 cm2 cm3 pd pda rd rda hh sla se mn ln hi wi br sp si le un ul px tm ps ft fk lea upr ris pl tx at_ kd va sfu) sz) := by
  refine Met.ofW (cc := cX7_save) (maxL := 3) (ret := (some .int)) (by decide) rfl ?_
  intro p e s m args below meth c s₁ B hml hv
  obtain ⟨rfl, hsz, hP, hK, hD0, hb0, hstt⟩ := hv
  have hx := B.exec
  have hb := B.bytes
  have hr := B.returns
  have hts := atoms_spec (ws := wsX7_save) B.pre
  have hown : s.vm.findClass RX7 = some m.cls := findClass_of_methodNamed B.named
  have hlocks := B.notSynchronized
  subst hsz
  have hD := hD0.self (sz := s.heap.size)
  generalize hAe : va_A (ws_mainS cI cC cZ cR mm sc sea th th1 th2 th3 th4 th5 th6 th7 th8 th9 pi pia cm cm1 cm2 cm3 pd pda rd rda hh sla se mn ln hi wi br sp si le un ul px tm ps ft fk lea upr ris pl tx at_ kd va sfu) s.heap.size = A at hD ⊢
  have hAb := hAb_of hAe hD0 hb0
  have hA : ∀ q : Nat, s.heap.size ≤ q → A q := fun q h => by rw [← hAe]; exact Or.inr h
  have hS : va_S A s.heap s.heap [] := va_S.rf
  have hl := lv_entry ([.ref mm, .int a0]) (n := 3) (Nat.le_of_ble_eq_true rfl)
  rw [lg_entry_eq]
  generalize (lg_sl ([.ref mm, .int a0]) ++ List.replicate (3 - (lg_sl ([.ref mm, .int a0])).length) Slot.unset).toArray = ls at hl ⊢
  have hl : lv_has ls 3 [(0, .ref mm), (1, .int a0)] := hl
  refine W_absQ (fun Q hQ => ?_)
  refine W.eq (g2 := F0 m 0 ls []) rfl ?_
  have h := hf
  unfold f_X7_save_b at h
  refine lv_iload_n hx hb dX7_save_0 rfl (lv_at hl 1 rfl) ?_
  refine lv_iconst (v := 0) hx hb dX7_save_1 (by decide) ?_
  refine lv_iconst (v := 1) hx hb dX7_save_2 (by decide) ?_
  obtain ⟨r1, hcr1, h⟩ := bn_sp h
  have hPc := hP.sub (ws' := []) [] rfl
  have hDc := hD.sub (ws' := []) [] (by decide) rfl
  have hFc := va_free (wc := []) hD hS hA [] rfl
  refine va_calli (va_runS (As := [.int a0, .int 0, .int 1]) (rest := []) ⟨hx, hb, hml, hown, hts⟩ (m_X7_within l D cI cC cZ cR  _  a0 0 1   r1 hcr1) (va_cwS 3 hts gX7_save_X7_within rfl rfl rfl (by decide +kernel) ⟨Nat.le_of_ble_eq_true rfl, Nat.le_of_ble_eq_true rfl⟩) (cPc_ps hPc hK hDc) rfl rfl hl.1 rfl (lv_room (Nat.le_of_ble_eq_true rfl)) dX7_save_3 ⟨Nat.le_of_ble_eq_true rfl, Nat.le_of_ble_eq_true rfl⟩) hS (fun q _ h => hFc q h) hFc (fun xq u t H1 locs ht hvm hw hB hz1 hk1 hS => ?_)
  rw [hw]
  obtain ⟨hP1, hD1⟩ := hB
  rw [ht] at hP1
  obtain ⟨hP, hD⟩ := va_join (wr := [(mm, .inr (7, [.ref sc, .ref cm, .ref hh, .ref sla, .ref pd, .ref rd])), (sc, .inr (5, [.ref sea, .ref th, .ref pi, .int tm, .int ps, .int ft, .int fk])), (sea, .inl (cI, 4, .inl se)), (th, .inr (6, [.int mn, .ref th1, .ref th2, .ref th3, .ref th4, .ref th5, .ref th6, .ref th7, .ref th8, .ref th9])), (th1, .inl (cI, 8, .inl ln)), (th2, .inl (cI, 8, .inl hi)), (th3, .inl (cI, 8, .inl wi)), (th4, .inl (cI, 8, .inl br)), (th5, .inl (cI, 8, .inl sp)), (th6, .inl (cI, 8, .inl si)), (th7, .inl (cI, 8, .inl le)), (th8, .inl (cI, 8, .inl un)), (th9, .inl (cI, 8, .inl ul)), (pi, .inr (3, [.ref pia])), (pia, .inl (cI, 384, .inl px)), (cm, .inr (0, [.ref cm1, .ref cm2, .ref cm3])), (cm1, .inl (cI, 24, .inl lea)), (cm2, .inl (cI, 24, .inl upr)), (cm3, .inl (cI, 25, .inl ris)), (pd, .inr (2, [.ref pda, .int pl])), (pda, .inl (cC, 80, .inl tx)), (rd, .inr (4, [.ref pd, .int at_, .int kd, .ref rda])), (rda, .inl (cI, 7, .inl va)), (sla, .inl (cR, 2, .inr (.inr (.inr (.inr sfu)))))]) (w1 := []) hP hD [] [0, 1, 2, 3, 4, 5, 6, 7, 8, 9, 10, 11, 12, 13, 14, 15, 16, 17, 18, 19, 20, 21, 22, 23] rfl rfl (by decide) (by decide) hk1 hFc hP1 hD1
  generalize H1 = H at hP hS ⊢
  have hP : va_P D vwCl (ws_mainS cI cC cZ cR mm sc sea th th1 th2 th3 th4 th5 th6 th7 th8 th9 pi pia cm cm1 cm2 cm3 pd pda rd rda hh sla se mn ln hi wi br sp si le un ul px tm ps ft fk lea upr ris pl tx at_ kd va sfu) H := hP
  have hD : va_D A (ws_mainS cI cC cZ cR mm sc sea th th1 th2 th3 th4 th5 th6 th7 th8 th9 pi pia cm cm1 cm2 cm3 pd pda rd rda hh sla se mn ln hi wi br sp si le un ul px tm ps ft fk lea upr ris pl tx at_ kd va sfu) := hD
  refine lv_if_ne (tgt := 12) hx hb dX7_save_6 (by decide) (fun c6 => ?_) (fun c6 => ?_)
  · replace h := br_p c6 h
    refine lv_aload_n hx hb dX7_save_12 rfl (lv_at hl 0 rfl) ?_
    refine va_get (D := D) (ci := 7) (v := .ref sla) (C := RX7) (T := TX7) (N := 6) hx hb hts uX7_save_b_X7 hown hK.1 hP 0 rfl rfl 3 (by decide) (hts _ kX7_save_b_1) (fun _ h9 => h9) rfl dX7_save_13 ?_
    refine lv_iload_n hx hb dX7_save_16 rfl (lv_at hl 1 rfl) ?_
    obtain ⟨hin, h⟩ := gd_sp h
    refine va_aldq (D := D) hx hb hK.1 hP 23 3 rfl rfl hin dX7_save_17 ?_
    refine W.eq (g2 := F0 m 18 ls [.null]) (by rw [hq]; rfl) ?_
    refine lv_astore_nN (lv' := [(2, .null), (0, .ref mm), (1, .int a0)]) hx hb dX7_save_18 rfl hl (by decide) rfl (fun ls hl => ?_)
    refine lv_aload_nN hx hb dX7_save_19 rfl (lv_at hl 0 rfl) ?_
    refine lv_ifnonnullN hx hb dX7_save_20 ?_
    refine va_new (D := D) (ci := 5) (fs := [.null, .null, .null, .int 0, .int 0, .int 0, .int 0]) (C := RX5) (T := TX5) (N := 7) hx hb hts uX7_save_b_X5 tyX5 tyX5_ok hown (hts _ kX7_save_b_3) (hts _ kX7_save_b_4) (hts _ kX7_save_b_5) hK.1 hP hD hS hA rfl (fun j hj => by rcases (show j = 0 ∨ j = 1 ∨ j = 2 ∨ j = 3 ∨ j = 4 ∨ j = 5 ∨ j = 6 by omega) with rfl | rfl | rfl | rfl | rfl | rfl | rfl <;> rfl) (Nat.le_of_ble_eq_true rfl) (Nat.le_of_ble_eq_true rfl) dX7_save_23 (fun q2 H hP hD hS => ?_)
    have hP : va_P D vwCl [(mm, .inr (7, [.ref sc, .ref cm, .ref hh, .ref sla, .ref pd, .ref rd])), (sc, .inr (5, [.ref sea, .ref th, .ref pi, .int tm, .int ps, .int ft, .int fk])), (sea, .inl (cI, 4, .inl se)), (th, .inr (6, [.int mn, .ref th1, .ref th2, .ref th3, .ref th4, .ref th5, .ref th6, .ref th7, .ref th8, .ref th9])), (th1, .inl (cI, 8, .inl ln)), (th2, .inl (cI, 8, .inl hi)), (th3, .inl (cI, 8, .inl wi)), (th4, .inl (cI, 8, .inl br)), (th5, .inl (cI, 8, .inl sp)), (th6, .inl (cI, 8, .inl si)), (th7, .inl (cI, 8, .inl le)), (th8, .inl (cI, 8, .inl un)), (th9, .inl (cI, 8, .inl ul)), (pi, .inr (3, [.ref pia])), (pia, .inl (cI, 384, .inl px)), (cm, .inr (0, [.ref cm1, .ref cm2, .ref cm3])), (cm1, .inl (cI, 24, .inl lea)), (cm2, .inl (cI, 24, .inl upr)), (cm3, .inl (cI, 25, .inl ris)), (pd, .inr (2, [.ref pda, .int pl])), (pda, .inl (cC, 80, .inl tx)), (rd, .inr (4, [.ref pd, .int at_, .int kd, .ref rda])), (rda, .inl (cI, 7, .inl va)), (sla, .inl (cR, 2, .inr (.inr (.inr (.inr sfu))))), (q2, .inr (5, [.null, .null, .null, .int 0, .int 0, .int 0, .int 0]))] H := hP
    have hD : va_D A [(mm, .inr (7, [.ref sc, .ref cm, .ref hh, .ref sla, .ref pd, .ref rd])), (sc, .inr (5, [.ref sea, .ref th, .ref pi, .int tm, .int ps, .int ft, .int fk])), (sea, .inl (cI, 4, .inl se)), (th, .inr (6, [.int mn, .ref th1, .ref th2, .ref th3, .ref th4, .ref th5, .ref th6, .ref th7, .ref th8, .ref th9])), (th1, .inl (cI, 8, .inl ln)), (th2, .inl (cI, 8, .inl hi)), (th3, .inl (cI, 8, .inl wi)), (th4, .inl (cI, 8, .inl br)), (th5, .inl (cI, 8, .inl sp)), (th6, .inl (cI, 8, .inl si)), (th7, .inl (cI, 8, .inl le)), (th8, .inl (cI, 8, .inl un)), (th9, .inl (cI, 8, .inl ul)), (pi, .inr (3, [.ref pia])), (pia, .inl (cI, 384, .inl px)), (cm, .inr (0, [.ref cm1, .ref cm2, .ref cm3])), (cm1, .inl (cI, 24, .inl lea)), (cm2, .inl (cI, 24, .inl upr)), (cm3, .inl (cI, 25, .inl ris)), (pd, .inr (2, [.ref pda, .int pl])), (pda, .inl (cC, 80, .inl tx)), (rd, .inr (4, [.ref pd, .int at_, .int kd, .ref rda])), (rda, .inl (cI, 7, .inl va)), (sla, .inl (cR, 2, .inr (.inr (.inr (.inr sfu))))), (q2, .inr (5, [.null, .null, .null, .int 0, .int 0, .int 0, .int 0]))] := hD
    refine lv_dup hx hb dX7_save_26 rfl ?_
    obtain ⟨r3, hcr3, h⟩ := bn_sp h
    have hPc := hP.sub (ws' := (ws_sceneN cI cC cZ cR q2 )) [24] rfl
    have hDc := hD.sub (ws' := (ws_sceneN cI cC cZ cR q2 )) [24] (by decide) rfl
    have hFc := va_free (wc := (ws_sceneN cI cC cZ cR q2 )) hD hS hA [24] rfl
    refine va_callv (va_runIN (As := []) (rest := [.ref q2]) ⟨hx, hb, hml, hown, hts⟩ (m_X5_init l D cI cC cZ cR q2 _   b0  r3 hcr3) ⟨va_cnB (host := "LeaningLines") 0 hts gX7_save_X5_init_n9 rfl rfl rfl hK.2.1 (hts _ kX7_save_b_5) (by decide +kernel) ⟨Nat.le_of_ble_eq_true rfl, Nat.le_of_ble_eq_true rfl⟩, rfl, hts _ kX7_save_b_6⟩ (cPcS_ps hPc hK hDc hAb hb0 hS hstt) rfl rfl hl.1 rfl (lv_room (Nat.le_of_ble_eq_true rfl)) dX7_save_27 ⟨Nat.le_of_ble_eq_true rfl, Nat.le_of_ble_eq_true rfl⟩) hS (fun q _ h => hFc q h) hFc (fun u4 t H1 locs ht hvm hw hB hz1 hk1 hS => ?_)
    obtain ⟨hP1, hD1⟩ := hB
    rw [ht] at hP1
    obtain ⟨hP, hD⟩ := va_join (wr := [(mm, .inr (7, [.ref sc, .ref cm, .ref hh, .ref sla, .ref pd, .ref rd])), (sc, .inr (5, [.ref sea, .ref th, .ref pi, .int tm, .int ps, .int ft, .int fk])), (sea, .inl (cI, 4, .inl se)), (th, .inr (6, [.int mn, .ref th1, .ref th2, .ref th3, .ref th4, .ref th5, .ref th6, .ref th7, .ref th8, .ref th9])), (th1, .inl (cI, 8, .inl ln)), (th2, .inl (cI, 8, .inl hi)), (th3, .inl (cI, 8, .inl wi)), (th4, .inl (cI, 8, .inl br)), (th5, .inl (cI, 8, .inl sp)), (th6, .inl (cI, 8, .inl si)), (th7, .inl (cI, 8, .inl le)), (th8, .inl (cI, 8, .inl un)), (th9, .inl (cI, 8, .inl ul)), (pi, .inr (3, [.ref pia])), (pia, .inl (cI, 384, .inl px)), (cm, .inr (0, [.ref cm1, .ref cm2, .ref cm3])), (cm1, .inl (cI, 24, .inl lea)), (cm2, .inl (cI, 24, .inl upr)), (cm3, .inl (cI, 25, .inl ris)), (pd, .inr (2, [.ref pda, .int pl])), (pda, .inl (cC, 80, .inl tx)), (rd, .inr (4, [.ref pd, .int at_, .int kd, .ref rda])), (rda, .inl (cI, 7, .inl va)), (sla, .inl (cR, 2, .inr (.inr (.inr (.inr sfu)))))]) (w1 := [(q2, .inr (5, [.ref (u4 0), .ref (u4 1), .ref (u4 11), .int 0, .int 0, .int r3.1, .int 0])), ((u4 0), .inl (cI, 4, .inl r3.2.1)), ((u4 1), .inr (6, [.int r3.2.2.1, .ref (u4 2), .ref (u4 3), .ref (u4 4), .ref (u4 5), .ref (u4 6), .ref (u4 7), .ref (u4 8), .ref (u4 9), .ref (u4 10)])), ((u4 2), .inl (cI, 8, .inl r3.2.2.2.1)), ((u4 3), .inl (cI, 8, .inl r3.2.2.2.2.1)), ((u4 4), .inl (cI, 8, .inl r3.2.2.2.2.2.1)), ((u4 5), .inl (cI, 8, .inl r3.2.2.2.2.2.2.1)), ((u4 6), .inl (cI, 8, .inl r3.2.2.2.2.2.2.2.1)), ((u4 7), .inl (cI, 8, .inl r3.2.2.2.2.2.2.2.2.1)), ((u4 8), .inl (cI, 8, .inl r3.2.2.2.2.2.2.2.2.2.1)), ((u4 9), .inl (cI, 8, .inl r3.2.2.2.2.2.2.2.2.2.2.1)), ((u4 10), .inl (cI, 8, .inl r3.2.2.2.2.2.2.2.2.2.2.2.1)), ((u4 11), .inr (3, [.ref (u4 12)])), ((u4 12), .inl (cI, 384, .inl r3.2.2.2.2.2.2.2.2.2.2.2.2))]) hP hD [24] [0, 1, 2, 3, 4, 5, 6, 7, 8, 9, 10, 11, 12, 13, 14, 15, 16, 17, 18, 19, 20, 21, 22, 23] rfl rfl (by decide) (by decide) hk1 hFc hP1 hD1
    generalize H1 = H at hP hS ⊢
    have hP : va_P D vwCl [(mm, .inr (7, [.ref sc, .ref cm, .ref hh, .ref sla, .ref pd, .ref rd])), (sc, .inr (5, [.ref sea, .ref th, .ref pi, .int tm, .int ps, .int ft, .int fk])), (sea, .inl (cI, 4, .inl se)), (th, .inr (6, [.int mn, .ref th1, .ref th2, .ref th3, .ref th4, .ref th5, .ref th6, .ref th7, .ref th8, .ref th9])), (th1, .inl (cI, 8, .inl ln)), (th2, .inl (cI, 8, .inl hi)), (th3, .inl (cI, 8, .inl wi)), (th4, .inl (cI, 8, .inl br)), (th5, .inl (cI, 8, .inl sp)), (th6, .inl (cI, 8, .inl si)), (th7, .inl (cI, 8, .inl le)), (th8, .inl (cI, 8, .inl un)), (th9, .inl (cI, 8, .inl ul)), (pi, .inr (3, [.ref pia])), (pia, .inl (cI, 384, .inl px)), (cm, .inr (0, [.ref cm1, .ref cm2, .ref cm3])), (cm1, .inl (cI, 24, .inl lea)), (cm2, .inl (cI, 24, .inl upr)), (cm3, .inl (cI, 25, .inl ris)), (pd, .inr (2, [.ref pda, .int pl])), (pda, .inl (cC, 80, .inl tx)), (rd, .inr (4, [.ref pd, .int at_, .int kd, .ref rda])), (rda, .inl (cI, 7, .inl va)), (sla, .inl (cR, 2, .inr (.inr (.inr (.inr sfu))))), (q2, .inr (5, [.ref (u4 0), .ref (u4 1), .ref (u4 11), .int 0, .int 0, .int r3.1, .int 0])), ((u4 0), .inl (cI, 4, .inl r3.2.1)), ((u4 1), .inr (6, [.int r3.2.2.1, .ref (u4 2), .ref (u4 3), .ref (u4 4), .ref (u4 5), .ref (u4 6), .ref (u4 7), .ref (u4 8), .ref (u4 9), .ref (u4 10)])), ((u4 2), .inl (cI, 8, .inl r3.2.2.2.1)), ((u4 3), .inl (cI, 8, .inl r3.2.2.2.2.1)), ((u4 4), .inl (cI, 8, .inl r3.2.2.2.2.2.1)), ((u4 5), .inl (cI, 8, .inl r3.2.2.2.2.2.2.1)), ((u4 6), .inl (cI, 8, .inl r3.2.2.2.2.2.2.2.1)), ((u4 7), .inl (cI, 8, .inl r3.2.2.2.2.2.2.2.2.1)), ((u4 8), .inl (cI, 8, .inl r3.2.2.2.2.2.2.2.2.2.1)), ((u4 9), .inl (cI, 8, .inl r3.2.2.2.2.2.2.2.2.2.2.1)), ((u4 10), .inl (cI, 8, .inl r3.2.2.2.2.2.2.2.2.2.2.2.1)), ((u4 11), .inr (3, [.ref (u4 12)])), ((u4 12), .inl (cI, 384, .inl r3.2.2.2.2.2.2.2.2.2.2.2.2))] H := hP
    have hD : va_D A [(mm, .inr (7, [.ref sc, .ref cm, .ref hh, .ref sla, .ref pd, .ref rd])), (sc, .inr (5, [.ref sea, .ref th, .ref pi, .int tm, .int ps, .int ft, .int fk])), (sea, .inl (cI, 4, .inl se)), (th, .inr (6, [.int mn, .ref th1, .ref th2, .ref th3, .ref th4, .ref th5, .ref th6, .ref th7, .ref th8, .ref th9])), (th1, .inl (cI, 8, .inl ln)), (th2, .inl (cI, 8, .inl hi)), (th3, .inl (cI, 8, .inl wi)), (th4, .inl (cI, 8, .inl br)), (th5, .inl (cI, 8, .inl sp)), (th6, .inl (cI, 8, .inl si)), (th7, .inl (cI, 8, .inl le)), (th8, .inl (cI, 8, .inl un)), (th9, .inl (cI, 8, .inl ul)), (pi, .inr (3, [.ref pia])), (pia, .inl (cI, 384, .inl px)), (cm, .inr (0, [.ref cm1, .ref cm2, .ref cm3])), (cm1, .inl (cI, 24, .inl lea)), (cm2, .inl (cI, 24, .inl upr)), (cm3, .inl (cI, 25, .inl ris)), (pd, .inr (2, [.ref pda, .int pl])), (pda, .inl (cC, 80, .inl tx)), (rd, .inr (4, [.ref pd, .int at_, .int kd, .ref rda])), (rda, .inl (cI, 7, .inl va)), (sla, .inl (cR, 2, .inr (.inr (.inr (.inr sfu))))), (q2, .inr (5, [.ref (u4 0), .ref (u4 1), .ref (u4 11), .int 0, .int 0, .int r3.1, .int 0])), ((u4 0), .inl (cI, 4, .inl r3.2.1)), ((u4 1), .inr (6, [.int r3.2.2.1, .ref (u4 2), .ref (u4 3), .ref (u4 4), .ref (u4 5), .ref (u4 6), .ref (u4 7), .ref (u4 8), .ref (u4 9), .ref (u4 10)])), ((u4 2), .inl (cI, 8, .inl r3.2.2.2.1)), ((u4 3), .inl (cI, 8, .inl r3.2.2.2.2.1)), ((u4 4), .inl (cI, 8, .inl r3.2.2.2.2.2.1)), ((u4 5), .inl (cI, 8, .inl r3.2.2.2.2.2.2.1)), ((u4 6), .inl (cI, 8, .inl r3.2.2.2.2.2.2.2.1)), ((u4 7), .inl (cI, 8, .inl r3.2.2.2.2.2.2.2.2.1)), ((u4 8), .inl (cI, 8, .inl r3.2.2.2.2.2.2.2.2.2.1)), ((u4 9), .inl (cI, 8, .inl r3.2.2.2.2.2.2.2.2.2.2.1)), ((u4 10), .inl (cI, 8, .inl r3.2.2.2.2.2.2.2.2.2.2.2.1)), ((u4 11), .inr (3, [.ref (u4 12)])), ((u4 12), .inl (cI, 384, .inl r3.2.2.2.2.2.2.2.2.2.2.2.2))] := hD
    refine lv_astore_n (lv' := [(2, .ref q2), (0, .ref mm), (1, .int a0)]) hx hb dX7_save_30 rfl hl (by decide) rfl (fun ls hl => ?_)
    refine lv_aload_n hx hb dX7_save_31 rfl (lv_at hl 1 rfl) ?_
    refine va_get (D := D) (ci := 7) (v := .ref sla) (C := RX7) (T := TX7) (N := 6) hx hb hts uX7_save_b_X7 hown hK.1 hP 0 rfl rfl 3 (by decide) (hts _ kX7_save_b_1) (fun _ h9 => h9) rfl dX7_save_32 ?_
    refine lv_iload_n hx hb dX7_save_35 rfl (lv_at hl 2 rfl) ?_
    refine lv_aload_n hx hb dX7_save_36 rfl (lv_at hl 0 rfl) ?_
    obtain ⟨hin, h⟩ := gd_sp h
    refine va_astq (D := D) hx hb hK.1 hP hD hS 23 3 24 5 rfl rfl rfl rfl hin dX7_save_37 (fun H locs hP hD hS => ?_)
    have hP : va_P D vwCl [(mm, .inr (7, [.ref sc, .ref cm, .ref hh, .ref sla, .ref pd, .ref rd])), (sc, .inr (5, [.ref sea, .ref th, .ref pi, .int tm, .int ps, .int ft, .int fk])), (sea, .inl (cI, 4, .inl se)), (th, .inr (6, [.int mn, .ref th1, .ref th2, .ref th3, .ref th4, .ref th5, .ref th6, .ref th7, .ref th8, .ref th9])), (th1, .inl (cI, 8, .inl ln)), (th2, .inl (cI, 8, .inl hi)), (th3, .inl (cI, 8, .inl wi)), (th4, .inl (cI, 8, .inl br)), (th5, .inl (cI, 8, .inl sp)), (th6, .inl (cI, 8, .inl si)), (th7, .inl (cI, 8, .inl le)), (th8, .inl (cI, 8, .inl un)), (th9, .inl (cI, 8, .inl ul)), (pi, .inr (3, [.ref pia])), (pia, .inl (cI, 384, .inl px)), (cm, .inr (0, [.ref cm1, .ref cm2, .ref cm3])), (cm1, .inl (cI, 24, .inl lea)), (cm2, .inl (cI, 24, .inl upr)), (cm3, .inl (cI, 25, .inl ris)), (pd, .inr (2, [.ref pda, .int pl])), (pda, .inl (cC, 80, .inl tx)), (rd, .inr (4, [.ref pd, .int at_, .int kd, .ref rda])), (rda, .inl (cI, 7, .inl va)), (sla, .inl (cR, 2, .inr (.inr (.inr (.inr (va_up sfu a0.toNatClampNeg (some q2))))))), (q2, .inr (5, [.ref (u4 0), .ref (u4 1), .ref (u4 11), .int 0, .int 0, .int r3.1, .int 0])), ((u4 0), .inl (cI, 4, .inl r3.2.1)), ((u4 1), .inr (6, [.int r3.2.2.1, .ref (u4 2), .ref (u4 3), .ref (u4 4), .ref (u4 5), .ref (u4 6), .ref (u4 7), .ref (u4 8), .ref (u4 9), .ref (u4 10)])), ((u4 2), .inl (cI, 8, .inl r3.2.2.2.1)), ((u4 3), .inl (cI, 8, .inl r3.2.2.2.2.1)), ((u4 4), .inl (cI, 8, .inl r3.2.2.2.2.2.1)), ((u4 5), .inl (cI, 8, .inl r3.2.2.2.2.2.2.1)), ((u4 6), .inl (cI, 8, .inl r3.2.2.2.2.2.2.2.1)), ((u4 7), .inl (cI, 8, .inl r3.2.2.2.2.2.2.2.2.1)), ((u4 8), .inl (cI, 8, .inl r3.2.2.2.2.2.2.2.2.2.1)), ((u4 9), .inl (cI, 8, .inl r3.2.2.2.2.2.2.2.2.2.2.1)), ((u4 10), .inl (cI, 8, .inl r3.2.2.2.2.2.2.2.2.2.2.2.1)), ((u4 11), .inr (3, [.ref (u4 12)])), ((u4 12), .inl (cI, 384, .inl r3.2.2.2.2.2.2.2.2.2.2.2.2))] H := hP
    have hD : va_D A [(mm, .inr (7, [.ref sc, .ref cm, .ref hh, .ref sla, .ref pd, .ref rd])), (sc, .inr (5, [.ref sea, .ref th, .ref pi, .int tm, .int ps, .int ft, .int fk])), (sea, .inl (cI, 4, .inl se)), (th, .inr (6, [.int mn, .ref th1, .ref th2, .ref th3, .ref th4, .ref th5, .ref th6, .ref th7, .ref th8, .ref th9])), (th1, .inl (cI, 8, .inl ln)), (th2, .inl (cI, 8, .inl hi)), (th3, .inl (cI, 8, .inl wi)), (th4, .inl (cI, 8, .inl br)), (th5, .inl (cI, 8, .inl sp)), (th6, .inl (cI, 8, .inl si)), (th7, .inl (cI, 8, .inl le)), (th8, .inl (cI, 8, .inl un)), (th9, .inl (cI, 8, .inl ul)), (pi, .inr (3, [.ref pia])), (pia, .inl (cI, 384, .inl px)), (cm, .inr (0, [.ref cm1, .ref cm2, .ref cm3])), (cm1, .inl (cI, 24, .inl lea)), (cm2, .inl (cI, 24, .inl upr)), (cm3, .inl (cI, 25, .inl ris)), (pd, .inr (2, [.ref pda, .int pl])), (pda, .inl (cC, 80, .inl tx)), (rd, .inr (4, [.ref pd, .int at_, .int kd, .ref rda])), (rda, .inl (cI, 7, .inl va)), (sla, .inl (cR, 2, .inr (.inr (.inr (.inr (va_up sfu a0.toNatClampNeg (some q2))))))), (q2, .inr (5, [.ref (u4 0), .ref (u4 1), .ref (u4 11), .int 0, .int 0, .int r3.1, .int 0])), ((u4 0), .inl (cI, 4, .inl r3.2.1)), ((u4 1), .inr (6, [.int r3.2.2.1, .ref (u4 2), .ref (u4 3), .ref (u4 4), .ref (u4 5), .ref (u4 6), .ref (u4 7), .ref (u4 8), .ref (u4 9), .ref (u4 10)])), ((u4 2), .inl (cI, 8, .inl r3.2.2.2.1)), ((u4 3), .inl (cI, 8, .inl r3.2.2.2.2.1)), ((u4 4), .inl (cI, 8, .inl r3.2.2.2.2.2.1)), ((u4 5), .inl (cI, 8, .inl r3.2.2.2.2.2.2.1)), ((u4 6), .inl (cI, 8, .inl r3.2.2.2.2.2.2.2.1)), ((u4 7), .inl (cI, 8, .inl r3.2.2.2.2.2.2.2.2.1)), ((u4 8), .inl (cI, 8, .inl r3.2.2.2.2.2.2.2.2.2.1)), ((u4 9), .inl (cI, 8, .inl r3.2.2.2.2.2.2.2.2.2.2.1)), ((u4 10), .inl (cI, 8, .inl r3.2.2.2.2.2.2.2.2.2.2.2.1)), ((u4 11), .inr (3, [.ref (u4 12)])), ((u4 12), .inl (cI, 384, .inl r3.2.2.2.2.2.2.2.2.2.2.2.2))] := hD
    refine lv_aload_n hx hb dX7_save_38 rfl (lv_at hl 0 rfl) ?_
    refine lv_aload_n hx hb dX7_save_39 rfl (lv_at hl 1 rfl) ?_
    refine va_get (D := D) (ci := 7) (v := .ref sc) (C := RX7) (T := TX7) (N := 6) hx hb hts uX7_save_b_X7 hown hK.1 hP 0 rfl rfl 0 (by decide) (hts _ kX7_save_b_7) (fun _ h9 => h9) rfl dX7_save_40 ?_
    obtain ⟨r5, hcr5, h⟩ := bn_sp h
    have hPc := hP.sub (ws' := (ws_scene_scene cI cC cZ cR q2 (u4 0) (u4 1) (u4 2) (u4 3) (u4 4) (u4 5) (u4 6) (u4 7) (u4 8) (u4 9) (u4 10) (u4 11) (u4 12) sc sea th th1 th2 th3 th4 th5 th6 th7 th8 th9 pi pia r3.2.1 r3.2.2.1 r3.2.2.2.1 r3.2.2.2.2.1 r3.2.2.2.2.2.1 r3.2.2.2.2.2.2.1 r3.2.2.2.2.2.2.2.1 r3.2.2.2.2.2.2.2.2.1 r3.2.2.2.2.2.2.2.2.2.1 r3.2.2.2.2.2.2.2.2.2.2.1 r3.2.2.2.2.2.2.2.2.2.2.2.1 r3.2.2.2.2.2.2.2.2.2.2.2.2 0 0 r3.1 0 se mn ln hi wi br sp si le un ul px tm ps ft fk)) [24, 25, 26, 27, 28, 29, 30, 31, 32, 33, 34, 35, 36, 37, 1, 2, 3, 4, 5, 6, 7, 8, 9, 10, 11, 12, 13, 14] rfl
    have hDc := hD.sub (ws' := (ws_scene_scene cI cC cZ cR q2 (u4 0) (u4 1) (u4 2) (u4 3) (u4 4) (u4 5) (u4 6) (u4 7) (u4 8) (u4 9) (u4 10) (u4 11) (u4 12) sc sea th th1 th2 th3 th4 th5 th6 th7 th8 th9 pi pia r3.2.1 r3.2.2.1 r3.2.2.2.1 r3.2.2.2.2.1 r3.2.2.2.2.2.1 r3.2.2.2.2.2.2.1 r3.2.2.2.2.2.2.2.1 r3.2.2.2.2.2.2.2.2.1 r3.2.2.2.2.2.2.2.2.2.1 r3.2.2.2.2.2.2.2.2.2.2.1 r3.2.2.2.2.2.2.2.2.2.2.2.1 r3.2.2.2.2.2.2.2.2.2.2.2.2 0 0 r3.1 0 se mn ln hi wi br sp si le un ul px tm ps ft fk)) [24, 25, 26, 27, 28, 29, 30, 31, 32, 33, 34, 35, 36, 37, 1, 2, 3, 4, 5, 6, 7, 8, 9, 10, 11, 12, 13, 14] (by decide) rfl
    have hFc := va_free (wc := (ws_scene_scene cI cC cZ cR q2 (u4 0) (u4 1) (u4 2) (u4 3) (u4 4) (u4 5) (u4 6) (u4 7) (u4 8) (u4 9) (u4 10) (u4 11) (u4 12) sc sea th th1 th2 th3 th4 th5 th6 th7 th8 th9 pi pia r3.2.1 r3.2.2.1 r3.2.2.2.1 r3.2.2.2.2.1 r3.2.2.2.2.2.1 r3.2.2.2.2.2.2.1 r3.2.2.2.2.2.2.2.1 r3.2.2.2.2.2.2.2.2.1 r3.2.2.2.2.2.2.2.2.2.1 r3.2.2.2.2.2.2.2.2.2.2.1 r3.2.2.2.2.2.2.2.2.2.2.2.1 r3.2.2.2.2.2.2.2.2.2.2.2.2 0 0 r3.1 0 se mn ln hi wi br sp si le un ul px tm ps ft fk)) hD hS hA [24, 25, 26, 27, 28, 29, 30, 31, 32, 33, 34, 35, 36, 37, 1, 2, 3, 4, 5, 6, 7, 8, 9, 10, 11, 12, 13, 14] rfl
    refine va_callv (va_runV (As := [.ref sc]) (rest := []) ⟨hx, hb, hml, hown, hts⟩ (m_X5_copyFrom l D cI cC cZ cR q2 (u4 0) (u4 1) (u4 2) (u4 3) (u4 4) (u4 5) (u4 6) (u4 7) (u4 8) (u4 9) (u4 10) (u4 11) (u4 12) sc sea th th1 th2 th3 th4 th5 th6 th7 th8 th9 pi pia _ r3.2.1 r3.2.2.1 r3.2.2.2.1 r3.2.2.2.2.1 r3.2.2.2.2.2.1 r3.2.2.2.2.2.2.1 r3.2.2.2.2.2.2.2.1 r3.2.2.2.2.2.2.2.2.1 r3.2.2.2.2.2.2.2.2.2.1 r3.2.2.2.2.2.2.2.2.2.2.1 r3.2.2.2.2.2.2.2.2.2.2.2.1 r3.2.2.2.2.2.2.2.2.2.2.2.2 0 0 r3.1 0 se mn ln hi wi br sp si le un ul px tm ps ft fk    r5 hcr5) (cwV 1 hts gX7_save_X5_copyFrom rfl rfl rfl (by decide +kernel) ⟨Nat.le_of_ble_eq_true rfl, Nat.le_of_ble_eq_true rfl⟩) (cPc_pv hPc hK hDc (ci := 5) (q0 := 0) rfl rfl) rfl rfl hl.1 rfl (lv_room (Nat.le_of_ble_eq_true rfl)) dX7_save_43 ⟨Nat.le_of_ble_eq_true rfl, Nat.le_of_ble_eq_true rfl⟩) hS (fun q _ h => hFc q h) hFc (fun u t H1 locs ht hvm hw hB hz1 hk1 hS => ?_)
    obtain ⟨hP1, hD1⟩ := hB
    rw [ht] at hP1
    obtain ⟨hP, hD⟩ := va_join (wr := [(mm, .inr (7, [.ref sc, .ref cm, .ref hh, .ref sla, .ref pd, .ref rd])), (cm, .inr (0, [.ref cm1, .ref cm2, .ref cm3])), (cm1, .inl (cI, 24, .inl lea)), (cm2, .inl (cI, 24, .inl upr)), (cm3, .inl (cI, 25, .inl ris)), (pd, .inr (2, [.ref pda, .int pl])), (pda, .inl (cC, 80, .inl tx)), (rd, .inr (4, [.ref pd, .int at_, .int kd, .ref rda])), (rda, .inl (cI, 7, .inl va)), (sla, .inl (cR, 2, .inr (.inr (.inr (.inr (va_up sfu a0.toNatClampNeg (some q2)))))))]) (w1 := (ws_scene_scene cI cC cZ cR q2 (u4 0) (u4 1) (u4 2) (u4 3) (u4 4) (u4 5) (u4 6) (u4 7) (u4 8) (u4 9) (u4 10) (u4 11) (u4 12) sc sea th th1 th2 th3 th4 th5 th6 th7 th8 th9 pi pia r5.2.2.2.2.1 r5.2.2.2.2.2.1 r5.2.2.2.2.2.2.1 r5.2.2.2.2.2.2.2.1 r5.2.2.2.2.2.2.2.2.1 r5.2.2.2.2.2.2.2.2.2.1 r5.2.2.2.2.2.2.2.2.2.2.1 r5.2.2.2.2.2.2.2.2.2.2.2.1 r5.2.2.2.2.2.2.2.2.2.2.2.2.1 r5.2.2.2.2.2.2.2.2.2.2.2.2.2.1 r5.2.2.2.2.2.2.2.2.2.2.2.2.2.2.1 r5.2.2.2.2.2.2.2.2.2.2.2.2.2.2.2 r5.1 r5.2.1 r5.2.2.1 r5.2.2.2.1 se mn ln hi wi br sp si le un ul px tm ps ft fk)) hP hD [24, 25, 26, 27, 28, 29, 30, 31, 32, 33, 34, 35, 36, 37, 1, 2, 3, 4, 5, 6, 7, 8, 9, 10, 11, 12, 13, 14] [0, 15, 16, 17, 18, 19, 20, 21, 22, 23] rfl rfl (by decide) (by decide) hk1 hFc hP1 hD1
    have hP := hP.sub (ws' := [(mm, .inr (7, [.ref sc, .ref cm, .ref hh, .ref sla, .ref pd, .ref rd])), (sc, .inr (5, [.ref sea, .ref th, .ref pi, .int tm, .int ps, .int ft, .int fk])), (sea, .inl (cI, 4, .inl se)), (th, .inr (6, [.int mn, .ref th1, .ref th2, .ref th3, .ref th4, .ref th5, .ref th6, .ref th7, .ref th8, .ref th9])), (th1, .inl (cI, 8, .inl ln)), (th2, .inl (cI, 8, .inl hi)), (th3, .inl (cI, 8, .inl wi)), (th4, .inl (cI, 8, .inl br)), (th5, .inl (cI, 8, .inl sp)), (th6, .inl (cI, 8, .inl si)), (th7, .inl (cI, 8, .inl le)), (th8, .inl (cI, 8, .inl un)), (th9, .inl (cI, 8, .inl ul)), (pi, .inr (3, [.ref pia])), (pia, .inl (cI, 384, .inl px)), (cm, .inr (0, [.ref cm1, .ref cm2, .ref cm3])), (cm1, .inl (cI, 24, .inl lea)), (cm2, .inl (cI, 24, .inl upr)), (cm3, .inl (cI, 25, .inl ris)), (pd, .inr (2, [.ref pda, .int pl])), (pda, .inl (cC, 80, .inl tx)), (rd, .inr (4, [.ref pd, .int at_, .int kd, .ref rda])), (rda, .inl (cI, 7, .inl va)), (sla, .inl (cR, 2, .inr (.inr (.inr (.inr (va_up sfu a0.toNatClampNeg (some q2))))))), (q2, .inr (5, [.ref (u4 0), .ref (u4 1), .ref (u4 11), .int r5.1, .int r5.2.1, .int r5.2.2.1, .int r5.2.2.2.1])), ((u4 0), .inl (cI, 4, .inl r5.2.2.2.2.1)), ((u4 1), .inr (6, [.int r5.2.2.2.2.2.1, .ref (u4 2), .ref (u4 3), .ref (u4 4), .ref (u4 5), .ref (u4 6), .ref (u4 7), .ref (u4 8), .ref (u4 9), .ref (u4 10)])), ((u4 2), .inl (cI, 8, .inl r5.2.2.2.2.2.2.1)), ((u4 3), .inl (cI, 8, .inl r5.2.2.2.2.2.2.2.1)), ((u4 4), .inl (cI, 8, .inl r5.2.2.2.2.2.2.2.2.1)), ((u4 5), .inl (cI, 8, .inl r5.2.2.2.2.2.2.2.2.2.1)), ((u4 6), .inl (cI, 8, .inl r5.2.2.2.2.2.2.2.2.2.2.1)), ((u4 7), .inl (cI, 8, .inl r5.2.2.2.2.2.2.2.2.2.2.2.1)), ((u4 8), .inl (cI, 8, .inl r5.2.2.2.2.2.2.2.2.2.2.2.2.1)), ((u4 9), .inl (cI, 8, .inl r5.2.2.2.2.2.2.2.2.2.2.2.2.2.1)), ((u4 10), .inl (cI, 8, .inl r5.2.2.2.2.2.2.2.2.2.2.2.2.2.2.1)), ((u4 11), .inr (3, [.ref (u4 12)])), ((u4 12), .inl (cI, 384, .inl r5.2.2.2.2.2.2.2.2.2.2.2.2.2.2.2))]) [0, 24, 25, 26, 27, 28, 29, 30, 31, 32, 33, 34, 35, 36, 37, 1, 2, 3, 4, 5, 6, 7, 8, 9, 10, 11, 12, 13, 14, 15, 16, 17, 18, 19, 20, 21, 22, 23] rfl
    have hD := hD.sub (ws' := [(mm, .inr (7, [.ref sc, .ref cm, .ref hh, .ref sla, .ref pd, .ref rd])), (sc, .inr (5, [.ref sea, .ref th, .ref pi, .int tm, .int ps, .int ft, .int fk])), (sea, .inl (cI, 4, .inl se)), (th, .inr (6, [.int mn, .ref th1, .ref th2, .ref th3, .ref th4, .ref th5, .ref th6, .ref th7, .ref th8, .ref th9])), (th1, .inl (cI, 8, .inl ln)), (th2, .inl (cI, 8, .inl hi)), (th3, .inl (cI, 8, .inl wi)), (th4, .inl (cI, 8, .inl br)), (th5, .inl (cI, 8, .inl sp)), (th6, .inl (cI, 8, .inl si)), (th7, .inl (cI, 8, .inl le)), (th8, .inl (cI, 8, .inl un)), (th9, .inl (cI, 8, .inl ul)), (pi, .inr (3, [.ref pia])), (pia, .inl (cI, 384, .inl px)), (cm, .inr (0, [.ref cm1, .ref cm2, .ref cm3])), (cm1, .inl (cI, 24, .inl lea)), (cm2, .inl (cI, 24, .inl upr)), (cm3, .inl (cI, 25, .inl ris)), (pd, .inr (2, [.ref pda, .int pl])), (pda, .inl (cC, 80, .inl tx)), (rd, .inr (4, [.ref pd, .int at_, .int kd, .ref rda])), (rda, .inl (cI, 7, .inl va)), (sla, .inl (cR, 2, .inr (.inr (.inr (.inr (va_up sfu a0.toNatClampNeg (some q2))))))), (q2, .inr (5, [.ref (u4 0), .ref (u4 1), .ref (u4 11), .int r5.1, .int r5.2.1, .int r5.2.2.1, .int r5.2.2.2.1])), ((u4 0), .inl (cI, 4, .inl r5.2.2.2.2.1)), ((u4 1), .inr (6, [.int r5.2.2.2.2.2.1, .ref (u4 2), .ref (u4 3), .ref (u4 4), .ref (u4 5), .ref (u4 6), .ref (u4 7), .ref (u4 8), .ref (u4 9), .ref (u4 10)])), ((u4 2), .inl (cI, 8, .inl r5.2.2.2.2.2.2.1)), ((u4 3), .inl (cI, 8, .inl r5.2.2.2.2.2.2.2.1)), ((u4 4), .inl (cI, 8, .inl r5.2.2.2.2.2.2.2.2.1)), ((u4 5), .inl (cI, 8, .inl r5.2.2.2.2.2.2.2.2.2.1)), ((u4 6), .inl (cI, 8, .inl r5.2.2.2.2.2.2.2.2.2.2.1)), ((u4 7), .inl (cI, 8, .inl r5.2.2.2.2.2.2.2.2.2.2.2.1)), ((u4 8), .inl (cI, 8, .inl r5.2.2.2.2.2.2.2.2.2.2.2.2.1)), ((u4 9), .inl (cI, 8, .inl r5.2.2.2.2.2.2.2.2.2.2.2.2.2.1)), ((u4 10), .inl (cI, 8, .inl r5.2.2.2.2.2.2.2.2.2.2.2.2.2.2.1)), ((u4 11), .inr (3, [.ref (u4 12)])), ((u4 12), .inl (cI, 384, .inl r5.2.2.2.2.2.2.2.2.2.2.2.2.2.2.2))]) [0, 24, 25, 26, 27, 28, 29, 30, 31, 32, 33, 34, 35, 36, 37, 1, 2, 3, 4, 5, 6, 7, 8, 9, 10, 11, 12, 13, 14, 15, 16, 17, 18, 19, 20, 21, 22, 23] (by decide) rfl
    generalize H1 = H at hP hS ⊢
    refine lv_aload_n hx hb dX7_save_46 rfl (lv_at hl 1 rfl) ?_
    refine va_get (D := D) (ci := 7) (v := .ref sc) (C := RX7) (T := TX7) (N := 6) hx hb hts uX7_save_b_X7 hown hK.1 hP 0 rfl rfl 0 (by decide) (hts _ kX7_save_b_7) (fun _ h9 => h9) rfl dX7_save_47 ?_
    refine va_get (D := D) (ci := 5) (v := .ref th) (C := RX5) (T := TX5) (N := 7) hx hb hts uX7_save_b_X5 hown hK.1 hP 1 rfl rfl 1 (by decide) (hts _ kX7_save_b_8) (fun _ h9 => h9) rfl dX7_save_50 ?_
    refine va_get (D := D) (ci := 6) (v := .int mn) (C := RX6) (T := TX6) (N := 10) hx hb hts uX7_save_b_X6 hown hK.1 hP 3 rfl rfl 0 (by decide) (hts _ kX7_save_b_10) (fun _ h9 => h9) rfl dX7_save_53 ?_
    have e9 := Option.some.inj h
    subst e9
    rw [hQ]
    exact W.iret (v := mn) hx hb hr (fun t ht hW => ⟨⟨mn, (fun k => ([q2, (u4 0), (u4 1), (u4 2), (u4 3), (u4 4), (u4 5), (u4 6), (u4 7), (u4 8), (u4 9), (u4 10), (u4 11), (u4 12)] : List Nat).getD k 0), rfl, rfl, by rw [ht]; exact hP, hD⟩, hS.F ht⟩) hS.2.2 dX7_save_56
  · replace h := br_n (not_not_intro c6) h
    exact no_sm h
-- LeaningLines.undo
abbrev OUT_X7_undo_a : Type := Int32 × Int32 × Int32 × Int32 × Int32 × (Nat → Int32) × Int32 × (Nat → Int32) × (Nat → Int32) × (Nat → Int32) × (Nat → Int32) × (Nat → Int32) × (Nat → Int32) × (Nat → Int32) × (Nat → Int32) × (Nat → Int32) × (Nat → Int32) × Int32 × Int32
def f_X7_undo_a (se : Nat → Int32) (ln : Nat → Int32) (hi : Nat → Int32) (wi : Nat → Int32) (br : Nat → Int32) (sp : Nat → Int32) (si : Nat → Int32) (le : Nat → Int32) (un : Nat → Int32) (ul : Nat → Int32) (px : Nat → Int32) (nx : Int32) (hm : Int32) (bse : Nat → Int32) (bmn : Int32) (bln : Nat → Int32) (bhi : Nat → Int32) (bwi : Nat → Int32) (bbr : Nat → Int32) (bsp : Nat → Int32) (bsi : Nat → Int32) (ble : Nat → Int32) (bun : Nat → Int32) (bul : Nat → Int32) (bpx : Nat → Int32) (btm : Int32) (bps : Int32) (bft : Int32) (bfk : Int32) : Option OUT_X7_undo_a :=
  bn (f_X1_takeBack_a nx hm se ln hi wi br sp si le un ul px bse bmn bln bhi bwi bbr bsp bsi ble bun bul bpx btm bps bft bfk) (fun r1 => (if ¬ r1.1 = 0 then some ((r1.2.2.1, r1.2.2.2.1, r1.2.2.2.2.1, r1.2.2.2.2.2.1, r1.2.2.2.2.2.2.1, r1.2.2.2.2.2.2.2.1, r1.2.2.2.2.2.2.2.2.1, r1.2.2.2.2.2.2.2.2.2.1, r1.2.2.2.2.2.2.2.2.2.2.1, r1.2.2.2.2.2.2.2.2.2.2.2.1, r1.2.2.2.2.2.2.2.2.2.2.2.2.1, r1.2.2.2.2.2.2.2.2.2.2.2.2.2.1, r1.2.2.2.2.2.2.2.2.2.2.2.2.2.2.1, r1.2.2.2.2.2.2.2.2.2.2.2.2.2.2.2.1, r1.2.2.2.2.2.2.2.2.2.2.2.2.2.2.2.2.1, r1.2.2.2.2.2.2.2.2.2.2.2.2.2.2.2.2.2.1, r1.2.2.2.2.2.2.2.2.2.2.2.2.2.2.2.2.2.2, r1.2.1, r1.2.2.1)) else some (((-5), r1.2.2.2.1, r1.2.2.2.2.1, r1.2.2.2.2.2.1, r1.2.2.2.2.2.2.1, r1.2.2.2.2.2.2.2.1, r1.2.2.2.2.2.2.2.2.1, r1.2.2.2.2.2.2.2.2.2.1, r1.2.2.2.2.2.2.2.2.2.2.1, r1.2.2.2.2.2.2.2.2.2.2.2.1, r1.2.2.2.2.2.2.2.2.2.2.2.2.1, r1.2.2.2.2.2.2.2.2.2.2.2.2.2.1, r1.2.2.2.2.2.2.2.2.2.2.2.2.2.2.1, r1.2.2.2.2.2.2.2.2.2.2.2.2.2.2.2.1, r1.2.2.2.2.2.2.2.2.2.2.2.2.2.2.2.2.1, r1.2.2.2.2.2.2.2.2.2.2.2.2.2.2.2.2.2.1, r1.2.2.2.2.2.2.2.2.2.2.2.2.2.2.2.2.2.2, r1.2.1, r1.2.2.1))))
theorem uX7_undo_a_X7 : ∀ w ∈ wsX70, w ∈ wsX7_undo := by decide +kernel
theorem kX7_undo_a_1 : Cond.fieldLink RX7 26 "LeaningLines" "history" "LLeaningLines$History;" ∈ wsX7_undo := by decide +kernel
theorem kX7_undo_a_2 : Cond.fieldLink RX7 10 "LeaningLines" "scene" "LLeaningLines$Scene;" ∈ wsX7_undo := by decide +kernel
theorem uX7_undo_a_X1 : ∀ w ∈ wsX10, w ∈ wsX7_undo := by decide +kernel
theorem kX7_undo_a_4 : Cond.fieldLink RX7 197 "LeaningLines$History" "many" "I" ∈ wsX7_undo := by decide +kernel
abbrev R_X7_undo_a : Room := { frames := 4, cells := 0, slots := 0, locals := 120 }
set_option maxHeartbeats 4000000 in
set_option maxRecDepth 100000 in
theorem m_X7_undo_a (l : Launch) (D : va_G) (cI cC cZ cR : ClassId) (mm sc sea th th1 th2 th3 th4 th5 th6 th7 th8 th9 pi pia cm cm1 cm2 cm3 pd pda rd rda hh hst sla bsc bsea bth bth1 bth2 bth3 bth4 bth5 bth6 bth7 bth8 bth9 bpi bpia : Nat) (sz : Nat) (se : Nat → Int32) (mn : Int32) (ln : Nat → Int32) (hi : Nat → Int32) (wi : Nat → Int32) (br : Nat → Int32) (sp : Nat → Int32) (si : Nat → Int32) (le : Nat → Int32) (un : Nat → Int32) (ul : Nat → Int32) (px : Nat → Int32) (tm : Int32) (ps : Int32) (ft : Int32) (fk : Int32) (lea : Nat → Int32) (upr : Nat → Int32) (ris : Nat → Int32) (pl : Int32) (tx : Nat → Int32) (at_ : Int32) (kd : Int32) (va : Nat → Int32) (nx : Int32) (hm : Int32) (bse : Nat → Int32) (bmn : Int32) (bln : Nat → Int32) (bhi : Nat → Int32) (bwi : Nat → Int32) (bbr : Nat → Int32) (bsp : Nat → Int32) (bsi : Nat → Int32) (ble : Nat → Int32) (bun : Nat → Int32) (bul : Nat → Int32) (bpx : Nat → Int32) (btm : Int32) (bps : Int32) (bft : Int32) (bfk : Int32) (hfu : Nat → Option Nat)   (hq : ∀ i : Int32, (nx = 0 → i = 5) → (¬ nx = 0 → i = nx - 1) → hfu i.toNatClampNeg = some bsc) (r : OUT_X7_undo_a) (hf : f_X7_undo_a se ln hi wi br sp si le un ul px nx hm bse bmn bln bhi bwi bbr bsp bsi ble bun bul bpx btm bps bft bfk = some r) : Met l yX7_undo wsX7_undo R_X7_undo_a (cPc D cI cC cZ cR [.ref mm] sz (ws_mainH_scene cI cC cZ cR mm sc sea th th1 th2 th3 th4 th5 th6 th7 th8 th9 pi pia cm cm1 cm2 cm3 pd pda rd rda hh hst sla bsc bsea bth bth1 bth2 bth3 bth4 bth5 bth6 bth7 bth8 bth9 bpi bpia se mn ln hi wi br sp si le un ul px tm ps ft fk lea upr ris pl tx at_ kd va nx hm bse bmn bln bhi bwi bbr bsp bsi ble bun bul bpx btm bps bft bfk hfu)) (cQi D (ws_mainH_scene cI cC cZ cR mm sc sea th th1 th2 th3 th4 th5 th6 th7 th8 th9 pi pia cm cm1 cm2 cm3 pd pda rd rda hh hst sla bsc bsea bth bth1 bth2 bth3 bth4 bth5 bth6 bth7 bth8 bth9 bpi bpia r.2.2.2.2.2.1 r.2.2.2.2.2.2.1 r.2.2.2.2.2.2.2.1 r.2.2.2.2.2.2.2.2.1 r.2.2.2.2.2.2.2.2.2.1 r.2.2.2.2.2.2.2.2.2.2.1 r.2.2.2.2.2.2.2.2.2.2.2.1 r.2.2.2.2.2.2.2.2.2.2.2.2.1 r.2.2.2.2.2.2.2.2.2.2.2.2.2.1 r.2.2.2.2.2.2.2.2.2.2.2.2.2.2.1 r.2.2.2.2.2.2.2.2.2.2.2.2.2.2.2.1 r.2.2.2.2.2.2.2.2.2.2.2.2.2.2.2.2.1 r.2.1 r.2.2.1 r.2.2.2.1 r.2.2.2.2.1 lea upr ris pl tx at_ kd va r.2.2.2.2.2.2.2.2.2.2.2.2.2.2.2.2.2.1 r.2.2.2.2.2.2.2.2.2.2.2.2.2.2.2.2.2.2 bse bmn bln bhi bwi bbr bsp bsi ble bun bul bpx btm bps bft bfk hfu) (va_A (ws_mainH_scene cI cC cZ cR mm sc sea th th1 th2 th3 th4 th5 th6 th7 th8 th9 pi pia cm cm1 cm2 cm3 pd pda rd rda hh hst sla bsc bsea bth bth1 bth2 bth3 bth4 bth5 bth6 bth7 bth8 bth9 bpi bpia se mn ln hi wi br sp si le un ul px tm ps ft fk lea upr ris pl tx at_ kd va nx hm bse bmn bln bhi bwi bbr bsp bsi ble bun bul bpx btm bps bft bfk hfu) sz) r.1) 0 0 (va_A (ws_mainH_scene cI cC cZ cR mm sc sea th th1 th2 th3 th4 th5 th6 th7 th8 th9 pi pia cm cm1 cm2 cm3 pd pda rd rda hh hst sla bsc bsea bth bth1 bth2 bth3 bth4 bth5 bth6 bth7 bth8 bth9 bpi bpia se mn ln hi wi br sp si le un ul px tm ps ft fk lea upr ris pl tx at_ kd va nx hm bse bmn bln bhi bwi bbr bsp bsi ble bun bul bpx btm bps bft bfk hfu) sz) := by
  refine Met.ofW (cc := cX7_undo) (maxL := 1) (ret := (some .int)) (by decide) rfl ?_
  intro p e s m args below meth c s₁ B hml hv
  obtain ⟨rfl, hsz, hP, hK, hD0⟩ := hv
  have hx := B.exec
  have hb := B.bytes
  have hr := B.returns
  have hts := atoms_spec (ws := wsX7_undo) B.pre
  have hown : s.vm.findClass RX7 = some m.cls := findClass_of_methodNamed B.named
  have hlocks := B.notSynchronized
  subst hsz
  have hD := hD0.self (sz := s.heap.size)
  generalize hAe : va_A (ws_mainH_scene cI cC cZ cR mm sc sea th th1 th2 th3 th4 th5 th6 th7 th8 th9 pi pia cm cm1 cm2 cm3 pd pda rd rda hh hst sla bsc bsea bth bth1 bth2 bth3 bth4 bth5 bth6 bth7 bth8 bth9 bpi bpia se mn ln hi wi br sp si le un ul px tm ps ft fk lea upr ris pl tx at_ kd va nx hm bse bmn bln bhi bwi bbr bsp bsi ble bun bul bpx btm bps bft bfk hfu) s.heap.size = A at hD ⊢
  skip
  have hA : ∀ q : Nat, s.heap.size ≤ q → A q := fun q h => by rw [← hAe]; exact Or.inr h
  have hS : va_S A s.heap s.heap [] := va_S.rf
  have hl := lv_entry ([.ref mm]) (n := 1) (Nat.le_of_ble_eq_true rfl)
  rw [lg_entry_eq]
  generalize (lg_sl ([.ref mm]) ++ List.replicate (1 - (lg_sl ([.ref mm])).length) Slot.unset).toArray = ls at hl ⊢
  have hl : lv_has ls 1 [(0, .ref mm)] := hl
  refine W_absQ (fun Q hQ => ?_)
  refine W.eq (g2 := F0 m 0 ls []) rfl ?_
  have h := hf
  unfold f_X7_undo_a at h
  refine lv_aload_n hx hb dX7_undo_0 rfl (lv_at hl 0 rfl) ?_
  refine va_get (D := D) (ci := 7) (v := .ref hh) (C := RX7) (T := TX7) (N := 6) hx hb hts uX7_undo_a_X7 hown hK.1 hP 0 rfl rfl 2 (by decide) (hts _ kX7_undo_a_1) (fun _ h9 => h9) rfl dX7_undo_1 ?_
  refine lv_aload_n hx hb dX7_undo_4 rfl (lv_at hl 0 rfl) ?_
  refine va_get (D := D) (ci := 7) (v := .ref sc) (C := RX7) (T := TX7) (N := 6) hx hb hts uX7_undo_a_X7 hown hK.1 hP 0 rfl rfl 0 (by decide) (hts _ kX7_undo_a_2) (fun _ h9 => h9) rfl dX7_undo_5 ?_
  obtain ⟨r1, hcr1, h⟩ := bn_sp h
  have hPc := hP.sub (ws' := (ws_hist_scene_scene cI cC cZ cR hh hst sc sea th th1 th2 th3 th4 th5 th6 th7 th8 th9 pi pia bsc bsea bth bth1 bth2 bth3 bth4 bth5 bth6 bth7 bth8 bth9 bpi bpia nx hm se mn ln hi wi br sp si le un ul px tm ps ft fk bse bmn bln bhi bwi bbr bsp bsi ble bun bul bpx btm bps bft bfk hfu)) [23, 24, 1, 2, 3, 4, 5, 6, 7, 8, 9, 10, 11, 12, 13, 14, 25, 26, 27, 28, 29, 30, 31, 32, 33, 34, 35, 36, 37, 38] rfl
  have hDc := hD.sub (ws' := (ws_hist_scene_scene cI cC cZ cR hh hst sc sea th th1 th2 th3 th4 th5 th6 th7 th8 th9 pi pia bsc bsea bth bth1 bth2 bth3 bth4 bth5 bth6 bth7 bth8 bth9 bpi bpia nx hm se mn ln hi wi br sp si le un ul px tm ps ft fk bse bmn bln bhi bwi bbr bsp bsi ble bun bul bpx btm bps bft bfk hfu)) [23, 24, 1, 2, 3, 4, 5, 6, 7, 8, 9, 10, 11, 12, 13, 14, 25, 26, 27, 28, 29, 30, 31, 32, 33, 34, 35, 36, 37, 38] (by decide) rfl
  have hFc := va_free (wc := (ws_hist_scene_scene cI cC cZ cR hh hst sc sea th th1 th2 th3 th4 th5 th6 th7 th8 th9 pi pia bsc bsea bth bth1 bth2 bth3 bth4 bth5 bth6 bth7 bth8 bth9 bpi bpia nx hm se mn ln hi wi br sp si le un ul px tm ps ft fk bse bmn bln bhi bwi bbr bsp bsi ble bun bul bpx btm bps bft bfk hfu)) hD hS hA [23, 24, 1, 2, 3, 4, 5, 6, 7, 8, 9, 10, 11, 12, 13, 14, 25, 26, 27, 28, 29, 30, 31, 32, 33, 34, 35, 36, 37, 38] rfl
  refine va_calli (va_runV (As := [.ref sc]) (rest := []) ⟨hx, hb, hml, hown, hts⟩ (m_X1_takeBack_a l D cI cC cZ cR hh hst sc sea th th1 th2 th3 th4 th5 th6 th7 th8 th9 pi pia bsc bsea bth bth1 bth2 bth3 bth4 bth5 bth6 bth7 bth8 bth9 bpi bpia _ nx hm se mn ln hi wi br sp si le un ul px tm ps ft fk bse bmn bln bhi bwi bbr bsp bsi ble bun bul bpx btm bps bft bfk hfu   hq r1 hcr1) (cwV 1 hts gX7_undo_X1_takeBack rfl rfl rfl (by decide +kernel) ⟨Nat.le_of_ble_eq_true rfl, Nat.le_of_ble_eq_true rfl⟩) (cPc_pv hPc hK hDc (ci := 1) (q0 := 0) rfl rfl) rfl rfl hl.1 rfl (lv_room (Nat.le_of_ble_eq_true rfl)) dX7_undo_8 ⟨Nat.le_of_ble_eq_true rfl, Nat.le_of_ble_eq_true rfl⟩) hS (fun q _ h => hFc q h) hFc (fun xq u t H1 locs ht hvm hw hB hz1 hk1 hS => ?_)
  rw [hw]
  obtain ⟨hP1, hD1⟩ := hB
  rw [ht] at hP1
  obtain ⟨hP, hD⟩ := va_join (wr := [(mm, .inr (7, [.ref sc, .ref cm, .ref hh, .ref sla, .ref pd, .ref rd])), (cm, .inr (0, [.ref cm1, .ref cm2, .ref cm3])), (cm1, .inl (cI, 24, .inl lea)), (cm2, .inl (cI, 24, .inl upr)), (cm3, .inl (cI, 25, .inl ris)), (pd, .inr (2, [.ref pda, .int pl])), (pda, .inl (cC, 80, .inl tx)), (rd, .inr (4, [.ref pd, .int at_, .int kd, .ref rda])), (rda, .inl (cI, 7, .inl va))]) (w1 := (ws_hist_scene_scene cI cC cZ cR hh hst sc sea th th1 th2 th3 th4 th5 th6 th7 th8 th9 pi pia bsc bsea bth bth1 bth2 bth3 bth4 bth5 bth6 bth7 bth8 bth9 bpi bpia r1.2.1 r1.2.2.1 r1.2.2.2.2.2.2.2.1 r1.2.2.2.2.2.2.2.2.1 r1.2.2.2.2.2.2.2.2.2.1 r1.2.2.2.2.2.2.2.2.2.2.1 r1.2.2.2.2.2.2.2.2.2.2.2.1 r1.2.2.2.2.2.2.2.2.2.2.2.2.1 r1.2.2.2.2.2.2.2.2.2.2.2.2.2.1 r1.2.2.2.2.2.2.2.2.2.2.2.2.2.2.1 r1.2.2.2.2.2.2.2.2.2.2.2.2.2.2.2.1 r1.2.2.2.2.2.2.2.2.2.2.2.2.2.2.2.2.1 r1.2.2.2.2.2.2.2.2.2.2.2.2.2.2.2.2.2.1 r1.2.2.2.2.2.2.2.2.2.2.2.2.2.2.2.2.2.2 r1.2.2.2.1 r1.2.2.2.2.1 r1.2.2.2.2.2.1 r1.2.2.2.2.2.2.1 bse bmn bln bhi bwi bbr bsp bsi ble bun bul bpx btm bps bft bfk hfu)) hP hD [23, 24, 1, 2, 3, 4, 5, 6, 7, 8, 9, 10, 11, 12, 13, 14, 25, 26, 27, 28, 29, 30, 31, 32, 33, 34, 35, 36, 37, 38] [0, 15, 16, 17, 18, 19, 20, 21, 22] rfl rfl (by decide) (by decide) hk1 hFc hP1 hD1
  have hP := hP.sub (ws' := (ws_mainH_scene cI cC cZ cR mm sc sea th th1 th2 th3 th4 th5 th6 th7 th8 th9 pi pia cm cm1 cm2 cm3 pd pda rd rda hh hst sla bsc bsea bth bth1 bth2 bth3 bth4 bth5 bth6 bth7 bth8 bth9 bpi bpia r1.2.2.2.2.2.2.2.1 r1.2.2.2.2.2.2.2.2.1 r1.2.2.2.2.2.2.2.2.2.1 r1.2.2.2.2.2.2.2.2.2.2.1 r1.2.2.2.2.2.2.2.2.2.2.2.1 r1.2.2.2.2.2.2.2.2.2.2.2.2.1 r1.2.2.2.2.2.2.2.2.2.2.2.2.2.1 r1.2.2.2.2.2.2.2.2.2.2.2.2.2.2.1 r1.2.2.2.2.2.2.2.2.2.2.2.2.2.2.2.1 r1.2.2.2.2.2.2.2.2.2.2.2.2.2.2.2.2.1 r1.2.2.2.2.2.2.2.2.2.2.2.2.2.2.2.2.2.1 r1.2.2.2.2.2.2.2.2.2.2.2.2.2.2.2.2.2.2 r1.2.2.2.1 r1.2.2.2.2.1 r1.2.2.2.2.2.1 r1.2.2.2.2.2.2.1 lea upr ris pl tx at_ kd va r1.2.1 r1.2.2.1 bse bmn bln bhi bwi bbr bsp bsi ble bun bul bpx btm bps bft bfk hfu)) [0, 11, 12, 13, 14, 15, 16, 17, 18, 19, 20, 21, 22, 23, 24, 1, 2, 3, 4, 5, 6, 7, 8, 9, 10, 25, 26, 27, 28, 29, 30, 31, 32, 33, 34, 35, 36, 37, 38] rfl
  have hD := hD.sub (ws' := (ws_mainH_scene cI cC cZ cR mm sc sea th th1 th2 th3 th4 th5 th6 th7 th8 th9 pi pia cm cm1 cm2 cm3 pd pda rd rda hh hst sla bsc bsea bth bth1 bth2 bth3 bth4 bth5 bth6 bth7 bth8 bth9 bpi bpia r1.2.2.2.2.2.2.2.1 r1.2.2.2.2.2.2.2.2.1 r1.2.2.2.2.2.2.2.2.2.1 r1.2.2.2.2.2.2.2.2.2.2.1 r1.2.2.2.2.2.2.2.2.2.2.2.1 r1.2.2.2.2.2.2.2.2.2.2.2.2.1 r1.2.2.2.2.2.2.2.2.2.2.2.2.2.1 r1.2.2.2.2.2.2.2.2.2.2.2.2.2.2.1 r1.2.2.2.2.2.2.2.2.2.2.2.2.2.2.2.1 r1.2.2.2.2.2.2.2.2.2.2.2.2.2.2.2.2.1 r1.2.2.2.2.2.2.2.2.2.2.2.2.2.2.2.2.2.1 r1.2.2.2.2.2.2.2.2.2.2.2.2.2.2.2.2.2.2 r1.2.2.2.1 r1.2.2.2.2.1 r1.2.2.2.2.2.1 r1.2.2.2.2.2.2.1 lea upr ris pl tx at_ kd va r1.2.1 r1.2.2.1 bse bmn bln bhi bwi bbr bsp bsi ble bun bul bpx btm bps bft bfk hfu)) [0, 11, 12, 13, 14, 15, 16, 17, 18, 19, 20, 21, 22, 23, 24, 1, 2, 3, 4, 5, 6, 7, 8, 9, 10, 25, 26, 27, 28, 29, 30, 31, 32, 33, 34, 35, 36, 37, 38] (by decide) rfl
  generalize H1 = H at hP hS ⊢
  refine lv_if_ne (tgt := 17) hx hb dX7_undo_11 (by decide) (fun c2 => ?_) (fun c2 => ?_)
  · replace h := br_p c2 h
    refine lv_aload_n hx hb dX7_undo_17 rfl (lv_at hl 0 rfl) ?_
    refine va_get (D := D) (ci := 7) (v := .ref hh) (C := RX7) (T := TX7) (N := 6) hx hb hts uX7_undo_a_X7 hown hK.1 hP 0 rfl rfl 2 (by decide) (hts _ kX7_undo_a_1) (fun _ h9 => h9) rfl dX7_undo_18 ?_
    refine va_get (D := D) (ci := 1) (v := .int r1.2.2.1) (C := RX1) (T := TX1) (N := 3) hx hb hts uX7_undo_a_X1 hown hK.1 hP 23 rfl rfl 2 (by decide) (hts _ kX7_undo_a_4) (fun _ h9 => h9) rfl dX7_undo_21 ?_
    have e9 := Option.some.inj h
    subst e9
    rw [hQ]
    exact W.iret (v := r1.2.2.1) hx hb hr (fun t ht hW => ⟨⟨r1.2.2.1, (), rfl, rfl, by rw [ht]; exact hP, hD⟩, hS.F ht⟩) hS.2.2 dX7_undo_24
  · replace h := br_n (not_not_intro c2) h
    refine lv_bipush (v := (-5)) hx hb dX7_undo_14 (by decide) ?_
    have e9 := Option.some.inj h
    subst e9
    rw [hQ]
    exact W.iret (v := (-5)) hx hb hr (fun t ht hW => ⟨⟨(-5), (), rfl, rfl, by rw [ht]; exact hP, hD⟩, hS.F ht⟩) hS.2.2 dX7_undo_16
-- LeaningLines.undo
abbrev OUT_X7_undo_n : Type := Int32
def f_X7_undo_n (nx : Int32) (hm : Int32) : Option OUT_X7_undo_n :=
  bn (f_X1_takeBack_n nx hm) (fun r1 => (if ¬ r1 = 0 then some (hm) else some ((-5))))
theorem uX7_undo_n_X7 : ∀ w ∈ wsX70, w ∈ wsX7_undo := by decide +kernel
theorem kX7_undo_n_1 : Cond.fieldLink RX7 26 "LeaningLines" "history" "LLeaningLines$History;" ∈ wsX7_undo := by decide +kernel
theorem kX7_undo_n_2 : Cond.fieldLink RX7 10 "LeaningLines" "scene" "LLeaningLines$Scene;" ∈ wsX7_undo := by decide +kernel
theorem uX7_undo_n_X1 : ∀ w ∈ wsX10, w ∈ wsX7_undo := by decide +kernel
theorem kX7_undo_n_4 : Cond.fieldLink RX7 197 "LeaningLines$History" "many" "I" ∈ wsX7_undo := by decide +kernel
abbrev R_X7_undo_n : Room := { frames := 4, cells := 0, slots := 0, locals := 120 }
set_option maxHeartbeats 4000000 in
set_option maxRecDepth 100000 in
theorem m_X7_undo_n (l : Launch) (D : va_G) (cI cC cZ cR : ClassId) (mm sc sea th th1 th2 th3 th4 th5 th6 th7 th8 th9 pi pia cm cm1 cm2 cm3 pd pda rd rda hh hst sla : Nat) (sz : Nat) (se : Nat → Int32) (mn : Int32) (ln : Nat → Int32) (hi : Nat → Int32) (wi : Nat → Int32) (br : Nat → Int32) (sp : Nat → Int32) (si : Nat → Int32) (le : Nat → Int32) (un : Nat → Int32) (ul : Nat → Int32) (px : Nat → Int32) (tm : Int32) (ps : Int32) (ft : Int32) (fk : Int32) (lea : Nat → Int32) (upr : Nat → Int32) (ris : Nat → Int32) (pl : Int32) (tx : Nat → Int32) (at_ : Int32) (kd : Int32) (va : Nat → Int32) (nx : Int32) (hm : Int32) (hfu : Nat → Option Nat)   (hq : ∀ i : Int32, (nx = 0 → i = 5) → (¬ nx = 0 → i = nx - 1) → hfu i.toNatClampNeg = none) (r : OUT_X7_undo_n) (hf : f_X7_undo_n nx hm = some r) : Met l yX7_undo wsX7_undo R_X7_undo_n (cPc D cI cC cZ cR [.ref mm] sz (ws_mainH cI cC cZ cR mm sc sea th th1 th2 th3 th4 th5 th6 th7 th8 th9 pi pia cm cm1 cm2 cm3 pd pda rd rda hh hst sla se mn ln hi wi br sp si le un ul px tm ps ft fk lea upr ris pl tx at_ kd va nx hm hfu)) (cQi D (ws_mainH cI cC cZ cR mm sc sea th th1 th2 th3 th4 th5 th6 th7 th8 th9 pi pia cm cm1 cm2 cm3 pd pda rd rda hh hst sla se mn ln hi wi br sp si le un ul px tm ps ft fk lea upr ris pl tx at_ kd va nx hm hfu) (va_A (ws_mainH cI cC cZ cR mm sc sea th th1 th2 th3 th4 th5 th6 th7 th8 th9 pi pia cm cm1 cm2 cm3 pd pda rd rda hh hst sla se mn ln hi wi br sp si le un ul px tm ps ft fk lea upr ris pl tx at_ kd va nx hm hfu) sz) r) 0 0 (va_A (ws_mainH cI cC cZ cR mm sc sea th th1 th2 th3 th4 th5 th6 th7 th8 th9 pi pia cm cm1 cm2 cm3 pd pda rd rda hh hst sla se mn ln hi wi br sp si le un ul px tm ps ft fk lea upr ris pl tx at_ kd va nx hm hfu) sz) := by
  refine Met.ofW (cc := cX7_undo) (maxL := 1) (ret := (some .int)) (by decide) rfl ?_
  intro p e s m args below meth c s₁ B hml hv
  obtain ⟨rfl, hsz, hP, hK, hD0⟩ := hv
  have hx := B.exec
  have hb := B.bytes
  have hr := B.returns
  have hts := atoms_spec (ws := wsX7_undo) B.pre
  have hown : s.vm.findClass RX7 = some m.cls := findClass_of_methodNamed B.named
  have hlocks := B.notSynchronized
  subst hsz
  have hD := hD0.self (sz := s.heap.size)
  generalize hAe : va_A (ws_mainH cI cC cZ cR mm sc sea th th1 th2 th3 th4 th5 th6 th7 th8 th9 pi pia cm cm1 cm2 cm3 pd pda rd rda hh hst sla se mn ln hi wi br sp si le un ul px tm ps ft fk lea upr ris pl tx at_ kd va nx hm hfu) s.heap.size = A at hD ⊢
  skip
  have hA : ∀ q : Nat, s.heap.size ≤ q → A q := fun q h => by rw [← hAe]; exact Or.inr h
  have hS : va_S A s.heap s.heap [] := va_S.rf
  have hl := lv_entry ([.ref mm]) (n := 1) (Nat.le_of_ble_eq_true rfl)
  rw [lg_entry_eq]
  generalize (lg_sl ([.ref mm]) ++ List.replicate (1 - (lg_sl ([.ref mm])).length) Slot.unset).toArray = ls at hl ⊢
  have hl : lv_has ls 1 [(0, .ref mm)] := hl
  refine W_absQ (fun Q hQ => ?_)
  refine W.eq (g2 := F0 m 0 ls []) rfl ?_
  have h := hf
  unfold f_X7_undo_n at h
  refine lv_aload_n hx hb dX7_undo_0 rfl (lv_at hl 0 rfl) ?_
  refine va_get (D := D) (ci := 7) (v := .ref hh) (C := RX7) (T := TX7) (N := 6) hx hb hts uX7_undo_n_X7 hown hK.1 hP 0 rfl rfl 2 (by decide) (hts _ kX7_undo_n_1) (fun _ h9 => h9) rfl dX7_undo_1 ?_
  refine lv_aload_n hx hb dX7_undo_4 rfl (lv_at hl 0 rfl) ?_
  refine va_get (D := D) (ci := 7) (v := .ref sc) (C := RX7) (T := TX7) (N := 6) hx hb hts uX7_undo_n_X7 hown hK.1 hP 0 rfl rfl 0 (by decide) (hts _ kX7_undo_n_2) (fun _ h9 => h9) rfl dX7_undo_5 ?_
  obtain ⟨r1, hcr1, h⟩ := bn_sp h
  have hPc := hP.sub (ws' := (ws_hist_scene cI cC cZ cR hh hst sc sea th th1 th2 th3 th4 th5 th6 th7 th8 th9 pi pia nx hm se mn ln hi wi br sp si le un ul px tm ps ft fk hfu)) [23, 24, 1, 2, 3, 4, 5, 6, 7, 8, 9, 10, 11, 12, 13, 14] rfl
  have hDc := hD.sub (ws' := (ws_hist_scene cI cC cZ cR hh hst sc sea th th1 th2 th3 th4 th5 th6 th7 th8 th9 pi pia nx hm se mn ln hi wi br sp si le un ul px tm ps ft fk hfu)) [23, 24, 1, 2, 3, 4, 5, 6, 7, 8, 9, 10, 11, 12, 13, 14] (by decide) rfl
  have hFc := va_free (wc := (ws_hist_scene cI cC cZ cR hh hst sc sea th th1 th2 th3 th4 th5 th6 th7 th8 th9 pi pia nx hm se mn ln hi wi br sp si le un ul px tm ps ft fk hfu)) hD hS hA [23, 24, 1, 2, 3, 4, 5, 6, 7, 8, 9, 10, 11, 12, 13, 14] rfl
  refine va_calli (va_runV (As := [.ref sc]) (rest := []) ⟨hx, hb, hml, hown, hts⟩ (m_X1_takeBack_n l D cI cC cZ cR hh hst sc sea th th1 th2 th3 th4 th5 th6 th7 th8 th9 pi pia _ nx hm se mn ln hi wi br sp si le un ul px tm ps ft fk hfu   hq r1 hcr1) (cwV 1 hts gX7_undo_X1_takeBack rfl rfl rfl (by decide +kernel) ⟨Nat.le_of_ble_eq_true rfl, Nat.le_of_ble_eq_true rfl⟩) (cPc_pv hPc hK hDc (ci := 1) (q0 := 0) rfl rfl) rfl rfl hl.1 rfl (lv_room (Nat.le_of_ble_eq_true rfl)) dX7_undo_8 ⟨Nat.le_of_ble_eq_true rfl, Nat.le_of_ble_eq_true rfl⟩) hS (fun q _ h => hFc q h) hFc (fun xq u t H1 locs ht hvm hw hB hz1 hk1 hS => ?_)
  rw [hw]
  obtain ⟨hP1, hD1⟩ := hB
  rw [ht] at hP1
  obtain ⟨hP, hD⟩ := va_join (wr := [(mm, .inr (7, [.ref sc, .ref cm, .ref hh, .ref sla, .ref pd, .ref rd])), (cm, .inr (0, [.ref cm1, .ref cm2, .ref cm3])), (cm1, .inl (cI, 24, .inl lea)), (cm2, .inl (cI, 24, .inl upr)), (cm3, .inl (cI, 25, .inl ris)), (pd, .inr (2, [.ref pda, .int pl])), (pda, .inl (cC, 80, .inl tx)), (rd, .inr (4, [.ref pd, .int at_, .int kd, .ref rda])), (rda, .inl (cI, 7, .inl va))]) (w1 := (ws_hist_scene cI cC cZ cR hh hst sc sea th th1 th2 th3 th4 th5 th6 th7 th8 th9 pi pia nx hm se mn ln hi wi br sp si le un ul px tm ps ft fk hfu)) hP hD [23, 24, 1, 2, 3, 4, 5, 6, 7, 8, 9, 10, 11, 12, 13, 14] [0, 15, 16, 17, 18, 19, 20, 21, 22] rfl rfl (by decide) (by decide) hk1 hFc hP1 hD1
  have hP := hP.sub (ws' := (ws_mainH cI cC cZ cR mm sc sea th th1 th2 th3 th4 th5 th6 th7 th8 th9 pi pia cm cm1 cm2 cm3 pd pda rd rda hh hst sla se mn ln hi wi br sp si le un ul px tm ps ft fk lea upr ris pl tx at_ kd va nx hm hfu)) [0, 11, 12, 13, 14, 15, 16, 17, 18, 19, 20, 21, 22, 23, 24, 1, 2, 3, 4, 5, 6, 7, 8, 9, 10] rfl
  have hD := hD.sub (ws' := (ws_mainH cI cC cZ cR mm sc sea th th1 th2 th3 th4 th5 th6 th7 th8 th9 pi pia cm cm1 cm2 cm3 pd pda rd rda hh hst sla se mn ln hi wi br sp si le un ul px tm ps ft fk lea upr ris pl tx at_ kd va nx hm hfu)) [0, 11, 12, 13, 14, 15, 16, 17, 18, 19, 20, 21, 22, 23, 24, 1, 2, 3, 4, 5, 6, 7, 8, 9, 10] (by decide) rfl
  generalize H1 = H at hP hS ⊢
  refine lv_if_ne (tgt := 17) hx hb dX7_undo_11 (by decide) (fun c2 => ?_) (fun c2 => ?_)
  · replace h := br_p c2 h
    refine lv_aload_n hx hb dX7_undo_17 rfl (lv_at hl 0 rfl) ?_
    refine va_get (D := D) (ci := 7) (v := .ref hh) (C := RX7) (T := TX7) (N := 6) hx hb hts uX7_undo_n_X7 hown hK.1 hP 0 rfl rfl 2 (by decide) (hts _ kX7_undo_n_1) (fun _ h9 => h9) rfl dX7_undo_18 ?_
    refine va_get (D := D) (ci := 1) (v := .int hm) (C := RX1) (T := TX1) (N := 3) hx hb hts uX7_undo_n_X1 hown hK.1 hP 23 rfl rfl 2 (by decide) (hts _ kX7_undo_n_4) (fun _ h9 => h9) rfl dX7_undo_21 ?_
    have e9 := Option.some.inj h
    subst e9
    rw [hQ]
    exact W.iret (v := hm) hx hb hr (fun t ht hW => ⟨⟨hm, (), rfl, rfl, by rw [ht]; exact hP, hD⟩, hS.F ht⟩) hS.2.2 dX7_undo_24
  · replace h := br_n (not_not_intro c2) h
    refine lv_bipush (v := (-5)) hx hb dX7_undo_14 (by decide) ?_
    have e9 := Option.some.inj h
    subst e9
    rw [hQ]
    exact W.iret (v := (-5)) hx hb hr (fun t ht hW => ⟨⟨(-5), (), rfl, rfl, by rw [ht]; exact hP, hD⟩, hS.F ht⟩) hS.2.2 dX7_undo_16
-- LeaningLines.undo
abbrev OUT_X7_undo_e : Type := Int32
def f_X7_undo_e (nx : Int32) (hm : Int32) : Option OUT_X7_undo_e :=
  bn (f_X1_takeBack_e nx hm) (fun r1 => (if ¬ r1 = 0 then some (hm) else some ((-5))))
theorem uX7_undo_e_X7 : ∀ w ∈ wsX70, w ∈ wsX7_undo := by decide +kernel
theorem kX7_undo_e_1 : Cond.fieldLink RX7 26 "LeaningLines" "history" "LLeaningLines$History;" ∈ wsX7_undo := by decide +kernel
theorem kX7_undo_e_2 : Cond.fieldLink RX7 10 "LeaningLines" "scene" "LLeaningLines$Scene;" ∈ wsX7_undo := by decide +kernel
theorem uX7_undo_e_X1 : ∀ w ∈ wsX10, w ∈ wsX7_undo := by decide +kernel
theorem kX7_undo_e_4 : Cond.fieldLink RX7 197 "LeaningLines$History" "many" "I" ∈ wsX7_undo := by decide +kernel
abbrev R_X7_undo_e : Room := { frames := 4, cells := 0, slots := 0, locals := 120 }
set_option maxHeartbeats 4000000 in
set_option maxRecDepth 100000 in
theorem m_X7_undo_e (l : Launch) (D : va_G) (cI cC cZ cR : ClassId) (mm sc sea th th1 th2 th3 th4 th5 th6 th7 th8 th9 pi pia cm cm1 cm2 cm3 pd pda rd rda hh hst sla bad : Nat) (sz : Nat) (se : Nat → Int32) (mn : Int32) (ln : Nat → Int32) (hi : Nat → Int32) (wi : Nat → Int32) (br : Nat → Int32) (sp : Nat → Int32) (si : Nat → Int32) (le : Nat → Int32) (un : Nat → Int32) (ul : Nat → Int32) (px : Nat → Int32) (tm : Int32) (ps : Int32) (ft : Int32) (fk : Int32) (lea : Nat → Int32) (upr : Nat → Int32) (ris : Nat → Int32) (pl : Int32) (tx : Nat → Int32) (at_ : Int32) (kd : Int32) (va : Nat → Int32) (nx : Int32) (hm : Int32) (hfu : Nat → Option Nat)   (hq : ∀ i : Int32, (nx = 0 → i = 5) → (¬ nx = 0 → i = nx - 1) → hfu i.toNatClampNeg = some bad) (r : OUT_X7_undo_e) (hf : f_X7_undo_e nx hm = some r) : Met l yX7_undo wsX7_undo R_X7_undo_e (cPc D cI cC cZ cR [.ref mm] sz (ws_mainH_addr cI cC cZ cR mm sc sea th th1 th2 th3 th4 th5 th6 th7 th8 th9 pi pia cm cm1 cm2 cm3 pd pda rd rda hh hst sla bad se mn ln hi wi br sp si le un ul px tm ps ft fk lea upr ris pl tx at_ kd va nx hm hfu)) (cQi D (ws_mainH_addr cI cC cZ cR mm sc sea th th1 th2 th3 th4 th5 th6 th7 th8 th9 pi pia cm cm1 cm2 cm3 pd pda rd rda hh hst sla bad se mn ln hi wi br sp si le un ul px tm ps ft fk lea upr ris pl tx at_ kd va nx hm hfu) (va_A (ws_mainH_addr cI cC cZ cR mm sc sea th th1 th2 th3 th4 th5 th6 th7 th8 th9 pi pia cm cm1 cm2 cm3 pd pda rd rda hh hst sla bad se mn ln hi wi br sp si le un ul px tm ps ft fk lea upr ris pl tx at_ kd va nx hm hfu) sz) r) 0 0 (va_A (ws_mainH_addr cI cC cZ cR mm sc sea th th1 th2 th3 th4 th5 th6 th7 th8 th9 pi pia cm cm1 cm2 cm3 pd pda rd rda hh hst sla bad se mn ln hi wi br sp si le un ul px tm ps ft fk lea upr ris pl tx at_ kd va nx hm hfu) sz) := by
  refine Met.ofW (cc := cX7_undo) (maxL := 1) (ret := (some .int)) (by decide) rfl ?_
  intro p e s m args below meth c s₁ B hml hv
  obtain ⟨rfl, hsz, hP, hK, hD0⟩ := hv
  have hx := B.exec
  have hb := B.bytes
  have hr := B.returns
  have hts := atoms_spec (ws := wsX7_undo) B.pre
  have hown : s.vm.findClass RX7 = some m.cls := findClass_of_methodNamed B.named
  have hlocks := B.notSynchronized
  subst hsz
  have hD := hD0.self (sz := s.heap.size)
  generalize hAe : va_A (ws_mainH_addr cI cC cZ cR mm sc sea th th1 th2 th3 th4 th5 th6 th7 th8 th9 pi pia cm cm1 cm2 cm3 pd pda rd rda hh hst sla bad se mn ln hi wi br sp si le un ul px tm ps ft fk lea upr ris pl tx at_ kd va nx hm hfu) s.heap.size = A at hD ⊢
  skip
  have hA : ∀ q : Nat, s.heap.size ≤ q → A q := fun q h => by rw [← hAe]; exact Or.inr h
  have hS : va_S A s.heap s.heap [] := va_S.rf
  have hl := lv_entry ([.ref mm]) (n := 1) (Nat.le_of_ble_eq_true rfl)
  rw [lg_entry_eq]
  generalize (lg_sl ([.ref mm]) ++ List.replicate (1 - (lg_sl ([.ref mm])).length) Slot.unset).toArray = ls at hl ⊢
  have hl : lv_has ls 1 [(0, .ref mm)] := hl
  refine W_absQ (fun Q hQ => ?_)
  refine W.eq (g2 := F0 m 0 ls []) rfl ?_
  have h := hf
  unfold f_X7_undo_e at h
  refine lv_aload_n hx hb dX7_undo_0 rfl (lv_at hl 0 rfl) ?_
  refine va_get (D := D) (ci := 7) (v := .ref hh) (C := RX7) (T := TX7) (N := 6) hx hb hts uX7_undo_e_X7 hown hK.1 hP 0 rfl rfl 2 (by decide) (hts _ kX7_undo_e_1) (fun _ h9 => h9) rfl dX7_undo_1 ?_
  refine lv_aload_n hx hb dX7_undo_4 rfl (lv_at hl 0 rfl) ?_
  refine va_get (D := D) (ci := 7) (v := .ref sc) (C := RX7) (T := TX7) (N := 6) hx hb hts uX7_undo_e_X7 hown hK.1 hP 0 rfl rfl 0 (by decide) (hts _ kX7_undo_e_2) (fun _ h9 => h9) rfl dX7_undo_5 ?_
  obtain ⟨r1, hcr1, h⟩ := bn_sp h
  have hPc := hP.sub (ws' := (ws_hist_scene_addr cI cC cZ cR hh hst sc sea th th1 th2 th3 th4 th5 th6 th7 th8 th9 pi pia bad nx hm se mn ln hi wi br sp si le un ul px tm ps ft fk hfu)) [23, 24, 1, 2, 3, 4, 5, 6, 7, 8, 9, 10, 11, 12, 13, 14] rfl
  have hDc := hD.sub (ws' := (ws_hist_scene_addr cI cC cZ cR hh hst sc sea th th1 th2 th3 th4 th5 th6 th7 th8 th9 pi pia bad nx hm se mn ln hi wi br sp si le un ul px tm ps ft fk hfu)) [23, 24, 1, 2, 3, 4, 5, 6, 7, 8, 9, 10, 11, 12, 13, 14] (by decide) rfl
  have hFc := va_free (wc := (ws_hist_scene_addr cI cC cZ cR hh hst sc sea th th1 th2 th3 th4 th5 th6 th7 th8 th9 pi pia bad nx hm se mn ln hi wi br sp si le un ul px tm ps ft fk hfu)) hD hS hA [23, 24, 1, 2, 3, 4, 5, 6, 7, 8, 9, 10, 11, 12, 13, 14] rfl
  refine va_calli (va_runV (As := [.ref sc]) (rest := []) ⟨hx, hb, hml, hown, hts⟩ (m_X1_takeBack_e l D cI cC cZ cR hh hst sc sea th th1 th2 th3 th4 th5 th6 th7 th8 th9 pi pia bad _ nx hm se mn ln hi wi br sp si le un ul px tm ps ft fk hfu   hq r1 hcr1) (cwV 1 hts gX7_undo_X1_takeBack rfl rfl rfl (by decide +kernel) ⟨Nat.le_of_ble_eq_true rfl, Nat.le_of_ble_eq_true rfl⟩) (cPc_pv hPc hK hDc (ci := 1) (q0 := 0) rfl rfl) rfl rfl hl.1 rfl (lv_room (Nat.le_of_ble_eq_true rfl)) dX7_undo_8 ⟨Nat.le_of_ble_eq_true rfl, Nat.le_of_ble_eq_true rfl⟩) hS (fun q _ h => hFc q h) hFc (fun xq u t H1 locs ht hvm hw hB hz1 hk1 hS => ?_)
  rw [hw]
  obtain ⟨hP1, hD1⟩ := hB
  rw [ht] at hP1
  obtain ⟨hP, hD⟩ := va_join (wr := [(mm, .inr (7, [.ref sc, .ref cm, .ref hh, .ref sla, .ref pd, .ref rd])), (cm, .inr (0, [.ref cm1, .ref cm2, .ref cm3])), (cm1, .inl (cI, 24, .inl lea)), (cm2, .inl (cI, 24, .inl upr)), (cm3, .inl (cI, 25, .inl ris)), (pd, .inr (2, [.ref pda, .int pl])), (pda, .inl (cC, 80, .inl tx)), (rd, .inr (4, [.ref pd, .int at_, .int kd, .ref rda])), (rda, .inl (cI, 7, .inl va))]) (w1 := (ws_hist_scene_addr cI cC cZ cR hh hst sc sea th th1 th2 th3 th4 th5 th6 th7 th8 th9 pi pia bad nx hm se mn ln hi wi br sp si le un ul px tm ps ft fk hfu)) hP hD [23, 24, 1, 2, 3, 4, 5, 6, 7, 8, 9, 10, 11, 12, 13, 14] [0, 15, 16, 17, 18, 19, 20, 21, 22] rfl rfl (by decide) (by decide) hk1 hFc hP1 hD1
  have hP := hP.sub (ws' := (ws_mainH_addr cI cC cZ cR mm sc sea th th1 th2 th3 th4 th5 th6 th7 th8 th9 pi pia cm cm1 cm2 cm3 pd pda rd rda hh hst sla bad se mn ln hi wi br sp si le un ul px tm ps ft fk lea upr ris pl tx at_ kd va nx hm hfu)) [0, 11, 12, 13, 14, 15, 16, 17, 18, 19, 20, 21, 22, 23, 24, 1, 2, 3, 4, 5, 6, 7, 8, 9, 10] rfl
  have hD := hD.sub (ws' := (ws_mainH_addr cI cC cZ cR mm sc sea th th1 th2 th3 th4 th5 th6 th7 th8 th9 pi pia cm cm1 cm2 cm3 pd pda rd rda hh hst sla bad se mn ln hi wi br sp si le un ul px tm ps ft fk lea upr ris pl tx at_ kd va nx hm hfu)) [0, 11, 12, 13, 14, 15, 16, 17, 18, 19, 20, 21, 22, 23, 24, 1, 2, 3, 4, 5, 6, 7, 8, 9, 10] (by decide) rfl
  generalize H1 = H at hP hS ⊢
  refine lv_if_ne (tgt := 17) hx hb dX7_undo_11 (by decide) (fun c2 => ?_) (fun c2 => ?_)
  · replace h := br_p c2 h
    refine lv_aload_n hx hb dX7_undo_17 rfl (lv_at hl 0 rfl) ?_
    refine va_get (D := D) (ci := 7) (v := .ref hh) (C := RX7) (T := TX7) (N := 6) hx hb hts uX7_undo_e_X7 hown hK.1 hP 0 rfl rfl 2 (by decide) (hts _ kX7_undo_e_1) (fun _ h9 => h9) rfl dX7_undo_18 ?_
    refine va_get (D := D) (ci := 1) (v := .int hm) (C := RX1) (T := TX1) (N := 3) hx hb hts uX7_undo_e_X1 hown hK.1 hP 23 rfl rfl 2 (by decide) (hts _ kX7_undo_e_4) (fun _ h9 => h9) rfl dX7_undo_21 ?_
    have e9 := Option.some.inj h
    subst e9
    rw [hQ]
    exact W.iret (v := hm) hx hb hr (fun t ht hW => ⟨⟨hm, (), rfl, rfl, by rw [ht]; exact hP, hD⟩, hS.F ht⟩) hS.2.2 dX7_undo_24
  · replace h := br_n (not_not_intro c2) h
    refine lv_bipush (v := (-5)) hx hb dX7_undo_14 (by decide) ?_
    have e9 := Option.some.inj h
    subst e9
    rw [hQ]
    exact W.iret (v := (-5)) hx hb hr (fun t ht hW => ⟨⟨(-5), (), rfl, rfl, by rw [ht]; exact hP, hD⟩, hS.F ht⟩) hS.2.2 dX7_undo_16
-- LeaningLines.restore
abbrev OUT_X7_restore_x : Type := Int32
def f_X7_restore_x (a0 : Int32) : Option OUT_X7_restore_x :=
  bn (f_X7_within a0 0 1) (fun r1 => (if ¬ r1 = 0 then none else some ((-2))))
abbrev R_X7_restore_x : Room := { frames := 5, cells := 14, slots := 478, locals := 140 }
set_option maxHeartbeats 4000000 in
set_option maxRecDepth 100000 in
theorem m_X7_restore_x (l : Launch) (D : va_G) (cI cC cZ cR : ClassId) (mm sc sea th th1 th2 th3 th4 th5 th6 th7 th8 th9 pi pia cm cm1 cm2 cm3 pd pda rd rda hh sla : Nat) (sz : Nat) (se : Nat → Int32) (mn : Int32) (ln : Nat → Int32) (hi : Nat → Int32) (wi : Nat → Int32) (br : Nat → Int32) (sp : Nat → Int32) (si : Nat → Int32) (le : Nat → Int32) (un : Nat → Int32) (ul : Nat → Int32) (px : Nat → Int32) (tm : Int32) (ps : Int32) (ft : Int32) (fk : Int32) (lea : Nat → Int32) (upr : Nat → Int32) (ris : Nat → Int32) (pl : Int32) (tx : Nat → Int32) (at_ : Int32) (kd : Int32) (va : Nat → Int32)  (a0 : Int32)   (r : OUT_X7_restore_x) (hf : f_X7_restore_x a0 = some r) : Met l yX7_restore wsX7_restore R_X7_restore_x (cPc D cI cC cZ cR [.ref mm, .int a0] sz (ws_main cI cC cZ cR mm sc sea th th1 th2 th3 th4 th5 th6 th7 th8 th9 pi pia cm cm1 cm2 cm3 pd pda rd rda hh sla se mn ln hi wi br sp si le un ul px tm ps ft fk lea upr ris pl tx at_ kd va)) (cQi D (ws_main cI cC cZ cR mm sc sea th th1 th2 th3 th4 th5 th6 th7 th8 th9 pi pia cm cm1 cm2 cm3 pd pda rd rda hh sla se mn ln hi wi br sp si le un ul px tm ps ft fk lea upr ris pl tx at_ kd va) (va_A (ws_main cI cC cZ cR mm sc sea th th1 th2 th3 th4 th5 th6 th7 th8 th9 pi pia cm cm1 cm2 cm3 pd pda rd rda hh sla se mn ln hi wi br sp si le un ul px tm ps ft fk lea upr ris pl tx at_ kd va) sz) r) 14 478 (va_A (ws_main cI cC cZ cR mm sc sea th th1 th2 th3 th4 th5 th6 th7 th8 th9 pi pia cm cm1 cm2 cm3 pd pda rd rda hh sla se mn ln hi wi br sp si le un ul px tm ps ft fk lea upr ris pl tx at_ kd va) sz) := by
  refine Met.ofW (cc := cX7_restore) (maxL := 3) (ret := (some .int)) (by decide) rfl ?_
  intro p e s m args below meth c s₁ B hml hv
  obtain ⟨rfl, hsz, hP, hK, hD0⟩ := hv
  have hx := B.exec
  have hb := B.bytes
  have hr := B.returns
  have hts := atoms_spec (ws := wsX7_restore) B.pre
  have hown : s.vm.findClass RX7 = some m.cls := findClass_of_methodNamed B.named
  have hlocks := B.notSynchronized
  subst hsz
  have hD := hD0.self (sz := s.heap.size)
  generalize hAe : va_A (ws_main cI cC cZ cR mm sc sea th th1 th2 th3 th4 th5 th6 th7 th8 th9 pi pia cm cm1 cm2 cm3 pd pda rd rda hh sla se mn ln hi wi br sp si le un ul px tm ps ft fk lea upr ris pl tx at_ kd va) s.heap.size = A at hD ⊢
  skip
  have hA : ∀ q : Nat, s.heap.size ≤ q → A q := fun q h => by rw [← hAe]; exact Or.inr h
  have hS : va_S A s.heap s.heap [] := va_S.rf
  have hl := lv_entry ([.ref mm, .int a0]) (n := 3) (Nat.le_of_ble_eq_true rfl)
  rw [lg_entry_eq]
  generalize (lg_sl ([.ref mm, .int a0]) ++ List.replicate (3 - (lg_sl ([.ref mm, .int a0])).length) Slot.unset).toArray = ls at hl ⊢
  have hl : lv_has ls 3 [(0, .ref mm), (1, .int a0)] := hl
  refine W_absQ (fun Q hQ => ?_)
  refine W.eq (g2 := F0 m 0 ls []) rfl ?_
  have h := hf
  unfold f_X7_restore_x at h
  refine lv_iload_n hx hb dX7_restore_0 rfl (lv_at hl 1 rfl) ?_
  refine lv_iconst (v := 0) hx hb dX7_restore_1 (by decide) ?_
  refine lv_iconst (v := 1) hx hb dX7_restore_2 (by decide) ?_
  obtain ⟨r1, hcr1, h⟩ := bn_sp h
  have hPc := hP.sub (ws' := []) [] rfl
  have hDc := hD.sub (ws' := []) [] (by decide) rfl
  have hFc := va_free (wc := []) hD hS hA [] rfl
  refine va_calli (va_runS (As := [.int a0, .int 0, .int 1]) (rest := []) ⟨hx, hb, hml, hown, hts⟩ (m_X7_within l D cI cC cZ cR  _  a0 0 1   r1 hcr1) (va_cwS 3 hts gX7_restore_X7_within rfl rfl rfl (by decide +kernel) ⟨Nat.le_of_ble_eq_true rfl, Nat.le_of_ble_eq_true rfl⟩) (cPc_ps hPc hK hDc) rfl rfl hl.1 rfl (lv_room (Nat.le_of_ble_eq_true rfl)) dX7_restore_3 ⟨Nat.le_of_ble_eq_true rfl, Nat.le_of_ble_eq_true rfl⟩) hS (fun q _ h => hFc q h) hFc (fun xq u t H1 locs ht hvm hw hB hz1 hk1 hS => ?_)
  rw [hw]
  obtain ⟨hP1, hD1⟩ := hB
  rw [ht] at hP1
  obtain ⟨hP, hD⟩ := va_join (wr := [(mm, .inr (7, [.ref sc, .ref cm, .ref hh, .ref sla, .ref pd, .ref rd])), (sc, .inr (5, [.ref sea, .ref th, .ref pi, .int tm, .int ps, .int ft, .int fk])), (sea, .inl (cI, 4, .inl se)), (th, .inr (6, [.int mn, .ref th1, .ref th2, .ref th3, .ref th4, .ref th5, .ref th6, .ref th7, .ref th8, .ref th9])), (th1, .inl (cI, 8, .inl ln)), (th2, .inl (cI, 8, .inl hi)), (th3, .inl (cI, 8, .inl wi)), (th4, .inl (cI, 8, .inl br)), (th5, .inl (cI, 8, .inl sp)), (th6, .inl (cI, 8, .inl si)), (th7, .inl (cI, 8, .inl le)), (th8, .inl (cI, 8, .inl un)), (th9, .inl (cI, 8, .inl ul)), (pi, .inr (3, [.ref pia])), (pia, .inl (cI, 384, .inl px)), (cm, .inr (0, [.ref cm1, .ref cm2, .ref cm3])), (cm1, .inl (cI, 24, .inl lea)), (cm2, .inl (cI, 24, .inl upr)), (cm3, .inl (cI, 25, .inl ris)), (pd, .inr (2, [.ref pda, .int pl])), (pda, .inl (cC, 80, .inl tx)), (rd, .inr (4, [.ref pd, .int at_, .int kd, .ref rda])), (rda, .inl (cI, 7, .inl va))]) (w1 := []) hP hD [] [0, 1, 2, 3, 4, 5, 6, 7, 8, 9, 10, 11, 12, 13, 14, 15, 16, 17, 18, 19, 20, 21, 22] rfl rfl (by decide) (by decide) hk1 hFc hP1 hD1
  generalize H1 = H at hP hS ⊢
  have hP : va_P D vwCl (ws_main cI cC cZ cR mm sc sea th th1 th2 th3 th4 th5 th6 th7 th8 th9 pi pia cm cm1 cm2 cm3 pd pda rd rda hh sla se mn ln hi wi br sp si le un ul px tm ps ft fk lea upr ris pl tx at_ kd va) H := hP
  have hD : va_D A (ws_main cI cC cZ cR mm sc sea th th1 th2 th3 th4 th5 th6 th7 th8 th9 pi pia cm cm1 cm2 cm3 pd pda rd rda hh sla se mn ln hi wi br sp si le un ul px tm ps ft fk lea upr ris pl tx at_ kd va) := hD
  refine lv_if_ne (tgt := 12) hx hb dX7_restore_6 (by decide) (fun c2 => ?_) (fun c2 => ?_)
  · replace h := br_p c2 h
    exact no_sm h
  · replace h := br_n (not_not_intro c2) h
    refine lv_bipush (v := (-2)) hx hb dX7_restore_9 (by decide) ?_
    have e9 := Option.some.inj h
    subst e9
    rw [hQ]
    refine W.widen (k := 14) (n := 478) (by decide) (by decide) ?_
    exact W.iret (v := (-2)) hx hb hr (fun t ht hW => ⟨⟨(-2), (), rfl, rfl, by rw [ht]; exact hP, hD⟩, hS.F ht⟩) hS.2.2 dX7_restore_11
-- LeaningLines.restore
abbrev OUT_X7_restore_n : Type := Int32
def f_X7_restore_n (a0 : Int32) : Option OUT_X7_restore_n :=
  bn (f_X7_within a0 0 1) (fun r1 => (if ¬ r1 = 0 then gd a0 2 (some ((-5))) else none))
theorem uX7_restore_n_X7 : ∀ w ∈ wsX70, w ∈ wsX7_restore := by decide +kernel
theorem kX7_restore_n_1 : Cond.fieldLink RX7 30 "LeaningLines" "slots" "[LLeaningLines$Scene;" ∈ wsX7_restore := by decide +kernel
abbrev R_X7_restore_n : Room := { frames := 5, cells := 14, slots := 478, locals := 140 }
set_option maxHeartbeats 4000000 in
set_option maxRecDepth 100000 in
theorem m_X7_restore_n (l : Launch) (D : va_G) (cI cC cZ cR : ClassId) (mm sc sea th th1 th2 th3 th4 th5 th6 th7 th8 th9 pi pia cm cm1 cm2 cm3 pd pda rd rda hh sla : Nat) (sz : Nat) (se : Nat → Int32) (mn : Int32) (ln : Nat → Int32) (hi : Nat → Int32) (wi : Nat → Int32) (br : Nat → Int32) (sp : Nat → Int32) (si : Nat → Int32) (le : Nat → Int32) (un : Nat → Int32) (ul : Nat → Int32) (px : Nat → Int32) (tm : Int32) (ps : Int32) (ft : Int32) (fk : Int32) (lea : Nat → Int32) (upr : Nat → Int32) (ris : Nat → Int32) (pl : Int32) (tx : Nat → Int32) (at_ : Int32) (kd : Int32) (va : Nat → Int32) (sfu : Nat → Option Nat) (a0 : Int32)  (hq : sfu a0.toNatClampNeg = none) (r : OUT_X7_restore_n) (hf : f_X7_restore_n a0 = some r) : Met l yX7_restore wsX7_restore R_X7_restore_n (cPc D cI cC cZ cR [.ref mm, .int a0] sz (ws_mainS cI cC cZ cR mm sc sea th th1 th2 th3 th4 th5 th6 th7 th8 th9 pi pia cm cm1 cm2 cm3 pd pda rd rda hh sla se mn ln hi wi br sp si le un ul px tm ps ft fk lea upr ris pl tx at_ kd va sfu)) (cQi D (ws_mainS cI cC cZ cR mm sc sea th th1 th2 th3 th4 th5 th6 th7 th8 th9 pi pia cm cm1 cm2 cm3 pd pda rd rda hh sla se mn ln hi wi br sp si le un ul px tm ps ft fk lea upr ris pl tx at_ kd va sfu) (va_A (ws_mainS cI cC cZ cR mm sc sea th th1 th2 th3 th4 th5 th6 th7 th8 th9 pi pia cm cm1 cm2 cm3 pd pda rd rda hh sla se mn ln hi wi br sp si le un ul px tm ps ft fk lea upr ris pl tx at_ kd va sfu) sz) r) 14 478 (va_A (ws_mainS cI cC cZ cR mm sc sea th th1 th2 th3 th4 th5 th6 th7 th8 th9 pi pia cm cm1 cm2 cm3 pd pda rd rda hh sla se mn ln hi wi br sp si le un ul px tm ps ft fk lea upr ris pl tx at_ kd va sfu) sz) := by
  refine Met.ofW (cc := cX7_restore) (maxL := 3) (ret := (some .int)) (by decide) rfl ?_
  intro p e s m args below meth c s₁ B hml hv
  obtain ⟨rfl, hsz, hP, hK, hD0⟩ := hv
  have hx := B.exec
  have hb := B.bytes
  have hr := B.returns
  have hts := atoms_spec (ws := wsX7_restore) B.pre
  have hown : s.vm.findClass RX7 = some m.cls := findClass_of_methodNamed B.named
  have hlocks := B.notSynchronized
  subst hsz
  have hD := hD0.self (sz := s.heap.size)
  generalize hAe : va_A (ws_mainS cI cC cZ cR mm sc sea th th1 th2 th3 th4 th5 th6 th7 th8 th9 pi pia cm cm1 cm2 cm3 pd pda rd rda hh sla se mn ln hi wi br sp si le un ul px tm ps ft fk lea upr ris pl tx at_ kd va sfu) s.heap.size = A at hD ⊢
  skip
  have hA : ∀ q : Nat, s.heap.size ≤ q → A q := fun q h => by rw [← hAe]; exact Or.inr h
  have hS : va_S A s.heap s.heap [] := va_S.rf
  have hl := lv_entry ([.ref mm, .int a0]) (n := 3) (Nat.le_of_ble_eq_true rfl)
  rw [lg_entry_eq]
  generalize (lg_sl ([.ref mm, .int a0]) ++ List.replicate (3 - (lg_sl ([.ref mm, .int a0])).length) Slot.unset).toArray = ls at hl ⊢
  have hl : lv_has ls 3 [(0, .ref mm), (1, .int a0)] := hl
  refine W_absQ (fun Q hQ => ?_)
  refine W.eq (g2 := F0 m 0 ls []) rfl ?_
  have h := hf
  unfold f_X7_restore_n at h
  refine lv_iload_n hx hb dX7_restore_0 rfl (lv_at hl 1 rfl) ?_
  refine lv_iconst (v := 0) hx hb dX7_restore_1 (by decide) ?_
  refine lv_iconst (v := 1) hx hb dX7_restore_2 (by decide) ?_
  obtain ⟨r1, hcr1, h⟩ := bn_sp h
  have hPc := hP.sub (ws' := []) [] rfl
  have hDc := hD.sub (ws' := []) [] (by decide) rfl
  have hFc := va_free (wc := []) hD hS hA [] rfl
  refine va_calli (va_runS (As := [.int a0, .int 0, .int 1]) (rest := []) ⟨hx, hb, hml, hown, hts⟩ (m_X7_within l D cI cC cZ cR  _  a0 0 1   r1 hcr1) (va_cwS 3 hts gX7_restore_X7_within rfl rfl rfl (by decide +kernel) ⟨Nat.le_of_ble_eq_true rfl, Nat.le_of_ble_eq_true rfl⟩) (cPc_ps hPc hK hDc) rfl rfl hl.1 rfl (lv_room (Nat.le_of_ble_eq_true rfl)) dX7_restore_3 ⟨Nat.le_of_ble_eq_true rfl, Nat.le_of_ble_eq_true rfl⟩) hS (fun q _ h => hFc q h) hFc (fun xq u t H1 locs ht hvm hw hB hz1 hk1 hS => ?_)
  rw [hw]
  obtain ⟨hP1, hD1⟩ := hB
  rw [ht] at hP1
  obtain ⟨hP, hD⟩ := va_join (wr := [(mm, .inr (7, [.ref sc, .ref cm, .ref hh, .ref sla, .ref pd, .ref rd])), (sc, .inr (5, [.ref sea, .ref th, .ref pi, .int tm, .int ps, .int ft, .int fk])), (sea, .inl (cI, 4, .inl se)), (th, .inr (6, [.int mn, .ref th1, .ref th2, .ref th3, .ref th4, .ref th5, .ref th6, .ref th7, .ref th8, .ref th9])), (th1, .inl (cI, 8, .inl ln)), (th2, .inl (cI, 8, .inl hi)), (th3, .inl (cI, 8, .inl wi)), (th4, .inl (cI, 8, .inl br)), (th5, .inl (cI, 8, .inl sp)), (th6, .inl (cI, 8, .inl si)), (th7, .inl (cI, 8, .inl le)), (th8, .inl (cI, 8, .inl un)), (th9, .inl (cI, 8, .inl ul)), (pi, .inr (3, [.ref pia])), (pia, .inl (cI, 384, .inl px)), (cm, .inr (0, [.ref cm1, .ref cm2, .ref cm3])), (cm1, .inl (cI, 24, .inl lea)), (cm2, .inl (cI, 24, .inl upr)), (cm3, .inl (cI, 25, .inl ris)), (pd, .inr (2, [.ref pda, .int pl])), (pda, .inl (cC, 80, .inl tx)), (rd, .inr (4, [.ref pd, .int at_, .int kd, .ref rda])), (rda, .inl (cI, 7, .inl va)), (sla, .inl (cR, 2, .inr (.inr (.inr (.inr sfu)))))]) (w1 := []) hP hD [] [0, 1, 2, 3, 4, 5, 6, 7, 8, 9, 10, 11, 12, 13, 14, 15, 16, 17, 18, 19, 20, 21, 22, 23] rfl rfl (by decide) (by decide) hk1 hFc hP1 hD1
  generalize H1 = H at hP hS ⊢
  have hP : va_P D vwCl (ws_mainS cI cC cZ cR mm sc sea th th1 th2 th3 th4 th5 th6 th7 th8 th9 pi pia cm cm1 cm2 cm3 pd pda rd rda hh sla se mn ln hi wi br sp si le un ul px tm ps ft fk lea upr ris pl tx at_ kd va sfu) H := hP
  have hD : va_D A (ws_mainS cI cC cZ cR mm sc sea th th1 th2 th3 th4 th5 th6 th7 th8 th9 pi pia cm cm1 cm2 cm3 pd pda rd rda hh sla se mn ln hi wi br sp si le un ul px tm ps ft fk lea upr ris pl tx at_ kd va sfu) := hD
  refine lv_if_ne (tgt := 12) hx hb dX7_restore_6 (by decide) (fun c2 => ?_) (fun c2 => ?_)
  · replace h := br_p c2 h
    refine lv_aload_n hx hb dX7_restore_12 rfl (lv_at hl 0 rfl) ?_
    refine va_get (D := D) (ci := 7) (v := .ref sla) (C := RX7) (T := TX7) (N := 6) hx hb hts uX7_restore_n_X7 hown hK.1 hP 0 rfl rfl 3 (by decide) (hts _ kX7_restore_n_1) (fun _ h9 => h9) rfl dX7_restore_13 ?_
    refine lv_iload_n hx hb dX7_restore_16 rfl (lv_at hl 1 rfl) ?_
    obtain ⟨hin, h⟩ := gd_sp h
    refine va_aldq (D := D) hx hb hK.1 hP 23 3 rfl rfl hin dX7_restore_17 ?_
    refine W.eq (g2 := F0 m 18 ls [.null]) (by rw [hq]; rfl) ?_
    refine lv_astore_nN (lv' := [(2, .null), (0, .ref mm), (1, .int a0)]) hx hb dX7_restore_18 rfl hl (by decide) rfl (fun ls hl => ?_)
    refine lv_aload_nN hx hb dX7_restore_19 rfl (lv_at hl 0 rfl) ?_
    refine lv_ifnonnullN hx hb dX7_restore_20 ?_
    refine lv_bipush (v := (-5)) hx hb dX7_restore_23 (by decide) ?_
    have e9 := Option.some.inj h
    subst e9
    rw [hQ]
    refine W.widen (k := 14) (n := 478) (by decide) (by decide) ?_
    exact W.iret (v := (-5)) hx hb hr (fun t ht hW => ⟨⟨(-5), (), rfl, rfl, by rw [ht]; exact hP, hD⟩, hS.F ht⟩) hS.2.2 dX7_restore_25
  · replace h := br_n (not_not_intro c2) h
    exact no_sm h
