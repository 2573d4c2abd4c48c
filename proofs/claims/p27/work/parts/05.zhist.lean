abbrev ws_hist_scene_scene (cI cC cZ cR : ClassId) (hh hst sc sea th th1 th2 th3 th4 th5 th6 th7 th8 th9 pi pia bsc bsea bth bth1 bth2 bth3 bth4 bth5 bth6 bth7 bth8 bth9 bpi bpia : Nat) (nx : Int32) (hm : Int32) (se : Nat → Int32) (mn : Int32) (ln : Nat → Int32) (hi : Nat → Int32) (wi : Nat → Int32) (br : Nat → Int32) (sp : Nat → Int32) (si : Nat → Int32) (le : Nat → Int32) (un : Nat → Int32) (ul : Nat → Int32) (px : Nat → Int32) (tm : Int32) (ps : Int32) (ft : Int32) (fk : Int32) (bse : Nat → Int32) (bmn : Int32) (bln : Nat → Int32) (bhi : Nat → Int32) (bwi : Nat → Int32) (bbr : Nat → Int32) (bsp : Nat → Int32) (bsi : Nat → Int32) (ble : Nat → Int32) (bun : Nat → Int32) (bul : Nat → Int32) (bpx : Nat → Int32) (btm : Int32) (bps : Int32) (bft : Int32) (bfk : Int32) (hfu : Nat → Option Nat) : va_W := [(hh, .inr (1, [.ref hst, .int nx, .int hm])), (hst, .inl (cR, 6, .inr (.inr (.inr (.inr hfu))))), (sc, .inr (5, [.ref sea, .ref th, .ref pi, .int tm, .int ps, .int ft, .int fk])), (sea, .inl (cI, 4, .inl se)), (th, .inr (6, [.int mn, .ref th1, .ref th2, .ref th3, .ref th4, .ref th5, .ref th6, .ref th7, .ref th8, .ref th9])), (th1, .inl (cI, 8, .inl ln)), (th2, .inl (cI, 8, .inl hi)), (th3, .inl (cI, 8, .inl wi)), (th4, .inl (cI, 8, .inl br)), (th5, .inl (cI, 8, .inl sp)), (th6, .inl (cI, 8, .inl si)), (th7, .inl (cI, 8, .inl le)), (th8, .inl (cI, 8, .inl un)), (th9, .inl (cI, 8, .inl ul)), (pi, .inr (3, [.ref pia])), (pia, .inl (cI, 384, .inl px)), (bsc, .inr (5, [.ref bsea, .ref bth, .ref bpi, .int btm, .int bps, .int bft, .int bfk])), (bsea, .inl (cI, 4, .inl bse)), (bth, .inr (6, [.int bmn, .ref bth1, .ref bth2, .ref bth3, .ref bth4, .ref bth5, .ref bth6, .ref bth7, .ref bth8, .ref bth9])), (bth1, .inl (cI, 8, .inl bln)), (bth2, .inl (cI, 8, .inl bhi)), (bth3, .inl (cI, 8, .inl bwi)), (bth4, .inl (cI, 8, .inl bbr)), (bth5, .inl (cI, 8, .inl bsp)), (bth6, .inl (cI, 8, .inl bsi)), (bth7, .inl (cI, 8, .inl ble)), (bth8, .inl (cI, 8, .inl bun)), (bth9, .inl (cI, 8, .inl bul)), (bpi, .inr (3, [.ref bpia])), (bpia, .inl (cI, 384, .inl bpx))]
abbrev ws_hist_scene (cI cC cZ cR : ClassId) (hh hst sc sea th th1 th2 th3 th4 th5 th6 th7 th8 th9 pi pia : Nat) (nx : Int32) (hm : Int32) (se : Nat → Int32) (mn : Int32) (ln : Nat → Int32) (hi : Nat → Int32) (wi : Nat → Int32) (br : Nat → Int32) (sp : Nat → Int32) (si : Nat → Int32) (le : Nat → Int32) (un : Nat → Int32) (ul : Nat → Int32) (px : Nat → Int32) (tm : Int32) (ps : Int32) (ft : Int32) (fk : Int32) (hfu : Nat → Option Nat) : va_W := [(hh, .inr (1, [.ref hst, .int nx, .int hm])), (hst, .inl (cR, 6, .inr (.inr (.inr (.inr hfu))))), (sc, .inr (5, [.ref sea, .ref th, .ref pi, .int tm, .int ps, .int ft, .int fk])), (sea, .inl (cI, 4, .inl se)), (th, .inr (6, [.int mn, .ref th1, .ref th2, .ref th3, .ref th4, .ref th5, .ref th6, .ref th7, .ref th8, .ref th9])), (th1, .inl (cI, 8, .inl ln)), (th2, .inl (cI, 8, .inl hi)), (th3, .inl (cI, 8, .inl wi)), (th4, .inl (cI, 8, .inl br)), (th5, .inl (cI, 8, .inl sp)), (th6, .inl (cI, 8, .inl si)), (th7, .inl (cI, 8, .inl le)), (th8, .inl (cI, 8, .inl un)), (th9, .inl (cI, 8, .inl ul)), (pi, .inr (3, [.ref pia])), (pia, .inl (cI, 384, .inl px))]
abbrev ws_hist_scene_addr (cI cC cZ cR : ClassId) (hh hst sc sea th th1 th2 th3 th4 th5 th6 th7 th8 th9 pi pia bad : Nat) (nx : Int32) (hm : Int32) (se : Nat → Int32) (mn : Int32) (ln : Nat → Int32) (hi : Nat → Int32) (wi : Nat → Int32) (br : Nat → Int32) (sp : Nat → Int32) (si : Nat → Int32) (le : Nat → Int32) (un : Nat → Int32) (ul : Nat → Int32) (px : Nat → Int32) (tm : Int32) (ps : Int32) (ft : Int32) (fk : Int32) (hfu : Nat → Option Nat) : va_W := [(hh, .inr (1, [.ref hst, .int nx, .int hm])), (hst, .inl (cR, 6, .inr (.inr (.inr (.inr hfu))))), (sc, .inr (5, [.ref sea, .ref th, .ref pi, .int tm, .int ps, .int ft, .int fk])), (sea, .inl (cI, 4, .inl se)), (th, .inr (6, [.int mn, .ref th1, .ref th2, .ref th3, .ref th4, .ref th5, .ref th6, .ref th7, .ref th8, .ref th9])), (th1, .inl (cI, 8, .inl ln)), (th2, .inl (cI, 8, .inl hi)), (th3, .inl (cI, 8, .inl wi)), (th4, .inl (cI, 8, .inl br)), (th5, .inl (cI, 8, .inl sp)), (th6, .inl (cI, 8, .inl si)), (th7, .inl (cI, 8, .inl le)), (th8, .inl (cI, 8, .inl un)), (th9, .inl (cI, 8, .inl ul)), (pi, .inr (3, [.ref pia])), (pia, .inl (cI, 384, .inl px))]
-- LeaningLines$History.record
abbrev OUT_X1_record_a : Type := Int32 × Int32 × Int32 × Int32 × Int32 × Int32 × (Nat → Int32) × Int32 × (Nat → Int32) × (Nat → Int32) × (Nat → Int32) × (Nat → Int32) × (Nat → Int32) × (Nat → Int32) × (Nat → Int32) × (Nat → Int32) × (Nat → Int32) × (Nat → Int32)
def f_X1_record_a (nx : Int32) (hm : Int32) (se : Nat → Int32) (mn : Int32) (ln : Nat → Int32) (hi : Nat → Int32) (wi : Nat → Int32) (br : Nat → Int32) (sp : Nat → Int32) (si : Nat → Int32) (le : Nat → Int32) (un : Nat → Int32) (ul : Nat → Int32) (px : Nat → Int32) (tm : Int32) (ps : Int32) (ft : Int32) (fk : Int32) (bse : Nat → Int32) (bln : Nat → Int32) (bhi : Nat → Int32) (bwi : Nat → Int32) (bbr : Nat → Int32) (bsp : Nat → Int32) (bsi : Nat → Int32) (ble : Nat → Int32) (bun : Nat → Int32) (bul : Nat → Int32) (bpx : Nat → Int32) : Option OUT_X1_record_a :=
  gd nx 6 (bn (f_X5_copyFrom bse bln bhi bwi bbr bsp bsi ble bun bul bpx se mn ln hi wi br sp si le un ul px tm ps ft fk) (fun r1 => jn (fun (j2 : Int32) => bd (if hm + 1 < 6 then hm + 1 else 6) (fun x3 => some (j2, x3, r1.1, r1.2.1, r1.2.2.1, r1.2.2.2.1, r1.2.2.2.2.1, r1.2.2.2.2.2.1, r1.2.2.2.2.2.2.1, r1.2.2.2.2.2.2.2.1, r1.2.2.2.2.2.2.2.2.1, r1.2.2.2.2.2.2.2.2.2.1, r1.2.2.2.2.2.2.2.2.2.2.1, r1.2.2.2.2.2.2.2.2.2.2.2.1, r1.2.2.2.2.2.2.2.2.2.2.2.2.1, r1.2.2.2.2.2.2.2.2.2.2.2.2.2.1, r1.2.2.2.2.2.2.2.2.2.2.2.2.2.2.1, r1.2.2.2.2.2.2.2.2.2.2.2.2.2.2.2))) (fun j56 => (if ¬ nx = 5 then j56 (nx + 1) else j56 0))))
theorem uX1_record_a_X1 : ∀ w ∈ wsX10, w ∈ wsX1_record := by decide +kernel
theorem kX1_record_a_1 : Cond.fieldLink RX1 11 "LeaningLines$History" "states" "[LLeaningLines$Scene;" ∈ wsX1_record := by decide +kernel
theorem kX1_record_a_2 : Cond.fieldLink RX1 17 "LeaningLines$History" "next" "I" ∈ wsX1_record := by decide +kernel
theorem kX1_record_a_3 : Cond.fieldLink RX1 21 "LeaningLines$History" "many" "I" ∈ wsX1_record := by decide +kernel
theorem kX1_record_a_4 : Cond.methodLink RX1 29 Lib.Math.min.name ∈ wsX1_record := by decide +kernel
theorem kX1_record_a_5 : Cond.static Lib.Math.min.name ∈ wsX1_record := by decide +kernel
theorem kX1_record_a_6 : Cond.initialized "java/lang/Math" ∈ wsX1_record := by decide +kernel
theorem kX1_record_a_7 : Cond.code Lib.Math.min.name Lib.Math.min.code 2 (some .int) ∈ wsX1_record := by decide +kernel
abbrev R_X1_record_a : Room := { frames := 3, cells := 14, slots := 478, locals := 82 }
set_option maxHeartbeats 4000000 in
set_option maxRecDepth 100000 in
theorem m_X1_record_a (l : Launch) (D : va_G) (cI cC cZ cR : ClassId) (hh hst sc sea th th1 th2 th3 th4 th5 th6 th7 th8 th9 pi pia bsc bsea bth bth1 bth2 bth3 bth4 bth5 bth6 bth7 bth8 bth9 bpi bpia : Nat) (sz : Nat) (nx : Int32) (hm : Int32) (se : Nat → Int32) (mn : Int32) (ln : Nat → Int32) (hi : Nat → Int32) (wi : Nat → Int32) (br : Nat → Int32) (sp : Nat → Int32) (si : Nat → Int32) (le : Nat → Int32) (un : Nat → Int32) (ul : Nat → Int32) (px : Nat → Int32) (tm : Int32) (ps : Int32) (ft : Int32) (fk : Int32) (bse : Nat → Int32) (bmn : Int32) (bln : Nat → Int32) (bhi : Nat → Int32) (bwi : Nat → Int32) (bbr : Nat → Int32) (bsp : Nat → Int32) (bsi : Nat → Int32) (ble : Nat → Int32) (bun : Nat → Int32) (bul : Nat → Int32) (bpx : Nat → Int32) (btm : Int32) (bps : Int32) (bft : Int32) (bfk : Int32) (hfu : Nat → Option Nat)   (hq : hfu nx.toNatClampNeg = some bsc) (r : OUT_X1_record_a) (hf : f_X1_record_a nx hm se mn ln hi wi br sp si le un ul px tm ps ft fk bse bln bhi bwi bbr bsp bsi ble bun bul bpx = some r) : Met l yX1_record wsX1_record R_X1_record_a (cPc D cI cC cZ cR [.ref hh, .ref sc] sz (ws_hist_scene_scene cI cC cZ cR hh hst sc sea th th1 th2 th3 th4 th5 th6 th7 th8 th9 pi pia bsc bsea bth bth1 bth2 bth3 bth4 bth5 bth6 bth7 bth8 bth9 bpi bpia nx hm se mn ln hi wi br sp si le un ul px tm ps ft fk bse bmn bln bhi bwi bbr bsp bsi ble bun bul bpx btm bps bft bfk hfu)) (cQv D (ws_hist_scene_scene cI cC cZ cR hh hst sc sea th th1 th2 th3 th4 th5 th6 th7 th8 th9 pi pia bsc bsea bth bth1 bth2 bth3 bth4 bth5 bth6 bth7 bth8 bth9 bpi bpia r.1 r.2.1 se mn ln hi wi br sp si le un ul px tm ps ft fk r.2.2.2.2.2.2.1 r.2.2.2.2.2.2.2.1 r.2.2.2.2.2.2.2.2.1 r.2.2.2.2.2.2.2.2.2.1 r.2.2.2.2.2.2.2.2.2.2.1 r.2.2.2.2.2.2.2.2.2.2.2.1 r.2.2.2.2.2.2.2.2.2.2.2.2.1 r.2.2.2.2.2.2.2.2.2.2.2.2.2.1 r.2.2.2.2.2.2.2.2.2.2.2.2.2.2.1 r.2.2.2.2.2.2.2.2.2.2.2.2.2.2.2.1 r.2.2.2.2.2.2.2.2.2.2.2.2.2.2.2.2.1 r.2.2.2.2.2.2.2.2.2.2.2.2.2.2.2.2.2 r.2.2.1 r.2.2.2.1 r.2.2.2.2.1 r.2.2.2.2.2.1 hfu) (va_A (ws_hist_scene_scene cI cC cZ cR hh hst sc sea th th1 th2 th3 th4 th5 th6 th7 th8 th9 pi pia bsc bsea bth bth1 bth2 bth3 bth4 bth5 bth6 bth7 bth8 bth9 bpi bpia nx hm se mn ln hi wi br sp si le un ul px tm ps ft fk bse bmn bln bhi bwi bbr bsp bsi ble bun bul bpx btm bps bft bfk hfu) sz)) 14 478 (va_A (ws_hist_scene_scene cI cC cZ cR hh hst sc sea th th1 th2 th3 th4 th5 th6 th7 th8 th9 pi pia bsc bsea bth bth1 bth2 bth3 bth4 bth5 bth6 bth7 bth8 bth9 bpi bpia nx hm se mn ln hi wi br sp si le un ul px tm ps ft fk bse bmn bln bhi bwi bbr bsp bsi ble bun bul bpx btm bps bft bfk hfu) sz) := by
  refine Met.ofW (cc := cX1_record) (maxL := 3) (ret := none) (by decide) rfl ?_
  intro p e s m args below meth c s₁ B hml hv
  obtain ⟨rfl, hsz, hP, hK, hD0⟩ := hv
  have hx := B.exec
  have hb := B.bytes
  have hr := B.returns
  have hts := atoms_spec (ws := wsX1_record) B.pre
  have hown : s.vm.findClass RX1 = some m.cls := findClass_of_methodNamed B.named
  have hlocks := B.notSynchronized
  subst hsz
  have hD := hD0.self (sz := s.heap.size)
  generalize hAe : va_A (ws_hist_scene_scene cI cC cZ cR hh hst sc sea th th1 th2 th3 th4 th5 th6 th7 th8 th9 pi pia bsc bsea bth bth1 bth2 bth3 bth4 bth5 bth6 bth7 bth8 bth9 bpi bpia nx hm se mn ln hi wi br sp si le un ul px tm ps ft fk bse bmn bln bhi bwi bbr bsp bsi ble bun bul bpx btm bps bft bfk hfu) s.heap.size = A at hD ⊢
  skip
  have hA : ∀ q : Nat, s.heap.size ≤ q → A q := fun q h => by rw [← hAe]; exact Or.inr h
  have hS : va_S A s.heap s.heap [] := va_S.rf
  have hl := lv_entry ([.ref hh, .ref sc]) (n := 3) (Nat.le_of_ble_eq_true rfl)
  rw [lg_entry_eq]
  generalize (lg_sl ([.ref hh, .ref sc]) ++ List.replicate (3 - (lg_sl ([.ref hh, .ref sc])).length) Slot.unset).toArray = ls at hl ⊢
  have hl : lv_has ls 3 [(0, .ref hh), (1, .ref sc)] := hl
  refine W_absQ (fun Q hQ => ?_)
  refine W.eq (g2 := F0 m 0 ls []) rfl ?_
  have h := hf
  unfold f_X1_record_a at h
  refine lv_aload_n hx hb dX1_record_0 rfl (lv_at hl 0 rfl) ?_
  refine va_get (D := D) (ci := 1) (v := .ref hst) (C := RX1) (T := TX1) (N := 3) hx hb hts uX1_record_a_X1 hown hK.1 hP 0 rfl rfl 0 (by decide) (hts _ kX1_record_a_1) (fun _ h9 => h9) rfl dX1_record_1 ?_
  refine lv_aload_n hx hb dX1_record_4 rfl (lv_at hl 0 rfl) ?_
  refine va_get (D := D) (ci := 1) (v := .int nx) (C := RX1) (T := TX1) (N := 3) hx hb hts uX1_record_a_X1 hown hK.1 hP 0 rfl rfl 1 (by decide) (hts _ kX1_record_a_2) (fun _ h9 => h9) rfl dX1_record_5 ?_
  obtain ⟨hin, h⟩ := gd_sp h
  refine va_aldq (D := D) hx hb hK.1 hP 1 3 rfl rfl hin dX1_record_8 ?_
  refine W.eq (g2 := F0 m 9 ls [.ref bsc]) (by rw [hq]; rfl) ?_
  refine lv_astore_n (lv' := [(2, .ref bsc), (0, .ref hh), (1, .ref sc)]) hx hb dX1_record_9 rfl hl (by decide) rfl (fun ls hl => ?_)
  refine lv_aload_n hx hb dX1_record_10 rfl (lv_at hl 0 rfl) ?_
  refine lv_ifnonnull (tgt := 32) hx hb dX1_record_11 (by decide) ?_
  refine lv_aload_n hx hb dX1_record_32 rfl (lv_at hl 0 rfl) ?_
  refine lv_aload_n hx hb dX1_record_33 rfl (lv_at hl 2 rfl) ?_
  obtain ⟨r1, hcr1, h⟩ := bn_sp h
  have hPc := hP.sub (ws' := (ws_scene_scene cI cC cZ cR bsc bsea bth bth1 bth2 bth3 bth4 bth5 bth6 bth7 bth8 bth9 bpi bpia sc sea th th1 th2 th3 th4 th5 th6 th7 th8 th9 pi pia bse bmn bln bhi bwi bbr bsp bsi ble bun bul bpx btm bps bft bfk se mn ln hi wi br sp si le un ul px tm ps ft fk)) [16, 17, 18, 19, 20, 21, 22, 23, 24, 25, 26, 27, 28, 29, 2, 3, 4, 5, 6, 7, 8, 9, 10, 11, 12, 13, 14, 15] rfl
  have hDc := hD.sub (ws' := (ws_scene_scene cI cC cZ cR bsc bsea bth bth1 bth2 bth3 bth4 bth5 bth6 bth7 bth8 bth9 bpi bpia sc sea th th1 th2 th3 th4 th5 th6 th7 th8 th9 pi pia bse bmn bln bhi bwi bbr bsp bsi ble bun bul bpx btm bps bft bfk se mn ln hi wi br sp si le un ul px tm ps ft fk)) [16, 17, 18, 19, 20, 21, 22, 23, 24, 25, 26, 27, 28, 29, 2, 3, 4, 5, 6, 7, 8, 9, 10, 11, 12, 13, 14, 15] (by decide) rfl
  have hFc := va_free (wc := (ws_scene_scene cI cC cZ cR bsc bsea bth bth1 bth2 bth3 bth4 bth5 bth6 bth7 bth8 bth9 bpi bpia sc sea th th1 th2 th3 th4 th5 th6 th7 th8 th9 pi pia bse bmn bln bhi bwi bbr bsp bsi ble bun bul bpx btm bps bft bfk se mn ln hi wi br sp si le un ul px tm ps ft fk)) hD hS hA [16, 17, 18, 19, 20, 21, 22, 23, 24, 25, 26, 27, 28, 29, 2, 3, 4, 5, 6, 7, 8, 9, 10, 11, 12, 13, 14, 15] rfl
  refine va_callv (va_runV (As := [.ref sc]) (rest := []) ⟨hx, hb, hml, hown, hts⟩ (m_X5_copyFrom l D cI cC cZ cR bsc bsea bth bth1 bth2 bth3 bth4 bth5 bth6 bth7 bth8 bth9 bpi bpia sc sea th th1 th2 th3 th4 th5 th6 th7 th8 th9 pi pia _ bse bmn bln bhi bwi bbr bsp bsi ble bun bul bpx btm bps bft bfk se mn ln hi wi br sp si le un ul px tm ps ft fk    r1 hcr1) (cwV 1 hts gX1_record_X5_copyFrom rfl rfl rfl (by decide +kernel) ⟨Nat.le_of_ble_eq_true rfl, Nat.le_of_ble_eq_true rfl⟩) (cPc_pv hPc hK hDc (ci := 5) (q0 := 0) rfl rfl) rfl rfl hl.1 rfl (lv_room (Nat.le_of_ble_eq_true rfl)) dX1_record_34 ⟨Nat.le_of_ble_eq_true rfl, Nat.le_of_ble_eq_true rfl⟩) hS (fun q _ h => hFc q h) hFc (fun u t H1 locs ht hvm hw hB hz1 hk1 hS => ?_)
  obtain ⟨hP1, hD1⟩ := hB
  rw [ht] at hP1
  obtain ⟨hP, hD⟩ := va_join (wr := [(hh, .inr (1, [.ref hst, .int nx, .int hm])), (hst, .inl (cR, 6, .inr (.inr (.inr (.inr hfu)))))]) (w1 := (ws_scene_scene cI cC cZ cR bsc bsea bth bth1 bth2 bth3 bth4 bth5 bth6 bth7 bth8 bth9 bpi bpia sc sea th th1 th2 th3 th4 th5 th6 th7 th8 th9 pi pia r1.2.2.2.2.1 r1.2.2.2.2.2.1 r1.2.2.2.2.2.2.1 r1.2.2.2.2.2.2.2.1 r1.2.2.2.2.2.2.2.2.1 r1.2.2.2.2.2.2.2.2.2.1 r1.2.2.2.2.2.2.2.2.2.2.1 r1.2.2.2.2.2.2.2.2.2.2.2.1 r1.2.2.2.2.2.2.2.2.2.2.2.2.1 r1.2.2.2.2.2.2.2.2.2.2.2.2.2.1 r1.2.2.2.2.2.2.2.2.2.2.2.2.2.2.1 r1.2.2.2.2.2.2.2.2.2.2.2.2.2.2.2 r1.1 r1.2.1 r1.2.2.1 r1.2.2.2.1 se mn ln hi wi br sp si le un ul px tm ps ft fk)) hP hD [16, 17, 18, 19, 20, 21, 22, 23, 24, 25, 26, 27, 28, 29, 2, 3, 4, 5, 6, 7, 8, 9, 10, 11, 12, 13, 14, 15] [0, 1] rfl rfl (by decide) (by decide) hk1 hFc hP1 hD1
  have hP := hP.sub (ws' := (ws_hist_scene_scene cI cC cZ cR hh hst sc sea th th1 th2 th3 th4 th5 th6 th7 th8 th9 pi pia bsc bsea bth bth1 bth2 bth3 bth4 bth5 bth6 bth7 bth8 bth9 bpi bpia nx hm se mn ln hi wi br sp si le un ul px tm ps ft fk r1.2.2.2.2.1 r1.2.2.2.2.2.1 r1.2.2.2.2.2.2.1 r1.2.2.2.2.2.2.2.1 r1.2.2.2.2.2.2.2.2.1 r1.2.2.2.2.2.2.2.2.2.1 r1.2.2.2.2.2.2.2.2.2.2.1 r1.2.2.2.2.2.2.2.2.2.2.2.1 r1.2.2.2.2.2.2.2.2.2.2.2.2.1 r1.2.2.2.2.2.2.2.2.2.2.2.2.2.1 r1.2.2.2.2.2.2.2.2.2.2.2.2.2.2.1 r1.2.2.2.2.2.2.2.2.2.2.2.2.2.2.2 r1.1 r1.2.1 r1.2.2.1 r1.2.2.2.1 hfu)) [0, 1, 16, 17, 18, 19, 20, 21, 22, 23, 24, 25, 26, 27, 28, 29, 2, 3, 4, 5, 6, 7, 8, 9, 10, 11, 12, 13, 14, 15] rfl
  have hD := hD.sub (ws' := (ws_hist_scene_scene cI cC cZ cR hh hst sc sea th th1 th2 th3 th4 th5 th6 th7 th8 th9 pi pia bsc bsea bth bth1 bth2 bth3 bth4 bth5 bth6 bth7 bth8 bth9 bpi bpia nx hm se mn ln hi wi br sp si le un ul px tm ps ft fk r1.2.2.2.2.1 r1.2.2.2.2.2.1 r1.2.2.2.2.2.2.1 r1.2.2.2.2.2.2.2.1 r1.2.2.2.2.2.2.2.2.1 r1.2.2.2.2.2.2.2.2.2.1 r1.2.2.2.2.2.2.2.2.2.2.1 r1.2.2.2.2.2.2.2.2.2.2.2.1 r1.2.2.2.2.2.2.2.2.2.2.2.2.1 r1.2.2.2.2.2.2.2.2.2.2.2.2.2.1 r1.2.2.2.2.2.2.2.2.2.2.2.2.2.2.1 r1.2.2.2.2.2.2.2.2.2.2.2.2.2.2.2 r1.1 r1.2.1 r1.2.2.1 r1.2.2.2.1 hfu)) [0, 1, 16, 17, 18, 19, 20, 21, 22, 23, 24, 25, 26, 27, 28, 29, 2, 3, 4, 5, 6, 7, 8, 9, 10, 11, 12, 13, 14, 15] (by decide) rfl
  generalize H1 = H at hP hS ⊢
  refine lv_aload_n hx hb dX1_record_37 rfl (lv_at hl 1 rfl) ?_
  refine lv_aload_n hx hb dX1_record_38 rfl (lv_at hl 1 rfl) ?_
  refine va_get (D := D) (ci := 1) (v := .int nx) (C := RX1) (T := TX1) (N := 3) hx hb hts uX1_record_a_X1 hown hK.1 hP 0 rfl rfl 1 (by decide) (hts _ kX1_record_a_2) (fun _ h9 => h9) rfl dX1_record_39 ?_
  refine lv_iconst (v := 5) hx hb dX1_record_42 (by decide) ?_
  obtain ⟨j56, hj56, h⟩ := jn_sp h
  have J56 : ∀ (j2 : Int32) (H : Heap) (locs : List Loc) (ls : Array Slot), j56 j2 = some r → va_P D vwCl (ws_hist_scene_scene cI cC cZ cR hh hst sc sea th th1 th2 th3 th4 th5 th6 th7 th8 th9 pi pia bsc bsea bth bth1 bth2 bth3 bth4 bth5 bth6 bth7 bth8 bth9 bpi bpia nx hm se mn ln hi wi br sp si le un ul px tm ps ft fk r1.2.2.2.2.1 r1.2.2.2.2.2.1 r1.2.2.2.2.2.2.1 r1.2.2.2.2.2.2.2.1 r1.2.2.2.2.2.2.2.2.1 r1.2.2.2.2.2.2.2.2.2.1 r1.2.2.2.2.2.2.2.2.2.2.1 r1.2.2.2.2.2.2.2.2.2.2.2.1 r1.2.2.2.2.2.2.2.2.2.2.2.2.1 r1.2.2.2.2.2.2.2.2.2.2.2.2.2.1 r1.2.2.2.2.2.2.2.2.2.2.2.2.2.2.1 r1.2.2.2.2.2.2.2.2.2.2.2.2.2.2.2 r1.1 r1.2.1 r1.2.2.1 r1.2.2.2.1 hfu) H → va_D A (ws_hist_scene_scene cI cC cZ cR hh hst sc sea th th1 th2 th3 th4 th5 th6 th7 th8 th9 pi pia bsc bsea bth bth1 bth2 bth3 bth4 bth5 bth6 bth7 bth8 bth9 bpi bpia nx hm se mn ln hi wi br sp si le un ul px tm ps ft fk r1.2.2.2.2.1 r1.2.2.2.2.2.1 r1.2.2.2.2.2.2.1 r1.2.2.2.2.2.2.2.1 r1.2.2.2.2.2.2.2.2.1 r1.2.2.2.2.2.2.2.2.2.1 r1.2.2.2.2.2.2.2.2.2.2.1 r1.2.2.2.2.2.2.2.2.2.2.2.1 r1.2.2.2.2.2.2.2.2.2.2.2.2.1 r1.2.2.2.2.2.2.2.2.2.2.2.2.2.1 r1.2.2.2.2.2.2.2.2.2.2.2.2.2.2.1 r1.2.2.2.2.2.2.2.2.2.2.2.2.2.2.2 r1.1 r1.2.1 r1.2.2.1 r1.2.2.2.1 hfu) → va_S A s.heap H locs → lv_has ls 3 [(0, .ref hh), (1, .ref sc), (2, .ref bsc)] → W p l e R_X1_record_a s m ([.ref hh, .ref sc] : List Value).toArray below meth c H locs 0 0 Q (F0 m 56 ls [.int j2, .ref hh]) := by
    intro j2 H locs ls h hP hD hS hl
    rw [hj56] at h
    refine va_put (D := D) (ci := 1) (v := .int j2) (ty := .int) (C := RX1) (T := TX1) (N := 3) hx hb hts uX1_record_a_X1 tyX1 tyX1_ok nmX1 hown hK.1 hP hD hS 0 rfl rfl 1 (by decide) (hts _ kX1_record_a_2) (fun _ h9 => h9) rfl (by decide +kernel) rfl rfl (Nat.le_of_ble_eq_true rfl) dX1_record_56 (fun H locs hP hD hS => ?_)
    have hP : va_P D vwCl (ws_hist_scene_scene cI cC cZ cR hh hst sc sea th th1 th2 th3 th4 th5 th6 th7 th8 th9 pi pia bsc bsea bth bth1 bth2 bth3 bth4 bth5 bth6 bth7 bth8 bth9 bpi bpia j2 hm se mn ln hi wi br sp si le un ul px tm ps ft fk r1.2.2.2.2.1 r1.2.2.2.2.2.1 r1.2.2.2.2.2.2.1 r1.2.2.2.2.2.2.2.1 r1.2.2.2.2.2.2.2.2.1 r1.2.2.2.2.2.2.2.2.2.1 r1.2.2.2.2.2.2.2.2.2.2.1 r1.2.2.2.2.2.2.2.2.2.2.2.1 r1.2.2.2.2.2.2.2.2.2.2.2.2.1 r1.2.2.2.2.2.2.2.2.2.2.2.2.2.1 r1.2.2.2.2.2.2.2.2.2.2.2.2.2.2.1 r1.2.2.2.2.2.2.2.2.2.2.2.2.2.2.2 r1.1 r1.2.1 r1.2.2.1 r1.2.2.2.1 hfu) H := hP
    have hD : va_D A (ws_hist_scene_scene cI cC cZ cR hh hst sc sea th th1 th2 th3 th4 th5 th6 th7 th8 th9 pi pia bsc bsea bth bth1 bth2 bth3 bth4 bth5 bth6 bth7 bth8 bth9 bpi bpia j2 hm se mn ln hi wi br sp si le un ul px tm ps ft fk r1.2.2.2.2.1 r1.2.2.2.2.2.1 r1.2.2.2.2.2.2.1 r1.2.2.2.2.2.2.2.1 r1.2.2.2.2.2.2.2.2.1 r1.2.2.2.2.2.2.2.2.2.1 r1.2.2.2.2.2.2.2.2.2.2.1 r1.2.2.2.2.2.2.2.2.2.2.2.1 r1.2.2.2.2.2.2.2.2.2.2.2.2.1 r1.2.2.2.2.2.2.2.2.2.2.2.2.2.1 r1.2.2.2.2.2.2.2.2.2.2.2.2.2.2.1 r1.2.2.2.2.2.2.2.2.2.2.2.2.2.2.2 r1.1 r1.2.1 r1.2.2.1 r1.2.2.2.1 hfu) := hD
    refine lv_aload_n hx hb dX1_record_59 rfl (lv_at hl 0 rfl) ?_
    refine lv_bipush (v := 6) hx hb dX1_record_60 (by decide) ?_
    refine lv_aload_n hx hb dX1_record_62 rfl (lv_at hl 0 rfl) ?_
    refine va_get (D := D) (ci := 1) (v := .int hm) (C := RX1) (T := TX1) (N := 3) hx hb hts uX1_record_a_X1 hown hK.1 hP 0 rfl rfl 2 (by decide) (hts _ kX1_record_a_3) (fun _ h9 => h9) rfl dX1_record_63 ?_
    refine lv_iconst (v := 1) hx hb dX1_record_66 (by decide) ?_
    refine lv_iadd hx hb dX1_record_67 ?_
    refine va_mmin hx hb (by rw [hml]; exact hl.1.symm) hown (hts _ kX1_record_a_4) (hts _ kX1_record_a_5) (hts _ kX1_record_a_6) (hts _ kX1_record_a_7) (Nat.le_of_ble_eq_true rfl) (Nat.le_of_ble_eq_true rfl) (Nat.le_of_ble_eq_true rfl) (Nat.le_of_ble_eq_true rfl) dX1_record_68 ?_
    refine lv_topi (fun x3 ex3 => ?_)
    replace h := bd_s2 h ex3
    refine va_put (D := D) (ci := 1) (v := .int x3) (ty := .int) (C := RX1) (T := TX1) (N := 3) hx hb hts uX1_record_a_X1 tyX1 tyX1_ok nmX1 hown hK.1 hP hD hS 0 rfl rfl 2 (by decide) (hts _ kX1_record_a_3) (fun _ h9 => h9) rfl (by decide +kernel) rfl rfl (Nat.le_of_ble_eq_true rfl) dX1_record_71 (fun H locs hP hD hS => ?_)
    have hP : va_P D vwCl (ws_hist_scene_scene cI cC cZ cR hh hst sc sea th th1 th2 th3 th4 th5 th6 th7 th8 th9 pi pia bsc bsea bth bth1 bth2 bth3 bth4 bth5 bth6 bth7 bth8 bth9 bpi bpia j2 x3 se mn ln hi wi br sp si le un ul px tm ps ft fk r1.2.2.2.2.1 r1.2.2.2.2.2.1 r1.2.2.2.2.2.2.1 r1.2.2.2.2.2.2.2.1 r1.2.2.2.2.2.2.2.2.1 r1.2.2.2.2.2.2.2.2.2.1 r1.2.2.2.2.2.2.2.2.2.2.1 r1.2.2.2.2.2.2.2.2.2.2.2.1 r1.2.2.2.2.2.2.2.2.2.2.2.2.1 r1.2.2.2.2.2.2.2.2.2.2.2.2.2.1 r1.2.2.2.2.2.2.2.2.2.2.2.2.2.2.1 r1.2.2.2.2.2.2.2.2.2.2.2.2.2.2.2 r1.1 r1.2.1 r1.2.2.1 r1.2.2.2.1 hfu) H := hP
    have hD : va_D A (ws_hist_scene_scene cI cC cZ cR hh hst sc sea th th1 th2 th3 th4 th5 th6 th7 th8 th9 pi pia bsc bsea bth bth1 bth2 bth3 bth4 bth5 bth6 bth7 bth8 bth9 bpi bpia j2 x3 se mn ln hi wi br sp si le un ul px tm ps ft fk r1.2.2.2.2.1 r1.2.2.2.2.2.1 r1.2.2.2.2.2.2.1 r1.2.2.2.2.2.2.2.1 r1.2.2.2.2.2.2.2.2.1 r1.2.2.2.2.2.2.2.2.2.1 r1.2.2.2.2.2.2.2.2.2.2.1 r1.2.2.2.2.2.2.2.2.2.2.2.1 r1.2.2.2.2.2.2.2.2.2.2.2.2.1 r1.2.2.2.2.2.2.2.2.2.2.2.2.2.1 r1.2.2.2.2.2.2.2.2.2.2.2.2.2.2.1 r1.2.2.2.2.2.2.2.2.2.2.2.2.2.2.2 r1.1 r1.2.1 r1.2.2.1 r1.2.2.2.1 hfu) := hD
    have e9 := Option.some.inj h
    subst e9
    rw [hQ]
    refine W.widen (k := 14) (n := 478) (by decide) (by decide) ?_
    exact W.vret hx hb hr (fun t ht hW => ⟨⟨(), rfl, trivial, by rw [ht]; exact hP, hD⟩, hS.F ht⟩) hS.2.2 dX1_record_74
  refine lv_icmp_ne (tgt := 50) hx hb dX1_record_43 (by decide) (fun c4 => ?_) (fun c4 => ?_)
  · replace h := br_p c4 h
    refine lv_aload_n hx hb dX1_record_50 rfl (lv_at hl 1 rfl) ?_
    refine va_get (D := D) (ci := 1) (v := .int nx) (C := RX1) (T := TX1) (N := 3) hx hb hts uX1_record_a_X1 hown hK.1 hP 0 rfl rfl 1 (by decide) (hts _ kX1_record_a_2) (fun _ h9 => h9) rfl dX1_record_51 ?_
    refine lv_iconst (v := 1) hx hb dX1_record_54 (by decide) ?_
    refine lv_iadd hx hb dX1_record_55 ?_
    exact J56 _ _ _ _ h hP hD hS (lv_sub hl [1, 2, 0] rfl)
  · replace h := br_n (not_not_intro c4) h
    refine lv_iconst (v := 0) hx hb dX1_record_46 (by decide) ?_
    refine lv_goto (tgt := 56) hx hb dX1_record_47 (by decide) ?_
    exact J56 _ _ _ _ h hP hD hS (lv_sub hl [1, 2, 0] rfl)
-- LeaningLines$History.record
abbrev OUT_X1_record_b : Type := Int32 × Int32 × Int32 × Int32 × Int32 × Int32 × (Nat → Int32) × Int32 × (Nat → Int32) × (Nat → Int32) × (Nat → Int32) × (Nat → Int32) × (Nat → Int32) × (Nat → Int32) × (Nat → Int32) × (Nat → Int32) × (Nat → Int32) × (Nat → Int32)
def f_X1_record_b (nx : Int32) (hm : Int32) (se : Nat → Int32) (mn : Int32) (ln : Nat → Int32) (hi : Nat → Int32) (wi : Nat → Int32) (br : Nat → Int32) (sp : Nat → Int32) (si : Nat → Int32) (le : Nat → Int32) (un : Nat → Int32) (ul : Nat → Int32) (px : Nat → Int32) (tm : Int32) (ps : Int32) (ft : Int32) (fk : Int32) : Option OUT_X1_record_b :=
  gd nx 6 (bn (f_X5_init) (fun r2 => gd nx 6 (bn (f_X5_copyFrom r2.2.1 r2.2.2.2.1 r2.2.2.2.2.1 r2.2.2.2.2.2.1 r2.2.2.2.2.2.2.1 r2.2.2.2.2.2.2.2.1 r2.2.2.2.2.2.2.2.2.1 r2.2.2.2.2.2.2.2.2.2.1 r2.2.2.2.2.2.2.2.2.2.2.1 r2.2.2.2.2.2.2.2.2.2.2.2.1 r2.2.2.2.2.2.2.2.2.2.2.2.2 se mn ln hi wi br sp si le un ul px tm ps ft fk) (fun r4 => jn (fun (j5 : Int32) => bd (if hm + 1 < 6 then hm + 1 else 6) (fun x6 => some (j5, x6, r4.1, r4.2.1, r4.2.2.1, r4.2.2.2.1, r4.2.2.2.2.1, r4.2.2.2.2.2.1, r4.2.2.2.2.2.2.1, r4.2.2.2.2.2.2.2.1, r4.2.2.2.2.2.2.2.2.1, r4.2.2.2.2.2.2.2.2.2.1, r4.2.2.2.2.2.2.2.2.2.2.1, r4.2.2.2.2.2.2.2.2.2.2.2.1, r4.2.2.2.2.2.2.2.2.2.2.2.2.1, r4.2.2.2.2.2.2.2.2.2.2.2.2.2.1, r4.2.2.2.2.2.2.2.2.2.2.2.2.2.2.1, r4.2.2.2.2.2.2.2.2.2.2.2.2.2.2.2))) (fun j56 => (if ¬ nx = 5 then j56 (nx + 1) else j56 0))))))
theorem uX1_record_b_X1 : ∀ w ∈ wsX10, w ∈ wsX1_record := by decide +kernel
theorem kX1_record_b_1 : Cond.fieldLink RX1 11 "LeaningLines$History" "states" "[LLeaningLines$Scene;" ∈ wsX1_record := by decide +kernel
theorem kX1_record_b_2 : Cond.fieldLink RX1 17 "LeaningLines$History" "next" "I" ∈ wsX1_record := by decide +kernel
theorem uX1_record_b_X5 : ∀ w ∈ wsX50, w ∈ wsX1_record := by decide +kernel
theorem kX1_record_b_4 : Cond.classLink RX1 9 RX5 ∈ wsX1_record := by decide +kernel
theorem kX1_record_b_5 : Cond.instantiable RX5 7 ∈ wsX1_record := by decide +kernel
theorem kX1_record_b_6 : Cond.initialized RX5 ∈ wsX1_record := by decide +kernel
theorem kX1_record_b_7 : Cond.instanceMethod yX5_init ∈ wsX1_record := by decide +kernel
theorem kX1_record_b_8 : Cond.fieldLink RX1 21 "LeaningLines$History" "many" "I" ∈ wsX1_record := by decide +kernel
theorem kX1_record_b_9 : Cond.methodLink RX1 29 Lib.Math.min.name ∈ wsX1_record := by decide +kernel
theorem kX1_record_b_10 : Cond.static Lib.Math.min.name ∈ wsX1_record := by decide +kernel
theorem kX1_record_b_11 : Cond.initialized "java/lang/Math" ∈ wsX1_record := by decide +kernel
theorem kX1_record_b_12 : Cond.code Lib.Math.min.name Lib.Math.min.code 2 (some .int) ∈ wsX1_record := by decide +kernel
abbrev R_X1_record_b : Room := { frames := 3, cells := 14, slots := 478, locals := 82 }
set_option maxHeartbeats 4000000 in
set_option maxRecDepth 100000 in
theorem m_X1_record_b (l : Launch) (D : va_G) (cI cC cZ cR : ClassId) (hh hst sc sea th th1 th2 th3 th4 th5 th6 th7 th8 th9 pi pia : Nat) (sz : Nat) (nx : Int32) (hm : Int32) (se : Nat → Int32) (mn : Int32) (ln : Nat → Int32) (hi : Nat → Int32) (wi : Nat → Int32) (br : Nat → Int32) (sp : Nat → Int32) (si : Nat → Int32) (le : Nat → Int32) (un : Nat → Int32) (ul : Nat → Int32) (px : Nat → Int32) (tm : Int32) (ps : Int32) (ft : Int32) (fk : Int32) (hfu : Nat → Option Nat)  (b0 : Nat) (hq : hfu nx.toNatClampNeg = none) (r : OUT_X1_record_b) (hf : f_X1_record_b nx hm se mn ln hi wi br sp si le un ul px tm ps ft fk = some r) : Met l yX1_record wsX1_record R_X1_record_b (cPcS D cI cC cZ cR b0 [.ref hh, .ref sc] sz (ws_hist_scene cI cC cZ cR hh hst sc sea th th1 th2 th3 th4 th5 th6 th7 th8 th9 pi pia nx hm se mn ln hi wi br sp si le un ul px tm ps ft fk hfu)) (cQn D (va_A (ws_hist_scene cI cC cZ cR hh hst sc sea th th1 th2 th3 th4 th5 th6 th7 th8 th9 pi pia nx hm se mn ln hi wi br sp si le un ul px tm ps ft fk hfu) sz) (fun u => [(hh, .inr (1, [.ref hst, .int r.1, .int r.2.1])), (hst, .inl (cR, 6, .inr (.inr (.inr (.inr (va_up hfu nx.toNatClampNeg (some (u 0)))))))), (sc, .inr (5, [.ref sea, .ref th, .ref pi, .int tm, .int ps, .int ft, .int fk])), (sea, .inl (cI, 4, .inl se)), (th, .inr (6, [.int mn, .ref th1, .ref th2, .ref th3, .ref th4, .ref th5, .ref th6, .ref th7, .ref th8, .ref th9])), (th1, .inl (cI, 8, .inl ln)), (th2, .inl (cI, 8, .inl hi)), (th3, .inl (cI, 8, .inl wi)), (th4, .inl (cI, 8, .inl br)), (th5, .inl (cI, 8, .inl sp)), (th6, .inl (cI, 8, .inl si)), (th7, .inl (cI, 8, .inl le)), (th8, .inl (cI, 8, .inl un)), (th9, .inl (cI, 8, .inl ul)), (pi, .inr (3, [.ref pia])), (pia, .inl (cI, 384, .inl px)), ((u 0), .inr (5, [.ref (u 1), .ref (u 2), .ref (u 12), .int r.2.2.1, .int r.2.2.2.1, .int r.2.2.2.2.1, .int r.2.2.2.2.2.1])), ((u 1), .inl (cI, 4, .inl r.2.2.2.2.2.2.1)), ((u 2), .inr (6, [.int r.2.2.2.2.2.2.2.1, .ref (u 3), .ref (u 4), .ref (u 5), .ref (u 6), .ref (u 7), .ref (u 8), .ref (u 9), .ref (u 10), .ref (u 11)])), ((u 3), .inl (cI, 8, .inl r.2.2.2.2.2.2.2.2.1)), ((u 4), .inl (cI, 8, .inl r.2.2.2.2.2.2.2.2.2.1)), ((u 5), .inl (cI, 8, .inl r.2.2.2.2.2.2.2.2.2.2.1)), ((u 6), .inl (cI, 8, .inl r.2.2.2.2.2.2.2.2.2.2.2.1)), ((u 7), .inl (cI, 8, .inl r.2.2.2.2.2.2.2.2.2.2.2.2.1)), ((u 8), .inl (cI, 8, .inl r.2.2.2.2.2.2.2.2.2.2.2.2.2.1)), ((u 9), .inl (cI, 8, .inl r.2.2.2.2.2.2.2.2.2.2.2.2.2.2.1)), ((u 10), .inl (cI, 8, .inl r.2.2.2.2.2.2.2.2.2.2.2.2.2.2.2.1)), ((u 11), .inl (cI, 8, .inl r.2.2.2.2.2.2.2.2.2.2.2.2.2.2.2.2.1)), ((u 12), .inr (3, [.ref (u 13)])), ((u 13), .inl (cI, 384, .inl r.2.2.2.2.2.2.2.2.2.2.2.2.2.2.2.2.2))])) 14 478 (va_A (ws_hist_scene cI cC cZ cR hh hst sc sea th th1 th2 th3 th4 th5 th6 th7 th8 th9 pi pia nx hm se mn ln hi wi br sp si le un ul px tm ps ft fk hfu) sz) := by
  refine Met.ofW (cc := cX1_record) (maxL := 3) (ret := none) (by decide) rfl ?_
  intro p e s m args below meth c s₁ B hml hv
  obtain ⟨rfl, hsz, hP, hK, hD0, hb0, hstt⟩ := hv
  have hx := B.exec
  have hb := B.bytes
  have hr := B.returns
  have hts := atoms_spec (ws := wsX1_record) B.pre
  have hown : s.vm.findClass RX1 = some m.cls := findClass_of_methodNamed B.named
  have hlocks := B.notSynchronized
  subst hsz
  have hD := hD0.self (sz := s.heap.size)
  generalize hAe : va_A (ws_hist_scene cI cC cZ cR hh hst sc sea th th1 th2 th3 th4 th5 th6 th7 th8 th9 pi pia nx hm se mn ln hi wi br sp si le un ul px tm ps ft fk hfu) s.heap.size = A at hD ⊢
  have hAb := hAb_of hAe hD0 hb0
  have hA : ∀ q : Nat, s.heap.size ≤ q → A q := fun q h => by rw [← hAe]; exact Or.inr h
  have hS : va_S A s.heap s.heap [] := va_S.rf
  have hl := lv_entry ([.ref hh, .ref sc]) (n := 3) (Nat.le_of_ble_eq_true rfl)
  rw [lg_entry_eq]
  generalize (lg_sl ([.ref hh, .ref sc]) ++ List.replicate (3 - (lg_sl ([.ref hh, .ref sc])).length) Slot.unset).toArray = ls at hl ⊢
  have hl : lv_has ls 3 [(0, .ref hh), (1, .ref sc)] := hl
  refine W_absQ (fun Q hQ => ?_)
  refine W.eq (g2 := F0 m 0 ls []) rfl ?_
  have h := hf
  unfold f_X1_record_b at h
  refine lv_aload_n hx hb dX1_record_0 rfl (lv_at hl 0 rfl) ?_
  refine va_get (D := D) (ci := 1) (v := .ref hst) (C := RX1) (T := TX1) (N := 3) hx hb hts uX1_record_b_X1 hown hK.1 hP 0 rfl rfl 0 (by decide) (hts _ kX1_record_b_1) (fun _ h9 => h9) rfl dX1_record_1 ?_
  refine lv_aload_n hx hb dX1_record_4 rfl (lv_at hl 0 rfl) ?_
  refine va_get (D := D) (ci := 1) (v := .int nx) (C := RX1) (T := TX1) (N := 3) hx hb hts uX1_record_b_X1 hown hK.1 hP 0 rfl rfl 1 (by decide) (hts _ kX1_record_b_2) (fun _ h9 => h9) rfl dX1_record_5 ?_
  obtain ⟨hin, h⟩ := gd_sp h
  refine va_aldq (D := D) hx hb hK.1 hP 1 3 rfl rfl hin dX1_record_8 ?_
  refine W.eq (g2 := F0 m 9 ls [.null]) (by rw [hq]; rfl) ?_
  refine lv_astore_nN (lv' := [(2, .null), (0, .ref hh), (1, .ref sc)]) hx hb dX1_record_9 rfl hl (by decide) rfl (fun ls hl => ?_)
  refine lv_aload_nN hx hb dX1_record_10 rfl (lv_at hl 0 rfl) ?_
  refine lv_ifnonnullN hx hb dX1_record_11 ?_
  refine va_new (D := D) (ci := 5) (fs := [.null, .null, .null, .int 0, .int 0, .int 0, .int 0]) (C := RX5) (T := TX5) (N := 7) hx hb hts uX1_record_b_X5 tyX5 tyX5_ok hown (hts _ kX1_record_b_4) (hts _ kX1_record_b_5) (hts _ kX1_record_b_6) hK.1 hP hD hS hA rfl (fun j hj => by rcases (show j = 0 ∨ j = 1 ∨ j = 2 ∨ j = 3 ∨ j = 4 ∨ j = 5 ∨ j = 6 by omega) with rfl | rfl | rfl | rfl | rfl | rfl | rfl <;> rfl) (Nat.le_of_ble_eq_true rfl) (Nat.le_of_ble_eq_true rfl) dX1_record_14 (fun q1 H hP hD hS => ?_)
  have hP : va_P D vwCl [(hh, .inr (1, [.ref hst, .int nx, .int hm])), (hst, .inl (cR, 6, .inr (.inr (.inr (.inr hfu))))), (sc, .inr (5, [.ref sea, .ref th, .ref pi, .int tm, .int ps, .int ft, .int fk])), (sea, .inl (cI, 4, .inl se)), (th, .inr (6, [.int mn, .ref th1, .ref th2, .ref th3, .ref th4, .ref th5, .ref th6, .ref th7, .ref th8, .ref th9])), (th1, .inl (cI, 8, .inl ln)), (th2, .inl (cI, 8, .inl hi)), (th3, .inl (cI, 8, .inl wi)), (th4, .inl (cI, 8, .inl br)), (th5, .inl (cI, 8, .inl sp)), (th6, .inl (cI, 8, .inl si)), (th7, .inl (cI, 8, .inl le)), (th8, .inl (cI, 8, .inl un)), (th9, .inl (cI, 8, .inl ul)), (pi, .inr (3, [.ref pia])), (pia, .inl (cI, 384, .inl px)), (q1, .inr (5, [.null, .null, .null, .int 0, .int 0, .int 0, .int 0]))] H := hP
  have hD : va_D A [(hh, .inr (1, [.ref hst, .int nx, .int hm])), (hst, .inl (cR, 6, .inr (.inr (.inr (.inr hfu))))), (sc, .inr (5, [.ref sea, .ref th, .ref pi, .int tm, .int ps, .int ft, .int fk])), (sea, .inl (cI, 4, .inl se)), (th, .inr (6, [.int mn, .ref th1, .ref th2, .ref th3, .ref th4, .ref th5, .ref th6, .ref th7, .ref th8, .ref th9])), (th1, .inl (cI, 8, .inl ln)), (th2, .inl (cI, 8, .inl hi)), (th3, .inl (cI, 8, .inl wi)), (th4, .inl (cI, 8, .inl br)), (th5, .inl (cI, 8, .inl sp)), (th6, .inl (cI, 8, .inl si)), (th7, .inl (cI, 8, .inl le)), (th8, .inl (cI, 8, .inl un)), (th9, .inl (cI, 8, .inl ul)), (pi, .inr (3, [.ref pia])), (pia, .inl (cI, 384, .inl px)), (q1, .inr (5, [.null, .null, .null, .int 0, .int 0, .int 0, .int 0]))] := hD
  refine lv_dup hx hb dX1_record_17 rfl ?_
  obtain ⟨r2, hcr2, h⟩ := bn_sp h
  have hPc := hP.sub (ws' := (ws_sceneN cI cC cZ cR q1 )) [16] rfl
  have hDc := hD.sub (ws' := (ws_sceneN cI cC cZ cR q1 )) [16] (by decide) rfl
  have hFc := va_free (wc := (ws_sceneN cI cC cZ cR q1 )) hD hS hA [16] rfl
  refine va_callv (va_runIN (As := []) (rest := [.ref q1]) ⟨hx, hb, hml, hown, hts⟩ (m_X5_init l D cI cC cZ cR q1 _   b0  r2 hcr2) ⟨va_cnB (host := "LeaningLines") 0 hts gX1_record_X5_init_n24 rfl rfl rfl hK.2.2.2.2.2.2.2.1 (hts _ kX1_record_b_6) (by decide +kernel) ⟨Nat.le_of_ble_eq_true rfl, Nat.le_of_ble_eq_true rfl⟩, rfl, hts _ kX1_record_b_7⟩ (cPcS_ps hPc hK hDc hAb hb0 hS hstt) rfl rfl hl.1 rfl (lv_room (Nat.le_of_ble_eq_true rfl)) dX1_record_18 ⟨Nat.le_of_ble_eq_true rfl, Nat.le_of_ble_eq_true rfl⟩) hS (fun q _ h => hFc q h) hFc (fun u3 t H1 locs ht hvm hw hB hz1 hk1 hS => ?_)
  obtain ⟨hP1, hD1⟩ := hB
  rw [ht] at hP1
  obtain ⟨hP, hD⟩ := va_join (wr := [(hh, .inr (1, [.ref hst, .int nx, .int hm])), (hst, .inl (cR, 6, .inr (.inr (.inr (.inr hfu))))), (sc, .inr (5, [.ref sea, .ref th, .ref pi, .int tm, .int ps, .int ft, .int fk])), (sea, .inl (cI, 4, .inl se)), (th, .inr (6, [.int mn, .ref th1, .ref th2, .ref th3, .ref th4, .ref th5, .ref th6, .ref th7, .ref th8, .ref th9])), (th1, .inl (cI, 8, .inl ln)), (th2, .inl (cI, 8, .inl hi)), (th3, .inl (cI, 8, .inl wi)), (th4, .inl (cI, 8, .inl br)), (th5, .inl (cI, 8, .inl sp)), (th6, .inl (cI, 8, .inl si)), (th7, .inl (cI, 8, .inl le)), (th8, .inl (cI, 8, .inl un)), (th9, .inl (cI, 8, .inl ul)), (pi, .inr (3, [.ref pia])), (pia, .inl (cI, 384, .inl px))]) (w1 := [(q1, .inr (5, [.ref (u3 0), .ref (u3 1), .ref (u3 11), .int 0, .int 0, .int r2.1, .int 0])), ((u3 0), .inl (cI, 4, .inl r2.2.1)), ((u3 1), .inr (6, [.int r2.2.2.1, .ref (u3 2), .ref (u3 3), .ref (u3 4), .ref (u3 5), .ref (u3 6), .ref (u3 7), .ref (u3 8), .ref (u3 9), .ref (u3 10)])), ((u3 2), .inl (cI, 8, .inl r2.2.2.2.1)), ((u3 3), .inl (cI, 8, .inl r2.2.2.2.2.1)), ((u3 4), .inl (cI, 8, .inl r2.2.2.2.2.2.1)), ((u3 5), .inl (cI, 8, .inl r2.2.2.2.2.2.2.1)), ((u3 6), .inl (cI, 8, .inl r2.2.2.2.2.2.2.2.1)), ((u3 7), .inl (cI, 8, .inl r2.2.2.2.2.2.2.2.2.1)), ((u3 8), .inl (cI, 8, .inl r2.2.2.2.2.2.2.2.2.2.1)), ((u3 9), .inl (cI, 8, .inl r2.2.2.2.2.2.2.2.2.2.2.1)), ((u3 10), .inl (cI, 8, .inl r2.2.2.2.2.2.2.2.2.2.2.2.1)), ((u3 11), .inr (3, [.ref (u3 12)])), ((u3 12), .inl (cI, 384, .inl r2.2.2.2.2.2.2.2.2.2.2.2.2))]) hP hD [16] [0, 1, 2, 3, 4, 5, 6, 7, 8, 9, 10, 11, 12, 13, 14, 15] rfl rfl (by decide) (by decide) hk1 hFc hP1 hD1
  generalize H1 = H at hP hS ⊢
  have hP : va_P D vwCl [(hh, .inr (1, [.ref hst, .int nx, .int hm])), (hst, .inl (cR, 6, .inr (.inr (.inr (.inr hfu))))), (sc, .inr (5, [.ref sea, .ref th, .ref pi, .int tm, .int ps, .int ft, .int fk])), (sea, .inl (cI, 4, .inl se)), (th, .inr (6, [.int mn, .ref th1, .ref th2, .ref th3, .ref th4, .ref th5, .ref th6, .ref th7, .ref th8, .ref th9])), (th1, .inl (cI, 8, .inl ln)), (th2, .inl (cI, 8, .inl hi)), (th3, .inl (cI, 8, .inl wi)), (th4, .inl (cI, 8, .inl br)), (th5, .inl (cI, 8, .inl sp)), (th6, .inl (cI, 8, .inl si)), (th7, .inl (cI, 8, .inl le)), (th8, .inl (cI, 8, .inl un)), (th9, .inl (cI, 8, .inl ul)), (pi, .inr (3, [.ref pia])), (pia, .inl (cI, 384, .inl px)), (q1, .inr (5, [.ref (u3 0), .ref (u3 1), .ref (u3 11), .int 0, .int 0, .int r2.1, .int 0])), ((u3 0), .inl (cI, 4, .inl r2.2.1)), ((u3 1), .inr (6, [.int r2.2.2.1, .ref (u3 2), .ref (u3 3), .ref (u3 4), .ref (u3 5), .ref (u3 6), .ref (u3 7), .ref (u3 8), .ref (u3 9), .ref (u3 10)])), ((u3 2), .inl (cI, 8, .inl r2.2.2.2.1)), ((u3 3), .inl (cI, 8, .inl r2.2.2.2.2.1)), ((u3 4), .inl (cI, 8, .inl r2.2.2.2.2.2.1)), ((u3 5), .inl (cI, 8, .inl r2.2.2.2.2.2.2.1)), ((u3 6), .inl (cI, 8, .inl r2.2.2.2.2.2.2.2.1)), ((u3 7), .inl (cI, 8, .inl r2.2.2.2.2.2.2.2.2.1)), ((u3 8), .inl (cI, 8, .inl r2.2.2.2.2.2.2.2.2.2.1)), ((u3 9), .inl (cI, 8, .inl r2.2.2.2.2.2.2.2.2.2.2.1)), ((u3 10), .inl (cI, 8, .inl r2.2.2.2.2.2.2.2.2.2.2.2.1)), ((u3 11), .inr (3, [.ref (u3 12)])), ((u3 12), .inl (cI, 384, .inl r2.2.2.2.2.2.2.2.2.2.2.2.2))] H := hP
  have hD : va_D A [(hh, .inr (1, [.ref hst, .int nx, .int hm])), (hst, .inl (cR, 6, .inr (.inr (.inr (.inr hfu))))), (sc, .inr (5, [.ref sea, .ref th, .ref pi, .int tm, .int ps, .int ft, .int fk])), (sea, .inl (cI, 4, .inl se)), (th, .inr (6, [.int mn, .ref th1, .ref th2, .ref th3, .ref th4, .ref th5, .ref th6, .ref th7, .ref th8, .ref th9])), (th1, .inl (cI, 8, .inl ln)), (th2, .inl (cI, 8, .inl hi)), (th3, .inl (cI, 8, .inl wi)), (th4, .inl (cI, 8, .inl br)), (th5, .inl (cI, 8, .inl sp)), (th6, .inl (cI, 8, .inl si)), (th7, .inl (cI, 8, .inl le)), (th8, .inl (cI, 8, .inl un)), (th9, .inl (cI, 8, .inl ul)), (pi, .inr (3, [.ref pia])), (pia, .inl (cI, 384, .inl px)), (q1, .inr (5, [.ref (u3 0), .ref (u3 1), .ref (u3 11), .int 0, .int 0, .int r2.1, .int 0])), ((u3 0), .inl (cI, 4, .inl r2.2.1)), ((u3 1), .inr (6, [.int r2.2.2.1, .ref (u3 2), .ref (u3 3), .ref (u3 4), .ref (u3 5), .ref (u3 6), .ref (u3 7), .ref (u3 8), .ref (u3 9), .ref (u3 10)])), ((u3 2), .inl (cI, 8, .inl r2.2.2.2.1)), ((u3 3), .inl (cI, 8, .inl r2.2.2.2.2.1)), ((u3 4), .inl (cI, 8, .inl r2.2.2.2.2.2.1)), ((u3 5), .inl (cI, 8, .inl r2.2.2.2.2.2.2.1)), ((u3 6), .inl (cI, 8, .inl r2.2.2.2.2.2.2.2.1)), ((u3 7), .inl (cI, 8, .inl r2.2.2.2.2.2.2.2.2.1)), ((u3 8), .inl (cI, 8, .inl r2.2.2.2.2.2.2.2.2.2.1)), ((u3 9), .inl (cI, 8, .inl r2.2.2.2.2.2.2.2.2.2.2.1)), ((u3 10), .inl (cI, 8, .inl r2.2.2.2.2.2.2.2.2.2.2.2.1)), ((u3 11), .inr (3, [.ref (u3 12)])), ((u3 12), .inl (cI, 384, .inl r2.2.2.2.2.2.2.2.2.2.2.2.2))] := hD
  refine lv_astore_n (lv' := [(2, .ref q1), (0, .ref hh), (1, .ref sc)]) hx hb dX1_record_21 rfl hl (by decide) rfl (fun ls hl => ?_)
  refine lv_aload_n hx hb dX1_record_22 rfl (lv_at hl 1 rfl) ?_
  refine va_get (D := D) (ci := 1) (v := .ref hst) (C := RX1) (T := TX1) (N := 3) hx hb hts uX1_record_b_X1 hown hK.1 hP 0 rfl rfl 0 (by decide) (hts _ kX1_record_b_1) (fun _ h9 => h9) rfl dX1_record_23 ?_
  refine lv_aload_n hx hb dX1_record_26 rfl (lv_at hl 1 rfl) ?_
  refine va_get (D := D) (ci := 1) (v := .int nx) (C := RX1) (T := TX1) (N := 3) hx hb hts uX1_record_b_X1 hown hK.1 hP 0 rfl rfl 1 (by decide) (hts _ kX1_record_b_2) (fun _ h9 => h9) rfl dX1_record_27 ?_
  refine lv_aload_n hx hb dX1_record_30 rfl (lv_at hl 0 rfl) ?_
  obtain ⟨hin, h⟩ := gd_sp h
  refine va_astq (D := D) hx hb hK.1 hP hD hS 1 3 16 5 rfl rfl rfl rfl hin dX1_record_31 (fun H locs hP hD hS => ?_)
  have hP : va_P D vwCl [(hh, .inr (1, [.ref hst, .int nx, .int hm])), (hst, .inl (cR, 6, .inr (.inr (.inr (.inr (va_up hfu nx.toNatClampNeg (some q1))))))), (sc, .inr (5, [.ref sea, .ref th, .ref pi, .int tm, .int ps, .int ft, .int fk])), (sea, .inl (cI, 4, .inl se)), (th, .inr (6, [.int mn, .ref th1, .ref th2, .ref th3, .ref th4, .ref th5, .ref th6, .ref th7, .ref th8, .ref th9])), (th1, .inl (cI, 8, .inl ln)), (th2, .inl (cI, 8, .inl hi)), (th3, .inl (cI, 8, .inl wi)), (th4, .inl (cI, 8, .inl br)), (th5, .inl (cI, 8, .inl sp)), (th6, .inl (cI, 8, .inl si)), (th7, .inl (cI, 8, .inl le)), (th8, .inl (cI, 8, .inl un)), (th9, .inl (cI, 8, .inl ul)), (pi, .inr (3, [.ref pia])), (pia, .inl (cI, 384, .inl px)), (q1, .inr (5, [.ref (u3 0), .ref (u3 1), .ref (u3 11), .int 0, .int 0, .int r2.1, .int 0])), ((u3 0), .inl (cI, 4, .inl r2.2.1)), ((u3 1), .inr (6, [.int r2.2.2.1, .ref (u3 2), .ref (u3 3), .ref (u3 4), .ref (u3 5), .ref (u3 6), .ref (u3 7), .ref (u3 8), .ref (u3 9), .ref (u3 10)])), ((u3 2), .inl (cI, 8, .inl r2.2.2.2.1)), ((u3 3), .inl (cI, 8, .inl r2.2.2.2.2.1)), ((u3 4), .inl (cI, 8, .inl r2.2.2.2.2.2.1)), ((u3 5), .inl (cI, 8, .inl r2.2.2.2.2.2.2.1)), ((u3 6), .inl (cI, 8, .inl r2.2.2.2.2.2.2.2.1)), ((u3 7), .inl (cI, 8, .inl r2.2.2.2.2.2.2.2.2.1)), ((u3 8), .inl (cI, 8, .inl r2.2.2.2.2.2.2.2.2.2.1)), ((u3 9), .inl (cI, 8, .inl r2.2.2.2.2.2.2.2.2.2.2.1)), ((u3 10), .inl (cI, 8, .inl r2.2.2.2.2.2.2.2.2.2.2.2.1)), ((u3 11), .inr (3, [.ref (u3 12)])), ((u3 12), .inl (cI, 384, .inl r2.2.2.2.2.2.2.2.2.2.2.2.2))] H := hP
  have hD : va_D A [(hh, .inr (1, [.ref hst, .int nx, .int hm])), (hst, .inl (cR, 6, .inr (.inr (.inr (.inr (va_up hfu nx.toNatClampNeg (some q1))))))), (sc, .inr (5, [.ref sea, .ref th, .ref pi, .int tm, .int ps, .int ft, .int fk])), (sea, .inl (cI, 4, .inl se)), (th, .inr (6, [.int mn, .ref th1, .ref th2, .ref th3, .ref th4, .ref th5, .ref th6, .ref th7, .ref th8, .ref th9])), (th1, .inl (cI, 8, .inl ln)), (th2, .inl (cI, 8, .inl hi)), (th3, .inl (cI, 8, .inl wi)), (th4, .inl (cI, 8, .inl br)), (th5, .inl (cI, 8, .inl sp)), (th6, .inl (cI, 8, .inl si)), (th7, .inl (cI, 8, .inl le)), (th8, .inl (cI, 8, .inl un)), (th9, .inl (cI, 8, .inl ul)), (pi, .inr (3, [.ref pia])), (pia, .inl (cI, 384, .inl px)), (q1, .inr (5, [.ref (u3 0), .ref (u3 1), .ref (u3 11), .int 0, .int 0, .int r2.1, .int 0])), ((u3 0), .inl (cI, 4, .inl r2.2.1)), ((u3 1), .inr (6, [.int r2.2.2.1, .ref (u3 2), .ref (u3 3), .ref (u3 4), .ref (u3 5), .ref (u3 6), .ref (u3 7), .ref (u3 8), .ref (u3 9), .ref (u3 10)])), ((u3 2), .inl (cI, 8, .inl r2.2.2.2.1)), ((u3 3), .inl (cI, 8, .inl r2.2.2.2.2.1)), ((u3 4), .inl (cI, 8, .inl r2.2.2.2.2.2.1)), ((u3 5), .inl (cI, 8, .inl r2.2.2.2.2.2.2.1)), ((u3 6), .inl (cI, 8, .inl r2.2.2.2.2.2.2.2.1)), ((u3 7), .inl (cI, 8, .inl r2.2.2.2.2.2.2.2.2.1)), ((u3 8), .inl (cI, 8, .inl r2.2.2.2.2.2.2.2.2.2.1)), ((u3 9), .inl (cI, 8, .inl r2.2.2.2.2.2.2.2.2.2.2.1)), ((u3 10), .inl (cI, 8, .inl r2.2.2.2.2.2.2.2.2.2.2.2.1)), ((u3 11), .inr (3, [.ref (u3 12)])), ((u3 12), .inl (cI, 384, .inl r2.2.2.2.2.2.2.2.2.2.2.2.2))] := hD
  refine lv_aload_n hx hb dX1_record_32 rfl (lv_at hl 0 rfl) ?_
  refine lv_aload_n hx hb dX1_record_33 rfl (lv_at hl 2 rfl) ?_
  obtain ⟨r4, hcr4, h⟩ := bn_sp h
  have hPc := hP.sub (ws' := (ws_scene_scene cI cC cZ cR q1 (u3 0) (u3 1) (u3 2) (u3 3) (u3 4) (u3 5) (u3 6) (u3 7) (u3 8) (u3 9) (u3 10) (u3 11) (u3 12) sc sea th th1 th2 th3 th4 th5 th6 th7 th8 th9 pi pia r2.2.1 r2.2.2.1 r2.2.2.2.1 r2.2.2.2.2.1 r2.2.2.2.2.2.1 r2.2.2.2.2.2.2.1 r2.2.2.2.2.2.2.2.1 r2.2.2.2.2.2.2.2.2.1 r2.2.2.2.2.2.2.2.2.2.1 r2.2.2.2.2.2.2.2.2.2.2.1 r2.2.2.2.2.2.2.2.2.2.2.2.1 r2.2.2.2.2.2.2.2.2.2.2.2.2 0 0 r2.1 0 se mn ln hi wi br sp si le un ul px tm ps ft fk)) [16, 17, 18, 19, 20, 21, 22, 23, 24, 25, 26, 27, 28, 29, 2, 3, 4, 5, 6, 7, 8, 9, 10, 11, 12, 13, 14, 15] rfl
  have hDc := hD.sub (ws' := (ws_scene_scene cI cC cZ cR q1 (u3 0) (u3 1) (u3 2) (u3 3) (u3 4) (u3 5) (u3 6) (u3 7) (u3 8) (u3 9) (u3 10) (u3 11) (u3 12) sc sea th th1 th2 th3 th4 th5 th6 th7 th8 th9 pi pia r2.2.1 r2.2.2.1 r2.2.2.2.1 r2.2.2.2.2.1 r2.2.2.2.2.2.1 r2.2.2.2.2.2.2.1 r2.2.2.2.2.2.2.2.1 r2.2.2.2.2.2.2.2.2.1 r2.2.2.2.2.2.2.2.2.2.1 r2.2.2.2.2.2.2.2.2.2.2.1 r2.2.2.2.2.2.2.2.2.2.2.2.1 r2.2.2.2.2.2.2.2.2.2.2.2.2 0 0 r2.1 0 se mn ln hi wi br sp si le un ul px tm ps ft fk)) [16, 17, 18, 19, 20, 21, 22, 23, 24, 25, 26, 27, 28, 29, 2, 3, 4, 5, 6, 7, 8, 9, 10, 11, 12, 13, 14, 15] (by decide) rfl
  have hFc := va_free (wc := (ws_scene_scene cI cC cZ cR q1 (u3 0) (u3 1) (u3 2) (u3 3) (u3 4) (u3 5) (u3 6) (u3 7) (u3 8) (u3 9) (u3 10) (u3 11) (u3 12) sc sea th th1 th2 th3 th4 th5 th6 th7 th8 th9 pi pia r2.2.1 r2.2.2.1 r2.2.2.2.1 r2.2.2.2.2.1 r2.2.2.2.2.2.1 r2.2.2.2.2.2.2.1 r2.2.2.2.2.2.2.2.1 r2.2.2.2.2.2.2.2.2.1 r2.2.2.2.2.2.2.2.2.2.1 r2.2.2.2.2.2.2.2.2.2.2.1 r2.2.2.2.2.2.2.2.2.2.2.2.1 r2.2.2.2.2.2.2.2.2.2.2.2.2 0 0 r2.1 0 se mn ln hi wi br sp si le un ul px tm ps ft fk)) hD hS hA [16, 17, 18, 19, 20, 21, 22, 23, 24, 25, 26, 27, 28, 29, 2, 3, 4, 5, 6, 7, 8, 9, 10, 11, 12, 13, 14, 15] rfl
  refine va_callv (va_runV (As := [.ref sc]) (rest := []) ⟨hx, hb, hml, hown, hts⟩ (m_X5_copyFrom l D cI cC cZ cR q1 (u3 0) (u3 1) (u3 2) (u3 3) (u3 4) (u3 5) (u3 6) (u3 7) (u3 8) (u3 9) (u3 10) (u3 11) (u3 12) sc sea th th1 th2 th3 th4 th5 th6 th7 th8 th9 pi pia _ r2.2.1 r2.2.2.1 r2.2.2.2.1 r2.2.2.2.2.1 r2.2.2.2.2.2.1 r2.2.2.2.2.2.2.1 r2.2.2.2.2.2.2.2.1 r2.2.2.2.2.2.2.2.2.1 r2.2.2.2.2.2.2.2.2.2.1 r2.2.2.2.2.2.2.2.2.2.2.1 r2.2.2.2.2.2.2.2.2.2.2.2.1 r2.2.2.2.2.2.2.2.2.2.2.2.2 0 0 r2.1 0 se mn ln hi wi br sp si le un ul px tm ps ft fk    r4 hcr4) (cwV 1 hts gX1_record_X5_copyFrom rfl rfl rfl (by decide +kernel) ⟨Nat.le_of_ble_eq_true rfl, Nat.le_of_ble_eq_true rfl⟩) (cPc_pv hPc hK hDc (ci := 5) (q0 := 0) rfl rfl) rfl rfl hl.1 rfl (lv_room (Nat.le_of_ble_eq_true rfl)) dX1_record_34 ⟨Nat.le_of_ble_eq_true rfl, Nat.le_of_ble_eq_true rfl⟩) hS (fun q _ h => hFc q h) hFc (fun u t H1 locs ht hvm hw hB hz1 hk1 hS => ?_)
  obtain ⟨hP1, hD1⟩ := hB
  rw [ht] at hP1
  obtain ⟨hP, hD⟩ := va_join (wr := [(hh, .inr (1, [.ref hst, .int nx, .int hm])), (hst, .inl (cR, 6, .inr (.inr (.inr (.inr (va_up hfu nx.toNatClampNeg (some q1)))))))]) (w1 := (ws_scene_scene cI cC cZ cR q1 (u3 0) (u3 1) (u3 2) (u3 3) (u3 4) (u3 5) (u3 6) (u3 7) (u3 8) (u3 9) (u3 10) (u3 11) (u3 12) sc sea th th1 th2 th3 th4 th5 th6 th7 th8 th9 pi pia r4.2.2.2.2.1 r4.2.2.2.2.2.1 r4.2.2.2.2.2.2.1 r4.2.2.2.2.2.2.2.1 r4.2.2.2.2.2.2.2.2.1 r4.2.2.2.2.2.2.2.2.2.1 r4.2.2.2.2.2.2.2.2.2.2.1 r4.2.2.2.2.2.2.2.2.2.2.2.1 r4.2.2.2.2.2.2.2.2.2.2.2.2.1 r4.2.2.2.2.2.2.2.2.2.2.2.2.2.1 r4.2.2.2.2.2.2.2.2.2.2.2.2.2.2.1 r4.2.2.2.2.2.2.2.2.2.2.2.2.2.2.2 r4.1 r4.2.1 r4.2.2.1 r4.2.2.2.1 se mn ln hi wi br sp si le un ul px tm ps ft fk)) hP hD [16, 17, 18, 19, 20, 21, 22, 23, 24, 25, 26, 27, 28, 29, 2, 3, 4, 5, 6, 7, 8, 9, 10, 11, 12, 13, 14, 15] [0, 1] rfl rfl (by decide) (by decide) hk1 hFc hP1 hD1
  have hP := hP.sub (ws' := [(hh, .inr (1, [.ref hst, .int nx, .int hm])), (hst, .inl (cR, 6, .inr (.inr (.inr (.inr (va_up hfu nx.toNatClampNeg (some q1))))))), (sc, .inr (5, [.ref sea, .ref th, .ref pi, .int tm, .int ps, .int ft, .int fk])), (sea, .inl (cI, 4, .inl se)), (th, .inr (6, [.int mn, .ref th1, .ref th2, .ref th3, .ref th4, .ref th5, .ref th6, .ref th7, .ref th8, .ref th9])), (th1, .inl (cI, 8, .inl ln)), (th2, .inl (cI, 8, .inl hi)), (th3, .inl (cI, 8, .inl wi)), (th4, .inl (cI, 8, .inl br)), (th5, .inl (cI, 8, .inl sp)), (th6, .inl (cI, 8, .inl si)), (th7, .inl (cI, 8, .inl le)), (th8, .inl (cI, 8, .inl un)), (th9, .inl (cI, 8, .inl ul)), (pi, .inr (3, [.ref pia])), (pia, .inl (cI, 384, .inl px)), (q1, .inr (5, [.ref (u3 0), .ref (u3 1), .ref (u3 11), .int r4.1, .int r4.2.1, .int r4.2.2.1, .int r4.2.2.2.1])), ((u3 0), .inl (cI, 4, .inl r4.2.2.2.2.1)), ((u3 1), .inr (6, [.int r4.2.2.2.2.2.1, .ref (u3 2), .ref (u3 3), .ref (u3 4), .ref (u3 5), .ref (u3 6), .ref (u3 7), .ref (u3 8), .ref (u3 9), .ref (u3 10)])), ((u3 2), .inl (cI, 8, .inl r4.2.2.2.2.2.2.1)), ((u3 3), .inl (cI, 8, .inl r4.2.2.2.2.2.2.2.1)), ((u3 4), .inl (cI, 8, .inl r4.2.2.2.2.2.2.2.2.1)), ((u3 5), .inl (cI, 8, .inl r4.2.2.2.2.2.2.2.2.2.1)), ((u3 6), .inl (cI, 8, .inl r4.2.2.2.2.2.2.2.2.2.2.1)), ((u3 7), .inl (cI, 8, .inl r4.2.2.2.2.2.2.2.2.2.2.2.1)), ((u3 8), .inl (cI, 8, .inl r4.2.2.2.2.2.2.2.2.2.2.2.2.1)), ((u3 9), .inl (cI, 8, .inl r4.2.2.2.2.2.2.2.2.2.2.2.2.2.1)), ((u3 10), .inl (cI, 8, .inl r4.2.2.2.2.2.2.2.2.2.2.2.2.2.2.1)), ((u3 11), .inr (3, [.ref (u3 12)])), ((u3 12), .inl (cI, 384, .inl r4.2.2.2.2.2.2.2.2.2.2.2.2.2.2.2))]) [0, 1, 16, 17, 18, 19, 20, 21, 22, 23, 24, 25, 26, 27, 28, 29, 2, 3, 4, 5, 6, 7, 8, 9, 10, 11, 12, 13, 14, 15] rfl
  have hD := hD.sub (ws' := [(hh, .inr (1, [.ref hst, .int nx, .int hm])), (hst, .inl (cR, 6, .inr (.inr (.inr (.inr (va_up hfu nx.toNatClampNeg (some q1))))))), (sc, .inr (5, [.ref sea, .ref th, .ref pi, .int tm, .int ps, .int ft, .int fk])), (sea, .inl (cI, 4, .inl se)), (th, .inr (6, [.int mn, .ref th1, .ref th2, .ref th3, .ref th4, .ref th5, .ref th6, .ref th7, .ref th8, .ref th9])), (th1, .inl (cI, 8, .inl ln)), (th2, .inl (cI, 8, .inl hi)), (th3, .inl (cI, 8, .inl wi)), (th4, .inl (cI, 8, .inl br)), (th5, .inl (cI, 8, .inl sp)), (th6, .inl (cI, 8, .inl si)), (th7, .inl (cI, 8, .inl le)), (th8, .inl (cI, 8, .inl un)), (th9, .inl (cI, 8, .inl ul)), (pi, .inr (3, [.ref pia])), (pia, .inl (cI, 384, .inl px)), (q1, .inr (5, [.ref (u3 0), .ref (u3 1), .ref (u3 11), .int r4.1, .int r4.2.1, .int r4.2.2.1, .int r4.2.2.2.1])), ((u3 0), .inl (cI, 4, .inl r4.2.2.2.2.1)), ((u3 1), .inr (6, [.int r4.2.2.2.2.2.1, .ref (u3 2), .ref (u3 3), .ref (u3 4), .ref (u3 5), .ref (u3 6), .ref (u3 7), .ref (u3 8), .ref (u3 9), .ref (u3 10)])), ((u3 2), .inl (cI, 8, .inl r4.2.2.2.2.2.2.1)), ((u3 3), .inl (cI, 8, .inl r4.2.2.2.2.2.2.2.1)), ((u3 4), .inl (cI, 8, .inl r4.2.2.2.2.2.2.2.2.1)), ((u3 5), .inl (cI, 8, .inl r4.2.2.2.2.2.2.2.2.2.1)), ((u3 6), .inl (cI, 8, .inl r4.2.2.2.2.2.2.2.2.2.2.1)), ((u3 7), .inl (cI, 8, .inl r4.2.2.2.2.2.2.2.2.2.2.2.1)), ((u3 8), .inl (cI, 8, .inl r4.2.2.2.2.2.2.2.2.2.2.2.2.1)), ((u3 9), .inl (cI, 8, .inl r4.2.2.2.2.2.2.2.2.2.2.2.2.2.1)), ((u3 10), .inl (cI, 8, .inl r4.2.2.2.2.2.2.2.2.2.2.2.2.2.2.1)), ((u3 11), .inr (3, [.ref (u3 12)])), ((u3 12), .inl (cI, 384, .inl r4.2.2.2.2.2.2.2.2.2.2.2.2.2.2.2))]) [0, 1, 16, 17, 18, 19, 20, 21, 22, 23, 24, 25, 26, 27, 28, 29, 2, 3, 4, 5, 6, 7, 8, 9, 10, 11, 12, 13, 14, 15] (by decide) rfl
  generalize H1 = H at hP hS ⊢
  refine lv_aload_n hx hb dX1_record_37 rfl (lv_at hl 1 rfl) ?_
  refine lv_aload_n hx hb dX1_record_38 rfl (lv_at hl 1 rfl) ?_
  refine va_get (D := D) (ci := 1) (v := .int nx) (C := RX1) (T := TX1) (N := 3) hx hb hts uX1_record_b_X1 hown hK.1 hP 0 rfl rfl 1 (by decide) (hts _ kX1_record_b_2) (fun _ h9 => h9) rfl dX1_record_39 ?_
  refine lv_iconst (v := 5) hx hb dX1_record_42 (by decide) ?_
  obtain ⟨j56, hj56, h⟩ := jn_sp h
  have J56 : ∀ (j5 : Int32) (H : Heap) (locs : List Loc) (ls : Array Slot), j56 j5 = some r → va_P D vwCl [(hh, .inr (1, [.ref hst, .int nx, .int hm])), (hst, .inl (cR, 6, .inr (.inr (.inr (.inr (va_up hfu nx.toNatClampNeg (some q1))))))), (sc, .inr (5, [.ref sea, .ref th, .ref pi, .int tm, .int ps, .int ft, .int fk])), (sea, .inl (cI, 4, .inl se)), (th, .inr (6, [.int mn, .ref th1, .ref th2, .ref th3, .ref th4, .ref th5, .ref th6, .ref th7, .ref th8, .ref th9])), (th1, .inl (cI, 8, .inl ln)), (th2, .inl (cI, 8, .inl hi)), (th3, .inl (cI, 8, .inl wi)), (th4, .inl (cI, 8, .inl br)), (th5, .inl (cI, 8, .inl sp)), (th6, .inl (cI, 8, .inl si)), (th7, .inl (cI, 8, .inl le)), (th8, .inl (cI, 8, .inl un)), (th9, .inl (cI, 8, .inl ul)), (pi, .inr (3, [.ref pia])), (pia, .inl (cI, 384, .inl px)), (q1, .inr (5, [.ref (u3 0), .ref (u3 1), .ref (u3 11), .int r4.1, .int r4.2.1, .int r4.2.2.1, .int r4.2.2.2.1])), ((u3 0), .inl (cI, 4, .inl r4.2.2.2.2.1)), ((u3 1), .inr (6, [.int r4.2.2.2.2.2.1, .ref (u3 2), .ref (u3 3), .ref (u3 4), .ref (u3 5), .ref (u3 6), .ref (u3 7), .ref (u3 8), .ref (u3 9), .ref (u3 10)])), ((u3 2), .inl (cI, 8, .inl r4.2.2.2.2.2.2.1)), ((u3 3), .inl (cI, 8, .inl r4.2.2.2.2.2.2.2.1)), ((u3 4), .inl (cI, 8, .inl r4.2.2.2.2.2.2.2.2.1)), ((u3 5), .inl (cI, 8, .inl r4.2.2.2.2.2.2.2.2.2.1)), ((u3 6), .inl (cI, 8, .inl r4.2.2.2.2.2.2.2.2.2.2.1)), ((u3 7), .inl (cI, 8, .inl r4.2.2.2.2.2.2.2.2.2.2.2.1)), ((u3 8), .inl (cI, 8, .inl r4.2.2.2.2.2.2.2.2.2.2.2.2.1)), ((u3 9), .inl (cI, 8, .inl r4.2.2.2.2.2.2.2.2.2.2.2.2.2.1)), ((u3 10), .inl (cI, 8, .inl r4.2.2.2.2.2.2.2.2.2.2.2.2.2.2.1)), ((u3 11), .inr (3, [.ref (u3 12)])), ((u3 12), .inl (cI, 384, .inl r4.2.2.2.2.2.2.2.2.2.2.2.2.2.2.2))] H → va_D A [(hh, .inr (1, [.ref hst, .int nx, .int hm])), (hst, .inl (cR, 6, .inr (.inr (.inr (.inr (va_up hfu nx.toNatClampNeg (some q1))))))), (sc, .inr (5, [.ref sea, .ref th, .ref pi, .int tm, .int ps, .int ft, .int fk])), (sea, .inl (cI, 4, .inl se)), (th, .inr (6, [.int mn, .ref th1, .ref th2, .ref th3, .ref th4, .ref th5, .ref th6, .ref th7, .ref th8, .ref th9])), (th1, .inl (cI, 8, .inl ln)), (th2, .inl (cI, 8, .inl hi)), (th3, .inl (cI, 8, .inl wi)), (th4, .inl (cI, 8, .inl br)), (th5, .inl (cI, 8, .inl sp)), (th6, .inl (cI, 8, .inl si)), (th7, .inl (cI, 8, .inl le)), (th8, .inl (cI, 8, .inl un)), (th9, .inl (cI, 8, .inl ul)), (pi, .inr (3, [.ref pia])), (pia, .inl (cI, 384, .inl px)), (q1, .inr (5, [.ref (u3 0), .ref (u3 1), .ref (u3 11), .int r4.1, .int r4.2.1, .int r4.2.2.1, .int r4.2.2.2.1])), ((u3 0), .inl (cI, 4, .inl r4.2.2.2.2.1)), ((u3 1), .inr (6, [.int r4.2.2.2.2.2.1, .ref (u3 2), .ref (u3 3), .ref (u3 4), .ref (u3 5), .ref (u3 6), .ref (u3 7), .ref (u3 8), .ref (u3 9), .ref (u3 10)])), ((u3 2), .inl (cI, 8, .inl r4.2.2.2.2.2.2.1)), ((u3 3), .inl (cI, 8, .inl r4.2.2.2.2.2.2.2.1)), ((u3 4), .inl (cI, 8, .inl r4.2.2.2.2.2.2.2.2.1)), ((u3 5), .inl (cI, 8, .inl r4.2.2.2.2.2.2.2.2.2.1)), ((u3 6), .inl (cI, 8, .inl r4.2.2.2.2.2.2.2.2.2.2.1)), ((u3 7), .inl (cI, 8, .inl r4.2.2.2.2.2.2.2.2.2.2.2.1)), ((u3 8), .inl (cI, 8, .inl r4.2.2.2.2.2.2.2.2.2.2.2.2.1)), ((u3 9), .inl (cI, 8, .inl r4.2.2.2.2.2.2.2.2.2.2.2.2.2.1)), ((u3 10), .inl (cI, 8, .inl r4.2.2.2.2.2.2.2.2.2.2.2.2.2.2.1)), ((u3 11), .inr (3, [.ref (u3 12)])), ((u3 12), .inl (cI, 384, .inl r4.2.2.2.2.2.2.2.2.2.2.2.2.2.2.2))] → va_S A s.heap H locs → lv_has ls 3 [(0, .ref hh), (1, .ref sc), (2, .ref q1)] → W p l e R_X1_record_b s m ([.ref hh, .ref sc] : List Value).toArray below meth c H locs 14 478 Q (F0 m 56 ls [.int j5, .ref hh]) := by
    intro j5 H locs ls h hP hD hS hl
    rw [hj56] at h
    refine va_put (D := D) (ci := 1) (v := .int j5) (ty := .int) (C := RX1) (T := TX1) (N := 3) hx hb hts uX1_record_b_X1 tyX1 tyX1_ok nmX1 hown hK.1 hP hD hS 0 rfl rfl 1 (by decide) (hts _ kX1_record_b_2) (fun _ h9 => h9) rfl (by decide +kernel) rfl rfl (Nat.le_of_ble_eq_true rfl) dX1_record_56 (fun H locs hP hD hS => ?_)
    have hP : va_P D vwCl [(hh, .inr (1, [.ref hst, .int j5, .int hm])), (hst, .inl (cR, 6, .inr (.inr (.inr (.inr (va_up hfu nx.toNatClampNeg (some q1))))))), (sc, .inr (5, [.ref sea, .ref th, .ref pi, .int tm, .int ps, .int ft, .int fk])), (sea, .inl (cI, 4, .inl se)), (th, .inr (6, [.int mn, .ref th1, .ref th2, .ref th3, .ref th4, .ref th5, .ref th6, .ref th7, .ref th8, .ref th9])), (th1, .inl (cI, 8, .inl ln)), (th2, .inl (cI, 8, .inl hi)), (th3, .inl (cI, 8, .inl wi)), (th4, .inl (cI, 8, .inl br)), (th5, .inl (cI, 8, .inl sp)), (th6, .inl (cI, 8, .inl si)), (th7, .inl (cI, 8, .inl le)), (th8, .inl (cI, 8, .inl un)), (th9, .inl (cI, 8, .inl ul)), (pi, .inr (3, [.ref pia])), (pia, .inl (cI, 384, .inl px)), (q1, .inr (5, [.ref (u3 0), .ref (u3 1), .ref (u3 11), .int r4.1, .int r4.2.1, .int r4.2.2.1, .int r4.2.2.2.1])), ((u3 0), .inl (cI, 4, .inl r4.2.2.2.2.1)), ((u3 1), .inr (6, [.int r4.2.2.2.2.2.1, .ref (u3 2), .ref (u3 3), .ref (u3 4), .ref (u3 5), .ref (u3 6), .ref (u3 7), .ref (u3 8), .ref (u3 9), .ref (u3 10)])), ((u3 2), .inl (cI, 8, .inl r4.2.2.2.2.2.2.1)), ((u3 3), .inl (cI, 8, .inl r4.2.2.2.2.2.2.2.1)), ((u3 4), .inl (cI, 8, .inl r4.2.2.2.2.2.2.2.2.1)), ((u3 5), .inl (cI, 8, .inl r4.2.2.2.2.2.2.2.2.2.1)), ((u3 6), .inl (cI, 8, .inl r4.2.2.2.2.2.2.2.2.2.2.1)), ((u3 7), .inl (cI, 8, .inl r4.2.2.2.2.2.2.2.2.2.2.2.1)), ((u3 8), .inl (cI, 8, .inl r4.2.2.2.2.2.2.2.2.2.2.2.2.1)), ((u3 9), .inl (cI, 8, .inl r4.2.2.2.2.2.2.2.2.2.2.2.2.2.1)), ((u3 10), .inl (cI, 8, .inl r4.2.2.2.2.2.2.2.2.2.2.2.2.2.2.1)), ((u3 11), .inr (3, [.ref (u3 12)])), ((u3 12), .inl (cI, 384, .inl r4.2.2.2.2.2.2.2.2.2.2.2.2.2.2.2))] H := hP
    have hD : va_D A [(hh, .inr (1, [.ref hst, .int j5, .int hm])), (hst, .inl (cR, 6, .inr (.inr (.inr (.inr (va_up hfu nx.toNatClampNeg (some q1))))))), (sc, .inr (5, [.ref sea, .ref th, .ref pi, .int tm, .int ps, .int ft, .int fk])), (sea, .inl (cI, 4, .inl se)), (th, .inr (6, [.int mn, .ref th1, .ref th2, .ref th3, .ref th4, .ref th5, .ref th6, .ref th7, .ref th8, .ref th9])), (th1, .inl (cI, 8, .inl ln)), (th2, .inl (cI, 8, .inl hi)), (th3, .inl (cI, 8, .inl wi)), (th4, .inl (cI, 8, .inl br)), (th5, .inl (cI, 8, .inl sp)), (th6, .inl (cI, 8, .inl si)), (th7, .inl (cI, 8, .inl le)), (th8, .inl (cI, 8, .inl un)), (th9, .inl (cI, 8, .inl ul)), (pi, .inr (3, [.ref pia])), (pia, .inl (cI, 384, .inl px)), (q1, .inr (5, [.ref (u3 0), .ref (u3 1), .ref (u3 11), .int r4.1, .int r4.2.1, .int r4.2.2.1, .int r4.2.2.2.1])), ((u3 0), .inl (cI, 4, .inl r4.2.2.2.2.1)), ((u3 1), .inr (6, [.int r4.2.2.2.2.2.1, .ref (u3 2), .ref (u3 3), .ref (u3 4), .ref (u3 5), .ref (u3 6), .ref (u3 7), .ref (u3 8), .ref (u3 9), .ref (u3 10)])), ((u3 2), .inl (cI, 8, .inl r4.2.2.2.2.2.2.1)), ((u3 3), .inl (cI, 8, .inl r4.2.2.2.2.2.2.2.1)), ((u3 4), .inl (cI, 8, .inl r4.2.2.2.2.2.2.2.2.1)), ((u3 5), .inl (cI, 8, .inl r4.2.2.2.2.2.2.2.2.2.1)), ((u3 6), .inl (cI, 8, .inl r4.2.2.2.2.2.2.2.2.2.2.1)), ((u3 7), .inl (cI, 8, .inl r4.2.2.2.2.2.2.2.2.2.2.2.1)), ((u3 8), .inl (cI, 8, .inl r4.2.2.2.2.2.2.2.2.2.2.2.2.1)), ((u3 9), .inl (cI, 8, .inl r4.2.2.2.2.2.2.2.2.2.2.2.2.2.1)), ((u3 10), .inl (cI, 8, .inl r4.2.2.2.2.2.2.2.2.2.2.2.2.2.2.1)), ((u3 11), .inr (3, [.ref (u3 12)])), ((u3 12), .inl (cI, 384, .inl r4.2.2.2.2.2.2.2.2.2.2.2.2.2.2.2))] := hD
    refine lv_aload_n hx hb dX1_record_59 rfl (lv_at hl 0 rfl) ?_
    refine lv_bipush (v := 6) hx hb dX1_record_60 (by decide) ?_
    refine lv_aload_n hx hb dX1_record_62 rfl (lv_at hl 0 rfl) ?_
    refine va_get (D := D) (ci := 1) (v := .int hm) (C := RX1) (T := TX1) (N := 3) hx hb hts uX1_record_b_X1 hown hK.1 hP 0 rfl rfl 2 (by decide) (hts _ kX1_record_b_8) (fun _ h9 => h9) rfl dX1_record_63 ?_
    refine lv_iconst (v := 1) hx hb dX1_record_66 (by decide) ?_
    refine lv_iadd hx hb dX1_record_67 ?_
    refine va_mmin hx hb (by rw [hml]; exact hl.1.symm) hown (hts _ kX1_record_b_9) (hts _ kX1_record_b_10) (hts _ kX1_record_b_11) (hts _ kX1_record_b_12) (Nat.le_of_ble_eq_true rfl) (Nat.le_of_ble_eq_true rfl) (Nat.le_of_ble_eq_true rfl) (Nat.le_of_ble_eq_true rfl) dX1_record_68 ?_
    refine lv_topi (fun x6 ex6 => ?_)
    replace h := bd_s2 h ex6
    refine va_put (D := D) (ci := 1) (v := .int x6) (ty := .int) (C := RX1) (T := TX1) (N := 3) hx hb hts uX1_record_b_X1 tyX1 tyX1_ok nmX1 hown hK.1 hP hD hS 0 rfl rfl 2 (by decide) (hts _ kX1_record_b_8) (fun _ h9 => h9) rfl (by decide +kernel) rfl rfl (Nat.le_of_ble_eq_true rfl) dX1_record_71 (fun H locs hP hD hS => ?_)
    have hP : va_P D vwCl [(hh, .inr (1, [.ref hst, .int j5, .int x6])), (hst, .inl (cR, 6, .inr (.inr (.inr (.inr (va_up hfu nx.toNatClampNeg (some q1))))))), (sc, .inr (5, [.ref sea, .ref th, .ref pi, .int tm, .int ps, .int ft, .int fk])), (sea, .inl (cI, 4, .inl se)), (th, .inr (6, [.int mn, .ref th1, .ref th2, .ref th3, .ref th4, .ref th5, .ref th6, .ref th7, .ref th8, .ref th9])), (th1, .inl (cI, 8, .inl ln)), (th2, .inl (cI, 8, .inl hi)), (th3, .inl (cI, 8, .inl wi)), (th4, .inl (cI, 8, .inl br)), (th5, .inl (cI, 8, .inl sp)), (th6, .inl (cI, 8, .inl si)), (th7, .inl (cI, 8, .inl le)), (th8, .inl (cI, 8, .inl un)), (th9, .inl (cI, 8, .inl ul)), (pi, .inr (3, [.ref pia])), (pia, .inl (cI, 384, .inl px)), (q1, .inr (5, [.ref (u3 0), .ref (u3 1), .ref (u3 11), .int r4.1, .int r4.2.1, .int r4.2.2.1, .int r4.2.2.2.1])), ((u3 0), .inl (cI, 4, .inl r4.2.2.2.2.1)), ((u3 1), .inr (6, [.int r4.2.2.2.2.2.1, .ref (u3 2), .ref (u3 3), .ref (u3 4), .ref (u3 5), .ref (u3 6), .ref (u3 7), .ref (u3 8), .ref (u3 9), .ref (u3 10)])), ((u3 2), .inl (cI, 8, .inl r4.2.2.2.2.2.2.1)), ((u3 3), .inl (cI, 8, .inl r4.2.2.2.2.2.2.2.1)), ((u3 4), .inl (cI, 8, .inl r4.2.2.2.2.2.2.2.2.1)), ((u3 5), .inl (cI, 8, .inl r4.2.2.2.2.2.2.2.2.2.1)), ((u3 6), .inl (cI, 8, .inl r4.2.2.2.2.2.2.2.2.2.2.1)), ((u3 7), .inl (cI, 8, .inl r4.2.2.2.2.2.2.2.2.2.2.2.1)), ((u3 8), .inl (cI, 8, .inl r4.2.2.2.2.2.2.2.2.2.2.2.2.1)), ((u3 9), .inl (cI, 8, .inl r4.2.2.2.2.2.2.2.2.2.2.2.2.2.1)), ((u3 10), .inl (cI, 8, .inl r4.2.2.2.2.2.2.2.2.2.2.2.2.2.2.1)), ((u3 11), .inr (3, [.ref (u3 12)])), ((u3 12), .inl (cI, 384, .inl r4.2.2.2.2.2.2.2.2.2.2.2.2.2.2.2))] H := hP
    have hD : va_D A [(hh, .inr (1, [.ref hst, .int j5, .int x6])), (hst, .inl (cR, 6, .inr (.inr (.inr (.inr (va_up hfu nx.toNatClampNeg (some q1))))))), (sc, .inr (5, [.ref sea, .ref th, .ref pi, .int tm, .int ps, .int ft, .int fk])), (sea, .inl (cI, 4, .inl se)), (th, .inr (6, [.int mn, .ref th1, .ref th2, .ref th3, .ref th4, .ref th5, .ref th6, .ref th7, .ref th8, .ref th9])), (th1, .inl (cI, 8, .inl ln)), (th2, .inl (cI, 8, .inl hi)), (th3, .inl (cI, 8, .inl wi)), (th4, .inl (cI, 8, .inl br)), (th5, .inl (cI, 8, .inl sp)), (th6, .inl (cI, 8, .inl si)), (th7, .inl (cI, 8, .inl le)), (th8, .inl (cI, 8, .inl un)), (th9, .inl (cI, 8, .inl ul)), (pi, .inr (3, [.ref pia])), (pia, .inl (cI, 384, .inl px)), (q1, .inr (5, [.ref (u3 0), .ref (u3 1), .ref (u3 11), .int r4.1, .int r4.2.1, .int r4.2.2.1, .int r4.2.2.2.1])), ((u3 0), .inl (cI, 4, .inl r4.2.2.2.2.1)), ((u3 1), .inr (6, [.int r4.2.2.2.2.2.1, .ref (u3 2), .ref (u3 3), .ref (u3 4), .ref (u3 5), .ref (u3 6), .ref (u3 7), .ref (u3 8), .ref (u3 9), .ref (u3 10)])), ((u3 2), .inl (cI, 8, .inl r4.2.2.2.2.2.2.1)), ((u3 3), .inl (cI, 8, .inl r4.2.2.2.2.2.2.2.1)), ((u3 4), .inl (cI, 8, .inl r4.2.2.2.2.2.2.2.2.1)), ((u3 5), .inl (cI, 8, .inl r4.2.2.2.2.2.2.2.2.2.1)), ((u3 6), .inl (cI, 8, .inl r4.2.2.2.2.2.2.2.2.2.2.1)), ((u3 7), .inl (cI, 8, .inl r4.2.2.2.2.2.2.2.2.2.2.2.1)), ((u3 8), .inl (cI, 8, .inl r4.2.2.2.2.2.2.2.2.2.2.2.2.1)), ((u3 9), .inl (cI, 8, .inl r4.2.2.2.2.2.2.2.2.2.2.2.2.2.1)), ((u3 10), .inl (cI, 8, .inl r4.2.2.2.2.2.2.2.2.2.2.2.2.2.2.1)), ((u3 11), .inr (3, [.ref (u3 12)])), ((u3 12), .inl (cI, 384, .inl r4.2.2.2.2.2.2.2.2.2.2.2.2.2.2.2))] := hD
    have e9 := Option.some.inj h
    subst e9
    rw [hQ]
    exact W.vret hx hb hr (fun t ht hW => ⟨⟨(fun k => ([q1, (u3 0), (u3 1), (u3 2), (u3 3), (u3 4), (u3 5), (u3 6), (u3 7), (u3 8), (u3 9), (u3 10), (u3 11), (u3 12)] : List Nat).getD k 0), rfl, trivial, by rw [ht]; exact hP, hD⟩, hS.F ht⟩) hS.2.2 dX1_record_74
  refine lv_icmp_ne (tgt := 50) hx hb dX1_record_43 (by decide) (fun c7 => ?_) (fun c7 => ?_)
  · replace h := br_p c7 h
    refine lv_aload_n hx hb dX1_record_50 rfl (lv_at hl 1 rfl) ?_
    refine va_get (D := D) (ci := 1) (v := .int nx) (C := RX1) (T := TX1) (N := 3) hx hb hts uX1_record_b_X1 hown hK.1 hP 0 rfl rfl 1 (by decide) (hts _ kX1_record_b_2) (fun _ h9 => h9) rfl dX1_record_51 ?_
    refine lv_iconst (v := 1) hx hb dX1_record_54 (by decide) ?_
    refine lv_iadd hx hb dX1_record_55 ?_
    exact J56 _ _ _ _ h hP hD hS (lv_sub hl [1, 2, 0] rfl)
  · replace h := br_n (not_not_intro c7) h
    refine lv_iconst (v := 0) hx hb dX1_record_46 (by decide) ?_
    refine lv_goto (tgt := 56) hx hb dX1_record_47 (by decide) ?_
    exact J56 _ _ _ _ h hP hD hS (lv_sub hl [1, 2, 0] rfl)
-- LeaningLines$History.takeBack
abbrev OUT_X1_takeBack_a : Type := Int32 × Int32 × Int32 × Int32 × Int32 × Int32 × Int32 × (Nat → Int32) × Int32 × (Nat → Int32) × (Nat → Int32) × (Nat → Int32) × (Nat → Int32) × (Nat → Int32) × (Nat → Int32) × (Nat → Int32) × (Nat → Int32) × (Nat → Int32) × (Nat → Int32)
def f_X1_takeBack_a (nx : Int32) (hm : Int32) (se : Nat → Int32) (ln : Nat → Int32) (hi : Nat → Int32) (wi : Nat → Int32) (br : Nat → Int32) (sp : Nat → Int32) (si : Nat → Int32) (le : Nat → Int32) (un : Nat → Int32) (ul : Nat → Int32) (px : Nat → Int32) (bse : Nat → Int32) (bmn : Int32) (bln : Nat → Int32) (bhi : Nat → Int32) (bwi : Nat → Int32) (bbr : Nat → Int32) (bsp : Nat → Int32) (bsi : Nat → Int32) (ble : Nat → Int32) (bun : Nat → Int32) (bul : Nat → Int32) (bpx : Nat → Int32) (btm : Int32) (bps : Int32) (bft : Int32) (bfk : Int32) : Option OUT_X1_takeBack_a :=
  (if ¬ nx = 0 then bd (nx - 1) (fun x1 => gd x1 6 ((if hm = 0 then none else bn (f_X5_copyFrom se ln hi wi br sp si le un ul px bse bmn bln bhi bwi bbr bsp bsi ble bun bul bpx btm bps bft bfk) (fun r2 => some ((1, x1, hm - 1, r2.1, r2.2.1, r2.2.2.1, r2.2.2.2.1, r2.2.2.2.2.1, r2.2.2.2.2.2.1, r2.2.2.2.2.2.2.1, r2.2.2.2.2.2.2.2.1, r2.2.2.2.2.2.2.2.2.1, r2.2.2.2.2.2.2.2.2.2.1, r2.2.2.2.2.2.2.2.2.2.2.1, r2.2.2.2.2.2.2.2.2.2.2.2.1, r2.2.2.2.2.2.2.2.2.2.2.2.2.1, r2.2.2.2.2.2.2.2.2.2.2.2.2.2.1, r2.2.2.2.2.2.2.2.2.2.2.2.2.2.2.1, r2.2.2.2.2.2.2.2.2.2.2.2.2.2.2.2)))))) else gd 5 6 ((if hm = 0 then none else bn (f_X5_copyFrom se ln hi wi br sp si le un ul px bse bmn bln bhi bwi bbr bsp bsi ble bun bul bpx btm bps bft bfk) (fun r4 => some ((1, 5, hm - 1, r4.1, r4.2.1, r4.2.2.1, r4.2.2.2.1, r4.2.2.2.2.1, r4.2.2.2.2.2.1, r4.2.2.2.2.2.2.1, r4.2.2.2.2.2.2.2.1, r4.2.2.2.2.2.2.2.2.1, r4.2.2.2.2.2.2.2.2.2.1, r4.2.2.2.2.2.2.2.2.2.2.1, r4.2.2.2.2.2.2.2.2.2.2.2.1, r4.2.2.2.2.2.2.2.2.2.2.2.2.1, r4.2.2.2.2.2.2.2.2.2.2.2.2.2.1, r4.2.2.2.2.2.2.2.2.2.2.2.2.2.2.1, r4.2.2.2.2.2.2.2.2.2.2.2.2.2.2.2))))))
theorem uX1_takeBack_a_X1 : ∀ w ∈ wsX10, w ∈ wsX1_takeBack := by decide +kernel
theorem kX1_takeBack_a_1 : Cond.fieldLink RX1 17 "LeaningLines$History" "next" "I" ∈ wsX1_takeBack := by decide +kernel
theorem kX1_takeBack_a_2 : Cond.fieldLink RX1 11 "LeaningLines$History" "states" "[LLeaningLines$Scene;" ∈ wsX1_takeBack := by decide +kernel
theorem kX1_takeBack_a_3 : Cond.fieldLink RX1 21 "LeaningLines$History" "many" "I" ∈ wsX1_takeBack := by decide +kernel
abbrev R_X1_takeBack_a : Room := { frames := 3, cells := 0, slots := 0, locals := 82 }
set_option maxHeartbeats 4000000 in
set_option maxRecDepth 100000 in
theorem m_X1_takeBack_a (l : Launch) (D : va_G) (cI cC cZ cR : ClassId) (hh hst sc sea th th1 th2 th3 th4 th5 th6 th7 th8 th9 pi pia bsc bsea bth bth1 bth2 bth3 bth4 bth5 bth6 bth7 bth8 bth9 bpi bpia : Nat) (sz : Nat) (nx : Int32) (hm : Int32) (se : Nat → Int32) (mn : Int32) (ln : Nat → Int32) (hi : Nat → Int32) (wi : Nat → Int32) (br : Nat → Int32) (sp : Nat → Int32) (si : Nat → Int32) (le : Nat → Int32) (un : Nat → Int32) (ul : Nat → Int32) (px : Nat → Int32) (tm : Int32) (ps : Int32) (ft : Int32) (fk : Int32) (bse : Nat → Int32) (bmn : Int32) (bln : Nat → Int32) (bhi : Nat → Int32) (bwi : Nat → Int32) (bbr : Nat → Int32) (bsp : Nat → Int32) (bsi : Nat → Int32) (ble : Nat → Int32) (bun : Nat → Int32) (bul : Nat → Int32) (bpx : Nat → Int32) (btm : Int32) (bps : Int32) (bft : Int32) (bfk : Int32) (hfu : Nat → Option Nat)   (hq : ∀ i : Int32, (nx = 0 → i = 5) → (¬ nx = 0 → i = nx - 1) → hfu i.toNatClampNeg = some bsc) (r : OUT_X1_takeBack_a) (hf : f_X1_takeBack_a nx hm se ln hi wi br sp si le un ul px bse bmn bln bhi bwi bbr bsp bsi ble bun bul bpx btm bps bft bfk = some r) : Met l yX1_takeBack wsX1_takeBack R_X1_takeBack_a (cPc D cI cC cZ cR [.ref hh, .ref sc] sz (ws_hist_scene_scene cI cC cZ cR hh hst sc sea th th1 th2 th3 th4 th5 th6 th7 th8 th9 pi pia bsc bsea bth bth1 bth2 bth3 bth4 bth5 bth6 bth7 bth8 bth9 bpi bpia nx hm se mn ln hi wi br sp si le un ul px tm ps ft fk bse bmn bln bhi bwi bbr bsp bsi ble bun bul bpx btm bps bft bfk hfu)) (cQi D (ws_hist_scene_scene cI cC cZ cR hh hst sc sea th th1 th2 th3 th4 th5 th6 th7 th8 th9 pi pia bsc bsea bth bth1 bth2 bth3 bth4 bth5 bth6 bth7 bth8 bth9 bpi bpia r.2.1 r.2.2.1 r.2.2.2.2.2.2.2.1 r.2.2.2.2.2.2.2.2.1 r.2.2.2.2.2.2.2.2.2.1 r.2.2.2.2.2.2.2.2.2.2.1 r.2.2.2.2.2.2.2.2.2.2.2.1 r.2.2.2.2.2.2.2.2.2.2.2.2.1 r.2.2.2.2.2.2.2.2.2.2.2.2.2.1 r.2.2.2.2.2.2.2.2.2.2.2.2.2.2.1 r.2.2.2.2.2.2.2.2.2.2.2.2.2.2.2.1 r.2.2.2.2.2.2.2.2.2.2.2.2.2.2.2.2.1 r.2.2.2.2.2.2.2.2.2.2.2.2.2.2.2.2.2.1 r.2.2.2.2.2.2.2.2.2.2.2.2.2.2.2.2.2.2 r.2.2.2.1 r.2.2.2.2.1 r.2.2.2.2.2.1 r.2.2.2.2.2.2.1 bse bmn bln bhi bwi bbr bsp bsi ble bun bul bpx btm bps bft bfk hfu) (va_A (ws_hist_scene_scene cI cC cZ cR hh hst sc sea th th1 th2 th3 th4 th5 th6 th7 th8 th9 pi pia bsc bsea bth bth1 bth2 bth3 bth4 bth5 bth6 bth7 bth8 bth9 bpi bpia nx hm se mn ln hi wi br sp si le un ul px tm ps ft fk bse bmn bln bhi bwi bbr bsp bsi ble bun bul bpx btm bps bft bfk hfu) sz) r.1) 0 0 (va_A (ws_hist_scene_scene cI cC cZ cR hh hst sc sea th th1 th2 th3 th4 th5 th6 th7 th8 th9 pi pia bsc bsea bth bth1 bth2 bth3 bth4 bth5 bth6 bth7 bth8 bth9 bpi bpia nx hm se mn ln hi wi br sp si le un ul px tm ps ft fk bse bmn bln bhi bwi bbr bsp bsi ble bun bul bpx btm bps bft bfk hfu) sz) := by
  refine Met.ofW (cc := cX1_takeBack) (maxL := 4) (ret := (some .boolean)) (by decide) rfl ?_
  intro p e s m args below meth c s₁ B hml hv
  obtain ⟨rfl, hsz, hP, hK, hD0⟩ := hv
  have hx := B.exec
  have hb := B.bytes
  have hr := B.returns
  have hts := atoms_spec (ws := wsX1_takeBack) B.pre
  have hown : s.vm.findClass RX1 = some m.cls := findClass_of_methodNamed B.named
  have hlocks := B.notSynchronized
  subst hsz
  have hD := hD0.self (sz := s.heap.size)
  generalize hAe : va_A (ws_hist_scene_scene cI cC cZ cR hh hst sc sea th th1 th2 th3 th4 th5 th6 th7 th8 th9 pi pia bsc bsea bth bth1 bth2 bth3 bth4 bth5 bth6 bth7 bth8 bth9 bpi bpia nx hm se mn ln hi wi br sp si le un ul px tm ps ft fk bse bmn bln bhi bwi bbr bsp bsi ble bun bul bpx btm bps bft bfk hfu) s.heap.size = A at hD ⊢
  skip
  have hA : ∀ q : Nat, s.heap.size ≤ q → A q := fun q h => by rw [← hAe]; exact Or.inr h
  have hS : va_S A s.heap s.heap [] := va_S.rf
  have hl := lv_entry ([.ref hh, .ref sc]) (n := 4) (Nat.le_of_ble_eq_true rfl)
  rw [lg_entry_eq]
  generalize (lg_sl ([.ref hh, .ref sc]) ++ List.replicate (4 - (lg_sl ([.ref hh, .ref sc])).length) Slot.unset).toArray = ls at hl ⊢
  have hl : lv_has ls 4 [(0, .ref hh), (1, .ref sc)] := hl
  refine W_absQ (fun Q hQ => ?_)
  refine W.eq (g2 := F0 m 0 ls []) rfl ?_
  have h := hf
  unfold f_X1_takeBack_a at h
  refine lv_aload_n hx hb dX1_takeBack_0 rfl (lv_at hl 0 rfl) ?_
  refine va_get (D := D) (ci := 1) (v := .int nx) (C := RX1) (T := TX1) (N := 3) hx hb hts uX1_takeBack_a_X1 hown hK.1 hP 0 rfl rfl 1 (by decide) (hts _ kX1_takeBack_a_1) (fun _ h9 => h9) rfl dX1_takeBack_1 ?_
  refine lv_if_ne (tgt := 11) hx hb dX1_takeBack_4 (by decide) (fun c6 => ?_) (fun c6 => ?_)
  · replace h := br_p c6 h
    refine lv_aload_n hx hb dX1_takeBack_11 rfl (lv_at hl 0 rfl) ?_
    refine va_get (D := D) (ci := 1) (v := .int nx) (C := RX1) (T := TX1) (N := 3) hx hb hts uX1_takeBack_a_X1 hown hK.1 hP 0 rfl rfl 1 (by decide) (hts _ kX1_takeBack_a_1) (fun _ h9 => h9) rfl dX1_takeBack_12 ?_
    refine lv_iconst (v := 1) hx hb dX1_takeBack_15 (by decide) ?_
    refine lv_isub hx hb dX1_takeBack_16 ?_
    refine lv_topi (fun x1 ex1 => ?_)
    replace h := bd_s2 h ex1
    refine lv_istore_n (lv' := [(2, .int x1), (0, .ref hh), (1, .ref sc)]) hx hb dX1_takeBack_17 rfl hl (by decide) rfl (fun ls hl => ?_)
    refine lv_aload_n hx hb dX1_takeBack_18 rfl (lv_at hl 1 rfl) ?_
    refine va_get (D := D) (ci := 1) (v := .ref hst) (C := RX1) (T := TX1) (N := 3) hx hb hts uX1_takeBack_a_X1 hown hK.1 hP 0 rfl rfl 0 (by decide) (hts _ kX1_takeBack_a_2) (fun _ h9 => h9) rfl dX1_takeBack_19 ?_
    refine lv_iload_n hx hb dX1_takeBack_22 rfl (lv_at hl 0 rfl) ?_
    obtain ⟨hin, h⟩ := gd_sp h
    refine va_aldq (D := D) hx hb hK.1 hP 1 3 rfl rfl hin dX1_takeBack_23 ?_
    refine W.eq (g2 := F0 m 24 ls [.ref bsc]) (by rw [hq _ (fun _ => by first | rfl | assumption | contradiction) (fun _ => by first | rfl | assumption | contradiction)]; rfl) ?_
    refine lv_astore_n (lv' := [(3, .ref bsc), (2, .int x1), (0, .ref hh), (1, .ref sc)]) hx hb dX1_takeBack_24 rfl hl (by decide) rfl (fun ls hl => ?_)
    refine lv_aload_n hx hb dX1_takeBack_25 rfl (lv_at hl 2 rfl) ?_
    refine va_get (D := D) (ci := 1) (v := .int hm) (C := RX1) (T := TX1) (N := 3) hx hb hts uX1_takeBack_a_X1 hown hK.1 hP 0 rfl rfl 2 (by decide) (hts _ kX1_takeBack_a_3) (fun _ h9 => h9) rfl dX1_takeBack_26 ?_
    refine lv_if_eq (tgt := 36) hx hb dX1_takeBack_29 (by decide) (fun c3 => ?_) (fun c3 => ?_)
    · replace h := br_p c3 h
      exact no_sm h
    · replace h := br_n c3 h
      refine lv_aload_n hx hb dX1_takeBack_32 rfl (lv_at hl 0 rfl) ?_
      refine lv_ifnonnull (tgt := 38) hx hb dX1_takeBack_33 (by decide) ?_
      refine lv_aload_n hx hb dX1_takeBack_38 rfl (lv_at hl 3 rfl) ?_
      refine lv_aload_n hx hb dX1_takeBack_39 rfl (lv_at hl 0 rfl) ?_
      obtain ⟨r2, hcr2, h⟩ := bn_sp h
      have hPc := hP.sub (ws' := (ws_scene_scene cI cC cZ cR sc sea th th1 th2 th3 th4 th5 th6 th7 th8 th9 pi pia bsc bsea bth bth1 bth2 bth3 bth4 bth5 bth6 bth7 bth8 bth9 bpi bpia se mn ln hi wi br sp si le un ul px tm ps ft fk bse bmn bln bhi bwi bbr bsp bsi ble bun bul bpx btm bps bft bfk)) [2, 3, 4, 5, 6, 7, 8, 9, 10, 11, 12, 13, 14, 15, 16, 17, 18, 19, 20, 21, 22, 23, 24, 25, 26, 27, 28, 29] rfl
      have hDc := hD.sub (ws' := (ws_scene_scene cI cC cZ cR sc sea th th1 th2 th3 th4 th5 th6 th7 th8 th9 pi pia bsc bsea bth bth1 bth2 bth3 bth4 bth5 bth6 bth7 bth8 bth9 bpi bpia se mn ln hi wi br sp si le un ul px tm ps ft fk bse bmn bln bhi bwi bbr bsp bsi ble bun bul bpx btm bps bft bfk)) [2, 3, 4, 5, 6, 7, 8, 9, 10, 11, 12, 13, 14, 15, 16, 17, 18, 19, 20, 21, 22, 23, 24, 25, 26, 27, 28, 29] (by decide) rfl
      have hFc := va_free (wc := (ws_scene_scene cI cC cZ cR sc sea th th1 th2 th3 th4 th5 th6 th7 th8 th9 pi pia bsc bsea bth bth1 bth2 bth3 bth4 bth5 bth6 bth7 bth8 bth9 bpi bpia se mn ln hi wi br sp si le un ul px tm ps ft fk bse bmn bln bhi bwi bbr bsp bsi ble bun bul bpx btm bps bft bfk)) hD hS hA [2, 3, 4, 5, 6, 7, 8, 9, 10, 11, 12, 13, 14, 15, 16, 17, 18, 19, 20, 21, 22, 23, 24, 25, 26, 27, 28, 29] rfl
      refine va_callv (va_runV (As := [.ref bsc]) (rest := []) ⟨hx, hb, hml, hown, hts⟩ (m_X5_copyFrom l D cI cC cZ cR sc sea th th1 th2 th3 th4 th5 th6 th7 th8 th9 pi pia bsc bsea bth bth1 bth2 bth3 bth4 bth5 bth6 bth7 bth8 bth9 bpi bpia _ se mn ln hi wi br sp si le un ul px tm ps ft fk bse bmn bln bhi bwi bbr bsp bsi ble bun bul bpx btm bps bft bfk    r2 hcr2) (cwV 1 hts gX1_takeBack_X5_copyFrom rfl rfl rfl (by decide +kernel) ⟨Nat.le_of_ble_eq_true rfl, Nat.le_of_ble_eq_true rfl⟩) (cPc_pv hPc hK hDc (ci := 5) (q0 := 0) rfl rfl) rfl rfl hl.1 rfl (lv_room (Nat.le_of_ble_eq_true rfl)) dX1_takeBack_40 ⟨Nat.le_of_ble_eq_true rfl, Nat.le_of_ble_eq_true rfl⟩) hS (fun q _ h => hFc q h) hFc (fun u t H1 locs ht hvm hw hB hz1 hk1 hS => ?_)
      obtain ⟨hP1, hD1⟩ := hB
      rw [ht] at hP1
      obtain ⟨hP, hD⟩ := va_join (wr := [(hh, .inr (1, [.ref hst, .int nx, .int hm])), (hst, .inl (cR, 6, .inr (.inr (.inr (.inr hfu)))))]) (w1 := (ws_scene_scene cI cC cZ cR sc sea th th1 th2 th3 th4 th5 th6 th7 th8 th9 pi pia bsc bsea bth bth1 bth2 bth3 bth4 bth5 bth6 bth7 bth8 bth9 bpi bpia r2.2.2.2.2.1 r2.2.2.2.2.2.1 r2.2.2.2.2.2.2.1 r2.2.2.2.2.2.2.2.1 r2.2.2.2.2.2.2.2.2.1 r2.2.2.2.2.2.2.2.2.2.1 r2.2.2.2.2.2.2.2.2.2.2.1 r2.2.2.2.2.2.2.2.2.2.2.2.1 r2.2.2.2.2.2.2.2.2.2.2.2.2.1 r2.2.2.2.2.2.2.2.2.2.2.2.2.2.1 r2.2.2.2.2.2.2.2.2.2.2.2.2.2.2.1 r2.2.2.2.2.2.2.2.2.2.2.2.2.2.2.2 r2.1 r2.2.1 r2.2.2.1 r2.2.2.2.1 bse bmn bln bhi bwi bbr bsp bsi ble bun bul bpx btm bps bft bfk)) hP hD [2, 3, 4, 5, 6, 7, 8, 9, 10, 11, 12, 13, 14, 15, 16, 17, 18, 19, 20, 21, 22, 23, 24, 25, 26, 27, 28, 29] [0, 1] rfl rfl (by decide) (by decide) hk1 hFc hP1 hD1
      generalize H1 = H at hP hS ⊢
      have hP : va_P D vwCl (ws_hist_scene_scene cI cC cZ cR hh hst sc sea th th1 th2 th3 th4 th5 th6 th7 th8 th9 pi pia bsc bsea bth bth1 bth2 bth3 bth4 bth5 bth6 bth7 bth8 bth9 bpi bpia nx hm r2.2.2.2.2.1 r2.2.2.2.2.2.1 r2.2.2.2.2.2.2.1 r2.2.2.2.2.2.2.2.1 r2.2.2.2.2.2.2.2.2.1 r2.2.2.2.2.2.2.2.2.2.1 r2.2.2.2.2.2.2.2.2.2.2.1 r2.2.2.2.2.2.2.2.2.2.2.2.1 r2.2.2.2.2.2.2.2.2.2.2.2.2.1 r2.2.2.2.2.2.2.2.2.2.2.2.2.2.1 r2.2.2.2.2.2.2.2.2.2.2.2.2.2.2.1 r2.2.2.2.2.2.2.2.2.2.2.2.2.2.2.2 r2.1 r2.2.1 r2.2.2.1 r2.2.2.2.1 bse bmn bln bhi bwi bbr bsp bsi ble bun bul bpx btm bps bft bfk hfu) H := hP
      have hD : va_D A (ws_hist_scene_scene cI cC cZ cR hh hst sc sea th th1 th2 th3 th4 th5 th6 th7 th8 th9 pi pia bsc bsea bth bth1 bth2 bth3 bth4 bth5 bth6 bth7 bth8 bth9 bpi bpia nx hm r2.2.2.2.2.1 r2.2.2.2.2.2.1 r2.2.2.2.2.2.2.1 r2.2.2.2.2.2.2.2.1 r2.2.2.2.2.2.2.2.2.1 r2.2.2.2.2.2.2.2.2.2.1 r2.2.2.2.2.2.2.2.2.2.2.1 r2.2.2.2.2.2.2.2.2.2.2.2.1 r2.2.2.2.2.2.2.2.2.2.2.2.2.1 r2.2.2.2.2.2.2.2.2.2.2.2.2.2.1 r2.2.2.2.2.2.2.2.2.2.2.2.2.2.2.1 r2.2.2.2.2.2.2.2.2.2.2.2.2.2.2.2 r2.1 r2.2.1 r2.2.2.1 r2.2.2.2.1 bse bmn bln bhi bwi bbr bsp bsi ble bun bul bpx btm bps bft bfk hfu) := hD
      refine lv_aload_n hx hb dX1_takeBack_43 rfl (lv_at hl 2 rfl) ?_
      refine lv_iload_n hx hb dX1_takeBack_44 rfl (lv_at hl 1 rfl) ?_
      refine va_put (D := D) (ci := 1) (v := .int x1) (ty := .int) (C := RX1) (T := TX1) (N := 3) hx hb hts uX1_takeBack_a_X1 tyX1 tyX1_ok nmX1 hown hK.1 hP hD hS 0 rfl rfl 1 (by decide) (hts _ kX1_takeBack_a_1) (fun _ h9 => h9) rfl (by decide +kernel) rfl rfl (Nat.le_of_ble_eq_true rfl) dX1_takeBack_45 (fun H locs hP hD hS => ?_)
      have hP : va_P D vwCl (ws_hist_scene_scene cI cC cZ cR hh hst sc sea th th1 th2 th3 th4 th5 th6 th7 th8 th9 pi pia bsc bsea bth bth1 bth2 bth3 bth4 bth5 bth6 bth7 bth8 bth9 bpi bpia x1 hm r2.2.2.2.2.1 r2.2.2.2.2.2.1 r2.2.2.2.2.2.2.1 r2.2.2.2.2.2.2.2.1 r2.2.2.2.2.2.2.2.2.1 r2.2.2.2.2.2.2.2.2.2.1 r2.2.2.2.2.2.2.2.2.2.2.1 r2.2.2.2.2.2.2.2.2.2.2.2.1 r2.2.2.2.2.2.2.2.2.2.2.2.2.1 r2.2.2.2.2.2.2.2.2.2.2.2.2.2.1 r2.2.2.2.2.2.2.2.2.2.2.2.2.2.2.1 r2.2.2.2.2.2.2.2.2.2.2.2.2.2.2.2 r2.1 r2.2.1 r2.2.2.1 r2.2.2.2.1 bse bmn bln bhi bwi bbr bsp bsi ble bun bul bpx btm bps bft bfk hfu) H := hP
      have hD : va_D A (ws_hist_scene_scene cI cC cZ cR hh hst sc sea th th1 th2 th3 th4 th5 th6 th7 th8 th9 pi pia bsc bsea bth bth1 bth2 bth3 bth4 bth5 bth6 bth7 bth8 bth9 bpi bpia x1 hm r2.2.2.2.2.1 r2.2.2.2.2.2.1 r2.2.2.2.2.2.2.1 r2.2.2.2.2.2.2.2.1 r2.2.2.2.2.2.2.2.2.1 r2.2.2.2.2.2.2.2.2.2.1 r2.2.2.2.2.2.2.2.2.2.2.1 r2.2.2.2.2.2.2.2.2.2.2.2.1 r2.2.2.2.2.2.2.2.2.2.2.2.2.1 r2.2.2.2.2.2.2.2.2.2.2.2.2.2.1 r2.2.2.2.2.2.2.2.2.2.2.2.2.2.2.1 r2.2.2.2.2.2.2.2.2.2.2.2.2.2.2.2 r2.1 r2.2.1 r2.2.2.1 r2.2.2.2.1 bse bmn bln bhi bwi bbr bsp bsi ble bun bul bpx btm bps bft bfk hfu) := hD
      refine lv_aload_n hx hb dX1_takeBack_48 rfl (lv_at hl 2 rfl) ?_
      refine lv_dup hx hb dX1_takeBack_49 rfl ?_
      refine va_get (D := D) (ci := 1) (v := .int hm) (C := RX1) (T := TX1) (N := 3) hx hb hts uX1_takeBack_a_X1 hown hK.1 hP 0 rfl rfl 2 (by decide) (hts _ kX1_takeBack_a_3) (fun _ h9 => h9) rfl dX1_takeBack_50 ?_
      refine lv_iconst (v := 1) hx hb dX1_takeBack_53 (by decide) ?_
      refine lv_isub hx hb dX1_takeBack_54 ?_
      refine va_put (D := D) (ci := 1) (v := .int (hm - 1)) (ty := .int) (C := RX1) (T := TX1) (N := 3) hx hb hts uX1_takeBack_a_X1 tyX1 tyX1_ok nmX1 hown hK.1 hP hD hS 0 rfl rfl 2 (by decide) (hts _ kX1_takeBack_a_3) (fun _ h9 => h9) rfl (by decide +kernel) rfl rfl (Nat.le_of_ble_eq_true rfl) dX1_takeBack_55 (fun H locs hP hD hS => ?_)
      have hP : va_P D vwCl (ws_hist_scene_scene cI cC cZ cR hh hst sc sea th th1 th2 th3 th4 th5 th6 th7 th8 th9 pi pia bsc bsea bth bth1 bth2 bth3 bth4 bth5 bth6 bth7 bth8 bth9 bpi bpia x1 (hm - 1) r2.2.2.2.2.1 r2.2.2.2.2.2.1 r2.2.2.2.2.2.2.1 r2.2.2.2.2.2.2.2.1 r2.2.2.2.2.2.2.2.2.1 r2.2.2.2.2.2.2.2.2.2.1 r2.2.2.2.2.2.2.2.2.2.2.1 r2.2.2.2.2.2.2.2.2.2.2.2.1 r2.2.2.2.2.2.2.2.2.2.2.2.2.1 r2.2.2.2.2.2.2.2.2.2.2.2.2.2.1 r2.2.2.2.2.2.2.2.2.2.2.2.2.2.2.1 r2.2.2.2.2.2.2.2.2.2.2.2.2.2.2.2 r2.1 r2.2.1 r2.2.2.1 r2.2.2.2.1 bse bmn bln bhi bwi bbr bsp bsi ble bun bul bpx btm bps bft bfk hfu) H := hP
      have hD : va_D A (ws_hist_scene_scene cI cC cZ cR hh hst sc sea th th1 th2 th3 th4 th5 th6 th7 th8 th9 pi pia bsc bsea bth bth1 bth2 bth3 bth4 bth5 bth6 bth7 bth8 bth9 bpi bpia x1 (hm - 1) r2.2.2.2.2.1 r2.2.2.2.2.2.1 r2.2.2.2.2.2.2.1 r2.2.2.2.2.2.2.2.1 r2.2.2.2.2.2.2.2.2.1 r2.2.2.2.2.2.2.2.2.2.1 r2.2.2.2.2.2.2.2.2.2.2.1 r2.2.2.2.2.2.2.2.2.2.2.2.1 r2.2.2.2.2.2.2.2.2.2.2.2.2.1 r2.2.2.2.2.2.2.2.2.2.2.2.2.2.1 r2.2.2.2.2.2.2.2.2.2.2.2.2.2.2.1 r2.2.2.2.2.2.2.2.2.2.2.2.2.2.2.2 r2.1 r2.2.1 r2.2.2.1 r2.2.2.2.1 bse bmn bln bhi bwi bbr bsp bsi ble bun bul bpx btm bps bft bfk hfu) := hD
      refine lv_iconst (v := 1) hx hb dX1_takeBack_58 (by decide) ?_
      have e9 := Option.some.inj h
      subst e9
      rw [hQ]
      exact W.zret (v := 1) hx hb hr rfl (fun t ht hW => ⟨⟨1, (), rfl, rfl, by rw [ht]; exact hP, hD⟩, hS.F ht⟩) hS.2.2 dX1_takeBack_59
  · replace h := br_n (not_not_intro c6) h
    refine lv_iconst (v := 5) hx hb dX1_takeBack_7 (by decide) ?_
    refine lv_goto (tgt := 17) hx hb dX1_takeBack_8 (by decide) ?_
    refine lv_istore_n (lv' := [(2, .int 5), (0, .ref hh), (1, .ref sc)]) hx hb dX1_takeBack_17 rfl hl (by decide) rfl (fun ls hl => ?_)
    refine lv_aload_n hx hb dX1_takeBack_18 rfl (lv_at hl 1 rfl) ?_
    refine va_get (D := D) (ci := 1) (v := .ref hst) (C := RX1) (T := TX1) (N := 3) hx hb hts uX1_takeBack_a_X1 hown hK.1 hP 0 rfl rfl 0 (by decide) (hts _ kX1_takeBack_a_2) (fun _ h9 => h9) rfl dX1_takeBack_19 ?_
    refine lv_iload_n hx hb dX1_takeBack_22 rfl (lv_at hl 0 rfl) ?_
    obtain ⟨hin, h⟩ := gd_sp h
    refine va_aldq (D := D) hx hb hK.1 hP 1 3 rfl rfl hin dX1_takeBack_23 ?_
    refine W.eq (g2 := F0 m 24 ls [.ref bsc]) (by rw [hq _ (fun _ => by first | rfl | assumption | contradiction) (fun _ => by first | rfl | assumption | contradiction)]; rfl) ?_
    refine lv_astore_n (lv' := [(3, .ref bsc), (2, .int 5), (0, .ref hh), (1, .ref sc)]) hx hb dX1_takeBack_24 rfl hl (by decide) rfl (fun ls hl => ?_)
    refine lv_aload_n hx hb dX1_takeBack_25 rfl (lv_at hl 2 rfl) ?_
    refine va_get (D := D) (ci := 1) (v := .int hm) (C := RX1) (T := TX1) (N := 3) hx hb hts uX1_takeBack_a_X1 hown hK.1 hP 0 rfl rfl 2 (by decide) (hts _ kX1_takeBack_a_3) (fun _ h9 => h9) rfl dX1_takeBack_26 ?_
    refine lv_if_eq (tgt := 36) hx hb dX1_takeBack_29 (by decide) (fun c5 => ?_) (fun c5 => ?_)
    · replace h := br_p c5 h
      exact no_sm h
    · replace h := br_n c5 h
      refine lv_aload_n hx hb dX1_takeBack_32 rfl (lv_at hl 0 rfl) ?_
      refine lv_ifnonnull (tgt := 38) hx hb dX1_takeBack_33 (by decide) ?_
      refine lv_aload_n hx hb dX1_takeBack_38 rfl (lv_at hl 3 rfl) ?_
      refine lv_aload_n hx hb dX1_takeBack_39 rfl (lv_at hl 0 rfl) ?_
      obtain ⟨r4, hcr4, h⟩ := bn_sp h
      have hPc := hP.sub (ws' := (ws_scene_scene cI cC cZ cR sc sea th th1 th2 th3 th4 th5 th6 th7 th8 th9 pi pia bsc bsea bth bth1 bth2 bth3 bth4 bth5 bth6 bth7 bth8 bth9 bpi bpia se mn ln hi wi br sp si le un ul px tm ps ft fk bse bmn bln bhi bwi bbr bsp bsi ble bun bul bpx btm bps bft bfk)) [2, 3, 4, 5, 6, 7, 8, 9, 10, 11, 12, 13, 14, 15, 16, 17, 18, 19, 20, 21, 22, 23, 24, 25, 26, 27, 28, 29] rfl
      have hDc := hD.sub (ws' := (ws_scene_scene cI cC cZ cR sc sea th th1 th2 th3 th4 th5 th6 th7 th8 th9 pi pia bsc bsea bth bth1 bth2 bth3 bth4 bth5 bth6 bth7 bth8 bth9 bpi bpia se mn ln hi wi br sp si le un ul px tm ps ft fk bse bmn bln bhi bwi bbr bsp bsi ble bun bul bpx btm bps bft bfk)) [2, 3, 4, 5, 6, 7, 8, 9, 10, 11, 12, 13, 14, 15, 16, 17, 18, 19, 20, 21, 22, 23, 24, 25, 26, 27, 28, 29] (by decide) rfl
      have hFc := va_free (wc := (ws_scene_scene cI cC cZ cR sc sea th th1 th2 th3 th4 th5 th6 th7 th8 th9 pi pia bsc bsea bth bth1 bth2 bth3 bth4 bth5 bth6 bth7 bth8 bth9 bpi bpia se mn ln hi wi br sp si le un ul px tm ps ft fk bse bmn bln bhi bwi bbr bsp bsi ble bun bul bpx btm bps bft bfk)) hD hS hA [2, 3, 4, 5, 6, 7, 8, 9, 10, 11, 12, 13, 14, 15, 16, 17, 18, 19, 20, 21, 22, 23, 24, 25, 26, 27, 28, 29] rfl
      refine va_callv (va_runV (As := [.ref bsc]) (rest := []) ⟨hx, hb, hml, hown, hts⟩ (m_X5_copyFrom l D cI cC cZ cR sc sea th th1 th2 th3 th4 th5 th6 th7 th8 th9 pi pia bsc bsea bth bth1 bth2 bth3 bth4 bth5 bth6 bth7 bth8 bth9 bpi bpia _ se mn ln hi wi br sp si le un ul px tm ps ft fk bse bmn bln bhi bwi bbr bsp bsi ble bun bul bpx btm bps bft bfk    r4 hcr4) (cwV 1 hts gX1_takeBack_X5_copyFrom rfl rfl rfl (by decide +kernel) ⟨Nat.le_of_ble_eq_true rfl, Nat.le_of_ble_eq_true rfl⟩) (cPc_pv hPc hK hDc (ci := 5) (q0 := 0) rfl rfl) rfl rfl hl.1 rfl (lv_room (Nat.le_of_ble_eq_true rfl)) dX1_takeBack_40 ⟨Nat.le_of_ble_eq_true rfl, Nat.le_of_ble_eq_true rfl⟩) hS (fun q _ h => hFc q h) hFc (fun u t H1 locs ht hvm hw hB hz1 hk1 hS => ?_)
      obtain ⟨hP1, hD1⟩ := hB
      rw [ht] at hP1
      obtain ⟨hP, hD⟩ := va_join (wr := [(hh, .inr (1, [.ref hst, .int nx, .int hm])), (hst, .inl (cR, 6, .inr (.inr (.inr (.inr hfu)))))]) (w1 := (ws_scene_scene cI cC cZ cR sc sea th th1 th2 th3 th4 th5 th6 th7 th8 th9 pi pia bsc bsea bth bth1 bth2 bth3 bth4 bth5 bth6 bth7 bth8 bth9 bpi bpia r4.2.2.2.2.1 r4.2.2.2.2.2.1 r4.2.2.2.2.2.2.1 r4.2.2.2.2.2.2.2.1 r4.2.2.2.2.2.2.2.2.1 r4.2.2.2.2.2.2.2.2.2.1 r4.2.2.2.2.2.2.2.2.2.2.1 r4.2.2.2.2.2.2.2.2.2.2.2.1 r4.2.2.2.2.2.2.2.2.2.2.2.2.1 r4.2.2.2.2.2.2.2.2.2.2.2.2.2.1 r4.2.2.2.2.2.2.2.2.2.2.2.2.2.2.1 r4.2.2.2.2.2.2.2.2.2.2.2.2.2.2.2 r4.1 r4.2.1 r4.2.2.1 r4.2.2.2.1 bse bmn bln bhi bwi bbr bsp bsi ble bun bul bpx btm bps bft bfk)) hP hD [2, 3, 4, 5, 6, 7, 8, 9, 10, 11, 12, 13, 14, 15, 16, 17, 18, 19, 20, 21, 22, 23, 24, 25, 26, 27, 28, 29] [0, 1] rfl rfl (by decide) (by decide) hk1 hFc hP1 hD1
      generalize H1 = H at hP hS ⊢
      have hP : va_P D vwCl (ws_hist_scene_scene cI cC cZ cR hh hst sc sea th th1 th2 th3 th4 th5 th6 th7 th8 th9 pi pia bsc bsea bth bth1 bth2 bth3 bth4 bth5 bth6 bth7 bth8 bth9 bpi bpia nx hm r4.2.2.2.2.1 r4.2.2.2.2.2.1 r4.2.2.2.2.2.2.1 r4.2.2.2.2.2.2.2.1 r4.2.2.2.2.2.2.2.2.1 r4.2.2.2.2.2.2.2.2.2.1 r4.2.2.2.2.2.2.2.2.2.2.1 r4.2.2.2.2.2.2.2.2.2.2.2.1 r4.2.2.2.2.2.2.2.2.2.2.2.2.1 r4.2.2.2.2.2.2.2.2.2.2.2.2.2.1 r4.2.2.2.2.2.2.2.2.2.2.2.2.2.2.1 r4.2.2.2.2.2.2.2.2.2.2.2.2.2.2.2 r4.1 r4.2.1 r4.2.2.1 r4.2.2.2.1 bse bmn bln bhi bwi bbr bsp bsi ble bun bul bpx btm bps bft bfk hfu) H := hP
      have hD : va_D A (ws_hist_scene_scene cI cC cZ cR hh hst sc sea th th1 th2 th3 th4 th5 th6 th7 th8 th9 pi pia bsc bsea bth bth1 bth2 bth3 bth4 bth5 bth6 bth7 bth8 bth9 bpi bpia nx hm r4.2.2.2.2.1 r4.2.2.2.2.2.1 r4.2.2.2.2.2.2.1 r4.2.2.2.2.2.2.2.1 r4.2.2.2.2.2.2.2.2.1 r4.2.2.2.2.2.2.2.2.2.1 r4.2.2.2.2.2.2.2.2.2.2.1 r4.2.2.2.2.2.2.2.2.2.2.2.1 r4.2.2.2.2.2.2.2.2.2.2.2.2.1 r4.2.2.2.2.2.2.2.2.2.2.2.2.2.1 r4.2.2.2.2.2.2.2.2.2.2.2.2.2.2.1 r4.2.2.2.2.2.2.2.2.2.2.2.2.2.2.2 r4.1 r4.2.1 r4.2.2.1 r4.2.2.2.1 bse bmn bln bhi bwi bbr bsp bsi ble bun bul bpx btm bps bft bfk hfu) := hD
      refine lv_aload_n hx hb dX1_takeBack_43 rfl (lv_at hl 2 rfl) ?_
      refine lv_iload_n hx hb dX1_takeBack_44 rfl (lv_at hl 1 rfl) ?_
      refine va_put (D := D) (ci := 1) (v := .int 5) (ty := .int) (C := RX1) (T := TX1) (N := 3) hx hb hts uX1_takeBack_a_X1 tyX1 tyX1_ok nmX1 hown hK.1 hP hD hS 0 rfl rfl 1 (by decide) (hts _ kX1_takeBack_a_1) (fun _ h9 => h9) rfl (by decide +kernel) rfl rfl (Nat.le_of_ble_eq_true rfl) dX1_takeBack_45 (fun H locs hP hD hS => ?_)
      have hP : va_P D vwCl (ws_hist_scene_scene cI cC cZ cR hh hst sc sea th th1 th2 th3 th4 th5 th6 th7 th8 th9 pi pia bsc bsea bth bth1 bth2 bth3 bth4 bth5 bth6 bth7 bth8 bth9 bpi bpia 5 hm r4.2.2.2.2.1 r4.2.2.2.2.2.1 r4.2.2.2.2.2.2.1 r4.2.2.2.2.2.2.2.1 r4.2.2.2.2.2.2.2.2.1 r4.2.2.2.2.2.2.2.2.2.1 r4.2.2.2.2.2.2.2.2.2.2.1 r4.2.2.2.2.2.2.2.2.2.2.2.1 r4.2.2.2.2.2.2.2.2.2.2.2.2.1 r4.2.2.2.2.2.2.2.2.2.2.2.2.2.1 r4.2.2.2.2.2.2.2.2.2.2.2.2.2.2.1 r4.2.2.2.2.2.2.2.2.2.2.2.2.2.2.2 r4.1 r4.2.1 r4.2.2.1 r4.2.2.2.1 bse bmn bln bhi bwi bbr bsp bsi ble bun bul bpx btm bps bft bfk hfu) H := hP
      have hD : va_D A (ws_hist_scene_scene cI cC cZ cR hh hst sc sea th th1 th2 th3 th4 th5 th6 th7 th8 th9 pi pia bsc bsea bth bth1 bth2 bth3 bth4 bth5 bth6 bth7 bth8 bth9 bpi bpia 5 hm r4.2.2.2.2.1 r4.2.2.2.2.2.1 r4.2.2.2.2.2.2.1 r4.2.2.2.2.2.2.2.1 r4.2.2.2.2.2.2.2.2.1 r4.2.2.2.2.2.2.2.2.2.1 r4.2.2.2.2.2.2.2.2.2.2.1 r4.2.2.2.2.2.2.2.2.2.2.2.1 r4.2.2.2.2.2.2.2.2.2.2.2.2.1 r4.2.2.2.2.2.2.2.2.2.2.2.2.2.1 r4.2.2.2.2.2.2.2.2.2.2.2.2.2.2.1 r4.2.2.2.2.2.2.2.2.2.2.2.2.2.2.2 r4.1 r4.2.1 r4.2.2.1 r4.2.2.2.1 bse bmn bln bhi bwi bbr bsp bsi ble bun bul bpx btm bps bft bfk hfu) := hD
      refine lv_aload_n hx hb dX1_takeBack_48 rfl (lv_at hl 2 rfl) ?_
      refine lv_dup hx hb dX1_takeBack_49 rfl ?_
      refine va_get (D := D) (ci := 1) (v := .int hm) (C := RX1) (T := TX1) (N := 3) hx hb hts uX1_takeBack_a_X1 hown hK.1 hP 0 rfl rfl 2 (by decide) (hts _ kX1_takeBack_a_3) (fun _ h9 => h9) rfl dX1_takeBack_50 ?_
      refine lv_iconst (v := 1) hx hb dX1_takeBack_53 (by decide) ?_
      refine lv_isub hx hb dX1_takeBack_54 ?_
      refine va_put (D := D) (ci := 1) (v := .int (hm - 1)) (ty := .int) (C := RX1) (T := TX1) (N := 3) hx hb hts uX1_takeBack_a_X1 tyX1 tyX1_ok nmX1 hown hK.1 hP hD hS 0 rfl rfl 2 (by decide) (hts _ kX1_takeBack_a_3) (fun _ h9 => h9) rfl (by decide +kernel) rfl rfl (Nat.le_of_ble_eq_true rfl) dX1_takeBack_55 (fun H locs hP hD hS => ?_)
      have hP : va_P D vwCl (ws_hist_scene_scene cI cC cZ cR hh hst sc sea th th1 th2 th3 th4 th5 th6 th7 th8 th9 pi pia bsc bsea bth bth1 bth2 bth3 bth4 bth5 bth6 bth7 bth8 bth9 bpi bpia 5 (hm - 1) r4.2.2.2.2.1 r4.2.2.2.2.2.1 r4.2.2.2.2.2.2.1 r4.2.2.2.2.2.2.2.1 r4.2.2.2.2.2.2.2.2.1 r4.2.2.2.2.2.2.2.2.2.1 r4.2.2.2.2.2.2.2.2.2.2.1 r4.2.2.2.2.2.2.2.2.2.2.2.1 r4.2.2.2.2.2.2.2.2.2.2.2.2.1 r4.2.2.2.2.2.2.2.2.2.2.2.2.2.1 r4.2.2.2.2.2.2.2.2.2.2.2.2.2.2.1 r4.2.2.2.2.2.2.2.2.2.2.2.2.2.2.2 r4.1 r4.2.1 r4.2.2.1 r4.2.2.2.1 bse bmn bln bhi bwi bbr bsp bsi ble bun bul bpx btm bps bft bfk hfu) H := hP
      have hD : va_D A (ws_hist_scene_scene cI cC cZ cR hh hst sc sea th th1 th2 th3 th4 th5 th6 th7 th8 th9 pi pia bsc bsea bth bth1 bth2 bth3 bth4 bth5 bth6 bth7 bth8 bth9 bpi bpia 5 (hm - 1) r4.2.2.2.2.1 r4.2.2.2.2.2.1 r4.2.2.2.2.2.2.1 r4.2.2.2.2.2.2.2.1 r4.2.2.2.2.2.2.2.2.1 r4.2.2.2.2.2.2.2.2.2.1 r4.2.2.2.2.2.2.2.2.2.2.1 r4.2.2.2.2.2.2.2.2.2.2.2.1 r4.2.2.2.2.2.2.2.2.2.2.2.2.1 r4.2.2.2.2.2.2.2.2.2.2.2.2.2.1 r4.2.2.2.2.2.2.2.2.2.2.2.2.2.2.1 r4.2.2.2.2.2.2.2.2.2.2.2.2.2.2.2 r4.1 r4.2.1 r4.2.2.1 r4.2.2.2.1 bse bmn bln bhi bwi bbr bsp bsi ble bun bul bpx btm bps bft bfk hfu) := hD
      refine lv_iconst (v := 1) hx hb dX1_takeBack_58 (by decide) ?_
      have e9 := Option.some.inj h
      subst e9
      rw [hQ]
      exact W.zret (v := 1) hx hb hr rfl (fun t ht hW => ⟨⟨1, (), rfl, rfl, by rw [ht]; exact hP, hD⟩, hS.F ht⟩) hS.2.2 dX1_takeBack_59
-- LeaningLines$History.takeBack
abbrev OUT_X1_takeBack_n : Type := Int32
def f_X1_takeBack_n (nx : Int32) (hm : Int32) : Option OUT_X1_takeBack_n :=
  (if ¬ nx = 0 then bd (nx - 1) (fun x1 => gd x1 6 ((if hm = 0 then some (0) else some (0)))) else gd 5 6 ((if hm = 0 then some (0) else some (0))))
theorem uX1_takeBack_n_X1 : ∀ w ∈ wsX10, w ∈ wsX1_takeBack := by decide +kernel
theorem kX1_takeBack_n_1 : Cond.fieldLink RX1 17 "LeaningLines$History" "next" "I" ∈ wsX1_takeBack := by decide +kernel
theorem kX1_takeBack_n_2 : Cond.fieldLink RX1 11 "LeaningLines$History" "states" "[LLeaningLines$Scene;" ∈ wsX1_takeBack := by decide +kernel
theorem kX1_takeBack_n_3 : Cond.fieldLink RX1 21 "LeaningLines$History" "many" "I" ∈ wsX1_takeBack := by decide +kernel
abbrev R_X1_takeBack_n : Room := { frames := 0, cells := 0, slots := 0, locals := 0 }
set_option maxHeartbeats 4000000 in
set_option maxRecDepth 100000 in
theorem m_X1_takeBack_n (l : Launch) (D : va_G) (cI cC cZ cR : ClassId) (hh hst sc sea th th1 th2 th3 th4 th5 th6 th7 th8 th9 pi pia : Nat) (sz : Nat) (nx : Int32) (hm : Int32) (se : Nat → Int32) (mn : Int32) (ln : Nat → Int32) (hi : Nat → Int32) (wi : Nat → Int32) (br : Nat → Int32) (sp : Nat → Int32) (si : Nat → Int32) (le : Nat → Int32) (un : Nat → Int32) (ul : Nat → Int32) (px : Nat → Int32) (tm : Int32) (ps : Int32) (ft : Int32) (fk : Int32) (hfu : Nat → Option Nat)   (hq : ∀ i : Int32, (nx = 0 → i = 5) → (¬ nx = 0 → i = nx - 1) → hfu i.toNatClampNeg = none) (r : OUT_X1_takeBack_n) (hf : f_X1_takeBack_n nx hm = some r) : Met l yX1_takeBack wsX1_takeBack R_X1_takeBack_n (cPc D cI cC cZ cR [.ref hh, .ref sc] sz (ws_hist_scene cI cC cZ cR hh hst sc sea th th1 th2 th3 th4 th5 th6 th7 th8 th9 pi pia nx hm se mn ln hi wi br sp si le un ul px tm ps ft fk hfu)) (cQi D (ws_hist_scene cI cC cZ cR hh hst sc sea th th1 th2 th3 th4 th5 th6 th7 th8 th9 pi pia nx hm se mn ln hi wi br sp si le un ul px tm ps ft fk hfu) (va_A (ws_hist_scene cI cC cZ cR hh hst sc sea th th1 th2 th3 th4 th5 th6 th7 th8 th9 pi pia nx hm se mn ln hi wi br sp si le un ul px tm ps ft fk hfu) sz) r) 0 0 (va_A (ws_hist_scene cI cC cZ cR hh hst sc sea th th1 th2 th3 th4 th5 th6 th7 th8 th9 pi pia nx hm se mn ln hi wi br sp si le un ul px tm ps ft fk hfu) sz) := by
  refine Met.ofW (cc := cX1_takeBack) (maxL := 4) (ret := (some .boolean)) (by decide) rfl ?_
  intro p e s m args below meth c s₁ B hml hv
  obtain ⟨rfl, hsz, hP, hK, hD0⟩ := hv
  have hx := B.exec
  have hb := B.bytes
  have hr := B.returns
  have hts := atoms_spec (ws := wsX1_takeBack) B.pre
  have hown : s.vm.findClass RX1 = some m.cls := findClass_of_methodNamed B.named
  have hlocks := B.notSynchronized
  subst hsz
  have hD := hD0.self (sz := s.heap.size)
  generalize hAe : va_A (ws_hist_scene cI cC cZ cR hh hst sc sea th th1 th2 th3 th4 th5 th6 th7 th8 th9 pi pia nx hm se mn ln hi wi br sp si le un ul px tm ps ft fk hfu) s.heap.size = A at hD ⊢
  skip
  have hA : ∀ q : Nat, s.heap.size ≤ q → A q := fun q h => by rw [← hAe]; exact Or.inr h
  have hS : va_S A s.heap s.heap [] := va_S.rf
  have hl := lv_entry ([.ref hh, .ref sc]) (n := 4) (Nat.le_of_ble_eq_true rfl)
  rw [lg_entry_eq]
  generalize (lg_sl ([.ref hh, .ref sc]) ++ List.replicate (4 - (lg_sl ([.ref hh, .ref sc])).length) Slot.unset).toArray = ls at hl ⊢
  have hl : lv_has ls 4 [(0, .ref hh), (1, .ref sc)] := hl
  refine W_absQ (fun Q hQ => ?_)
  refine W.eq (g2 := F0 m 0 ls []) rfl ?_
  have h := hf
  unfold f_X1_takeBack_n at h
  refine lv_aload_n hx hb dX1_takeBack_0 rfl (lv_at hl 0 rfl) ?_
  refine va_get (D := D) (ci := 1) (v := .int nx) (C := RX1) (T := TX1) (N := 3) hx hb hts uX1_takeBack_n_X1 hown hK.1 hP 0 rfl rfl 1 (by decide) (hts _ kX1_takeBack_n_1) (fun _ h9 => h9) rfl dX1_takeBack_1 ?_
  refine lv_if_ne (tgt := 11) hx hb dX1_takeBack_4 (by decide) (fun c4 => ?_) (fun c4 => ?_)
  · replace h := br_p c4 h
    refine lv_aload_n hx hb dX1_takeBack_11 rfl (lv_at hl 0 rfl) ?_
    refine va_get (D := D) (ci := 1) (v := .int nx) (C := RX1) (T := TX1) (N := 3) hx hb hts uX1_takeBack_n_X1 hown hK.1 hP 0 rfl rfl 1 (by decide) (hts _ kX1_takeBack_n_1) (fun _ h9 => h9) rfl dX1_takeBack_12 ?_
    refine lv_iconst (v := 1) hx hb dX1_takeBack_15 (by decide) ?_
    refine lv_isub hx hb dX1_takeBack_16 ?_
    refine lv_topi (fun x1 ex1 => ?_)
    replace h := bd_s2 h ex1
    refine lv_istore_n (lv' := [(2, .int x1), (0, .ref hh), (1, .ref sc)]) hx hb dX1_takeBack_17 rfl hl (by decide) rfl (fun ls hl => ?_)
    refine lv_aload_n hx hb dX1_takeBack_18 rfl (lv_at hl 1 rfl) ?_
    refine va_get (D := D) (ci := 1) (v := .ref hst) (C := RX1) (T := TX1) (N := 3) hx hb hts uX1_takeBack_n_X1 hown hK.1 hP 0 rfl rfl 0 (by decide) (hts _ kX1_takeBack_n_2) (fun _ h9 => h9) rfl dX1_takeBack_19 ?_
    refine lv_iload_n hx hb dX1_takeBack_22 rfl (lv_at hl 0 rfl) ?_
    obtain ⟨hin, h⟩ := gd_sp h
    refine va_aldq (D := D) hx hb hK.1 hP 1 3 rfl rfl hin dX1_takeBack_23 ?_
    refine W.eq (g2 := F0 m 24 ls [.null]) (by rw [hq _ (fun _ => by first | rfl | assumption | contradiction) (fun _ => by first | rfl | assumption | contradiction)]; rfl) ?_
    refine lv_astore_nN (lv' := [(3, .null), (2, .int x1), (0, .ref hh), (1, .ref sc)]) hx hb dX1_takeBack_24 rfl hl (by decide) rfl (fun ls hl => ?_)
    refine lv_aload_n hx hb dX1_takeBack_25 rfl (lv_at hl 2 rfl) ?_
    refine va_get (D := D) (ci := 1) (v := .int hm) (C := RX1) (T := TX1) (N := 3) hx hb hts uX1_takeBack_n_X1 hown hK.1 hP 0 rfl rfl 2 (by decide) (hts _ kX1_takeBack_n_3) (fun _ h9 => h9) rfl dX1_takeBack_26 ?_
    refine lv_if_eq (tgt := 36) hx hb dX1_takeBack_29 (by decide) (fun c2 => ?_) (fun c2 => ?_)
    · replace h := br_p c2 h
      refine lv_iconst (v := 0) hx hb dX1_takeBack_36 (by decide) ?_
      have e9 := Option.some.inj h
      subst e9
      rw [hQ]
      exact W.zret (v := 0) hx hb hr rfl (fun t ht hW => ⟨⟨0, (), rfl, rfl, by rw [ht]; exact hP, hD⟩, hS.F ht⟩) hS.2.2 dX1_takeBack_37
    · replace h := br_n c2 h
      refine lv_aload_nN hx hb dX1_takeBack_32 rfl (lv_at hl 0 rfl) ?_
      refine lv_ifnonnullN hx hb dX1_takeBack_33 ?_
      refine lv_iconst (v := 0) hx hb dX1_takeBack_36 (by decide) ?_
      have e9 := Option.some.inj h
      subst e9
      rw [hQ]
      exact W.zret (v := 0) hx hb hr rfl (fun t ht hW => ⟨⟨0, (), rfl, rfl, by rw [ht]; exact hP, hD⟩, hS.F ht⟩) hS.2.2 dX1_takeBack_37
  · replace h := br_n (not_not_intro c4) h
    refine lv_iconst (v := 5) hx hb dX1_takeBack_7 (by decide) ?_
    refine lv_goto (tgt := 17) hx hb dX1_takeBack_8 (by decide) ?_
    refine lv_istore_n (lv' := [(2, .int 5), (0, .ref hh), (1, .ref sc)]) hx hb dX1_takeBack_17 rfl hl (by decide) rfl (fun ls hl => ?_)
    refine lv_aload_n hx hb dX1_takeBack_18 rfl (lv_at hl 1 rfl) ?_
    refine va_get (D := D) (ci := 1) (v := .ref hst) (C := RX1) (T := TX1) (N := 3) hx hb hts uX1_takeBack_n_X1 hown hK.1 hP 0 rfl rfl 0 (by decide) (hts _ kX1_takeBack_n_2) (fun _ h9 => h9) rfl dX1_takeBack_19 ?_
    refine lv_iload_n hx hb dX1_takeBack_22 rfl (lv_at hl 0 rfl) ?_
    obtain ⟨hin, h⟩ := gd_sp h
    refine va_aldq (D := D) hx hb hK.1 hP 1 3 rfl rfl hin dX1_takeBack_23 ?_
    refine W.eq (g2 := F0 m 24 ls [.null]) (by rw [hq _ (fun _ => by first | rfl | assumption | contradiction) (fun _ => by first | rfl | assumption | contradiction)]; rfl) ?_
    refine lv_astore_nN (lv' := [(3, .null), (2, .int 5), (0, .ref hh), (1, .ref sc)]) hx hb dX1_takeBack_24 rfl hl (by decide) rfl (fun ls hl => ?_)
    refine lv_aload_n hx hb dX1_takeBack_25 rfl (lv_at hl 2 rfl) ?_
    refine va_get (D := D) (ci := 1) (v := .int hm) (C := RX1) (T := TX1) (N := 3) hx hb hts uX1_takeBack_n_X1 hown hK.1 hP 0 rfl rfl 2 (by decide) (hts _ kX1_takeBack_n_3) (fun _ h9 => h9) rfl dX1_takeBack_26 ?_
    refine lv_if_eq (tgt := 36) hx hb dX1_takeBack_29 (by decide) (fun c3 => ?_) (fun c3 => ?_)
    · replace h := br_p c3 h
      refine lv_iconst (v := 0) hx hb dX1_takeBack_36 (by decide) ?_
      have e9 := Option.some.inj h
      subst e9
      rw [hQ]
      exact W.zret (v := 0) hx hb hr rfl (fun t ht hW => ⟨⟨0, (), rfl, rfl, by rw [ht]; exact hP, hD⟩, hS.F ht⟩) hS.2.2 dX1_takeBack_37
    · replace h := br_n c3 h
      refine lv_aload_nN hx hb dX1_takeBack_32 rfl (lv_at hl 0 rfl) ?_
      refine lv_ifnonnullN hx hb dX1_takeBack_33 ?_
      refine lv_iconst (v := 0) hx hb dX1_takeBack_36 (by decide) ?_
      have e9 := Option.some.inj h
      subst e9
      rw [hQ]
      exact W.zret (v := 0) hx hb hr rfl (fun t ht hW => ⟨⟨0, (), rfl, rfl, by rw [ht]; exact hP, hD⟩, hS.F ht⟩) hS.2.2 dX1_takeBack_37
-- LeaningLines$History.takeBack
abbrev OUT_X1_takeBack_e : Type := Int32
def f_X1_takeBack_e (nx : Int32) (hm : Int32) : Option OUT_X1_takeBack_e :=
  (if ¬ nx = 0 then bd (nx - 1) (fun x1 => gd x1 6 ((if hm = 0 then some (0) else none))) else gd 5 6 ((if hm = 0 then some (0) else none)))
theorem uX1_takeBack_e_X1 : ∀ w ∈ wsX10, w ∈ wsX1_takeBack := by decide +kernel
theorem kX1_takeBack_e_1 : Cond.fieldLink RX1 17 "LeaningLines$History" "next" "I" ∈ wsX1_takeBack := by decide +kernel
theorem kX1_takeBack_e_2 : Cond.fieldLink RX1 11 "LeaningLines$History" "states" "[LLeaningLines$Scene;" ∈ wsX1_takeBack := by decide +kernel
theorem kX1_takeBack_e_3 : Cond.fieldLink RX1 21 "LeaningLines$History" "many" "I" ∈ wsX1_takeBack := by decide +kernel
abbrev R_X1_takeBack_e : Room := { frames := 0, cells := 0, slots := 0, locals := 0 }
set_option maxHeartbeats 4000000 in
set_option maxRecDepth 100000 in
theorem m_X1_takeBack_e (l : Launch) (D : va_G) (cI cC cZ cR : ClassId) (hh hst sc sea th th1 th2 th3 th4 th5 th6 th7 th8 th9 pi pia bad : Nat) (sz : Nat) (nx : Int32) (hm : Int32) (se : Nat → Int32) (mn : Int32) (ln : Nat → Int32) (hi : Nat → Int32) (wi : Nat → Int32) (br : Nat → Int32) (sp : Nat → Int32) (si : Nat → Int32) (le : Nat → Int32) (un : Nat → Int32) (ul : Nat → Int32) (px : Nat → Int32) (tm : Int32) (ps : Int32) (ft : Int32) (fk : Int32) (hfu : Nat → Option Nat)   (hq : ∀ i : Int32, (nx = 0 → i = 5) → (¬ nx = 0 → i = nx - 1) → hfu i.toNatClampNeg = some bad) (r : OUT_X1_takeBack_e) (hf : f_X1_takeBack_e nx hm = some r) : Met l yX1_takeBack wsX1_takeBack R_X1_takeBack_e (cPc D cI cC cZ cR [.ref hh, .ref sc] sz (ws_hist_scene_addr cI cC cZ cR hh hst sc sea th th1 th2 th3 th4 th5 th6 th7 th8 th9 pi pia bad nx hm se mn ln hi wi br sp si le un ul px tm ps ft fk hfu)) (cQi D (ws_hist_scene_addr cI cC cZ cR hh hst sc sea th th1 th2 th3 th4 th5 th6 th7 th8 th9 pi pia bad nx hm se mn ln hi wi br sp si le un ul px tm ps ft fk hfu) (va_A (ws_hist_scene_addr cI cC cZ cR hh hst sc sea th th1 th2 th3 th4 th5 th6 th7 th8 th9 pi pia bad nx hm se mn ln hi wi br sp si le un ul px tm ps ft fk hfu) sz) r) 0 0 (va_A (ws_hist_scene_addr cI cC cZ cR hh hst sc sea th th1 th2 th3 th4 th5 th6 th7 th8 th9 pi pia bad nx hm se mn ln hi wi br sp si le un ul px tm ps ft fk hfu) sz) := by
  refine Met.ofW (cc := cX1_takeBack) (maxL := 4) (ret := (some .boolean)) (by decide) rfl ?_
  intro p e s m args below meth c s₁ B hml hv
  obtain ⟨rfl, hsz, hP, hK, hD0⟩ := hv
  have hx := B.exec
  have hb := B.bytes
  have hr := B.returns
  have hts := atoms_spec (ws := wsX1_takeBack) B.pre
  have hown : s.vm.findClass RX1 = some m.cls := findClass_of_methodNamed B.named
  have hlocks := B.notSynchronized
  subst hsz
  have hD := hD0.self (sz := s.heap.size)
  generalize hAe : va_A (ws_hist_scene_addr cI cC cZ cR hh hst sc sea th th1 th2 th3 th4 th5 th6 th7 th8 th9 pi pia bad nx hm se mn ln hi wi br sp si le un ul px tm ps ft fk hfu) s.heap.size = A at hD ⊢
  skip
  have hA : ∀ q : Nat, s.heap.size ≤ q → A q := fun q h => by rw [← hAe]; exact Or.inr h
  have hS : va_S A s.heap s.heap [] := va_S.rf
  have hl := lv_entry ([.ref hh, .ref sc]) (n := 4) (Nat.le_of_ble_eq_true rfl)
  rw [lg_entry_eq]
  generalize (lg_sl ([.ref hh, .ref sc]) ++ List.replicate (4 - (lg_sl ([.ref hh, .ref sc])).length) Slot.unset).toArray = ls at hl ⊢
  have hl : lv_has ls 4 [(0, .ref hh), (1, .ref sc)] := hl
  refine W_absQ (fun Q hQ => ?_)
  refine W.eq (g2 := F0 m 0 ls []) rfl ?_
  have h := hf
  unfold f_X1_takeBack_e at h
  refine lv_aload_n hx hb dX1_takeBack_0 rfl (lv_at hl 0 rfl) ?_
  refine va_get (D := D) (ci := 1) (v := .int nx) (C := RX1) (T := TX1) (N := 3) hx hb hts uX1_takeBack_e_X1 hown hK.1 hP 0 rfl rfl 1 (by decide) (hts _ kX1_takeBack_e_1) (fun _ h9 => h9) rfl dX1_takeBack_1 ?_
  refine lv_if_ne (tgt := 11) hx hb dX1_takeBack_4 (by decide) (fun c4 => ?_) (fun c4 => ?_)
  · replace h := br_p c4 h
    refine lv_aload_n hx hb dX1_takeBack_11 rfl (lv_at hl 0 rfl) ?_
    refine va_get (D := D) (ci := 1) (v := .int nx) (C := RX1) (T := TX1) (N := 3) hx hb hts uX1_takeBack_e_X1 hown hK.1 hP 0 rfl rfl 1 (by decide) (hts _ kX1_takeBack_e_1) (fun _ h9 => h9) rfl dX1_takeBack_12 ?_
    refine lv_iconst (v := 1) hx hb dX1_takeBack_15 (by decide) ?_
    refine lv_isub hx hb dX1_takeBack_16 ?_
    refine lv_topi (fun x1 ex1 => ?_)
    replace h := bd_s2 h ex1
    refine lv_istore_n (lv' := [(2, .int x1), (0, .ref hh), (1, .ref sc)]) hx hb dX1_takeBack_17 rfl hl (by decide) rfl (fun ls hl => ?_)
    refine lv_aload_n hx hb dX1_takeBack_18 rfl (lv_at hl 1 rfl) ?_
    refine va_get (D := D) (ci := 1) (v := .ref hst) (C := RX1) (T := TX1) (N := 3) hx hb hts uX1_takeBack_e_X1 hown hK.1 hP 0 rfl rfl 0 (by decide) (hts _ kX1_takeBack_e_2) (fun _ h9 => h9) rfl dX1_takeBack_19 ?_
    refine lv_iload_n hx hb dX1_takeBack_22 rfl (lv_at hl 0 rfl) ?_
    obtain ⟨hin, h⟩ := gd_sp h
    refine va_aldq (D := D) hx hb hK.1 hP 1 3 rfl rfl hin dX1_takeBack_23 ?_
    refine W.eq (g2 := F0 m 24 ls [.ref bad]) (by rw [hq _ (fun _ => by first | rfl | assumption | contradiction) (fun _ => by first | rfl | assumption | contradiction)]; rfl) ?_
    refine lv_astore_n (lv' := [(3, .ref bad), (2, .int x1), (0, .ref hh), (1, .ref sc)]) hx hb dX1_takeBack_24 rfl hl (by decide) rfl (fun ls hl => ?_)
    refine lv_aload_n hx hb dX1_takeBack_25 rfl (lv_at hl 2 rfl) ?_
    refine va_get (D := D) (ci := 1) (v := .int hm) (C := RX1) (T := TX1) (N := 3) hx hb hts uX1_takeBack_e_X1 hown hK.1 hP 0 rfl rfl 2 (by decide) (hts _ kX1_takeBack_e_3) (fun _ h9 => h9) rfl dX1_takeBack_26 ?_
    refine lv_if_eq (tgt := 36) hx hb dX1_takeBack_29 (by decide) (fun c2 => ?_) (fun c2 => ?_)
    · replace h := br_p c2 h
      refine lv_iconst (v := 0) hx hb dX1_takeBack_36 (by decide) ?_
      have e9 := Option.some.inj h
      subst e9
      rw [hQ]
      exact W.zret (v := 0) hx hb hr rfl (fun t ht hW => ⟨⟨0, (), rfl, rfl, by rw [ht]; exact hP, hD⟩, hS.F ht⟩) hS.2.2 dX1_takeBack_37
    · replace h := br_n c2 h
      refine lv_aload_n hx hb dX1_takeBack_32 rfl (lv_at hl 0 rfl) ?_
      refine lv_ifnonnull (tgt := 38) hx hb dX1_takeBack_33 (by decide) ?_
      exact no_sm h
  · replace h := br_n (not_not_intro c4) h
    refine lv_iconst (v := 5) hx hb dX1_takeBack_7 (by decide) ?_
    refine lv_goto (tgt := 17) hx hb dX1_takeBack_8 (by decide) ?_
    refine lv_istore_n (lv' := [(2, .int 5), (0, .ref hh), (1, .ref sc)]) hx hb dX1_takeBack_17 rfl hl (by decide) rfl (fun ls hl => ?_)
    refine lv_aload_n hx hb dX1_takeBack_18 rfl (lv_at hl 1 rfl) ?_
    refine va_get (D := D) (ci := 1) (v := .ref hst) (C := RX1) (T := TX1) (N := 3) hx hb hts uX1_takeBack_e_X1 hown hK.1 hP 0 rfl rfl 0 (by decide) (hts _ kX1_takeBack_e_2) (fun _ h9 => h9) rfl dX1_takeBack_19 ?_
    refine lv_iload_n hx hb dX1_takeBack_22 rfl (lv_at hl 0 rfl) ?_
    obtain ⟨hin, h⟩ := gd_sp h
    refine va_aldq (D := D) hx hb hK.1 hP 1 3 rfl rfl hin dX1_takeBack_23 ?_
    refine W.eq (g2 := F0 m 24 ls [.ref bad]) (by rw [hq _ (fun _ => by first | rfl | assumption | contradiction) (fun _ => by first | rfl | assumption | contradiction)]; rfl) ?_
    refine lv_astore_n (lv' := [(3, .ref bad), (2, .int 5), (0, .ref hh), (1, .ref sc)]) hx hb dX1_takeBack_24 rfl hl (by decide) rfl (fun ls hl => ?_)
    refine lv_aload_n hx hb dX1_takeBack_25 rfl (lv_at hl 2 rfl) ?_
    refine va_get (D := D) (ci := 1) (v := .int hm) (C := RX1) (T := TX1) (N := 3) hx hb hts uX1_takeBack_e_X1 hown hK.1 hP 0 rfl rfl 2 (by decide) (hts _ kX1_takeBack_e_3) (fun _ h9 => h9) rfl dX1_takeBack_26 ?_
    refine lv_if_eq (tgt := 36) hx hb dX1_takeBack_29 (by decide) (fun c3 => ?_) (fun c3 => ?_)
    · replace h := br_p c3 h
      refine lv_iconst (v := 0) hx hb dX1_takeBack_36 (by decide) ?_
      have e9 := Option.some.inj h
      subst e9
      rw [hQ]
      exact W.zret (v := 0) hx hb hr rfl (fun t ht hW => ⟨⟨0, (), rfl, rfl, by rw [ht]; exact hP, hD⟩, hS.F ht⟩) hS.2.2 dX1_takeBack_37
    · replace h := br_n c3 h
      refine lv_aload_n hx hb dX1_takeBack_32 rfl (lv_at hl 0 rfl) ?_
      refine lv_ifnonnull (tgt := 38) hx hb dX1_takeBack_33 (by decide) ?_
      exact no_sm h
