
-- LeaningLinesModel.anew
abbrev OUT_X8_anew : Type := (Nat → Int32)
def f_X8_anew (s_ : Nat → Int32) (a0 : Int32) (a1 : Int32) (a2 : Int32) : Option OUT_X8_anew :=
  bd (9 + (9 * a0)) (fun x1 => gd 4 465 (bn (f_X8_left s_ a0 (s_ (4 : Int32).toNatClampNeg)) (fun r2 => gd (x1 + 1) 465 (gd (x1 + 5) 465 (gd 4 465 (gd (x1 + 6) 465 (bd (upd (upd (upd s_ (x1 + 1 : Int32).toNatClampNeg r2) (x1 + 5 : Int32).toNatClampNeg a1) (x1 + 6 : Int32).toNatClampNeg ((upd (upd s_ (x1 + 1 : Int32).toNatClampNeg r2) (x1 + 5 : Int32).toNatClampNeg a1) (4 : Int32).toNatClampNeg)) (fun (y3 : Nat → Int32) => gd (x1 + 7) 465 ((if a2 < 0 then gd (x1 + 8) 465 (some (upd (upd y3 (x1 + 7 : Int32).toNatClampNeg a2) (x1 + 8 : Int32).toNatClampNeg 0)) else gd 4 465 (bn (f_X8_left (upd y3 (x1 + 7 : Int32).toNatClampNeg a2) a2 ((upd y3 (x1 + 7 : Int32).toNatClampNeg a2) (4 : Int32).toNatClampNeg)) (fun r4 => gd (x1 + 8) 465 (some (upd (upd y3 (x1 + 7 : Int32).toNatClampNeg a2) (x1 + 8 : Int32).toNatClampNeg r4))))))))))))))
theorem uX8_anew_X8 : ∀ w ∈ wsX80, w ∈ wsX8_anew := by decide +kernel
theorem kX8_anew_1 : Cond.fieldLink RX8 7 "LeaningLinesModel" "s" "[I" ∈ wsX8_anew := by decide +kernel
abbrev R_X8_anew : Room := { frames := 2, cells := 0, slots := 0, locals := 46 }
set_option maxHeartbeats 4000000 in
set_option maxRecDepth 100000 in
theorem m_X8_anew (l : Launch) (D : va_G) (cI cC cZ cR : ClassId) (mo mo1 mo2 mo3 mo4 mo5 : Nat) (sz : Nat) (kn : Int32) (le_ : Int32) (s_ : Nat → Int32) (past : Nat → Int32) (slo : Nat → Int32) (isv : Nat → Int32) (pad_ : Nat → Int32)  (a0 : Int32) (a1 : Int32) (a2 : Int32)   (r : OUT_X8_anew) (hf : f_X8_anew s_ a0 a1 a2 = some r) : Met l yX8_anew wsX8_anew R_X8_anew (cPc D cI cC cZ cR [.ref mo, .int a0, .int a1, .int a2] sz (ws_model cI cC cZ cR mo mo1 mo2 mo3 mo4 mo5 kn le_ s_ past slo isv pad_)) (cQv D (ws_model cI cC cZ cR mo mo1 mo2 mo3 mo4 mo5 kn le_ r past slo isv pad_) (va_A (ws_model cI cC cZ cR mo mo1 mo2 mo3 mo4 mo5 kn le_ s_ past slo isv pad_) sz)) 0 0 (va_A (ws_model cI cC cZ cR mo mo1 mo2 mo3 mo4 mo5 kn le_ s_ past slo isv pad_) sz) := by
  refine Met.ofW (cc := cX8_anew) (maxL := 5) (ret := none) (by decide) rfl ?_
  intro p e s m args below meth c s₁ B hml hv
  obtain ⟨rfl, hsz, hP, hK, hD0⟩ := hv
  have hx := B.exec
  have hb := B.bytes
  have hr := B.returns
  have hts := atoms_spec (ws := wsX8_anew) B.pre
  have hown : s.vm.findClass RX8 = some m.cls := findClass_of_methodNamed B.named
  have hlocks := B.notSynchronized
  subst hsz
  have hD := hD0.self (sz := s.heap.size)
  generalize hAe : va_A (ws_model cI cC cZ cR mo mo1 mo2 mo3 mo4 mo5 kn le_ s_ past slo isv pad_) s.heap.size = A at hD ⊢
  skip
  have hA : ∀ q : Nat, s.heap.size ≤ q → A q := fun q h => by rw [← hAe]; exact Or.inr h
  have hS : va_S A s.heap s.heap [] := va_S.rf
  have hl := lv_entry ([.ref mo, .int a0, .int a1, .int a2]) (n := 5) (Nat.le_of_ble_eq_true rfl)
  rw [lg_entry_eq]
  generalize (lg_sl ([.ref mo, .int a0, .int a1, .int a2]) ++ List.replicate (5 - (lg_sl ([.ref mo, .int a0, .int a1, .int a2])).length) Slot.unset).toArray = ls at hl ⊢
  have hl : lv_has ls 5 [(0, .ref mo), (1, .int a0), (2, .int a1), (3, .int a2)] := hl
  refine W_absQ (fun Q hQ => ?_)
  refine W.eq (g2 := F0 m 0 ls []) rfl ?_
  have h := hf
  unfold f_X8_anew at h
  refine lv_bipush (v := 9) hx hb dX8_anew_0 (by decide) ?_
  refine lv_bipush (v := 9) hx hb dX8_anew_2 (by decide) ?_
  refine lv_iload_n hx hb dX8_anew_4 rfl (lv_at hl 1 rfl) ?_
  refine lv_imul hx hb dX8_anew_5 ?_
  refine lv_iadd hx hb dX8_anew_6 ?_
  refine lv_topi (fun x1 ex1 => ?_)
  replace h := bd_s2 h ex1
  refine lv_istore (lv' := [(4, .int x1), (0, .ref mo), (1, .int a0), (2, .int a1), (3, .int a2)]) hx hb dX8_anew_7 hl (by decide) rfl (fun ls hl => ?_)
  refine lv_aload_n hx hb dX8_anew_9 rfl (lv_at hl 1 rfl) ?_
  refine va_get (D := D) (ci := 8) (v := .ref mo1) (C := RX8) (T := TX8) (N := 7) hx hb hts uX8_anew_X8 hown hK.1 hP 0 rfl rfl 0 (by decide) (hts _ kX8_anew_1) (fun _ h9 => h9) rfl dX8_anew_10 ?_
  refine lv_iload hx hb dX8_anew_13 (lv_at hl 0 rfl) ?_
  refine lv_iconst (v := 1) hx hb dX8_anew_15 (by decide) ?_
  refine lv_iadd hx hb dX8_anew_16 ?_
  refine lv_aload_n hx hb dX8_anew_17 rfl (lv_at hl 1 rfl) ?_
  refine lv_iload_n hx hb dX8_anew_18 rfl (lv_at hl 2 rfl) ?_
  refine lv_aload_n hx hb dX8_anew_19 rfl (lv_at hl 1 rfl) ?_
  refine va_get (D := D) (ci := 8) (v := .ref mo1) (C := RX8) (T := TX8) (N := 7) hx hb hts uX8_anew_X8 hown hK.1 hP 0 rfl rfl 0 (by decide) (hts _ kX8_anew_1) (fun _ h9 => h9) rfl dX8_anew_20 ?_
  refine lv_iconst (v := 4) hx hb dX8_anew_23 (by decide) ?_
  obtain ⟨hin, h⟩ := gd_sp h
  refine va_iald (D := D) hx hb hK.1 hP 1 0 rfl rfl hin dX8_anew_24 ?_
  obtain ⟨r2, hcr2, h⟩ := bn_sp h
  have hPc := hP.sub (ws' := (ws_model cI cC cZ cR mo mo1 mo2 mo3 mo4 mo5 kn le_ s_ past slo isv pad_)) [0, 1, 2, 3, 4, 5] rfl
  have hDc := hD.sub (ws' := (ws_model cI cC cZ cR mo mo1 mo2 mo3 mo4 mo5 kn le_ s_ past slo isv pad_)) [0, 1, 2, 3, 4, 5] (by decide) rfl
  have hFc := va_free (wc := (ws_model cI cC cZ cR mo mo1 mo2 mo3 mo4 mo5 kn le_ s_ past slo isv pad_)) hD hS hA [0, 1, 2, 3, 4, 5] rfl
  refine va_calli (va_runV (As := [.int a0, .int (s_ (4 : Int32).toNatClampNeg)]) (rest := [.int (x1 + 1), .ref mo1]) ⟨hx, hb, hml, hown, hts⟩ (m_X8_left l D cI cC cZ cR mo mo1 mo2 mo3 mo4 mo5 _ kn le_ s_ past slo isv pad_ a0 (s_ (4 : Int32).toNatClampNeg)   r2 hcr2) (cwV 2 hts gX8_anew_X8_left rfl rfl rfl (by decide +kernel) ⟨Nat.le_of_ble_eq_true rfl, Nat.le_of_ble_eq_true rfl⟩) (cPc_pv hPc hK hDc (ci := 8) (q0 := 0) rfl rfl) rfl rfl hl.1 rfl (lv_room (Nat.le_of_ble_eq_true rfl)) dX8_anew_25 ⟨Nat.le_of_ble_eq_true rfl, Nat.le_of_ble_eq_true rfl⟩) hS (fun q _ h => hFc q h) hFc (fun xq u t H1 locs ht hvm hw hB hz1 hk1 hS => ?_)
  rw [hw]
  obtain ⟨hP1, hD1⟩ := hB
  rw [ht] at hP1
  obtain ⟨hP, hD⟩ := va_join (wr := []) (w1 := (ws_model cI cC cZ cR mo mo1 mo2 mo3 mo4 mo5 kn le_ s_ past slo isv pad_)) hP hD [0, 1, 2, 3, 4, 5] [] rfl rfl (by decide) (by decide) hk1 hFc hP1 hD1
  generalize H1 = H at hP hS ⊢
  have hP : va_P D vwCl (ws_model cI cC cZ cR mo mo1 mo2 mo3 mo4 mo5 kn le_ s_ past slo isv pad_) H := hP
  have hD : va_D A (ws_model cI cC cZ cR mo mo1 mo2 mo3 mo4 mo5 kn le_ s_ past slo isv pad_) := hD
  obtain ⟨hin, h⟩ := gd_sp h
  refine va_iast (D := D) hx hb hK.1 hP hD hS 1 0 rfl rfl hin dX8_anew_28 (fun H locs hP hD hS => ?_)
  have hP : va_P D vwCl (ws_model cI cC cZ cR mo mo1 mo2 mo3 mo4 mo5 kn le_ (upd s_ (x1 + 1 : Int32).toNatClampNeg r2) past slo isv pad_) H := hP
  have hD : va_D A (ws_model cI cC cZ cR mo mo1 mo2 mo3 mo4 mo5 kn le_ (upd s_ (x1 + 1 : Int32).toNatClampNeg r2) past slo isv pad_) := hD
  refine lv_aload_n hx hb dX8_anew_29 rfl (lv_at hl 1 rfl) ?_
  refine va_get (D := D) (ci := 8) (v := .ref mo1) (C := RX8) (T := TX8) (N := 7) hx hb hts uX8_anew_X8 hown hK.1 hP 0 rfl rfl 0 (by decide) (hts _ kX8_anew_1) (fun _ h9 => h9) rfl dX8_anew_30 ?_
  refine lv_iload hx hb dX8_anew_33 (lv_at hl 0 rfl) ?_
  refine lv_iconst (v := 5) hx hb dX8_anew_35 (by decide) ?_
  refine lv_iadd hx hb dX8_anew_36 ?_
  refine lv_iload_n hx hb dX8_anew_37 rfl (lv_at hl 3 rfl) ?_
  obtain ⟨hin, h⟩ := gd_sp h
  refine va_iast (D := D) hx hb hK.1 hP hD hS 1 0 rfl rfl hin dX8_anew_38 (fun H locs hP hD hS => ?_)
  have hP : va_P D vwCl (ws_model cI cC cZ cR mo mo1 mo2 mo3 mo4 mo5 kn le_ (upd (upd s_ (x1 + 1 : Int32).toNatClampNeg r2) (x1 + 5 : Int32).toNatClampNeg a1) past slo isv pad_) H := hP
  have hD : va_D A (ws_model cI cC cZ cR mo mo1 mo2 mo3 mo4 mo5 kn le_ (upd (upd s_ (x1 + 1 : Int32).toNatClampNeg r2) (x1 + 5 : Int32).toNatClampNeg a1) past slo isv pad_) := hD
  refine lv_aload_n hx hb dX8_anew_39 rfl (lv_at hl 1 rfl) ?_
  refine va_get (D := D) (ci := 8) (v := .ref mo1) (C := RX8) (T := TX8) (N := 7) hx hb hts uX8_anew_X8 hown hK.1 hP 0 rfl rfl 0 (by decide) (hts _ kX8_anew_1) (fun _ h9 => h9) rfl dX8_anew_40 ?_
  refine lv_iload hx hb dX8_anew_43 (lv_at hl 0 rfl) ?_
  refine lv_bipush (v := 6) hx hb dX8_anew_45 (by decide) ?_
  refine lv_iadd hx hb dX8_anew_47 ?_
  refine lv_aload_n hx hb dX8_anew_48 rfl (lv_at hl 1 rfl) ?_
  refine va_get (D := D) (ci := 8) (v := .ref mo1) (C := RX8) (T := TX8) (N := 7) hx hb hts uX8_anew_X8 hown hK.1 hP 0 rfl rfl 0 (by decide) (hts _ kX8_anew_1) (fun _ h9 => h9) rfl dX8_anew_49 ?_
  refine lv_iconst (v := 4) hx hb dX8_anew_52 (by decide) ?_
  obtain ⟨hin, h⟩ := gd_sp h
  refine va_iald (D := D) hx hb hK.1 hP 1 0 rfl rfl hin dX8_anew_53 ?_
  obtain ⟨hin, h⟩ := gd_sp h
  refine va_iast (D := D) hx hb hK.1 hP hD hS 1 0 rfl rfl hin dX8_anew_54 (fun H locs hP hD hS => ?_)
  have hP : va_P D vwCl (ws_model cI cC cZ cR mo mo1 mo2 mo3 mo4 mo5 kn le_ (upd (upd (upd s_ (x1 + 1 : Int32).toNatClampNeg r2) (x1 + 5 : Int32).toNatClampNeg a1) (x1 + 6 : Int32).toNatClampNeg ((upd (upd s_ (x1 + 1 : Int32).toNatClampNeg r2) (x1 + 5 : Int32).toNatClampNeg a1) (4 : Int32).toNatClampNeg)) past slo isv pad_) H := hP
  have hD : va_D A (ws_model cI cC cZ cR mo mo1 mo2 mo3 mo4 mo5 kn le_ (upd (upd (upd s_ (x1 + 1 : Int32).toNatClampNeg r2) (x1 + 5 : Int32).toNatClampNeg a1) (x1 + 6 : Int32).toNatClampNeg ((upd (upd s_ (x1 + 1 : Int32).toNatClampNeg r2) (x1 + 5 : Int32).toNatClampNeg a1) (4 : Int32).toNatClampNeg)) past slo isv pad_) := hD
  obtain ⟨y3, ey3, h⟩ := bd_sp h
  rw [← ey3] at hP hD
  refine lv_aload_n hx hb dX8_anew_55 rfl (lv_at hl 1 rfl) ?_
  refine va_get (D := D) (ci := 8) (v := .ref mo1) (C := RX8) (T := TX8) (N := 7) hx hb hts uX8_anew_X8 hown hK.1 hP 0 rfl rfl 0 (by decide) (hts _ kX8_anew_1) (fun _ h9 => h9) rfl dX8_anew_56 ?_
  refine lv_iload hx hb dX8_anew_59 (lv_at hl 0 rfl) ?_
  refine lv_bipush (v := 7) hx hb dX8_anew_61 (by decide) ?_
  refine lv_iadd hx hb dX8_anew_63 ?_
  refine lv_iload_n hx hb dX8_anew_64 rfl (lv_at hl 4 rfl) ?_
  obtain ⟨hin, h⟩ := gd_sp h
  refine va_iast (D := D) hx hb hK.1 hP hD hS 1 0 rfl rfl hin dX8_anew_65 (fun H locs hP hD hS => ?_)
  have hP : va_P D vwCl (ws_model cI cC cZ cR mo mo1 mo2 mo3 mo4 mo5 kn le_ (upd y3 (x1 + 7 : Int32).toNatClampNeg a2) past slo isv pad_) H := hP
  have hD : va_D A (ws_model cI cC cZ cR mo mo1 mo2 mo3 mo4 mo5 kn le_ (upd y3 (x1 + 7 : Int32).toNatClampNeg a2) past slo isv pad_) := hD
  refine lv_aload_n hx hb dX8_anew_66 rfl (lv_at hl 1 rfl) ?_
  refine va_get (D := D) (ci := 8) (v := .ref mo1) (C := RX8) (T := TX8) (N := 7) hx hb hts uX8_anew_X8 hown hK.1 hP 0 rfl rfl 0 (by decide) (hts _ kX8_anew_1) (fun _ h9 => h9) rfl dX8_anew_67 ?_
  refine lv_iload hx hb dX8_anew_70 (lv_at hl 0 rfl) ?_
  refine lv_bipush (v := 8) hx hb dX8_anew_72 (by decide) ?_
  refine lv_iadd hx hb dX8_anew_74 ?_
  refine lv_iload_n hx hb dX8_anew_75 rfl (lv_at hl 4 rfl) ?_
  refine lv_if_lt (tgt := 93) hx hb dX8_anew_76 (by decide) (fun c5 => ?_) (fun c5 => ?_)
  · replace h := br_p c5 h
    refine lv_iconst (v := 0) hx hb dX8_anew_93 (by decide) ?_
    obtain ⟨hin, h⟩ := gd_sp h
    refine va_iast (D := D) hx hb hK.1 hP hD hS 1 0 rfl rfl hin dX8_anew_94 (fun H locs hP hD hS => ?_)
    have hP : va_P D vwCl (ws_model cI cC cZ cR mo mo1 mo2 mo3 mo4 mo5 kn le_ (upd (upd y3 (x1 + 7 : Int32).toNatClampNeg a2) (x1 + 8 : Int32).toNatClampNeg 0) past slo isv pad_) H := hP
    have hD : va_D A (ws_model cI cC cZ cR mo mo1 mo2 mo3 mo4 mo5 kn le_ (upd (upd y3 (x1 + 7 : Int32).toNatClampNeg a2) (x1 + 8 : Int32).toNatClampNeg 0) past slo isv pad_) := hD
    have e9 := Option.some.inj h
    subst e9
    rw [hQ]
    exact W.vret hx hb hr (fun t ht hW => ⟨⟨(), rfl, trivial, by rw [ht]; exact hP, hD⟩, hS.F ht⟩) hS.2.2 dX8_anew_95
  · replace h := br_n c5 h
    refine lv_aload_n hx hb dX8_anew_79 rfl (lv_at hl 1 rfl) ?_
    refine lv_iload_n hx hb dX8_anew_80 rfl (lv_at hl 4 rfl) ?_
    refine lv_aload_n hx hb dX8_anew_81 rfl (lv_at hl 1 rfl) ?_
    refine va_get (D := D) (ci := 8) (v := .ref mo1) (C := RX8) (T := TX8) (N := 7) hx hb hts uX8_anew_X8 hown hK.1 hP 0 rfl rfl 0 (by decide) (hts _ kX8_anew_1) (fun _ h9 => h9) rfl dX8_anew_82 ?_
    refine lv_iconst (v := 4) hx hb dX8_anew_85 (by decide) ?_
    obtain ⟨hin, h⟩ := gd_sp h
    refine va_iald (D := D) hx hb hK.1 hP 1 0 rfl rfl hin dX8_anew_86 ?_
    obtain ⟨r4, hcr4, h⟩ := bn_sp h
    have hPc := hP.sub (ws' := (ws_model cI cC cZ cR mo mo1 mo2 mo3 mo4 mo5 kn le_ (upd y3 (x1 + 7 : Int32).toNatClampNeg a2) past slo isv pad_)) [0, 1, 2, 3, 4, 5] rfl
    have hDc := hD.sub (ws' := (ws_model cI cC cZ cR mo mo1 mo2 mo3 mo4 mo5 kn le_ (upd y3 (x1 + 7 : Int32).toNatClampNeg a2) past slo isv pad_)) [0, 1, 2, 3, 4, 5] (by decide) rfl
    have hFc := va_free (wc := (ws_model cI cC cZ cR mo mo1 mo2 mo3 mo4 mo5 kn le_ (upd y3 (x1 + 7 : Int32).toNatClampNeg a2) past slo isv pad_)) hD hS hA [0, 1, 2, 3, 4, 5] rfl
    refine va_calli (va_runV (As := [.int a2, .int ((upd y3 (x1 + 7 : Int32).toNatClampNeg a2) (4 : Int32).toNatClampNeg)]) (rest := [.int (x1 + 8), .ref mo1]) ⟨hx, hb, hml, hown, hts⟩ (m_X8_left l D cI cC cZ cR mo mo1 mo2 mo3 mo4 mo5 _ kn le_ (upd y3 (x1 + 7 : Int32).toNatClampNeg a2) past slo isv pad_ a2 ((upd y3 (x1 + 7 : Int32).toNatClampNeg a2) (4 : Int32).toNatClampNeg)   r4 hcr4) (cwV 2 hts gX8_anew_X8_left rfl rfl rfl (by decide +kernel) ⟨Nat.le_of_ble_eq_true rfl, Nat.le_of_ble_eq_true rfl⟩) (cPc_pv hPc hK hDc (ci := 8) (q0 := 0) rfl rfl) rfl rfl hl.1 rfl (lv_room (Nat.le_of_ble_eq_true rfl)) dX8_anew_87 ⟨Nat.le_of_ble_eq_true rfl, Nat.le_of_ble_eq_true rfl⟩) hS (fun q _ h => hFc q h) hFc (fun xq u t H1 locs ht hvm hw hB hz1 hk1 hS => ?_)
    rw [hw]
    obtain ⟨hP1, hD1⟩ := hB
    rw [ht] at hP1
    obtain ⟨hP, hD⟩ := va_join (wr := []) (w1 := (ws_model cI cC cZ cR mo mo1 mo2 mo3 mo4 mo5 kn le_ (upd y3 (x1 + 7 : Int32).toNatClampNeg a2) past slo isv pad_)) hP hD [0, 1, 2, 3, 4, 5] [] rfl rfl (by decide) (by decide) hk1 hFc hP1 hD1
    generalize H1 = H at hP hS ⊢
    have hP : va_P D vwCl (ws_model cI cC cZ cR mo mo1 mo2 mo3 mo4 mo5 kn le_ (upd y3 (x1 + 7 : Int32).toNatClampNeg a2) past slo isv pad_) H := hP
    have hD : va_D A (ws_model cI cC cZ cR mo mo1 mo2 mo3 mo4 mo5 kn le_ (upd y3 (x1 + 7 : Int32).toNatClampNeg a2) past slo isv pad_) := hD
    refine lv_goto (tgt := 94) hx hb dX8_anew_90 (by decide) ?_
    obtain ⟨hin, h⟩ := gd_sp h
    refine va_iast (D := D) hx hb hK.1 hP hD hS 1 0 rfl rfl hin dX8_anew_94 (fun H locs hP hD hS => ?_)
    have hP : va_P D vwCl (ws_model cI cC cZ cR mo mo1 mo2 mo3 mo4 mo5 kn le_ (upd (upd y3 (x1 + 7 : Int32).toNatClampNeg a2) (x1 + 8 : Int32).toNatClampNeg r4) past slo isv pad_) H := hP
    have hD : va_D A (ws_model cI cC cZ cR mo mo1 mo2 mo3 mo4 mo5 kn le_ (upd (upd y3 (x1 + 7 : Int32).toNatClampNeg a2) (x1 + 8 : Int32).toNatClampNeg r4) past slo isv pad_) := hD
    have e9 := Option.some.inj h
    subst e9
    rw [hQ]
    exact W.vret hx hb hr (fun t ht hW => ⟨⟨(), rfl, trivial, by rw [ht]; exact hP, hD⟩, hS.F ht⟩) hS.2.2 dX8_anew_95
-- LeaningLinesModel.comes
abbrev OUT_X8_comes : Type := Int32 × (Nat → Int32)
def f_X8_comes (s_ : Nat → Int32) (a0 : Int32) (a1 : Int32) (a2 : Int32) (a3 : Int32) (a4 : Int32) : Option OUT_X8_comes :=
  gd 5 465 (bd (9 + (9 * (s_ (5 : Int32).toNatClampNeg))) (fun x1 => gd (x1 + 0) 465 (gd (x1 + 1) 465 (gd (x1 + 2) 465 (bd (upd (upd (upd s_ (x1 + 0 : Int32).toNatClampNeg a0) (x1 + 1 : Int32).toNatClampNeg a1) (x1 + 2 : Int32).toNatClampNeg a2) (fun (y2 : Nat → Int32) => gd (x1 + 3) 465 (gd (x1 + 4) 465 (gd (x1 + 5) 465 (bd (upd (upd (upd y2 (x1 + 3 : Int32).toNatClampNeg a3) (x1 + 4 : Int32).toNatClampNeg a4) (x1 + 5 : Int32).toNatClampNeg 0) (fun (y3 : Nat → Int32) => gd 4 465 (gd (x1 + 6) 465 (gd (x1 + 7) 465 (gd (x1 + 8) 465 (bd (upd (upd (upd y3 (x1 + 6 : Int32).toNatClampNeg (y3 (4 : Int32).toNatClampNeg)) (x1 + 7 : Int32).toNatClampNeg (-1)) (x1 + 8 : Int32).toNatClampNeg 0) (fun (y4 : Nat → Int32) => gd 5 465 (gd 5 465 (gd 5 465 (some ((((upd y4 (5 : Int32).toNatClampNeg ((y4 (5 : Int32).toNatClampNeg) + 1)) (5 : Int32).toNatClampNeg) - 1, upd y4 (5 : Int32).toNatClampNeg ((y4 (5 : Int32).toNatClampNeg) + 1)))))))))))))))))))))
theorem uX8_comes_X8 : ∀ w ∈ wsX80, w ∈ wsX8_comes := by decide +kernel
theorem kX8_comes_1 : Cond.fieldLink RX8 7 "LeaningLinesModel" "s" "[I" ∈ wsX8_comes := by decide +kernel
abbrev R_X8_comes : Room := { frames := 0, cells := 0, slots := 0, locals := 0 }
set_option maxHeartbeats 4000000 in
set_option maxRecDepth 100000 in
theorem m_X8_comes (l : Launch) (D : va_G) (cI cC cZ cR : ClassId) (mo mo1 mo2 mo3 mo4 mo5 : Nat) (sz : Nat) (kn : Int32) (le_ : Int32) (s_ : Nat → Int32) (past : Nat → Int32) (slo : Nat → Int32) (isv : Nat → Int32) (pad_ : Nat → Int32)  (a0 : Int32) (a1 : Int32) (a2 : Int32) (a3 : Int32) (a4 : Int32)   (r : OUT_X8_comes) (hf : f_X8_comes s_ a0 a1 a2 a3 a4 = some r) : Met l yX8_comes wsX8_comes R_X8_comes (cPc D cI cC cZ cR [.ref mo, .int a0, .int a1, .int a2, .int a3, .int a4] sz (ws_model cI cC cZ cR mo mo1 mo2 mo3 mo4 mo5 kn le_ s_ past slo isv pad_)) (cQi D (ws_model cI cC cZ cR mo mo1 mo2 mo3 mo4 mo5 kn le_ r.2 past slo isv pad_) (va_A (ws_model cI cC cZ cR mo mo1 mo2 mo3 mo4 mo5 kn le_ s_ past slo isv pad_) sz) r.1) 0 0 (va_A (ws_model cI cC cZ cR mo mo1 mo2 mo3 mo4 mo5 kn le_ s_ past slo isv pad_) sz) := by
  refine Met.ofW (cc := cX8_comes) (maxL := 7) (ret := (some .int)) (by decide) rfl ?_
  intro p e s m args below meth c s₁ B hml hv
  obtain ⟨rfl, hsz, hP, hK, hD0⟩ := hv
  have hx := B.exec
  have hb := B.bytes
  have hr := B.returns
  have hts := atoms_spec (ws := wsX8_comes) B.pre
  have hown : s.vm.findClass RX8 = some m.cls := findClass_of_methodNamed B.named
  have hlocks := B.notSynchronized
  subst hsz
  have hD := hD0.self (sz := s.heap.size)
  generalize hAe : va_A (ws_model cI cC cZ cR mo mo1 mo2 mo3 mo4 mo5 kn le_ s_ past slo isv pad_) s.heap.size = A at hD ⊢
  skip
  have hA : ∀ q : Nat, s.heap.size ≤ q → A q := fun q h => by rw [← hAe]; exact Or.inr h
  have hS : va_S A s.heap s.heap [] := va_S.rf
  have hl := lv_entry ([.ref mo, .int a0, .int a1, .int a2, .int a3, .int a4]) (n := 7) (Nat.le_of_ble_eq_true rfl)
  rw [lg_entry_eq]
  generalize (lg_sl ([.ref mo, .int a0, .int a1, .int a2, .int a3, .int a4]) ++ List.replicate (7 - (lg_sl ([.ref mo, .int a0, .int a1, .int a2, .int a3, .int a4])).length) Slot.unset).toArray = ls at hl ⊢
  have hl : lv_has ls 7 [(0, .ref mo), (1, .int a0), (2, .int a1), (3, .int a2), (4, .int a3), (5, .int a4)] := hl
  refine W_absQ (fun Q hQ => ?_)
  refine W.eq (g2 := F0 m 0 ls []) rfl ?_
  have h := hf
  unfold f_X8_comes at h
  refine lv_bipush (v := 9) hx hb dX8_comes_0 (by decide) ?_
  refine lv_bipush (v := 9) hx hb dX8_comes_2 (by decide) ?_
  refine lv_aload_n hx hb dX8_comes_4 rfl (lv_at hl 0 rfl) ?_
  refine va_get (D := D) (ci := 8) (v := .ref mo1) (C := RX8) (T := TX8) (N := 7) hx hb hts uX8_comes_X8 hown hK.1 hP 0 rfl rfl 0 (by decide) (hts _ kX8_comes_1) (fun _ h9 => h9) rfl dX8_comes_5 ?_
  refine lv_iconst (v := 5) hx hb dX8_comes_8 (by decide) ?_
  obtain ⟨hin, h⟩ := gd_sp h
  refine va_iald (D := D) hx hb hK.1 hP 1 0 rfl rfl hin dX8_comes_9 ?_
  refine lv_imul hx hb dX8_comes_10 ?_
  refine lv_iadd hx hb dX8_comes_11 ?_
  refine lv_topi (fun x1 ex1 => ?_)
  replace h := bd_s2 h ex1
  refine lv_istore (lv' := [(6, .int x1), (0, .ref mo), (1, .int a0), (2, .int a1), (3, .int a2), (4, .int a3), (5, .int a4)]) hx hb dX8_comes_12 hl (by decide) rfl (fun ls hl => ?_)
  refine lv_aload_n hx hb dX8_comes_14 rfl (lv_at hl 1 rfl) ?_
  refine va_get (D := D) (ci := 8) (v := .ref mo1) (C := RX8) (T := TX8) (N := 7) hx hb hts uX8_comes_X8 hown hK.1 hP 0 rfl rfl 0 (by decide) (hts _ kX8_comes_1) (fun _ h9 => h9) rfl dX8_comes_15 ?_
  refine lv_iload hx hb dX8_comes_18 (lv_at hl 0 rfl) ?_
  refine lv_iconst (v := 0) hx hb dX8_comes_20 (by decide) ?_
  refine lv_iadd hx hb dX8_comes_21 ?_
  refine lv_iload_n hx hb dX8_comes_22 rfl (lv_at hl 2 rfl) ?_
  obtain ⟨hin, h⟩ := gd_sp h
  refine va_iast (D := D) hx hb hK.1 hP hD hS 1 0 rfl rfl hin dX8_comes_23 (fun H locs hP hD hS => ?_)
  have hP : va_P D vwCl (ws_model cI cC cZ cR mo mo1 mo2 mo3 mo4 mo5 kn le_ (upd s_ (x1 + 0 : Int32).toNatClampNeg a0) past slo isv pad_) H := hP
  have hD : va_D A (ws_model cI cC cZ cR mo mo1 mo2 mo3 mo4 mo5 kn le_ (upd s_ (x1 + 0 : Int32).toNatClampNeg a0) past slo isv pad_) := hD
  refine lv_aload_n hx hb dX8_comes_24 rfl (lv_at hl 1 rfl) ?_
  refine va_get (D := D) (ci := 8) (v := .ref mo1) (C := RX8) (T := TX8) (N := 7) hx hb hts uX8_comes_X8 hown hK.1 hP 0 rfl rfl 0 (by decide) (hts _ kX8_comes_1) (fun _ h9 => h9) rfl dX8_comes_25 ?_
  refine lv_iload hx hb dX8_comes_28 (lv_at hl 0 rfl) ?_
  refine lv_iconst (v := 1) hx hb dX8_comes_30 (by decide) ?_
  refine lv_iadd hx hb dX8_comes_31 ?_
  refine lv_iload_n hx hb dX8_comes_32 rfl (lv_at hl 3 rfl) ?_
  obtain ⟨hin, h⟩ := gd_sp h
  refine va_iast (D := D) hx hb hK.1 hP hD hS 1 0 rfl rfl hin dX8_comes_33 (fun H locs hP hD hS => ?_)
  have hP : va_P D vwCl (ws_model cI cC cZ cR mo mo1 mo2 mo3 mo4 mo5 kn le_ (upd (upd s_ (x1 + 0 : Int32).toNatClampNeg a0) (x1 + 1 : Int32).toNatClampNeg a1) past slo isv pad_) H := hP
  have hD : va_D A (ws_model cI cC cZ cR mo mo1 mo2 mo3 mo4 mo5 kn le_ (upd (upd s_ (x1 + 0 : Int32).toNatClampNeg a0) (x1 + 1 : Int32).toNatClampNeg a1) past slo isv pad_) := hD
  refine lv_aload_n hx hb dX8_comes_34 rfl (lv_at hl 1 rfl) ?_
  refine va_get (D := D) (ci := 8) (v := .ref mo1) (C := RX8) (T := TX8) (N := 7) hx hb hts uX8_comes_X8 hown hK.1 hP 0 rfl rfl 0 (by decide) (hts _ kX8_comes_1) (fun _ h9 => h9) rfl dX8_comes_35 ?_
  refine lv_iload hx hb dX8_comes_38 (lv_at hl 0 rfl) ?_
  refine lv_iconst (v := 2) hx hb dX8_comes_40 (by decide) ?_
  refine lv_iadd hx hb dX8_comes_41 ?_
  refine lv_iload_n hx hb dX8_comes_42 rfl (lv_at hl 4 rfl) ?_
  obtain ⟨hin, h⟩ := gd_sp h
  refine va_iast (D := D) hx hb hK.1 hP hD hS 1 0 rfl rfl hin dX8_comes_43 (fun H locs hP hD hS => ?_)
  have hP : va_P D vwCl (ws_model cI cC cZ cR mo mo1 mo2 mo3 mo4 mo5 kn le_ (upd (upd (upd s_ (x1 + 0 : Int32).toNatClampNeg a0) (x1 + 1 : Int32).toNatClampNeg a1) (x1 + 2 : Int32).toNatClampNeg a2) past slo isv pad_) H := hP
  have hD : va_D A (ws_model cI cC cZ cR mo mo1 mo2 mo3 mo4 mo5 kn le_ (upd (upd (upd s_ (x1 + 0 : Int32).toNatClampNeg a0) (x1 + 1 : Int32).toNatClampNeg a1) (x1 + 2 : Int32).toNatClampNeg a2) past slo isv pad_) := hD
  obtain ⟨y2, ey2, h⟩ := bd_sp h
  rw [← ey2] at hP hD
  refine lv_aload_n hx hb dX8_comes_44 rfl (lv_at hl 1 rfl) ?_
  refine va_get (D := D) (ci := 8) (v := .ref mo1) (C := RX8) (T := TX8) (N := 7) hx hb hts uX8_comes_X8 hown hK.1 hP 0 rfl rfl 0 (by decide) (hts _ kX8_comes_1) (fun _ h9 => h9) rfl dX8_comes_45 ?_
  refine lv_iload hx hb dX8_comes_48 (lv_at hl 0 rfl) ?_
  refine lv_iconst (v := 3) hx hb dX8_comes_50 (by decide) ?_
  refine lv_iadd hx hb dX8_comes_51 ?_
  refine lv_iload hx hb dX8_comes_52 (lv_at hl 5 rfl) ?_
  obtain ⟨hin, h⟩ := gd_sp h
  refine va_iast (D := D) hx hb hK.1 hP hD hS 1 0 rfl rfl hin dX8_comes_54 (fun H locs hP hD hS => ?_)
  have hP : va_P D vwCl (ws_model cI cC cZ cR mo mo1 mo2 mo3 mo4 mo5 kn le_ (upd y2 (x1 + 3 : Int32).toNatClampNeg a3) past slo isv pad_) H := hP
  have hD : va_D A (ws_model cI cC cZ cR mo mo1 mo2 mo3 mo4 mo5 kn le_ (upd y2 (x1 + 3 : Int32).toNatClampNeg a3) past slo isv pad_) := hD
  refine lv_aload_n hx hb dX8_comes_55 rfl (lv_at hl 1 rfl) ?_
  refine va_get (D := D) (ci := 8) (v := .ref mo1) (C := RX8) (T := TX8) (N := 7) hx hb hts uX8_comes_X8 hown hK.1 hP 0 rfl rfl 0 (by decide) (hts _ kX8_comes_1) (fun _ h9 => h9) rfl dX8_comes_56 ?_
  refine lv_iload hx hb dX8_comes_59 (lv_at hl 0 rfl) ?_
  refine lv_iconst (v := 4) hx hb dX8_comes_61 (by decide) ?_
  refine lv_iadd hx hb dX8_comes_62 ?_
  refine lv_iload hx hb dX8_comes_63 (lv_at hl 6 rfl) ?_
  obtain ⟨hin, h⟩ := gd_sp h
  refine va_iast (D := D) hx hb hK.1 hP hD hS 1 0 rfl rfl hin dX8_comes_65 (fun H locs hP hD hS => ?_)
  have hP : va_P D vwCl (ws_model cI cC cZ cR mo mo1 mo2 mo3 mo4 mo5 kn le_ (upd (upd y2 (x1 + 3 : Int32).toNatClampNeg a3) (x1 + 4 : Int32).toNatClampNeg a4) past slo isv pad_) H := hP
  have hD : va_D A (ws_model cI cC cZ cR mo mo1 mo2 mo3 mo4 mo5 kn le_ (upd (upd y2 (x1 + 3 : Int32).toNatClampNeg a3) (x1 + 4 : Int32).toNatClampNeg a4) past slo isv pad_) := hD
  refine lv_aload_n hx hb dX8_comes_66 rfl (lv_at hl 1 rfl) ?_
  refine va_get (D := D) (ci := 8) (v := .ref mo1) (C := RX8) (T := TX8) (N := 7) hx hb hts uX8_comes_X8 hown hK.1 hP 0 rfl rfl 0 (by decide) (hts _ kX8_comes_1) (fun _ h9 => h9) rfl dX8_comes_67 ?_
  refine lv_iload hx hb dX8_comes_70 (lv_at hl 0 rfl) ?_
  refine lv_iconst (v := 5) hx hb dX8_comes_72 (by decide) ?_
  refine lv_iadd hx hb dX8_comes_73 ?_
  refine lv_iconst (v := 0) hx hb dX8_comes_74 (by decide) ?_
  obtain ⟨hin, h⟩ := gd_sp h
  refine va_iast (D := D) hx hb hK.1 hP hD hS 1 0 rfl rfl hin dX8_comes_75 (fun H locs hP hD hS => ?_)
  have hP : va_P D vwCl (ws_model cI cC cZ cR mo mo1 mo2 mo3 mo4 mo5 kn le_ (upd (upd (upd y2 (x1 + 3 : Int32).toNatClampNeg a3) (x1 + 4 : Int32).toNatClampNeg a4) (x1 + 5 : Int32).toNatClampNeg 0) past slo isv pad_) H := hP
  have hD : va_D A (ws_model cI cC cZ cR mo mo1 mo2 mo3 mo4 mo5 kn le_ (upd (upd (upd y2 (x1 + 3 : Int32).toNatClampNeg a3) (x1 + 4 : Int32).toNatClampNeg a4) (x1 + 5 : Int32).toNatClampNeg 0) past slo isv pad_) := hD
  obtain ⟨y3, ey3, h⟩ := bd_sp h
  rw [← ey3] at hP hD
  refine lv_aload_n hx hb dX8_comes_76 rfl (lv_at hl 1 rfl) ?_
  refine va_get (D := D) (ci := 8) (v := .ref mo1) (C := RX8) (T := TX8) (N := 7) hx hb hts uX8_comes_X8 hown hK.1 hP 0 rfl rfl 0 (by decide) (hts _ kX8_comes_1) (fun _ h9 => h9) rfl dX8_comes_77 ?_
  refine lv_iload hx hb dX8_comes_80 (lv_at hl 0 rfl) ?_
  refine lv_bipush (v := 6) hx hb dX8_comes_82 (by decide) ?_
  refine lv_iadd hx hb dX8_comes_84 ?_
  refine lv_aload_n hx hb dX8_comes_85 rfl (lv_at hl 1 rfl) ?_
  refine va_get (D := D) (ci := 8) (v := .ref mo1) (C := RX8) (T := TX8) (N := 7) hx hb hts uX8_comes_X8 hown hK.1 hP 0 rfl rfl 0 (by decide) (hts _ kX8_comes_1) (fun _ h9 => h9) rfl dX8_comes_86 ?_
  refine lv_iconst (v := 4) hx hb dX8_comes_89 (by decide) ?_
  obtain ⟨hin, h⟩ := gd_sp h
  refine va_iald (D := D) hx hb hK.1 hP 1 0 rfl rfl hin dX8_comes_90 ?_
  obtain ⟨hin, h⟩ := gd_sp h
  refine va_iast (D := D) hx hb hK.1 hP hD hS 1 0 rfl rfl hin dX8_comes_91 (fun H locs hP hD hS => ?_)
  have hP : va_P D vwCl (ws_model cI cC cZ cR mo mo1 mo2 mo3 mo4 mo5 kn le_ (upd y3 (x1 + 6 : Int32).toNatClampNeg (y3 (4 : Int32).toNatClampNeg)) past slo isv pad_) H := hP
  have hD : va_D A (ws_model cI cC cZ cR mo mo1 mo2 mo3 mo4 mo5 kn le_ (upd y3 (x1 + 6 : Int32).toNatClampNeg (y3 (4 : Int32).toNatClampNeg)) past slo isv pad_) := hD
  refine lv_aload_n hx hb dX8_comes_92 rfl (lv_at hl 1 rfl) ?_
  refine va_get (D := D) (ci := 8) (v := .ref mo1) (C := RX8) (T := TX8) (N := 7) hx hb hts uX8_comes_X8 hown hK.1 hP 0 rfl rfl 0 (by decide) (hts _ kX8_comes_1) (fun _ h9 => h9) rfl dX8_comes_93 ?_
  refine lv_iload hx hb dX8_comes_96 (lv_at hl 0 rfl) ?_
  refine lv_bipush (v := 7) hx hb dX8_comes_98 (by decide) ?_
  refine lv_iadd hx hb dX8_comes_100 ?_
  refine lv_iconst (v := (-1)) hx hb dX8_comes_101 (by decide) ?_
  obtain ⟨hin, h⟩ := gd_sp h
  refine va_iast (D := D) hx hb hK.1 hP hD hS 1 0 rfl rfl hin dX8_comes_102 (fun H locs hP hD hS => ?_)
  have hP : va_P D vwCl (ws_model cI cC cZ cR mo mo1 mo2 mo3 mo4 mo5 kn le_ (upd (upd y3 (x1 + 6 : Int32).toNatClampNeg (y3 (4 : Int32).toNatClampNeg)) (x1 + 7 : Int32).toNatClampNeg (-1)) past slo isv pad_) H := hP
  have hD : va_D A (ws_model cI cC cZ cR mo mo1 mo2 mo3 mo4 mo5 kn le_ (upd (upd y3 (x1 + 6 : Int32).toNatClampNeg (y3 (4 : Int32).toNatClampNeg)) (x1 + 7 : Int32).toNatClampNeg (-1)) past slo isv pad_) := hD
  refine lv_aload_n hx hb dX8_comes_103 rfl (lv_at hl 1 rfl) ?_
  refine va_get (D := D) (ci := 8) (v := .ref mo1) (C := RX8) (T := TX8) (N := 7) hx hb hts uX8_comes_X8 hown hK.1 hP 0 rfl rfl 0 (by decide) (hts _ kX8_comes_1) (fun _ h9 => h9) rfl dX8_comes_104 ?_
  refine lv_iload hx hb dX8_comes_107 (lv_at hl 0 rfl) ?_
  refine lv_bipush (v := 8) hx hb dX8_comes_109 (by decide) ?_
  refine lv_iadd hx hb dX8_comes_111 ?_
  refine lv_iconst (v := 0) hx hb dX8_comes_112 (by decide) ?_
  obtain ⟨hin, h⟩ := gd_sp h
  refine va_iast (D := D) hx hb hK.1 hP hD hS 1 0 rfl rfl hin dX8_comes_113 (fun H locs hP hD hS => ?_)
  have hP : va_P D vwCl (ws_model cI cC cZ cR mo mo1 mo2 mo3 mo4 mo5 kn le_ (upd (upd (upd y3 (x1 + 6 : Int32).toNatClampNeg (y3 (4 : Int32).toNatClampNeg)) (x1 + 7 : Int32).toNatClampNeg (-1)) (x1 + 8 : Int32).toNatClampNeg 0) past slo isv pad_) H := hP
  have hD : va_D A (ws_model cI cC cZ cR mo mo1 mo2 mo3 mo4 mo5 kn le_ (upd (upd (upd y3 (x1 + 6 : Int32).toNatClampNeg (y3 (4 : Int32).toNatClampNeg)) (x1 + 7 : Int32).toNatClampNeg (-1)) (x1 + 8 : Int32).toNatClampNeg 0) past slo isv pad_) := hD
  obtain ⟨y4, ey4, h⟩ := bd_sp h
  rw [← ey4] at hP hD
  refine lv_aload_n hx hb dX8_comes_114 rfl (lv_at hl 1 rfl) ?_
  refine va_get (D := D) (ci := 8) (v := .ref mo1) (C := RX8) (T := TX8) (N := 7) hx hb hts uX8_comes_X8 hown hK.1 hP 0 rfl rfl 0 (by decide) (hts _ kX8_comes_1) (fun _ h9 => h9) rfl dX8_comes_115 ?_
  refine lv_iconst (v := 5) hx hb dX8_comes_118 (by decide) ?_
  refine lv_dup2_11 hx hb dX8_comes_119 rfl rfl ?_
  obtain ⟨hin, h⟩ := gd_sp h
  refine va_iald (D := D) hx hb hK.1 hP 1 0 rfl rfl hin dX8_comes_120 ?_
  refine lv_iconst (v := 1) hx hb dX8_comes_121 (by decide) ?_
  refine lv_iadd hx hb dX8_comes_122 ?_
  obtain ⟨hin, h⟩ := gd_sp h
  refine va_iast (D := D) hx hb hK.1 hP hD hS 1 0 rfl rfl hin dX8_comes_123 (fun H locs hP hD hS => ?_)
  have hP : va_P D vwCl (ws_model cI cC cZ cR mo mo1 mo2 mo3 mo4 mo5 kn le_ (upd y4 (5 : Int32).toNatClampNeg ((y4 (5 : Int32).toNatClampNeg) + 1)) past slo isv pad_) H := hP
  have hD : va_D A (ws_model cI cC cZ cR mo mo1 mo2 mo3 mo4 mo5 kn le_ (upd y4 (5 : Int32).toNatClampNeg ((y4 (5 : Int32).toNatClampNeg) + 1)) past slo isv pad_) := hD
  refine lv_aload_n hx hb dX8_comes_124 rfl (lv_at hl 1 rfl) ?_
  refine va_get (D := D) (ci := 8) (v := .ref mo1) (C := RX8) (T := TX8) (N := 7) hx hb hts uX8_comes_X8 hown hK.1 hP 0 rfl rfl 0 (by decide) (hts _ kX8_comes_1) (fun _ h9 => h9) rfl dX8_comes_125 ?_
  refine lv_iconst (v := 5) hx hb dX8_comes_128 (by decide) ?_
  obtain ⟨hin, h⟩ := gd_sp h
  refine va_iald (D := D) hx hb hK.1 hP 1 0 rfl rfl hin dX8_comes_129 ?_
  refine lv_iconst (v := 1) hx hb dX8_comes_130 (by decide) ?_
  refine lv_isub hx hb dX8_comes_131 ?_
  have e9 := Option.some.inj h
  subst e9
  rw [hQ]
  exact W.iret (v := ((upd y4 (5 : Int32).toNatClampNeg ((y4 (5 : Int32).toNatClampNeg) + 1)) (5 : Int32).toNatClampNeg) - 1) hx hb hr (fun t ht hW => ⟨⟨((upd y4 (5 : Int32).toNatClampNeg ((y4 (5 : Int32).toNatClampNeg) + 1)) (5 : Int32).toNatClampNeg) - 1, (), rfl, rfl, by rw [ht]; exact hP, hD⟩, hS.F ht⟩) hS.2.2 dX8_comes_132
-- LeaningLinesModel.whyNotThing
abbrev OUT_X8_whyNotThing : Type := Int32
def f_X8_whyNotThing (s_ : Nat → Int32) (a0 : Int32) (a1 : Int32) (a2 : Int32) (a3 : Int32) (a4 : Int32) : Option OUT_X8_whyNotThing :=
  bn (f_X8_in a0 0 15) (fun r1 => jn (fun (j2 : Int32) => (if ¬ j2 = 0 then gd 5 465 ((if ¬ (s_ (5 : Int32).toNatClampNeg) = 8 then some (0) else some ((-4)))) else some ((-2)))) (fun j57 => (if r1 = 0 then j57 0 else bn (f_X8_in a1 0 23) (fun r5 => (if r5 = 0 then j57 0 else bn (f_X8_in a2 1 16) (fun r6 => (if r6 = 0 then j57 0 else bn (f_X8_in a3 1 24) (fun r7 => (if r7 = 0 then j57 0 else bn (f_X8_in a4 1 9) (fun r8 => (if r8 = 0 then j57 0 else j57 1)))))))))))
theorem uX8_whyNotThing_X8 : ∀ w ∈ wsX80, w ∈ wsX8_whyNotThing := by decide +kernel
theorem kX8_whyNotThing_1 : Cond.fieldLink RX8 7 "LeaningLinesModel" "s" "[I" ∈ wsX8_whyNotThing := by decide +kernel
abbrev R_X8_whyNotThing : Room := { frames := 1, cells := 0, slots := 0, locals := 22 }
set_option maxHeartbeats 4000000 in
set_option maxRecDepth 100000 in
theorem m_X8_whyNotThing (l : Launch) (D : va_G) (cI cC cZ cR : ClassId) (mo mo1 mo2 mo3 mo4 mo5 : Nat) (sz : Nat) (kn : Int32) (le_ : Int32) (s_ : Nat → Int32) (past : Nat → Int32) (slo : Nat → Int32) (isv : Nat → Int32) (pad_ : Nat → Int32)  (a0 : Int32) (a1 : Int32) (a2 : Int32) (a3 : Int32) (a4 : Int32)   (r : OUT_X8_whyNotThing) (hf : f_X8_whyNotThing s_ a0 a1 a2 a3 a4 = some r) : Met l yX8_whyNotThing wsX8_whyNotThing R_X8_whyNotThing (cPc D cI cC cZ cR [.ref mo, .int a0, .int a1, .int a2, .int a3, .int a4] sz (ws_model cI cC cZ cR mo mo1 mo2 mo3 mo4 mo5 kn le_ s_ past slo isv pad_)) (cQi D (ws_model cI cC cZ cR mo mo1 mo2 mo3 mo4 mo5 kn le_ s_ past slo isv pad_) (va_A (ws_model cI cC cZ cR mo mo1 mo2 mo3 mo4 mo5 kn le_ s_ past slo isv pad_) sz) r) 0 0 (va_A (ws_model cI cC cZ cR mo mo1 mo2 mo3 mo4 mo5 kn le_ s_ past slo isv pad_) sz) := by
  refine Met.ofW (cc := cX8_whyNotThing) (maxL := 7) (ret := (some .int)) (by decide) rfl ?_
  intro p e s m args below meth c s₁ B hml hv
  obtain ⟨rfl, hsz, hP, hK, hD0⟩ := hv
  have hx := B.exec
  have hb := B.bytes
  have hr := B.returns
  have hts := atoms_spec (ws := wsX8_whyNotThing) B.pre
  have hown : s.vm.findClass RX8 = some m.cls := findClass_of_methodNamed B.named
  have hlocks := B.notSynchronized
  subst hsz
  have hD := hD0.self (sz := s.heap.size)
  generalize hAe : va_A (ws_model cI cC cZ cR mo mo1 mo2 mo3 mo4 mo5 kn le_ s_ past slo isv pad_) s.heap.size = A at hD ⊢
  skip
  have hA : ∀ q : Nat, s.heap.size ≤ q → A q := fun q h => by rw [← hAe]; exact Or.inr h
  have hS : va_S A s.heap s.heap [] := va_S.rf
  have hl := lv_entry ([.ref mo, .int a0, .int a1, .int a2, .int a3, .int a4]) (n := 7) (Nat.le_of_ble_eq_true rfl)
  rw [lg_entry_eq]
  generalize (lg_sl ([.ref mo, .int a0, .int a1, .int a2, .int a3, .int a4]) ++ List.replicate (7 - (lg_sl ([.ref mo, .int a0, .int a1, .int a2, .int a3, .int a4])).length) Slot.unset).toArray = ls at hl ⊢
  have hl : lv_has ls 7 [(0, .ref mo), (1, .int a0), (2, .int a1), (3, .int a2), (4, .int a3), (5, .int a4)] := hl
  refine W_absQ (fun Q hQ => ?_)
  refine W.eq (g2 := F0 m 0 ls []) rfl ?_
  have h := hf
  unfold f_X8_whyNotThing at h
  refine lv_iload_n hx hb dX8_whyNotThing_0 rfl (lv_at hl 1 rfl) ?_
  refine lv_iconst (v := 0) hx hb dX8_whyNotThing_1 (by decide) ?_
  refine lv_bipush (v := 15) hx hb dX8_whyNotThing_2 (by decide) ?_
  obtain ⟨r1, hcr1, h⟩ := bn_sp h
  have hPc := hP.sub (ws' := []) [] rfl
  have hDc := hD.sub (ws' := []) [] (by decide) rfl
  have hFc := va_free (wc := []) hD hS hA [] rfl
  refine va_calli (va_runS (As := [.int a0, .int 0, .int 15]) (rest := []) ⟨hx, hb, hml, hown, hts⟩ (m_X8_in l D cI cC cZ cR  _  a0 0 15   r1 hcr1) (va_cwS 3 hts gX8_whyNotThing_X8_in rfl rfl rfl (by decide +kernel) ⟨Nat.le_of_ble_eq_true rfl, Nat.le_of_ble_eq_true rfl⟩) (cPc_ps hPc hK hDc) rfl rfl hl.1 rfl (lv_room (Nat.le_of_ble_eq_true rfl)) dX8_whyNotThing_4 ⟨Nat.le_of_ble_eq_true rfl, Nat.le_of_ble_eq_true rfl⟩) hS (fun q _ h => hFc q h) hFc (fun xq u t H1 locs ht hvm hw hB hz1 hk1 hS => ?_)
  rw [hw]
  obtain ⟨hP1, hD1⟩ := hB
  rw [ht] at hP1
  obtain ⟨hP, hD⟩ := va_join (wr := [(mo, .inr (8, [.ref mo1, .ref mo2, .int kn, .ref mo3, .ref mo4, .ref mo5, .int le_])), (mo1, .inl (cI, 465, .inl s_)), (mo2, .inl (cI, 2790, .inl past)), (mo3, .inl (cI, 930, .inl slo)), (mo4, .inl (cZ, 2, .inl isv)), (mo5, .inl (cI, 80, .inl pad_))]) (w1 := []) hP hD [] [0, 1, 2, 3, 4, 5] rfl rfl (by decide) (by decide) hk1 hFc hP1 hD1
  generalize H1 = H at hP hS ⊢
  have hP : va_P D vwCl (ws_model cI cC cZ cR mo mo1 mo2 mo3 mo4 mo5 kn le_ s_ past slo isv pad_) H := hP
  have hD : va_D A (ws_model cI cC cZ cR mo mo1 mo2 mo3 mo4 mo5 kn le_ s_ past slo isv pad_) := hD
  obtain ⟨j57, hj57, h⟩ := jn_sp h
  have J57 : ∀ (j2 : Int32) (H : Heap) (locs : List Loc) (ls : Array Slot), j57 j2 = some r → va_P D vwCl (ws_model cI cC cZ cR mo mo1 mo2 mo3 mo4 mo5 kn le_ s_ past slo isv pad_) H → va_D A (ws_model cI cC cZ cR mo mo1 mo2 mo3 mo4 mo5 kn le_ s_ past slo isv pad_) → va_S A s.heap H locs → lv_has ls 7 [(0, .ref mo), (1, .int a0), (2, .int a1), (3, .int a2), (4, .int a3), (5, .int a4)] → W p l e R_X8_whyNotThing s m ([.ref mo, .int a0, .int a1, .int a2, .int a3, .int a4] : List Value).toArray below meth c H locs 0 0 Q (F0 m 57 ls [.int j2]) := by
    intro j2 H locs ls h hP hD hS hl
    rw [hj57] at h
    refine lv_istore (lv' := [(6, .int j2), (0, .ref mo), (1, .int a0), (2, .int a1), (3, .int a2), (4, .int a3), (5, .int a4)]) hx hb dX8_whyNotThing_57 hl (by decide) rfl (fun ls hl => ?_)
    refine lv_iload hx hb dX8_whyNotThing_59 (lv_at hl 0 rfl) ?_
    refine lv_if_ne (tgt := 69) hx hb dX8_whyNotThing_61 (by decide) (fun c4 => ?_) (fun c4 => ?_)
    · replace h := br_p c4 h
      refine lv_aload_n hx hb dX8_whyNotThing_69 rfl (lv_at hl 1 rfl) ?_
      refine va_get (D := D) (ci := 8) (v := .ref mo1) (C := RX8) (T := TX8) (N := 7) hx hb hts uX8_whyNotThing_X8 hown hK.1 hP 0 rfl rfl 0 (by decide) (hts _ kX8_whyNotThing_1) (fun _ h9 => h9) rfl dX8_whyNotThing_70 ?_
      refine lv_iconst (v := 5) hx hb dX8_whyNotThing_73 (by decide) ?_
      obtain ⟨hin, h⟩ := gd_sp h
      refine va_iald (D := D) hx hb hK.1 hP 1 0 rfl rfl hin dX8_whyNotThing_74 ?_
      refine lv_bipush (v := 8) hx hb dX8_whyNotThing_75 (by decide) ?_
      refine lv_icmp_ne (tgt := 85) hx hb dX8_whyNotThing_77 (by decide) (fun c3 => ?_) (fun c3 => ?_)
      · replace h := br_p c3 h
        refine lv_iconst (v := 0) hx hb dX8_whyNotThing_85 (by decide) ?_
        have e9 := Option.some.inj h
        subst e9
        rw [hQ]
        exact W.iret (v := 0) hx hb hr (fun t ht hW => ⟨⟨0, (), rfl, rfl, by rw [ht]; exact hP, hD⟩, hS.F ht⟩) hS.2.2 dX8_whyNotThing_86
      · replace h := br_n (not_not_intro c3) h
        refine lv_bipush (v := (-4)) hx hb dX8_whyNotThing_80 (by decide) ?_
        refine lv_goto (tgt := 86) hx hb dX8_whyNotThing_82 (by decide) ?_
        have e9 := Option.some.inj h
        subst e9
        rw [hQ]
        exact W.iret (v := (-4)) hx hb hr (fun t ht hW => ⟨⟨(-4), (), rfl, rfl, by rw [ht]; exact hP, hD⟩, hS.F ht⟩) hS.2.2 dX8_whyNotThing_86
    · replace h := br_n (not_not_intro c4) h
      refine lv_bipush (v := (-2)) hx hb dX8_whyNotThing_64 (by decide) ?_
      refine lv_goto (tgt := 86) hx hb dX8_whyNotThing_66 (by decide) ?_
      have e9 := Option.some.inj h
      subst e9
      rw [hQ]
      exact W.iret (v := (-2)) hx hb hr (fun t ht hW => ⟨⟨(-2), (), rfl, rfl, by rw [ht]; exact hP, hD⟩, hS.F ht⟩) hS.2.2 dX8_whyNotThing_86
  refine lv_if_eq (tgt := 56) hx hb dX8_whyNotThing_7 (by decide) (fun c13 => ?_) (fun c13 => ?_)
  · replace h := br_p c13 h
    refine lv_iconst (v := 0) hx hb dX8_whyNotThing_56 (by decide) ?_
    exact J57 _ _ _ _ h hP hD hS (lv_sub hl [0, 1, 2, 3, 4, 5] rfl)
  · replace h := br_n c13 h
    refine lv_iload_n hx hb dX8_whyNotThing_10 rfl (lv_at hl 2 rfl) ?_
    refine lv_iconst (v := 0) hx hb dX8_whyNotThing_11 (by decide) ?_
    refine lv_bipush (v := 23) hx hb dX8_whyNotThing_12 (by decide) ?_
    obtain ⟨r5, hcr5, h⟩ := bn_sp h
    have hPc := hP.sub (ws' := []) [] rfl
    have hDc := hD.sub (ws' := []) [] (by decide) rfl
    have hFc := va_free (wc := []) hD hS hA [] rfl
    refine va_calli (va_runS (As := [.int a1, .int 0, .int 23]) (rest := []) ⟨hx, hb, hml, hown, hts⟩ (m_X8_in l D cI cC cZ cR  _  a1 0 23   r5 hcr5) (va_cwS 3 hts gX8_whyNotThing_X8_in rfl rfl rfl (by decide +kernel) ⟨Nat.le_of_ble_eq_true rfl, Nat.le_of_ble_eq_true rfl⟩) (cPc_ps hPc hK hDc) rfl rfl hl.1 rfl (lv_room (Nat.le_of_ble_eq_true rfl)) dX8_whyNotThing_14 ⟨Nat.le_of_ble_eq_true rfl, Nat.le_of_ble_eq_true rfl⟩) hS (fun q _ h => hFc q h) hFc (fun xq u t H1 locs ht hvm hw hB hz1 hk1 hS => ?_)
    rw [hw]
    obtain ⟨hP1, hD1⟩ := hB
    rw [ht] at hP1
    obtain ⟨hP, hD⟩ := va_join (wr := [(mo, .inr (8, [.ref mo1, .ref mo2, .int kn, .ref mo3, .ref mo4, .ref mo5, .int le_])), (mo1, .inl (cI, 465, .inl s_)), (mo2, .inl (cI, 2790, .inl past)), (mo3, .inl (cI, 930, .inl slo)), (mo4, .inl (cZ, 2, .inl isv)), (mo5, .inl (cI, 80, .inl pad_))]) (w1 := []) hP hD [] [0, 1, 2, 3, 4, 5] rfl rfl (by decide) (by decide) hk1 hFc hP1 hD1
    generalize H1 = H at hP hS ⊢
    have hP : va_P D vwCl (ws_model cI cC cZ cR mo mo1 mo2 mo3 mo4 mo5 kn le_ s_ past slo isv pad_) H := hP
    have hD : va_D A (ws_model cI cC cZ cR mo mo1 mo2 mo3 mo4 mo5 kn le_ s_ past slo isv pad_) := hD
    refine lv_if_eq (tgt := 56) hx hb dX8_whyNotThing_17 (by decide) (fun c12 => ?_) (fun c12 => ?_)
    · replace h := br_p c12 h
      refine lv_iconst (v := 0) hx hb dX8_whyNotThing_56 (by decide) ?_
      exact J57 _ _ _ _ h hP hD hS (lv_sub hl [0, 1, 2, 3, 4, 5] rfl)
    · replace h := br_n c12 h
      refine lv_iload_n hx hb dX8_whyNotThing_20 rfl (lv_at hl 3 rfl) ?_
      refine lv_iconst (v := 1) hx hb dX8_whyNotThing_21 (by decide) ?_
      refine lv_bipush (v := 16) hx hb dX8_whyNotThing_22 (by decide) ?_
      obtain ⟨r6, hcr6, h⟩ := bn_sp h
      have hPc := hP.sub (ws' := []) [] rfl
      have hDc := hD.sub (ws' := []) [] (by decide) rfl
      have hFc := va_free (wc := []) hD hS hA [] rfl
      refine va_calli (va_runS (As := [.int a2, .int 1, .int 16]) (rest := []) ⟨hx, hb, hml, hown, hts⟩ (m_X8_in l D cI cC cZ cR  _  a2 1 16   r6 hcr6) (va_cwS 3 hts gX8_whyNotThing_X8_in rfl rfl rfl (by decide +kernel) ⟨Nat.le_of_ble_eq_true rfl, Nat.le_of_ble_eq_true rfl⟩) (cPc_ps hPc hK hDc) rfl rfl hl.1 rfl (lv_room (Nat.le_of_ble_eq_true rfl)) dX8_whyNotThing_24 ⟨Nat.le_of_ble_eq_true rfl, Nat.le_of_ble_eq_true rfl⟩) hS (fun q _ h => hFc q h) hFc (fun xq u t H1 locs ht hvm hw hB hz1 hk1 hS => ?_)
      rw [hw]
      obtain ⟨hP1, hD1⟩ := hB
      rw [ht] at hP1
      obtain ⟨hP, hD⟩ := va_join (wr := [(mo, .inr (8, [.ref mo1, .ref mo2, .int kn, .ref mo3, .ref mo4, .ref mo5, .int le_])), (mo1, .inl (cI, 465, .inl s_)), (mo2, .inl (cI, 2790, .inl past)), (mo3, .inl (cI, 930, .inl slo)), (mo4, .inl (cZ, 2, .inl isv)), (mo5, .inl (cI, 80, .inl pad_))]) (w1 := []) hP hD [] [0, 1, 2, 3, 4, 5] rfl rfl (by decide) (by decide) hk1 hFc hP1 hD1
      generalize H1 = H at hP hS ⊢
      have hP : va_P D vwCl (ws_model cI cC cZ cR mo mo1 mo2 mo3 mo4 mo5 kn le_ s_ past slo isv pad_) H := hP
      have hD : va_D A (ws_model cI cC cZ cR mo mo1 mo2 mo3 mo4 mo5 kn le_ s_ past slo isv pad_) := hD
      refine lv_if_eq (tgt := 56) hx hb dX8_whyNotThing_27 (by decide) (fun c11 => ?_) (fun c11 => ?_)
      · replace h := br_p c11 h
        refine lv_iconst (v := 0) hx hb dX8_whyNotThing_56 (by decide) ?_
        exact J57 _ _ _ _ h hP hD hS (lv_sub hl [0, 1, 2, 3, 4, 5] rfl)
      · replace h := br_n c11 h
        refine lv_iload hx hb dX8_whyNotThing_30 (lv_at hl 4 rfl) ?_
        refine lv_iconst (v := 1) hx hb dX8_whyNotThing_32 (by decide) ?_
        refine lv_bipush (v := 24) hx hb dX8_whyNotThing_33 (by decide) ?_
        obtain ⟨r7, hcr7, h⟩ := bn_sp h
        have hPc := hP.sub (ws' := []) [] rfl
        have hDc := hD.sub (ws' := []) [] (by decide) rfl
        have hFc := va_free (wc := []) hD hS hA [] rfl
        refine va_calli (va_runS (As := [.int a3, .int 1, .int 24]) (rest := []) ⟨hx, hb, hml, hown, hts⟩ (m_X8_in l D cI cC cZ cR  _  a3 1 24   r7 hcr7) (va_cwS 3 hts gX8_whyNotThing_X8_in rfl rfl rfl (by decide +kernel) ⟨Nat.le_of_ble_eq_true rfl, Nat.le_of_ble_eq_true rfl⟩) (cPc_ps hPc hK hDc) rfl rfl hl.1 rfl (lv_room (Nat.le_of_ble_eq_true rfl)) dX8_whyNotThing_35 ⟨Nat.le_of_ble_eq_true rfl, Nat.le_of_ble_eq_true rfl⟩) hS (fun q _ h => hFc q h) hFc (fun xq u t H1 locs ht hvm hw hB hz1 hk1 hS => ?_)
        rw [hw]
        obtain ⟨hP1, hD1⟩ := hB
        rw [ht] at hP1
        obtain ⟨hP, hD⟩ := va_join (wr := [(mo, .inr (8, [.ref mo1, .ref mo2, .int kn, .ref mo3, .ref mo4, .ref mo5, .int le_])), (mo1, .inl (cI, 465, .inl s_)), (mo2, .inl (cI, 2790, .inl past)), (mo3, .inl (cI, 930, .inl slo)), (mo4, .inl (cZ, 2, .inl isv)), (mo5, .inl (cI, 80, .inl pad_))]) (w1 := []) hP hD [] [0, 1, 2, 3, 4, 5] rfl rfl (by decide) (by decide) hk1 hFc hP1 hD1
        generalize H1 = H at hP hS ⊢
        have hP : va_P D vwCl (ws_model cI cC cZ cR mo mo1 mo2 mo3 mo4 mo5 kn le_ s_ past slo isv pad_) H := hP
        have hD : va_D A (ws_model cI cC cZ cR mo mo1 mo2 mo3 mo4 mo5 kn le_ s_ past slo isv pad_) := hD
        refine lv_if_eq (tgt := 56) hx hb dX8_whyNotThing_38 (by decide) (fun c10 => ?_) (fun c10 => ?_)
        · replace h := br_p c10 h
          refine lv_iconst (v := 0) hx hb dX8_whyNotThing_56 (by decide) ?_
          exact J57 _ _ _ _ h hP hD hS (lv_sub hl [0, 1, 2, 3, 4, 5] rfl)
        · replace h := br_n c10 h
          refine lv_iload hx hb dX8_whyNotThing_41 (lv_at hl 5 rfl) ?_
          refine lv_iconst (v := 1) hx hb dX8_whyNotThing_43 (by decide) ?_
          refine lv_bipush (v := 9) hx hb dX8_whyNotThing_44 (by decide) ?_
          obtain ⟨r8, hcr8, h⟩ := bn_sp h
          have hPc := hP.sub (ws' := []) [] rfl
          have hDc := hD.sub (ws' := []) [] (by decide) rfl
          have hFc := va_free (wc := []) hD hS hA [] rfl
          refine va_calli (va_runS (As := [.int a4, .int 1, .int 9]) (rest := []) ⟨hx, hb, hml, hown, hts⟩ (m_X8_in l D cI cC cZ cR  _  a4 1 9   r8 hcr8) (va_cwS 3 hts gX8_whyNotThing_X8_in rfl rfl rfl (by decide +kernel) ⟨Nat.le_of_ble_eq_true rfl, Nat.le_of_ble_eq_true rfl⟩) (cPc_ps hPc hK hDc) rfl rfl hl.1 rfl (lv_room (Nat.le_of_ble_eq_true rfl)) dX8_whyNotThing_46 ⟨Nat.le_of_ble_eq_true rfl, Nat.le_of_ble_eq_true rfl⟩) hS (fun q _ h => hFc q h) hFc (fun xq u t H1 locs ht hvm hw hB hz1 hk1 hS => ?_)
          rw [hw]
          obtain ⟨hP1, hD1⟩ := hB
          rw [ht] at hP1
          obtain ⟨hP, hD⟩ := va_join (wr := [(mo, .inr (8, [.ref mo1, .ref mo2, .int kn, .ref mo3, .ref mo4, .ref mo5, .int le_])), (mo1, .inl (cI, 465, .inl s_)), (mo2, .inl (cI, 2790, .inl past)), (mo3, .inl (cI, 930, .inl slo)), (mo4, .inl (cZ, 2, .inl isv)), (mo5, .inl (cI, 80, .inl pad_))]) (w1 := []) hP hD [] [0, 1, 2, 3, 4, 5] rfl rfl (by decide) (by decide) hk1 hFc hP1 hD1
          generalize H1 = H at hP hS ⊢
          have hP : va_P D vwCl (ws_model cI cC cZ cR mo mo1 mo2 mo3 mo4 mo5 kn le_ s_ past slo isv pad_) H := hP
          have hD : va_D A (ws_model cI cC cZ cR mo mo1 mo2 mo3 mo4 mo5 kn le_ s_ past slo isv pad_) := hD
          refine lv_if_eq (tgt := 56) hx hb dX8_whyNotThing_49 (by decide) (fun c9 => ?_) (fun c9 => ?_)
          · replace h := br_p c9 h
            refine lv_iconst (v := 0) hx hb dX8_whyNotThing_56 (by decide) ?_
            exact J57 _ _ _ _ h hP hD hS (lv_sub hl [0, 1, 2, 3, 4, 5] rfl)
          · replace h := br_n c9 h
            refine lv_iconst (v := 1) hx hb dX8_whyNotThing_52 (by decide) ?_
            refine lv_goto (tgt := 57) hx hb dX8_whyNotThing_53 (by decide) ?_
            exact J57 _ _ _ _ h hP hD hS (lv_sub hl [0, 1, 2, 3, 4, 5] rfl)
-- LeaningLinesModel.shoots
abbrev OUT_X8_shoots : Type := Int32 × (Nat → Int32)
def f_X8_shoots_L4  (k : Int32 → Int32 → (Nat → Int32) → Option OUT_X8_shoots) : Nat → Int32 → Int32 → (Nat → Int32) → Option OUT_X8_shoots
  | 0 => fun _ _ _ => none
  | n + 1 => fun v4 v5 v6 => (if 384 ≤ v5 then k v4 v5 v6 else gd 4 465 (gd 0 465 (bn (f_X8_exposed v6 (v5 / 24) (v5 - v5 / 24 * 24) ((v6 (4 : Int32).toNatClampNeg) + ((v5 / 24) * (v6 (0 : Int32).toNatClampNeg)))) (fun r7 => gd (81 + v5) 465 (bd (v4 + r7) (fun x8 => bd (v5 + 1) (fun x9 => f_X8_shoots_L4 k n x8 x9 (upd v6 (81 + v5 : Int32).toNatClampNeg r7))))))))
theorem f_X8_shoots_L4_s  (k : Int32 → Int32 → (Nat → Int32) → Option OUT_X8_shoots) (n : Nat) (v4 : Int32) (v5 : Int32) (v6 : Nat → Int32) : f_X8_shoots_L4  k (n + 1) v4 v5 v6 = ((if 384 ≤ v5 then k v4 v5 v6 else gd 4 465 (gd 0 465 (bn (f_X8_exposed v6 (v5 / 24) (v5 - v5 / 24 * 24) ((v6 (4 : Int32).toNatClampNeg) + ((v5 / 24) * (v6 (0 : Int32).toNatClampNeg)))) (fun r7 => gd (81 + v5) 465 (bd (v4 + r7) (fun x8 => bd (v5 + 1) (fun x9 => f_X8_shoots_L4 k n x8 x9 (upd v6 (81 + v5 : Int32).toNatClampNeg r7))))))))) := rfl
def f_X8_shoots (s_ : Nat → Int32) : Option OUT_X8_shoots :=
  f_X8_shoots_L4  (fun (w11 : Int32) (w12 : Int32) (w13 : Nat → Int32) => gd 4 465 (gd 0 465 (gd 1 465 (gd 4 465 (bd (upd w13 (4 : Int32).toNatClampNeg ((w13 (4 : Int32).toNatClampNeg) + ((15 * (w13 (0 : Int32).toNatClampNeg)) + (w13 (1 : Int32).toNatClampNeg)))) (fun (y14 : Nat → Int32) => gd 6 465 (gd 6 465 (some ((w11, upd y14 (6 : Int32).toNatClampNeg ((y14 (6 : Int32).toNatClampNeg) + 1))))))))))) 4000 0 0 s_
theorem uX8_shoots_X8 : ∀ w ∈ wsX80, w ∈ wsX8_shoots := by decide +kernel
theorem kX8_shoots_1 : Cond.fieldLink RX8 7 "LeaningLinesModel" "s" "[I" ∈ wsX8_shoots := by decide +kernel
abbrev R_X8_shoots : Room := { frames := 5, cells := 0, slots := 0, locals := 121 }
set_option maxHeartbeats 4000000 in
set_option maxRecDepth 100000 in
theorem m_X8_shoots (l : Launch) (D : va_G) (cI cC cZ cR : ClassId) (mo mo1 mo2 mo3 mo4 mo5 : Nat) (sz : Nat) (kn : Int32) (le_ : Int32) (s_ : Nat → Int32) (past : Nat → Int32) (slo : Nat → Int32) (isv : Nat → Int32) (pad_ : Nat → Int32)     (r : OUT_X8_shoots) (hf : f_X8_shoots s_ = some r) : Met l yX8_shoots wsX8_shoots R_X8_shoots (cPc D cI cC cZ cR [.ref mo] sz (ws_model cI cC cZ cR mo mo1 mo2 mo3 mo4 mo5 kn le_ s_ past slo isv pad_)) (cQi D (ws_model cI cC cZ cR mo mo1 mo2 mo3 mo4 mo5 kn le_ r.2 past slo isv pad_) (va_A (ws_model cI cC cZ cR mo mo1 mo2 mo3 mo4 mo5 kn le_ s_ past slo isv pad_) sz) r.1) 0 0 (va_A (ws_model cI cC cZ cR mo mo1 mo2 mo3 mo4 mo5 kn le_ s_ past slo isv pad_) sz) := by
  refine Met.ofW (cc := cX8_shoots) (maxL := 4) (ret := (some .int)) (by decide) rfl ?_
  intro p e s m args below meth c s₁ B hml hv
  obtain ⟨rfl, hsz, hP, hK, hD0⟩ := hv
  have hx := B.exec
  have hb := B.bytes
  have hr := B.returns
  have hts := atoms_spec (ws := wsX8_shoots) B.pre
  have hown : s.vm.findClass RX8 = some m.cls := findClass_of_methodNamed B.named
  have hlocks := B.notSynchronized
  subst hsz
  have hD := hD0.self (sz := s.heap.size)
  generalize hAe : va_A (ws_model cI cC cZ cR mo mo1 mo2 mo3 mo4 mo5 kn le_ s_ past slo isv pad_) s.heap.size = A at hD ⊢
  skip
  have hA : ∀ q : Nat, s.heap.size ≤ q → A q := fun q h => by rw [← hAe]; exact Or.inr h
  have hS : va_S A s.heap s.heap [] := va_S.rf
  have hl := lv_entry ([.ref mo]) (n := 4) (Nat.le_of_ble_eq_true rfl)
  rw [lg_entry_eq]
  generalize (lg_sl ([.ref mo]) ++ List.replicate (4 - (lg_sl ([.ref mo])).length) Slot.unset).toArray = ls at hl ⊢
  have hl : lv_has ls 4 [(0, .ref mo)] := hl
  refine W_absQ (fun Q hQ => ?_)
  refine W.eq (g2 := F0 m 0 ls []) rfl ?_
  have h := hf
  unfold f_X8_shoots at h
  refine lv_iconst (v := 0) hx hb dX8_shoots_0 (by decide) ?_
  refine lv_istore_n (lv' := [(1, .int 0), (0, .ref mo)]) hx hb dX8_shoots_1 rfl hl (by decide) rfl (fun ls hl => ?_)
  refine lv_iconst (v := 0) hx hb dX8_shoots_2 (by decide) ?_
  refine lv_istore_n (lv' := [(2, .int 0), (1, .int 0), (0, .ref mo)]) hx hb dX8_shoots_3 rfl hl (by decide) rfl (fun ls hl => ?_)
  have L4 : ∀ (k : Int32 → Int32 → (Nat → Int32) → Option OUT_X8_shoots), (∀ (w11 : Int32) (w12 : Int32) (w13 : Nat → Int32) (H : Heap) (locs : List Loc) (ls : Array Slot), k w11 w12 w13 = some r → va_P D vwCl (ws_model cI cC cZ cR mo mo1 mo2 mo3 mo4 mo5 kn le_ w13 past slo isv pad_) H → va_D A (ws_model cI cC cZ cR mo mo1 mo2 mo3 mo4 mo5 kn le_ w13 past slo isv pad_) → va_S A s.heap H locs → lv_has ls 4 [(0, .ref mo), (1, .int w11), (2, .int w12)] → W p l e R_X8_shoots s m ([.ref mo] : List Value).toArray below meth c H locs 0 0 Q (F0 m 62 ls [])) → ∀ (n : Nat) (v4 : Int32) (v5 : Int32) (v6 : Nat → Int32) (H : Heap) (locs : List Loc) (ls : Array Slot), f_X8_shoots_L4  k n v4 v5 v6 = some r → va_P D vwCl (ws_model cI cC cZ cR mo mo1 mo2 mo3 mo4 mo5 kn le_ v6 past slo isv pad_) H → va_D A (ws_model cI cC cZ cR mo mo1 mo2 mo3 mo4 mo5 kn le_ v6 past slo isv pad_) → va_S A s.heap H locs → lv_has ls 4 [(0, .ref mo), (1, .int v4), (2, .int v5)] → W p l e R_X8_shoots s m ([.ref mo] : List Value).toArray below meth c H locs 0 0 Q (F0 m 4 ls []) := by
    intro k K n
    induction n with
    | zero => intro v4 v5 v6 H locs ls h; exact no_sm h
    | succ n ih =>
      intro v4 v5 v6 H locs ls h hP hD hS hl
      rw [f_X8_shoots_L4_s] at h
      refine lv_iload_n hx hb dX8_shoots_4 rfl (lv_at hl 2 rfl) ?_
      refine lv_sipush (v := 384) hx hb dX8_shoots_5 (by decide) ?_
      refine lv_icmp_ge (tgt := 62) hx hb dX8_shoots_8 (by decide) (fun c10 => ?_) (fun c10 => ?_)
      · replace h := br_p c10 h
        exact K _ _ _ _ _ _ h hP hD hS (lv_sub hl [0, 1, 2] rfl)
      · replace h := br_n c10 h
        refine lv_aload_n hx hb dX8_shoots_11 rfl (lv_at hl 0 rfl) ?_
        refine lv_iload_n hx hb dX8_shoots_12 rfl (lv_at hl 2 rfl) ?_
        refine lv_bipush (v := 24) hx hb dX8_shoots_13 (by decide) ?_
        refine lv_idiv hx hb dX8_shoots_15 (by decide) ?_
        refine lv_iload_n hx hb dX8_shoots_16 rfl (lv_at hl 2 rfl) ?_
        refine lv_bipush (v := 24) hx hb dX8_shoots_17 (by decide) ?_
        refine lv_irem hx hb dX8_shoots_19 (by decide) ?_
        refine lv_aload_n hx hb dX8_shoots_20 rfl (lv_at hl 0 rfl) ?_
        refine va_get (D := D) (ci := 8) (v := .ref mo1) (C := RX8) (T := TX8) (N := 7) hx hb hts uX8_shoots_X8 hown hK.1 hP 0 rfl rfl 0 (by decide) (hts _ kX8_shoots_1) (fun _ h9 => h9) rfl dX8_shoots_21 ?_
        refine lv_iconst (v := 4) hx hb dX8_shoots_24 (by decide) ?_
        obtain ⟨hin, h⟩ := gd_sp h
        refine va_iald (D := D) hx hb hK.1 hP 1 0 rfl rfl hin dX8_shoots_25 ?_
        refine lv_iload_n hx hb dX8_shoots_26 rfl (lv_at hl 2 rfl) ?_
        refine lv_bipush (v := 24) hx hb dX8_shoots_27 (by decide) ?_
        refine lv_idiv hx hb dX8_shoots_29 (by decide) ?_
        refine lv_aload_n hx hb dX8_shoots_30 rfl (lv_at hl 0 rfl) ?_
        refine va_get (D := D) (ci := 8) (v := .ref mo1) (C := RX8) (T := TX8) (N := 7) hx hb hts uX8_shoots_X8 hown hK.1 hP 0 rfl rfl 0 (by decide) (hts _ kX8_shoots_1) (fun _ h9 => h9) rfl dX8_shoots_31 ?_
        refine lv_iconst (v := 0) hx hb dX8_shoots_34 (by decide) ?_
        obtain ⟨hin, h⟩ := gd_sp h
        refine va_iald (D := D) hx hb hK.1 hP 1 0 rfl rfl hin dX8_shoots_35 ?_
        refine lv_imul hx hb dX8_shoots_36 ?_
        refine lv_iadd hx hb dX8_shoots_37 ?_
        obtain ⟨r7, hcr7, h⟩ := bn_sp h
        have hPc := hP.sub (ws' := (ws_model cI cC cZ cR mo mo1 mo2 mo3 mo4 mo5 kn le_ v6 past slo isv pad_)) [0, 1, 2, 3, 4, 5] rfl
        have hDc := hD.sub (ws' := (ws_model cI cC cZ cR mo mo1 mo2 mo3 mo4 mo5 kn le_ v6 past slo isv pad_)) [0, 1, 2, 3, 4, 5] (by decide) rfl
        have hFc := va_free (wc := (ws_model cI cC cZ cR mo mo1 mo2 mo3 mo4 mo5 kn le_ v6 past slo isv pad_)) hD hS hA [0, 1, 2, 3, 4, 5] rfl
        refine va_calli (va_runV (As := [.int (v5 / 24), .int (v5 - v5 / 24 * 24), .int ((v6 (4 : Int32).toNatClampNeg) + ((v5 / 24) * (v6 (0 : Int32).toNatClampNeg)))]) (rest := []) ⟨hx, hb, hml, hown, hts⟩ (m_X8_exposed l D cI cC cZ cR mo mo1 mo2 mo3 mo4 mo5 _ kn le_ v6 past slo isv pad_ (v5 / 24) (v5 - v5 / 24 * 24) ((v6 (4 : Int32).toNatClampNeg) + ((v5 / 24) * (v6 (0 : Int32).toNatClampNeg)))   r7 hcr7) (cwV 3 hts gX8_shoots_X8_exposed rfl rfl rfl (by decide +kernel) ⟨Nat.le_of_ble_eq_true rfl, Nat.le_of_ble_eq_true rfl⟩) (cPc_pv hPc hK hDc (ci := 8) (q0 := 0) rfl rfl) rfl rfl hl.1 rfl (lv_room (Nat.le_of_ble_eq_true rfl)) dX8_shoots_38 ⟨Nat.le_of_ble_eq_true rfl, Nat.le_of_ble_eq_true rfl⟩) hS (fun q _ h => hFc q h) hFc (fun xq u t H1 locs ht hvm hw hB hz1 hk1 hS => ?_)
        rw [hw]
        obtain ⟨hP1, hD1⟩ := hB
        rw [ht] at hP1
        obtain ⟨hP, hD⟩ := va_join (wr := []) (w1 := (ws_model cI cC cZ cR mo mo1 mo2 mo3 mo4 mo5 kn le_ v6 past slo isv pad_)) hP hD [0, 1, 2, 3, 4, 5] [] rfl rfl (by decide) (by decide) hk1 hFc hP1 hD1
        generalize H1 = H at hP hS ⊢
        have hP : va_P D vwCl (ws_model cI cC cZ cR mo mo1 mo2 mo3 mo4 mo5 kn le_ v6 past slo isv pad_) H := hP
        have hD : va_D A (ws_model cI cC cZ cR mo mo1 mo2 mo3 mo4 mo5 kn le_ v6 past slo isv pad_) := hD
        refine lv_istore_n (lv' := [(3, .int r7), (0, .ref mo), (1, .int v4), (2, .int v5)]) hx hb dX8_shoots_41 rfl hl (by decide) rfl (fun ls hl => ?_)
        refine lv_aload_n hx hb dX8_shoots_42 rfl (lv_at hl 1 rfl) ?_
        refine va_get (D := D) (ci := 8) (v := .ref mo1) (C := RX8) (T := TX8) (N := 7) hx hb hts uX8_shoots_X8 hown hK.1 hP 0 rfl rfl 0 (by decide) (hts _ kX8_shoots_1) (fun _ h9 => h9) rfl dX8_shoots_43 ?_
        refine lv_bipush (v := 81) hx hb dX8_shoots_46 (by decide) ?_
        refine lv_iload_n hx hb dX8_shoots_48 rfl (lv_at hl 3 rfl) ?_
        refine lv_iadd hx hb dX8_shoots_49 ?_
        refine lv_iload_n hx hb dX8_shoots_50 rfl (lv_at hl 0 rfl) ?_
        obtain ⟨hin, h⟩ := gd_sp h
        refine va_iast (D := D) hx hb hK.1 hP hD hS 1 0 rfl rfl hin dX8_shoots_51 (fun H locs hP hD hS => ?_)
        have hP : va_P D vwCl (ws_model cI cC cZ cR mo mo1 mo2 mo3 mo4 mo5 kn le_ (upd v6 (81 + v5 : Int32).toNatClampNeg r7) past slo isv pad_) H := hP
        have hD : va_D A (ws_model cI cC cZ cR mo mo1 mo2 mo3 mo4 mo5 kn le_ (upd v6 (81 + v5 : Int32).toNatClampNeg r7) past slo isv pad_) := hD
        refine lv_iload_n hx hb dX8_shoots_52 rfl (lv_at hl 2 rfl) ?_
        refine lv_iload_n hx hb dX8_shoots_53 rfl (lv_at hl 0 rfl) ?_
        refine lv_iadd hx hb dX8_shoots_54 ?_
        refine lv_topi (fun x8 ex8 => ?_)
        replace h := bd_s2 h ex8
        refine lv_istore_n (lv' := [(1, .int x8), (3, .int r7), (0, .ref mo), (2, .int v5)]) hx hb dX8_shoots_55 rfl hl (by decide) rfl (fun ls hl => ?_)
        obtain ⟨x9, ex9, h⟩ := bd_sp h
        refine lv_iinc (v := x9) (lv' := [(2, .int x9), (1, .int x8), (3, .int r7), (0, .ref mo)]) hx hb dX8_shoots_56 hl (k := 3) rfl (by rw [ex9]; rfl) (by decide) rfl (fun ls hl => ?_)
        refine lv_goto (tgt := 4) hx hb dX8_shoots_59 (by decide) ?_
        exact ih _ _ _ _ _ _ h hP hD hS (lv_sub hl [3, 1, 0] rfl)
  refine L4 _ (fun w11 w12 w13 H locs ls h hP hD hS hl => ?_) 4000 0 0 s_ _ _ _ h hP hD hS (lv_sub hl [2, 1, 0] rfl)
  refine lv_aload_n hx hb dX8_shoots_62 rfl (lv_at hl 0 rfl) ?_
  refine va_get (D := D) (ci := 8) (v := .ref mo1) (C := RX8) (T := TX8) (N := 7) hx hb hts uX8_shoots_X8 hown hK.1 hP 0 rfl rfl 0 (by decide) (hts _ kX8_shoots_1) (fun _ h9 => h9) rfl dX8_shoots_63 ?_
  refine lv_iconst (v := 4) hx hb dX8_shoots_66 (by decide) ?_
  refine lv_dup2_11 hx hb dX8_shoots_67 rfl rfl ?_
  obtain ⟨hin, h⟩ := gd_sp h
  refine va_iald (D := D) hx hb hK.1 hP 1 0 rfl rfl hin dX8_shoots_68 ?_
  refine lv_bipush (v := 15) hx hb dX8_shoots_69 (by decide) ?_
  refine lv_aload_n hx hb dX8_shoots_71 rfl (lv_at hl 0 rfl) ?_
  refine va_get (D := D) (ci := 8) (v := .ref mo1) (C := RX8) (T := TX8) (N := 7) hx hb hts uX8_shoots_X8 hown hK.1 hP 0 rfl rfl 0 (by decide) (hts _ kX8_shoots_1) (fun _ h9 => h9) rfl dX8_shoots_72 ?_
  refine lv_iconst (v := 0) hx hb dX8_shoots_75 (by decide) ?_
  obtain ⟨hin, h⟩ := gd_sp h
  refine va_iald (D := D) hx hb hK.1 hP 1 0 rfl rfl hin dX8_shoots_76 ?_
  refine lv_imul hx hb dX8_shoots_77 ?_
  refine lv_aload_n hx hb dX8_shoots_78 rfl (lv_at hl 0 rfl) ?_
  refine va_get (D := D) (ci := 8) (v := .ref mo1) (C := RX8) (T := TX8) (N := 7) hx hb hts uX8_shoots_X8 hown hK.1 hP 0 rfl rfl 0 (by decide) (hts _ kX8_shoots_1) (fun _ h9 => h9) rfl dX8_shoots_79 ?_
  refine lv_iconst (v := 1) hx hb dX8_shoots_82 (by decide) ?_
  obtain ⟨hin, h⟩ := gd_sp h
  refine va_iald (D := D) hx hb hK.1 hP 1 0 rfl rfl hin dX8_shoots_83 ?_
  refine lv_iadd hx hb dX8_shoots_84 ?_
  refine lv_iadd hx hb dX8_shoots_85 ?_
  obtain ⟨hin, h⟩ := gd_sp h
  refine va_iast (D := D) hx hb hK.1 hP hD hS 1 0 rfl rfl hin dX8_shoots_86 (fun H locs hP hD hS => ?_)
  have hP : va_P D vwCl (ws_model cI cC cZ cR mo mo1 mo2 mo3 mo4 mo5 kn le_ (upd w13 (4 : Int32).toNatClampNeg ((w13 (4 : Int32).toNatClampNeg) + ((15 * (w13 (0 : Int32).toNatClampNeg)) + (w13 (1 : Int32).toNatClampNeg)))) past slo isv pad_) H := hP
  have hD : va_D A (ws_model cI cC cZ cR mo mo1 mo2 mo3 mo4 mo5 kn le_ (upd w13 (4 : Int32).toNatClampNeg ((w13 (4 : Int32).toNatClampNeg) + ((15 * (w13 (0 : Int32).toNatClampNeg)) + (w13 (1 : Int32).toNatClampNeg)))) past slo isv pad_) := hD
  obtain ⟨y14, ey14, h⟩ := bd_sp h
  rw [← ey14] at hP hD
  refine lv_aload_n hx hb dX8_shoots_87 rfl (lv_at hl 0 rfl) ?_
  refine va_get (D := D) (ci := 8) (v := .ref mo1) (C := RX8) (T := TX8) (N := 7) hx hb hts uX8_shoots_X8 hown hK.1 hP 0 rfl rfl 0 (by decide) (hts _ kX8_shoots_1) (fun _ h9 => h9) rfl dX8_shoots_88 ?_
  refine lv_bipush (v := 6) hx hb dX8_shoots_91 (by decide) ?_
  refine lv_dup2_11 hx hb dX8_shoots_93 rfl rfl ?_
  obtain ⟨hin, h⟩ := gd_sp h
  refine va_iald (D := D) hx hb hK.1 hP 1 0 rfl rfl hin dX8_shoots_94 ?_
  refine lv_iconst (v := 1) hx hb dX8_shoots_95 (by decide) ?_
  refine lv_iadd hx hb dX8_shoots_96 ?_
  obtain ⟨hin, h⟩ := gd_sp h
  refine va_iast (D := D) hx hb hK.1 hP hD hS 1 0 rfl rfl hin dX8_shoots_97 (fun H locs hP hD hS => ?_)
  have hP : va_P D vwCl (ws_model cI cC cZ cR mo mo1 mo2 mo3 mo4 mo5 kn le_ (upd y14 (6 : Int32).toNatClampNeg ((y14 (6 : Int32).toNatClampNeg) + 1)) past slo isv pad_) H := hP
  have hD : va_D A (ws_model cI cC cZ cR mo mo1 mo2 mo3 mo4 mo5 kn le_ (upd y14 (6 : Int32).toNatClampNeg ((y14 (6 : Int32).toNatClampNeg) + 1)) past slo isv pad_) := hD
  refine lv_iload_n hx hb dX8_shoots_98 rfl (lv_at hl 1 rfl) ?_
  have e9 := Option.some.inj h
  subst e9
  rw [hQ]
  exact W.iret (v := w11) hx hb hr (fun t ht hW => ⟨⟨w11, (), rfl, rfl, by rw [ht]; exact hP, hD⟩, hS.F ht⟩) hS.2.2 dX8_shoots_99
-- LeaningLinesModel.darkLines
abbrev OUT_X8_darkLines : Type := Int32
def f_X8_darkLines_L4 (s_ : Nat → Int32) (k : Int32 → Int32 → Option OUT_X8_darkLines) : Nat → Int32 → Int32 → Option OUT_X8_darkLines
  | 0 => fun _ _ => none
  | n + 1 => fun v3 v4 => (if 16 ≤ v4 then k v3 v4 else bn (f_X8_lit s_ v4) (fun r5 => jn (fun (j6 : Int32) => bd (v3 ||| j6) (fun x7 => bd (v4 + 1) (fun x8 => f_X8_darkLines_L4 s_ k n x7 x8))) (fun j26 => (if ¬ r5 = 0 then j26 0 else j26 (1 <<< (v4 &&& 31))))))
theorem f_X8_darkLines_L4_s (s_ : Nat → Int32) (k : Int32 → Int32 → Option OUT_X8_darkLines) (n : Nat) (v3 : Int32) (v4 : Int32) : f_X8_darkLines_L4 s_ k (n + 1) v3 v4 = ((if 16 ≤ v4 then k v3 v4 else bn (f_X8_lit s_ v4) (fun r5 => jn (fun (j6 : Int32) => bd (v3 ||| j6) (fun x7 => bd (v4 + 1) (fun x8 => f_X8_darkLines_L4 s_ k n x7 x8))) (fun j26 => (if ¬ r5 = 0 then j26 0 else j26 (1 <<< (v4 &&& 31))))))) := rfl
def f_X8_darkLines (s_ : Nat → Int32) : Option OUT_X8_darkLines :=
  f_X8_darkLines_L4 s_ (fun (w11 : Int32) (w12 : Int32) => some (w11)) 4000 0 0
abbrev R_X8_darkLines : Room := { frames := 1, cells := 0, slots := 0, locals := 23 }
set_option maxHeartbeats 4000000 in
set_option maxRecDepth 100000 in
theorem m_X8_darkLines (l : Launch) (D : va_G) (cI cC cZ cR : ClassId) (mo mo1 mo2 mo3 mo4 mo5 : Nat) (sz : Nat) (kn : Int32) (le_ : Int32) (s_ : Nat → Int32) (past : Nat → Int32) (slo : Nat → Int32) (isv : Nat → Int32) (pad_ : Nat → Int32)     (r : OUT_X8_darkLines) (hf : f_X8_darkLines s_ = some r) : Met l yX8_darkLines wsX8_darkLines R_X8_darkLines (cPc D cI cC cZ cR [.ref mo] sz (ws_model cI cC cZ cR mo mo1 mo2 mo3 mo4 mo5 kn le_ s_ past slo isv pad_)) (cQi D (ws_model cI cC cZ cR mo mo1 mo2 mo3 mo4 mo5 kn le_ s_ past slo isv pad_) (va_A (ws_model cI cC cZ cR mo mo1 mo2 mo3 mo4 mo5 kn le_ s_ past slo isv pad_) sz) r) 0 0 (va_A (ws_model cI cC cZ cR mo mo1 mo2 mo3 mo4 mo5 kn le_ s_ past slo isv pad_) sz) := by
  refine Met.ofW (cc := cX8_darkLines) (maxL := 3) (ret := (some .int)) (by decide) rfl ?_
  intro p e s m args below meth c s₁ B hml hv
  obtain ⟨rfl, hsz, hP, hK, hD0⟩ := hv
  have hx := B.exec
  have hb := B.bytes
  have hr := B.returns
  have hts := atoms_spec (ws := wsX8_darkLines) B.pre
  have hown : s.vm.findClass RX8 = some m.cls := findClass_of_methodNamed B.named
  have hlocks := B.notSynchronized
  subst hsz
  have hD := hD0.self (sz := s.heap.size)
  generalize hAe : va_A (ws_model cI cC cZ cR mo mo1 mo2 mo3 mo4 mo5 kn le_ s_ past slo isv pad_) s.heap.size = A at hD ⊢
  skip
  have hA : ∀ q : Nat, s.heap.size ≤ q → A q := fun q h => by rw [← hAe]; exact Or.inr h
  have hS : va_S A s.heap s.heap [] := va_S.rf
  have hl := lv_entry ([.ref mo]) (n := 3) (Nat.le_of_ble_eq_true rfl)
  rw [lg_entry_eq]
  generalize (lg_sl ([.ref mo]) ++ List.replicate (3 - (lg_sl ([.ref mo])).length) Slot.unset).toArray = ls at hl ⊢
  have hl : lv_has ls 3 [(0, .ref mo)] := hl
  refine W_absQ (fun Q hQ => ?_)
  refine W.eq (g2 := F0 m 0 ls []) rfl ?_
  have h := hf
  unfold f_X8_darkLines at h
  refine lv_iconst (v := 0) hx hb dX8_darkLines_0 (by decide) ?_
  refine lv_istore_n (lv' := [(1, .int 0), (0, .ref mo)]) hx hb dX8_darkLines_1 rfl hl (by decide) rfl (fun ls hl => ?_)
  refine lv_iconst (v := 0) hx hb dX8_darkLines_2 (by decide) ?_
  refine lv_istore_n (lv' := [(2, .int 0), (1, .int 0), (0, .ref mo)]) hx hb dX8_darkLines_3 rfl hl (by decide) rfl (fun ls hl => ?_)
  have L4 : ∀ (k : Int32 → Int32 → Option OUT_X8_darkLines), (∀ (w11 : Int32) (w12 : Int32) (H : Heap) (locs : List Loc) (ls : Array Slot), k w11 w12 = some r → va_P D vwCl (ws_model cI cC cZ cR mo mo1 mo2 mo3 mo4 mo5 kn le_ s_ past slo isv pad_) H → va_D A (ws_model cI cC cZ cR mo mo1 mo2 mo3 mo4 mo5 kn le_ s_ past slo isv pad_) → va_S A s.heap H locs → lv_has ls 3 [(0, .ref mo), (1, .int w11), (2, .int w12)] → W p l e R_X8_darkLines s m ([.ref mo] : List Value).toArray below meth c H locs 0 0 Q (F0 m 34 ls [])) → ∀ (n : Nat) (v3 : Int32) (v4 : Int32) (H : Heap) (locs : List Loc) (ls : Array Slot), f_X8_darkLines_L4 s_ k n v3 v4 = some r → va_P D vwCl (ws_model cI cC cZ cR mo mo1 mo2 mo3 mo4 mo5 kn le_ s_ past slo isv pad_) H → va_D A (ws_model cI cC cZ cR mo mo1 mo2 mo3 mo4 mo5 kn le_ s_ past slo isv pad_) → va_S A s.heap H locs → lv_has ls 3 [(0, .ref mo), (1, .int v3), (2, .int v4)] → W p l e R_X8_darkLines s m ([.ref mo] : List Value).toArray below meth c H locs 0 0 Q (F0 m 4 ls []) := by
    intro k K n
    induction n with
    | zero => intro v3 v4 H locs ls h; exact no_sm h
    | succ n ih =>
      intro v3 v4 H locs ls h hP hD hS hl
      rw [f_X8_darkLines_L4_s] at h
      refine lv_iload_n hx hb dX8_darkLines_4 rfl (lv_at hl 2 rfl) ?_
      refine lv_bipush (v := 16) hx hb dX8_darkLines_5 (by decide) ?_
      refine lv_icmp_ge (tgt := 34) hx hb dX8_darkLines_7 (by decide) (fun c10 => ?_) (fun c10 => ?_)
      · replace h := br_p c10 h
        exact K _ _ _ _ _ h hP hD hS (lv_sub hl [0, 1, 2] rfl)
      · replace h := br_n c10 h
        refine lv_iload_n hx hb dX8_darkLines_10 rfl (lv_at hl 1 rfl) ?_
        refine lv_aload_n hx hb dX8_darkLines_11 rfl (lv_at hl 0 rfl) ?_
        refine lv_iload_n hx hb dX8_darkLines_12 rfl (lv_at hl 2 rfl) ?_
        obtain ⟨r5, hcr5, h⟩ := bn_sp h
        have hPc := hP.sub (ws' := (ws_model cI cC cZ cR mo mo1 mo2 mo3 mo4 mo5 kn le_ s_ past slo isv pad_)) [0, 1, 2, 3, 4, 5] rfl
        have hDc := hD.sub (ws' := (ws_model cI cC cZ cR mo mo1 mo2 mo3 mo4 mo5 kn le_ s_ past slo isv pad_)) [0, 1, 2, 3, 4, 5] (by decide) rfl
        have hFc := va_free (wc := (ws_model cI cC cZ cR mo mo1 mo2 mo3 mo4 mo5 kn le_ s_ past slo isv pad_)) hD hS hA [0, 1, 2, 3, 4, 5] rfl
        refine va_calli (va_runV (As := [.int v4]) (rest := [.int v3]) ⟨hx, hb, hml, hown, hts⟩ (m_X8_lit l D cI cC cZ cR mo mo1 mo2 mo3 mo4 mo5 _ kn le_ s_ past slo isv pad_ v4   r5 hcr5) (cwV 1 hts gX8_darkLines_X8_lit rfl rfl rfl (by decide +kernel) ⟨Nat.le_of_ble_eq_true rfl, Nat.le_of_ble_eq_true rfl⟩) (cPc_pv hPc hK hDc (ci := 8) (q0 := 0) rfl rfl) rfl rfl hl.1 rfl (lv_room (Nat.le_of_ble_eq_true rfl)) dX8_darkLines_13 ⟨Nat.le_of_ble_eq_true rfl, Nat.le_of_ble_eq_true rfl⟩) hS (fun q _ h => hFc q h) hFc (fun xq u t H1 locs ht hvm hw hB hz1 hk1 hS => ?_)
        rw [hw]
        obtain ⟨hP1, hD1⟩ := hB
        rw [ht] at hP1
        obtain ⟨hP, hD⟩ := va_join (wr := []) (w1 := (ws_model cI cC cZ cR mo mo1 mo2 mo3 mo4 mo5 kn le_ s_ past slo isv pad_)) hP hD [0, 1, 2, 3, 4, 5] [] rfl rfl (by decide) (by decide) hk1 hFc hP1 hD1
        generalize H1 = H at hP hS ⊢
        have hP : va_P D vwCl (ws_model cI cC cZ cR mo mo1 mo2 mo3 mo4 mo5 kn le_ s_ past slo isv pad_) H := hP
        have hD : va_D A (ws_model cI cC cZ cR mo mo1 mo2 mo3 mo4 mo5 kn le_ s_ past slo isv pad_) := hD
        obtain ⟨j26, hj26, h⟩ := jn_sp h
        have J26 : ∀ (j6 : Int32) (H : Heap) (locs : List Loc) (ls : Array Slot), j26 j6 = some r → va_P D vwCl (ws_model cI cC cZ cR mo mo1 mo2 mo3 mo4 mo5 kn le_ s_ past slo isv pad_) H → va_D A (ws_model cI cC cZ cR mo mo1 mo2 mo3 mo4 mo5 kn le_ s_ past slo isv pad_) → va_S A s.heap H locs → lv_has ls 3 [(0, .ref mo), (1, .int v3), (2, .int v4)] → W p l e R_X8_darkLines s m ([.ref mo] : List Value).toArray below meth c H locs 0 0 Q (F0 m 26 ls [.int j6, .int v3]) := by
          intro j6 H locs ls h hP hD hS hl
          rw [hj26] at h
          refine lv_ior hx hb dX8_darkLines_26 ?_
          refine lv_topi (fun x7 ex7 => ?_)
          replace h := bd_s2 h ex7
          refine lv_istore_n (lv' := [(1, .int x7), (0, .ref mo), (2, .int v4)]) hx hb dX8_darkLines_27 rfl hl (by decide) rfl (fun ls hl => ?_)
          obtain ⟨x8, ex8, h⟩ := bd_sp h
          refine lv_iinc (v := x8) (lv' := [(2, .int x8), (1, .int x7), (0, .ref mo)]) hx hb dX8_darkLines_28 hl (k := 2) rfl (by rw [ex8]; rfl) (by decide) rfl (fun ls hl => ?_)
          refine lv_goto (tgt := 4) hx hb dX8_darkLines_31 (by decide) ?_
          exact ih _ _ _ _ _ h hP hD hS (lv_sub hl [2, 1, 0] rfl)
        refine lv_if_ne (tgt := 25) hx hb dX8_darkLines_16 (by decide) (fun c9 => ?_) (fun c9 => ?_)
        · replace h := br_p c9 h
          refine lv_iconst (v := 0) hx hb dX8_darkLines_25 (by decide) ?_
          exact J26 _ _ _ _ h hP hD hS (lv_sub hl [0, 1, 2] rfl)
        · replace h := br_n (not_not_intro c9) h
          refine lv_iconst (v := 1) hx hb dX8_darkLines_19 (by decide) ?_
          refine lv_iload_n hx hb dX8_darkLines_20 rfl (lv_at hl 2 rfl) ?_
          refine lv_ishl hx hb dX8_darkLines_21 ?_
          refine lv_goto (tgt := 26) hx hb dX8_darkLines_22 (by decide) ?_
          exact J26 _ _ _ _ h hP hD hS (lv_sub hl [0, 1, 2] rfl)
  refine L4 _ (fun w11 w12 H locs ls h hP hD hS hl => ?_) 4000 0 0 _ _ _ h hP hD hS (lv_sub hl [2, 1, 0] rfl)
  refine lv_iload_n hx hb dX8_darkLines_34 rfl (lv_at hl 1 rfl) ?_
  have e9 := Option.some.inj h
  subst e9
  rw [hQ]
  exact W.iret (v := w11) hx hb hr (fun t ht hW => ⟨⟨w11, (), rfl, rfl, by rw [ht]; exact hP, hD⟩, hS.F ht⟩) hS.2.2 dX8_darkLines_35
-- LeaningLinesModel.brightest
abbrev OUT_X8_brightest : Type := Int32
def f_X8_brightest_L4 (s_ : Nat → Int32) (k : Int32 → Int32 → Option OUT_X8_brightest) : Nat → Int32 → Int32 → Option OUT_X8_brightest
  | 0 => fun _ _ => none
  | n + 1 => fun v3 v4 => (if 384 ≤ v4 then k v3 v4 else gd (81 + v4) 465 ((if (s_ (81 + v4 : Int32).toNatClampNeg) ≤ v3 then bd (v4 + 1) (fun x5 => f_X8_brightest_L4 s_ k n v3 x5) else gd (81 + v4) 465 (bd (s_ (81 + v4 : Int32).toNatClampNeg) (fun x6 => bd (v4 + 1) (fun x7 => f_X8_brightest_L4 s_ k n x6 x7))))))
theorem f_X8_brightest_L4_s (s_ : Nat → Int32) (k : Int32 → Int32 → Option OUT_X8_brightest) (n : Nat) (v3 : Int32) (v4 : Int32) : f_X8_brightest_L4 s_ k (n + 1) v3 v4 = ((if 384 ≤ v4 then k v3 v4 else gd (81 + v4) 465 ((if (s_ (81 + v4 : Int32).toNatClampNeg) ≤ v3 then bd (v4 + 1) (fun x5 => f_X8_brightest_L4 s_ k n v3 x5) else gd (81 + v4) 465 (bd (s_ (81 + v4 : Int32).toNatClampNeg) (fun x6 => bd (v4 + 1) (fun x7 => f_X8_brightest_L4 s_ k n x6 x7))))))) := rfl
def f_X8_brightest (s_ : Nat → Int32) : Option OUT_X8_brightest :=
  f_X8_brightest_L4 s_ (fun (w10 : Int32) (w11 : Int32) => some (w10)) 4000 0 0
theorem uX8_brightest_X8 : ∀ w ∈ wsX80, w ∈ wsX8_brightest := by decide +kernel
theorem kX8_brightest_1 : Cond.fieldLink RX8 7 "LeaningLinesModel" "s" "[I" ∈ wsX8_brightest := by decide +kernel
abbrev R_X8_brightest : Room := { frames := 0, cells := 0, slots := 0, locals := 0 }
set_option maxHeartbeats 4000000 in
set_option maxRecDepth 100000 in
theorem m_X8_brightest (l : Launch) (D : va_G) (cI cC cZ cR : ClassId) (mo mo1 mo2 mo3 mo4 mo5 : Nat) (sz : Nat) (kn : Int32) (le_ : Int32) (s_ : Nat → Int32) (past : Nat → Int32) (slo : Nat → Int32) (isv : Nat → Int32) (pad_ : Nat → Int32)     (r : OUT_X8_brightest) (hf : f_X8_brightest s_ = some r) : Met l yX8_brightest wsX8_brightest R_X8_brightest (cPc D cI cC cZ cR [.ref mo] sz (ws_model cI cC cZ cR mo mo1 mo2 mo3 mo4 mo5 kn le_ s_ past slo isv pad_)) (cQi D (ws_model cI cC cZ cR mo mo1 mo2 mo3 mo4 mo5 kn le_ s_ past slo isv pad_) (va_A (ws_model cI cC cZ cR mo mo1 mo2 mo3 mo4 mo5 kn le_ s_ past slo isv pad_) sz) r) 0 0 (va_A (ws_model cI cC cZ cR mo mo1 mo2 mo3 mo4 mo5 kn le_ s_ past slo isv pad_) sz) := by
  refine Met.ofW (cc := cX8_brightest) (maxL := 3) (ret := (some .int)) (by decide) rfl ?_
  intro p e s m args below meth c s₁ B hml hv
  obtain ⟨rfl, hsz, hP, hK, hD0⟩ := hv
  have hx := B.exec
  have hb := B.bytes
  have hr := B.returns
  have hts := atoms_spec (ws := wsX8_brightest) B.pre
  have hown : s.vm.findClass RX8 = some m.cls := findClass_of_methodNamed B.named
  have hlocks := B.notSynchronized
  subst hsz
  have hD := hD0.self (sz := s.heap.size)
  generalize hAe : va_A (ws_model cI cC cZ cR mo mo1 mo2 mo3 mo4 mo5 kn le_ s_ past slo isv pad_) s.heap.size = A at hD ⊢
  skip
  have hA : ∀ q : Nat, s.heap.size ≤ q → A q := fun q h => by rw [← hAe]; exact Or.inr h
  have hS : va_S A s.heap s.heap [] := va_S.rf
  have hl := lv_entry ([.ref mo]) (n := 3) (Nat.le_of_ble_eq_true rfl)
  rw [lg_entry_eq]
  generalize (lg_sl ([.ref mo]) ++ List.replicate (3 - (lg_sl ([.ref mo])).length) Slot.unset).toArray = ls at hl ⊢
  have hl : lv_has ls 3 [(0, .ref mo)] := hl
  refine W_absQ (fun Q hQ => ?_)
  refine W.eq (g2 := F0 m 0 ls []) rfl ?_
  have h := hf
  unfold f_X8_brightest at h
  refine lv_iconst (v := 0) hx hb dX8_brightest_0 (by decide) ?_
  refine lv_istore_n (lv' := [(1, .int 0), (0, .ref mo)]) hx hb dX8_brightest_1 rfl hl (by decide) rfl (fun ls hl => ?_)
  refine lv_iconst (v := 0) hx hb dX8_brightest_2 (by decide) ?_
  refine lv_istore_n (lv' := [(2, .int 0), (1, .int 0), (0, .ref mo)]) hx hb dX8_brightest_3 rfl hl (by decide) rfl (fun ls hl => ?_)
  have L4 : ∀ (k : Int32 → Int32 → Option OUT_X8_brightest), (∀ (w10 : Int32) (w11 : Int32) (H : Heap) (locs : List Loc) (ls : Array Slot), k w10 w11 = some r → va_P D vwCl (ws_model cI cC cZ cR mo mo1 mo2 mo3 mo4 mo5 kn le_ s_ past slo isv pad_) H → va_D A (ws_model cI cC cZ cR mo mo1 mo2 mo3 mo4 mo5 kn le_ s_ past slo isv pad_) → va_S A s.heap H locs → lv_has ls 3 [(0, .ref mo), (1, .int w10), (2, .int w11)] → W p l e R_X8_brightest s m ([.ref mo] : List Value).toArray below meth c H locs 0 0 Q (F0 m 44 ls [])) → ∀ (n : Nat) (v3 : Int32) (v4 : Int32) (H : Heap) (locs : List Loc) (ls : Array Slot), f_X8_brightest_L4 s_ k n v3 v4 = some r → va_P D vwCl (ws_model cI cC cZ cR mo mo1 mo2 mo3 mo4 mo5 kn le_ s_ past slo isv pad_) H → va_D A (ws_model cI cC cZ cR mo mo1 mo2 mo3 mo4 mo5 kn le_ s_ past slo isv pad_) → va_S A s.heap H locs → lv_has ls 3 [(0, .ref mo), (1, .int v3), (2, .int v4)] → W p l e R_X8_brightest s m ([.ref mo] : List Value).toArray below meth c H locs 0 0 Q (F0 m 4 ls []) := by
    intro k K n
    induction n with
    | zero => intro v3 v4 H locs ls h; exact no_sm h
    | succ n ih =>
      intro v3 v4 H locs ls h hP hD hS hl
      rw [f_X8_brightest_L4_s] at h
      refine lv_iload_n hx hb dX8_brightest_4 rfl (lv_at hl 2 rfl) ?_
      refine lv_sipush (v := 384) hx hb dX8_brightest_5 (by decide) ?_
      refine lv_icmp_ge (tgt := 44) hx hb dX8_brightest_8 (by decide) (fun c9 => ?_) (fun c9 => ?_)
      · replace h := br_p c9 h
        exact K _ _ _ _ _ h hP hD hS (lv_sub hl [0, 1, 2] rfl)
      · replace h := br_n c9 h
        refine lv_aload_n hx hb dX8_brightest_11 rfl (lv_at hl 0 rfl) ?_
        refine va_get (D := D) (ci := 8) (v := .ref mo1) (C := RX8) (T := TX8) (N := 7) hx hb hts uX8_brightest_X8 hown hK.1 hP 0 rfl rfl 0 (by decide) (hts _ kX8_brightest_1) (fun _ h9 => h9) rfl dX8_brightest_12 ?_
        refine lv_bipush (v := 81) hx hb dX8_brightest_15 (by decide) ?_
        refine lv_iload_n hx hb dX8_brightest_17 rfl (lv_at hl 2 rfl) ?_
        refine lv_iadd hx hb dX8_brightest_18 ?_
        obtain ⟨hin, h⟩ := gd_sp h
        refine va_iald (D := D) hx hb hK.1 hP 1 0 rfl rfl hin dX8_brightest_19 ?_
        refine lv_iload_n hx hb dX8_brightest_20 rfl (lv_at hl 1 rfl) ?_
        refine lv_icmp_le (tgt := 36) hx hb dX8_brightest_21 (by decide) (fun c8 => ?_) (fun c8 => ?_)
        · replace h := br_p c8 h
          refine lv_iload_n hx hb dX8_brightest_36 rfl (lv_at hl 1 rfl) ?_
          refine lv_istore_n (lv' := [(1, .int v3), (0, .ref mo), (2, .int v4)]) hx hb dX8_brightest_37 rfl hl (by decide) rfl (fun ls hl => ?_)
          obtain ⟨x5, ex5, h⟩ := bd_sp h
          refine lv_iinc (v := x5) (lv' := [(2, .int x5), (1, .int v3), (0, .ref mo)]) hx hb dX8_brightest_38 hl (k := 2) rfl (by rw [ex5]; rfl) (by decide) rfl (fun ls hl => ?_)
          refine lv_goto (tgt := 4) hx hb dX8_brightest_41 (by decide) ?_
          exact ih _ _ _ _ _ h hP hD hS (lv_sub hl [2, 1, 0] rfl)
        · replace h := br_n c8 h
          refine lv_aload_n hx hb dX8_brightest_24 rfl (lv_at hl 0 rfl) ?_
          refine va_get (D := D) (ci := 8) (v := .ref mo1) (C := RX8) (T := TX8) (N := 7) hx hb hts uX8_brightest_X8 hown hK.1 hP 0 rfl rfl 0 (by decide) (hts _ kX8_brightest_1) (fun _ h9 => h9) rfl dX8_brightest_25 ?_
          refine lv_bipush (v := 81) hx hb dX8_brightest_28 (by decide) ?_
          refine lv_iload_n hx hb dX8_brightest_30 rfl (lv_at hl 2 rfl) ?_
          refine lv_iadd hx hb dX8_brightest_31 ?_
          obtain ⟨hin, h⟩ := gd_sp h
          refine va_iald (D := D) hx hb hK.1 hP 1 0 rfl rfl hin dX8_brightest_32 ?_
          refine lv_goto (tgt := 37) hx hb dX8_brightest_33 (by decide) ?_
          refine lv_topi (fun x6 ex6 => ?_)
          replace h := bd_s2 h ex6
          refine lv_istore_n (lv' := [(1, .int x6), (0, .ref mo), (2, .int v4)]) hx hb dX8_brightest_37 rfl hl (by decide) rfl (fun ls hl => ?_)
          obtain ⟨x7, ex7, h⟩ := bd_sp h
          refine lv_iinc (v := x7) (lv' := [(2, .int x7), (1, .int x6), (0, .ref mo)]) hx hb dX8_brightest_38 hl (k := 2) rfl (by rw [ex7]; rfl) (by decide) rfl (fun ls hl => ?_)
          refine lv_goto (tgt := 4) hx hb dX8_brightest_41 (by decide) ?_
          exact ih _ _ _ _ _ h hP hD hS (lv_sub hl [2, 1, 0] rfl)
  refine L4 _ (fun w10 w11 H locs ls h hP hD hS hl => ?_) 4000 0 0 _ _ _ h hP hD hS (lv_sub hl [2, 1, 0] rfl)
  refine lv_iload_n hx hb dX8_brightest_44 rfl (lv_at hl 1 rfl) ?_
  have e9 := Option.some.inj h
  subst e9
  rw [hQ]
  exact W.iret (v := w10) hx hb hr (fun t ht hW => ⟨⟨w10, (), rfl, rfl, by rw [ht]; exact hP, hD⟩, hS.F ht⟩) hS.2.2 dX8_brightest_45
-- LeaningLinesModel.bands
abbrev OUT_X8_bands : Type := Int32
def f_X8_bands_L4 (s_ : Nat → Int32) (k : Int32 → Int32 → Option OUT_X8_bands) : Nat → Int32 → Int32 → Option OUT_X8_bands
  | 0 => fun _ _ => none
  | n + 1 => fun v3 v4 => (if 16 ≤ v4 then k v3 v4 else bn (f_X8_lit s_ v4) (fun r5 => jn (fun (j6 : Int32) => bn (f_X8_lit s_ (v4 - 1)) (fun r7 => jn (fun (j8 : Int32) => jn (fun (j9 : Int32) => bd (v3 + j9) (fun x10 => bd (v4 + 1) (fun x11 => f_X8_bands_L4 s_ k n x10 x11))) (fun j47 => (if ¬ j6 = j8 then j47 1 else j47 0))) (fun j39 => (if ¬ r7 = 0 then j39 0 else j39 1)))) (fun j24 => (if ¬ r5 = 0 then j24 0 else j24 1))))
theorem f_X8_bands_L4_s (s_ : Nat → Int32) (k : Int32 → Int32 → Option OUT_X8_bands) (n : Nat) (v3 : Int32) (v4 : Int32) : f_X8_bands_L4 s_ k (n + 1) v3 v4 = ((if 16 ≤ v4 then k v3 v4 else bn (f_X8_lit s_ v4) (fun r5 => jn (fun (j6 : Int32) => bn (f_X8_lit s_ (v4 - 1)) (fun r7 => jn (fun (j8 : Int32) => jn (fun (j9 : Int32) => bd (v3 + j9) (fun x10 => bd (v4 + 1) (fun x11 => f_X8_bands_L4 s_ k n x10 x11))) (fun j47 => (if ¬ j6 = j8 then j47 1 else j47 0))) (fun j39 => (if ¬ r7 = 0 then j39 0 else j39 1)))) (fun j24 => (if ¬ r5 = 0 then j24 0 else j24 1))))) := rfl
def f_X8_bands (s_ : Nat → Int32) : Option OUT_X8_bands :=
  f_X8_bands_L4 s_ (fun (w16 : Int32) (w17 : Int32) => some (w16)) 4000 0 1
abbrev R_X8_bands : Room := { frames := 1, cells := 0, slots := 0, locals := 23 }
set_option maxHeartbeats 4000000 in
set_option maxRecDepth 100000 in
theorem m_X8_bands (l : Launch) (D : va_G) (cI cC cZ cR : ClassId) (mo mo1 mo2 mo3 mo4 mo5 : Nat) (sz : Nat) (kn : Int32) (le_ : Int32) (s_ : Nat → Int32) (past : Nat → Int32) (slo : Nat → Int32) (isv : Nat → Int32) (pad_ : Nat → Int32)     (r : OUT_X8_bands) (hf : f_X8_bands s_ = some r) : Met l yX8_bands wsX8_bands R_X8_bands (cPc D cI cC cZ cR [.ref mo] sz (ws_model cI cC cZ cR mo mo1 mo2 mo3 mo4 mo5 kn le_ s_ past slo isv pad_)) (cQi D (ws_model cI cC cZ cR mo mo1 mo2 mo3 mo4 mo5 kn le_ s_ past slo isv pad_) (va_A (ws_model cI cC cZ cR mo mo1 mo2 mo3 mo4 mo5 kn le_ s_ past slo isv pad_) sz) r) 0 0 (va_A (ws_model cI cC cZ cR mo mo1 mo2 mo3 mo4 mo5 kn le_ s_ past slo isv pad_) sz) := by
  refine Met.ofW (cc := cX8_bands) (maxL := 3) (ret := (some .int)) (by decide) rfl ?_
  intro p e s m args below meth c s₁ B hml hv
  obtain ⟨rfl, hsz, hP, hK, hD0⟩ := hv
  have hx := B.exec
  have hb := B.bytes
  have hr := B.returns
  have hts := atoms_spec (ws := wsX8_bands) B.pre
  have hown : s.vm.findClass RX8 = some m.cls := findClass_of_methodNamed B.named
  have hlocks := B.notSynchronized
  subst hsz
  have hD := hD0.self (sz := s.heap.size)
  generalize hAe : va_A (ws_model cI cC cZ cR mo mo1 mo2 mo3 mo4 mo5 kn le_ s_ past slo isv pad_) s.heap.size = A at hD ⊢
  skip
  have hA : ∀ q : Nat, s.heap.size ≤ q → A q := fun q h => by rw [← hAe]; exact Or.inr h
  have hS : va_S A s.heap s.heap [] := va_S.rf
  have hl := lv_entry ([.ref mo]) (n := 3) (Nat.le_of_ble_eq_true rfl)
  rw [lg_entry_eq]
  generalize (lg_sl ([.ref mo]) ++ List.replicate (3 - (lg_sl ([.ref mo])).length) Slot.unset).toArray = ls at hl ⊢
  have hl : lv_has ls 3 [(0, .ref mo)] := hl
  refine W_absQ (fun Q hQ => ?_)
  refine W.eq (g2 := F0 m 0 ls []) rfl ?_
  have h := hf
  unfold f_X8_bands at h
  refine lv_iconst (v := 0) hx hb dX8_bands_0 (by decide) ?_
  refine lv_istore_n (lv' := [(1, .int 0), (0, .ref mo)]) hx hb dX8_bands_1 rfl hl (by decide) rfl (fun ls hl => ?_)
  refine lv_iconst (v := 1) hx hb dX8_bands_2 (by decide) ?_
  refine lv_istore_n (lv' := [(2, .int 1), (1, .int 0), (0, .ref mo)]) hx hb dX8_bands_3 rfl hl (by decide) rfl (fun ls hl => ?_)
  have L4 : ∀ (k : Int32 → Int32 → Option OUT_X8_bands), (∀ (w16 : Int32) (w17 : Int32) (H : Heap) (locs : List Loc) (ls : Array Slot), k w16 w17 = some r → va_P D vwCl (ws_model cI cC cZ cR mo mo1 mo2 mo3 mo4 mo5 kn le_ s_ past slo isv pad_) H → va_D A (ws_model cI cC cZ cR mo mo1 mo2 mo3 mo4 mo5 kn le_ s_ past slo isv pad_) → va_S A s.heap H locs → lv_has ls 3 [(0, .ref mo), (1, .int w16), (2, .int w17)] → W p l e R_X8_bands s m ([.ref mo] : List Value).toArray below meth c H locs 0 0 Q (F0 m 55 ls [])) → ∀ (n : Nat) (v3 : Int32) (v4 : Int32) (H : Heap) (locs : List Loc) (ls : Array Slot), f_X8_bands_L4 s_ k n v3 v4 = some r → va_P D vwCl (ws_model cI cC cZ cR mo mo1 mo2 mo3 mo4 mo5 kn le_ s_ past slo isv pad_) H → va_D A (ws_model cI cC cZ cR mo mo1 mo2 mo3 mo4 mo5 kn le_ s_ past slo isv pad_) → va_S A s.heap H locs → lv_has ls 3 [(0, .ref mo), (1, .int v3), (2, .int v4)] → W p l e R_X8_bands s m ([.ref mo] : List Value).toArray below meth c H locs 0 0 Q (F0 m 4 ls []) := by
    intro k K n
    induction n with
    | zero => intro v3 v4 H locs ls h; exact no_sm h
    | succ n ih =>
      intro v3 v4 H locs ls h hP hD hS hl
      rw [f_X8_bands_L4_s] at h
      refine lv_iload_n hx hb dX8_bands_4 rfl (lv_at hl 2 rfl) ?_
      refine lv_bipush (v := 16) hx hb dX8_bands_5 (by decide) ?_
      refine lv_icmp_ge (tgt := 55) hx hb dX8_bands_7 (by decide) (fun c15 => ?_) (fun c15 => ?_)
      · replace h := br_p c15 h
        exact K _ _ _ _ _ h hP hD hS (lv_sub hl [0, 1, 2] rfl)
      · replace h := br_n c15 h
        refine lv_iload_n hx hb dX8_bands_10 rfl (lv_at hl 1 rfl) ?_
        refine lv_aload_n hx hb dX8_bands_11 rfl (lv_at hl 0 rfl) ?_
        refine lv_iload_n hx hb dX8_bands_12 rfl (lv_at hl 2 rfl) ?_
        obtain ⟨r5, hcr5, h⟩ := bn_sp h
        have hPc := hP.sub (ws' := (ws_model cI cC cZ cR mo mo1 mo2 mo3 mo4 mo5 kn le_ s_ past slo isv pad_)) [0, 1, 2, 3, 4, 5] rfl
        have hDc := hD.sub (ws' := (ws_model cI cC cZ cR mo mo1 mo2 mo3 mo4 mo5 kn le_ s_ past slo isv pad_)) [0, 1, 2, 3, 4, 5] (by decide) rfl
        have hFc := va_free (wc := (ws_model cI cC cZ cR mo mo1 mo2 mo3 mo4 mo5 kn le_ s_ past slo isv pad_)) hD hS hA [0, 1, 2, 3, 4, 5] rfl
        refine va_calli (va_runV (As := [.int v4]) (rest := [.int v3]) ⟨hx, hb, hml, hown, hts⟩ (m_X8_lit l D cI cC cZ cR mo mo1 mo2 mo3 mo4 mo5 _ kn le_ s_ past slo isv pad_ v4   r5 hcr5) (cwV 1 hts gX8_bands_X8_lit rfl rfl rfl (by decide +kernel) ⟨Nat.le_of_ble_eq_true rfl, Nat.le_of_ble_eq_true rfl⟩) (cPc_pv hPc hK hDc (ci := 8) (q0 := 0) rfl rfl) rfl rfl hl.1 rfl (lv_room (Nat.le_of_ble_eq_true rfl)) dX8_bands_13 ⟨Nat.le_of_ble_eq_true rfl, Nat.le_of_ble_eq_true rfl⟩) hS (fun q _ h => hFc q h) hFc (fun xq u t H1 locs ht hvm hw hB hz1 hk1 hS => ?_)
        rw [hw]
        obtain ⟨hP1, hD1⟩ := hB
        rw [ht] at hP1
        obtain ⟨hP, hD⟩ := va_join (wr := []) (w1 := (ws_model cI cC cZ cR mo mo1 mo2 mo3 mo4 mo5 kn le_ s_ past slo isv pad_)) hP hD [0, 1, 2, 3, 4, 5] [] rfl rfl (by decide) (by decide) hk1 hFc hP1 hD1
        generalize H1 = H at hP hS ⊢
        have hP : va_P D vwCl (ws_model cI cC cZ cR mo mo1 mo2 mo3 mo4 mo5 kn le_ s_ past slo isv pad_) H := hP
        have hD : va_D A (ws_model cI cC cZ cR mo mo1 mo2 mo3 mo4 mo5 kn le_ s_ past slo isv pad_) := hD
        obtain ⟨j24, hj24, h⟩ := jn_sp h
        have J24 : ∀ (j6 : Int32) (H : Heap) (locs : List Loc) (ls : Array Slot), j24 j6 = some r → va_P D vwCl (ws_model cI cC cZ cR mo mo1 mo2 mo3 mo4 mo5 kn le_ s_ past slo isv pad_) H → va_D A (ws_model cI cC cZ cR mo mo1 mo2 mo3 mo4 mo5 kn le_ s_ past slo isv pad_) → va_S A s.heap H locs → lv_has ls 3 [(0, .ref mo), (1, .int v3), (2, .int v4)] → W p l e R_X8_bands s m ([.ref mo] : List Value).toArray below meth c H locs 0 0 Q (F0 m 24 ls [.int j6, .int v3]) := by
          intro j6 H locs ls h hP hD hS hl
          rw [hj24] at h
          refine lv_aload_n hx hb dX8_bands_24 rfl (lv_at hl 0 rfl) ?_
          refine lv_iload_n hx hb dX8_bands_25 rfl (lv_at hl 2 rfl) ?_
          refine lv_iconst (v := 1) hx hb dX8_bands_26 (by decide) ?_
          refine lv_isub hx hb dX8_bands_27 ?_
          obtain ⟨r7, hcr7, h⟩ := bn_sp h
          have hPc := hP.sub (ws' := (ws_model cI cC cZ cR mo mo1 mo2 mo3 mo4 mo5 kn le_ s_ past slo isv pad_)) [0, 1, 2, 3, 4, 5] rfl
          have hDc := hD.sub (ws' := (ws_model cI cC cZ cR mo mo1 mo2 mo3 mo4 mo5 kn le_ s_ past slo isv pad_)) [0, 1, 2, 3, 4, 5] (by decide) rfl
          have hFc := va_free (wc := (ws_model cI cC cZ cR mo mo1 mo2 mo3 mo4 mo5 kn le_ s_ past slo isv pad_)) hD hS hA [0, 1, 2, 3, 4, 5] rfl
          refine va_calli (va_runV (As := [.int (v4 - 1)]) (rest := [.int j6, .int v3]) ⟨hx, hb, hml, hown, hts⟩ (m_X8_lit l D cI cC cZ cR mo mo1 mo2 mo3 mo4 mo5 _ kn le_ s_ past slo isv pad_ (v4 - 1)   r7 hcr7) (cwV 1 hts gX8_bands_X8_lit rfl rfl rfl (by decide +kernel) ⟨Nat.le_of_ble_eq_true rfl, Nat.le_of_ble_eq_true rfl⟩) (cPc_pv hPc hK hDc (ci := 8) (q0 := 0) rfl rfl) rfl rfl hl.1 rfl (lv_room (Nat.le_of_ble_eq_true rfl)) dX8_bands_28 ⟨Nat.le_of_ble_eq_true rfl, Nat.le_of_ble_eq_true rfl⟩) hS (fun q _ h => hFc q h) hFc (fun xq u t H1 locs ht hvm hw hB hz1 hk1 hS => ?_)
          rw [hw]
          obtain ⟨hP1, hD1⟩ := hB
          rw [ht] at hP1
          obtain ⟨hP, hD⟩ := va_join (wr := []) (w1 := (ws_model cI cC cZ cR mo mo1 mo2 mo3 mo4 mo5 kn le_ s_ past slo isv pad_)) hP hD [0, 1, 2, 3, 4, 5] [] rfl rfl (by decide) (by decide) hk1 hFc hP1 hD1
          generalize H1 = H at hP hS ⊢
          have hP : va_P D vwCl (ws_model cI cC cZ cR mo mo1 mo2 mo3 mo4 mo5 kn le_ s_ past slo isv pad_) H := hP
          have hD : va_D A (ws_model cI cC cZ cR mo mo1 mo2 mo3 mo4 mo5 kn le_ s_ past slo isv pad_) := hD
          obtain ⟨j39, hj39, h⟩ := jn_sp h
          have J39 : ∀ (j8 : Int32) (H : Heap) (locs : List Loc) (ls : Array Slot), j39 j8 = some r → va_P D vwCl (ws_model cI cC cZ cR mo mo1 mo2 mo3 mo4 mo5 kn le_ s_ past slo isv pad_) H → va_D A (ws_model cI cC cZ cR mo mo1 mo2 mo3 mo4 mo5 kn le_ s_ past slo isv pad_) → va_S A s.heap H locs → lv_has ls 3 [(0, .ref mo), (1, .int v3), (2, .int v4)] → W p l e R_X8_bands s m ([.ref mo] : List Value).toArray below meth c H locs 0 0 Q (F0 m 39 ls [.int j8, .int j6, .int v3]) := by
            intro j8 H locs ls h hP hD hS hl
            rw [hj39] at h
            obtain ⟨j47, hj47, h⟩ := jn_sp h
            have J47 : ∀ (j9 : Int32) (H : Heap) (locs : List Loc) (ls : Array Slot), j47 j9 = some r → va_P D vwCl (ws_model cI cC cZ cR mo mo1 mo2 mo3 mo4 mo5 kn le_ s_ past slo isv pad_) H → va_D A (ws_model cI cC cZ cR mo mo1 mo2 mo3 mo4 mo5 kn le_ s_ past slo isv pad_) → va_S A s.heap H locs → lv_has ls 3 [(0, .ref mo), (1, .int v3), (2, .int v4)] → W p l e R_X8_bands s m ([.ref mo] : List Value).toArray below meth c H locs 0 0 Q (F0 m 47 ls [.int j9, .int v3]) := by
              intro j9 H locs ls h hP hD hS hl
              rw [hj47] at h
              refine lv_iadd hx hb dX8_bands_47 ?_
              refine lv_topi (fun x10 ex10 => ?_)
              replace h := bd_s2 h ex10
              refine lv_istore_n (lv' := [(1, .int x10), (0, .ref mo), (2, .int v4)]) hx hb dX8_bands_48 rfl hl (by decide) rfl (fun ls hl => ?_)
              obtain ⟨x11, ex11, h⟩ := bd_sp h
              refine lv_iinc (v := x11) (lv' := [(2, .int x11), (1, .int x10), (0, .ref mo)]) hx hb dX8_bands_49 hl (k := 2) rfl (by rw [ex11]; rfl) (by decide) rfl (fun ls hl => ?_)
              refine lv_goto (tgt := 4) hx hb dX8_bands_52 (by decide) ?_
              exact ih _ _ _ _ _ h hP hD hS (lv_sub hl [2, 1, 0] rfl)
            refine lv_icmp_ne (tgt := 46) hx hb dX8_bands_39 (by decide) (fun c12 => ?_) (fun c12 => ?_)
            · replace h := br_p c12 h
              refine lv_iconst (v := 1) hx hb dX8_bands_46 (by decide) ?_
              exact J47 _ _ _ _ h hP hD hS (lv_sub hl [0, 1, 2] rfl)
            · replace h := br_n (not_not_intro c12) h
              refine lv_iconst (v := 0) hx hb dX8_bands_42 (by decide) ?_
              refine lv_goto (tgt := 47) hx hb dX8_bands_43 (by decide) ?_
              exact J47 _ _ _ _ h hP hD hS (lv_sub hl [0, 1, 2] rfl)
          refine lv_if_ne (tgt := 38) hx hb dX8_bands_31 (by decide) (fun c13 => ?_) (fun c13 => ?_)
          · replace h := br_p c13 h
            refine lv_iconst (v := 0) hx hb dX8_bands_38 (by decide) ?_
            exact J39 _ _ _ _ h hP hD hS (lv_sub hl [0, 1, 2] rfl)
          · replace h := br_n (not_not_intro c13) h
            refine lv_iconst (v := 1) hx hb dX8_bands_34 (by decide) ?_
            refine lv_goto (tgt := 39) hx hb dX8_bands_35 (by decide) ?_
            exact J39 _ _ _ _ h hP hD hS (lv_sub hl [0, 1, 2] rfl)
        refine lv_if_ne (tgt := 23) hx hb dX8_bands_16 (by decide) (fun c14 => ?_) (fun c14 => ?_)
        · replace h := br_p c14 h
          refine lv_iconst (v := 0) hx hb dX8_bands_23 (by decide) ?_
          exact J24 _ _ _ _ h hP hD hS (lv_sub hl [0, 1, 2] rfl)
        · replace h := br_n (not_not_intro c14) h
          refine lv_iconst (v := 1) hx hb dX8_bands_19 (by decide) ?_
          refine lv_goto (tgt := 24) hx hb dX8_bands_20 (by decide) ?_
          exact J24 _ _ _ _ h hP hD hS (lv_sub hl [0, 1, 2] rfl)
  refine L4 _ (fun w16 w17 H locs ls h hP hD hS hl => ?_) 4000 0 1 _ _ _ h hP hD hS (lv_sub hl [2, 1, 0] rfl)
  refine lv_iload_n hx hb dX8_bands_55 rfl (lv_at hl 1 rfl) ?_
  have e9 := Option.some.inj h
  subst e9
  rw [hQ]
  exact W.iret (v := w16) hx hb hr (fun t ht hW => ⟨⟨w16, (), rfl, rfl, by rw [ht]; exact hP, hD⟩, hS.F ht⟩) hS.2.2 dX8_bands_56
-- LeaningLinesModel.burnsIn
abbrev OUT_X8_burnsIn : Type := Int32
def f_X8_burnsIn_L15 (s_ : Nat → Int32) (a0 : Int32) (a1 : Int32) (v4 : Int32) (k : Int32 → Int32 → Option OUT_X8_burnsIn) : Nat → Int32 → Int32 → Option OUT_X8_burnsIn
  | 0 => fun _ _ => none
  | n + 1 => fun v7 v8 => gd 1 465 ((if (s_ (1 : Int32).toNatClampNeg) ≤ v8 then k v7 v8 else gd 4 465 (gd 0 465 (bn (f_X8_in (((s_ (4 : Int32).toNatClampNeg) + (v4 * (s_ (0 : Int32).toNatClampNeg))) + v8) a0 ((a0 + a1) - 1)) (fun r9 => jn (fun (j10 : Int32) => bd (v7 ||| j10) (fun x11 => bd (v8 + 1) (fun x12 => f_X8_burnsIn_L15 s_ a0 a1 v4 k n x11 x12))) (fun j66 => (if r9 = 0 then j66 0 else j66 (1 <<< (v4 &&& 31)))))))))
theorem f_X8_burnsIn_L15_s (s_ : Nat → Int32) (a0 : Int32) (a1 : Int32) (v4 : Int32) (k : Int32 → Int32 → Option OUT_X8_burnsIn) (n : Nat) (v7 : Int32) (v8 : Int32) : f_X8_burnsIn_L15 s_ a0 a1 v4 k (n + 1) v7 v8 = (gd 1 465 ((if (s_ (1 : Int32).toNatClampNeg) ≤ v8 then k v7 v8 else gd 4 465 (gd 0 465 (bn (f_X8_in (((s_ (4 : Int32).toNatClampNeg) + (v4 * (s_ (0 : Int32).toNatClampNeg))) + v8) a0 ((a0 + a1) - 1)) (fun r9 => jn (fun (j10 : Int32) => bd (v7 ||| j10) (fun x11 => bd (v8 + 1) (fun x12 => f_X8_burnsIn_L15 s_ a0 a1 v4 k n x11 x12))) (fun j66 => (if r9 = 0 then j66 0 else j66 (1 <<< (v4 &&& 31)))))))))) := rfl
def f_X8_burnsIn_L5 (s_ : Nat → Int32) (a0 : Int32) (a1 : Int32) (k : Int32 → Int32 → Option OUT_X8_burnsIn) : Nat → Int32 → Int32 → Option OUT_X8_burnsIn
  | 0 => fun _ _ => none
  | n + 1 => fun v3 v4 => (if 16 ≤ v4 then k v3 v4 else f_X8_burnsIn_L15 s_ a0 a1 v4 (fun (w15 : Int32) (w16 : Int32) => bd (v4 + 1) (fun x17 => f_X8_burnsIn_L5 s_ a0 a1 k n w15 x17)) 4000 v3 0)
theorem f_X8_burnsIn_L5_s (s_ : Nat → Int32) (a0 : Int32) (a1 : Int32) (k : Int32 → Int32 → Option OUT_X8_burnsIn) (n : Nat) (v3 : Int32) (v4 : Int32) : f_X8_burnsIn_L5 s_ a0 a1 k (n + 1) v3 v4 = ((if 16 ≤ v4 then k v3 v4 else f_X8_burnsIn_L15 s_ a0 a1 v4 (fun (w15 : Int32) (w16 : Int32) => bd (v4 + 1) (fun x17 => f_X8_burnsIn_L5 s_ a0 a1 k n w15 x17)) 4000 v3 0)) := rfl
def f_X8_burnsIn (s_ : Nat → Int32) (a0 : Int32) (a1 : Int32) : Option OUT_X8_burnsIn :=
  f_X8_burnsIn_L5 s_ a0 a1 (fun (w19 : Int32) (w20 : Int32) => some (w19)) 4000 0 0
theorem uX8_burnsIn_X8 : ∀ w ∈ wsX80, w ∈ wsX8_burnsIn := by decide +kernel
theorem kX8_burnsIn_1 : Cond.fieldLink RX8 7 "LeaningLinesModel" "s" "[I" ∈ wsX8_burnsIn := by decide +kernel
abbrev R_X8_burnsIn : Room := { frames := 1, cells := 0, slots := 0, locals := 22 }
set_option maxHeartbeats 4000000 in
set_option maxRecDepth 100000 in
theorem m_X8_burnsIn (l : Launch) (D : va_G) (cI cC cZ cR : ClassId) (mo mo1 mo2 mo3 mo4 mo5 : Nat) (sz : Nat) (kn : Int32) (le_ : Int32) (s_ : Nat → Int32) (past : Nat → Int32) (slo : Nat → Int32) (isv : Nat → Int32) (pad_ : Nat → Int32)  (a0 : Int32) (a1 : Int32)   (r : OUT_X8_burnsIn) (hf : f_X8_burnsIn s_ a0 a1 = some r) : Met l yX8_burnsIn wsX8_burnsIn R_X8_burnsIn (cPc D cI cC cZ cR [.ref mo, .int a0, .int a1] sz (ws_model cI cC cZ cR mo mo1 mo2 mo3 mo4 mo5 kn le_ s_ past slo isv pad_)) (cQi D (ws_model cI cC cZ cR mo mo1 mo2 mo3 mo4 mo5 kn le_ s_ past slo isv pad_) (va_A (ws_model cI cC cZ cR mo mo1 mo2 mo3 mo4 mo5 kn le_ s_ past slo isv pad_) sz) r) 0 0 (va_A (ws_model cI cC cZ cR mo mo1 mo2 mo3 mo4 mo5 kn le_ s_ past slo isv pad_) sz) := by
  refine Met.ofW (cc := cX8_burnsIn) (maxL := 6) (ret := (some .int)) (by decide) rfl ?_
  intro p e s m args below meth c s₁ B hml hv
  obtain ⟨rfl, hsz, hP, hK, hD0⟩ := hv
  have hx := B.exec
  have hb := B.bytes
  have hr := B.returns
  have hts := atoms_spec (ws := wsX8_burnsIn) B.pre
  have hown : s.vm.findClass RX8 = some m.cls := findClass_of_methodNamed B.named
  have hlocks := B.notSynchronized
  subst hsz
  have hD := hD0.self (sz := s.heap.size)
  generalize hAe : va_A (ws_model cI cC cZ cR mo mo1 mo2 mo3 mo4 mo5 kn le_ s_ past slo isv pad_) s.heap.size = A at hD ⊢
  skip
  have hA : ∀ q : Nat, s.heap.size ≤ q → A q := fun q h => by rw [← hAe]; exact Or.inr h
  have hS : va_S A s.heap s.heap [] := va_S.rf
  have hl := lv_entry ([.ref mo, .int a0, .int a1]) (n := 6) (Nat.le_of_ble_eq_true rfl)
  rw [lg_entry_eq]
  generalize (lg_sl ([.ref mo, .int a0, .int a1]) ++ List.replicate (6 - (lg_sl ([.ref mo, .int a0, .int a1])).length) Slot.unset).toArray = ls at hl ⊢
  have hl : lv_has ls 6 [(0, .ref mo), (1, .int a0), (2, .int a1)] := hl
  refine W_absQ (fun Q hQ => ?_)
  refine W.eq (g2 := F0 m 0 ls []) rfl ?_
  have h := hf
  unfold f_X8_burnsIn at h
  refine lv_iconst (v := 0) hx hb dX8_burnsIn_0 (by decide) ?_
  refine lv_istore_n (lv' := [(3, .int 0), (0, .ref mo), (1, .int a0), (2, .int a1)]) hx hb dX8_burnsIn_1 rfl hl (by decide) rfl (fun ls hl => ?_)
  refine lv_iconst (v := 0) hx hb dX8_burnsIn_2 (by decide) ?_
  refine lv_istore (lv' := [(4, .int 0), (3, .int 0), (0, .ref mo), (1, .int a0), (2, .int a1)]) hx hb dX8_burnsIn_3 hl (by decide) rfl (fun ls hl => ?_)
  have L5 : ∀ (k : Int32 → Int32 → Option OUT_X8_burnsIn), (∀ (w19 : Int32) (w20 : Int32) (H : Heap) (locs : List Loc) (ls : Array Slot), k w19 w20 = some r → va_P D vwCl (ws_model cI cC cZ cR mo mo1 mo2 mo3 mo4 mo5 kn le_ s_ past slo isv pad_) H → va_D A (ws_model cI cC cZ cR mo mo1 mo2 mo3 mo4 mo5 kn le_ s_ past slo isv pad_) → va_S A s.heap H locs → lv_has ls 6 [(0, .ref mo), (1, .int a0), (2, .int a1), (3, .int w19), (4, .int w20)] → W p l e R_X8_burnsIn s m ([.ref mo, .int a0, .int a1] : List Value).toArray below meth c H locs 0 0 Q (F0 m 80 ls [])) → ∀ (n : Nat) (v3 : Int32) (v4 : Int32) (H : Heap) (locs : List Loc) (ls : Array Slot), f_X8_burnsIn_L5 s_ a0 a1 k n v3 v4 = some r → va_P D vwCl (ws_model cI cC cZ cR mo mo1 mo2 mo3 mo4 mo5 kn le_ s_ past slo isv pad_) H → va_D A (ws_model cI cC cZ cR mo mo1 mo2 mo3 mo4 mo5 kn le_ s_ past slo isv pad_) → va_S A s.heap H locs → lv_has ls 6 [(0, .ref mo), (1, .int a0), (2, .int a1), (3, .int v3), (4, .int v4)] → W p l e R_X8_burnsIn s m ([.ref mo, .int a0, .int a1] : List Value).toArray below meth c H locs 0 0 Q (F0 m 5 ls []) := by
    intro k K n
    induction n with
    | zero => intro v3 v4 H locs ls h; exact no_sm h
    | succ n ih =>
      intro v3 v4 H locs ls h hP hD hS hl
      rw [f_X8_burnsIn_L5_s] at h
      refine lv_iload hx hb dX8_burnsIn_5 (lv_at hl 4 rfl) ?_
      refine lv_bipush (v := 16) hx hb dX8_burnsIn_7 (by decide) ?_
      refine lv_icmp_ge (tgt := 80) hx hb dX8_burnsIn_9 (by decide) (fun c18 => ?_) (fun c18 => ?_)
      · replace h := br_p c18 h
        exact K _ _ _ _ _ h hP hD hS (lv_sub hl [0, 1, 2, 3, 4] rfl)
      · replace h := br_n c18 h
        refine lv_iconst (v := 0) hx hb dX8_burnsIn_12 (by decide) ?_
        refine lv_istore (lv' := [(5, .int 0), (0, .ref mo), (1, .int a0), (2, .int a1), (3, .int v3), (4, .int v4)]) hx hb dX8_burnsIn_13 hl (by decide) rfl (fun ls hl => ?_)
        have L15 : ∀ (k : Int32 → Int32 → Option OUT_X8_burnsIn), (∀ (w15 : Int32) (w16 : Int32) (H : Heap) (locs : List Loc) (ls : Array Slot), k w15 w16 = some r → va_P D vwCl (ws_model cI cC cZ cR mo mo1 mo2 mo3 mo4 mo5 kn le_ s_ past slo isv pad_) H → va_D A (ws_model cI cC cZ cR mo mo1 mo2 mo3 mo4 mo5 kn le_ s_ past slo isv pad_) → va_S A s.heap H locs → lv_has ls 6 [(0, .ref mo), (1, .int a0), (2, .int a1), (3, .int w15), (4, .int v4), (5, .int w16)] → W p l e R_X8_burnsIn s m ([.ref mo, .int a0, .int a1] : List Value).toArray below meth c H locs 0 0 Q (F0 m 74 ls [])) → ∀ (n : Nat) (v7 : Int32) (v8 : Int32) (H : Heap) (locs : List Loc) (ls : Array Slot), f_X8_burnsIn_L15 s_ a0 a1 v4 k n v7 v8 = some r → va_P D vwCl (ws_model cI cC cZ cR mo mo1 mo2 mo3 mo4 mo5 kn le_ s_ past slo isv pad_) H → va_D A (ws_model cI cC cZ cR mo mo1 mo2 mo3 mo4 mo5 kn le_ s_ past slo isv pad_) → va_S A s.heap H locs → lv_has ls 6 [(0, .ref mo), (1, .int a0), (2, .int a1), (3, .int v7), (4, .int v4), (5, .int v8)] → W p l e R_X8_burnsIn s m ([.ref mo, .int a0, .int a1] : List Value).toArray below meth c H locs 0 0 Q (F0 m 15 ls []) := by
          intro k K n
          induction n with
          | zero => intro v7 v8 H locs ls h; exact no_sm h
          | succ n ih =>
            intro v7 v8 H locs ls h hP hD hS hl
            rw [f_X8_burnsIn_L15_s] at h
            refine lv_iload hx hb dX8_burnsIn_15 (lv_at hl 5 rfl) ?_
            refine lv_aload_n hx hb dX8_burnsIn_17 rfl (lv_at hl 0 rfl) ?_
            refine va_get (D := D) (ci := 8) (v := .ref mo1) (C := RX8) (T := TX8) (N := 7) hx hb hts uX8_burnsIn_X8 hown hK.1 hP 0 rfl rfl 0 (by decide) (hts _ kX8_burnsIn_1) (fun _ h9 => h9) rfl dX8_burnsIn_18 ?_
            refine lv_iconst (v := 1) hx hb dX8_burnsIn_21 (by decide) ?_
            obtain ⟨hin, h⟩ := gd_sp h
            refine va_iald (D := D) hx hb hK.1 hP 1 0 rfl rfl hin dX8_burnsIn_22 ?_
            refine lv_icmp_ge (tgt := 74) hx hb dX8_burnsIn_23 (by decide) (fun c14 => ?_) (fun c14 => ?_)
            · replace h := br_p c14 h
              exact K _ _ _ _ _ h hP hD hS (lv_sub hl [0, 1, 2, 3, 4, 5] rfl)
            · replace h := br_n c14 h
              refine lv_iload_n hx hb dX8_burnsIn_26 rfl (lv_at hl 3 rfl) ?_
              refine lv_aload_n hx hb dX8_burnsIn_27 rfl (lv_at hl 0 rfl) ?_
              refine va_get (D := D) (ci := 8) (v := .ref mo1) (C := RX8) (T := TX8) (N := 7) hx hb hts uX8_burnsIn_X8 hown hK.1 hP 0 rfl rfl 0 (by decide) (hts _ kX8_burnsIn_1) (fun _ h9 => h9) rfl dX8_burnsIn_28 ?_
              refine lv_iconst (v := 4) hx hb dX8_burnsIn_31 (by decide) ?_
              obtain ⟨hin, h⟩ := gd_sp h
              refine va_iald (D := D) hx hb hK.1 hP 1 0 rfl rfl hin dX8_burnsIn_32 ?_
              refine lv_iload hx hb dX8_burnsIn_33 (lv_at hl 4 rfl) ?_
              refine lv_aload_n hx hb dX8_burnsIn_35 rfl (lv_at hl 0 rfl) ?_
              refine va_get (D := D) (ci := 8) (v := .ref mo1) (C := RX8) (T := TX8) (N := 7) hx hb hts uX8_burnsIn_X8 hown hK.1 hP 0 rfl rfl 0 (by decide) (hts _ kX8_burnsIn_1) (fun _ h9 => h9) rfl dX8_burnsIn_36 ?_
              refine lv_iconst (v := 0) hx hb dX8_burnsIn_39 (by decide) ?_
              obtain ⟨hin, h⟩ := gd_sp h
              refine va_iald (D := D) hx hb hK.1 hP 1 0 rfl rfl hin dX8_burnsIn_40 ?_
              refine lv_imul hx hb dX8_burnsIn_41 ?_
              refine lv_iadd hx hb dX8_burnsIn_42 ?_
              refine lv_iload hx hb dX8_burnsIn_43 (lv_at hl 5 rfl) ?_
              refine lv_iadd hx hb dX8_burnsIn_45 ?_
              refine lv_iload_n hx hb dX8_burnsIn_46 rfl (lv_at hl 1 rfl) ?_
              refine lv_iload_n hx hb dX8_burnsIn_47 rfl (lv_at hl 1 rfl) ?_
              refine lv_iload_n hx hb dX8_burnsIn_48 rfl (lv_at hl 2 rfl) ?_
              refine lv_iadd hx hb dX8_burnsIn_49 ?_
              refine lv_iconst (v := 1) hx hb dX8_burnsIn_50 (by decide) ?_
              refine lv_isub hx hb dX8_burnsIn_51 ?_
              obtain ⟨r9, hcr9, h⟩ := bn_sp h
              have hPc := hP.sub (ws' := []) [] rfl
              have hDc := hD.sub (ws' := []) [] (by decide) rfl
              have hFc := va_free (wc := []) hD hS hA [] rfl
              refine va_calli (va_runS (As := [.int (((s_ (4 : Int32).toNatClampNeg) + (v4 * (s_ (0 : Int32).toNatClampNeg))) + v8), .int a0, .int ((a0 + a1) - 1)]) (rest := [.int v7]) ⟨hx, hb, hml, hown, hts⟩ (m_X8_in l D cI cC cZ cR  _  (((s_ (4 : Int32).toNatClampNeg) + (v4 * (s_ (0 : Int32).toNatClampNeg))) + v8) a0 ((a0 + a1) - 1)   r9 hcr9) (va_cwS 3 hts gX8_burnsIn_X8_in rfl rfl rfl (by decide +kernel) ⟨Nat.le_of_ble_eq_true rfl, Nat.le_of_ble_eq_true rfl⟩) (cPc_ps hPc hK hDc) rfl rfl hl.1 rfl (lv_room (Nat.le_of_ble_eq_true rfl)) dX8_burnsIn_52 ⟨Nat.le_of_ble_eq_true rfl, Nat.le_of_ble_eq_true rfl⟩) hS (fun q _ h => hFc q h) hFc (fun xq u t H1 locs ht hvm hw hB hz1 hk1 hS => ?_)
              rw [hw]
              obtain ⟨hP1, hD1⟩ := hB
              rw [ht] at hP1
              obtain ⟨hP, hD⟩ := va_join (wr := [(mo, .inr (8, [.ref mo1, .ref mo2, .int kn, .ref mo3, .ref mo4, .ref mo5, .int le_])), (mo1, .inl (cI, 465, .inl s_)), (mo2, .inl (cI, 2790, .inl past)), (mo3, .inl (cI, 930, .inl slo)), (mo4, .inl (cZ, 2, .inl isv)), (mo5, .inl (cI, 80, .inl pad_))]) (w1 := []) hP hD [] [0, 1, 2, 3, 4, 5] rfl rfl (by decide) (by decide) hk1 hFc hP1 hD1
              generalize H1 = H at hP hS ⊢
              have hP : va_P D vwCl (ws_model cI cC cZ cR mo mo1 mo2 mo3 mo4 mo5 kn le_ s_ past slo isv pad_) H := hP
              have hD : va_D A (ws_model cI cC cZ cR mo mo1 mo2 mo3 mo4 mo5 kn le_ s_ past slo isv pad_) := hD
              obtain ⟨j66, hj66, h⟩ := jn_sp h
              have J66 : ∀ (j10 : Int32) (H : Heap) (locs : List Loc) (ls : Array Slot), j66 j10 = some r → va_P D vwCl (ws_model cI cC cZ cR mo mo1 mo2 mo3 mo4 mo5 kn le_ s_ past slo isv pad_) H → va_D A (ws_model cI cC cZ cR mo mo1 mo2 mo3 mo4 mo5 kn le_ s_ past slo isv pad_) → va_S A s.heap H locs → lv_has ls 6 [(0, .ref mo), (1, .int a0), (2, .int a1), (3, .int v7), (4, .int v4), (5, .int v8)] → W p l e R_X8_burnsIn s m ([.ref mo, .int a0, .int a1] : List Value).toArray below meth c H locs 0 0 Q (F0 m 66 ls [.int j10, .int v7]) := by
                intro j10 H locs ls h hP hD hS hl
                rw [hj66] at h
                refine lv_ior hx hb dX8_burnsIn_66 ?_
                refine lv_topi (fun x11 ex11 => ?_)
                replace h := bd_s2 h ex11
                refine lv_istore_n (lv' := [(3, .int x11), (0, .ref mo), (1, .int a0), (2, .int a1), (4, .int v4), (5, .int v8)]) hx hb dX8_burnsIn_67 rfl hl (by decide) rfl (fun ls hl => ?_)
                obtain ⟨x12, ex12, h⟩ := bd_sp h
                refine lv_iinc (v := x12) (lv' := [(5, .int x12), (3, .int x11), (0, .ref mo), (1, .int a0), (2, .int a1), (4, .int v4)]) hx hb dX8_burnsIn_68 hl (k := 5) rfl (by rw [ex12]; rfl) (by decide) rfl (fun ls hl => ?_)
                refine lv_goto (tgt := 15) hx hb dX8_burnsIn_71 (by decide) ?_
                exact ih _ _ _ _ _ h hP hD hS (lv_sub hl [2, 3, 4, 1, 5, 0] rfl)
              refine lv_if_eq (tgt := 65) hx hb dX8_burnsIn_55 (by decide) (fun c13 => ?_) (fun c13 => ?_)
              · replace h := br_p c13 h
                refine lv_iconst (v := 0) hx hb dX8_burnsIn_65 (by decide) ?_
                exact J66 _ _ _ _ h hP hD hS (lv_sub hl [0, 1, 2, 3, 4, 5] rfl)
              · replace h := br_n c13 h
                refine lv_iconst (v := 1) hx hb dX8_burnsIn_58 (by decide) ?_
                refine lv_iload hx hb dX8_burnsIn_59 (lv_at hl 4 rfl) ?_
                refine lv_ishl hx hb dX8_burnsIn_61 ?_
                refine lv_goto (tgt := 66) hx hb dX8_burnsIn_62 (by decide) ?_
                exact J66 _ _ _ _ h hP hD hS (lv_sub hl [0, 1, 2, 3, 4, 5] rfl)
        refine L15 _ (fun w15 w16 H locs ls h hP hD hS hl => ?_) 4000 v3 0 _ _ _ h hP hD hS (lv_sub hl [1, 2, 3, 4, 5, 0] rfl)
        obtain ⟨x17, ex17, h⟩ := bd_sp h
        refine lv_iinc (v := x17) (lv' := [(4, .int x17), (0, .ref mo), (1, .int a0), (2, .int a1), (3, .int w15), (5, .int w16)]) hx hb dX8_burnsIn_74 hl (k := 4) rfl (by rw [ex17]; rfl) (by decide) rfl (fun ls hl => ?_)
        refine lv_goto (tgt := 5) hx hb dX8_burnsIn_77 (by decide) ?_
        exact ih _ _ _ _ _ h hP hD hS (lv_sub hl [1, 2, 3, 4, 0] rfl)
  refine L5 _ (fun w19 w20 H locs ls h hP hD hS hl => ?_) 4000 0 0 _ _ _ h hP hD hS (lv_sub hl [2, 3, 4, 1, 0] rfl)
  refine lv_iload_n hx hb dX8_burnsIn_80 rfl (lv_at hl 3 rfl) ?_
  have e9 := Option.some.inj h
  subst e9
  rw [hQ]
  exact W.iret (v := w19) hx hb hr (fun t ht hW => ⟨⟨w19, (), rfl, rfl, by rw [ht]; exact hP, hD⟩, hS.F ht⟩) hS.2.2 dX8_burnsIn_81
