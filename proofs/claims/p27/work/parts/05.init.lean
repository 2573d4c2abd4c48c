abbrev ws_thingsN (cI cC cZ cR : ClassId) (th : Nat)  : va_W := [(th, .inr (6, [.int 0, .null, .null, .null, .null, .null, .null, .null, .null, .null]))]
abbrev ws_pictureN (cI cC cZ cR : ClassId) (pi : Nat)  : va_W := [(pi, .inr (3, [.null]))]
abbrev ws_cameraN (cI cC cZ cR : ClassId) (cm : Nat)  : va_W := [(cm, .inr (0, [.null, .null, .null]))]
abbrev ws_histN (cI cC cZ cR : ClassId) (hh : Nat)  : va_W := [(hh, .inr (1, [.null, .int 0, .int 0]))]
abbrev ws_padN (cI cC cZ cR : ClassId) (pd : Nat)  : va_W := [(pd, .inr (2, [.null, .int 0]))]
abbrev ws_readerN_addr (cI cC cZ cR : ClassId) (rd oad : Nat)  : va_W := [(rd, .inr (4, [.null, .int 0, .int 0, .null]))]
abbrev ws_sceneN (cI cC cZ cR : ClassId) (sc : Nat)  : va_W := [(sc, .inr (5, [.null, .null, .null, .int 0, .int 0, .int 0, .int 0]))]
-- LeaningLines$Things.init
abbrev OUT_X6_init : Type := (Nat → Int32) × (Nat → Int32) × (Nat → Int32) × (Nat → Int32) × (Nat → Int32) × (Nat → Int32) × (Nat → Int32) × (Nat → Int32) × (Nat → Int32)
def f_X6_init  : Option OUT_X6_init :=
  some (fun _ => 0, fun _ => 0, fun _ => 0, fun _ => 0, fun _ => 0, fun _ => 0, fun _ => 0, fun _ => 0, fun _ => 0)
theorem kX6_init_0 : Cond.methodLink RX6 3 objectInit ∈ wsX6_init := by decide +kernel
theorem kX6_init_1 : Cond.instanceMethod objectInit ∈ wsX6_init := by decide +kernel
theorem kX6_init_2 : Cond.code objectInit ⟨#[0xb1]⟩ 1 none ∈ wsX6_init := by decide +kernel
theorem kX6_init_3 : Cond.arrayClass .int ∈ wsX6_init := by decide +kernel
theorem uX6_init_X6 : ∀ w ∈ wsX60, w ∈ wsX6_init := by decide +kernel
theorem kX6_init_5 : Cond.fieldLink RX6 9 "LeaningLines$Things" "line" "[I" ∈ wsX6_init := by decide +kernel
theorem kX6_init_6 : Cond.fieldLink RX6 15 "LeaningLines$Things" "high" "[I" ∈ wsX6_init := by decide +kernel
theorem kX6_init_7 : Cond.fieldLink RX6 18 "LeaningLines$Things" "wide" "[I" ∈ wsX6_init := by decide +kernel
theorem kX6_init_8 : Cond.fieldLink RX6 21 "LeaningLines$Things" "brightness" "[I" ∈ wsX6_init := by decide +kernel
theorem kX6_init_9 : Cond.fieldLink RX6 24 "LeaningLines$Things" "speed" "[I" ∈ wsX6_init := by decide +kernel
theorem kX6_init_10 : Cond.fieldLink RX6 27 "LeaningLines$Things" "since" "[I" ∈ wsX6_init := by decide +kernel
theorem kX6_init_11 : Cond.fieldLink RX6 30 "LeaningLines$Things" "left" "[I" ∈ wsX6_init := by decide +kernel
theorem kX6_init_12 : Cond.fieldLink RX6 33 "LeaningLines$Things" "under" "[I" ∈ wsX6_init := by decide +kernel
theorem kX6_init_13 : Cond.fieldLink RX6 36 "LeaningLines$Things" "underLeft" "[I" ∈ wsX6_init := by decide +kernel
abbrev R_X6_init : Room := { frames := 1, cells := 9, slots := 72, locals := 20 }
set_option maxHeartbeats 4000000 in
set_option maxRecDepth 100000 in
theorem m_X6_init (l : Launch) (D : va_G) (cI cC cZ cR : ClassId) (th : Nat) (sz : Nat)      (r : OUT_X6_init) (hf : f_X6_init  = some r) : Met l yX6_init wsX6_init R_X6_init (cPc D cI cC cZ cR [.ref th] sz (ws_thingsN cI cC cZ cR th )) (cQn D (va_A (ws_thingsN cI cC cZ cR th ) sz) (fun u => [(th, .inr (6, [.int 0, .ref (u 0), .ref (u 1), .ref (u 2), .ref (u 3), .ref (u 4), .ref (u 5), .ref (u 6), .ref (u 7), .ref (u 8)])), ((u 0), .inl (cI, 8, .inl r.1)), ((u 1), .inl (cI, 8, .inl r.2.1)), ((u 2), .inl (cI, 8, .inl r.2.2.1)), ((u 3), .inl (cI, 8, .inl r.2.2.2.1)), ((u 4), .inl (cI, 8, .inl r.2.2.2.2.1)), ((u 5), .inl (cI, 8, .inl r.2.2.2.2.2.1)), ((u 6), .inl (cI, 8, .inl r.2.2.2.2.2.2.1)), ((u 7), .inl (cI, 8, .inl r.2.2.2.2.2.2.2.1)), ((u 8), .inl (cI, 8, .inl r.2.2.2.2.2.2.2.2))])) 9 72 (va_A (ws_thingsN cI cC cZ cR th ) sz) := by
  refine Met.ofW (cc := cX6_init) (maxL := 1) (ret := none) (by decide) rfl ?_
  intro p e s m args below meth c s₁ B hml hv
  obtain ⟨rfl, hsz, hP, hK, hD0⟩ := hv
  have hx := B.exec
  have hb := B.bytes
  have hr := B.returns
  have hts := atoms_spec (ws := wsX6_init) B.pre
  have hown : s.vm.findClass RX6 = some m.cls := findClass_of_methodNamed B.named
  have hlocks := B.notSynchronized
  have hin : meth.name = "<init>" := (name_of_methodNamed B.named B.method).1
  subst hsz
  have hD := hD0.self (sz := s.heap.size)
  generalize hAe : va_A (ws_thingsN cI cC cZ cR th ) s.heap.size = A at hD ⊢
  skip
  have hA : ∀ q : Nat, s.heap.size ≤ q → A q := fun q h => by rw [← hAe]; exact Or.inr h
  have hS : va_S A s.heap s.heap [] := va_S.rf
  have hl := lv_entry ([.ref th]) (n := 1) (Nat.le_of_ble_eq_true rfl)
  rw [lg_entry_eq]
  generalize (lg_sl ([.ref th]) ++ List.replicate (1 - (lg_sl ([.ref th])).length) Slot.unset).toArray = ls at hl ⊢
  have hl : lv_has ls 1 [(0, .ref th)] := hl
  refine W_absQ (fun Q hQ => ?_)
  refine W.eq (g2 := F0 m 0 ls []) rfl ?_
  have h := hf
  unfold f_X6_init at h
  refine lv_aload_n hx hb dX6_init_0 rfl (lv_at hl 0 rfl) ?_
  refine W.objInit hx hb hown (hts _ kX6_init_0) (hts _ kX6_init_1) (hts _ kX6_init_2) rfl (by rw [hml]; exact hl.1) rfl dX6_init_1 (Nat.le_of_ble_eq_true rfl) (Nat.le_of_ble_eq_true rfl) ?_
  refine W.eq (g2 := F0 m 4 ls []) rfl ?_
  refine lv_aload_n hx hb dX6_init_4 rfl (lv_at hl 0 rfl) ?_
  refine lv_bipush (v := 8) hx hb dX6_init_5 (by decide) ?_
  refine va_newa (D := D) (atype := .int) (ty := .int) (N' := 8) (a0 := (8, .inl (fun _ => 0))) hx hb (hts _ kX6_init_3) rfl hK.1 hP hD hS hA (fun _ => rfl) (by decide) (by decide) (by decide) (Nat.le_of_ble_eq_true rfl) (Nat.le_of_ble_eq_true rfl) dX6_init_7 (fun q1 cA9 H hK9 hP hD hS => ?_)
  have e8 := newa_i hK9
  rw [e8] at hP hD
  have hP : va_P D vwCl [(th, .inr (6, [.int 0, .null, .null, .null, .null, .null, .null, .null, .null, .null])), (q1, .inl (cI, 8, .inl (fun _ => 0)))] H := hP
  have hD : va_D A [(th, .inr (6, [.int 0, .null, .null, .null, .null, .null, .null, .null, .null, .null])), (q1, .inl (cI, 8, .inl (fun _ => 0)))] := hD
  refine va_putF (D := D) (ci := 6) (v := .ref q1) (ty := (.array .int)) (C := RX6) (T := TX6) (N := 10) hx hb hts uX6_init_X6 tyX6 tyX6_ok nmX6 hown hK.1 hP hD hS 0 rfl rfl 1 (by decide) (hts _ kX6_init_5) (fun _ h9 => h9) rfl hin rfl (by decide +kernel) rfl rfl (Nat.le_of_ble_eq_true rfl) dX6_init_9 (fun H locs hP hD hS => ?_)
  have hP : va_P D vwCl [(th, .inr (6, [.int 0, .ref q1, .null, .null, .null, .null, .null, .null, .null, .null])), (q1, .inl (cI, 8, .inl (fun _ => 0)))] H := hP
  have hD : va_D A [(th, .inr (6, [.int 0, .ref q1, .null, .null, .null, .null, .null, .null, .null, .null])), (q1, .inl (cI, 8, .inl (fun _ => 0)))] := hD
  refine lv_aload_n hx hb dX6_init_12 rfl (lv_at hl 0 rfl) ?_
  refine lv_bipush (v := 8) hx hb dX6_init_13 (by decide) ?_
  refine va_newa (D := D) (atype := .int) (ty := .int) (N' := 8) (a0 := (8, .inl (fun _ => 0))) hx hb (hts _ kX6_init_3) rfl hK.1 hP hD hS hA (fun _ => rfl) (by decide) (by decide) (by decide) (Nat.le_of_ble_eq_true rfl) (Nat.le_of_ble_eq_true rfl) dX6_init_15 (fun q2 cA9 H hK9 hP hD hS => ?_)
  have e8 := newa_i hK9
  rw [e8] at hP hD
  have hP : va_P D vwCl [(th, .inr (6, [.int 0, .ref q1, .null, .null, .null, .null, .null, .null, .null, .null])), (q1, .inl (cI, 8, .inl (fun _ => 0))), (q2, .inl (cI, 8, .inl (fun _ => 0)))] H := hP
  have hD : va_D A [(th, .inr (6, [.int 0, .ref q1, .null, .null, .null, .null, .null, .null, .null, .null])), (q1, .inl (cI, 8, .inl (fun _ => 0))), (q2, .inl (cI, 8, .inl (fun _ => 0)))] := hD
  refine va_putF (D := D) (ci := 6) (v := .ref q2) (ty := (.array .int)) (C := RX6) (T := TX6) (N := 10) hx hb hts uX6_init_X6 tyX6 tyX6_ok nmX6 hown hK.1 hP hD hS 0 rfl rfl 2 (by decide) (hts _ kX6_init_6) (fun _ h9 => h9) rfl hin rfl (by decide +kernel) rfl rfl (Nat.le_of_ble_eq_true rfl) dX6_init_17 (fun H locs hP hD hS => ?_)
  have hP : va_P D vwCl [(th, .inr (6, [.int 0, .ref q1, .ref q2, .null, .null, .null, .null, .null, .null, .null])), (q1, .inl (cI, 8, .inl (fun _ => 0))), (q2, .inl (cI, 8, .inl (fun _ => 0)))] H := hP
  have hD : va_D A [(th, .inr (6, [.int 0, .ref q1, .ref q2, .null, .null, .null, .null, .null, .null, .null])), (q1, .inl (cI, 8, .inl (fun _ => 0))), (q2, .inl (cI, 8, .inl (fun _ => 0)))] := hD
  refine lv_aload_n hx hb dX6_init_20 rfl (lv_at hl 0 rfl) ?_
  refine lv_bipush (v := 8) hx hb dX6_init_21 (by decide) ?_
  refine va_newa (D := D) (atype := .int) (ty := .int) (N' := 8) (a0 := (8, .inl (fun _ => 0))) hx hb (hts _ kX6_init_3) rfl hK.1 hP hD hS hA (fun _ => rfl) (by decide) (by decide) (by decide) (Nat.le_of_ble_eq_true rfl) (Nat.le_of_ble_eq_true rfl) dX6_init_23 (fun q3 cA9 H hK9 hP hD hS => ?_)
  have e8 := newa_i hK9
  rw [e8] at hP hD
  have hP : va_P D vwCl [(th, .inr (6, [.int 0, .ref q1, .ref q2, .null, .null, .null, .null, .null, .null, .null])), (q1, .inl (cI, 8, .inl (fun _ => 0))), (q2, .inl (cI, 8, .inl (fun _ => 0))), (q3, .inl (cI, 8, .inl (fun _ => 0)))] H := hP
  have hD : va_D A [(th, .inr (6, [.int 0, .ref q1, .ref q2, .null, .null, .null, .null, .null, .null, .null])), (q1, .inl (cI, 8, .inl (fun _ => 0))), (q2, .inl (cI, 8, .inl (fun _ => 0))), (q3, .inl (cI, 8, .inl (fun _ => 0)))] := hD
  refine va_putF (D := D) (ci := 6) (v := .ref q3) (ty := (.array .int)) (C := RX6) (T := TX6) (N := 10) hx hb hts uX6_init_X6 tyX6 tyX6_ok nmX6 hown hK.1 hP hD hS 0 rfl rfl 3 (by decide) (hts _ kX6_init_7) (fun _ h9 => h9) rfl hin rfl (by decide +kernel) rfl rfl (Nat.le_of_ble_eq_true rfl) dX6_init_25 (fun H locs hP hD hS => ?_)
  have hP : va_P D vwCl [(th, .inr (6, [.int 0, .ref q1, .ref q2, .ref q3, .null, .null, .null, .null, .null, .null])), (q1, .inl (cI, 8, .inl (fun _ => 0))), (q2, .inl (cI, 8, .inl (fun _ => 0))), (q3, .inl (cI, 8, .inl (fun _ => 0)))] H := hP
  have hD : va_D A [(th, .inr (6, [.int 0, .ref q1, .ref q2, .ref q3, .null, .null, .null, .null, .null, .null])), (q1, .inl (cI, 8, .inl (fun _ => 0))), (q2, .inl (cI, 8, .inl (fun _ => 0))), (q3, .inl (cI, 8, .inl (fun _ => 0)))] := hD
  refine lv_aload_n hx hb dX6_init_28 rfl (lv_at hl 0 rfl) ?_
  refine lv_bipush (v := 8) hx hb dX6_init_29 (by decide) ?_
  refine va_newa (D := D) (atype := .int) (ty := .int) (N' := 8) (a0 := (8, .inl (fun _ => 0))) hx hb (hts _ kX6_init_3) rfl hK.1 hP hD hS hA (fun _ => rfl) (by decide) (by decide) (by decide) (Nat.le_of_ble_eq_true rfl) (Nat.le_of_ble_eq_true rfl) dX6_init_31 (fun q4 cA9 H hK9 hP hD hS => ?_)
  have e8 := newa_i hK9
  rw [e8] at hP hD
  have hP : va_P D vwCl [(th, .inr (6, [.int 0, .ref q1, .ref q2, .ref q3, .null, .null, .null, .null, .null, .null])), (q1, .inl (cI, 8, .inl (fun _ => 0))), (q2, .inl (cI, 8, .inl (fun _ => 0))), (q3, .inl (cI, 8, .inl (fun _ => 0))), (q4, .inl (cI, 8, .inl (fun _ => 0)))] H := hP
  have hD : va_D A [(th, .inr (6, [.int 0, .ref q1, .ref q2, .ref q3, .null, .null, .null, .null, .null, .null])), (q1, .inl (cI, 8, .inl (fun _ => 0))), (q2, .inl (cI, 8, .inl (fun _ => 0))), (q3, .inl (cI, 8, .inl (fun _ => 0))), (q4, .inl (cI, 8, .inl (fun _ => 0)))] := hD
  refine va_putF (D := D) (ci := 6) (v := .ref q4) (ty := (.array .int)) (C := RX6) (T := TX6) (N := 10) hx hb hts uX6_init_X6 tyX6 tyX6_ok nmX6 hown hK.1 hP hD hS 0 rfl rfl 4 (by decide) (hts _ kX6_init_8) (fun _ h9 => h9) rfl hin rfl (by decide +kernel) rfl rfl (Nat.le_of_ble_eq_true rfl) dX6_init_33 (fun H locs hP hD hS => ?_)
  have hP : va_P D vwCl [(th, .inr (6, [.int 0, .ref q1, .ref q2, .ref q3, .ref q4, .null, .null, .null, .null, .null])), (q1, .inl (cI, 8, .inl (fun _ => 0))), (q2, .inl (cI, 8, .inl (fun _ => 0))), (q3, .inl (cI, 8, .inl (fun _ => 0))), (q4, .inl (cI, 8, .inl (fun _ => 0)))] H := hP
  have hD : va_D A [(th, .inr (6, [.int 0, .ref q1, .ref q2, .ref q3, .ref q4, .null, .null, .null, .null, .null])), (q1, .inl (cI, 8, .inl (fun _ => 0))), (q2, .inl (cI, 8, .inl (fun _ => 0))), (q3, .inl (cI, 8, .inl (fun _ => 0))), (q4, .inl (cI, 8, .inl (fun _ => 0)))] := hD
  refine lv_aload_n hx hb dX6_init_36 rfl (lv_at hl 0 rfl) ?_
  refine lv_bipush (v := 8) hx hb dX6_init_37 (by decide) ?_
  refine va_newa (D := D) (atype := .int) (ty := .int) (N' := 8) (a0 := (8, .inl (fun _ => 0))) hx hb (hts _ kX6_init_3) rfl hK.1 hP hD hS hA (fun _ => rfl) (by decide) (by decide) (by decide) (Nat.le_of_ble_eq_true rfl) (Nat.le_of_ble_eq_true rfl) dX6_init_39 (fun q5 cA9 H hK9 hP hD hS => ?_)
  have e8 := newa_i hK9
  rw [e8] at hP hD
  have hP : va_P D vwCl [(th, .inr (6, [.int 0, .ref q1, .ref q2, .ref q3, .ref q4, .null, .null, .null, .null, .null])), (q1, .inl (cI, 8, .inl (fun _ => 0))), (q2, .inl (cI, 8, .inl (fun _ => 0))), (q3, .inl (cI, 8, .inl (fun _ => 0))), (q4, .inl (cI, 8, .inl (fun _ => 0))), (q5, .inl (cI, 8, .inl (fun _ => 0)))] H := hP
  have hD : va_D A [(th, .inr (6, [.int 0, .ref q1, .ref q2, .ref q3, .ref q4, .null, .null, .null, .null, .null])), (q1, .inl (cI, 8, .inl (fun _ => 0))), (q2, .inl (cI, 8, .inl (fun _ => 0))), (q3, .inl (cI, 8, .inl (fun _ => 0))), (q4, .inl (cI, 8, .inl (fun _ => 0))), (q5, .inl (cI, 8, .inl (fun _ => 0)))] := hD
  refine va_putF (D := D) (ci := 6) (v := .ref q5) (ty := (.array .int)) (C := RX6) (T := TX6) (N := 10) hx hb hts uX6_init_X6 tyX6 tyX6_ok nmX6 hown hK.1 hP hD hS 0 rfl rfl 5 (by decide) (hts _ kX6_init_9) (fun _ h9 => h9) rfl hin rfl (by decide +kernel) rfl rfl (Nat.le_of_ble_eq_true rfl) dX6_init_41 (fun H locs hP hD hS => ?_)
  have hP : va_P D vwCl [(th, .inr (6, [.int 0, .ref q1, .ref q2, .ref q3, .ref q4, .ref q5, .null, .null, .null, .null])), (q1, .inl (cI, 8, .inl (fun _ => 0))), (q2, .inl (cI, 8, .inl (fun _ => 0))), (q3, .inl (cI, 8, .inl (fun _ => 0))), (q4, .inl (cI, 8, .inl (fun _ => 0))), (q5, .inl (cI, 8, .inl (fun _ => 0)))] H := hP
  have hD : va_D A [(th, .inr (6, [.int 0, .ref q1, .ref q2, .ref q3, .ref q4, .ref q5, .null, .null, .null, .null])), (q1, .inl (cI, 8, .inl (fun _ => 0))), (q2, .inl (cI, 8, .inl (fun _ => 0))), (q3, .inl (cI, 8, .inl (fun _ => 0))), (q4, .inl (cI, 8, .inl (fun _ => 0))), (q5, .inl (cI, 8, .inl (fun _ => 0)))] := hD
  refine lv_aload_n hx hb dX6_init_44 rfl (lv_at hl 0 rfl) ?_
  refine lv_bipush (v := 8) hx hb dX6_init_45 (by decide) ?_
  refine va_newa (D := D) (atype := .int) (ty := .int) (N' := 8) (a0 := (8, .inl (fun _ => 0))) hx hb (hts _ kX6_init_3) rfl hK.1 hP hD hS hA (fun _ => rfl) (by decide) (by decide) (by decide) (Nat.le_of_ble_eq_true rfl) (Nat.le_of_ble_eq_true rfl) dX6_init_47 (fun q6 cA9 H hK9 hP hD hS => ?_)
  have e8 := newa_i hK9
  rw [e8] at hP hD
  have hP : va_P D vwCl [(th, .inr (6, [.int 0, .ref q1, .ref q2, .ref q3, .ref q4, .ref q5, .null, .null, .null, .null])), (q1, .inl (cI, 8, .inl (fun _ => 0))), (q2, .inl (cI, 8, .inl (fun _ => 0))), (q3, .inl (cI, 8, .inl (fun _ => 0))), (q4, .inl (cI, 8, .inl (fun _ => 0))), (q5, .inl (cI, 8, .inl (fun _ => 0))), (q6, .inl (cI, 8, .inl (fun _ => 0)))] H := hP
  have hD : va_D A [(th, .inr (6, [.int 0, .ref q1, .ref q2, .ref q3, .ref q4, .ref q5, .null, .null, .null, .null])), (q1, .inl (cI, 8, .inl (fun _ => 0))), (q2, .inl (cI, 8, .inl (fun _ => 0))), (q3, .inl (cI, 8, .inl (fun _ => 0))), (q4, .inl (cI, 8, .inl (fun _ => 0))), (q5, .inl (cI, 8, .inl (fun _ => 0))), (q6, .inl (cI, 8, .inl (fun _ => 0)))] := hD
  refine va_putF (D := D) (ci := 6) (v := .ref q6) (ty := (.array .int)) (C := RX6) (T := TX6) (N := 10) hx hb hts uX6_init_X6 tyX6 tyX6_ok nmX6 hown hK.1 hP hD hS 0 rfl rfl 6 (by decide) (hts _ kX6_init_10) (fun _ h9 => h9) rfl hin rfl (by decide +kernel) rfl rfl (Nat.le_of_ble_eq_true rfl) dX6_init_49 (fun H locs hP hD hS => ?_)
  have hP : va_P D vwCl [(th, .inr (6, [.int 0, .ref q1, .ref q2, .ref q3, .ref q4, .ref q5, .ref q6, .null, .null, .null])), (q1, .inl (cI, 8, .inl (fun _ => 0))), (q2, .inl (cI, 8, .inl (fun _ => 0))), (q3, .inl (cI, 8, .inl (fun _ => 0))), (q4, .inl (cI, 8, .inl (fun _ => 0))), (q5, .inl (cI, 8, .inl (fun _ => 0))), (q6, .inl (cI, 8, .inl (fun _ => 0)))] H := hP
  have hD : va_D A [(th, .inr (6, [.int 0, .ref q1, .ref q2, .ref q3, .ref q4, .ref q5, .ref q6, .null, .null, .null])), (q1, .inl (cI, 8, .inl (fun _ => 0))), (q2, .inl (cI, 8, .inl (fun _ => 0))), (q3, .inl (cI, 8, .inl (fun _ => 0))), (q4, .inl (cI, 8, .inl (fun _ => 0))), (q5, .inl (cI, 8, .inl (fun _ => 0))), (q6, .inl (cI, 8, .inl (fun _ => 0)))] := hD
  refine lv_aload_n hx hb dX6_init_52 rfl (lv_at hl 0 rfl) ?_
  refine lv_bipush (v := 8) hx hb dX6_init_53 (by decide) ?_
  refine va_newa (D := D) (atype := .int) (ty := .int) (N' := 8) (a0 := (8, .inl (fun _ => 0))) hx hb (hts _ kX6_init_3) rfl hK.1 hP hD hS hA (fun _ => rfl) (by decide) (by decide) (by decide) (Nat.le_of_ble_eq_true rfl) (Nat.le_of_ble_eq_true rfl) dX6_init_55 (fun q7 cA9 H hK9 hP hD hS => ?_)
  have e8 := newa_i hK9
  rw [e8] at hP hD
  have hP : va_P D vwCl [(th, .inr (6, [.int 0, .ref q1, .ref q2, .ref q3, .ref q4, .ref q5, .ref q6, .null, .null, .null])), (q1, .inl (cI, 8, .inl (fun _ => 0))), (q2, .inl (cI, 8, .inl (fun _ => 0))), (q3, .inl (cI, 8, .inl (fun _ => 0))), (q4, .inl (cI, 8, .inl (fun _ => 0))), (q5, .inl (cI, 8, .inl (fun _ => 0))), (q6, .inl (cI, 8, .inl (fun _ => 0))), (q7, .inl (cI, 8, .inl (fun _ => 0)))] H := hP
  have hD : va_D A [(th, .inr (6, [.int 0, .ref q1, .ref q2, .ref q3, .ref q4, .ref q5, .ref q6, .null, .null, .null])), (q1, .inl (cI, 8, .inl (fun _ => 0))), (q2, .inl (cI, 8, .inl (fun _ => 0))), (q3, .inl (cI, 8, .inl (fun _ => 0))), (q4, .inl (cI, 8, .inl (fun _ => 0))), (q5, .inl (cI, 8, .inl (fun _ => 0))), (q6, .inl (cI, 8, .inl (fun _ => 0))), (q7, .inl (cI, 8, .inl (fun _ => 0)))] := hD
  refine va_putF (D := D) (ci := 6) (v := .ref q7) (ty := (.array .int)) (C := RX6) (T := TX6) (N := 10) hx hb hts uX6_init_X6 tyX6 tyX6_ok nmX6 hown hK.1 hP hD hS 0 rfl rfl 7 (by decide) (hts _ kX6_init_11) (fun _ h9 => h9) rfl hin rfl (by decide +kernel) rfl rfl (Nat.le_of_ble_eq_true rfl) dX6_init_57 (fun H locs hP hD hS => ?_)
  have hP : va_P D vwCl [(th, .inr (6, [.int 0, .ref q1, .ref q2, .ref q3, .ref q4, .ref q5, .ref q6, .ref q7, .null, .null])), (q1, .inl (cI, 8, .inl (fun _ => 0))), (q2, .inl (cI, 8, .inl (fun _ => 0))), (q3, .inl (cI, 8, .inl (fun _ => 0))), (q4, .inl (cI, 8, .inl (fun _ => 0))), (q5, .inl (cI, 8, .inl (fun _ => 0))), (q6, .inl (cI, 8, .inl (fun _ => 0))), (q7, .inl (cI, 8, .inl (fun _ => 0)))] H := hP
  have hD : va_D A [(th, .inr (6, [.int 0, .ref q1, .ref q2, .ref q3, .ref q4, .ref q5, .ref q6, .ref q7, .null, .null])), (q1, .inl (cI, 8, .inl (fun _ => 0))), (q2, .inl (cI, 8, .inl (fun _ => 0))), (q3, .inl (cI, 8, .inl (fun _ => 0))), (q4, .inl (cI, 8, .inl (fun _ => 0))), (q5, .inl (cI, 8, .inl (fun _ => 0))), (q6, .inl (cI, 8, .inl (fun _ => 0))), (q7, .inl (cI, 8, .inl (fun _ => 0)))] := hD
  refine lv_aload_n hx hb dX6_init_60 rfl (lv_at hl 0 rfl) ?_
  refine lv_bipush (v := 8) hx hb dX6_init_61 (by decide) ?_
  refine va_newa (D := D) (atype := .int) (ty := .int) (N' := 8) (a0 := (8, .inl (fun _ => 0))) hx hb (hts _ kX6_init_3) rfl hK.1 hP hD hS hA (fun _ => rfl) (by decide) (by decide) (by decide) (Nat.le_of_ble_eq_true rfl) (Nat.le_of_ble_eq_true rfl) dX6_init_63 (fun q8 cA9 H hK9 hP hD hS => ?_)
  have e8 := newa_i hK9
  rw [e8] at hP hD
  have hP : va_P D vwCl [(th, .inr (6, [.int 0, .ref q1, .ref q2, .ref q3, .ref q4, .ref q5, .ref q6, .ref q7, .null, .null])), (q1, .inl (cI, 8, .inl (fun _ => 0))), (q2, .inl (cI, 8, .inl (fun _ => 0))), (q3, .inl (cI, 8, .inl (fun _ => 0))), (q4, .inl (cI, 8, .inl (fun _ => 0))), (q5, .inl (cI, 8, .inl (fun _ => 0))), (q6, .inl (cI, 8, .inl (fun _ => 0))), (q7, .inl (cI, 8, .inl (fun _ => 0))), (q8, .inl (cI, 8, .inl (fun _ => 0)))] H := hP
  have hD : va_D A [(th, .inr (6, [.int 0, .ref q1, .ref q2, .ref q3, .ref q4, .ref q5, .ref q6, .ref q7, .null, .null])), (q1, .inl (cI, 8, .inl (fun _ => 0))), (q2, .inl (cI, 8, .inl (fun _ => 0))), (q3, .inl (cI, 8, .inl (fun _ => 0))), (q4, .inl (cI, 8, .inl (fun _ => 0))), (q5, .inl (cI, 8, .inl (fun _ => 0))), (q6, .inl (cI, 8, .inl (fun _ => 0))), (q7, .inl (cI, 8, .inl (fun _ => 0))), (q8, .inl (cI, 8, .inl (fun _ => 0)))] := hD
  refine va_putF (D := D) (ci := 6) (v := .ref q8) (ty := (.array .int)) (C := RX6) (T := TX6) (N := 10) hx hb hts uX6_init_X6 tyX6 tyX6_ok nmX6 hown hK.1 hP hD hS 0 rfl rfl 8 (by decide) (hts _ kX6_init_12) (fun _ h9 => h9) rfl hin rfl (by decide +kernel) rfl rfl (Nat.le_of_ble_eq_true rfl) dX6_init_65 (fun H locs hP hD hS => ?_)
  have hP : va_P D vwCl [(th, .inr (6, [.int 0, .ref q1, .ref q2, .ref q3, .ref q4, .ref q5, .ref q6, .ref q7, .ref q8, .null])), (q1, .inl (cI, 8, .inl (fun _ => 0))), (q2, .inl (cI, 8, .inl (fun _ => 0))), (q3, .inl (cI, 8, .inl (fun _ => 0))), (q4, .inl (cI, 8, .inl (fun _ => 0))), (q5, .inl (cI, 8, .inl (fun _ => 0))), (q6, .inl (cI, 8, .inl (fun _ => 0))), (q7, .inl (cI, 8, .inl (fun _ => 0))), (q8, .inl (cI, 8, .inl (fun _ => 0)))] H := hP
  have hD : va_D A [(th, .inr (6, [.int 0, .ref q1, .ref q2, .ref q3, .ref q4, .ref q5, .ref q6, .ref q7, .ref q8, .null])), (q1, .inl (cI, 8, .inl (fun _ => 0))), (q2, .inl (cI, 8, .inl (fun _ => 0))), (q3, .inl (cI, 8, .inl (fun _ => 0))), (q4, .inl (cI, 8, .inl (fun _ => 0))), (q5, .inl (cI, 8, .inl (fun _ => 0))), (q6, .inl (cI, 8, .inl (fun _ => 0))), (q7, .inl (cI, 8, .inl (fun _ => 0))), (q8, .inl (cI, 8, .inl (fun _ => 0)))] := hD
  refine lv_aload_n hx hb dX6_init_68 rfl (lv_at hl 0 rfl) ?_
  refine lv_bipush (v := 8) hx hb dX6_init_69 (by decide) ?_
  refine va_newa (D := D) (atype := .int) (ty := .int) (N' := 8) (a0 := (8, .inl (fun _ => 0))) hx hb (hts _ kX6_init_3) rfl hK.1 hP hD hS hA (fun _ => rfl) (by decide) (by decide) (by decide) (Nat.le_of_ble_eq_true rfl) (Nat.le_of_ble_eq_true rfl) dX6_init_71 (fun q9 cA9 H hK9 hP hD hS => ?_)
  have e8 := newa_i hK9
  rw [e8] at hP hD
  have hP : va_P D vwCl [(th, .inr (6, [.int 0, .ref q1, .ref q2, .ref q3, .ref q4, .ref q5, .ref q6, .ref q7, .ref q8, .null])), (q1, .inl (cI, 8, .inl (fun _ => 0))), (q2, .inl (cI, 8, .inl (fun _ => 0))), (q3, .inl (cI, 8, .inl (fun _ => 0))), (q4, .inl (cI, 8, .inl (fun _ => 0))), (q5, .inl (cI, 8, .inl (fun _ => 0))), (q6, .inl (cI, 8, .inl (fun _ => 0))), (q7, .inl (cI, 8, .inl (fun _ => 0))), (q8, .inl (cI, 8, .inl (fun _ => 0))), (q9, .inl (cI, 8, .inl (fun _ => 0)))] H := hP
  have hD : va_D A [(th, .inr (6, [.int 0, .ref q1, .ref q2, .ref q3, .ref q4, .ref q5, .ref q6, .ref q7, .ref q8, .null])), (q1, .inl (cI, 8, .inl (fun _ => 0))), (q2, .inl (cI, 8, .inl (fun _ => 0))), (q3, .inl (cI, 8, .inl (fun _ => 0))), (q4, .inl (cI, 8, .inl (fun _ => 0))), (q5, .inl (cI, 8, .inl (fun _ => 0))), (q6, .inl (cI, 8, .inl (fun _ => 0))), (q7, .inl (cI, 8, .inl (fun _ => 0))), (q8, .inl (cI, 8, .inl (fun _ => 0))), (q9, .inl (cI, 8, .inl (fun _ => 0)))] := hD
  refine va_putF (D := D) (ci := 6) (v := .ref q9) (ty := (.array .int)) (C := RX6) (T := TX6) (N := 10) hx hb hts uX6_init_X6 tyX6 tyX6_ok nmX6 hown hK.1 hP hD hS 0 rfl rfl 9 (by decide) (hts _ kX6_init_13) (fun _ h9 => h9) rfl hin rfl (by decide +kernel) rfl rfl (Nat.le_of_ble_eq_true rfl) dX6_init_73 (fun H locs hP hD hS => ?_)
  have hP : va_P D vwCl [(th, .inr (6, [.int 0, .ref q1, .ref q2, .ref q3, .ref q4, .ref q5, .ref q6, .ref q7, .ref q8, .ref q9])), (q1, .inl (cI, 8, .inl (fun _ => 0))), (q2, .inl (cI, 8, .inl (fun _ => 0))), (q3, .inl (cI, 8, .inl (fun _ => 0))), (q4, .inl (cI, 8, .inl (fun _ => 0))), (q5, .inl (cI, 8, .inl (fun _ => 0))), (q6, .inl (cI, 8, .inl (fun _ => 0))), (q7, .inl (cI, 8, .inl (fun _ => 0))), (q8, .inl (cI, 8, .inl (fun _ => 0))), (q9, .inl (cI, 8, .inl (fun _ => 0)))] H := hP
  have hD : va_D A [(th, .inr (6, [.int 0, .ref q1, .ref q2, .ref q3, .ref q4, .ref q5, .ref q6, .ref q7, .ref q8, .ref q9])), (q1, .inl (cI, 8, .inl (fun _ => 0))), (q2, .inl (cI, 8, .inl (fun _ => 0))), (q3, .inl (cI, 8, .inl (fun _ => 0))), (q4, .inl (cI, 8, .inl (fun _ => 0))), (q5, .inl (cI, 8, .inl (fun _ => 0))), (q6, .inl (cI, 8, .inl (fun _ => 0))), (q7, .inl (cI, 8, .inl (fun _ => 0))), (q8, .inl (cI, 8, .inl (fun _ => 0))), (q9, .inl (cI, 8, .inl (fun _ => 0)))] := hD
  have e9 := Option.some.inj h
  subst e9
  rw [hQ]
  exact W.vret hx hb hr (fun t ht hW => ⟨⟨(fun k => ([q1, q2, q3, q4, q5, q6, q7, q8, q9] : List Nat).getD k 0), rfl, trivial, by rw [ht]; exact hP, hD⟩, hS.F ht⟩) hS.2.2 dX6_init_76
-- LeaningLines$Picture.init
abbrev OUT_X3_init : Type := (Nat → Int32)
def f_X3_init  : Option OUT_X3_init :=
  some (fun _ => 0)
theorem kX3_init_0 : Cond.methodLink RX3 3 objectInit ∈ wsX3_init := by decide +kernel
theorem kX3_init_1 : Cond.instanceMethod objectInit ∈ wsX3_init := by decide +kernel
theorem kX3_init_2 : Cond.code objectInit ⟨#[0xb1]⟩ 1 none ∈ wsX3_init := by decide +kernel
theorem kX3_init_3 : Cond.arrayClass .int ∈ wsX3_init := by decide +kernel
theorem uX3_init_X3 : ∀ w ∈ wsX30, w ∈ wsX3_init := by decide +kernel
theorem kX3_init_5 : Cond.fieldLink RX3 9 "LeaningLines$Picture" "pixels" "[I" ∈ wsX3_init := by decide +kernel
abbrev R_X3_init : Room := { frames := 1, cells := 1, slots := 384, locals := 20 }
set_option maxHeartbeats 4000000 in
set_option maxRecDepth 100000 in
theorem m_X3_init (l : Launch) (D : va_G) (cI cC cZ cR : ClassId) (pi : Nat) (sz : Nat)      (r : OUT_X3_init) (hf : f_X3_init  = some r) : Met l yX3_init wsX3_init R_X3_init (cPc D cI cC cZ cR [.ref pi] sz (ws_pictureN cI cC cZ cR pi )) (cQn D (va_A (ws_pictureN cI cC cZ cR pi ) sz) (fun u => [(pi, .inr (3, [.ref (u 0)])), ((u 0), .inl (cI, 384, .inl r))])) 1 384 (va_A (ws_pictureN cI cC cZ cR pi ) sz) := by
  refine Met.ofW (cc := cX3_init) (maxL := 1) (ret := none) (by decide) rfl ?_
  intro p e s m args below meth c s₁ B hml hv
  obtain ⟨rfl, hsz, hP, hK, hD0⟩ := hv
  have hx := B.exec
  have hb := B.bytes
  have hr := B.returns
  have hts := atoms_spec (ws := wsX3_init) B.pre
  have hown : s.vm.findClass RX3 = some m.cls := findClass_of_methodNamed B.named
  have hlocks := B.notSynchronized
  have hin : meth.name = "<init>" := (name_of_methodNamed B.named B.method).1
  subst hsz
  have hD := hD0.self (sz := s.heap.size)
  generalize hAe : va_A (ws_pictureN cI cC cZ cR pi ) s.heap.size = A at hD ⊢
  skip
  have hA : ∀ q : Nat, s.heap.size ≤ q → A q := fun q h => by rw [← hAe]; exact Or.inr h
  have hS : va_S A s.heap s.heap [] := va_S.rf
  have hl := lv_entry ([.ref pi]) (n := 1) (Nat.le_of_ble_eq_true rfl)
  rw [lg_entry_eq]
  generalize (lg_sl ([.ref pi]) ++ List.replicate (1 - (lg_sl ([.ref pi])).length) Slot.unset).toArray = ls at hl ⊢
  have hl : lv_has ls 1 [(0, .ref pi)] := hl
  refine W_absQ (fun Q hQ => ?_)
  refine W.eq (g2 := F0 m 0 ls []) rfl ?_
  have h := hf
  unfold f_X3_init at h
  refine lv_aload_n hx hb dX3_init_0 rfl (lv_at hl 0 rfl) ?_
  refine W.objInit hx hb hown (hts _ kX3_init_0) (hts _ kX3_init_1) (hts _ kX3_init_2) rfl (by rw [hml]; exact hl.1) rfl dX3_init_1 (Nat.le_of_ble_eq_true rfl) (Nat.le_of_ble_eq_true rfl) ?_
  refine W.eq (g2 := F0 m 4 ls []) rfl ?_
  refine lv_aload_n hx hb dX3_init_4 rfl (lv_at hl 0 rfl) ?_
  refine lv_sipush (v := 384) hx hb dX3_init_5 (by decide) ?_
  refine va_newa (D := D) (atype := .int) (ty := .int) (N' := 384) (a0 := (384, .inl (fun _ => 0))) hx hb (hts _ kX3_init_3) rfl hK.1 hP hD hS hA (fun _ => rfl) (by decide) (by decide) (by decide) (Nat.le_of_ble_eq_true rfl) (Nat.le_of_ble_eq_true rfl) dX3_init_8 (fun q1 cA9 H hK9 hP hD hS => ?_)
  have e8 := newa_i hK9
  rw [e8] at hP hD
  have hP : va_P D vwCl [(pi, .inr (3, [.null])), (q1, .inl (cI, 384, .inl (fun _ => 0)))] H := hP
  have hD : va_D A [(pi, .inr (3, [.null])), (q1, .inl (cI, 384, .inl (fun _ => 0)))] := hD
  refine va_putF (D := D) (ci := 3) (v := .ref q1) (ty := (.array .int)) (C := RX3) (T := TX3) (N := 1) hx hb hts uX3_init_X3 tyX3 tyX3_ok nmX3 hown hK.1 hP hD hS 0 rfl rfl 0 (by decide) (hts _ kX3_init_5) (fun _ h9 => h9) rfl hin rfl (by decide +kernel) rfl rfl (Nat.le_of_ble_eq_true rfl) dX3_init_10 (fun H locs hP hD hS => ?_)
  have hP : va_P D vwCl [(pi, .inr (3, [.ref q1])), (q1, .inl (cI, 384, .inl (fun _ => 0)))] H := hP
  have hD : va_D A [(pi, .inr (3, [.ref q1])), (q1, .inl (cI, 384, .inl (fun _ => 0)))] := hD
  have e9 := Option.some.inj h
  subst e9
  rw [hQ]
  exact W.vret hx hb hr (fun t ht hW => ⟨⟨(fun k => ([q1] : List Nat).getD k 0), rfl, trivial, by rw [ht]; exact hP, hD⟩, hS.F ht⟩) hS.2.2 dX3_init_13
-- LeaningLines$Camera.init
abbrev OUT_X0_init : Type := (Nat → Int32) × (Nat → Int32) × (Nat → Int32)
def f_X0_init  : Option OUT_X0_init :=
  some (fun _ => 0, fun _ => 0, fun _ => 0)
theorem kX0_init_0 : Cond.methodLink RX0 3 objectInit ∈ wsX0_init := by decide +kernel
theorem kX0_init_1 : Cond.instanceMethod objectInit ∈ wsX0_init := by decide +kernel
theorem kX0_init_2 : Cond.code objectInit ⟨#[0xb1]⟩ 1 none ∈ wsX0_init := by decide +kernel
theorem kX0_init_3 : Cond.arrayClass .int ∈ wsX0_init := by decide +kernel
theorem uX0_init_X0 : ∀ w ∈ wsX00, w ∈ wsX0_init := by decide +kernel
theorem kX0_init_5 : Cond.fieldLink RX0 9 "LeaningLines$Camera" "leaning" "[I" ∈ wsX0_init := by decide +kernel
theorem kX0_init_6 : Cond.fieldLink RX0 15 "LeaningLines$Camera" "upright" "[I" ∈ wsX0_init := by decide +kernel
theorem kX0_init_7 : Cond.fieldLink RX0 18 "LeaningLines$Camera" "rises" "[I" ∈ wsX0_init := by decide +kernel
abbrev R_X0_init : Room := { frames := 1, cells := 3, slots := 73, locals := 20 }
set_option maxHeartbeats 4000000 in
set_option maxRecDepth 100000 in
theorem m_X0_init (l : Launch) (D : va_G) (cI cC cZ cR : ClassId) (cm : Nat) (sz : Nat)      (r : OUT_X0_init) (hf : f_X0_init  = some r) : Met l yX0_init wsX0_init R_X0_init (cPc D cI cC cZ cR [.ref cm] sz (ws_cameraN cI cC cZ cR cm )) (cQn D (va_A (ws_cameraN cI cC cZ cR cm ) sz) (fun u => [(cm, .inr (0, [.ref (u 0), .ref (u 1), .ref (u 2)])), ((u 0), .inl (cI, 24, .inl r.1)), ((u 1), .inl (cI, 24, .inl r.2.1)), ((u 2), .inl (cI, 25, .inl r.2.2))])) 3 73 (va_A (ws_cameraN cI cC cZ cR cm ) sz) := by
  refine Met.ofW (cc := cX0_init) (maxL := 1) (ret := none) (by decide) rfl ?_
  intro p e s m args below meth c s₁ B hml hv
  obtain ⟨rfl, hsz, hP, hK, hD0⟩ := hv
  have hx := B.exec
  have hb := B.bytes
  have hr := B.returns
  have hts := atoms_spec (ws := wsX0_init) B.pre
  have hown : s.vm.findClass RX0 = some m.cls := findClass_of_methodNamed B.named
  have hlocks := B.notSynchronized
  have hin : meth.name = "<init>" := (name_of_methodNamed B.named B.method).1
  subst hsz
  have hD := hD0.self (sz := s.heap.size)
  generalize hAe : va_A (ws_cameraN cI cC cZ cR cm ) s.heap.size = A at hD ⊢
  skip
  have hA : ∀ q : Nat, s.heap.size ≤ q → A q := fun q h => by rw [← hAe]; exact Or.inr h
  have hS : va_S A s.heap s.heap [] := va_S.rf
  have hl := lv_entry ([.ref cm]) (n := 1) (Nat.le_of_ble_eq_true rfl)
  rw [lg_entry_eq]
  generalize (lg_sl ([.ref cm]) ++ List.replicate (1 - (lg_sl ([.ref cm])).length) Slot.unset).toArray = ls at hl ⊢
  have hl : lv_has ls 1 [(0, .ref cm)] := hl
  refine W_absQ (fun Q hQ => ?_)
  refine W.eq (g2 := F0 m 0 ls []) rfl ?_
  have h := hf
  unfold f_X0_init at h
  refine lv_aload_n hx hb dX0_init_0 rfl (lv_at hl 0 rfl) ?_
  refine W.objInit hx hb hown (hts _ kX0_init_0) (hts _ kX0_init_1) (hts _ kX0_init_2) rfl (by rw [hml]; exact hl.1) rfl dX0_init_1 (Nat.le_of_ble_eq_true rfl) (Nat.le_of_ble_eq_true rfl) ?_
  refine W.eq (g2 := F0 m 4 ls []) rfl ?_
  refine lv_aload_n hx hb dX0_init_4 rfl (lv_at hl 0 rfl) ?_
  refine lv_bipush (v := 24) hx hb dX0_init_5 (by decide) ?_
  refine va_newa (D := D) (atype := .int) (ty := .int) (N' := 24) (a0 := (24, .inl (fun _ => 0))) hx hb (hts _ kX0_init_3) rfl hK.1 hP hD hS hA (fun _ => rfl) (by decide) (by decide) (by decide) (Nat.le_of_ble_eq_true rfl) (Nat.le_of_ble_eq_true rfl) dX0_init_7 (fun q1 cA9 H hK9 hP hD hS => ?_)
  have e8 := newa_i hK9
  rw [e8] at hP hD
  have hP : va_P D vwCl [(cm, .inr (0, [.null, .null, .null])), (q1, .inl (cI, 24, .inl (fun _ => 0)))] H := hP
  have hD : va_D A [(cm, .inr (0, [.null, .null, .null])), (q1, .inl (cI, 24, .inl (fun _ => 0)))] := hD
  refine va_putF (D := D) (ci := 0) (v := .ref q1) (ty := (.array .int)) (C := RX0) (T := TX0) (N := 3) hx hb hts uX0_init_X0 tyX0 tyX0_ok nmX0 hown hK.1 hP hD hS 0 rfl rfl 0 (by decide) (hts _ kX0_init_5) (fun _ h9 => h9) rfl hin rfl (by decide +kernel) rfl rfl (Nat.le_of_ble_eq_true rfl) dX0_init_9 (fun H locs hP hD hS => ?_)
  have hP : va_P D vwCl [(cm, .inr (0, [.ref q1, .null, .null])), (q1, .inl (cI, 24, .inl (fun _ => 0)))] H := hP
  have hD : va_D A [(cm, .inr (0, [.ref q1, .null, .null])), (q1, .inl (cI, 24, .inl (fun _ => 0)))] := hD
  refine lv_aload_n hx hb dX0_init_12 rfl (lv_at hl 0 rfl) ?_
  refine lv_bipush (v := 24) hx hb dX0_init_13 (by decide) ?_
  refine va_newa (D := D) (atype := .int) (ty := .int) (N' := 24) (a0 := (24, .inl (fun _ => 0))) hx hb (hts _ kX0_init_3) rfl hK.1 hP hD hS hA (fun _ => rfl) (by decide) (by decide) (by decide) (Nat.le_of_ble_eq_true rfl) (Nat.le_of_ble_eq_true rfl) dX0_init_15 (fun q2 cA9 H hK9 hP hD hS => ?_)
  have e8 := newa_i hK9
  rw [e8] at hP hD
  have hP : va_P D vwCl [(cm, .inr (0, [.ref q1, .null, .null])), (q1, .inl (cI, 24, .inl (fun _ => 0))), (q2, .inl (cI, 24, .inl (fun _ => 0)))] H := hP
  have hD : va_D A [(cm, .inr (0, [.ref q1, .null, .null])), (q1, .inl (cI, 24, .inl (fun _ => 0))), (q2, .inl (cI, 24, .inl (fun _ => 0)))] := hD
  refine va_putF (D := D) (ci := 0) (v := .ref q2) (ty := (.array .int)) (C := RX0) (T := TX0) (N := 3) hx hb hts uX0_init_X0 tyX0 tyX0_ok nmX0 hown hK.1 hP hD hS 0 rfl rfl 1 (by decide) (hts _ kX0_init_6) (fun _ h9 => h9) rfl hin rfl (by decide +kernel) rfl rfl (Nat.le_of_ble_eq_true rfl) dX0_init_17 (fun H locs hP hD hS => ?_)
  have hP : va_P D vwCl [(cm, .inr (0, [.ref q1, .ref q2, .null])), (q1, .inl (cI, 24, .inl (fun _ => 0))), (q2, .inl (cI, 24, .inl (fun _ => 0)))] H := hP
  have hD : va_D A [(cm, .inr (0, [.ref q1, .ref q2, .null])), (q1, .inl (cI, 24, .inl (fun _ => 0))), (q2, .inl (cI, 24, .inl (fun _ => 0)))] := hD
  refine lv_aload_n hx hb dX0_init_20 rfl (lv_at hl 0 rfl) ?_
  refine lv_bipush (v := 25) hx hb dX0_init_21 (by decide) ?_
  refine va_newa (D := D) (atype := .int) (ty := .int) (N' := 25) (a0 := (25, .inl (fun _ => 0))) hx hb (hts _ kX0_init_3) rfl hK.1 hP hD hS hA (fun _ => rfl) (by decide) (by decide) (by decide) (Nat.le_of_ble_eq_true rfl) (Nat.le_of_ble_eq_true rfl) dX0_init_23 (fun q3 cA9 H hK9 hP hD hS => ?_)
  have e8 := newa_i hK9
  rw [e8] at hP hD
  have hP : va_P D vwCl [(cm, .inr (0, [.ref q1, .ref q2, .null])), (q1, .inl (cI, 24, .inl (fun _ => 0))), (q2, .inl (cI, 24, .inl (fun _ => 0))), (q3, .inl (cI, 25, .inl (fun _ => 0)))] H := hP
  have hD : va_D A [(cm, .inr (0, [.ref q1, .ref q2, .null])), (q1, .inl (cI, 24, .inl (fun _ => 0))), (q2, .inl (cI, 24, .inl (fun _ => 0))), (q3, .inl (cI, 25, .inl (fun _ => 0)))] := hD
  refine va_putF (D := D) (ci := 0) (v := .ref q3) (ty := (.array .int)) (C := RX0) (T := TX0) (N := 3) hx hb hts uX0_init_X0 tyX0 tyX0_ok nmX0 hown hK.1 hP hD hS 0 rfl rfl 2 (by decide) (hts _ kX0_init_7) (fun _ h9 => h9) rfl hin rfl (by decide +kernel) rfl rfl (Nat.le_of_ble_eq_true rfl) dX0_init_25 (fun H locs hP hD hS => ?_)
  have hP : va_P D vwCl [(cm, .inr (0, [.ref q1, .ref q2, .ref q3])), (q1, .inl (cI, 24, .inl (fun _ => 0))), (q2, .inl (cI, 24, .inl (fun _ => 0))), (q3, .inl (cI, 25, .inl (fun _ => 0)))] H := hP
  have hD : va_D A [(cm, .inr (0, [.ref q1, .ref q2, .ref q3])), (q1, .inl (cI, 24, .inl (fun _ => 0))), (q2, .inl (cI, 24, .inl (fun _ => 0))), (q3, .inl (cI, 25, .inl (fun _ => 0)))] := hD
  have e9 := Option.some.inj h
  subst e9
  rw [hQ]
  exact W.vret hx hb hr (fun t ht hW => ⟨⟨(fun k => ([q1, q2, q3] : List Nat).getD k 0), rfl, trivial, by rw [ht]; exact hP, hD⟩, hS.F ht⟩) hS.2.2 dX0_init_28
-- LeaningLines$History.init
abbrev OUT_X1_init : Type := Unit
def f_X1_init  : Option OUT_X1_init :=
  some ()
theorem kX1_init_0 : Cond.methodLink RX1 3 objectInit ∈ wsX1_init := by decide +kernel
theorem kX1_init_1 : Cond.instanceMethod objectInit ∈ wsX1_init := by decide +kernel
theorem kX1_init_2 : Cond.code objectInit ⟨#[0xb1]⟩ 1 none ∈ wsX1_init := by decide +kernel
theorem kX1_init_3 : Cond.classLink RX1 9 RX5 ∈ wsX1_init := by decide +kernel
theorem uX1_init_X1 : ∀ w ∈ wsX10, w ∈ wsX1_init := by decide +kernel
theorem kX1_init_5 : Cond.fieldLink RX1 11 "LeaningLines$History" "states" "[LLeaningLines$Scene;" ∈ wsX1_init := by decide +kernel
theorem kX1_init_6 : Cond.fieldLink RX1 17 "LeaningLines$History" "next" "I" ∈ wsX1_init := by decide +kernel
theorem kX1_init_7 : Cond.fieldLink RX1 21 "LeaningLines$History" "many" "I" ∈ wsX1_init := by decide +kernel
abbrev R_X1_init : Room := { frames := 1, cells := 1, slots := 6, locals := 20 }
set_option maxHeartbeats 4000000 in
set_option maxRecDepth 100000 in
theorem m_X1_init (l : Launch) (D : va_G) (cI cC cZ cR : ClassId) (hh : Nat) (sz : Nat)      (r : OUT_X1_init) (hf : f_X1_init  = some r) : Met l yX1_init wsX1_init R_X1_init (cPc D cI cC cZ cR [.ref hh] sz (ws_histN cI cC cZ cR hh )) (cQn D (va_A (ws_histN cI cC cZ cR hh ) sz) (fun u => [(hh, .inr (1, [.ref (u 0), .int 0, .int 0])), ((u 0), .inl (cR, 6, .inr (.inr (.inr (.inr (fun _ => none))))))])) 1 6 (va_A (ws_histN cI cC cZ cR hh ) sz) := by
  refine Met.ofW (cc := cX1_init) (maxL := 1) (ret := none) (by decide) rfl ?_
  intro p e s m args below meth c s₁ B hml hv
  obtain ⟨rfl, hsz, hP, hK, hD0⟩ := hv
  have hx := B.exec
  have hb := B.bytes
  have hr := B.returns
  have hts := atoms_spec (ws := wsX1_init) B.pre
  have hown : s.vm.findClass RX1 = some m.cls := findClass_of_methodNamed B.named
  have hlocks := B.notSynchronized
  have hin : meth.name = "<init>" := (name_of_methodNamed B.named B.method).1
  subst hsz
  have hD := hD0.self (sz := s.heap.size)
  generalize hAe : va_A (ws_histN cI cC cZ cR hh ) s.heap.size = A at hD ⊢
  skip
  have hA : ∀ q : Nat, s.heap.size ≤ q → A q := fun q h => by rw [← hAe]; exact Or.inr h
  have hS : va_S A s.heap s.heap [] := va_S.rf
  have hl := lv_entry ([.ref hh]) (n := 1) (Nat.le_of_ble_eq_true rfl)
  rw [lg_entry_eq]
  generalize (lg_sl ([.ref hh]) ++ List.replicate (1 - (lg_sl ([.ref hh])).length) Slot.unset).toArray = ls at hl ⊢
  have hl : lv_has ls 1 [(0, .ref hh)] := hl
  refine W_absQ (fun Q hQ => ?_)
  refine W.eq (g2 := F0 m 0 ls []) rfl ?_
  have h := hf
  unfold f_X1_init at h
  refine lv_aload_n hx hb dX1_init_0 rfl (lv_at hl 0 rfl) ?_
  refine W.objInit hx hb hown (hts _ kX1_init_0) (hts _ kX1_init_1) (hts _ kX1_init_2) rfl (by rw [hml]; exact hl.1) rfl dX1_init_1 (Nat.le_of_ble_eq_true rfl) (Nat.le_of_ble_eq_true rfl) ?_
  refine W.eq (g2 := F0 m 4 ls []) rfl ?_
  refine lv_aload_n hx hb dX1_init_4 rfl (lv_at hl 0 rfl) ?_
  refine lv_bipush (v := 6) hx hb dX1_init_5 (by decide) ?_
  refine va_newq (D := D) (N' := 6) hx hb hown (hts _ kX1_init_3) hK.2.2.2.2.2.2.2.2.2.2.2.2.2 hK.1 hP hD hS hA (by decide) (by decide) (by decide) (Nat.le_of_ble_eq_true rfl) (Nat.le_of_ble_eq_true rfl) dX1_init_7 (fun q1 cA9 H hK9 hP hD hS => ?_)
  have e8 := newa_q hK9
  rw [e8] at hP hD
  have hP : va_P D vwCl [(hh, .inr (1, [.null, .int 0, .int 0])), (q1, .inl (cR, 6, .inr (.inr (.inr (.inr (fun _ => none))))))] H := hP
  have hD : va_D A [(hh, .inr (1, [.null, .int 0, .int 0])), (q1, .inl (cR, 6, .inr (.inr (.inr (.inr (fun _ => none))))))] := hD
  refine va_putF (D := D) (ci := 1) (v := .ref q1) (ty := (.array (.object "LeaningLines$Scene"))) (C := RX1) (T := TX1) (N := 3) hx hb hts uX1_init_X1 tyX1 tyX1_ok nmX1 hown hK.1 hP hD hS 0 rfl rfl 0 (by decide) (hts _ kX1_init_5) (fun _ h9 => h9) rfl hin rfl (by decide +kernel) rfl rfl (Nat.le_of_ble_eq_true rfl) dX1_init_10 (fun H locs hP hD hS => ?_)
  have hP : va_P D vwCl [(hh, .inr (1, [.ref q1, .int 0, .int 0])), (q1, .inl (cR, 6, .inr (.inr (.inr (.inr (fun _ => none))))))] H := hP
  have hD : va_D A [(hh, .inr (1, [.ref q1, .int 0, .int 0])), (q1, .inl (cR, 6, .inr (.inr (.inr (.inr (fun _ => none))))))] := hD
  refine lv_aload_n hx hb dX1_init_13 rfl (lv_at hl 0 rfl) ?_
  refine lv_iconst (v := 0) hx hb dX1_init_14 (by decide) ?_
  refine va_put (D := D) (ci := 1) (v := .int 0) (ty := .int) (C := RX1) (T := TX1) (N := 3) hx hb hts uX1_init_X1 tyX1 tyX1_ok nmX1 hown hK.1 hP hD hS 0 rfl rfl 1 (by decide) (hts _ kX1_init_6) (fun _ h9 => h9) rfl (by decide +kernel) rfl rfl (Nat.le_of_ble_eq_true rfl) dX1_init_15 (fun H locs hP hD hS => ?_)
  have hP : va_P D vwCl [(hh, .inr (1, [.ref q1, .int 0, .int 0])), (q1, .inl (cR, 6, .inr (.inr (.inr (.inr (fun _ => none))))))] H := hP
  have hD : va_D A [(hh, .inr (1, [.ref q1, .int 0, .int 0])), (q1, .inl (cR, 6, .inr (.inr (.inr (.inr (fun _ => none))))))] := hD
  refine lv_aload_n hx hb dX1_init_18 rfl (lv_at hl 0 rfl) ?_
  refine lv_iconst (v := 0) hx hb dX1_init_19 (by decide) ?_
  refine va_put (D := D) (ci := 1) (v := .int 0) (ty := .int) (C := RX1) (T := TX1) (N := 3) hx hb hts uX1_init_X1 tyX1 tyX1_ok nmX1 hown hK.1 hP hD hS 0 rfl rfl 2 (by decide) (hts _ kX1_init_7) (fun _ h9 => h9) rfl (by decide +kernel) rfl rfl (Nat.le_of_ble_eq_true rfl) dX1_init_20 (fun H locs hP hD hS => ?_)
  have hP : va_P D vwCl [(hh, .inr (1, [.ref q1, .int 0, .int 0])), (q1, .inl (cR, 6, .inr (.inr (.inr (.inr (fun _ => none))))))] H := hP
  have hD : va_D A [(hh, .inr (1, [.ref q1, .int 0, .int 0])), (q1, .inl (cR, 6, .inr (.inr (.inr (.inr (fun _ => none))))))] := hD
  have e9 := Option.some.inj h
  subst e9
  rw [hQ]
  exact W.vret hx hb hr (fun t ht hW => ⟨⟨(fun k => ([q1] : List Nat).getD k 0), rfl, trivial, by rw [ht]; exact hP, hD⟩, hS.F ht⟩) hS.2.2 dX1_init_23
-- LeaningLines$Pad.init
abbrev OUT_X2_init : Type := (Nat → Int32)
def f_X2_init  : Option OUT_X2_init :=
  some (fun _ => 0)
theorem kX2_init_0 : Cond.methodLink RX2 3 objectInit ∈ wsX2_init := by decide +kernel
theorem kX2_init_1 : Cond.instanceMethod objectInit ∈ wsX2_init := by decide +kernel
theorem kX2_init_2 : Cond.code objectInit ⟨#[0xb1]⟩ 1 none ∈ wsX2_init := by decide +kernel
theorem kX2_init_3 : Cond.arrayClass .char ∈ wsX2_init := by decide +kernel
theorem uX2_init_X2 : ∀ w ∈ wsX20, w ∈ wsX2_init := by decide +kernel
theorem kX2_init_5 : Cond.fieldLink RX2 9 "LeaningLines$Pad" "text" "[C" ∈ wsX2_init := by decide +kernel
theorem kX2_init_6 : Cond.fieldLink RX2 15 "LeaningLines$Pad" "length" "I" ∈ wsX2_init := by decide +kernel
abbrev R_X2_init : Room := { frames := 1, cells := 1, slots := 80, locals := 20 }
set_option maxHeartbeats 4000000 in
set_option maxRecDepth 100000 in
theorem m_X2_init (l : Launch) (D : va_G) (cI cC cZ cR : ClassId) (pd : Nat) (sz : Nat)      (r : OUT_X2_init) (hf : f_X2_init  = some r) : Met l yX2_init wsX2_init R_X2_init (cPc D cI cC cZ cR [.ref pd] sz (ws_padN cI cC cZ cR pd )) (cQn D (va_A (ws_padN cI cC cZ cR pd ) sz) (fun u => [(pd, .inr (2, [.ref (u 0), .int 0])), ((u 0), .inl (cC, 80, .inl r))])) 1 80 (va_A (ws_padN cI cC cZ cR pd ) sz) := by
  refine Met.ofW (cc := cX2_init) (maxL := 1) (ret := none) (by decide) rfl ?_
  intro p e s m args below meth c s₁ B hml hv
  obtain ⟨rfl, hsz, hP, hK, hD0⟩ := hv
  have hx := B.exec
  have hb := B.bytes
  have hr := B.returns
  have hts := atoms_spec (ws := wsX2_init) B.pre
  have hown : s.vm.findClass RX2 = some m.cls := findClass_of_methodNamed B.named
  have hlocks := B.notSynchronized
  have hin : meth.name = "<init>" := (name_of_methodNamed B.named B.method).1
  subst hsz
  have hD := hD0.self (sz := s.heap.size)
  generalize hAe : va_A (ws_padN cI cC cZ cR pd ) s.heap.size = A at hD ⊢
  skip
  have hA : ∀ q : Nat, s.heap.size ≤ q → A q := fun q h => by rw [← hAe]; exact Or.inr h
  have hS : va_S A s.heap s.heap [] := va_S.rf
  have hl := lv_entry ([.ref pd]) (n := 1) (Nat.le_of_ble_eq_true rfl)
  rw [lg_entry_eq]
  generalize (lg_sl ([.ref pd]) ++ List.replicate (1 - (lg_sl ([.ref pd])).length) Slot.unset).toArray = ls at hl ⊢
  have hl : lv_has ls 1 [(0, .ref pd)] := hl
  refine W_absQ (fun Q hQ => ?_)
  refine W.eq (g2 := F0 m 0 ls []) rfl ?_
  have h := hf
  unfold f_X2_init at h
  refine lv_aload_n hx hb dX2_init_0 rfl (lv_at hl 0 rfl) ?_
  refine W.objInit hx hb hown (hts _ kX2_init_0) (hts _ kX2_init_1) (hts _ kX2_init_2) rfl (by rw [hml]; exact hl.1) rfl dX2_init_1 (Nat.le_of_ble_eq_true rfl) (Nat.le_of_ble_eq_true rfl) ?_
  refine W.eq (g2 := F0 m 4 ls []) rfl ?_
  refine lv_aload_n hx hb dX2_init_4 rfl (lv_at hl 0 rfl) ?_
  refine lv_bipush (v := 80) hx hb dX2_init_5 (by decide) ?_
  refine va_newa (D := D) (atype := .char) (ty := .char) (N' := 80) (a0 := (80, .inl (fun _ => 0))) hx hb (hts _ kX2_init_3) rfl hK.1 hP hD hS hA (fun _ => rfl) (by decide) (by decide) (by decide) (Nat.le_of_ble_eq_true rfl) (Nat.le_of_ble_eq_true rfl) dX2_init_7 (fun q1 cA9 H hK9 hP hD hS => ?_)
  have e8 := newa_c hK9
  rw [e8] at hP hD
  have hP : va_P D vwCl [(pd, .inr (2, [.null, .int 0])), (q1, .inl (cC, 80, .inl (fun _ => 0)))] H := hP
  have hD : va_D A [(pd, .inr (2, [.null, .int 0])), (q1, .inl (cC, 80, .inl (fun _ => 0)))] := hD
  refine va_putF (D := D) (ci := 2) (v := .ref q1) (ty := (.array .char)) (C := RX2) (T := TX2) (N := 2) hx hb hts uX2_init_X2 tyX2 tyX2_ok nmX2 hown hK.1 hP hD hS 0 rfl rfl 0 (by decide) (hts _ kX2_init_5) (fun _ h9 => h9) rfl hin rfl (by decide +kernel) rfl rfl (Nat.le_of_ble_eq_true rfl) dX2_init_9 (fun H locs hP hD hS => ?_)
  have hP : va_P D vwCl [(pd, .inr (2, [.ref q1, .int 0])), (q1, .inl (cC, 80, .inl (fun _ => 0)))] H := hP
  have hD : va_D A [(pd, .inr (2, [.ref q1, .int 0])), (q1, .inl (cC, 80, .inl (fun _ => 0)))] := hD
  refine lv_aload_n hx hb dX2_init_12 rfl (lv_at hl 0 rfl) ?_
  refine lv_iconst (v := 0) hx hb dX2_init_13 (by decide) ?_
  refine va_put (D := D) (ci := 2) (v := .int 0) (ty := .int) (C := RX2) (T := TX2) (N := 2) hx hb hts uX2_init_X2 tyX2 tyX2_ok nmX2 hown hK.1 hP hD hS 0 rfl rfl 1 (by decide) (hts _ kX2_init_6) (fun _ h9 => h9) rfl (by decide +kernel) rfl rfl (Nat.le_of_ble_eq_true rfl) dX2_init_14 (fun H locs hP hD hS => ?_)
  have hP : va_P D vwCl [(pd, .inr (2, [.ref q1, .int 0])), (q1, .inl (cC, 80, .inl (fun _ => 0)))] H := hP
  have hD : va_D A [(pd, .inr (2, [.ref q1, .int 0])), (q1, .inl (cC, 80, .inl (fun _ => 0)))] := hD
  have e9 := Option.some.inj h
  subst e9
  rw [hQ]
  exact W.vret hx hb hr (fun t ht hW => ⟨⟨(fun k => ([q1] : List Nat).getD k 0), rfl, trivial, by rw [ht]; exact hP, hD⟩, hS.F ht⟩) hS.2.2 dX2_init_17
-- LeaningLines$Reader.init
abbrev OUT_X4_init : Type := Int32 × (Nat → Int32)
def f_X4_init  : Option OUT_X4_init :=
  some (32, fun _ => 0)
theorem kX4_init_0 : Cond.methodLink RX4 3 objectInit ∈ wsX4_init := by decide +kernel
theorem kX4_init_1 : Cond.instanceMethod objectInit ∈ wsX4_init := by decide +kernel
theorem kX4_init_2 : Cond.code objectInit ⟨#[0xb1]⟩ 1 none ∈ wsX4_init := by decide +kernel
theorem uX4_init_X4 : ∀ w ∈ wsX40, w ∈ wsX4_init := by decide +kernel
theorem kX4_init_4 : Cond.fieldLink RX4 9 "LeaningLines$Reader" "at" "I" ∈ wsX4_init := by decide +kernel
theorem kX4_init_5 : Cond.fieldLink RX4 15 "LeaningLines$Reader" "kind" "C" ∈ wsX4_init := by decide +kernel
theorem kX4_init_6 : Cond.arrayClass .int ∈ wsX4_init := by decide +kernel
theorem kX4_init_7 : Cond.fieldLink RX4 19 "LeaningLines$Reader" "values" "[I" ∈ wsX4_init := by decide +kernel
theorem kX4_init_8 : Cond.fieldLink RX4 23 "LeaningLines$Reader" "pad" "LLeaningLines$Pad;" ∈ wsX4_init := by decide +kernel
abbrev R_X4_init : Room := { frames := 1, cells := 1, slots := 7, locals := 20 }
set_option maxHeartbeats 4000000 in
set_option maxRecDepth 100000 in
theorem m_X4_init (l : Launch) (D : va_G) (cI cC cZ cR : ClassId) (rd oad : Nat) (sz : Nat)      (r : OUT_X4_init) (hf : f_X4_init  = some r) : Met l yX4_init wsX4_init R_X4_init (cPc D cI cC cZ cR [.ref rd, .ref oad] sz (ws_readerN_addr cI cC cZ cR rd oad )) (cQn D (va_A (ws_readerN_addr cI cC cZ cR rd oad ) sz) (fun u => [(rd, .inr (4, [.ref oad, .int 0, .int r.1, .ref (u 0)])), ((u 0), .inl (cI, 7, .inl r.2))])) 1 7 (va_A (ws_readerN_addr cI cC cZ cR rd oad ) sz) := by
  refine Met.ofW (cc := cX4_init) (maxL := 2) (ret := none) (by decide) rfl ?_
  intro p e s m args below meth c s₁ B hml hv
  obtain ⟨rfl, hsz, hP, hK, hD0⟩ := hv
  have hx := B.exec
  have hb := B.bytes
  have hr := B.returns
  have hts := atoms_spec (ws := wsX4_init) B.pre
  have hown : s.vm.findClass RX4 = some m.cls := findClass_of_methodNamed B.named
  have hlocks := B.notSynchronized
  have hin : meth.name = "<init>" := (name_of_methodNamed B.named B.method).1
  subst hsz
  have hD := hD0.self (sz := s.heap.size)
  generalize hAe : va_A (ws_readerN_addr cI cC cZ cR rd oad ) s.heap.size = A at hD ⊢
  skip
  have hA : ∀ q : Nat, s.heap.size ≤ q → A q := fun q h => by rw [← hAe]; exact Or.inr h
  have hS : va_S A s.heap s.heap [] := va_S.rf
  have hl := lv_entry ([.ref rd, .ref oad]) (n := 2) (Nat.le_of_ble_eq_true rfl)
  rw [lg_entry_eq]
  generalize (lg_sl ([.ref rd, .ref oad]) ++ List.replicate (2 - (lg_sl ([.ref rd, .ref oad])).length) Slot.unset).toArray = ls at hl ⊢
  have hl : lv_has ls 2 [(0, .ref rd), (1, .ref oad)] := hl
  refine W_absQ (fun Q hQ => ?_)
  refine W.eq (g2 := F0 m 0 ls []) rfl ?_
  have h := hf
  unfold f_X4_init at h
  refine lv_aload_n hx hb dX4_init_0 rfl (lv_at hl 0 rfl) ?_
  refine W.objInit hx hb hown (hts _ kX4_init_0) (hts _ kX4_init_1) (hts _ kX4_init_2) rfl (by rw [hml]; exact hl.1) rfl dX4_init_1 (Nat.le_of_ble_eq_true rfl) (Nat.le_of_ble_eq_true rfl) ?_
  refine W.eq (g2 := F0 m 4 ls []) rfl ?_
  refine lv_aload_n hx hb dX4_init_4 rfl (lv_at hl 0 rfl) ?_
  refine lv_iconst (v := 0) hx hb dX4_init_5 (by decide) ?_
  refine va_put (D := D) (ci := 4) (v := .int 0) (ty := .int) (C := RX4) (T := TX4) (N := 4) hx hb hts uX4_init_X4 tyX4 tyX4_ok nmX4 hown hK.1 hP hD hS 0 rfl rfl 1 (by decide) (hts _ kX4_init_4) (fun _ h9 => h9) rfl (by decide +kernel) rfl rfl (Nat.le_of_ble_eq_true rfl) dX4_init_6 (fun H locs hP hD hS => ?_)
  have hP : va_P D vwCl (ws_readerN_addr cI cC cZ cR rd oad ) H := hP
  have hD : va_D A (ws_readerN_addr cI cC cZ cR rd oad ) := hD
  refine lv_aload_n hx hb dX4_init_9 rfl (lv_at hl 0 rfl) ?_
  refine lv_bipush (v := 32) hx hb dX4_init_10 (by decide) ?_
  refine va_put (D := D) (ci := 4) (v := .int 32) (ty := .char) (C := RX4) (T := TX4) (N := 4) hx hb hts uX4_init_X4 tyX4 tyX4_ok nmX4 hown hK.1 hP hD hS 0 rfl rfl 2 (by decide) (hts _ kX4_init_5) (fun _ h9 => h9) rfl (by decide +kernel) (by decide +kernel) (by decide +kernel) (Nat.le_of_ble_eq_true rfl) dX4_init_12 (fun H locs hP hD hS => ?_)
  have hP : va_P D vwCl [(rd, .inr (4, [.null, .int 0, .int 32, .null]))] H := hP
  have hD : va_D A [(rd, .inr (4, [.null, .int 0, .int 32, .null]))] := hD
  refine lv_aload_n hx hb dX4_init_15 rfl (lv_at hl 0 rfl) ?_
  refine lv_bipush (v := 7) hx hb dX4_init_16 (by decide) ?_
  refine va_newa (D := D) (atype := .int) (ty := .int) (N' := 7) (a0 := (7, .inl (fun _ => 0))) hx hb (hts _ kX4_init_6) rfl hK.1 hP hD hS hA (fun _ => rfl) (by decide) (by decide) (by decide) (Nat.le_of_ble_eq_true rfl) (Nat.le_of_ble_eq_true rfl) dX4_init_18 (fun q1 cA9 H hK9 hP hD hS => ?_)
  have e8 := newa_i hK9
  rw [e8] at hP hD
  have hP : va_P D vwCl [(rd, .inr (4, [.null, .int 0, .int 32, .null])), (q1, .inl (cI, 7, .inl (fun _ => 0)))] H := hP
  have hD : va_D A [(rd, .inr (4, [.null, .int 0, .int 32, .null])), (q1, .inl (cI, 7, .inl (fun _ => 0)))] := hD
  refine va_putF (D := D) (ci := 4) (v := .ref q1) (ty := (.array .int)) (C := RX4) (T := TX4) (N := 4) hx hb hts uX4_init_X4 tyX4 tyX4_ok nmX4 hown hK.1 hP hD hS 0 rfl rfl 3 (by decide) (hts _ kX4_init_7) (fun _ h9 => h9) rfl hin rfl (by decide +kernel) rfl rfl (Nat.le_of_ble_eq_true rfl) dX4_init_20 (fun H locs hP hD hS => ?_)
  have hP : va_P D vwCl [(rd, .inr (4, [.null, .int 0, .int 32, .ref q1])), (q1, .inl (cI, 7, .inl (fun _ => 0)))] H := hP
  have hD : va_D A [(rd, .inr (4, [.null, .int 0, .int 32, .ref q1])), (q1, .inl (cI, 7, .inl (fun _ => 0)))] := hD
  refine lv_aload_n hx hb dX4_init_23 rfl (lv_at hl 0 rfl) ?_
  refine lv_aload_n hx hb dX4_init_24 rfl (lv_at hl 1 rfl) ?_
  refine va_putF (D := D) (ci := 4) (v := .ref oad) (ty := (.object "LeaningLines$Pad")) (C := RX4) (T := TX4) (N := 4) hx hb hts uX4_init_X4 tyX4 tyX4_ok nmX4 hown hK.1 hP hD hS 0 rfl rfl 0 (by decide) (hts _ kX4_init_8) (fun _ h9 => h9) rfl hin rfl (by decide +kernel) rfl rfl (Nat.le_of_ble_eq_true rfl) dX4_init_25 (fun H locs hP hD hS => ?_)
  have hP : va_P D vwCl [(rd, .inr (4, [.ref oad, .int 0, .int 32, .ref q1])), (q1, .inl (cI, 7, .inl (fun _ => 0)))] H := hP
  have hD : va_D A [(rd, .inr (4, [.ref oad, .int 0, .int 32, .ref q1])), (q1, .inl (cI, 7, .inl (fun _ => 0)))] := hD
  have e9 := Option.some.inj h
  subst e9
  rw [hQ]
  exact W.vret hx hb hr (fun t ht hW => ⟨⟨(fun k => ([q1] : List Nat).getD k 0), rfl, trivial, by rw [ht]; exact hP, hD⟩, hS.F ht⟩) hS.2.2 dX4_init_28
-- LeaningLines$Scene.init
abbrev OUT_X5_init : Type := Int32 × (Nat → Int32) × Int32 × (Nat → Int32) × (Nat → Int32) × (Nat → Int32) × (Nat → Int32) × (Nat → Int32) × (Nat → Int32) × (Nat → Int32) × (Nat → Int32) × (Nat → Int32) × (Nat → Int32)
def f_X5_init  : Option OUT_X5_init :=
  bn (f_X6_init) (fun r3 => bn (f_X3_init) (fun r6 => some ((-6), fF, 0, r3.1, r3.2.1, r3.2.2.1, r3.2.2.2.1, r3.2.2.2.2.1, r3.2.2.2.2.2.1, r3.2.2.2.2.2.2.1, r3.2.2.2.2.2.2.2.1, r3.2.2.2.2.2.2.2.2, r6)))
theorem kX5_init_0 : Cond.methodLink RX5 3 objectInit ∈ wsX5_init := by decide +kernel
theorem kX5_init_1 : Cond.instanceMethod objectInit ∈ wsX5_init := by decide +kernel
theorem kX5_init_2 : Cond.code objectInit ⟨#[0xb1]⟩ 1 none ∈ wsX5_init := by decide +kernel
theorem kX5_init_3 : Cond.methodLink RX5 13 ⟨"[I", "clone", "()Ljava/lang/Object;"⟩ ∈ wsX5_init := by decide +kernel
theorem kX5_init_4 : Cond.sameMethod "[I" "java/lang/Object" "clone" "()Ljava/lang/Object;" ∈ wsX5_init := by decide +kernel
theorem kX5_init_5 : Cond.native ⟨"java/lang/Object", "clone", "()Ljava/lang/Object;"⟩ ∈ wsX5_init := by decide +kernel
theorem kX5_init_6 : Cond.instanceMethod ⟨"java/lang/Object", "clone", "()Ljava/lang/Object;"⟩ ∈ wsX5_init := by decide +kernel
theorem kX5_init_7 : Cond.selects "[I" ⟨"[I", "clone", "()Ljava/lang/Object;"⟩ ⟨"java/lang/Object", "clone", "()Ljava/lang/Object;"⟩ ∈ wsX5_init := by decide +kernel
theorem kX5_init_8 : Cond.classLink RX5 14 "[I" ∈ wsX5_init := by decide +kernel
theorem uX5_init_X5 : ∀ w ∈ wsX50, w ∈ wsX5_init := by decide +kernel
theorem kX5_init_10 : Cond.fieldLink RX5 18 "LeaningLines$Scene" "settings" "[I" ∈ wsX5_init := by decide +kernel
theorem uX5_init_X6 : ∀ w ∈ wsX60, w ∈ wsX5_init := by decide +kernel
theorem kX5_init_12 : Cond.classLink RX5 23 RX6 ∈ wsX5_init := by decide +kernel
theorem kX5_init_13 : Cond.instantiable RX6 10 ∈ wsX5_init := by decide +kernel
theorem kX5_init_14 : Cond.initialized RX6 ∈ wsX5_init := by decide +kernel
theorem kX5_init_15 : Cond.instanceMethod yX6_init ∈ wsX5_init := by decide +kernel
theorem kX5_init_16 : Cond.fieldLink RX5 26 "LeaningLines$Scene" "things" "LLeaningLines$Things;" ∈ wsX5_init := by decide +kernel
theorem uX5_init_X3 : ∀ w ∈ wsX30, w ∈ wsX5_init := by decide +kernel
theorem kX5_init_18 : Cond.classLink RX5 30 RX3 ∈ wsX5_init := by decide +kernel
theorem kX5_init_19 : Cond.instantiable RX3 1 ∈ wsX5_init := by decide +kernel
theorem kX5_init_20 : Cond.initialized RX3 ∈ wsX5_init := by decide +kernel
theorem kX5_init_21 : Cond.instanceMethod yX3_init ∈ wsX5_init := by decide +kernel
theorem kX5_init_22 : Cond.fieldLink RX5 33 "LeaningLines$Scene" "picture" "LLeaningLines$Picture;" ∈ wsX5_init := by decide +kernel
theorem kX5_init_23 : Cond.fieldLink RX5 37 "LeaningLines$Scene" "time" "I" ∈ wsX5_init := by decide +kernel
theorem kX5_init_24 : Cond.fieldLink RX5 41 "LeaningLines$Scene" "pictures" "I" ∈ wsX5_init := by decide +kernel
theorem kX5_init_25 : Cond.fieldLink RX5 44 "LeaningLines$Scene" "flashTime" "I" ∈ wsX5_init := by decide +kernel
theorem kX5_init_26 : Cond.fieldLink RX5 47 "LeaningLines$Scene" "flashTicks" "I" ∈ wsX5_init := by decide +kernel
abbrev R_X5_init : Room := { frames := 2, cells := 13, slots := 471, locals := 40 }
set_option maxHeartbeats 4000000 in
set_option maxRecDepth 100000 in
theorem m_X5_init (l : Launch) (D : va_G) (cI cC cZ cR : ClassId) (sc : Nat) (sz : Nat)    (b0 : Nat)  (r : OUT_X5_init) (hf : f_X5_init  = some r) : Met l yX5_init wsX5_init R_X5_init (cPcS D cI cC cZ cR b0 [.ref sc] sz (ws_sceneN cI cC cZ cR sc )) (cQn D (va_A (ws_sceneN cI cC cZ cR sc ) sz) (fun u => [(sc, .inr (5, [.ref (u 0), .ref (u 1), .ref (u 11), .int 0, .int 0, .int r.1, .int 0])), ((u 0), .inl (cI, 4, .inl r.2.1)), ((u 1), .inr (6, [.int r.2.2.1, .ref (u 2), .ref (u 3), .ref (u 4), .ref (u 5), .ref (u 6), .ref (u 7), .ref (u 8), .ref (u 9), .ref (u 10)])), ((u 2), .inl (cI, 8, .inl r.2.2.2.1)), ((u 3), .inl (cI, 8, .inl r.2.2.2.2.1)), ((u 4), .inl (cI, 8, .inl r.2.2.2.2.2.1)), ((u 5), .inl (cI, 8, .inl r.2.2.2.2.2.2.1)), ((u 6), .inl (cI, 8, .inl r.2.2.2.2.2.2.2.1)), ((u 7), .inl (cI, 8, .inl r.2.2.2.2.2.2.2.2.1)), ((u 8), .inl (cI, 8, .inl r.2.2.2.2.2.2.2.2.2.1)), ((u 9), .inl (cI, 8, .inl r.2.2.2.2.2.2.2.2.2.2.1)), ((u 10), .inl (cI, 8, .inl r.2.2.2.2.2.2.2.2.2.2.2.1)), ((u 11), .inr (3, [.ref (u 12)])), ((u 12), .inl (cI, 384, .inl r.2.2.2.2.2.2.2.2.2.2.2.2))])) 13 471 (va_A (ws_sceneN cI cC cZ cR sc ) sz) := by
  refine Met.ofW (cc := cX5_init) (maxL := 1) (ret := none) (by decide) rfl ?_
  intro p e s m args below meth c s₁ B hml hv
  obtain ⟨rfl, hsz, hP, hK, hD0, hb0, hstt⟩ := hv
  have hx := B.exec
  have hb := B.bytes
  have hr := B.returns
  have hts := atoms_spec (ws := wsX5_init) B.pre
  have hown : s.vm.findClass RX5 = some m.cls := findClass_of_methodNamed B.named
  have hlocks := B.notSynchronized
  have hin : meth.name = "<init>" := (name_of_methodNamed B.named B.method).1
  subst hsz
  have hD := hD0.self (sz := s.heap.size)
  generalize hAe : va_A (ws_sceneN cI cC cZ cR sc ) s.heap.size = A at hD ⊢
  have hAb := hAb_of hAe hD0 hb0
  have hA : ∀ q : Nat, s.heap.size ≤ q → A q := fun q h => by rw [← hAe]; exact Or.inr h
  have hS : va_S A s.heap s.heap [] := va_S.rf
  have hl := lv_entry ([.ref sc]) (n := 1) (Nat.le_of_ble_eq_true rfl)
  rw [lg_entry_eq]
  generalize (lg_sl ([.ref sc]) ++ List.replicate (1 - (lg_sl ([.ref sc])).length) Slot.unset).toArray = ls at hl ⊢
  have hl : lv_has ls 1 [(0, .ref sc)] := hl
  refine W_absQ (fun Q hQ => ?_)
  refine W.eq (g2 := F0 m 0 ls []) rfl ?_
  have h := hf
  unfold f_X5_init at h
  refine lv_aload_n hx hb dX5_init_0 rfl (lv_at hl 0 rfl) ?_
  refine W.objInit hx hb hown (hts _ kX5_init_0) (hts _ kX5_init_1) (hts _ kX5_init_2) rfl (by rw [hml]; exact hl.1) rfl dX5_init_1 (Nat.le_of_ble_eq_true rfl) (Nat.le_of_ble_eq_true rfl) ?_
  refine W.eq (g2 := F0 m 4 ls []) rfl ?_
  refine lv_aload_n hx hb dX5_init_4 rfl (lv_at hl 0 rfl) ?_
  obtain ⟨⟨tz, zz1, ⟨cellz, zz2, zz3, zz4, zz5, zz6⟩, zz7⟩, -, -⟩ := hstt
  refine va_getsN hx hb (zz1.narrow hAb) hS hown (va_Nw.use rfl hK.2.2.2.2.2.2.2.2.2.2.2.1) (fun _ h9 => h9) dX5_init_5 ?_
  refine va_cloneT (D := D) (n := 4) (f := fF) hx hb (by rw [hml]; exact hl.1.symm) hown (hts _ kX5_init_3) (hts _ kX5_init_4) (hts _ kX5_init_5) (hts _ kX5_init_6) (hts _ kX5_init_7) hK.2.2.2.2.2.2.2.2.2.2.2.2.1 hK.1 hP hD hS hA 0 (cell := cellz) (by rw [hS.2.1 tz (Array.getElem?_eq_some_iff.mp zz2).1 (fun z => zz7 (hAb _ z))]; exact zz2) zz3 zz4 zz5 zz6 rfl (va_nm_int (hK.1.2 0 _ rfl).2) (Nat.le_of_ble_eq_true rfl) (Nat.le_of_ble_eq_true rfl) (Nat.le_of_ble_eq_true rfl) (Nat.le_of_ble_eq_true rfl) dX5_init_8 (fun q1 H hP hD hS => ?_)
  have hP : va_P D vwCl [(sc, .inr (5, [.null, .null, .null, .int 0, .int 0, .int 0, .int 0])), (q1, .inl (cI, 4, .inl fF))] H := hP
  have hD : va_D A [(sc, .inr (5, [.null, .null, .null, .int 0, .int 0, .int 0, .int 0])), (q1, .inl (cI, 4, .inl fF))] := hD
  refine va_castA (D := D) hx hb hown (hts _ kX5_init_8) hP 1 rfl (va_nm_int (hK.1.2 0 _ rfl).2) dX5_init_11 ?_
  refine va_putF (D := D) (ci := 5) (v := .ref q1) (ty := (.array .int)) (C := RX5) (T := TX5) (N := 7) hx hb hts uX5_init_X5 tyX5 tyX5_ok nmX5 hown hK.1 hP hD hS 0 rfl rfl 0 (by decide) (hts _ kX5_init_10) (fun _ h9 => h9) rfl hin rfl (by decide +kernel) rfl rfl (Nat.le_of_ble_eq_true rfl) dX5_init_14 (fun H locs hP hD hS => ?_)
  have hP : va_P D vwCl [(sc, .inr (5, [.ref q1, .null, .null, .int 0, .int 0, .int 0, .int 0])), (q1, .inl (cI, 4, .inl fF))] H := hP
  have hD : va_D A [(sc, .inr (5, [.ref q1, .null, .null, .int 0, .int 0, .int 0, .int 0])), (q1, .inl (cI, 4, .inl fF))] := hD
  refine lv_aload_n hx hb dX5_init_17 rfl (lv_at hl 0 rfl) ?_
  refine va_new (D := D) (ci := 6) (fs := [.int 0, .null, .null, .null, .null, .null, .null, .null, .null, .null]) (C := RX6) (T := TX6) (N := 10) hx hb hts uX5_init_X6 tyX6 tyX6_ok hown (hts _ kX5_init_12) (hts _ kX5_init_13) (hts _ kX5_init_14) hK.1 hP hD hS hA rfl (fun j hj => by rcases (show j = 0 ∨ j = 1 ∨ j = 2 ∨ j = 3 ∨ j = 4 ∨ j = 5 ∨ j = 6 ∨ j = 7 ∨ j = 8 ∨ j = 9 by omega) with rfl | rfl | rfl | rfl | rfl | rfl | rfl | rfl | rfl | rfl <;> rfl) (Nat.le_of_ble_eq_true rfl) (Nat.le_of_ble_eq_true rfl) dX5_init_18 (fun q2 H hP hD hS => ?_)
  have hP : va_P D vwCl [(sc, .inr (5, [.ref q1, .null, .null, .int 0, .int 0, .int 0, .int 0])), (q1, .inl (cI, 4, .inl fF)), (q2, .inr (6, [.int 0, .null, .null, .null, .null, .null, .null, .null, .null, .null]))] H := hP
  have hD : va_D A [(sc, .inr (5, [.ref q1, .null, .null, .int 0, .int 0, .int 0, .int 0])), (q1, .inl (cI, 4, .inl fF)), (q2, .inr (6, [.int 0, .null, .null, .null, .null, .null, .null, .null, .null, .null]))] := hD
  refine lv_dup hx hb dX5_init_21 rfl ?_
  obtain ⟨r3, hcr3, h⟩ := bn_sp h
  have hPc := hP.sub (ws' := (ws_thingsN cI cC cZ cR q2 )) [2] rfl
  have hDc := hD.sub (ws' := (ws_thingsN cI cC cZ cR q2 )) [2] (by decide) rfl
  have hFc := va_free (wc := (ws_thingsN cI cC cZ cR q2 )) hD hS hA [2] rfl
  refine va_callv (va_runIN (As := []) (rest := [.ref q2, .ref sc]) ⟨hx, hb, hml, hown, hts⟩ (m_X6_init l D cI cC cZ cR q2 _     r3 hcr3) ⟨va_cnB (host := "LeaningLines") 0 hts gX5_init_X6_init_n25 rfl rfl rfl hK.2.2.1 (hts _ kX5_init_14) (by decide +kernel) ⟨Nat.le_of_ble_eq_true rfl, Nat.le_of_ble_eq_true rfl⟩, rfl, hts _ kX5_init_15⟩ (cPc_ps hPc hK hDc) rfl rfl hl.1 rfl (lv_room (Nat.le_of_ble_eq_true rfl)) dX5_init_22 ⟨Nat.le_of_ble_eq_true rfl, Nat.le_of_ble_eq_true rfl⟩) hS (fun q _ h => hFc q h) hFc (fun u4 t H1 locs ht hvm hw hB hz1 hk1 hS => ?_)
  obtain ⟨hP1, hD1⟩ := hB
  rw [ht] at hP1
  obtain ⟨hP, hD⟩ := va_join (wr := [(sc, .inr (5, [.ref q1, .null, .null, .int 0, .int 0, .int 0, .int 0])), (q1, .inl (cI, 4, .inl fF))]) (w1 := [(q2, .inr (6, [.int 0, .ref (u4 0), .ref (u4 1), .ref (u4 2), .ref (u4 3), .ref (u4 4), .ref (u4 5), .ref (u4 6), .ref (u4 7), .ref (u4 8)])), ((u4 0), .inl (cI, 8, .inl r3.1)), ((u4 1), .inl (cI, 8, .inl r3.2.1)), ((u4 2), .inl (cI, 8, .inl r3.2.2.1)), ((u4 3), .inl (cI, 8, .inl r3.2.2.2.1)), ((u4 4), .inl (cI, 8, .inl r3.2.2.2.2.1)), ((u4 5), .inl (cI, 8, .inl r3.2.2.2.2.2.1)), ((u4 6), .inl (cI, 8, .inl r3.2.2.2.2.2.2.1)), ((u4 7), .inl (cI, 8, .inl r3.2.2.2.2.2.2.2.1)), ((u4 8), .inl (cI, 8, .inl r3.2.2.2.2.2.2.2.2))]) hP hD [2] [0, 1] rfl rfl (by decide) (by decide) hk1 hFc hP1 hD1
  generalize H1 = H at hP hS ⊢
  have hP : va_P D vwCl [(sc, .inr (5, [.ref q1, .null, .null, .int 0, .int 0, .int 0, .int 0])), (q1, .inl (cI, 4, .inl fF)), (q2, .inr (6, [.int 0, .ref (u4 0), .ref (u4 1), .ref (u4 2), .ref (u4 3), .ref (u4 4), .ref (u4 5), .ref (u4 6), .ref (u4 7), .ref (u4 8)])), ((u4 0), .inl (cI, 8, .inl r3.1)), ((u4 1), .inl (cI, 8, .inl r3.2.1)), ((u4 2), .inl (cI, 8, .inl r3.2.2.1)), ((u4 3), .inl (cI, 8, .inl r3.2.2.2.1)), ((u4 4), .inl (cI, 8, .inl r3.2.2.2.2.1)), ((u4 5), .inl (cI, 8, .inl r3.2.2.2.2.2.1)), ((u4 6), .inl (cI, 8, .inl r3.2.2.2.2.2.2.1)), ((u4 7), .inl (cI, 8, .inl r3.2.2.2.2.2.2.2.1)), ((u4 8), .inl (cI, 8, .inl r3.2.2.2.2.2.2.2.2))] H := hP
  have hD : va_D A [(sc, .inr (5, [.ref q1, .null, .null, .int 0, .int 0, .int 0, .int 0])), (q1, .inl (cI, 4, .inl fF)), (q2, .inr (6, [.int 0, .ref (u4 0), .ref (u4 1), .ref (u4 2), .ref (u4 3), .ref (u4 4), .ref (u4 5), .ref (u4 6), .ref (u4 7), .ref (u4 8)])), ((u4 0), .inl (cI, 8, .inl r3.1)), ((u4 1), .inl (cI, 8, .inl r3.2.1)), ((u4 2), .inl (cI, 8, .inl r3.2.2.1)), ((u4 3), .inl (cI, 8, .inl r3.2.2.2.1)), ((u4 4), .inl (cI, 8, .inl r3.2.2.2.2.1)), ((u4 5), .inl (cI, 8, .inl r3.2.2.2.2.2.1)), ((u4 6), .inl (cI, 8, .inl r3.2.2.2.2.2.2.1)), ((u4 7), .inl (cI, 8, .inl r3.2.2.2.2.2.2.2.1)), ((u4 8), .inl (cI, 8, .inl r3.2.2.2.2.2.2.2.2))] := hD
  refine va_putF (D := D) (ci := 5) (v := .ref q2) (ty := (.object "LeaningLines$Things")) (C := RX5) (T := TX5) (N := 7) hx hb hts uX5_init_X5 tyX5 tyX5_ok nmX5 hown hK.1 hP hD hS 0 rfl rfl 1 (by decide) (hts _ kX5_init_16) (fun _ h9 => h9) rfl hin rfl (by decide +kernel) rfl rfl (Nat.le_of_ble_eq_true rfl) dX5_init_25 (fun H locs hP hD hS => ?_)
  have hP : va_P D vwCl [(sc, .inr (5, [.ref q1, .ref q2, .null, .int 0, .int 0, .int 0, .int 0])), (q1, .inl (cI, 4, .inl fF)), (q2, .inr (6, [.int 0, .ref (u4 0), .ref (u4 1), .ref (u4 2), .ref (u4 3), .ref (u4 4), .ref (u4 5), .ref (u4 6), .ref (u4 7), .ref (u4 8)])), ((u4 0), .inl (cI, 8, .inl r3.1)), ((u4 1), .inl (cI, 8, .inl r3.2.1)), ((u4 2), .inl (cI, 8, .inl r3.2.2.1)), ((u4 3), .inl (cI, 8, .inl r3.2.2.2.1)), ((u4 4), .inl (cI, 8, .inl r3.2.2.2.2.1)), ((u4 5), .inl (cI, 8, .inl r3.2.2.2.2.2.1)), ((u4 6), .inl (cI, 8, .inl r3.2.2.2.2.2.2.1)), ((u4 7), .inl (cI, 8, .inl r3.2.2.2.2.2.2.2.1)), ((u4 8), .inl (cI, 8, .inl r3.2.2.2.2.2.2.2.2))] H := hP
  have hD : va_D A [(sc, .inr (5, [.ref q1, .ref q2, .null, .int 0, .int 0, .int 0, .int 0])), (q1, .inl (cI, 4, .inl fF)), (q2, .inr (6, [.int 0, .ref (u4 0), .ref (u4 1), .ref (u4 2), .ref (u4 3), .ref (u4 4), .ref (u4 5), .ref (u4 6), .ref (u4 7), .ref (u4 8)])), ((u4 0), .inl (cI, 8, .inl r3.1)), ((u4 1), .inl (cI, 8, .inl r3.2.1)), ((u4 2), .inl (cI, 8, .inl r3.2.2.1)), ((u4 3), .inl (cI, 8, .inl r3.2.2.2.1)), ((u4 4), .inl (cI, 8, .inl r3.2.2.2.2.1)), ((u4 5), .inl (cI, 8, .inl r3.2.2.2.2.2.1)), ((u4 6), .inl (cI, 8, .inl r3.2.2.2.2.2.2.1)), ((u4 7), .inl (cI, 8, .inl r3.2.2.2.2.2.2.2.1)), ((u4 8), .inl (cI, 8, .inl r3.2.2.2.2.2.2.2.2))] := hD
  refine lv_aload_n hx hb dX5_init_28 rfl (lv_at hl 0 rfl) ?_
  refine va_new (D := D) (ci := 3) (fs := [.null]) (C := RX3) (T := TX3) (N := 1) hx hb hts uX5_init_X3 tyX3 tyX3_ok hown (hts _ kX5_init_18) (hts _ kX5_init_19) (hts _ kX5_init_20) hK.1 hP hD hS hA rfl (fun j hj => by rcases (show j = 0 by omega) with rfl <;> rfl) (Nat.le_of_ble_eq_true rfl) (Nat.le_of_ble_eq_true rfl) dX5_init_29 (fun q5 H hP hD hS => ?_)
  have hP : va_P D vwCl [(sc, .inr (5, [.ref q1, .ref q2, .null, .int 0, .int 0, .int 0, .int 0])), (q1, .inl (cI, 4, .inl fF)), (q2, .inr (6, [.int 0, .ref (u4 0), .ref (u4 1), .ref (u4 2), .ref (u4 3), .ref (u4 4), .ref (u4 5), .ref (u4 6), .ref (u4 7), .ref (u4 8)])), ((u4 0), .inl (cI, 8, .inl r3.1)), ((u4 1), .inl (cI, 8, .inl r3.2.1)), ((u4 2), .inl (cI, 8, .inl r3.2.2.1)), ((u4 3), .inl (cI, 8, .inl r3.2.2.2.1)), ((u4 4), .inl (cI, 8, .inl r3.2.2.2.2.1)), ((u4 5), .inl (cI, 8, .inl r3.2.2.2.2.2.1)), ((u4 6), .inl (cI, 8, .inl r3.2.2.2.2.2.2.1)), ((u4 7), .inl (cI, 8, .inl r3.2.2.2.2.2.2.2.1)), ((u4 8), .inl (cI, 8, .inl r3.2.2.2.2.2.2.2.2)), (q5, .inr (3, [.null]))] H := hP
  have hD : va_D A [(sc, .inr (5, [.ref q1, .ref q2, .null, .int 0, .int 0, .int 0, .int 0])), (q1, .inl (cI, 4, .inl fF)), (q2, .inr (6, [.int 0, .ref (u4 0), .ref (u4 1), .ref (u4 2), .ref (u4 3), .ref (u4 4), .ref (u4 5), .ref (u4 6), .ref (u4 7), .ref (u4 8)])), ((u4 0), .inl (cI, 8, .inl r3.1)), ((u4 1), .inl (cI, 8, .inl r3.2.1)), ((u4 2), .inl (cI, 8, .inl r3.2.2.1)), ((u4 3), .inl (cI, 8, .inl r3.2.2.2.1)), ((u4 4), .inl (cI, 8, .inl r3.2.2.2.2.1)), ((u4 5), .inl (cI, 8, .inl r3.2.2.2.2.2.1)), ((u4 6), .inl (cI, 8, .inl r3.2.2.2.2.2.2.1)), ((u4 7), .inl (cI, 8, .inl r3.2.2.2.2.2.2.2.1)), ((u4 8), .inl (cI, 8, .inl r3.2.2.2.2.2.2.2.2)), (q5, .inr (3, [.null]))] := hD
  refine lv_dup hx hb dX5_init_32 rfl ?_
  obtain ⟨r6, hcr6, h⟩ := bn_sp h
  have hPc := hP.sub (ws' := (ws_pictureN cI cC cZ cR q5 )) [12] rfl
  have hDc := hD.sub (ws' := (ws_pictureN cI cC cZ cR q5 )) [12] (by decide) rfl
  have hFc := va_free (wc := (ws_pictureN cI cC cZ cR q5 )) hD hS hA [12] rfl
  refine va_callv (va_runIN (As := []) (rest := [.ref q5, .ref sc]) ⟨hx, hb, hml, hown, hts⟩ (m_X3_init l D cI cC cZ cR q5 _     r6 hcr6) ⟨va_cnB (host := "LeaningLines") 0 hts gX5_init_X3_init_n32 rfl rfl rfl hK.2.2.2.1 (hts _ kX5_init_20) (by decide +kernel) ⟨Nat.le_of_ble_eq_true rfl, Nat.le_of_ble_eq_true rfl⟩, rfl, hts _ kX5_init_21⟩ (cPc_ps hPc hK hDc) rfl rfl hl.1 rfl (lv_room (Nat.le_of_ble_eq_true rfl)) dX5_init_33 ⟨Nat.le_of_ble_eq_true rfl, Nat.le_of_ble_eq_true rfl⟩) hS (fun q _ h => hFc q h) hFc (fun u7 t H1 locs ht hvm hw hB hz1 hk1 hS => ?_)
  obtain ⟨hP1, hD1⟩ := hB
  rw [ht] at hP1
  obtain ⟨hP, hD⟩ := va_join (wr := [(sc, .inr (5, [.ref q1, .ref q2, .null, .int 0, .int 0, .int 0, .int 0])), (q1, .inl (cI, 4, .inl fF)), (q2, .inr (6, [.int 0, .ref (u4 0), .ref (u4 1), .ref (u4 2), .ref (u4 3), .ref (u4 4), .ref (u4 5), .ref (u4 6), .ref (u4 7), .ref (u4 8)])), ((u4 0), .inl (cI, 8, .inl r3.1)), ((u4 1), .inl (cI, 8, .inl r3.2.1)), ((u4 2), .inl (cI, 8, .inl r3.2.2.1)), ((u4 3), .inl (cI, 8, .inl r3.2.2.2.1)), ((u4 4), .inl (cI, 8, .inl r3.2.2.2.2.1)), ((u4 5), .inl (cI, 8, .inl r3.2.2.2.2.2.1)), ((u4 6), .inl (cI, 8, .inl r3.2.2.2.2.2.2.1)), ((u4 7), .inl (cI, 8, .inl r3.2.2.2.2.2.2.2.1)), ((u4 8), .inl (cI, 8, .inl r3.2.2.2.2.2.2.2.2))]) (w1 := [(q5, .inr (3, [.ref (u7 0)])), ((u7 0), .inl (cI, 384, .inl r6))]) hP hD [12] [0, 1, 2, 3, 4, 5, 6, 7, 8, 9, 10, 11] rfl rfl (by decide) (by decide) hk1 hFc hP1 hD1
  generalize H1 = H at hP hS ⊢
  have hP : va_P D vwCl [(sc, .inr (5, [.ref q1, .ref q2, .null, .int 0, .int 0, .int 0, .int 0])), (q1, .inl (cI, 4, .inl fF)), (q2, .inr (6, [.int 0, .ref (u4 0), .ref (u4 1), .ref (u4 2), .ref (u4 3), .ref (u4 4), .ref (u4 5), .ref (u4 6), .ref (u4 7), .ref (u4 8)])), ((u4 0), .inl (cI, 8, .inl r3.1)), ((u4 1), .inl (cI, 8, .inl r3.2.1)), ((u4 2), .inl (cI, 8, .inl r3.2.2.1)), ((u4 3), .inl (cI, 8, .inl r3.2.2.2.1)), ((u4 4), .inl (cI, 8, .inl r3.2.2.2.2.1)), ((u4 5), .inl (cI, 8, .inl r3.2.2.2.2.2.1)), ((u4 6), .inl (cI, 8, .inl r3.2.2.2.2.2.2.1)), ((u4 7), .inl (cI, 8, .inl r3.2.2.2.2.2.2.2.1)), ((u4 8), .inl (cI, 8, .inl r3.2.2.2.2.2.2.2.2)), (q5, .inr (3, [.ref (u7 0)])), ((u7 0), .inl (cI, 384, .inl r6))] H := hP
  have hD : va_D A [(sc, .inr (5, [.ref q1, .ref q2, .null, .int 0, .int 0, .int 0, .int 0])), (q1, .inl (cI, 4, .inl fF)), (q2, .inr (6, [.int 0, .ref (u4 0), .ref (u4 1), .ref (u4 2), .ref (u4 3), .ref (u4 4), .ref (u4 5), .ref (u4 6), .ref (u4 7), .ref (u4 8)])), ((u4 0), .inl (cI, 8, .inl r3.1)), ((u4 1), .inl (cI, 8, .inl r3.2.1)), ((u4 2), .inl (cI, 8, .inl r3.2.2.1)), ((u4 3), .inl (cI, 8, .inl r3.2.2.2.1)), ((u4 4), .inl (cI, 8, .inl r3.2.2.2.2.1)), ((u4 5), .inl (cI, 8, .inl r3.2.2.2.2.2.1)), ((u4 6), .inl (cI, 8, .inl r3.2.2.2.2.2.2.1)), ((u4 7), .inl (cI, 8, .inl r3.2.2.2.2.2.2.2.1)), ((u4 8), .inl (cI, 8, .inl r3.2.2.2.2.2.2.2.2)), (q5, .inr (3, [.ref (u7 0)])), ((u7 0), .inl (cI, 384, .inl r6))] := hD
  refine va_putF (D := D) (ci := 5) (v := .ref q5) (ty := (.object "LeaningLines$Picture")) (C := RX5) (T := TX5) (N := 7) hx hb hts uX5_init_X5 tyX5 tyX5_ok nmX5 hown hK.1 hP hD hS 0 rfl rfl 2 (by decide) (hts _ kX5_init_22) (fun _ h9 => h9) rfl hin rfl (by decide +kernel) rfl rfl (Nat.le_of_ble_eq_true rfl) dX5_init_36 (fun H locs hP hD hS => ?_)
  have hP : va_P D vwCl [(sc, .inr (5, [.ref q1, .ref q2, .ref q5, .int 0, .int 0, .int 0, .int 0])), (q1, .inl (cI, 4, .inl fF)), (q2, .inr (6, [.int 0, .ref (u4 0), .ref (u4 1), .ref (u4 2), .ref (u4 3), .ref (u4 4), .ref (u4 5), .ref (u4 6), .ref (u4 7), .ref (u4 8)])), ((u4 0), .inl (cI, 8, .inl r3.1)), ((u4 1), .inl (cI, 8, .inl r3.2.1)), ((u4 2), .inl (cI, 8, .inl r3.2.2.1)), ((u4 3), .inl (cI, 8, .inl r3.2.2.2.1)), ((u4 4), .inl (cI, 8, .inl r3.2.2.2.2.1)), ((u4 5), .inl (cI, 8, .inl r3.2.2.2.2.2.1)), ((u4 6), .inl (cI, 8, .inl r3.2.2.2.2.2.2.1)), ((u4 7), .inl (cI, 8, .inl r3.2.2.2.2.2.2.2.1)), ((u4 8), .inl (cI, 8, .inl r3.2.2.2.2.2.2.2.2)), (q5, .inr (3, [.ref (u7 0)])), ((u7 0), .inl (cI, 384, .inl r6))] H := hP
  have hD : va_D A [(sc, .inr (5, [.ref q1, .ref q2, .ref q5, .int 0, .int 0, .int 0, .int 0])), (q1, .inl (cI, 4, .inl fF)), (q2, .inr (6, [.int 0, .ref (u4 0), .ref (u4 1), .ref (u4 2), .ref (u4 3), .ref (u4 4), .ref (u4 5), .ref (u4 6), .ref (u4 7), .ref (u4 8)])), ((u4 0), .inl (cI, 8, .inl r3.1)), ((u4 1), .inl (cI, 8, .inl r3.2.1)), ((u4 2), .inl (cI, 8, .inl r3.2.2.1)), ((u4 3), .inl (cI, 8, .inl r3.2.2.2.1)), ((u4 4), .inl (cI, 8, .inl r3.2.2.2.2.1)), ((u4 5), .inl (cI, 8, .inl r3.2.2.2.2.2.1)), ((u4 6), .inl (cI, 8, .inl r3.2.2.2.2.2.2.1)), ((u4 7), .inl (cI, 8, .inl r3.2.2.2.2.2.2.2.1)), ((u4 8), .inl (cI, 8, .inl r3.2.2.2.2.2.2.2.2)), (q5, .inr (3, [.ref (u7 0)])), ((u7 0), .inl (cI, 384, .inl r6))] := hD
  refine lv_aload_n hx hb dX5_init_39 rfl (lv_at hl 0 rfl) ?_
  refine lv_iconst (v := 0) hx hb dX5_init_40 (by decide) ?_
  refine va_put (D := D) (ci := 5) (v := .int 0) (ty := .int) (C := RX5) (T := TX5) (N := 7) hx hb hts uX5_init_X5 tyX5 tyX5_ok nmX5 hown hK.1 hP hD hS 0 rfl rfl 3 (by decide) (hts _ kX5_init_23) (fun _ h9 => h9) rfl (by decide +kernel) rfl rfl (Nat.le_of_ble_eq_true rfl) dX5_init_41 (fun H locs hP hD hS => ?_)
  have hP : va_P D vwCl [(sc, .inr (5, [.ref q1, .ref q2, .ref q5, .int 0, .int 0, .int 0, .int 0])), (q1, .inl (cI, 4, .inl fF)), (q2, .inr (6, [.int 0, .ref (u4 0), .ref (u4 1), .ref (u4 2), .ref (u4 3), .ref (u4 4), .ref (u4 5), .ref (u4 6), .ref (u4 7), .ref (u4 8)])), ((u4 0), .inl (cI, 8, .inl r3.1)), ((u4 1), .inl (cI, 8, .inl r3.2.1)), ((u4 2), .inl (cI, 8, .inl r3.2.2.1)), ((u4 3), .inl (cI, 8, .inl r3.2.2.2.1)), ((u4 4), .inl (cI, 8, .inl r3.2.2.2.2.1)), ((u4 5), .inl (cI, 8, .inl r3.2.2.2.2.2.1)), ((u4 6), .inl (cI, 8, .inl r3.2.2.2.2.2.2.1)), ((u4 7), .inl (cI, 8, .inl r3.2.2.2.2.2.2.2.1)), ((u4 8), .inl (cI, 8, .inl r3.2.2.2.2.2.2.2.2)), (q5, .inr (3, [.ref (u7 0)])), ((u7 0), .inl (cI, 384, .inl r6))] H := hP
  have hD : va_D A [(sc, .inr (5, [.ref q1, .ref q2, .ref q5, .int 0, .int 0, .int 0, .int 0])), (q1, .inl (cI, 4, .inl fF)), (q2, .inr (6, [.int 0, .ref (u4 0), .ref (u4 1), .ref (u4 2), .ref (u4 3), .ref (u4 4), .ref (u4 5), .ref (u4 6), .ref (u4 7), .ref (u4 8)])), ((u4 0), .inl (cI, 8, .inl r3.1)), ((u4 1), .inl (cI, 8, .inl r3.2.1)), ((u4 2), .inl (cI, 8, .inl r3.2.2.1)), ((u4 3), .inl (cI, 8, .inl r3.2.2.2.1)), ((u4 4), .inl (cI, 8, .inl r3.2.2.2.2.1)), ((u4 5), .inl (cI, 8, .inl r3.2.2.2.2.2.1)), ((u4 6), .inl (cI, 8, .inl r3.2.2.2.2.2.2.1)), ((u4 7), .inl (cI, 8, .inl r3.2.2.2.2.2.2.2.1)), ((u4 8), .inl (cI, 8, .inl r3.2.2.2.2.2.2.2.2)), (q5, .inr (3, [.ref (u7 0)])), ((u7 0), .inl (cI, 384, .inl r6))] := hD
  refine lv_aload_n hx hb dX5_init_44 rfl (lv_at hl 0 rfl) ?_
  refine lv_iconst (v := 0) hx hb dX5_init_45 (by decide) ?_
  refine va_put (D := D) (ci := 5) (v := .int 0) (ty := .int) (C := RX5) (T := TX5) (N := 7) hx hb hts uX5_init_X5 tyX5 tyX5_ok nmX5 hown hK.1 hP hD hS 0 rfl rfl 4 (by decide) (hts _ kX5_init_24) (fun _ h9 => h9) rfl (by decide +kernel) rfl rfl (Nat.le_of_ble_eq_true rfl) dX5_init_46 (fun H locs hP hD hS => ?_)
  have hP : va_P D vwCl [(sc, .inr (5, [.ref q1, .ref q2, .ref q5, .int 0, .int 0, .int 0, .int 0])), (q1, .inl (cI, 4, .inl fF)), (q2, .inr (6, [.int 0, .ref (u4 0), .ref (u4 1), .ref (u4 2), .ref (u4 3), .ref (u4 4), .ref (u4 5), .ref (u4 6), .ref (u4 7), .ref (u4 8)])), ((u4 0), .inl (cI, 8, .inl r3.1)), ((u4 1), .inl (cI, 8, .inl r3.2.1)), ((u4 2), .inl (cI, 8, .inl r3.2.2.1)), ((u4 3), .inl (cI, 8, .inl r3.2.2.2.1)), ((u4 4), .inl (cI, 8, .inl r3.2.2.2.2.1)), ((u4 5), .inl (cI, 8, .inl r3.2.2.2.2.2.1)), ((u4 6), .inl (cI, 8, .inl r3.2.2.2.2.2.2.1)), ((u4 7), .inl (cI, 8, .inl r3.2.2.2.2.2.2.2.1)), ((u4 8), .inl (cI, 8, .inl r3.2.2.2.2.2.2.2.2)), (q5, .inr (3, [.ref (u7 0)])), ((u7 0), .inl (cI, 384, .inl r6))] H := hP
  have hD : va_D A [(sc, .inr (5, [.ref q1, .ref q2, .ref q5, .int 0, .int 0, .int 0, .int 0])), (q1, .inl (cI, 4, .inl fF)), (q2, .inr (6, [.int 0, .ref (u4 0), .ref (u4 1), .ref (u4 2), .ref (u4 3), .ref (u4 4), .ref (u4 5), .ref (u4 6), .ref (u4 7), .ref (u4 8)])), ((u4 0), .inl (cI, 8, .inl r3.1)), ((u4 1), .inl (cI, 8, .inl r3.2.1)), ((u4 2), .inl (cI, 8, .inl r3.2.2.1)), ((u4 3), .inl (cI, 8, .inl r3.2.2.2.1)), ((u4 4), .inl (cI, 8, .inl r3.2.2.2.2.1)), ((u4 5), .inl (cI, 8, .inl r3.2.2.2.2.2.1)), ((u4 6), .inl (cI, 8, .inl r3.2.2.2.2.2.2.1)), ((u4 7), .inl (cI, 8, .inl r3.2.2.2.2.2.2.2.1)), ((u4 8), .inl (cI, 8, .inl r3.2.2.2.2.2.2.2.2)), (q5, .inr (3, [.ref (u7 0)])), ((u7 0), .inl (cI, 384, .inl r6))] := hD
  refine lv_aload_n hx hb dX5_init_49 rfl (lv_at hl 0 rfl) ?_
  refine lv_bipush (v := (-6)) hx hb dX5_init_50 (by decide) ?_
  refine va_put (D := D) (ci := 5) (v := .int (-6)) (ty := .int) (C := RX5) (T := TX5) (N := 7) hx hb hts uX5_init_X5 tyX5 tyX5_ok nmX5 hown hK.1 hP hD hS 0 rfl rfl 5 (by decide) (hts _ kX5_init_25) (fun _ h9 => h9) rfl (by decide +kernel) rfl rfl (Nat.le_of_ble_eq_true rfl) dX5_init_52 (fun H locs hP hD hS => ?_)
  have hP : va_P D vwCl [(sc, .inr (5, [.ref q1, .ref q2, .ref q5, .int 0, .int 0, .int (-6), .int 0])), (q1, .inl (cI, 4, .inl fF)), (q2, .inr (6, [.int 0, .ref (u4 0), .ref (u4 1), .ref (u4 2), .ref (u4 3), .ref (u4 4), .ref (u4 5), .ref (u4 6), .ref (u4 7), .ref (u4 8)])), ((u4 0), .inl (cI, 8, .inl r3.1)), ((u4 1), .inl (cI, 8, .inl r3.2.1)), ((u4 2), .inl (cI, 8, .inl r3.2.2.1)), ((u4 3), .inl (cI, 8, .inl r3.2.2.2.1)), ((u4 4), .inl (cI, 8, .inl r3.2.2.2.2.1)), ((u4 5), .inl (cI, 8, .inl r3.2.2.2.2.2.1)), ((u4 6), .inl (cI, 8, .inl r3.2.2.2.2.2.2.1)), ((u4 7), .inl (cI, 8, .inl r3.2.2.2.2.2.2.2.1)), ((u4 8), .inl (cI, 8, .inl r3.2.2.2.2.2.2.2.2)), (q5, .inr (3, [.ref (u7 0)])), ((u7 0), .inl (cI, 384, .inl r6))] H := hP
  have hD : va_D A [(sc, .inr (5, [.ref q1, .ref q2, .ref q5, .int 0, .int 0, .int (-6), .int 0])), (q1, .inl (cI, 4, .inl fF)), (q2, .inr (6, [.int 0, .ref (u4 0), .ref (u4 1), .ref (u4 2), .ref (u4 3), .ref (u4 4), .ref (u4 5), .ref (u4 6), .ref (u4 7), .ref (u4 8)])), ((u4 0), .inl (cI, 8, .inl r3.1)), ((u4 1), .inl (cI, 8, .inl r3.2.1)), ((u4 2), .inl (cI, 8, .inl r3.2.2.1)), ((u4 3), .inl (cI, 8, .inl r3.2.2.2.1)), ((u4 4), .inl (cI, 8, .inl r3.2.2.2.2.1)), ((u4 5), .inl (cI, 8, .inl r3.2.2.2.2.2.1)), ((u4 6), .inl (cI, 8, .inl r3.2.2.2.2.2.2.1)), ((u4 7), .inl (cI, 8, .inl r3.2.2.2.2.2.2.2.1)), ((u4 8), .inl (cI, 8, .inl r3.2.2.2.2.2.2.2.2)), (q5, .inr (3, [.ref (u7 0)])), ((u7 0), .inl (cI, 384, .inl r6))] := hD
  refine lv_aload_n hx hb dX5_init_55 rfl (lv_at hl 0 rfl) ?_
  refine lv_iconst (v := 0) hx hb dX5_init_56 (by decide) ?_
  refine va_put (D := D) (ci := 5) (v := .int 0) (ty := .int) (C := RX5) (T := TX5) (N := 7) hx hb hts uX5_init_X5 tyX5 tyX5_ok nmX5 hown hK.1 hP hD hS 0 rfl rfl 6 (by decide) (hts _ kX5_init_26) (fun _ h9 => h9) rfl (by decide +kernel) rfl rfl (Nat.le_of_ble_eq_true rfl) dX5_init_57 (fun H locs hP hD hS => ?_)
  have hP : va_P D vwCl [(sc, .inr (5, [.ref q1, .ref q2, .ref q5, .int 0, .int 0, .int (-6), .int 0])), (q1, .inl (cI, 4, .inl fF)), (q2, .inr (6, [.int 0, .ref (u4 0), .ref (u4 1), .ref (u4 2), .ref (u4 3), .ref (u4 4), .ref (u4 5), .ref (u4 6), .ref (u4 7), .ref (u4 8)])), ((u4 0), .inl (cI, 8, .inl r3.1)), ((u4 1), .inl (cI, 8, .inl r3.2.1)), ((u4 2), .inl (cI, 8, .inl r3.2.2.1)), ((u4 3), .inl (cI, 8, .inl r3.2.2.2.1)), ((u4 4), .inl (cI, 8, .inl r3.2.2.2.2.1)), ((u4 5), .inl (cI, 8, .inl r3.2.2.2.2.2.1)), ((u4 6), .inl (cI, 8, .inl r3.2.2.2.2.2.2.1)), ((u4 7), .inl (cI, 8, .inl r3.2.2.2.2.2.2.2.1)), ((u4 8), .inl (cI, 8, .inl r3.2.2.2.2.2.2.2.2)), (q5, .inr (3, [.ref (u7 0)])), ((u7 0), .inl (cI, 384, .inl r6))] H := hP
  have hD : va_D A [(sc, .inr (5, [.ref q1, .ref q2, .ref q5, .int 0, .int 0, .int (-6), .int 0])), (q1, .inl (cI, 4, .inl fF)), (q2, .inr (6, [.int 0, .ref (u4 0), .ref (u4 1), .ref (u4 2), .ref (u4 3), .ref (u4 4), .ref (u4 5), .ref (u4 6), .ref (u4 7), .ref (u4 8)])), ((u4 0), .inl (cI, 8, .inl r3.1)), ((u4 1), .inl (cI, 8, .inl r3.2.1)), ((u4 2), .inl (cI, 8, .inl r3.2.2.1)), ((u4 3), .inl (cI, 8, .inl r3.2.2.2.1)), ((u4 4), .inl (cI, 8, .inl r3.2.2.2.2.1)), ((u4 5), .inl (cI, 8, .inl r3.2.2.2.2.2.1)), ((u4 6), .inl (cI, 8, .inl r3.2.2.2.2.2.2.1)), ((u4 7), .inl (cI, 8, .inl r3.2.2.2.2.2.2.2.1)), ((u4 8), .inl (cI, 8, .inl r3.2.2.2.2.2.2.2.2)), (q5, .inr (3, [.ref (u7 0)])), ((u7 0), .inl (cI, 384, .inl r6))] := hD
  have e9 := Option.some.inj h
  subst e9
  rw [hQ]
  exact W.vret hx hb hr (fun t ht hW => ⟨⟨(fun k => ([q1, q2, (u4 0), (u4 1), (u4 2), (u4 3), (u4 4), (u4 5), (u4 6), (u4 7), (u4 8), q5, (u7 0)] : List Nat).getD k 0), rfl, trivial, by rw [ht]; exact hP, hD⟩, hS.F ht⟩) hS.2.2 dX5_init_60
