abbrev ws_model (cI cC cZ cR : ClassId) (mo mo1 mo2 mo3 mo4 mo5 : Nat) (kn : Int32) (le_ : Int32) (s_ : Nat → Int32) (past : Nat → Int32) (slo : Nat → Int32) (isv : Nat → Int32) (pad_ : Nat → Int32) : va_W := [(mo, .inr (8, [.ref mo1, .ref mo2, .int kn, .ref mo3, .ref mo4, .ref mo5, .int le_])), (mo1, .inl (cI, 465, .inl s_)), (mo2, .inl (cI, 2790, .inl past)), (mo3, .inl (cI, 930, .inl slo)), (mo4, .inl (cZ, 2, .inl isv)), (mo5, .inl (cI, 80, .inl pad_))]
-- LeaningLinesModel.in
abbrev OUT_X8_in : Type := Int32
def f_X8_in (a0 : Int32) (a1 : Int32) (a2 : Int32) : Option OUT_X8_in :=
  (if a0 < a1 then some (0) else (if a2 < a0 then some (0) else some (1)))
abbrev R_X8_in : Room := { frames := 0, cells := 0, slots := 0, locals := 0 }
set_option maxHeartbeats 4000000 in
set_option maxRecDepth 100000 in
theorem m_X8_in (l : Launch) (D : va_G) (cI cC cZ cR : ClassId)  (sz : Nat)   (a0 : Int32) (a1 : Int32) (a2 : Int32)   (r : OUT_X8_in) (hf : f_X8_in a0 a1 a2 = some r) : Met l yX8_in wsX8_in R_X8_in (cPc D cI cC cZ cR [.int a0, .int a1, .int a2] sz []) (cQi D [] (va_A [] sz) r) 0 0 (va_A [] sz) := by
  refine Met.ofW (cc := cX8_in) (maxL := 3) (ret := (some .boolean)) (by decide) rfl ?_
  intro p e s m args below meth c s₁ B hml hv
  obtain ⟨rfl, hsz, hP, hK, hD0⟩ := hv
  have hx := B.exec
  have hb := B.bytes
  have hr := B.returns
  have hts := atoms_spec (ws := wsX8_in) B.pre
  have hown : s.vm.findClass RX8 = some m.cls := findClass_of_methodNamed B.named
  have hlocks := B.notSynchronized
  subst hsz
  have hD := hD0.self (sz := s.heap.size)
  generalize hAe : va_A [] s.heap.size = A at hD ⊢
  skip
  have hA : ∀ q : Nat, s.heap.size ≤ q → A q := fun q h => by rw [← hAe]; exact Or.inr h
  have hS : va_S A s.heap s.heap [] := va_S.rf
  have hl := lv_entry ([.int a0, .int a1, .int a2]) (n := 3) (Nat.le_of_ble_eq_true rfl)
  rw [lg_entry_eq]
  generalize (lg_sl ([.int a0, .int a1, .int a2]) ++ List.replicate (3 - (lg_sl ([.int a0, .int a1, .int a2])).length) Slot.unset).toArray = ls at hl ⊢
  have hl : lv_has ls 3 [(0, .int a0), (1, .int a1), (2, .int a2)] := hl
  refine W_absQ (fun Q hQ => ?_)
  refine W.eq (g2 := F0 m 0 ls []) rfl ?_
  have h := hf
  unfold f_X8_in at h
  refine lv_iload_n hx hb dX8_in_0 rfl (lv_at hl 0 rfl) ?_
  refine lv_iload_n hx hb dX8_in_1 rfl (lv_at hl 1 rfl) ?_
  refine lv_icmp_lt (tgt := 14) hx hb dX8_in_2 (by decide) (fun c2 => ?_) (fun c2 => ?_)
  · replace h := br_p c2 h
    refine lv_iconst (v := 0) hx hb dX8_in_14 (by decide) ?_
    have e9 := Option.some.inj h
    subst e9
    rw [hQ]
    exact W.zret (v := 0) hx hb hr rfl (fun t ht hW => ⟨⟨0, (), rfl, rfl, by rw [ht]; exact hP, hD⟩, hS.F ht⟩) hS.2.2 dX8_in_15
  · replace h := br_n c2 h
    refine lv_iload_n hx hb dX8_in_5 rfl (lv_at hl 0 rfl) ?_
    refine lv_iload_n hx hb dX8_in_6 rfl (lv_at hl 2 rfl) ?_
    refine lv_icmp_gt (tgt := 14) hx hb dX8_in_7 (by decide) (fun c1 => ?_) (fun c1 => ?_)
    · replace h := br_p c1 h
      refine lv_iconst (v := 0) hx hb dX8_in_14 (by decide) ?_
      have e9 := Option.some.inj h
      subst e9
      rw [hQ]
      exact W.zret (v := 0) hx hb hr rfl (fun t ht hW => ⟨⟨0, (), rfl, rfl, by rw [ht]; exact hP, hD⟩, hS.F ht⟩) hS.2.2 dX8_in_15
    · replace h := br_n c1 h
      refine lv_iconst (v := 1) hx hb dX8_in_10 (by decide) ?_
      refine lv_goto (tgt := 15) hx hb dX8_in_11 (by decide) ?_
      have e9 := Option.some.inj h
      subst e9
      rw [hQ]
      exact W.zret (v := 1) hx hb hr rfl (fun t ht hW => ⟨⟨1, (), rfl, rfl, by rw [ht]; exact hP, hD⟩, hS.F ht⟩) hS.2.2 dX8_in_15
-- LeaningLinesModel.its
abbrev OUT_X8_its : Type := Int32
def f_X8_its (s_ : Nat → Int32) (a0 : Int32) (a1 : Int32) : Option OUT_X8_its :=
  gd ((9 + (9 * a0)) + a1) 465 (some (s_ ((9 + (9 * a0)) + a1 : Int32).toNatClampNeg))
theorem uX8_its_X8 : ∀ w ∈ wsX80, w ∈ wsX8_its := by decide +kernel
theorem kX8_its_1 : Cond.fieldLink RX8 7 "LeaningLinesModel" "s" "[I" ∈ wsX8_its := by decide +kernel
abbrev R_X8_its : Room := { frames := 0, cells := 0, slots := 0, locals := 0 }
set_option maxHeartbeats 4000000 in
set_option maxRecDepth 100000 in
theorem m_X8_its (l : Launch) (D : va_G) (cI cC cZ cR : ClassId) (mo mo1 mo2 mo3 mo4 mo5 : Nat) (sz : Nat) (kn : Int32) (le_ : Int32) (s_ : Nat → Int32) (past : Nat → Int32) (slo : Nat → Int32) (isv : Nat → Int32) (pad_ : Nat → Int32)  (a0 : Int32) (a1 : Int32)   (r : OUT_X8_its) (hf : f_X8_its s_ a0 a1 = some r) : Met l yX8_its wsX8_its R_X8_its (cPc D cI cC cZ cR [.ref mo, .int a0, .int a1] sz (ws_model cI cC cZ cR mo mo1 mo2 mo3 mo4 mo5 kn le_ s_ past slo isv pad_)) (cQi D (ws_model cI cC cZ cR mo mo1 mo2 mo3 mo4 mo5 kn le_ s_ past slo isv pad_) (va_A (ws_model cI cC cZ cR mo mo1 mo2 mo3 mo4 mo5 kn le_ s_ past slo isv pad_) sz) r) 0 0 (va_A (ws_model cI cC cZ cR mo mo1 mo2 mo3 mo4 mo5 kn le_ s_ past slo isv pad_) sz) := by
  refine Met.ofW (cc := cX8_its) (maxL := 3) (ret := (some .int)) (by decide) rfl ?_
  intro p e s m args below meth c s₁ B hml hv
  obtain ⟨rfl, hsz, hP, hK, hD0⟩ := hv
  have hx := B.exec
  have hb := B.bytes
  have hr := B.returns
  have hts := atoms_spec (ws := wsX8_its) B.pre
  have hown : s.vm.findClass RX8 = some m.cls := findClass_of_methodNamed B.named
  have hlocks := B.notSynchronized
  subst hsz
  have hD := hD0.self (sz := s.heap.size)
  generalize hAe : va_A (ws_model cI cC cZ cR mo mo1 mo2 mo3 mo4 mo5 kn le_ s_ past slo isv pad_) s.heap.size = A at hD ⊢
  skip
  have hA : ∀ q : Nat, s.heap.size ≤ q → A q := fun q h => by rw [← hAe]; exact Or.inr h
  have hS : va_S A s.heap s.heap [] := va_S.rf
  have hl := lv_entry ([.ref mo, .int a0, .int a1]) (n := 3) (Nat.le_of_ble_eq_true rfl)
  rw [lg_entry_eq]
  generalize (lg_sl ([.ref mo, .int a0, .int a1]) ++ List.replicate (3 - (lg_sl ([.ref mo, .int a0, .int a1])).length) Slot.unset).toArray = ls at hl ⊢
  have hl : lv_has ls 3 [(0, .ref mo), (1, .int a0), (2, .int a1)] := hl
  refine W_absQ (fun Q hQ => ?_)
  refine W.eq (g2 := F0 m 0 ls []) rfl ?_
  have h := hf
  unfold f_X8_its at h
  refine lv_aload_n hx hb dX8_its_0 rfl (lv_at hl 0 rfl) ?_
  refine va_get (D := D) (ci := 8) (v := .ref mo1) (C := RX8) (T := TX8) (N := 7) hx hb hts uX8_its_X8 hown hK.1 hP 0 rfl rfl 0 (by decide) (hts _ kX8_its_1) (fun _ h9 => h9) rfl dX8_its_1 ?_
  refine lv_bipush (v := 9) hx hb dX8_its_4 (by decide) ?_
  refine lv_bipush (v := 9) hx hb dX8_its_6 (by decide) ?_
  refine lv_iload_n hx hb dX8_its_8 rfl (lv_at hl 1 rfl) ?_
  refine lv_imul hx hb dX8_its_9 ?_
  refine lv_iadd hx hb dX8_its_10 ?_
  refine lv_iload_n hx hb dX8_its_11 rfl (lv_at hl 2 rfl) ?_
  refine lv_iadd hx hb dX8_its_12 ?_
  obtain ⟨hin, h⟩ := gd_sp h
  refine va_iald (D := D) hx hb hK.1 hP 1 0 rfl rfl hin dX8_its_13 ?_
  have e9 := Option.some.inj h
  subst e9
  rw [hQ]
  exact W.iret (v := s_ ((9 + (9 * a0)) + a1 : Int32).toNatClampNeg) hx hb hr (fun t ht hW => ⟨⟨s_ ((9 + (9 * a0)) + a1 : Int32).toNatClampNeg, (), rfl, rfl, by rw [ht]; exact hP, hD⟩, hS.F ht⟩) hS.2.2 dX8_its_14
-- LeaningLinesModel.tenth
abbrev OUT_X8_tenth : Type := Int32
def f_X8_tenth (a0 : Int32) : Option OUT_X8_tenth :=
  (if a0 < 0 then some (-((9 - a0) / 10)) else some (a0 / 10))
abbrev R_X8_tenth : Room := { frames := 0, cells := 0, slots := 0, locals := 0 }
set_option maxHeartbeats 4000000 in
set_option maxRecDepth 100000 in
theorem m_X8_tenth (l : Launch) (D : va_G) (cI cC cZ cR : ClassId)  (sz : Nat)   (a0 : Int32)   (r : OUT_X8_tenth) (hf : f_X8_tenth a0 = some r) : Met l yX8_tenth wsX8_tenth R_X8_tenth (cPc D cI cC cZ cR [.int a0] sz []) (cQi D [] (va_A [] sz) r) 0 0 (va_A [] sz) := by
  refine Met.ofW (cc := cX8_tenth) (maxL := 1) (ret := (some .int)) (by decide) rfl ?_
  intro p e s m args below meth c s₁ B hml hv
  obtain ⟨rfl, hsz, hP, hK, hD0⟩ := hv
  have hx := B.exec
  have hb := B.bytes
  have hr := B.returns
  have hts := atoms_spec (ws := wsX8_tenth) B.pre
  have hown : s.vm.findClass RX8 = some m.cls := findClass_of_methodNamed B.named
  have hlocks := B.notSynchronized
  subst hsz
  have hD := hD0.self (sz := s.heap.size)
  generalize hAe : va_A [] s.heap.size = A at hD ⊢
  skip
  have hA : ∀ q : Nat, s.heap.size ≤ q → A q := fun q h => by rw [← hAe]; exact Or.inr h
  have hS : va_S A s.heap s.heap [] := va_S.rf
  have hl := lv_entry ([.int a0]) (n := 1) (Nat.le_of_ble_eq_true rfl)
  rw [lg_entry_eq]
  generalize (lg_sl ([.int a0]) ++ List.replicate (1 - (lg_sl ([.int a0])).length) Slot.unset).toArray = ls at hl ⊢
  have hl : lv_has ls 1 [(0, .int a0)] := hl
  refine W_absQ (fun Q hQ => ?_)
  refine W.eq (g2 := F0 m 0 ls []) rfl ?_
  have h := hf
  unfold f_X8_tenth at h
  refine lv_iload_n hx hb dX8_tenth_0 rfl (lv_at hl 0 rfl) ?_
  refine lv_if_lt (tgt := 11) hx hb dX8_tenth_1 (by decide) (fun c1 => ?_) (fun c1 => ?_)
  · replace h := br_p c1 h
    refine lv_bipush (v := 9) hx hb dX8_tenth_11 (by decide) ?_
    refine lv_iload_n hx hb dX8_tenth_13 rfl (lv_at hl 0 rfl) ?_
    refine lv_isub hx hb dX8_tenth_14 ?_
    refine lv_bipush (v := 10) hx hb dX8_tenth_15 (by decide) ?_
    refine lv_idiv hx hb dX8_tenth_17 (by decide) ?_
    refine lv_ineg hx hb dX8_tenth_18 ?_
    have e9 := Option.some.inj h
    subst e9
    rw [hQ]
    exact W.iret (v := -((9 - a0) / 10)) hx hb hr (fun t ht hW => ⟨⟨-((9 - a0) / 10), (), rfl, rfl, by rw [ht]; exact hP, hD⟩, hS.F ht⟩) hS.2.2 dX8_tenth_19
  · replace h := br_n c1 h
    refine lv_iload_n hx hb dX8_tenth_4 rfl (lv_at hl 0 rfl) ?_
    refine lv_bipush (v := 10) hx hb dX8_tenth_5 (by decide) ?_
    refine lv_idiv hx hb dX8_tenth_7 (by decide) ?_
    refine lv_goto (tgt := 19) hx hb dX8_tenth_8 (by decide) ?_
    have e9 := Option.some.inj h
    subst e9
    rw [hQ]
    exact W.iret (v := a0 / 10) hx hb hr (fun t ht hW => ⟨⟨a0 / 10, (), rfl, rfl, by rw [ht]; exact hP, hD⟩, hS.F ht⟩) hS.2.2 dX8_tenth_19
-- LeaningLinesModel.left
abbrev OUT_X8_left : Type := Int32
def f_X8_left_L5 (s_ : Nat → Int32) (a1 : Int32) (k : Int32 → Int32 → Option OUT_X8_left) : Nat → Int32 → Int32 → Option OUT_X8_left
  | 0 => fun _ _ => none
  | n + 1 => fun v3 v4 => (if v4 < 0 then k v3 v4 else bn (f_X8_its s_ v4 1) (fun r5 => bn (f_X8_its s_ v4 5) (fun r6 => bn (f_X8_its s_ v4 6) (fun r7 => bn (f_X8_tenth (r6 * (a1 - r7))) (fun r8 => bd (v3 + (r5 + r8)) (fun x9 => bn (f_X8_its s_ v4 7) (fun r10 => jn (fun (j11 : Int32) => bd (x9 - j11) (fun x12 => bn (f_X8_its s_ v4 7) (fun r13 => f_X8_left_L5 s_ a1 k n x12 r13))) (fun j66 => (if r10 < 0 then j66 0 else bn (f_X8_its s_ v4 8) (fun r14 => j66 r14))))))))))
theorem f_X8_left_L5_s (s_ : Nat → Int32) (a1 : Int32) (k : Int32 → Int32 → Option OUT_X8_left) (n : Nat) (v3 : Int32) (v4 : Int32) : f_X8_left_L5 s_ a1 k (n + 1) v3 v4 = ((if v4 < 0 then k v3 v4 else bn (f_X8_its s_ v4 1) (fun r5 => bn (f_X8_its s_ v4 5) (fun r6 => bn (f_X8_its s_ v4 6) (fun r7 => bn (f_X8_tenth (r6 * (a1 - r7))) (fun r8 => bd (v3 + (r5 + r8)) (fun x9 => bn (f_X8_its s_ v4 7) (fun r10 => jn (fun (j11 : Int32) => bd (x9 - j11) (fun x12 => bn (f_X8_its s_ v4 7) (fun r13 => f_X8_left_L5 s_ a1 k n x12 r13))) (fun j66 => (if r10 < 0 then j66 0 else bn (f_X8_its s_ v4 8) (fun r14 => j66 r14))))))))))) := rfl
def f_X8_left (s_ : Nat → Int32) (a0 : Int32) (a1 : Int32) : Option OUT_X8_left :=
  f_X8_left_L5 s_ a1 (fun (w17 : Int32) (w18 : Int32) => some (w17)) 4000 0 a0
abbrev R_X8_left : Room := { frames := 1, cells := 0, slots := 0, locals := 22 }
set_option maxHeartbeats 4000000 in
set_option maxRecDepth 100000 in
theorem m_X8_left (l : Launch) (D : va_G) (cI cC cZ cR : ClassId) (mo mo1 mo2 mo3 mo4 mo5 : Nat) (sz : Nat) (kn : Int32) (le_ : Int32) (s_ : Nat → Int32) (past : Nat → Int32) (slo : Nat → Int32) (isv : Nat → Int32) (pad_ : Nat → Int32)  (a0 : Int32) (a1 : Int32)   (r : OUT_X8_left) (hf : f_X8_left s_ a0 a1 = some r) : Met l yX8_left wsX8_left R_X8_left (cPc D cI cC cZ cR [.ref mo, .int a0, .int a1] sz (ws_model cI cC cZ cR mo mo1 mo2 mo3 mo4 mo5 kn le_ s_ past slo isv pad_)) (cQi D (ws_model cI cC cZ cR mo mo1 mo2 mo3 mo4 mo5 kn le_ s_ past slo isv pad_) (va_A (ws_model cI cC cZ cR mo mo1 mo2 mo3 mo4 mo5 kn le_ s_ past slo isv pad_) sz) r) 0 0 (va_A (ws_model cI cC cZ cR mo mo1 mo2 mo3 mo4 mo5 kn le_ s_ past slo isv pad_) sz) := by
  refine Met.ofW (cc := cX8_left) (maxL := 5) (ret := (some .int)) (by decide) rfl ?_
  intro p e s m args below meth c s₁ B hml hv
  obtain ⟨rfl, hsz, hP, hK, hD0⟩ := hv
  have hx := B.exec
  have hb := B.bytes
  have hr := B.returns
  have hts := atoms_spec (ws := wsX8_left) B.pre
  have hown : s.vm.findClass RX8 = some m.cls := findClass_of_methodNamed B.named
  have hlocks := B.notSynchronized
  subst hsz
  have hD := hD0.self (sz := s.heap.size)
  generalize hAe : va_A (ws_model cI cC cZ cR mo mo1 mo2 mo3 mo4 mo5 kn le_ s_ past slo isv pad_) s.heap.size = A at hD ⊢
  skip
  have hA : ∀ q : Nat, s.heap.size ≤ q → A q := fun q h => by rw [← hAe]; exact Or.inr h
  have hS : va_S A s.heap s.heap [] := va_S.rf
  have hl := lv_entry ([.ref mo, .int a0, .int a1]) (n := 5) (Nat.le_of_ble_eq_true rfl)
  rw [lg_entry_eq]
  generalize (lg_sl ([.ref mo, .int a0, .int a1]) ++ List.replicate (5 - (lg_sl ([.ref mo, .int a0, .int a1])).length) Slot.unset).toArray = ls at hl ⊢
  have hl : lv_has ls 5 [(0, .ref mo), (1, .int a0), (2, .int a1)] := hl
  refine W_absQ (fun Q hQ => ?_)
  refine W.eq (g2 := F0 m 0 ls []) rfl ?_
  have h := hf
  unfold f_X8_left at h
  refine lv_iconst (v := 0) hx hb dX8_left_0 (by decide) ?_
  refine lv_istore_n (lv' := [(3, .int 0), (0, .ref mo), (1, .int a0), (2, .int a1)]) hx hb dX8_left_1 rfl hl (by decide) rfl (fun ls hl => ?_)
  refine lv_iload_n hx hb dX8_left_2 rfl (lv_at hl 2 rfl) ?_
  refine lv_istore (lv' := [(4, .int a0), (3, .int 0), (0, .ref mo), (1, .int a0), (2, .int a1)]) hx hb dX8_left_3 hl (by decide) rfl (fun ls hl => ?_)
  have L5 : ∀ (k : Int32 → Int32 → Option OUT_X8_left), (∀ (w17 : Int32) (w18 : Int32) (H : Heap) (locs : List Loc) (ls : Array Slot), k w17 w18 = some r → va_P D vwCl (ws_model cI cC cZ cR mo mo1 mo2 mo3 mo4 mo5 kn le_ s_ past slo isv pad_) H → va_D A (ws_model cI cC cZ cR mo mo1 mo2 mo3 mo4 mo5 kn le_ s_ past slo isv pad_) → va_S A s.heap H locs → lv_has ls 5 [(0, .ref mo), (1, .int a0), (2, .int a1), (3, .int w17), (4, .int w18)] → W p l e R_X8_left s m ([.ref mo, .int a0, .int a1] : List Value).toArray below meth c H locs 0 0 Q (F0 m 81 ls [])) → ∀ (n : Nat) (v3 : Int32) (v4 : Int32) (H : Heap) (locs : List Loc) (ls : Array Slot), f_X8_left_L5 s_ a1 k n v3 v4 = some r → va_P D vwCl (ws_model cI cC cZ cR mo mo1 mo2 mo3 mo4 mo5 kn le_ s_ past slo isv pad_) H → va_D A (ws_model cI cC cZ cR mo mo1 mo2 mo3 mo4 mo5 kn le_ s_ past slo isv pad_) → va_S A s.heap H locs → lv_has ls 5 [(0, .ref mo), (1, .int a0), (2, .int a1), (3, .int v3), (4, .int v4)] → W p l e R_X8_left s m ([.ref mo, .int a0, .int a1] : List Value).toArray below meth c H locs 0 0 Q (F0 m 5 ls []) := by
    intro k K n
    induction n with
    | zero => intro v3 v4 H locs ls h; exact no_sm h
    | succ n ih =>
      intro v3 v4 H locs ls h hP hD hS hl
      rw [f_X8_left_L5_s] at h
      refine lv_iload hx hb dX8_left_5 (lv_at hl 4 rfl) ?_
      refine lv_if_lt (tgt := 81) hx hb dX8_left_7 (by decide) (fun c16 => ?_) (fun c16 => ?_)
      · replace h := br_p c16 h
        exact K _ _ _ _ _ h hP hD hS (lv_sub hl [0, 1, 2, 3, 4] rfl)
      · replace h := br_n c16 h
        refine lv_iload_n hx hb dX8_left_10 rfl (lv_at hl 3 rfl) ?_
        refine lv_aload_n hx hb dX8_left_11 rfl (lv_at hl 0 rfl) ?_
        refine lv_iload hx hb dX8_left_12 (lv_at hl 4 rfl) ?_
        refine lv_iconst (v := 1) hx hb dX8_left_14 (by decide) ?_
        obtain ⟨r5, hcr5, h⟩ := bn_sp h
        have hPc := hP.sub (ws' := (ws_model cI cC cZ cR mo mo1 mo2 mo3 mo4 mo5 kn le_ s_ past slo isv pad_)) [0, 1, 2, 3, 4, 5] rfl
        have hDc := hD.sub (ws' := (ws_model cI cC cZ cR mo mo1 mo2 mo3 mo4 mo5 kn le_ s_ past slo isv pad_)) [0, 1, 2, 3, 4, 5] (by decide) rfl
        have hFc := va_free (wc := (ws_model cI cC cZ cR mo mo1 mo2 mo3 mo4 mo5 kn le_ s_ past slo isv pad_)) hD hS hA [0, 1, 2, 3, 4, 5] rfl
        refine va_calli (va_runV (As := [.int v4, .int 1]) (rest := [.int v3]) ⟨hx, hb, hml, hown, hts⟩ (m_X8_its l D cI cC cZ cR mo mo1 mo2 mo3 mo4 mo5 _ kn le_ s_ past slo isv pad_ v4 1   r5 hcr5) (cwV 2 hts gX8_left_X8_its rfl rfl rfl (by decide +kernel) ⟨Nat.le_of_ble_eq_true rfl, Nat.le_of_ble_eq_true rfl⟩) (cPc_pv hPc hK hDc (ci := 8) (q0 := 0) rfl rfl) rfl rfl hl.1 rfl (lv_room (Nat.le_of_ble_eq_true rfl)) dX8_left_15 ⟨Nat.le_of_ble_eq_true rfl, Nat.le_of_ble_eq_true rfl⟩) hS (fun q _ h => hFc q h) hFc (fun xq u t H1 locs ht hvm hw hB hz1 hk1 hS => ?_)
        rw [hw]
        obtain ⟨hP1, hD1⟩ := hB
        rw [ht] at hP1
        obtain ⟨hP, hD⟩ := va_join (wr := []) (w1 := (ws_model cI cC cZ cR mo mo1 mo2 mo3 mo4 mo5 kn le_ s_ past slo isv pad_)) hP hD [0, 1, 2, 3, 4, 5] [] rfl rfl (by decide) (by decide) hk1 hFc hP1 hD1
        generalize H1 = H at hP hS ⊢
        have hP : va_P D vwCl (ws_model cI cC cZ cR mo mo1 mo2 mo3 mo4 mo5 kn le_ s_ past slo isv pad_) H := hP
        have hD : va_D A (ws_model cI cC cZ cR mo mo1 mo2 mo3 mo4 mo5 kn le_ s_ past slo isv pad_) := hD
        refine lv_aload_n hx hb dX8_left_18 rfl (lv_at hl 0 rfl) ?_
        refine lv_iload hx hb dX8_left_19 (lv_at hl 4 rfl) ?_
        refine lv_iconst (v := 5) hx hb dX8_left_21 (by decide) ?_
        obtain ⟨r6, hcr6, h⟩ := bn_sp h
        have hPc := hP.sub (ws' := (ws_model cI cC cZ cR mo mo1 mo2 mo3 mo4 mo5 kn le_ s_ past slo isv pad_)) [0, 1, 2, 3, 4, 5] rfl
        have hDc := hD.sub (ws' := (ws_model cI cC cZ cR mo mo1 mo2 mo3 mo4 mo5 kn le_ s_ past slo isv pad_)) [0, 1, 2, 3, 4, 5] (by decide) rfl
        have hFc := va_free (wc := (ws_model cI cC cZ cR mo mo1 mo2 mo3 mo4 mo5 kn le_ s_ past slo isv pad_)) hD hS hA [0, 1, 2, 3, 4, 5] rfl
        refine va_calli (va_runV (As := [.int v4, .int 5]) (rest := [.int r5, .int v3]) ⟨hx, hb, hml, hown, hts⟩ (m_X8_its l D cI cC cZ cR mo mo1 mo2 mo3 mo4 mo5 _ kn le_ s_ past slo isv pad_ v4 5   r6 hcr6) (cwV 2 hts gX8_left_X8_its rfl rfl rfl (by decide +kernel) ⟨Nat.le_of_ble_eq_true rfl, Nat.le_of_ble_eq_true rfl⟩) (cPc_pv hPc hK hDc (ci := 8) (q0 := 0) rfl rfl) rfl rfl hl.1 rfl (lv_room (Nat.le_of_ble_eq_true rfl)) dX8_left_22 ⟨Nat.le_of_ble_eq_true rfl, Nat.le_of_ble_eq_true rfl⟩) hS (fun q _ h => hFc q h) hFc (fun xq u t H1 locs ht hvm hw hB hz1 hk1 hS => ?_)
        rw [hw]
        obtain ⟨hP1, hD1⟩ := hB
        rw [ht] at hP1
        obtain ⟨hP, hD⟩ := va_join (wr := []) (w1 := (ws_model cI cC cZ cR mo mo1 mo2 mo3 mo4 mo5 kn le_ s_ past slo isv pad_)) hP hD [0, 1, 2, 3, 4, 5] [] rfl rfl (by decide) (by decide) hk1 hFc hP1 hD1
        generalize H1 = H at hP hS ⊢
        have hP : va_P D vwCl (ws_model cI cC cZ cR mo mo1 mo2 mo3 mo4 mo5 kn le_ s_ past slo isv pad_) H := hP
        have hD : va_D A (ws_model cI cC cZ cR mo mo1 mo2 mo3 mo4 mo5 kn le_ s_ past slo isv pad_) := hD
        refine lv_iload_n hx hb dX8_left_25 rfl (lv_at hl 2 rfl) ?_
        refine lv_aload_n hx hb dX8_left_26 rfl (lv_at hl 0 rfl) ?_
        refine lv_iload hx hb dX8_left_27 (lv_at hl 4 rfl) ?_
        refine lv_bipush (v := 6) hx hb dX8_left_29 (by decide) ?_
        obtain ⟨r7, hcr7, h⟩ := bn_sp h
        have hPc := hP.sub (ws' := (ws_model cI cC cZ cR mo mo1 mo2 mo3 mo4 mo5 kn le_ s_ past slo isv pad_)) [0, 1, 2, 3, 4, 5] rfl
        have hDc := hD.sub (ws' := (ws_model cI cC cZ cR mo mo1 mo2 mo3 mo4 mo5 kn le_ s_ past slo isv pad_)) [0, 1, 2, 3, 4, 5] (by decide) rfl
        have hFc := va_free (wc := (ws_model cI cC cZ cR mo mo1 mo2 mo3 mo4 mo5 kn le_ s_ past slo isv pad_)) hD hS hA [0, 1, 2, 3, 4, 5] rfl
        refine va_calli (va_runV (As := [.int v4, .int 6]) (rest := [.int a1, .int r6, .int r5, .int v3]) ⟨hx, hb, hml, hown, hts⟩ (m_X8_its l D cI cC cZ cR mo mo1 mo2 mo3 mo4 mo5 _ kn le_ s_ past slo isv pad_ v4 6   r7 hcr7) (cwV 2 hts gX8_left_X8_its rfl rfl rfl (by decide +kernel) ⟨Nat.le_of_ble_eq_true rfl, Nat.le_of_ble_eq_true rfl⟩) (cPc_pv hPc hK hDc (ci := 8) (q0 := 0) rfl rfl) rfl rfl hl.1 rfl (lv_room (Nat.le_of_ble_eq_true rfl)) dX8_left_31 ⟨Nat.le_of_ble_eq_true rfl, Nat.le_of_ble_eq_true rfl⟩) hS (fun q _ h => hFc q h) hFc (fun xq u t H1 locs ht hvm hw hB hz1 hk1 hS => ?_)
        rw [hw]
        obtain ⟨hP1, hD1⟩ := hB
        rw [ht] at hP1
        obtain ⟨hP, hD⟩ := va_join (wr := []) (w1 := (ws_model cI cC cZ cR mo mo1 mo2 mo3 mo4 mo5 kn le_ s_ past slo isv pad_)) hP hD [0, 1, 2, 3, 4, 5] [] rfl rfl (by decide) (by decide) hk1 hFc hP1 hD1
        generalize H1 = H at hP hS ⊢
        have hP : va_P D vwCl (ws_model cI cC cZ cR mo mo1 mo2 mo3 mo4 mo5 kn le_ s_ past slo isv pad_) H := hP
        have hD : va_D A (ws_model cI cC cZ cR mo mo1 mo2 mo3 mo4 mo5 kn le_ s_ past slo isv pad_) := hD
        refine lv_isub hx hb dX8_left_34 ?_
        refine lv_imul hx hb dX8_left_35 ?_
        obtain ⟨r8, hcr8, h⟩ := bn_sp h
        have hPc := hP.sub (ws' := []) [] rfl
        have hDc := hD.sub (ws' := []) [] (by decide) rfl
        have hFc := va_free (wc := []) hD hS hA [] rfl
        refine va_calli (va_runS (As := [.int (r6 * (a1 - r7))]) (rest := [.int r5, .int v3]) ⟨hx, hb, hml, hown, hts⟩ (m_X8_tenth l D cI cC cZ cR  _  (r6 * (a1 - r7))   r8 hcr8) (va_cwS 1 hts gX8_left_X8_tenth rfl rfl rfl (by decide +kernel) ⟨Nat.le_of_ble_eq_true rfl, Nat.le_of_ble_eq_true rfl⟩) (cPc_ps hPc hK hDc) rfl rfl hl.1 rfl (lv_room (Nat.le_of_ble_eq_true rfl)) dX8_left_36 ⟨Nat.le_of_ble_eq_true rfl, Nat.le_of_ble_eq_true rfl⟩) hS (fun q _ h => hFc q h) hFc (fun xq u t H1 locs ht hvm hw hB hz1 hk1 hS => ?_)
        rw [hw]
        obtain ⟨hP1, hD1⟩ := hB
        rw [ht] at hP1
        obtain ⟨hP, hD⟩ := va_join (wr := [(mo, .inr (8, [.ref mo1, .ref mo2, .int kn, .ref mo3, .ref mo4, .ref mo5, .int le_])), (mo1, .inl (cI, 465, .inl s_)), (mo2, .inl (cI, 2790, .inl past)), (mo3, .inl (cI, 930, .inl slo)), (mo4, .inl (cZ, 2, .inl isv)), (mo5, .inl (cI, 80, .inl pad_))]) (w1 := []) hP hD [] [0, 1, 2, 3, 4, 5] rfl rfl (by decide) (by decide) hk1 hFc hP1 hD1
        generalize H1 = H at hP hS ⊢
        have hP : va_P D vwCl (ws_model cI cC cZ cR mo mo1 mo2 mo3 mo4 mo5 kn le_ s_ past slo isv pad_) H := hP
        have hD : va_D A (ws_model cI cC cZ cR mo mo1 mo2 mo3 mo4 mo5 kn le_ s_ past slo isv pad_) := hD
        refine lv_iadd hx hb dX8_left_39 ?_
        refine lv_iadd hx hb dX8_left_40 ?_
        refine lv_topi (fun x9 ex9 => ?_)
        replace h := bd_s2 h ex9
        refine lv_istore_n (lv' := [(3, .int x9), (0, .ref mo), (1, .int a0), (2, .int a1), (4, .int v4)]) hx hb dX8_left_41 rfl hl (by decide) rfl (fun ls hl => ?_)
        refine lv_iload_n hx hb dX8_left_42 rfl (lv_at hl 0 rfl) ?_
        refine lv_aload_n hx hb dX8_left_43 rfl (lv_at hl 1 rfl) ?_
        refine lv_iload hx hb dX8_left_44 (lv_at hl 4 rfl) ?_
        refine lv_bipush (v := 7) hx hb dX8_left_46 (by decide) ?_
        obtain ⟨r10, hcr10, h⟩ := bn_sp h
        have hPc := hP.sub (ws' := (ws_model cI cC cZ cR mo mo1 mo2 mo3 mo4 mo5 kn le_ s_ past slo isv pad_)) [0, 1, 2, 3, 4, 5] rfl
        have hDc := hD.sub (ws' := (ws_model cI cC cZ cR mo mo1 mo2 mo3 mo4 mo5 kn le_ s_ past slo isv pad_)) [0, 1, 2, 3, 4, 5] (by decide) rfl
        have hFc := va_free (wc := (ws_model cI cC cZ cR mo mo1 mo2 mo3 mo4 mo5 kn le_ s_ past slo isv pad_)) hD hS hA [0, 1, 2, 3, 4, 5] rfl
        refine va_calli (va_runV (As := [.int v4, .int 7]) (rest := [.int x9]) ⟨hx, hb, hml, hown, hts⟩ (m_X8_its l D cI cC cZ cR mo mo1 mo2 mo3 mo4 mo5 _ kn le_ s_ past slo isv pad_ v4 7   r10 hcr10) (cwV 2 hts gX8_left_X8_its rfl rfl rfl (by decide +kernel) ⟨Nat.le_of_ble_eq_true rfl, Nat.le_of_ble_eq_true rfl⟩) (cPc_pv hPc hK hDc (ci := 8) (q0 := 0) rfl rfl) rfl rfl hl.1 rfl (lv_room (Nat.le_of_ble_eq_true rfl)) dX8_left_48 ⟨Nat.le_of_ble_eq_true rfl, Nat.le_of_ble_eq_true rfl⟩) hS (fun q _ h => hFc q h) hFc (fun xq u t H1 locs ht hvm hw hB hz1 hk1 hS => ?_)
        rw [hw]
        obtain ⟨hP1, hD1⟩ := hB
        rw [ht] at hP1
        obtain ⟨hP, hD⟩ := va_join (wr := []) (w1 := (ws_model cI cC cZ cR mo mo1 mo2 mo3 mo4 mo5 kn le_ s_ past slo isv pad_)) hP hD [0, 1, 2, 3, 4, 5] [] rfl rfl (by decide) (by decide) hk1 hFc hP1 hD1
        generalize H1 = H at hP hS ⊢
        have hP : va_P D vwCl (ws_model cI cC cZ cR mo mo1 mo2 mo3 mo4 mo5 kn le_ s_ past slo isv pad_) H := hP
        have hD : va_D A (ws_model cI cC cZ cR mo mo1 mo2 mo3 mo4 mo5 kn le_ s_ past slo isv pad_) := hD
        obtain ⟨j66, hj66, h⟩ := jn_sp h
        have J66 : ∀ (j11 : Int32) (H : Heap) (locs : List Loc) (ls : Array Slot), j66 j11 = some r → va_P D vwCl (ws_model cI cC cZ cR mo mo1 mo2 mo3 mo4 mo5 kn le_ s_ past slo isv pad_) H → va_D A (ws_model cI cC cZ cR mo mo1 mo2 mo3 mo4 mo5 kn le_ s_ past slo isv pad_) → va_S A s.heap H locs → lv_has ls 5 [(0, .ref mo), (1, .int a0), (2, .int a1), (3, .int x9), (4, .int v4)] → W p l e R_X8_left s m ([.ref mo, .int a0, .int a1] : List Value).toArray below meth c H locs 0 0 Q (F0 m 66 ls [.int j11, .int x9]) := by
          intro j11 H locs ls h hP hD hS hl
          rw [hj66] at h
          refine lv_isub hx hb dX8_left_66 ?_
          refine lv_topi (fun x12 ex12 => ?_)
          replace h := bd_s2 h ex12
          refine lv_istore_n (lv' := [(3, .int x12), (0, .ref mo), (1, .int a0), (2, .int a1), (4, .int v4)]) hx hb dX8_left_67 rfl hl (by decide) rfl (fun ls hl => ?_)
          refine lv_aload_n hx hb dX8_left_68 rfl (lv_at hl 1 rfl) ?_
          refine lv_iload hx hb dX8_left_69 (lv_at hl 4 rfl) ?_
          refine lv_bipush (v := 7) hx hb dX8_left_71 (by decide) ?_
          obtain ⟨r13, hcr13, h⟩ := bn_sp h
          have hPc := hP.sub (ws' := (ws_model cI cC cZ cR mo mo1 mo2 mo3 mo4 mo5 kn le_ s_ past slo isv pad_)) [0, 1, 2, 3, 4, 5] rfl
          have hDc := hD.sub (ws' := (ws_model cI cC cZ cR mo mo1 mo2 mo3 mo4 mo5 kn le_ s_ past slo isv pad_)) [0, 1, 2, 3, 4, 5] (by decide) rfl
          have hFc := va_free (wc := (ws_model cI cC cZ cR mo mo1 mo2 mo3 mo4 mo5 kn le_ s_ past slo isv pad_)) hD hS hA [0, 1, 2, 3, 4, 5] rfl
          refine va_calli (va_runV (As := [.int v4, .int 7]) (rest := []) ⟨hx, hb, hml, hown, hts⟩ (m_X8_its l D cI cC cZ cR mo mo1 mo2 mo3 mo4 mo5 _ kn le_ s_ past slo isv pad_ v4 7   r13 hcr13) (cwV 2 hts gX8_left_X8_its rfl rfl rfl (by decide +kernel) ⟨Nat.le_of_ble_eq_true rfl, Nat.le_of_ble_eq_true rfl⟩) (cPc_pv hPc hK hDc (ci := 8) (q0 := 0) rfl rfl) rfl rfl hl.1 rfl (lv_room (Nat.le_of_ble_eq_true rfl)) dX8_left_73 ⟨Nat.le_of_ble_eq_true rfl, Nat.le_of_ble_eq_true rfl⟩) hS (fun q _ h => hFc q h) hFc (fun xq u t H1 locs ht hvm hw hB hz1 hk1 hS => ?_)
          rw [hw]
          obtain ⟨hP1, hD1⟩ := hB
          rw [ht] at hP1
          obtain ⟨hP, hD⟩ := va_join (wr := []) (w1 := (ws_model cI cC cZ cR mo mo1 mo2 mo3 mo4 mo5 kn le_ s_ past slo isv pad_)) hP hD [0, 1, 2, 3, 4, 5] [] rfl rfl (by decide) (by decide) hk1 hFc hP1 hD1
          generalize H1 = H at hP hS ⊢
          have hP : va_P D vwCl (ws_model cI cC cZ cR mo mo1 mo2 mo3 mo4 mo5 kn le_ s_ past slo isv pad_) H := hP
          have hD : va_D A (ws_model cI cC cZ cR mo mo1 mo2 mo3 mo4 mo5 kn le_ s_ past slo isv pad_) := hD
          refine lv_istore (lv' := [(4, .int r13), (3, .int x12), (0, .ref mo), (1, .int a0), (2, .int a1)]) hx hb dX8_left_76 hl (by decide) rfl (fun ls hl => ?_)
          refine lv_goto (tgt := 5) hx hb dX8_left_78 (by decide) ?_
          exact ih _ _ _ _ _ h hP hD hS (lv_sub hl [2, 3, 4, 1, 0] rfl)
        refine lv_if_lt (tgt := 65) hx hb dX8_left_51 (by decide) (fun c15 => ?_) (fun c15 => ?_)
        · replace h := br_p c15 h
          refine lv_iconst (v := 0) hx hb dX8_left_65 (by decide) ?_
          exact J66 _ _ _ _ h hP hD hS (lv_sub hl [1, 2, 3, 0, 4] rfl)
        · replace h := br_n c15 h
          refine lv_aload_n hx hb dX8_left_54 rfl (lv_at hl 1 rfl) ?_
          refine lv_iload hx hb dX8_left_55 (lv_at hl 4 rfl) ?_
          refine lv_bipush (v := 8) hx hb dX8_left_57 (by decide) ?_
          obtain ⟨r14, hcr14, h⟩ := bn_sp h
          have hPc := hP.sub (ws' := (ws_model cI cC cZ cR mo mo1 mo2 mo3 mo4 mo5 kn le_ s_ past slo isv pad_)) [0, 1, 2, 3, 4, 5] rfl
          have hDc := hD.sub (ws' := (ws_model cI cC cZ cR mo mo1 mo2 mo3 mo4 mo5 kn le_ s_ past slo isv pad_)) [0, 1, 2, 3, 4, 5] (by decide) rfl
          have hFc := va_free (wc := (ws_model cI cC cZ cR mo mo1 mo2 mo3 mo4 mo5 kn le_ s_ past slo isv pad_)) hD hS hA [0, 1, 2, 3, 4, 5] rfl
          refine va_calli (va_runV (As := [.int v4, .int 8]) (rest := [.int x9]) ⟨hx, hb, hml, hown, hts⟩ (m_X8_its l D cI cC cZ cR mo mo1 mo2 mo3 mo4 mo5 _ kn le_ s_ past slo isv pad_ v4 8   r14 hcr14) (cwV 2 hts gX8_left_X8_its rfl rfl rfl (by decide +kernel) ⟨Nat.le_of_ble_eq_true rfl, Nat.le_of_ble_eq_true rfl⟩) (cPc_pv hPc hK hDc (ci := 8) (q0 := 0) rfl rfl) rfl rfl hl.1 rfl (lv_room (Nat.le_of_ble_eq_true rfl)) dX8_left_59 ⟨Nat.le_of_ble_eq_true rfl, Nat.le_of_ble_eq_true rfl⟩) hS (fun q _ h => hFc q h) hFc (fun xq u t H1 locs ht hvm hw hB hz1 hk1 hS => ?_)
          rw [hw]
          obtain ⟨hP1, hD1⟩ := hB
          rw [ht] at hP1
          obtain ⟨hP, hD⟩ := va_join (wr := []) (w1 := (ws_model cI cC cZ cR mo mo1 mo2 mo3 mo4 mo5 kn le_ s_ past slo isv pad_)) hP hD [0, 1, 2, 3, 4, 5] [] rfl rfl (by decide) (by decide) hk1 hFc hP1 hD1
          generalize H1 = H at hP hS ⊢
          have hP : va_P D vwCl (ws_model cI cC cZ cR mo mo1 mo2 mo3 mo4 mo5 kn le_ s_ past slo isv pad_) H := hP
          have hD : va_D A (ws_model cI cC cZ cR mo mo1 mo2 mo3 mo4 mo5 kn le_ s_ past slo isv pad_) := hD
          refine lv_goto (tgt := 66) hx hb dX8_left_62 (by decide) ?_
          exact J66 _ _ _ _ h hP hD hS (lv_sub hl [1, 2, 3, 0, 4] rfl)
  refine L5 _ (fun w17 w18 H locs ls h hP hD hS hl => ?_) 4000 0 a0 _ _ _ h hP hD hS (lv_sub hl [2, 3, 4, 1, 0] rfl)
  refine lv_iload_n hx hb dX8_left_81 rfl (lv_at hl 3 rfl) ?_
  have e9 := Option.some.inj h
  subst e9
  rw [hQ]
  exact W.iret (v := w17) hx hb hr (fun t ht hW => ⟨⟨w17, (), rfl, rfl, by rw [ht]; exact hP, hD⟩, hS.F ht⟩) hS.2.2 dX8_left_82
-- LeaningLinesModel.isThing
abbrev OUT_X8_isThing : Type := Int32
def f_X8_isThing (s_ : Nat → Int32) (a0 : Int32) : Option OUT_X8_isThing :=
  gd 5 465 (bn (f_X8_in a0 0 ((s_ (5 : Int32).toNatClampNeg) - 1)) (fun r1 => gb r1 (some (r1))))
theorem uX8_isThing_X8 : ∀ w ∈ wsX80, w ∈ wsX8_isThing := by decide +kernel
theorem kX8_isThing_1 : Cond.fieldLink RX8 7 "LeaningLinesModel" "s" "[I" ∈ wsX8_isThing := by decide +kernel
abbrev R_X8_isThing : Room := { frames := 1, cells := 0, slots := 0, locals := 22 }
set_option maxHeartbeats 4000000 in
set_option maxRecDepth 100000 in
theorem m_X8_isThing (l : Launch) (D : va_G) (cI cC cZ cR : ClassId) (mo mo1 mo2 mo3 mo4 mo5 : Nat) (sz : Nat) (kn : Int32) (le_ : Int32) (s_ : Nat → Int32) (past : Nat → Int32) (slo : Nat → Int32) (isv : Nat → Int32) (pad_ : Nat → Int32)  (a0 : Int32)   (r : OUT_X8_isThing) (hf : f_X8_isThing s_ a0 = some r) : Met l yX8_isThing wsX8_isThing R_X8_isThing (cPc D cI cC cZ cR [.ref mo, .int a0] sz (ws_model cI cC cZ cR mo mo1 mo2 mo3 mo4 mo5 kn le_ s_ past slo isv pad_)) (cQi D (ws_model cI cC cZ cR mo mo1 mo2 mo3 mo4 mo5 kn le_ s_ past slo isv pad_) (va_A (ws_model cI cC cZ cR mo mo1 mo2 mo3 mo4 mo5 kn le_ s_ past slo isv pad_) sz) r) 0 0 (va_A (ws_model cI cC cZ cR mo mo1 mo2 mo3 mo4 mo5 kn le_ s_ past slo isv pad_) sz) := by
  refine Met.ofW (cc := cX8_isThing) (maxL := 2) (ret := (some .boolean)) (by decide) rfl ?_
  intro p e s m args below meth c s₁ B hml hv
  obtain ⟨rfl, hsz, hP, hK, hD0⟩ := hv
  have hx := B.exec
  have hb := B.bytes
  have hr := B.returns
  have hts := atoms_spec (ws := wsX8_isThing) B.pre
  have hown : s.vm.findClass RX8 = some m.cls := findClass_of_methodNamed B.named
  have hlocks := B.notSynchronized
  subst hsz
  have hD := hD0.self (sz := s.heap.size)
  generalize hAe : va_A (ws_model cI cC cZ cR mo mo1 mo2 mo3 mo4 mo5 kn le_ s_ past slo isv pad_) s.heap.size = A at hD ⊢
  skip
  have hA : ∀ q : Nat, s.heap.size ≤ q → A q := fun q h => by rw [← hAe]; exact Or.inr h
  have hS : va_S A s.heap s.heap [] := va_S.rf
  have hl := lv_entry ([.ref mo, .int a0]) (n := 2) (Nat.le_of_ble_eq_true rfl)
  rw [lg_entry_eq]
  generalize (lg_sl ([.ref mo, .int a0]) ++ List.replicate (2 - (lg_sl ([.ref mo, .int a0])).length) Slot.unset).toArray = ls at hl ⊢
  have hl : lv_has ls 2 [(0, .ref mo), (1, .int a0)] := hl
  refine W_absQ (fun Q hQ => ?_)
  refine W.eq (g2 := F0 m 0 ls []) rfl ?_
  have h := hf
  unfold f_X8_isThing at h
  refine lv_iload_n hx hb dX8_isThing_0 rfl (lv_at hl 1 rfl) ?_
  refine lv_iconst (v := 0) hx hb dX8_isThing_1 (by decide) ?_
  refine lv_aload_n hx hb dX8_isThing_2 rfl (lv_at hl 0 rfl) ?_
  refine va_get (D := D) (ci := 8) (v := .ref mo1) (C := RX8) (T := TX8) (N := 7) hx hb hts uX8_isThing_X8 hown hK.1 hP 0 rfl rfl 0 (by decide) (hts _ kX8_isThing_1) (fun _ h9 => h9) rfl dX8_isThing_3 ?_
  refine lv_iconst (v := 5) hx hb dX8_isThing_6 (by decide) ?_
  obtain ⟨hin, h⟩ := gd_sp h
  refine va_iald (D := D) hx hb hK.1 hP 1 0 rfl rfl hin dX8_isThing_7 ?_
  refine lv_iconst (v := 1) hx hb dX8_isThing_8 (by decide) ?_
  refine lv_isub hx hb dX8_isThing_9 ?_
  obtain ⟨r1, hcr1, h⟩ := bn_sp h
  have hPc := hP.sub (ws' := []) [] rfl
  have hDc := hD.sub (ws' := []) [] (by decide) rfl
  have hFc := va_free (wc := []) hD hS hA [] rfl
  refine va_calli (va_runS (As := [.int a0, .int 0, .int ((s_ (5 : Int32).toNatClampNeg) - 1)]) (rest := []) ⟨hx, hb, hml, hown, hts⟩ (m_X8_in l D cI cC cZ cR  _  a0 0 ((s_ (5 : Int32).toNatClampNeg) - 1)   r1 hcr1) (va_cwS 3 hts gX8_isThing_X8_in rfl rfl rfl (by decide +kernel) ⟨Nat.le_of_ble_eq_true rfl, Nat.le_of_ble_eq_true rfl⟩) (cPc_ps hPc hK hDc) rfl rfl hl.1 rfl (lv_room (Nat.le_of_ble_eq_true rfl)) dX8_isThing_10 ⟨Nat.le_of_ble_eq_true rfl, Nat.le_of_ble_eq_true rfl⟩) hS (fun q _ h => hFc q h) hFc (fun xq u t H1 locs ht hvm hw hB hz1 hk1 hS => ?_)
  rw [hw]
  obtain ⟨hP1, hD1⟩ := hB
  rw [ht] at hP1
  obtain ⟨hP, hD⟩ := va_join (wr := [(mo, .inr (8, [.ref mo1, .ref mo2, .int kn, .ref mo3, .ref mo4, .ref mo5, .int le_])), (mo1, .inl (cI, 465, .inl s_)), (mo2, .inl (cI, 2790, .inl past)), (mo3, .inl (cI, 930, .inl slo)), (mo4, .inl (cZ, 2, .inl isv)), (mo5, .inl (cI, 80, .inl pad_))]) (w1 := []) hP hD [] [0, 1, 2, 3, 4, 5] rfl rfl (by decide) (by decide) hk1 hFc hP1 hD1
  generalize H1 = H at hP hS ⊢
  have hP : va_P D vwCl (ws_model cI cC cZ cR mo mo1 mo2 mo3 mo4 mo5 kn le_ s_ past slo isv pad_) H := hP
  have hD : va_D A (ws_model cI cC cZ cR mo mo1 mo2 mo3 mo4 mo5 kn le_ s_ past slo isv pad_) := hD
  obtain ⟨hnr, h⟩ := gb_sp h
  have e9 := Option.some.inj h
  subst e9
  rw [hQ]
  exact W.zret (v := r1) hx hb hr (nar_b hnr) (fun t ht hW => ⟨⟨r1, (), rfl, rfl, by rw [ht]; exact hP, hD⟩, hS.F ht⟩) hS.2.2 dX8_isThing_13
-- LeaningLinesModel.lit
abbrev OUT_X8_lit : Type := Int32
def f_X8_lit_L4 (s_ : Nat → Int32) (a0 : Int32) (k : Int32 → Int32 → Option OUT_X8_lit) : Nat → Int32 → Int32 → Option OUT_X8_lit
  | 0 => fun _ _ => none
  | n + 1 => fun v3 v4 => (if 24 ≤ v4 then k v3 v4 else gd ((81 + (24 * a0)) + v4) 465 (jn (fun (j5 : Int32) => bd (v3 ||| j5) (fun x6 => bd (v4 + 1) (fun x7 => f_X8_lit_L4 s_ a0 k n x6 x7))) (fun j35 => (if (s_ ((81 + (24 * a0)) + v4 : Int32).toNatClampNeg) ≤ 0 then j35 0 else j35 (1 <<< (v4 &&& 31))))))
theorem f_X8_lit_L4_s (s_ : Nat → Int32) (a0 : Int32) (k : Int32 → Int32 → Option OUT_X8_lit) (n : Nat) (v3 : Int32) (v4 : Int32) : f_X8_lit_L4 s_ a0 k (n + 1) v3 v4 = ((if 24 ≤ v4 then k v3 v4 else gd ((81 + (24 * a0)) + v4) 465 (jn (fun (j5 : Int32) => bd (v3 ||| j5) (fun x6 => bd (v4 + 1) (fun x7 => f_X8_lit_L4 s_ a0 k n x6 x7))) (fun j35 => (if (s_ ((81 + (24 * a0)) + v4 : Int32).toNatClampNeg) ≤ 0 then j35 0 else j35 (1 <<< (v4 &&& 31))))))) := rfl
def f_X8_lit (s_ : Nat → Int32) (a0 : Int32) : Option OUT_X8_lit :=
  f_X8_lit_L4 s_ a0 (fun (w10 : Int32) (w11 : Int32) => some (w10)) 4000 0 0
theorem uX8_lit_X8 : ∀ w ∈ wsX80, w ∈ wsX8_lit := by decide +kernel
theorem kX8_lit_1 : Cond.fieldLink RX8 7 "LeaningLinesModel" "s" "[I" ∈ wsX8_lit := by decide +kernel
abbrev R_X8_lit : Room := { frames := 0, cells := 0, slots := 0, locals := 0 }
set_option maxHeartbeats 4000000 in
set_option maxRecDepth 100000 in
theorem m_X8_lit (l : Launch) (D : va_G) (cI cC cZ cR : ClassId) (mo mo1 mo2 mo3 mo4 mo5 : Nat) (sz : Nat) (kn : Int32) (le_ : Int32) (s_ : Nat → Int32) (past : Nat → Int32) (slo : Nat → Int32) (isv : Nat → Int32) (pad_ : Nat → Int32)  (a0 : Int32)   (r : OUT_X8_lit) (hf : f_X8_lit s_ a0 = some r) : Met l yX8_lit wsX8_lit R_X8_lit (cPc D cI cC cZ cR [.ref mo, .int a0] sz (ws_model cI cC cZ cR mo mo1 mo2 mo3 mo4 mo5 kn le_ s_ past slo isv pad_)) (cQi D (ws_model cI cC cZ cR mo mo1 mo2 mo3 mo4 mo5 kn le_ s_ past slo isv pad_) (va_A (ws_model cI cC cZ cR mo mo1 mo2 mo3 mo4 mo5 kn le_ s_ past slo isv pad_) sz) r) 0 0 (va_A (ws_model cI cC cZ cR mo mo1 mo2 mo3 mo4 mo5 kn le_ s_ past slo isv pad_) sz) := by
  refine Met.ofW (cc := cX8_lit) (maxL := 4) (ret := (some .int)) (by decide) rfl ?_
  intro p e s m args below meth c s₁ B hml hv
  obtain ⟨rfl, hsz, hP, hK, hD0⟩ := hv
  have hx := B.exec
  have hb := B.bytes
  have hr := B.returns
  have hts := atoms_spec (ws := wsX8_lit) B.pre
  have hown : s.vm.findClass RX8 = some m.cls := findClass_of_methodNamed B.named
  have hlocks := B.notSynchronized
  subst hsz
  have hD := hD0.self (sz := s.heap.size)
  generalize hAe : va_A (ws_model cI cC cZ cR mo mo1 mo2 mo3 mo4 mo5 kn le_ s_ past slo isv pad_) s.heap.size = A at hD ⊢
  skip
  have hA : ∀ q : Nat, s.heap.size ≤ q → A q := fun q h => by rw [← hAe]; exact Or.inr h
  have hS : va_S A s.heap s.heap [] := va_S.rf
  have hl := lv_entry ([.ref mo, .int a0]) (n := 4) (Nat.le_of_ble_eq_true rfl)
  rw [lg_entry_eq]
  generalize (lg_sl ([.ref mo, .int a0]) ++ List.replicate (4 - (lg_sl ([.ref mo, .int a0])).length) Slot.unset).toArray = ls at hl ⊢
  have hl : lv_has ls 4 [(0, .ref mo), (1, .int a0)] := hl
  refine W_absQ (fun Q hQ => ?_)
  refine W.eq (g2 := F0 m 0 ls []) rfl ?_
  have h := hf
  unfold f_X8_lit at h
  refine lv_iconst (v := 0) hx hb dX8_lit_0 (by decide) ?_
  refine lv_istore_n (lv' := [(2, .int 0), (0, .ref mo), (1, .int a0)]) hx hb dX8_lit_1 rfl hl (by decide) rfl (fun ls hl => ?_)
  refine lv_iconst (v := 0) hx hb dX8_lit_2 (by decide) ?_
  refine lv_istore_n (lv' := [(3, .int 0), (2, .int 0), (0, .ref mo), (1, .int a0)]) hx hb dX8_lit_3 rfl hl (by decide) rfl (fun ls hl => ?_)
  have L4 : ∀ (k : Int32 → Int32 → Option OUT_X8_lit), (∀ (w10 : Int32) (w11 : Int32) (H : Heap) (locs : List Loc) (ls : Array Slot), k w10 w11 = some r → va_P D vwCl (ws_model cI cC cZ cR mo mo1 mo2 mo3 mo4 mo5 kn le_ s_ past slo isv pad_) H → va_D A (ws_model cI cC cZ cR mo mo1 mo2 mo3 mo4 mo5 kn le_ s_ past slo isv pad_) → va_S A s.heap H locs → lv_has ls 4 [(0, .ref mo), (1, .int a0), (2, .int w10), (3, .int w11)] → W p l e R_X8_lit s m ([.ref mo, .int a0] : List Value).toArray below meth c H locs 0 0 Q (F0 m 43 ls [])) → ∀ (n : Nat) (v3 : Int32) (v4 : Int32) (H : Heap) (locs : List Loc) (ls : Array Slot), f_X8_lit_L4 s_ a0 k n v3 v4 = some r → va_P D vwCl (ws_model cI cC cZ cR mo mo1 mo2 mo3 mo4 mo5 kn le_ s_ past slo isv pad_) H → va_D A (ws_model cI cC cZ cR mo mo1 mo2 mo3 mo4 mo5 kn le_ s_ past slo isv pad_) → va_S A s.heap H locs → lv_has ls 4 [(0, .ref mo), (1, .int a0), (2, .int v3), (3, .int v4)] → W p l e R_X8_lit s m ([.ref mo, .int a0] : List Value).toArray below meth c H locs 0 0 Q (F0 m 4 ls []) := by
    intro k K n
    induction n with
    | zero => intro v3 v4 H locs ls h; exact no_sm h
    | succ n ih =>
      intro v3 v4 H locs ls h hP hD hS hl
      rw [f_X8_lit_L4_s] at h
      refine lv_iload_n hx hb dX8_lit_4 rfl (lv_at hl 3 rfl) ?_
      refine lv_bipush (v := 24) hx hb dX8_lit_5 (by decide) ?_
      refine lv_icmp_ge (tgt := 43) hx hb dX8_lit_7 (by decide) (fun c9 => ?_) (fun c9 => ?_)
      · replace h := br_p c9 h
        exact K _ _ _ _ _ h hP hD hS (lv_sub hl [0, 1, 2, 3] rfl)
      · replace h := br_n c9 h
        refine lv_iload_n hx hb dX8_lit_10 rfl (lv_at hl 2 rfl) ?_
        refine lv_aload_n hx hb dX8_lit_11 rfl (lv_at hl 0 rfl) ?_
        refine va_get (D := D) (ci := 8) (v := .ref mo1) (C := RX8) (T := TX8) (N := 7) hx hb hts uX8_lit_X8 hown hK.1 hP 0 rfl rfl 0 (by decide) (hts _ kX8_lit_1) (fun _ h9 => h9) rfl dX8_lit_12 ?_
        refine lv_bipush (v := 81) hx hb dX8_lit_15 (by decide) ?_
        refine lv_bipush (v := 24) hx hb dX8_lit_17 (by decide) ?_
        refine lv_iload_n hx hb dX8_lit_19 rfl (lv_at hl 1 rfl) ?_
        refine lv_imul hx hb dX8_lit_20 ?_
        refine lv_iadd hx hb dX8_lit_21 ?_
        refine lv_iload_n hx hb dX8_lit_22 rfl (lv_at hl 3 rfl) ?_
        refine lv_iadd hx hb dX8_lit_23 ?_
        obtain ⟨hin, h⟩ := gd_sp h
        refine va_iald (D := D) hx hb hK.1 hP 1 0 rfl rfl hin dX8_lit_24 ?_
        obtain ⟨j35, hj35, h⟩ := jn_sp h
        have J35 : ∀ (j5 : Int32) (H : Heap) (locs : List Loc) (ls : Array Slot), j35 j5 = some r → va_P D vwCl (ws_model cI cC cZ cR mo mo1 mo2 mo3 mo4 mo5 kn le_ s_ past slo isv pad_) H → va_D A (ws_model cI cC cZ cR mo mo1 mo2 mo3 mo4 mo5 kn le_ s_ past slo isv pad_) → va_S A s.heap H locs → lv_has ls 4 [(0, .ref mo), (1, .int a0), (2, .int v3), (3, .int v4)] → W p l e R_X8_lit s m ([.ref mo, .int a0] : List Value).toArray below meth c H locs 0 0 Q (F0 m 35 ls [.int j5, .int v3]) := by
          intro j5 H locs ls h hP hD hS hl
          rw [hj35] at h
          refine lv_ior hx hb dX8_lit_35 ?_
          refine lv_topi (fun x6 ex6 => ?_)
          replace h := bd_s2 h ex6
          refine lv_istore_n (lv' := [(2, .int x6), (0, .ref mo), (1, .int a0), (3, .int v4)]) hx hb dX8_lit_36 rfl hl (by decide) rfl (fun ls hl => ?_)
          obtain ⟨x7, ex7, h⟩ := bd_sp h
          refine lv_iinc (v := x7) (lv' := [(3, .int x7), (2, .int x6), (0, .ref mo), (1, .int a0)]) hx hb dX8_lit_37 hl (k := 3) rfl (by rw [ex7]; rfl) (by decide) rfl (fun ls hl => ?_)
          refine lv_goto (tgt := 4) hx hb dX8_lit_40 (by decide) ?_
          exact ih _ _ _ _ _ h hP hD hS (lv_sub hl [2, 3, 1, 0] rfl)
        refine lv_if_le (tgt := 34) hx hb dX8_lit_25 (by decide) (fun c8 => ?_) (fun c8 => ?_)
        · replace h := br_p c8 h
          refine lv_iconst (v := 0) hx hb dX8_lit_34 (by decide) ?_
          exact J35 _ _ _ _ h hP hD hS (lv_sub hl [0, 1, 2, 3] rfl)
        · replace h := br_n c8 h
          refine lv_iconst (v := 1) hx hb dX8_lit_28 (by decide) ?_
          refine lv_iload_n hx hb dX8_lit_29 rfl (lv_at hl 3 rfl) ?_
          refine lv_ishl hx hb dX8_lit_30 ?_
          refine lv_goto (tgt := 35) hx hb dX8_lit_31 (by decide) ?_
          exact J35 _ _ _ _ h hP hD hS (lv_sub hl [0, 1, 2, 3] rfl)
  refine L4 _ (fun w10 w11 H locs ls h hP hD hS hl => ?_) 4000 0 0 _ _ _ h hP hD hS (lv_sub hl [2, 3, 1, 0] rfl)
  refine lv_iload_n hx hb dX8_lit_43 rfl (lv_at hl 2 rfl) ?_
  have e9 := Option.some.inj h
  subst e9
  rw [hQ]
  exact W.iret (v := w10) hx hb hr (fun t ht hW => ⟨⟨w10, (), rfl, rfl, by rw [ht]; exact hP, hD⟩, hS.F ht⟩) hS.2.2 dX8_lit_44
-- LeaningLinesModel.sumOf
abbrev OUT_X8_sumOf : Type := Int32
def f_X8_sumOf_L4 (s_ : Nat → Int32) (a0 : Int32) (k : Int32 → Int32 → Option OUT_X8_sumOf) : Nat → Int32 → Int32 → Option OUT_X8_sumOf
  | 0 => fun _ _ => none
  | n + 1 => fun v3 v4 => (if 24 ≤ v4 then k v3 v4 else gd ((81 + (24 * a0)) + v4) 465 (bd (v3 + (s_ ((81 + (24 * a0)) + v4 : Int32).toNatClampNeg)) (fun x5 => bd (v4 + 1) (fun x6 => f_X8_sumOf_L4 s_ a0 k n x5 x6))))
theorem f_X8_sumOf_L4_s (s_ : Nat → Int32) (a0 : Int32) (k : Int32 → Int32 → Option OUT_X8_sumOf) (n : Nat) (v3 : Int32) (v4 : Int32) : f_X8_sumOf_L4 s_ a0 k (n + 1) v3 v4 = ((if 24 ≤ v4 then k v3 v4 else gd ((81 + (24 * a0)) + v4) 465 (bd (v3 + (s_ ((81 + (24 * a0)) + v4 : Int32).toNatClampNeg)) (fun x5 => bd (v4 + 1) (fun x6 => f_X8_sumOf_L4 s_ a0 k n x5 x6))))) := rfl
def f_X8_sumOf (s_ : Nat → Int32) (a0 : Int32) : Option OUT_X8_sumOf :=
  f_X8_sumOf_L4 s_ a0 (fun (w8 : Int32) (w9 : Int32) => some (w8)) 4000 0 0
theorem uX8_sumOf_X8 : ∀ w ∈ wsX80, w ∈ wsX8_sumOf := by decide +kernel
theorem kX8_sumOf_1 : Cond.fieldLink RX8 7 "LeaningLinesModel" "s" "[I" ∈ wsX8_sumOf := by decide +kernel
abbrev R_X8_sumOf : Room := { frames := 0, cells := 0, slots := 0, locals := 0 }
set_option maxHeartbeats 4000000 in
set_option maxRecDepth 100000 in
theorem m_X8_sumOf (l : Launch) (D : va_G) (cI cC cZ cR : ClassId) (mo mo1 mo2 mo3 mo4 mo5 : Nat) (sz : Nat) (kn : Int32) (le_ : Int32) (s_ : Nat → Int32) (past : Nat → Int32) (slo : Nat → Int32) (isv : Nat → Int32) (pad_ : Nat → Int32)  (a0 : Int32)   (r : OUT_X8_sumOf) (hf : f_X8_sumOf s_ a0 = some r) : Met l yX8_sumOf wsX8_sumOf R_X8_sumOf (cPc D cI cC cZ cR [.ref mo, .int a0] sz (ws_model cI cC cZ cR mo mo1 mo2 mo3 mo4 mo5 kn le_ s_ past slo isv pad_)) (cQi D (ws_model cI cC cZ cR mo mo1 mo2 mo3 mo4 mo5 kn le_ s_ past slo isv pad_) (va_A (ws_model cI cC cZ cR mo mo1 mo2 mo3 mo4 mo5 kn le_ s_ past slo isv pad_) sz) r) 0 0 (va_A (ws_model cI cC cZ cR mo mo1 mo2 mo3 mo4 mo5 kn le_ s_ past slo isv pad_) sz) := by
  refine Met.ofW (cc := cX8_sumOf) (maxL := 4) (ret := (some .int)) (by decide) rfl ?_
  intro p e s m args below meth c s₁ B hml hv
  obtain ⟨rfl, hsz, hP, hK, hD0⟩ := hv
  have hx := B.exec
  have hb := B.bytes
  have hr := B.returns
  have hts := atoms_spec (ws := wsX8_sumOf) B.pre
  have hown : s.vm.findClass RX8 = some m.cls := findClass_of_methodNamed B.named
  have hlocks := B.notSynchronized
  subst hsz
  have hD := hD0.self (sz := s.heap.size)
  generalize hAe : va_A (ws_model cI cC cZ cR mo mo1 mo2 mo3 mo4 mo5 kn le_ s_ past slo isv pad_) s.heap.size = A at hD ⊢
  skip
  have hA : ∀ q : Nat, s.heap.size ≤ q → A q := fun q h => by rw [← hAe]; exact Or.inr h
  have hS : va_S A s.heap s.heap [] := va_S.rf
  have hl := lv_entry ([.ref mo, .int a0]) (n := 4) (Nat.le_of_ble_eq_true rfl)
  rw [lg_entry_eq]
  generalize (lg_sl ([.ref mo, .int a0]) ++ List.replicate (4 - (lg_sl ([.ref mo, .int a0])).length) Slot.unset).toArray = ls at hl ⊢
  have hl : lv_has ls 4 [(0, .ref mo), (1, .int a0)] := hl
  refine W_absQ (fun Q hQ => ?_)
  refine W.eq (g2 := F0 m 0 ls []) rfl ?_
  have h := hf
  unfold f_X8_sumOf at h
  refine lv_iconst (v := 0) hx hb dX8_sumOf_0 (by decide) ?_
  refine lv_istore_n (lv' := [(2, .int 0), (0, .ref mo), (1, .int a0)]) hx hb dX8_sumOf_1 rfl hl (by decide) rfl (fun ls hl => ?_)
  refine lv_iconst (v := 0) hx hb dX8_sumOf_2 (by decide) ?_
  refine lv_istore_n (lv' := [(3, .int 0), (2, .int 0), (0, .ref mo), (1, .int a0)]) hx hb dX8_sumOf_3 rfl hl (by decide) rfl (fun ls hl => ?_)
  have L4 : ∀ (k : Int32 → Int32 → Option OUT_X8_sumOf), (∀ (w8 : Int32) (w9 : Int32) (H : Heap) (locs : List Loc) (ls : Array Slot), k w8 w9 = some r → va_P D vwCl (ws_model cI cC cZ cR mo mo1 mo2 mo3 mo4 mo5 kn le_ s_ past slo isv pad_) H → va_D A (ws_model cI cC cZ cR mo mo1 mo2 mo3 mo4 mo5 kn le_ s_ past slo isv pad_) → va_S A s.heap H locs → lv_has ls 4 [(0, .ref mo), (1, .int a0), (2, .int w8), (3, .int w9)] → W p l e R_X8_sumOf s m ([.ref mo, .int a0] : List Value).toArray below meth c H locs 0 0 Q (F0 m 33 ls [])) → ∀ (n : Nat) (v3 : Int32) (v4 : Int32) (H : Heap) (locs : List Loc) (ls : Array Slot), f_X8_sumOf_L4 s_ a0 k n v3 v4 = some r → va_P D vwCl (ws_model cI cC cZ cR mo mo1 mo2 mo3 mo4 mo5 kn le_ s_ past slo isv pad_) H → va_D A (ws_model cI cC cZ cR mo mo1 mo2 mo3 mo4 mo5 kn le_ s_ past slo isv pad_) → va_S A s.heap H locs → lv_has ls 4 [(0, .ref mo), (1, .int a0), (2, .int v3), (3, .int v4)] → W p l e R_X8_sumOf s m ([.ref mo, .int a0] : List Value).toArray below meth c H locs 0 0 Q (F0 m 4 ls []) := by
    intro k K n
    induction n with
    | zero => intro v3 v4 H locs ls h; exact no_sm h
    | succ n ih =>
      intro v3 v4 H locs ls h hP hD hS hl
      rw [f_X8_sumOf_L4_s] at h
      refine lv_iload_n hx hb dX8_sumOf_4 rfl (lv_at hl 3 rfl) ?_
      refine lv_bipush (v := 24) hx hb dX8_sumOf_5 (by decide) ?_
      refine lv_icmp_ge (tgt := 33) hx hb dX8_sumOf_7 (by decide) (fun c7 => ?_) (fun c7 => ?_)
      · replace h := br_p c7 h
        exact K _ _ _ _ _ h hP hD hS (lv_sub hl [0, 1, 2, 3] rfl)
      · replace h := br_n c7 h
        refine lv_iload_n hx hb dX8_sumOf_10 rfl (lv_at hl 2 rfl) ?_
        refine lv_aload_n hx hb dX8_sumOf_11 rfl (lv_at hl 0 rfl) ?_
        refine va_get (D := D) (ci := 8) (v := .ref mo1) (C := RX8) (T := TX8) (N := 7) hx hb hts uX8_sumOf_X8 hown hK.1 hP 0 rfl rfl 0 (by decide) (hts _ kX8_sumOf_1) (fun _ h9 => h9) rfl dX8_sumOf_12 ?_
        refine lv_bipush (v := 81) hx hb dX8_sumOf_15 (by decide) ?_
        refine lv_bipush (v := 24) hx hb dX8_sumOf_17 (by decide) ?_
        refine lv_iload_n hx hb dX8_sumOf_19 rfl (lv_at hl 1 rfl) ?_
        refine lv_imul hx hb dX8_sumOf_20 ?_
        refine lv_iadd hx hb dX8_sumOf_21 ?_
        refine lv_iload_n hx hb dX8_sumOf_22 rfl (lv_at hl 3 rfl) ?_
        refine lv_iadd hx hb dX8_sumOf_23 ?_
        obtain ⟨hin, h⟩ := gd_sp h
        refine va_iald (D := D) hx hb hK.1 hP 1 0 rfl rfl hin dX8_sumOf_24 ?_
        refine lv_iadd hx hb dX8_sumOf_25 ?_
        refine lv_topi (fun x5 ex5 => ?_)
        replace h := bd_s2 h ex5
        refine lv_istore_n (lv' := [(2, .int x5), (0, .ref mo), (1, .int a0), (3, .int v4)]) hx hb dX8_sumOf_26 rfl hl (by decide) rfl (fun ls hl => ?_)
        obtain ⟨x6, ex6, h⟩ := bd_sp h
        refine lv_iinc (v := x6) (lv' := [(3, .int x6), (2, .int x5), (0, .ref mo), (1, .int a0)]) hx hb dX8_sumOf_27 hl (k := 3) rfl (by rw [ex6]; rfl) (by decide) rfl (fun ls hl => ?_)
        refine lv_goto (tgt := 4) hx hb dX8_sumOf_30 (by decide) ?_
        exact ih _ _ _ _ _ h hP hD hS (lv_sub hl [2, 3, 1, 0] rfl)
  refine L4 _ (fun w8 w9 H locs ls h hP hD hS hl => ?_) 4000 0 0 _ _ _ h hP hD hS (lv_sub hl [2, 3, 1, 0] rfl)
  refine lv_iload_n hx hb dX8_sumOf_33 rfl (lv_at hl 2 rfl) ?_
  have e9 := Option.some.inj h
  subst e9
  rw [hQ]
  exact W.iret (v := w8) hx hb hr (fun t ht hW => ⟨⟨w8, (), rfl, rfl, by rw [ht]; exact hP, hD⟩, hS.F ht⟩) hS.2.2 dX8_sumOf_34
-- LeaningLinesModel.leftmost
abbrev OUT_X8_leftmost : Type := Int32
def f_X8_leftmost_L2 (s_ : Nat → Int32) (a0 : Int32) (k : Int32 → Option OUT_X8_leftmost) : Nat → Int32 → Option OUT_X8_leftmost
  | 0 => fun _ => none
  | n + 1 => fun v2 => (if 24 ≤ v2 then k v2 else gd ((81 + (24 * a0)) + v2) 465 ((if (s_ ((81 + (24 * a0)) + v2 : Int32).toNatClampNeg) ≤ 0 then bd (v2 + 1) (fun x3 => f_X8_leftmost_L2 s_ a0 k n x3) else some (v2))))
theorem f_X8_leftmost_L2_s (s_ : Nat → Int32) (a0 : Int32) (k : Int32 → Option OUT_X8_leftmost) (n : Nat) (v2 : Int32) : f_X8_leftmost_L2 s_ a0 k (n + 1) v2 = ((if 24 ≤ v2 then k v2 else gd ((81 + (24 * a0)) + v2) 465 ((if (s_ ((81 + (24 * a0)) + v2 : Int32).toNatClampNeg) ≤ 0 then bd (v2 + 1) (fun x3 => f_X8_leftmost_L2 s_ a0 k n x3) else some (v2))))) := rfl
def f_X8_leftmost (s_ : Nat → Int32) (a0 : Int32) : Option OUT_X8_leftmost :=
  f_X8_leftmost_L2 s_ a0 (fun (w6 : Int32) => some ((-6))) 4000 0
theorem uX8_leftmost_X8 : ∀ w ∈ wsX80, w ∈ wsX8_leftmost := by decide +kernel
theorem kX8_leftmost_1 : Cond.fieldLink RX8 7 "LeaningLinesModel" "s" "[I" ∈ wsX8_leftmost := by decide +kernel
abbrev R_X8_leftmost : Room := { frames := 0, cells := 0, slots := 0, locals := 0 }
set_option maxHeartbeats 4000000 in
set_option maxRecDepth 100000 in
theorem m_X8_leftmost (l : Launch) (D : va_G) (cI cC cZ cR : ClassId) (mo mo1 mo2 mo3 mo4 mo5 : Nat) (sz : Nat) (kn : Int32) (le_ : Int32) (s_ : Nat → Int32) (past : Nat → Int32) (slo : Nat → Int32) (isv : Nat → Int32) (pad_ : Nat → Int32)  (a0 : Int32)   (r : OUT_X8_leftmost) (hf : f_X8_leftmost s_ a0 = some r) : Met l yX8_leftmost wsX8_leftmost R_X8_leftmost (cPc D cI cC cZ cR [.ref mo, .int a0] sz (ws_model cI cC cZ cR mo mo1 mo2 mo3 mo4 mo5 kn le_ s_ past slo isv pad_)) (cQi D (ws_model cI cC cZ cR mo mo1 mo2 mo3 mo4 mo5 kn le_ s_ past slo isv pad_) (va_A (ws_model cI cC cZ cR mo mo1 mo2 mo3 mo4 mo5 kn le_ s_ past slo isv pad_) sz) r) 0 0 (va_A (ws_model cI cC cZ cR mo mo1 mo2 mo3 mo4 mo5 kn le_ s_ past slo isv pad_) sz) := by
  refine Met.ofW (cc := cX8_leftmost) (maxL := 3) (ret := (some .int)) (by decide) rfl ?_
  intro p e s m args below meth c s₁ B hml hv
  obtain ⟨rfl, hsz, hP, hK, hD0⟩ := hv
  have hx := B.exec
  have hb := B.bytes
  have hr := B.returns
  have hts := atoms_spec (ws := wsX8_leftmost) B.pre
  have hown : s.vm.findClass RX8 = some m.cls := findClass_of_methodNamed B.named
  have hlocks := B.notSynchronized
  subst hsz
  have hD := hD0.self (sz := s.heap.size)
  generalize hAe : va_A (ws_model cI cC cZ cR mo mo1 mo2 mo3 mo4 mo5 kn le_ s_ past slo isv pad_) s.heap.size = A at hD ⊢
  skip
  have hA : ∀ q : Nat, s.heap.size ≤ q → A q := fun q h => by rw [← hAe]; exact Or.inr h
  have hS : va_S A s.heap s.heap [] := va_S.rf
  have hl := lv_entry ([.ref mo, .int a0]) (n := 3) (Nat.le_of_ble_eq_true rfl)
  rw [lg_entry_eq]
  generalize (lg_sl ([.ref mo, .int a0]) ++ List.replicate (3 - (lg_sl ([.ref mo, .int a0])).length) Slot.unset).toArray = ls at hl ⊢
  have hl : lv_has ls 3 [(0, .ref mo), (1, .int a0)] := hl
  refine W_absQ (fun Q hQ => ?_)
  refine W.eq (g2 := F0 m 0 ls []) rfl ?_
  have h := hf
  unfold f_X8_leftmost at h
  refine lv_iconst (v := 0) hx hb dX8_leftmost_0 (by decide) ?_
  refine lv_istore_n (lv' := [(2, .int 0), (0, .ref mo), (1, .int a0)]) hx hb dX8_leftmost_1 rfl hl (by decide) rfl (fun ls hl => ?_)
  have L2 : ∀ (k : Int32 → Option OUT_X8_leftmost), (∀ (w6 : Int32) (H : Heap) (locs : List Loc) (ls : Array Slot), k w6 = some r → va_P D vwCl (ws_model cI cC cZ cR mo mo1 mo2 mo3 mo4 mo5 kn le_ s_ past slo isv pad_) H → va_D A (ws_model cI cC cZ cR mo mo1 mo2 mo3 mo4 mo5 kn le_ s_ past slo isv pad_) → va_S A s.heap H locs → lv_has ls 3 [(0, .ref mo), (1, .int a0), (2, .int w6)] → W p l e R_X8_leftmost s m ([.ref mo, .int a0] : List Value).toArray below meth c H locs 0 0 Q (F0 m 33 ls [])) → ∀ (n : Nat) (v2 : Int32) (H : Heap) (locs : List Loc) (ls : Array Slot), f_X8_leftmost_L2 s_ a0 k n v2 = some r → va_P D vwCl (ws_model cI cC cZ cR mo mo1 mo2 mo3 mo4 mo5 kn le_ s_ past slo isv pad_) H → va_D A (ws_model cI cC cZ cR mo mo1 mo2 mo3 mo4 mo5 kn le_ s_ past slo isv pad_) → va_S A s.heap H locs → lv_has ls 3 [(0, .ref mo), (1, .int a0), (2, .int v2)] → W p l e R_X8_leftmost s m ([.ref mo, .int a0] : List Value).toArray below meth c H locs 0 0 Q (F0 m 2 ls []) := by
    intro k K n
    induction n with
    | zero => intro v2 H locs ls h; exact no_sm h
    | succ n ih =>
      intro v2 H locs ls h hP hD hS hl
      rw [f_X8_leftmost_L2_s] at h
      refine lv_iload_n hx hb dX8_leftmost_2 rfl (lv_at hl 2 rfl) ?_
      refine lv_bipush (v := 24) hx hb dX8_leftmost_3 (by decide) ?_
      refine lv_icmp_ge (tgt := 33) hx hb dX8_leftmost_5 (by decide) (fun c5 => ?_) (fun c5 => ?_)
      · replace h := br_p c5 h
        exact K _ _ _ _ h hP hD hS (lv_sub hl [0, 1, 2] rfl)
      · replace h := br_n c5 h
        refine lv_aload_n hx hb dX8_leftmost_8 rfl (lv_at hl 0 rfl) ?_
        refine va_get (D := D) (ci := 8) (v := .ref mo1) (C := RX8) (T := TX8) (N := 7) hx hb hts uX8_leftmost_X8 hown hK.1 hP 0 rfl rfl 0 (by decide) (hts _ kX8_leftmost_1) (fun _ h9 => h9) rfl dX8_leftmost_9 ?_
        refine lv_bipush (v := 81) hx hb dX8_leftmost_12 (by decide) ?_
        refine lv_bipush (v := 24) hx hb dX8_leftmost_14 (by decide) ?_
        refine lv_iload_n hx hb dX8_leftmost_16 rfl (lv_at hl 1 rfl) ?_
        refine lv_imul hx hb dX8_leftmost_17 ?_
        refine lv_iadd hx hb dX8_leftmost_18 ?_
        refine lv_iload_n hx hb dX8_leftmost_19 rfl (lv_at hl 2 rfl) ?_
        refine lv_iadd hx hb dX8_leftmost_20 ?_
        obtain ⟨hin, h⟩ := gd_sp h
        refine va_iald (D := D) hx hb hK.1 hP 1 0 rfl rfl hin dX8_leftmost_21 ?_
        refine lv_if_le (tgt := 27) hx hb dX8_leftmost_22 (by decide) (fun c4 => ?_) (fun c4 => ?_)
        · replace h := br_p c4 h
          obtain ⟨x3, ex3, h⟩ := bd_sp h
          refine lv_iinc (v := x3) (lv' := [(2, .int x3), (0, .ref mo), (1, .int a0)]) hx hb dX8_leftmost_27 hl (k := 2) rfl (by rw [ex3]; rfl) (by decide) rfl (fun ls hl => ?_)
          refine lv_goto (tgt := 2) hx hb dX8_leftmost_30 (by decide) ?_
          exact ih _ _ _ _ h hP hD hS (lv_sub hl [1, 2, 0] rfl)
        · replace h := br_n c4 h
          refine lv_iload_n hx hb dX8_leftmost_25 rfl (lv_at hl 2 rfl) ?_
          have e9 := Option.some.inj h
          subst e9
          rw [hQ]
          exact W.iret (v := v2) hx hb hr (fun t ht hW => ⟨⟨v2, (), rfl, rfl, by rw [ht]; exact hP, hD⟩, hS.F ht⟩) hS.2.2 dX8_leftmost_26
  refine L2 _ (fun w6 H locs ls h hP hD hS hl => ?_) 4000 0 _ _ _ h hP hD hS (lv_sub hl [1, 2, 0] rfl)
  refine lv_bipush (v := (-6)) hx hb dX8_leftmost_33 (by decide) ?_
  have e9 := Option.some.inj h
  subst e9
  rw [hQ]
  exact W.iret (v := (-6)) hx hb hr (fun t ht hW => ⟨⟨(-6), (), rfl, rfl, by rw [ht]; exact hP, hD⟩, hS.F ht⟩) hS.2.2 dX8_leftmost_35
-- LeaningLinesModel.goes
abbrev OUT_X8_goes : Type := Int32
def f_X8_goes_L4 (s_ : Nat → Int32) (k : Int32 → Int32 → Option OUT_X8_goes) : Nat → Int32 → Int32 → Option OUT_X8_goes
  | 0 => fun _ _ => none
  | n + 1 => fun v3 v4 => (if v4 < 0 then k v3 v4 else bn (f_X8_its s_ v4 5) (fun r5 => bd (v3 + r5) (fun x6 => bn (f_X8_its s_ v4 7) (fun r7 => f_X8_goes_L4 s_ k n x6 r7))))
theorem f_X8_goes_L4_s (s_ : Nat → Int32) (k : Int32 → Int32 → Option OUT_X8_goes) (n : Nat) (v3 : Int32) (v4 : Int32) : f_X8_goes_L4 s_ k (n + 1) v3 v4 = ((if v4 < 0 then k v3 v4 else bn (f_X8_its s_ v4 5) (fun r5 => bd (v3 + r5) (fun x6 => bn (f_X8_its s_ v4 7) (fun r7 => f_X8_goes_L4 s_ k n x6 r7))))) := rfl
def f_X8_goes (s_ : Nat → Int32) (a0 : Int32) : Option OUT_X8_goes :=
  f_X8_goes_L4 s_ (fun (w9 : Int32) (w10 : Int32) => some (w9)) 4000 0 a0
abbrev R_X8_goes : Room := { frames := 1, cells := 0, slots := 0, locals := 22 }
set_option maxHeartbeats 4000000 in
set_option maxRecDepth 100000 in
theorem m_X8_goes (l : Launch) (D : va_G) (cI cC cZ cR : ClassId) (mo mo1 mo2 mo3 mo4 mo5 : Nat) (sz : Nat) (kn : Int32) (le_ : Int32) (s_ : Nat → Int32) (past : Nat → Int32) (slo : Nat → Int32) (isv : Nat → Int32) (pad_ : Nat → Int32)  (a0 : Int32)   (r : OUT_X8_goes) (hf : f_X8_goes s_ a0 = some r) : Met l yX8_goes wsX8_goes R_X8_goes (cPc D cI cC cZ cR [.ref mo, .int a0] sz (ws_model cI cC cZ cR mo mo1 mo2 mo3 mo4 mo5 kn le_ s_ past slo isv pad_)) (cQi D (ws_model cI cC cZ cR mo mo1 mo2 mo3 mo4 mo5 kn le_ s_ past slo isv pad_) (va_A (ws_model cI cC cZ cR mo mo1 mo2 mo3 mo4 mo5 kn le_ s_ past slo isv pad_) sz) r) 0 0 (va_A (ws_model cI cC cZ cR mo mo1 mo2 mo3 mo4 mo5 kn le_ s_ past slo isv pad_) sz) := by
  refine Met.ofW (cc := cX8_goes) (maxL := 4) (ret := (some .int)) (by decide) rfl ?_
  intro p e s m args below meth c s₁ B hml hv
  obtain ⟨rfl, hsz, hP, hK, hD0⟩ := hv
  have hx := B.exec
  have hb := B.bytes
  have hr := B.returns
  have hts := atoms_spec (ws := wsX8_goes) B.pre
  have hown : s.vm.findClass RX8 = some m.cls := findClass_of_methodNamed B.named
  have hlocks := B.notSynchronized
  subst hsz
  have hD := hD0.self (sz := s.heap.size)
  generalize hAe : va_A (ws_model cI cC cZ cR mo mo1 mo2 mo3 mo4 mo5 kn le_ s_ past slo isv pad_) s.heap.size = A at hD ⊢
  skip
  have hA : ∀ q : Nat, s.heap.size ≤ q → A q := fun q h => by rw [← hAe]; exact Or.inr h
  have hS : va_S A s.heap s.heap [] := va_S.rf
  have hl := lv_entry ([.ref mo, .int a0]) (n := 4) (Nat.le_of_ble_eq_true rfl)
  rw [lg_entry_eq]
  generalize (lg_sl ([.ref mo, .int a0]) ++ List.replicate (4 - (lg_sl ([.ref mo, .int a0])).length) Slot.unset).toArray = ls at hl ⊢
  have hl : lv_has ls 4 [(0, .ref mo), (1, .int a0)] := hl
  refine W_absQ (fun Q hQ => ?_)
  refine W.eq (g2 := F0 m 0 ls []) rfl ?_
  have h := hf
  unfold f_X8_goes at h
  refine lv_iconst (v := 0) hx hb dX8_goes_0 (by decide) ?_
  refine lv_istore_n (lv' := [(2, .int 0), (0, .ref mo), (1, .int a0)]) hx hb dX8_goes_1 rfl hl (by decide) rfl (fun ls hl => ?_)
  refine lv_iload_n hx hb dX8_goes_2 rfl (lv_at hl 2 rfl) ?_
  refine lv_istore_n (lv' := [(3, .int a0), (2, .int 0), (0, .ref mo), (1, .int a0)]) hx hb dX8_goes_3 rfl hl (by decide) rfl (fun ls hl => ?_)
  have L4 : ∀ (k : Int32 → Int32 → Option OUT_X8_goes), (∀ (w9 : Int32) (w10 : Int32) (H : Heap) (locs : List Loc) (ls : Array Slot), k w9 w10 = some r → va_P D vwCl (ws_model cI cC cZ cR mo mo1 mo2 mo3 mo4 mo5 kn le_ s_ past slo isv pad_) H → va_D A (ws_model cI cC cZ cR mo mo1 mo2 mo3 mo4 mo5 kn le_ s_ past slo isv pad_) → va_S A s.heap H locs → lv_has ls 4 [(0, .ref mo), (1, .int a0), (2, .int w9), (3, .int w10)] → W p l e R_X8_goes s m ([.ref mo, .int a0] : List Value).toArray below meth c H locs 0 0 Q (F0 m 28 ls [])) → ∀ (n : Nat) (v3 : Int32) (v4 : Int32) (H : Heap) (locs : List Loc) (ls : Array Slot), f_X8_goes_L4 s_ k n v3 v4 = some r → va_P D vwCl (ws_model cI cC cZ cR mo mo1 mo2 mo3 mo4 mo5 kn le_ s_ past slo isv pad_) H → va_D A (ws_model cI cC cZ cR mo mo1 mo2 mo3 mo4 mo5 kn le_ s_ past slo isv pad_) → va_S A s.heap H locs → lv_has ls 4 [(0, .ref mo), (1, .int a0), (2, .int v3), (3, .int v4)] → W p l e R_X8_goes s m ([.ref mo, .int a0] : List Value).toArray below meth c H locs 0 0 Q (F0 m 4 ls []) := by
    intro k K n
    induction n with
    | zero => intro v3 v4 H locs ls h; exact no_sm h
    | succ n ih =>
      intro v3 v4 H locs ls h hP hD hS hl
      rw [f_X8_goes_L4_s] at h
      refine lv_iload_n hx hb dX8_goes_4 rfl (lv_at hl 3 rfl) ?_
      refine lv_if_lt (tgt := 28) hx hb dX8_goes_5 (by decide) (fun c8 => ?_) (fun c8 => ?_)
      · replace h := br_p c8 h
        exact K _ _ _ _ _ h hP hD hS (lv_sub hl [0, 1, 2, 3] rfl)
      · replace h := br_n c8 h
        refine lv_iload_n hx hb dX8_goes_8 rfl (lv_at hl 2 rfl) ?_
        refine lv_aload_n hx hb dX8_goes_9 rfl (lv_at hl 0 rfl) ?_
        refine lv_iload_n hx hb dX8_goes_10 rfl (lv_at hl 3 rfl) ?_
        refine lv_iconst (v := 5) hx hb dX8_goes_11 (by decide) ?_
        obtain ⟨r5, hcr5, h⟩ := bn_sp h
        have hPc := hP.sub (ws' := (ws_model cI cC cZ cR mo mo1 mo2 mo3 mo4 mo5 kn le_ s_ past slo isv pad_)) [0, 1, 2, 3, 4, 5] rfl
        have hDc := hD.sub (ws' := (ws_model cI cC cZ cR mo mo1 mo2 mo3 mo4 mo5 kn le_ s_ past slo isv pad_)) [0, 1, 2, 3, 4, 5] (by decide) rfl
        have hFc := va_free (wc := (ws_model cI cC cZ cR mo mo1 mo2 mo3 mo4 mo5 kn le_ s_ past slo isv pad_)) hD hS hA [0, 1, 2, 3, 4, 5] rfl
        refine va_calli (va_runV (As := [.int v4, .int 5]) (rest := [.int v3]) ⟨hx, hb, hml, hown, hts⟩ (m_X8_its l D cI cC cZ cR mo mo1 mo2 mo3 mo4 mo5 _ kn le_ s_ past slo isv pad_ v4 5   r5 hcr5) (cwV 2 hts gX8_goes_X8_its rfl rfl rfl (by decide +kernel) ⟨Nat.le_of_ble_eq_true rfl, Nat.le_of_ble_eq_true rfl⟩) (cPc_pv hPc hK hDc (ci := 8) (q0 := 0) rfl rfl) rfl rfl hl.1 rfl (lv_room (Nat.le_of_ble_eq_true rfl)) dX8_goes_12 ⟨Nat.le_of_ble_eq_true rfl, Nat.le_of_ble_eq_true rfl⟩) hS (fun q _ h => hFc q h) hFc (fun xq u t H1 locs ht hvm hw hB hz1 hk1 hS => ?_)
        rw [hw]
        obtain ⟨hP1, hD1⟩ := hB
        rw [ht] at hP1
        obtain ⟨hP, hD⟩ := va_join (wr := []) (w1 := (ws_model cI cC cZ cR mo mo1 mo2 mo3 mo4 mo5 kn le_ s_ past slo isv pad_)) hP hD [0, 1, 2, 3, 4, 5] [] rfl rfl (by decide) (by decide) hk1 hFc hP1 hD1
        generalize H1 = H at hP hS ⊢
        have hP : va_P D vwCl (ws_model cI cC cZ cR mo mo1 mo2 mo3 mo4 mo5 kn le_ s_ past slo isv pad_) H := hP
        have hD : va_D A (ws_model cI cC cZ cR mo mo1 mo2 mo3 mo4 mo5 kn le_ s_ past slo isv pad_) := hD
        refine lv_iadd hx hb dX8_goes_15 ?_
        refine lv_topi (fun x6 ex6 => ?_)
        replace h := bd_s2 h ex6
        refine lv_istore_n (lv' := [(2, .int x6), (0, .ref mo), (1, .int a0), (3, .int v4)]) hx hb dX8_goes_16 rfl hl (by decide) rfl (fun ls hl => ?_)
        refine lv_aload_n hx hb dX8_goes_17 rfl (lv_at hl 1 rfl) ?_
        refine lv_iload_n hx hb dX8_goes_18 rfl (lv_at hl 3 rfl) ?_
        refine lv_bipush (v := 7) hx hb dX8_goes_19 (by decide) ?_
        obtain ⟨r7, hcr7, h⟩ := bn_sp h
        have hPc := hP.sub (ws' := (ws_model cI cC cZ cR mo mo1 mo2 mo3 mo4 mo5 kn le_ s_ past slo isv pad_)) [0, 1, 2, 3, 4, 5] rfl
        have hDc := hD.sub (ws' := (ws_model cI cC cZ cR mo mo1 mo2 mo3 mo4 mo5 kn le_ s_ past slo isv pad_)) [0, 1, 2, 3, 4, 5] (by decide) rfl
        have hFc := va_free (wc := (ws_model cI cC cZ cR mo mo1 mo2 mo3 mo4 mo5 kn le_ s_ past slo isv pad_)) hD hS hA [0, 1, 2, 3, 4, 5] rfl
        refine va_calli (va_runV (As := [.int v4, .int 7]) (rest := []) ⟨hx, hb, hml, hown, hts⟩ (m_X8_its l D cI cC cZ cR mo mo1 mo2 mo3 mo4 mo5 _ kn le_ s_ past slo isv pad_ v4 7   r7 hcr7) (cwV 2 hts gX8_goes_X8_its rfl rfl rfl (by decide +kernel) ⟨Nat.le_of_ble_eq_true rfl, Nat.le_of_ble_eq_true rfl⟩) (cPc_pv hPc hK hDc (ci := 8) (q0 := 0) rfl rfl) rfl rfl hl.1 rfl (lv_room (Nat.le_of_ble_eq_true rfl)) dX8_goes_21 ⟨Nat.le_of_ble_eq_true rfl, Nat.le_of_ble_eq_true rfl⟩) hS (fun q _ h => hFc q h) hFc (fun xq u t H1 locs ht hvm hw hB hz1 hk1 hS => ?_)
        rw [hw]
        obtain ⟨hP1, hD1⟩ := hB
        rw [ht] at hP1
        obtain ⟨hP, hD⟩ := va_join (wr := []) (w1 := (ws_model cI cC cZ cR mo mo1 mo2 mo3 mo4 mo5 kn le_ s_ past slo isv pad_)) hP hD [0, 1, 2, 3, 4, 5] [] rfl rfl (by decide) (by decide) hk1 hFc hP1 hD1
        generalize H1 = H at hP hS ⊢
        have hP : va_P D vwCl (ws_model cI cC cZ cR mo mo1 mo2 mo3 mo4 mo5 kn le_ s_ past slo isv pad_) H := hP
        have hD : va_D A (ws_model cI cC cZ cR mo mo1 mo2 mo3 mo4 mo5 kn le_ s_ past slo isv pad_) := hD
        refine lv_istore_n (lv' := [(3, .int r7), (2, .int x6), (0, .ref mo), (1, .int a0)]) hx hb dX8_goes_24 rfl hl (by decide) rfl (fun ls hl => ?_)
        refine lv_goto (tgt := 4) hx hb dX8_goes_25 (by decide) ?_
        exact ih _ _ _ _ _ h hP hD hS (lv_sub hl [2, 3, 1, 0] rfl)
  refine L4 _ (fun w9 w10 H locs ls h hP hD hS hl => ?_) 4000 0 a0 _ _ _ h hP hD hS (lv_sub hl [2, 3, 1, 0] rfl)
  refine lv_iload_n hx hb dX8_goes_28 rfl (lv_at hl 2 rfl) ?_
  have e9 := Option.some.inj h
  subst e9
  rw [hQ]
  exact W.iret (v := w9) hx hb hr (fun t ht hW => ⟨⟨w9, (), rfl, rfl, by rw [ht]; exact hP, hD⟩, hS.F ht⟩) hS.2.2 dX8_goes_29
-- LeaningLinesModel.ones
abbrev OUT_X8_ones : Type := Int32
def f_X8_ones_L4 (a0 : Int32) (k : Int32 → Int32 → Option OUT_X8_ones) : Nat → Int32 → Int32 → Option OUT_X8_ones
  | 0 => fun _ _ => none
  | n + 1 => fun v3 v4 => (if 16 ≤ v4 then k v3 v4 else bd (v3 + ((a0 >>> (v4 &&& 31)) &&& 1)) (fun x5 => bd (v4 + 1) (fun x6 => f_X8_ones_L4 a0 k n x5 x6)))
theorem f_X8_ones_L4_s (a0 : Int32) (k : Int32 → Int32 → Option OUT_X8_ones) (n : Nat) (v3 : Int32) (v4 : Int32) : f_X8_ones_L4 a0 k (n + 1) v3 v4 = ((if 16 ≤ v4 then k v3 v4 else bd (v3 + ((a0 >>> (v4 &&& 31)) &&& 1)) (fun x5 => bd (v4 + 1) (fun x6 => f_X8_ones_L4 a0 k n x5 x6)))) := rfl
def f_X8_ones (a0 : Int32) : Option OUT_X8_ones :=
  f_X8_ones_L4 a0 (fun (w8 : Int32) (w9 : Int32) => some (w8)) 4000 0 0
abbrev R_X8_ones : Room := { frames := 0, cells := 0, slots := 0, locals := 0 }
set_option maxHeartbeats 4000000 in
set_option maxRecDepth 100000 in
theorem m_X8_ones (l : Launch) (D : va_G) (cI cC cZ cR : ClassId)  (sz : Nat)   (a0 : Int32)   (r : OUT_X8_ones) (hf : f_X8_ones a0 = some r) : Met l yX8_ones wsX8_ones R_X8_ones (cPc D cI cC cZ cR [.int a0] sz []) (cQi D [] (va_A [] sz) r) 0 0 (va_A [] sz) := by
  refine Met.ofW (cc := cX8_ones) (maxL := 3) (ret := (some .int)) (by decide) rfl ?_
  intro p e s m args below meth c s₁ B hml hv
  obtain ⟨rfl, hsz, hP, hK, hD0⟩ := hv
  have hx := B.exec
  have hb := B.bytes
  have hr := B.returns
  have hts := atoms_spec (ws := wsX8_ones) B.pre
  have hown : s.vm.findClass RX8 = some m.cls := findClass_of_methodNamed B.named
  have hlocks := B.notSynchronized
  subst hsz
  have hD := hD0.self (sz := s.heap.size)
  generalize hAe : va_A [] s.heap.size = A at hD ⊢
  skip
  have hA : ∀ q : Nat, s.heap.size ≤ q → A q := fun q h => by rw [← hAe]; exact Or.inr h
  have hS : va_S A s.heap s.heap [] := va_S.rf
  have hl := lv_entry ([.int a0]) (n := 3) (Nat.le_of_ble_eq_true rfl)
  rw [lg_entry_eq]
  generalize (lg_sl ([.int a0]) ++ List.replicate (3 - (lg_sl ([.int a0])).length) Slot.unset).toArray = ls at hl ⊢
  have hl : lv_has ls 3 [(0, .int a0)] := hl
  refine W_absQ (fun Q hQ => ?_)
  refine W.eq (g2 := F0 m 0 ls []) rfl ?_
  have h := hf
  unfold f_X8_ones at h
  refine lv_iconst (v := 0) hx hb dX8_ones_0 (by decide) ?_
  refine lv_istore_n (lv' := [(1, .int 0), (0, .int a0)]) hx hb dX8_ones_1 rfl hl (by decide) rfl (fun ls hl => ?_)
  refine lv_iconst (v := 0) hx hb dX8_ones_2 (by decide) ?_
  refine lv_istore_n (lv' := [(2, .int 0), (1, .int 0), (0, .int a0)]) hx hb dX8_ones_3 rfl hl (by decide) rfl (fun ls hl => ?_)
  have L4 : ∀ (k : Int32 → Int32 → Option OUT_X8_ones), (∀ (w8 : Int32) (w9 : Int32) (H : Heap) (locs : List Loc) (ls : Array Slot), k w8 w9 = some r → va_P D vwCl [] H → va_D A [] → va_S A s.heap H locs → lv_has ls 3 [(0, .int a0), (1, .int w8), (2, .int w9)] → W p l e R_X8_ones s m ([.int a0] : List Value).toArray below meth c H locs 0 0 Q (F0 m 24 ls [])) → ∀ (n : Nat) (v3 : Int32) (v4 : Int32) (H : Heap) (locs : List Loc) (ls : Array Slot), f_X8_ones_L4 a0 k n v3 v4 = some r → va_P D vwCl [] H → va_D A [] → va_S A s.heap H locs → lv_has ls 3 [(0, .int a0), (1, .int v3), (2, .int v4)] → W p l e R_X8_ones s m ([.int a0] : List Value).toArray below meth c H locs 0 0 Q (F0 m 4 ls []) := by
    intro k K n
    induction n with
    | zero => intro v3 v4 H locs ls h; exact no_sm h
    | succ n ih =>
      intro v3 v4 H locs ls h hP hD hS hl
      rw [f_X8_ones_L4_s] at h
      refine lv_iload_n hx hb dX8_ones_4 rfl (lv_at hl 2 rfl) ?_
      refine lv_bipush (v := 16) hx hb dX8_ones_5 (by decide) ?_
      refine lv_icmp_ge (tgt := 24) hx hb dX8_ones_7 (by decide) (fun c7 => ?_) (fun c7 => ?_)
      · replace h := br_p c7 h
        exact K _ _ _ _ _ h hP hD hS (lv_sub hl [0, 1, 2] rfl)
      · replace h := br_n c7 h
        refine lv_iload_n hx hb dX8_ones_10 rfl (lv_at hl 1 rfl) ?_
        refine lv_iload_n hx hb dX8_ones_11 rfl (lv_at hl 0 rfl) ?_
        refine lv_iload_n hx hb dX8_ones_12 rfl (lv_at hl 2 rfl) ?_
        refine lv_ishr hx hb dX8_ones_13 ?_
        refine lv_iconst (v := 1) hx hb dX8_ones_14 (by decide) ?_
        refine lv_iand hx hb dX8_ones_15 ?_
        refine lv_iadd hx hb dX8_ones_16 ?_
        refine lv_topi (fun x5 ex5 => ?_)
        replace h := bd_s2 h ex5
        refine lv_istore_n (lv' := [(1, .int x5), (0, .int a0), (2, .int v4)]) hx hb dX8_ones_17 rfl hl (by decide) rfl (fun ls hl => ?_)
        obtain ⟨x6, ex6, h⟩ := bd_sp h
        refine lv_iinc (v := x6) (lv' := [(2, .int x6), (1, .int x5), (0, .int a0)]) hx hb dX8_ones_18 hl (k := 2) rfl (by rw [ex6]; rfl) (by decide) rfl (fun ls hl => ?_)
        refine lv_goto (tgt := 4) hx hb dX8_ones_21 (by decide) ?_
        exact ih _ _ _ _ _ h hP hD hS (lv_sub hl [2, 1, 0] rfl)
  refine L4 _ (fun w8 w9 H locs ls h hP hD hS hl => ?_) 4000 0 0 _ _ _ h hP hD hS (lv_sub hl [2, 1, 0] rfl)
  refine lv_iload_n hx hb dX8_ones_24 rfl (lv_at hl 1 rfl) ?_
  have e9 := Option.some.inj h
  subst e9
  rw [hQ]
  exact W.iret (v := w8) hx hb hr (fun t ht hW => ⟨⟨w8, (), rfl, rfl, by rw [ht]; exact hP, hD⟩, hS.F ht⟩) hS.2.2 dX8_ones_25
