abbrev ws_camr_row24 (cI cC cZ cR : ClassId) (cm cm1 cm2 cm3 orw : Nat) (ris : Nat → Int32) (orow : Nat → Int32) : va_W := [(cm, .inr (0, [.ref cm1, .ref cm2, .ref cm3])), (cm3, .inl (cI, 25, .inl ris)), (orw, .inl (cI, 24, .inl orow))]
abbrev ws_camr_things (cI cC cZ cR : ClassId) (cm cm1 cm2 cm3 th th1 th2 th3 th4 th5 th6 th7 th8 th9 : Nat) (ris : Nat → Int32) (mn : Int32) (ln : Nat → Int32) (hi : Nat → Int32) (wi : Nat → Int32) (br : Nat → Int32) (sp : Nat → Int32) (si : Nat → Int32) (le : Nat → Int32) (un : Nat → Int32) (ul : Nat → Int32) : va_W := [(cm, .inr (0, [.ref cm1, .ref cm2, .ref cm3])), (cm3, .inl (cI, 25, .inl ris)), (th, .inr (6, [.int mn, .ref th1, .ref th2, .ref th3, .ref th4, .ref th5, .ref th6, .ref th7, .ref th8, .ref th9])), (th1, .inl (cI, 8, .inl ln)), (th2, .inl (cI, 8, .inl hi)), (th3, .inl (cI, 8, .inl wi)), (th4, .inl (cI, 8, .inl br)), (th5, .inl (cI, 8, .inl sp)), (th6, .inl (cI, 8, .inl si)), (th7, .inl (cI, 8, .inl le)), (th8, .inl (cI, 8, .inl un)), (th9, .inl (cI, 8, .inl ul))]
abbrev ws_camr_scene_row24 (cI cC cZ cR : ClassId) (cm cm1 cm2 cm3 sc sea th th1 th2 th3 th4 th5 th6 th7 th8 th9 pi pia orw : Nat) (ris : Nat → Int32) (se : Nat → Int32) (mn : Int32) (ln : Nat → Int32) (hi : Nat → Int32) (wi : Nat → Int32) (br : Nat → Int32) (sp : Nat → Int32) (si : Nat → Int32) (le : Nat → Int32) (un : Nat → Int32) (ul : Nat → Int32) (px : Nat → Int32) (tm : Int32) (ps : Int32) (ft : Int32) (fk : Int32) (orow : Nat → Int32) : va_W := [(cm, .inr (0, [.ref cm1, .ref cm2, .ref cm3])), (cm3, .inl (cI, 25, .inl ris)), (sc, .inr (5, [.ref sea, .ref th, .ref pi, .int tm, .int ps, .int ft, .int fk])), (sea, .inl (cI, 4, .inl se)), (th, .inr (6, [.int mn, .ref th1, .ref th2, .ref th3, .ref th4, .ref th5, .ref th6, .ref th7, .ref th8, .ref th9])), (th1, .inl (cI, 8, .inl ln)), (th2, .inl (cI, 8, .inl hi)), (th3, .inl (cI, 8, .inl wi)), (th4, .inl (cI, 8, .inl br)), (th5, .inl (cI, 8, .inl sp)), (th6, .inl (cI, 8, .inl si)), (th7, .inl (cI, 8, .inl le)), (th8, .inl (cI, 8, .inl un)), (th9, .inl (cI, 8, .inl ul)), (pi, .inr (3, [.ref pia])), (pia, .inl (cI, 384, .inl px)), (orw, .inl (cI, 24, .inl orow))]
abbrev ws_camera_scene (cI cC cZ cR : ClassId) (cm cm1 cm2 cm3 sc sea th th1 th2 th3 th4 th5 th6 th7 th8 th9 pi pia : Nat) (lea : Nat → Int32) (upr : Nat → Int32) (ris : Nat → Int32) (se : Nat → Int32) (mn : Int32) (ln : Nat → Int32) (hi : Nat → Int32) (wi : Nat → Int32) (br : Nat → Int32) (sp : Nat → Int32) (si : Nat → Int32) (le : Nat → Int32) (un : Nat → Int32) (ul : Nat → Int32) (px : Nat → Int32) (tm : Int32) (ps : Int32) (ft : Int32) (fk : Int32) : va_W := [(cm, .inr (0, [.ref cm1, .ref cm2, .ref cm3])), (cm1, .inl (cI, 24, .inl lea)), (cm2, .inl (cI, 24, .inl upr)), (cm3, .inl (cI, 25, .inl ris)), (sc, .inr (5, [.ref sea, .ref th, .ref pi, .int tm, .int ps, .int ft, .int fk])), (sea, .inl (cI, 4, .inl se)), (th, .inr (6, [.int mn, .ref th1, .ref th2, .ref th3, .ref th4, .ref th5, .ref th6, .ref th7, .ref th8, .ref th9])), (th1, .inl (cI, 8, .inl ln)), (th2, .inl (cI, 8, .inl hi)), (th3, .inl (cI, 8, .inl wi)), (th4, .inl (cI, 8, .inl br)), (th5, .inl (cI, 8, .inl sp)), (th6, .inl (cI, 8, .inl si)), (th7, .inl (cI, 8, .inl le)), (th8, .inl (cI, 8, .inl un)), (th9, .inl (cI, 8, .inl ul)), (pi, .inr (3, [.ref pia])), (pia, .inl (cI, 384, .inl px))]
-- LeaningLines$Camera.nearestEdge
abbrev OUT_X0_nearestEdge : Type := Int32
def f_X0_nearestEdge (a0 : Int32) : Option OUT_X0_nearestEdge :=
  bd (if a0 < 24 then a0 else 24) (fun x1 => bd (if 0 < x1 then x1 else 0) (fun x2 => some (x2)))
theorem kX0_nearestEdge_0 : Cond.methodLink RX0 75 Lib.Math.min.name ∈ wsX0_nearestEdge := by decide +kernel
theorem kX0_nearestEdge_1 : Cond.static Lib.Math.min.name ∈ wsX0_nearestEdge := by decide +kernel
theorem kX0_nearestEdge_2 : Cond.initialized "java/lang/Math" ∈ wsX0_nearestEdge := by decide +kernel
theorem kX0_nearestEdge_3 : Cond.code Lib.Math.min.name Lib.Math.min.code 2 (some .int) ∈ wsX0_nearestEdge := by decide +kernel
theorem kX0_nearestEdge_4 : Cond.methodLink RX0 102 Lib.Math.max.name ∈ wsX0_nearestEdge := by decide +kernel
theorem kX0_nearestEdge_5 : Cond.static Lib.Math.max.name ∈ wsX0_nearestEdge := by decide +kernel
theorem kX0_nearestEdge_6 : Cond.code Lib.Math.max.name Lib.Math.max.code 2 (some .int) ∈ wsX0_nearestEdge := by decide +kernel
abbrev R_X0_nearestEdge : Room := { frames := 1, cells := 0, slots := 0, locals := 21 }
set_option maxHeartbeats 4000000 in
set_option maxRecDepth 100000 in
theorem m_X0_nearestEdge (l : Launch) (D : va_G) (cI cC cZ cR : ClassId)  (sz : Nat)   (a0 : Int32)   (r : OUT_X0_nearestEdge) (hf : f_X0_nearestEdge a0 = some r) : Met l yX0_nearestEdge wsX0_nearestEdge R_X0_nearestEdge (cPc D cI cC cZ cR [.int a0] sz []) (cQi D [] (va_A [] sz) r) 0 0 (va_A [] sz) := by
  refine Met.ofW (cc := cX0_nearestEdge) (maxL := 1) (ret := (some .int)) (by decide) rfl ?_
  intro p e s m args below meth c s₁ B hml hv
  obtain ⟨rfl, hsz, hP, hK, hD0⟩ := hv
  have hx := B.exec
  have hb := B.bytes
  have hr := B.returns
  have hts := atoms_spec (ws := wsX0_nearestEdge) B.pre
  have hown : s.vm.findClass RX0 = some m.cls := findClass_of_methodNamed B.named
  have hlocks := B.notSynchronized
  subst hsz
  have hD := hD0.self (sz := s.heap.size)
  generalize hAe : va_A [] s.heap.size = A at hD ⊢
  skip
  have hA : ∀ q : Nat, s.heap.size ≤ q → A q := fun q h => by rw [← hAe]; exact Or.inr h
  have hS : va_S A s.heap s.heap [] := va_S.rf
  have hl := lv_entry ([.int a0]) (n := 1) (Nat.le_of_ble_eq_true rfl)
  rw [lg_entry_eq]
  generalize (lg_sl ([.int a0]) ++ List.replicate (1 - (lg_sl ([.int a0])).length) Slot.unset).toArray = ls at hl ⊢
  have hl : lv_has ls 1 [(0, .int a0)] := hl
  refine W_absQ (fun Q hQ => ?_)
  refine W.eq (g2 := F0 m 0 ls []) rfl ?_
  have h := hf
  unfold f_X0_nearestEdge at h
  refine lv_iconst (v := 0) hx hb dX0_nearestEdge_0 (by decide) ?_
  refine lv_bipush (v := 24) hx hb dX0_nearestEdge_1 (by decide) ?_
  refine lv_iload_n hx hb dX0_nearestEdge_3 rfl (lv_at hl 0 rfl) ?_
  refine va_mmin hx hb (by rw [hml]; exact hl.1.symm) hown (hts _ kX0_nearestEdge_0) (hts _ kX0_nearestEdge_1) (hts _ kX0_nearestEdge_2) (hts _ kX0_nearestEdge_3) (Nat.le_of_ble_eq_true rfl) (Nat.le_of_ble_eq_true rfl) (Nat.le_of_ble_eq_true rfl) (Nat.le_of_ble_eq_true rfl) dX0_nearestEdge_4 ?_
  refine lv_topi (fun x1 ex1 => ?_)
  replace h := bd_s2 h ex1
  refine va_mmax hx hb (by rw [hml]; exact hl.1.symm) hown (hts _ kX0_nearestEdge_4) (hts _ kX0_nearestEdge_5) (hts _ kX0_nearestEdge_2) (hts _ kX0_nearestEdge_6) (Nat.le_of_ble_eq_true rfl) (Nat.le_of_ble_eq_true rfl) (Nat.le_of_ble_eq_true rfl) (Nat.le_of_ble_eq_true rfl) dX0_nearestEdge_7 ?_
  refine lv_topi (fun x2 ex2 => ?_)
  replace h := bd_s2 h ex2
  have e9 := Option.some.inj h
  subst e9
  rw [hQ]
  exact W.iret (v := x2) hx hb hr (fun t ht hW => ⟨⟨x2, (), rfl, rfl, by rw [ht]; exact hP, hD⟩, hS.F ht⟩) hS.2.2 dX0_nearestEdge_10
-- LeaningLines$Camera.addLight
abbrev OUT_X0_addLight : Type := (Nat → Int32)
def f_X0_addLight_L5 (ris : Nat → Int32) (a0 : Int32) (k : Int32 → Int32 → (Nat → Int32) → Option OUT_X0_addLight) : Nat → Int32 → Int32 → (Nat → Int32) → Option OUT_X0_addLight
  | 0 => fun _ _ _ => none
  | n + 1 => fun v4 v5 v6 => (if 24 ≤ v5 then k v4 v5 v6 else gd v5 25 (bd (v4 + (ris v5.toNatClampNeg)) (fun x7 => gd v5 24 (bd (if x7 < 30 then x7 else 30) (fun x8 => gd v5 24 (bd (v5 + 1) (fun x9 => f_X0_addLight_L5 ris a0 k n x7 x9 (upd v6 v5.toNatClampNeg ((v6 v5.toNatClampNeg) + (x8 * a0))))))))))
theorem f_X0_addLight_L5_s (ris : Nat → Int32) (a0 : Int32) (k : Int32 → Int32 → (Nat → Int32) → Option OUT_X0_addLight) (n : Nat) (v4 : Int32) (v5 : Int32) (v6 : Nat → Int32) : f_X0_addLight_L5 ris a0 k (n + 1) v4 v5 v6 = ((if 24 ≤ v5 then k v4 v5 v6 else gd v5 25 (bd (v4 + (ris v5.toNatClampNeg)) (fun x7 => gd v5 24 (bd (if x7 < 30 then x7 else 30) (fun x8 => gd v5 24 (bd (v5 + 1) (fun x9 => f_X0_addLight_L5 ris a0 k n x7 x9 (upd v6 v5.toNatClampNeg ((v6 v5.toNatClampNeg) + (x8 * a0))))))))))) := rfl
def f_X0_addLight (ris : Nat → Int32) (orow : Nat → Int32) (a0 : Int32) : Option OUT_X0_addLight :=
  f_X0_addLight_L5 ris a0 (fun (w11 : Int32) (w12 : Int32) (w13 : Nat → Int32) => some w13) 4000 0 0 orow
theorem uX0_addLight_X0 : ∀ w ∈ wsX00, w ∈ wsX0_addLight := by decide +kernel
theorem kX0_addLight_1 : Cond.fieldLink RX0 18 "LeaningLines$Camera" "rises" "[I" ∈ wsX0_addLight := by decide +kernel
theorem kX0_addLight_2 : Cond.methodLink RX0 75 Lib.Math.min.name ∈ wsX0_addLight := by decide +kernel
theorem kX0_addLight_3 : Cond.static Lib.Math.min.name ∈ wsX0_addLight := by decide +kernel
theorem kX0_addLight_4 : Cond.initialized "java/lang/Math" ∈ wsX0_addLight := by decide +kernel
theorem kX0_addLight_5 : Cond.code Lib.Math.min.name Lib.Math.min.code 2 (some .int) ∈ wsX0_addLight := by decide +kernel
abbrev R_X0_addLight : Room := { frames := 1, cells := 0, slots := 0, locals := 21 }
set_option maxHeartbeats 4000000 in
set_option maxRecDepth 100000 in
theorem m_X0_addLight (l : Launch) (D : va_G) (cI cC cZ cR : ClassId) (cm cm1 cm2 cm3 orw : Nat) (sz : Nat) (ris : Nat → Int32) (orow : Nat → Int32)  (a0 : Int32)   (r : OUT_X0_addLight) (hf : f_X0_addLight ris orow a0 = some r) : Met l yX0_addLight wsX0_addLight R_X0_addLight (cPc D cI cC cZ cR [.ref cm, .int a0, .ref orw] sz (ws_camr_row24 cI cC cZ cR cm cm1 cm2 cm3 orw ris orow)) (cQv D (ws_camr_row24 cI cC cZ cR cm cm1 cm2 cm3 orw ris r) (va_A (ws_camr_row24 cI cC cZ cR cm cm1 cm2 cm3 orw ris orow) sz)) 0 0 (va_A (ws_camr_row24 cI cC cZ cR cm cm1 cm2 cm3 orw ris orow) sz) := by
  refine Met.ofW (cc := cX0_addLight) (maxL := 5) (ret := none) (by decide) rfl ?_
  intro p e s m args below meth c s₁ B hml hv
  obtain ⟨rfl, hsz, hP, hK, hD0⟩ := hv
  have hx := B.exec
  have hb := B.bytes
  have hr := B.returns
  have hts := atoms_spec (ws := wsX0_addLight) B.pre
  have hown : s.vm.findClass RX0 = some m.cls := findClass_of_methodNamed B.named
  have hlocks := B.notSynchronized
  subst hsz
  have hD := hD0.self (sz := s.heap.size)
  generalize hAe : va_A (ws_camr_row24 cI cC cZ cR cm cm1 cm2 cm3 orw ris orow) s.heap.size = A at hD ⊢
  skip
  have hA : ∀ q : Nat, s.heap.size ≤ q → A q := fun q h => by rw [← hAe]; exact Or.inr h
  have hS : va_S A s.heap s.heap [] := va_S.rf
  have hl := lv_entry ([.ref cm, .int a0, .ref orw]) (n := 5) (Nat.le_of_ble_eq_true rfl)
  rw [lg_entry_eq]
  generalize (lg_sl ([.ref cm, .int a0, .ref orw]) ++ List.replicate (5 - (lg_sl ([.ref cm, .int a0, .ref orw])).length) Slot.unset).toArray = ls at hl ⊢
  have hl : lv_has ls 5 [(0, .ref cm), (1, .int a0), (2, .ref orw)] := hl
  refine W_absQ (fun Q hQ => ?_)
  refine W.eq (g2 := F0 m 0 ls []) rfl ?_
  have h := hf
  unfold f_X0_addLight at h
  refine lv_iconst (v := 0) hx hb dX0_addLight_0 (by decide) ?_
  refine lv_istore_n (lv' := [(3, .int 0), (0, .ref cm), (1, .int a0), (2, .ref orw)]) hx hb dX0_addLight_1 rfl hl (by decide) rfl (fun ls hl => ?_)
  refine lv_iconst (v := 0) hx hb dX0_addLight_2 (by decide) ?_
  refine lv_istore (lv' := [(4, .int 0), (3, .int 0), (0, .ref cm), (1, .int a0), (2, .ref orw)]) hx hb dX0_addLight_3 hl (by decide) rfl (fun ls hl => ?_)
  have L5 : ∀ (k : Int32 → Int32 → (Nat → Int32) → Option OUT_X0_addLight), (∀ (w11 : Int32) (w12 : Int32) (w13 : Nat → Int32) (H : Heap) (locs : List Loc) (ls : Array Slot), k w11 w12 w13 = some r → va_P D vwCl (ws_camr_row24 cI cC cZ cR cm cm1 cm2 cm3 orw ris w13) H → va_D A (ws_camr_row24 cI cC cZ cR cm cm1 cm2 cm3 orw ris w13) → va_S A s.heap H locs → lv_has ls 5 [(0, .ref cm), (1, .int a0), (2, .ref orw), (3, .int w11), (4, .int w12)] → W p l e R_X0_addLight s m ([.ref cm, .int a0, .ref orw] : List Value).toArray below meth c H locs 0 0 Q (F0 m 43 ls [])) → ∀ (n : Nat) (v4 : Int32) (v5 : Int32) (v6 : Nat → Int32) (H : Heap) (locs : List Loc) (ls : Array Slot), f_X0_addLight_L5 ris a0 k n v4 v5 v6 = some r → va_P D vwCl (ws_camr_row24 cI cC cZ cR cm cm1 cm2 cm3 orw ris v6) H → va_D A (ws_camr_row24 cI cC cZ cR cm cm1 cm2 cm3 orw ris v6) → va_S A s.heap H locs → lv_has ls 5 [(0, .ref cm), (1, .int a0), (2, .ref orw), (3, .int v4), (4, .int v5)] → W p l e R_X0_addLight s m ([.ref cm, .int a0, .ref orw] : List Value).toArray below meth c H locs 0 0 Q (F0 m 5 ls []) := by
    intro k K n
    induction n with
    | zero => intro v4 v5 v6 H locs ls h; exact no_sm h
    | succ n ih =>
      intro v4 v5 v6 H locs ls h hP hD hS hl
      rw [f_X0_addLight_L5_s] at h
      refine lv_iload hx hb dX0_addLight_5 (lv_at hl 4 rfl) ?_
      refine lv_bipush (v := 24) hx hb dX0_addLight_7 (by decide) ?_
      refine lv_icmp_ge (tgt := 43) hx hb dX0_addLight_9 (by decide) (fun c10 => ?_) (fun c10 => ?_)
      · replace h := br_p c10 h
        exact K _ _ _ _ _ _ h hP hD hS (lv_sub hl [0, 1, 2, 3, 4] rfl)
      · replace h := br_n c10 h
        refine lv_iload_n hx hb dX0_addLight_12 rfl (lv_at hl 3 rfl) ?_
        refine lv_aload_n hx hb dX0_addLight_13 rfl (lv_at hl 0 rfl) ?_
        refine va_get (D := D) (ci := 0) (v := .ref cm3) (C := RX0) (T := TX0) (N := 3) hx hb hts uX0_addLight_X0 hown hK.1 hP 0 rfl rfl 2 (by decide) (hts _ kX0_addLight_1) (fun _ h9 => h9) rfl dX0_addLight_14 ?_
        refine lv_iload hx hb dX0_addLight_17 (lv_at hl 4 rfl) ?_
        obtain ⟨hin, h⟩ := gd_sp h
        refine va_iald (D := D) hx hb hK.1 hP 1 0 rfl rfl hin dX0_addLight_19 ?_
        refine lv_iadd hx hb dX0_addLight_20 ?_
        refine lv_topi (fun x7 ex7 => ?_)
        replace h := bd_s2 h ex7
        refine lv_istore_n (lv' := [(3, .int x7), (0, .ref cm), (1, .int a0), (2, .ref orw), (4, .int v5)]) hx hb dX0_addLight_21 rfl hl (by decide) rfl (fun ls hl => ?_)
        refine lv_aload_n hx hb dX0_addLight_22 rfl (lv_at hl 3 rfl) ?_
        refine lv_iload hx hb dX0_addLight_23 (lv_at hl 4 rfl) ?_
        refine lv_dup2_11 hx hb dX0_addLight_25 rfl rfl ?_
        obtain ⟨hin, h⟩ := gd_sp h
        refine va_iald (D := D) hx hb hK.1 hP 2 0 rfl rfl hin dX0_addLight_26 ?_
        refine lv_bipush (v := 30) hx hb dX0_addLight_27 (by decide) ?_
        refine lv_iload_n hx hb dX0_addLight_29 rfl (lv_at hl 0 rfl) ?_
        refine va_mmin hx hb (by rw [hml]; exact hl.1.symm) hown (hts _ kX0_addLight_2) (hts _ kX0_addLight_3) (hts _ kX0_addLight_4) (hts _ kX0_addLight_5) (Nat.le_of_ble_eq_true rfl) (Nat.le_of_ble_eq_true rfl) (Nat.le_of_ble_eq_true rfl) (Nat.le_of_ble_eq_true rfl) dX0_addLight_30 ?_
        refine lv_topi (fun x8 ex8 => ?_)
        replace h := bd_s2 h ex8
        refine lv_iload_n hx hb dX0_addLight_33 rfl (lv_at hl 2 rfl) ?_
        refine lv_imul hx hb dX0_addLight_34 ?_
        refine lv_iadd hx hb dX0_addLight_35 ?_
        obtain ⟨hin, h⟩ := gd_sp h
        refine va_iast (D := D) hx hb hK.1 hP hD hS 2 0 rfl rfl hin dX0_addLight_36 (fun H locs hP hD hS => ?_)
        have hP : va_P D vwCl (ws_camr_row24 cI cC cZ cR cm cm1 cm2 cm3 orw ris (upd v6 v5.toNatClampNeg ((v6 v5.toNatClampNeg) + (x8 * a0)))) H := hP
        have hD : va_D A (ws_camr_row24 cI cC cZ cR cm cm1 cm2 cm3 orw ris (upd v6 v5.toNatClampNeg ((v6 v5.toNatClampNeg) + (x8 * a0)))) := hD
        obtain ⟨x9, ex9, h⟩ := bd_sp h
        refine lv_iinc (v := x9) (lv' := [(4, .int x9), (3, .int x7), (0, .ref cm), (1, .int a0), (2, .ref orw)]) hx hb dX0_addLight_37 hl (k := 4) rfl (by rw [ex9]; rfl) (by decide) rfl (fun ls hl => ?_)
        refine lv_goto (tgt := 5) hx hb dX0_addLight_40 (by decide) ?_
        exact ih _ _ _ _ _ _ h hP hD hS (lv_sub hl [2, 3, 4, 1, 0] rfl)
  refine L5 _ (fun w11 w12 w13 H locs ls h hP hD hS hl => ?_) 4000 0 0 orow _ _ _ h hP hD hS (lv_sub hl [2, 3, 4, 1, 0] rfl)
  have e9 := Option.some.inj h
  subst e9
  rw [hQ]
  exact W.vret hx hb hr (fun t ht hW => ⟨⟨(), rfl, trivial, by rw [ht]; exact hP, hD⟩, hS.F ht⟩) hS.2.2 dX0_addLight_43
-- LeaningLines$Camera.findRises
abbrev OUT_X0_findRises : Type := (Nat → Int32)
def f_X0_findRises_L11 (mn : Int32) (ln : Nat → Int32) (hi : Nat → Int32) (wi : Nat → Int32) (br : Nat → Int32) (sp : Nat → Int32) (si : Nat → Int32) (le : Nat → Int32) (un : Nat → Int32) (ul : Nat → Int32) (a1 : Int32) (a2 : Int32) (k : Int32 → (Nat → Int32) → Option OUT_X0_findRises) : Nat → Int32 → (Nat → Int32) → Option OUT_X0_findRises
  | 0 => fun _ _ => none
  | n + 1 => fun v4 v5 => (if mn ≤ v4 then k v4 v5 else bn (f_X6_isInLine ln hi v4 a1) (fun r6 => (if r6 = 0 then bd (v4 + 1) (fun x7 => f_X0_findRises_L11 mn ln hi wi br sp si le un ul a1 a2 k n x7 v5) else bn (f_X6_leftAt mn sp si le un ul v4 a2) (fun r8 => bn (f_X0_nearestEdge r8) (fun r9 => gd r9 25 (gd v4 8 (gd r9 25 (gd v4 8 (bn (f_X0_nearestEdge (r8 + (wi v4.toNatClampNeg))) (fun r10 => gd r10 25 (gd v4 8 (gd r10 25 (bd (upd (upd v5 r9.toNatClampNeg ((v5 r9.toNatClampNeg) + (br v4.toNatClampNeg))) r10.toNatClampNeg (((upd v5 r9.toNatClampNeg ((v5 r9.toNatClampNeg) + (br v4.toNatClampNeg))) r10.toNatClampNeg) - (br v4.toNatClampNeg))) (fun (y11 : Nat → Int32) => bd (v4 + 1) (fun x12 => f_X0_findRises_L11 mn ln hi wi br sp si le un ul a1 a2 k n x12 y11)))))))))))))))
theorem f_X0_findRises_L11_s (mn : Int32) (ln : Nat → Int32) (hi : Nat → Int32) (wi : Nat → Int32) (br : Nat → Int32) (sp : Nat → Int32) (si : Nat → Int32) (le : Nat → Int32) (un : Nat → Int32) (ul : Nat → Int32) (a1 : Int32) (a2 : Int32) (k : Int32 → (Nat → Int32) → Option OUT_X0_findRises) (n : Nat) (v4 : Int32) (v5 : Nat → Int32) : f_X0_findRises_L11 mn ln hi wi br sp si le un ul a1 a2 k (n + 1) v4 v5 = ((if mn ≤ v4 then k v4 v5 else bn (f_X6_isInLine ln hi v4 a1) (fun r6 => (if r6 = 0 then bd (v4 + 1) (fun x7 => f_X0_findRises_L11 mn ln hi wi br sp si le un ul a1 a2 k n x7 v5) else bn (f_X6_leftAt mn sp si le un ul v4 a2) (fun r8 => bn (f_X0_nearestEdge r8) (fun r9 => gd r9 25 (gd v4 8 (gd r9 25 (gd v4 8 (bn (f_X0_nearestEdge (r8 + (wi v4.toNatClampNeg))) (fun r10 => gd r10 25 (gd v4 8 (gd r10 25 (bd (upd (upd v5 r9.toNatClampNeg ((v5 r9.toNatClampNeg) + (br v4.toNatClampNeg))) r10.toNatClampNeg (((upd v5 r9.toNatClampNeg ((v5 r9.toNatClampNeg) + (br v4.toNatClampNeg))) r10.toNatClampNeg) - (br v4.toNatClampNeg))) (fun (y11 : Nat → Int32) => bd (v4 + 1) (fun x12 => f_X0_findRises_L11 mn ln hi wi br sp si le un ul a1 a2 k n x12 y11)))))))))))))))) := rfl
def f_X0_findRises (ris : Nat → Int32) (mn : Int32) (ln : Nat → Int32) (hi : Nat → Int32) (wi : Nat → Int32) (br : Nat → Int32) (sp : Nat → Int32) (si : Nat → Int32) (le : Nat → Int32) (un : Nat → Int32) (ul : Nat → Int32) (a1 : Int32) (a2 : Int32) : Option OUT_X0_findRises :=
  bn (f_J7_fill_53178_25 ris 0) (fun r1 => f_X0_findRises_L11 mn ln hi wi br sp si le un ul a1 a2 (fun (w15 : Int32) (w16 : Nat → Int32) => some w16) 4000 0 r1)
theorem uX0_findRises_X0 : ∀ w ∈ wsX00, w ∈ wsX0_findRises := by decide +kernel
theorem kX0_findRises_1 : Cond.fieldLink RX0 18 "LeaningLines$Camera" "rises" "[I" ∈ wsX0_findRises := by decide +kernel
theorem uX0_findRises_X6 : ∀ w ∈ wsX60, w ∈ wsX0_findRises := by decide +kernel
theorem kX0_findRises_3 : Cond.fieldLink RX0 81 "LeaningLines$Things" "many" "I" ∈ wsX0_findRises := by decide +kernel
theorem kX0_findRises_4 : Cond.fieldLink RX0 96 "LeaningLines$Things" "brightness" "[I" ∈ wsX0_findRises := by decide +kernel
theorem kX0_findRises_5 : Cond.fieldLink RX0 99 "LeaningLines$Things" "wide" "[I" ∈ wsX0_findRises := by decide +kernel
abbrev R_X0_findRises : Room := { frames := 2, cells := 0, slots := 0, locals := 47 }
set_option maxHeartbeats 4000000 in
set_option maxRecDepth 100000 in
theorem m_X0_findRises (l : Launch) (D : va_G) (cI cC cZ cR : ClassId) (cm cm1 cm2 cm3 th th1 th2 th3 th4 th5 th6 th7 th8 th9 : Nat) (sz : Nat) (ris : Nat → Int32) (mn : Int32) (ln : Nat → Int32) (hi : Nat → Int32) (wi : Nat → Int32) (br : Nat → Int32) (sp : Nat → Int32) (si : Nat → Int32) (le : Nat → Int32) (un : Nat → Int32) (ul : Nat → Int32)  (a1 : Int32) (a2 : Int32)   (r : OUT_X0_findRises) (hf : f_X0_findRises ris mn ln hi wi br sp si le un ul a1 a2 = some r) : Met l yX0_findRises wsX0_findRises R_X0_findRises (cPc D cI cC cZ cR [.ref cm, .ref th, .int a1, .int a2] sz (ws_camr_things cI cC cZ cR cm cm1 cm2 cm3 th th1 th2 th3 th4 th5 th6 th7 th8 th9 ris mn ln hi wi br sp si le un ul)) (cQv D (ws_camr_things cI cC cZ cR cm cm1 cm2 cm3 th th1 th2 th3 th4 th5 th6 th7 th8 th9 r mn ln hi wi br sp si le un ul) (va_A (ws_camr_things cI cC cZ cR cm cm1 cm2 cm3 th th1 th2 th3 th4 th5 th6 th7 th8 th9 ris mn ln hi wi br sp si le un ul) sz)) 0 0 (va_A (ws_camr_things cI cC cZ cR cm cm1 cm2 cm3 th th1 th2 th3 th4 th5 th6 th7 th8 th9 ris mn ln hi wi br sp si le un ul) sz) := by
  refine Met.ofW (cc := cX0_findRises) (maxL := 6) (ret := none) (by decide) rfl ?_
  intro p e s m args below meth c s₁ B hml hv
  obtain ⟨rfl, hsz, hP, hK, hD0⟩ := hv
  have hx := B.exec
  have hb := B.bytes
  have hr := B.returns
  have hts := atoms_spec (ws := wsX0_findRises) B.pre
  have hown : s.vm.findClass RX0 = some m.cls := findClass_of_methodNamed B.named
  have hlocks := B.notSynchronized
  subst hsz
  have hD := hD0.self (sz := s.heap.size)
  generalize hAe : va_A (ws_camr_things cI cC cZ cR cm cm1 cm2 cm3 th th1 th2 th3 th4 th5 th6 th7 th8 th9 ris mn ln hi wi br sp si le un ul) s.heap.size = A at hD ⊢
  skip
  have hA : ∀ q : Nat, s.heap.size ≤ q → A q := fun q h => by rw [← hAe]; exact Or.inr h
  have hS : va_S A s.heap s.heap [] := va_S.rf
  have hl := lv_entry ([.ref cm, .ref th, .int a1, .int a2]) (n := 6) (Nat.le_of_ble_eq_true rfl)
  rw [lg_entry_eq]
  generalize (lg_sl ([.ref cm, .ref th, .int a1, .int a2]) ++ List.replicate (6 - (lg_sl ([.ref cm, .ref th, .int a1, .int a2])).length) Slot.unset).toArray = ls at hl ⊢
  have hl : lv_has ls 6 [(0, .ref cm), (1, .ref th), (2, .int a1), (3, .int a2)] := hl
  refine W_absQ (fun Q hQ => ?_)
  refine W.eq (g2 := F0 m 0 ls []) rfl ?_
  have h := hf
  unfold f_X0_findRises at h
  refine lv_aload_n hx hb dX0_findRises_0 rfl (lv_at hl 0 rfl) ?_
  refine va_get (D := D) (ci := 0) (v := .ref cm3) (C := RX0) (T := TX0) (N := 3) hx hb hts uX0_findRises_X0 hown hK.1 hP 0 rfl rfl 2 (by decide) (hts _ kX0_findRises_1) (fun _ h9 => h9) rfl dX0_findRises_1 ?_
  refine lv_iconst (v := 0) hx hb dX0_findRises_4 (by decide) ?_
  obtain ⟨r1, hcr1, h⟩ := bn_sp h
  have hPc := hP.sub (ws' := (ws_row25 cI cC cZ cR cm3 ris)) [1] rfl
  have hDc := hD.sub (ws' := (ws_row25 cI cC cZ cR cm3 ris)) [1] (by decide) rfl
  have hFc := va_free (wc := (ws_row25 cI cC cZ cR cm3 ris)) hD hS hA [1] rfl
  refine va_callv (va_runS (As := [.ref cm3, .int 0]) (rest := []) ⟨hx, hb, hml, hown, hts⟩ (m_J7_fill_53178_25 l D cI cC cZ cR cm3 _ ris 0   r1 hcr1) (va_cwS 2 hts gX0_findRises_J7_fill_53178 rfl rfl rfl (by decide +kernel) ⟨Nat.le_of_ble_eq_true rfl, Nat.le_of_ble_eq_true rfl⟩) (cPc_ps hPc hK hDc) rfl rfl hl.1 rfl (lv_room (Nat.le_of_ble_eq_true rfl)) dX0_findRises_5 ⟨Nat.le_of_ble_eq_true rfl, Nat.le_of_ble_eq_true rfl⟩) hS (fun q _ h => hFc q h) hFc (fun u t H1 locs ht hvm hw hB hz1 hk1 hS => ?_)
  obtain ⟨hP1, hD1⟩ := hB
  rw [ht] at hP1
  obtain ⟨hP, hD⟩ := va_join (wr := [(cm, .inr (0, [.ref cm1, .ref cm2, .ref cm3])), (th, .inr (6, [.int mn, .ref th1, .ref th2, .ref th3, .ref th4, .ref th5, .ref th6, .ref th7, .ref th8, .ref th9])), (th1, .inl (cI, 8, .inl ln)), (th2, .inl (cI, 8, .inl hi)), (th3, .inl (cI, 8, .inl wi)), (th4, .inl (cI, 8, .inl br)), (th5, .inl (cI, 8, .inl sp)), (th6, .inl (cI, 8, .inl si)), (th7, .inl (cI, 8, .inl le)), (th8, .inl (cI, 8, .inl un)), (th9, .inl (cI, 8, .inl ul))]) (w1 := (ws_row25 cI cC cZ cR cm3 r1)) hP hD [1] [0, 2, 3, 4, 5, 6, 7, 8, 9, 10, 11] rfl rfl (by decide) (by decide) hk1 hFc hP1 hD1
  have hP := hP.sub (ws' := (ws_camr_things cI cC cZ cR cm cm1 cm2 cm3 th th1 th2 th3 th4 th5 th6 th7 th8 th9 r1 mn ln hi wi br sp si le un ul)) [0, 11, 1, 2, 3, 4, 5, 6, 7, 8, 9, 10] rfl
  have hD := hD.sub (ws' := (ws_camr_things cI cC cZ cR cm cm1 cm2 cm3 th th1 th2 th3 th4 th5 th6 th7 th8 th9 r1 mn ln hi wi br sp si le un ul)) [0, 11, 1, 2, 3, 4, 5, 6, 7, 8, 9, 10] (by decide) rfl
  generalize H1 = H at hP hS ⊢
  refine lv_iconst (v := 0) hx hb dX0_findRises_8 (by decide) ?_
  refine lv_istore (lv' := [(4, .int 0), (0, .ref cm), (1, .ref th), (2, .int a1), (3, .int a2)]) hx hb dX0_findRises_9 hl (by decide) rfl (fun ls hl => ?_)
  have L11 : ∀ (k : Int32 → (Nat → Int32) → Option OUT_X0_findRises), (∀ (w15 : Int32) (w16 : Nat → Int32) (H : Heap) (locs : List Loc) (ls : Array Slot), k w15 w16 = some r → va_P D vwCl (ws_camr_things cI cC cZ cR cm cm1 cm2 cm3 th th1 th2 th3 th4 th5 th6 th7 th8 th9 w16 mn ln hi wi br sp si le un ul) H → va_D A (ws_camr_things cI cC cZ cR cm cm1 cm2 cm3 th th1 th2 th3 th4 th5 th6 th7 th8 th9 w16 mn ln hi wi br sp si le un ul) → va_S A s.heap H locs → lv_has ls 6 [(0, .ref cm), (1, .ref th), (2, .int a1), (3, .int a2), (4, .int w15)] → W p l e R_X0_findRises s m ([.ref cm, .ref th, .int a1, .int a2] : List Value).toArray below meth c H locs 0 0 Q (F0 m 93 ls [])) → ∀ (n : Nat) (v4 : Int32) (v5 : Nat → Int32) (H : Heap) (locs : List Loc) (ls : Array Slot), f_X0_findRises_L11 mn ln hi wi br sp si le un ul a1 a2 k n v4 v5 = some r → va_P D vwCl (ws_camr_things cI cC cZ cR cm cm1 cm2 cm3 th th1 th2 th3 th4 th5 th6 th7 th8 th9 v5 mn ln hi wi br sp si le un ul) H → va_D A (ws_camr_things cI cC cZ cR cm cm1 cm2 cm3 th th1 th2 th3 th4 th5 th6 th7 th8 th9 v5 mn ln hi wi br sp si le un ul) → va_S A s.heap H locs → lv_has ls 6 [(0, .ref cm), (1, .ref th), (2, .int a1), (3, .int a2), (4, .int v4)] → W p l e R_X0_findRises s m ([.ref cm, .ref th, .int a1, .int a2] : List Value).toArray below meth c H locs 0 0 Q (F0 m 11 ls []) := by
    intro k K n
    induction n with
    | zero => intro v4 v5 H locs ls h; exact no_sm h
    | succ n ih =>
      intro v4 v5 H locs ls h hP hD hS hl
      rw [f_X0_findRises_L11_s] at h
      refine lv_iload hx hb dX0_findRises_11 (lv_at hl 4 rfl) ?_
      refine lv_aload_n hx hb dX0_findRises_13 rfl (lv_at hl 1 rfl) ?_
      refine va_get (D := D) (ci := 6) (v := .int mn) (C := RX6) (T := TX6) (N := 10) hx hb hts uX0_findRises_X6 hown hK.1 hP 2 rfl rfl 0 (by decide) (hts _ kX0_findRises_3) (fun _ h9 => h9) rfl dX0_findRises_14 ?_
      refine lv_icmp_ge (tgt := 93) hx hb dX0_findRises_17 (by decide) (fun c14 => ?_) (fun c14 => ?_)
      · replace h := br_p c14 h
        exact K _ _ _ _ _ h hP hD hS (lv_sub hl [0, 1, 2, 3, 4] rfl)
      · replace h := br_n c14 h
        refine lv_aload_n hx hb dX0_findRises_20 rfl (lv_at hl 1 rfl) ?_
        refine lv_iload hx hb dX0_findRises_21 (lv_at hl 4 rfl) ?_
        refine lv_iload_n hx hb dX0_findRises_23 rfl (lv_at hl 2 rfl) ?_
        obtain ⟨r6, hcr6, h⟩ := bn_sp h
        have hPc := hP.sub (ws' := (ws_things cI cC cZ cR th th1 th2 th3 th4 th5 th6 th7 th8 th9 mn ln hi wi br sp si le un ul)) [2, 3, 4, 5, 6, 7, 8, 9, 10, 11] rfl
        have hDc := hD.sub (ws' := (ws_things cI cC cZ cR th th1 th2 th3 th4 th5 th6 th7 th8 th9 mn ln hi wi br sp si le un ul)) [2, 3, 4, 5, 6, 7, 8, 9, 10, 11] (by decide) rfl
        have hFc := va_free (wc := (ws_things cI cC cZ cR th th1 th2 th3 th4 th5 th6 th7 th8 th9 mn ln hi wi br sp si le un ul)) hD hS hA [2, 3, 4, 5, 6, 7, 8, 9, 10, 11] rfl
        refine va_calli (va_runV (As := [.int v4, .int a1]) (rest := []) ⟨hx, hb, hml, hown, hts⟩ (m_X6_isInLine l D cI cC cZ cR th th1 th2 th3 th4 th5 th6 th7 th8 th9 _ mn ln hi wi br sp si le un ul v4 a1   r6 hcr6) (cwV 2 hts gX0_findRises_X6_isInLine rfl rfl rfl (by decide +kernel) ⟨Nat.le_of_ble_eq_true rfl, Nat.le_of_ble_eq_true rfl⟩) (cPc_pv hPc hK hDc (ci := 6) (q0 := 0) rfl rfl) rfl rfl hl.1 rfl (lv_room (Nat.le_of_ble_eq_true rfl)) dX0_findRises_24 ⟨Nat.le_of_ble_eq_true rfl, Nat.le_of_ble_eq_true rfl⟩) hS (fun q _ h => hFc q h) hFc (fun xq u t H1 locs ht hvm hw hB hz1 hk1 hS => ?_)
        rw [hw]
        obtain ⟨hP1, hD1⟩ := hB
        rw [ht] at hP1
        obtain ⟨hP, hD⟩ := va_join (wr := [(cm, .inr (0, [.ref cm1, .ref cm2, .ref cm3])), (cm3, .inl (cI, 25, .inl v5))]) (w1 := (ws_things cI cC cZ cR th th1 th2 th3 th4 th5 th6 th7 th8 th9 mn ln hi wi br sp si le un ul)) hP hD [2, 3, 4, 5, 6, 7, 8, 9, 10, 11] [0, 1] rfl rfl (by decide) (by decide) hk1 hFc hP1 hD1
        generalize H1 = H at hP hS ⊢
        have hP : va_P D vwCl (ws_camr_things cI cC cZ cR cm cm1 cm2 cm3 th th1 th2 th3 th4 th5 th6 th7 th8 th9 v5 mn ln hi wi br sp si le un ul) H := hP
        have hD : va_D A (ws_camr_things cI cC cZ cR cm cm1 cm2 cm3 th th1 th2 th3 th4 th5 th6 th7 th8 th9 v5 mn ln hi wi br sp si le un ul) := hD
        refine lv_if_eq (tgt := 87) hx hb dX0_findRises_27 (by decide) (fun c13 => ?_) (fun c13 => ?_)
        · replace h := br_p c13 h
          obtain ⟨x7, ex7, h⟩ := bd_sp h
          refine lv_iinc (v := x7) (lv' := [(4, .int x7), (0, .ref cm), (1, .ref th), (2, .int a1), (3, .int a2)]) hx hb dX0_findRises_87 hl (k := 4) rfl (by rw [ex7]; rfl) (by decide) rfl (fun ls hl => ?_)
          refine lv_goto (tgt := 11) hx hb dX0_findRises_90 (by decide) ?_
          exact ih _ _ _ _ _ h hP hD hS (lv_sub hl [1, 2, 3, 4, 0] rfl)
        · replace h := br_n c13 h
          refine lv_aload_n hx hb dX0_findRises_30 rfl (lv_at hl 1 rfl) ?_
          refine lv_iload hx hb dX0_findRises_31 (lv_at hl 4 rfl) ?_
          refine lv_iload_n hx hb dX0_findRises_33 rfl (lv_at hl 3 rfl) ?_
          obtain ⟨r8, hcr8, h⟩ := bn_sp h
          have hPc := hP.sub (ws' := (ws_things cI cC cZ cR th th1 th2 th3 th4 th5 th6 th7 th8 th9 mn ln hi wi br sp si le un ul)) [2, 3, 4, 5, 6, 7, 8, 9, 10, 11] rfl
          have hDc := hD.sub (ws' := (ws_things cI cC cZ cR th th1 th2 th3 th4 th5 th6 th7 th8 th9 mn ln hi wi br sp si le un ul)) [2, 3, 4, 5, 6, 7, 8, 9, 10, 11] (by decide) rfl
          have hFc := va_free (wc := (ws_things cI cC cZ cR th th1 th2 th3 th4 th5 th6 th7 th8 th9 mn ln hi wi br sp si le un ul)) hD hS hA [2, 3, 4, 5, 6, 7, 8, 9, 10, 11] rfl
          refine va_calli (va_runV (As := [.int v4, .int a2]) (rest := []) ⟨hx, hb, hml, hown, hts⟩ (m_X6_leftAt l D cI cC cZ cR th th1 th2 th3 th4 th5 th6 th7 th8 th9 _ mn ln hi wi br sp si le un ul v4 a2   r8 hcr8) (cwV 2 hts gX0_findRises_X6_leftAt rfl rfl rfl (by decide +kernel) ⟨Nat.le_of_ble_eq_true rfl, Nat.le_of_ble_eq_true rfl⟩) (cPc_pv hPc hK hDc (ci := 6) (q0 := 0) rfl rfl) rfl rfl hl.1 rfl (lv_room (Nat.le_of_ble_eq_true rfl)) dX0_findRises_34 ⟨Nat.le_of_ble_eq_true rfl, Nat.le_of_ble_eq_true rfl⟩) hS (fun q _ h => hFc q h) hFc (fun xq u t H1 locs ht hvm hw hB hz1 hk1 hS => ?_)
          rw [hw]
          obtain ⟨hP1, hD1⟩ := hB
          rw [ht] at hP1
          obtain ⟨hP, hD⟩ := va_join (wr := [(cm, .inr (0, [.ref cm1, .ref cm2, .ref cm3])), (cm3, .inl (cI, 25, .inl v5))]) (w1 := (ws_things cI cC cZ cR th th1 th2 th3 th4 th5 th6 th7 th8 th9 mn ln hi wi br sp si le un ul)) hP hD [2, 3, 4, 5, 6, 7, 8, 9, 10, 11] [0, 1] rfl rfl (by decide) (by decide) hk1 hFc hP1 hD1
          generalize H1 = H at hP hS ⊢
          have hP : va_P D vwCl (ws_camr_things cI cC cZ cR cm cm1 cm2 cm3 th th1 th2 th3 th4 th5 th6 th7 th8 th9 v5 mn ln hi wi br sp si le un ul) H := hP
          have hD : va_D A (ws_camr_things cI cC cZ cR cm cm1 cm2 cm3 th th1 th2 th3 th4 th5 th6 th7 th8 th9 v5 mn ln hi wi br sp si le un ul) := hD
          refine lv_istore (lv' := [(5, .int r8), (0, .ref cm), (1, .ref th), (2, .int a1), (3, .int a2), (4, .int v4)]) hx hb dX0_findRises_37 hl (by decide) rfl (fun ls hl => ?_)
          refine lv_aload_n hx hb dX0_findRises_39 rfl (lv_at hl 1 rfl) ?_
          refine va_get (D := D) (ci := 0) (v := .ref cm3) (C := RX0) (T := TX0) (N := 3) hx hb hts uX0_findRises_X0 hown hK.1 hP 0 rfl rfl 2 (by decide) (hts _ kX0_findRises_1) (fun _ h9 => h9) rfl dX0_findRises_40 ?_
          refine lv_iload hx hb dX0_findRises_43 (lv_at hl 0 rfl) ?_
          obtain ⟨r9, hcr9, h⟩ := bn_sp h
          have hPc := hP.sub (ws' := []) [] rfl
          have hDc := hD.sub (ws' := []) [] (by decide) rfl
          have hFc := va_free (wc := []) hD hS hA [] rfl
          refine va_calli (va_runS (As := [.int r8]) (rest := [.ref cm3]) ⟨hx, hb, hml, hown, hts⟩ (m_X0_nearestEdge l D cI cC cZ cR  _  r8   r9 hcr9) (va_cwS 1 hts gX0_findRises_X0_nearestEdge rfl rfl rfl (by decide +kernel) ⟨Nat.le_of_ble_eq_true rfl, Nat.le_of_ble_eq_true rfl⟩) (cPc_ps hPc hK hDc) rfl rfl hl.1 rfl (lv_room (Nat.le_of_ble_eq_true rfl)) dX0_findRises_45 ⟨Nat.le_of_ble_eq_true rfl, Nat.le_of_ble_eq_true rfl⟩) hS (fun q _ h => hFc q h) hFc (fun xq u t H1 locs ht hvm hw hB hz1 hk1 hS => ?_)
          rw [hw]
          obtain ⟨hP1, hD1⟩ := hB
          rw [ht] at hP1
          obtain ⟨hP, hD⟩ := va_join (wr := [(cm, .inr (0, [.ref cm1, .ref cm2, .ref cm3])), (cm3, .inl (cI, 25, .inl v5)), (th, .inr (6, [.int mn, .ref th1, .ref th2, .ref th3, .ref th4, .ref th5, .ref th6, .ref th7, .ref th8, .ref th9])), (th1, .inl (cI, 8, .inl ln)), (th2, .inl (cI, 8, .inl hi)), (th3, .inl (cI, 8, .inl wi)), (th4, .inl (cI, 8, .inl br)), (th5, .inl (cI, 8, .inl sp)), (th6, .inl (cI, 8, .inl si)), (th7, .inl (cI, 8, .inl le)), (th8, .inl (cI, 8, .inl un)), (th9, .inl (cI, 8, .inl ul))]) (w1 := []) hP hD [] [0, 1, 2, 3, 4, 5, 6, 7, 8, 9, 10, 11] rfl rfl (by decide) (by decide) hk1 hFc hP1 hD1
          generalize H1 = H at hP hS ⊢
          have hP : va_P D vwCl (ws_camr_things cI cC cZ cR cm cm1 cm2 cm3 th th1 th2 th3 th4 th5 th6 th7 th8 th9 v5 mn ln hi wi br sp si le un ul) H := hP
          have hD : va_D A (ws_camr_things cI cC cZ cR cm cm1 cm2 cm3 th th1 th2 th3 th4 th5 th6 th7 th8 th9 v5 mn ln hi wi br sp si le un ul) := hD
          refine lv_dup2_11 hx hb dX0_findRises_48 rfl rfl ?_
          obtain ⟨hin, h⟩ := gd_sp h
          refine va_iald (D := D) hx hb hK.1 hP 1 0 rfl rfl hin dX0_findRises_49 ?_
          refine lv_aload_n hx hb dX0_findRises_50 rfl (lv_at hl 2 rfl) ?_
          refine va_get (D := D) (ci := 6) (v := .ref th4) (C := RX6) (T := TX6) (N := 10) hx hb hts uX0_findRises_X6 hown hK.1 hP 2 rfl rfl 4 (by decide) (hts _ kX0_findRises_4) (fun _ h9 => h9) rfl dX0_findRises_51 ?_
          refine lv_iload hx hb dX0_findRises_54 (lv_at hl 5 rfl) ?_
          obtain ⟨hin, h⟩ := gd_sp h
          refine va_iald (D := D) hx hb hK.1 hP 6 0 rfl rfl hin dX0_findRises_56 ?_
          refine lv_iadd hx hb dX0_findRises_57 ?_
          obtain ⟨hin, h⟩ := gd_sp h
          refine va_iast (D := D) hx hb hK.1 hP hD hS 1 0 rfl rfl hin dX0_findRises_58 (fun H locs hP hD hS => ?_)
          have hP : va_P D vwCl (ws_camr_things cI cC cZ cR cm cm1 cm2 cm3 th th1 th2 th3 th4 th5 th6 th7 th8 th9 (upd v5 r9.toNatClampNeg ((v5 r9.toNatClampNeg) + (br v4.toNatClampNeg))) mn ln hi wi br sp si le un ul) H := hP
          have hD : va_D A (ws_camr_things cI cC cZ cR cm cm1 cm2 cm3 th th1 th2 th3 th4 th5 th6 th7 th8 th9 (upd v5 r9.toNatClampNeg ((v5 r9.toNatClampNeg) + (br v4.toNatClampNeg))) mn ln hi wi br sp si le un ul) := hD
          refine lv_aload_n hx hb dX0_findRises_59 rfl (lv_at hl 1 rfl) ?_
          refine va_get (D := D) (ci := 0) (v := .ref cm3) (C := RX0) (T := TX0) (N := 3) hx hb hts uX0_findRises_X0 hown hK.1 hP 0 rfl rfl 2 (by decide) (hts _ kX0_findRises_1) (fun _ h9 => h9) rfl dX0_findRises_60 ?_
          refine lv_iload hx hb dX0_findRises_63 (lv_at hl 0 rfl) ?_
          refine lv_aload_n hx hb dX0_findRises_65 rfl (lv_at hl 2 rfl) ?_
          refine va_get (D := D) (ci := 6) (v := .ref th3) (C := RX6) (T := TX6) (N := 10) hx hb hts uX0_findRises_X6 hown hK.1 hP 2 rfl rfl 3 (by decide) (hts _ kX0_findRises_5) (fun _ h9 => h9) rfl dX0_findRises_66 ?_
          refine lv_iload hx hb dX0_findRises_69 (lv_at hl 5 rfl) ?_
          obtain ⟨hin, h⟩ := gd_sp h
          refine va_iald (D := D) hx hb hK.1 hP 5 0 rfl rfl hin dX0_findRises_71 ?_
          refine lv_iadd hx hb dX0_findRises_72 ?_
          obtain ⟨r10, hcr10, h⟩ := bn_sp h
          have hPc := hP.sub (ws' := []) [] rfl
          have hDc := hD.sub (ws' := []) [] (by decide) rfl
          have hFc := va_free (wc := []) hD hS hA [] rfl
          refine va_calli (va_runS (As := [.int (r8 + (wi v4.toNatClampNeg))]) (rest := [.ref cm3]) ⟨hx, hb, hml, hown, hts⟩ (m_X0_nearestEdge l D cI cC cZ cR  _  (r8 + (wi v4.toNatClampNeg))   r10 hcr10) (va_cwS 1 hts gX0_findRises_X0_nearestEdge rfl rfl rfl (by decide +kernel) ⟨Nat.le_of_ble_eq_true rfl, Nat.le_of_ble_eq_true rfl⟩) (cPc_ps hPc hK hDc) rfl rfl hl.1 rfl (lv_room (Nat.le_of_ble_eq_true rfl)) dX0_findRises_73 ⟨Nat.le_of_ble_eq_true rfl, Nat.le_of_ble_eq_true rfl⟩) hS (fun q _ h => hFc q h) hFc (fun xq u t H1 locs ht hvm hw hB hz1 hk1 hS => ?_)
          rw [hw]
          obtain ⟨hP1, hD1⟩ := hB
          rw [ht] at hP1
          obtain ⟨hP, hD⟩ := va_join (wr := [(cm, .inr (0, [.ref cm1, .ref cm2, .ref cm3])), (cm3, .inl (cI, 25, .inl (upd v5 r9.toNatClampNeg ((v5 r9.toNatClampNeg) + (br v4.toNatClampNeg))))), (th, .inr (6, [.int mn, .ref th1, .ref th2, .ref th3, .ref th4, .ref th5, .ref th6, .ref th7, .ref th8, .ref th9])), (th1, .inl (cI, 8, .inl ln)), (th2, .inl (cI, 8, .inl hi)), (th3, .inl (cI, 8, .inl wi)), (th4, .inl (cI, 8, .inl br)), (th5, .inl (cI, 8, .inl sp)), (th6, .inl (cI, 8, .inl si)), (th7, .inl (cI, 8, .inl le)), (th8, .inl (cI, 8, .inl un)), (th9, .inl (cI, 8, .inl ul))]) (w1 := []) hP hD [] [0, 1, 2, 3, 4, 5, 6, 7, 8, 9, 10, 11] rfl rfl (by decide) (by decide) hk1 hFc hP1 hD1
          generalize H1 = H at hP hS ⊢
          have hP : va_P D vwCl (ws_camr_things cI cC cZ cR cm cm1 cm2 cm3 th th1 th2 th3 th4 th5 th6 th7 th8 th9 (upd v5 r9.toNatClampNeg ((v5 r9.toNatClampNeg) + (br v4.toNatClampNeg))) mn ln hi wi br sp si le un ul) H := hP
          have hD : va_D A (ws_camr_things cI cC cZ cR cm cm1 cm2 cm3 th th1 th2 th3 th4 th5 th6 th7 th8 th9 (upd v5 r9.toNatClampNeg ((v5 r9.toNatClampNeg) + (br v4.toNatClampNeg))) mn ln hi wi br sp si le un ul) := hD
          refine lv_dup2_11 hx hb dX0_findRises_76 rfl rfl ?_
          obtain ⟨hin, h⟩ := gd_sp h
          refine va_iald (D := D) hx hb hK.1 hP 1 0 rfl rfl hin dX0_findRises_77 ?_
          refine lv_aload_n hx hb dX0_findRises_78 rfl (lv_at hl 2 rfl) ?_
          refine va_get (D := D) (ci := 6) (v := .ref th4) (C := RX6) (T := TX6) (N := 10) hx hb hts uX0_findRises_X6 hown hK.1 hP 2 rfl rfl 4 (by decide) (hts _ kX0_findRises_4) (fun _ h9 => h9) rfl dX0_findRises_79 ?_
          refine lv_iload hx hb dX0_findRises_82 (lv_at hl 5 rfl) ?_
          obtain ⟨hin, h⟩ := gd_sp h
          refine va_iald (D := D) hx hb hK.1 hP 6 0 rfl rfl hin dX0_findRises_84 ?_
          refine lv_isub hx hb dX0_findRises_85 ?_
          obtain ⟨hin, h⟩ := gd_sp h
          refine va_iast (D := D) hx hb hK.1 hP hD hS 1 0 rfl rfl hin dX0_findRises_86 (fun H locs hP hD hS => ?_)
          have hP : va_P D vwCl (ws_camr_things cI cC cZ cR cm cm1 cm2 cm3 th th1 th2 th3 th4 th5 th6 th7 th8 th9 (upd (upd v5 r9.toNatClampNeg ((v5 r9.toNatClampNeg) + (br v4.toNatClampNeg))) r10.toNatClampNeg (((upd v5 r9.toNatClampNeg ((v5 r9.toNatClampNeg) + (br v4.toNatClampNeg))) r10.toNatClampNeg) - (br v4.toNatClampNeg))) mn ln hi wi br sp si le un ul) H := hP
          have hD : va_D A (ws_camr_things cI cC cZ cR cm cm1 cm2 cm3 th th1 th2 th3 th4 th5 th6 th7 th8 th9 (upd (upd v5 r9.toNatClampNeg ((v5 r9.toNatClampNeg) + (br v4.toNatClampNeg))) r10.toNatClampNeg (((upd v5 r9.toNatClampNeg ((v5 r9.toNatClampNeg) + (br v4.toNatClampNeg))) r10.toNatClampNeg) - (br v4.toNatClampNeg))) mn ln hi wi br sp si le un ul) := hD
          obtain ⟨y11, ey11, h⟩ := bd_sp h
          rw [← ey11] at hP hD
          obtain ⟨x12, ex12, h⟩ := bd_sp h
          refine lv_iinc (v := x12) (lv' := [(4, .int x12), (5, .int r8), (0, .ref cm), (1, .ref th), (2, .int a1), (3, .int a2)]) hx hb dX0_findRises_87 hl (k := 5) rfl (by rw [ex12]; rfl) (by decide) rfl (fun ls hl => ?_)
          refine lv_goto (tgt := 11) hx hb dX0_findRises_90 (by decide) ?_
          exact ih _ _ _ _ _ h hP hD hS (lv_sub hl [2, 3, 4, 5, 0] rfl)
  refine L11 _ (fun w15 w16 H locs ls h hP hD hS hl => ?_) 4000 0 r1 _ _ _ h hP hD hS (lv_sub hl [1, 2, 3, 4, 0] rfl)
  have e9 := Option.some.inj h
  subst e9
  rw [hQ]
  exact W.vret hx hb hr (fun t ht hW => ⟨⟨(), rfl, trivial, by rw [ht]; exact hP, hD⟩, hS.F ht⟩) hS.2.2 dX0_findRises_93
-- LeaningLines$Camera.exposeLine
abbrev OUT_X0_exposeLine : Type := (Nat → Int32) × (Nat → Int32)
def f_X0_exposeLine_L9 (se : Nat → Int32) (mn : Int32) (ln : Nat → Int32) (hi : Nat → Int32) (wi : Nat → Int32) (br : Nat → Int32) (sp : Nat → Int32) (si : Nat → Int32) (le : Nat → Int32) (un : Nat → Int32) (ul : Nat → Int32) (ft : Int32) (fk : Int32) (a1 : Int32) (a2 : Int32) (a3 : Int32) (k : Int32 → (Nat → Int32) → (Nat → Int32) → Option OUT_X0_exposeLine) : Nat → Int32 → (Nat → Int32) → (Nat → Int32) → Option OUT_X0_exposeLine
  | 0 => fun _ _ _ => none
  | n + 1 => fun v5 v6 v7 => (if (a2 + a3) ≤ v5 then k v5 v6 v7 else bn (f_X5_lightAt se ft fk v5) (fun r8 => (if r8 = 0 then bd (v5 + 1) (fun x9 => f_X0_exposeLine_L9 se mn ln hi wi br sp si le un ul ft fk a1 a2 a3 k n x9 v6 v7) else bn (f_X0_findRises v6 mn ln hi wi br sp si le un ul a1 v5) (fun r10 => bn (f_X0_addLight r10 v7 r8) (fun r11 => bd (v5 + 1) (fun x12 => f_X0_exposeLine_L9 se mn ln hi wi br sp si le un ul ft fk a1 a2 a3 k n x12 r10 r11))))))
theorem f_X0_exposeLine_L9_s (se : Nat → Int32) (mn : Int32) (ln : Nat → Int32) (hi : Nat → Int32) (wi : Nat → Int32) (br : Nat → Int32) (sp : Nat → Int32) (si : Nat → Int32) (le : Nat → Int32) (un : Nat → Int32) (ul : Nat → Int32) (ft : Int32) (fk : Int32) (a1 : Int32) (a2 : Int32) (a3 : Int32) (k : Int32 → (Nat → Int32) → (Nat → Int32) → Option OUT_X0_exposeLine) (n : Nat) (v5 : Int32) (v6 : Nat → Int32) (v7 : Nat → Int32) : f_X0_exposeLine_L9 se mn ln hi wi br sp si le un ul ft fk a1 a2 a3 k (n + 1) v5 v6 v7 = ((if (a2 + a3) ≤ v5 then k v5 v6 v7 else bn (f_X5_lightAt se ft fk v5) (fun r8 => (if r8 = 0 then bd (v5 + 1) (fun x9 => f_X0_exposeLine_L9 se mn ln hi wi br sp si le un ul ft fk a1 a2 a3 k n x9 v6 v7) else bn (f_X0_findRises v6 mn ln hi wi br sp si le un ul a1 v5) (fun r10 => bn (f_X0_addLight r10 v7 r8) (fun r11 => bd (v5 + 1) (fun x12 => f_X0_exposeLine_L9 se mn ln hi wi br sp si le un ul ft fk a1 a2 a3 k n x12 r10 r11))))))) := rfl
def f_X0_exposeLine (ris : Nat → Int32) (se : Nat → Int32) (mn : Int32) (ln : Nat → Int32) (hi : Nat → Int32) (wi : Nat → Int32) (br : Nat → Int32) (sp : Nat → Int32) (si : Nat → Int32) (le : Nat → Int32) (un : Nat → Int32) (ul : Nat → Int32) (ft : Int32) (fk : Int32) (orow : Nat → Int32) (a1 : Int32) (a2 : Int32) (a3 : Int32) : Option OUT_X0_exposeLine :=
  bn (f_J7_fill_53178 orow 0) (fun r1 => f_X0_exposeLine_L9 se mn ln hi wi br sp si le un ul ft fk a1 a2 a3 (fun (w15 : Int32) (w16 : Nat → Int32) (w17 : Nat → Int32) => some (w16, w17)) 4000 a2 ris r1)
theorem uX0_exposeLine_X5 : ∀ w ∈ wsX50, w ∈ wsX0_exposeLine := by decide +kernel
theorem kX0_exposeLine_1 : Cond.fieldLink RX0 64 "LeaningLines$Scene" "things" "LLeaningLines$Things;" ∈ wsX0_exposeLine := by decide +kernel
abbrev R_X0_exposeLine : Room := { frames := 3, cells := 0, slots := 0, locals := 72 }
set_option maxHeartbeats 4000000 in
set_option maxRecDepth 100000 in
theorem m_X0_exposeLine (l : Launch) (D : va_G) (cI cC cZ cR : ClassId) (cm cm1 cm2 cm3 sc sea th th1 th2 th3 th4 th5 th6 th7 th8 th9 pi pia orw : Nat) (sz : Nat) (ris : Nat → Int32) (se : Nat → Int32) (mn : Int32) (ln : Nat → Int32) (hi : Nat → Int32) (wi : Nat → Int32) (br : Nat → Int32) (sp : Nat → Int32) (si : Nat → Int32) (le : Nat → Int32) (un : Nat → Int32) (ul : Nat → Int32) (px : Nat → Int32) (tm : Int32) (ps : Int32) (ft : Int32) (fk : Int32) (orow : Nat → Int32)  (a1 : Int32) (a2 : Int32) (a3 : Int32)   (r : OUT_X0_exposeLine) (hf : f_X0_exposeLine ris se mn ln hi wi br sp si le un ul ft fk orow a1 a2 a3 = some r) : Met l yX0_exposeLine wsX0_exposeLine R_X0_exposeLine (cPc D cI cC cZ cR [.ref cm, .ref sc, .int a1, .int a2, .int a3, .ref orw] sz (ws_camr_scene_row24 cI cC cZ cR cm cm1 cm2 cm3 sc sea th th1 th2 th3 th4 th5 th6 th7 th8 th9 pi pia orw ris se mn ln hi wi br sp si le un ul px tm ps ft fk orow)) (cQv D (ws_camr_scene_row24 cI cC cZ cR cm cm1 cm2 cm3 sc sea th th1 th2 th3 th4 th5 th6 th7 th8 th9 pi pia orw r.1 se mn ln hi wi br sp si le un ul px tm ps ft fk r.2) (va_A (ws_camr_scene_row24 cI cC cZ cR cm cm1 cm2 cm3 sc sea th th1 th2 th3 th4 th5 th6 th7 th8 th9 pi pia orw ris se mn ln hi wi br sp si le un ul px tm ps ft fk orow) sz)) 0 0 (va_A (ws_camr_scene_row24 cI cC cZ cR cm cm1 cm2 cm3 sc sea th th1 th2 th3 th4 th5 th6 th7 th8 th9 pi pia orw ris se mn ln hi wi br sp si le un ul px tm ps ft fk orow) sz) := by
  refine Met.ofW (cc := cX0_exposeLine) (maxL := 8) (ret := none) (by decide) rfl ?_
  intro p e s m args below meth c s₁ B hml hv
  obtain ⟨rfl, hsz, hP, hK, hD0⟩ := hv
  have hx := B.exec
  have hb := B.bytes
  have hr := B.returns
  have hts := atoms_spec (ws := wsX0_exposeLine) B.pre
  have hown : s.vm.findClass RX0 = some m.cls := findClass_of_methodNamed B.named
  have hlocks := B.notSynchronized
  subst hsz
  have hD := hD0.self (sz := s.heap.size)
  generalize hAe : va_A (ws_camr_scene_row24 cI cC cZ cR cm cm1 cm2 cm3 sc sea th th1 th2 th3 th4 th5 th6 th7 th8 th9 pi pia orw ris se mn ln hi wi br sp si le un ul px tm ps ft fk orow) s.heap.size = A at hD ⊢
  skip
  have hA : ∀ q : Nat, s.heap.size ≤ q → A q := fun q h => by rw [← hAe]; exact Or.inr h
  have hS : va_S A s.heap s.heap [] := va_S.rf
  have hl := lv_entry ([.ref cm, .ref sc, .int a1, .int a2, .int a3, .ref orw]) (n := 8) (Nat.le_of_ble_eq_true rfl)
  rw [lg_entry_eq]
  generalize (lg_sl ([.ref cm, .ref sc, .int a1, .int a2, .int a3, .ref orw]) ++ List.replicate (8 - (lg_sl ([.ref cm, .ref sc, .int a1, .int a2, .int a3, .ref orw])).length) Slot.unset).toArray = ls at hl ⊢
  have hl : lv_has ls 8 [(0, .ref cm), (1, .ref sc), (2, .int a1), (3, .int a2), (4, .int a3), (5, .ref orw)] := hl
  refine W_absQ (fun Q hQ => ?_)
  refine W.eq (g2 := F0 m 0 ls []) rfl ?_
  have h := hf
  unfold f_X0_exposeLine at h
  refine lv_aload hx hb dX0_exposeLine_0 (lv_at hl 5 rfl) ?_
  refine lv_iconst (v := 0) hx hb dX0_exposeLine_2 (by decide) ?_
  obtain ⟨r1, hcr1, h⟩ := bn_sp h
  have hPc := hP.sub (ws' := (ws_row24 cI cC cZ cR orw orow)) [16] rfl
  have hDc := hD.sub (ws' := (ws_row24 cI cC cZ cR orw orow)) [16] (by decide) rfl
  have hFc := va_free (wc := (ws_row24 cI cC cZ cR orw orow)) hD hS hA [16] rfl
  refine va_callv (va_runS (As := [.ref orw, .int 0]) (rest := []) ⟨hx, hb, hml, hown, hts⟩ (m_J7_fill_53178 l D cI cC cZ cR orw _ orow 0   r1 hcr1) (va_cwS 2 hts gX0_exposeLine_J7_fill_53178 rfl rfl rfl (by decide +kernel) ⟨Nat.le_of_ble_eq_true rfl, Nat.le_of_ble_eq_true rfl⟩) (cPc_ps hPc hK hDc) rfl rfl hl.1 rfl (lv_room (Nat.le_of_ble_eq_true rfl)) dX0_exposeLine_3 ⟨Nat.le_of_ble_eq_true rfl, Nat.le_of_ble_eq_true rfl⟩) hS (fun q _ h => hFc q h) hFc (fun u t H1 locs ht hvm hw hB hz1 hk1 hS => ?_)
  obtain ⟨hP1, hD1⟩ := hB
  rw [ht] at hP1
  obtain ⟨hP, hD⟩ := va_join (wr := [(cm, .inr (0, [.ref cm1, .ref cm2, .ref cm3])), (cm3, .inl (cI, 25, .inl ris)), (sc, .inr (5, [.ref sea, .ref th, .ref pi, .int tm, .int ps, .int ft, .int fk])), (sea, .inl (cI, 4, .inl se)), (th, .inr (6, [.int mn, .ref th1, .ref th2, .ref th3, .ref th4, .ref th5, .ref th6, .ref th7, .ref th8, .ref th9])), (th1, .inl (cI, 8, .inl ln)), (th2, .inl (cI, 8, .inl hi)), (th3, .inl (cI, 8, .inl wi)), (th4, .inl (cI, 8, .inl br)), (th5, .inl (cI, 8, .inl sp)), (th6, .inl (cI, 8, .inl si)), (th7, .inl (cI, 8, .inl le)), (th8, .inl (cI, 8, .inl un)), (th9, .inl (cI, 8, .inl ul)), (pi, .inr (3, [.ref pia])), (pia, .inl (cI, 384, .inl px))]) (w1 := (ws_row24 cI cC cZ cR orw r1)) hP hD [16] [0, 1, 2, 3, 4, 5, 6, 7, 8, 9, 10, 11, 12, 13, 14, 15] rfl rfl (by decide) (by decide) hk1 hFc hP1 hD1
  generalize H1 = H at hP hS ⊢
  have hP : va_P D vwCl (ws_camr_scene_row24 cI cC cZ cR cm cm1 cm2 cm3 sc sea th th1 th2 th3 th4 th5 th6 th7 th8 th9 pi pia orw ris se mn ln hi wi br sp si le un ul px tm ps ft fk r1) H := hP
  have hD : va_D A (ws_camr_scene_row24 cI cC cZ cR cm cm1 cm2 cm3 sc sea th th1 th2 th3 th4 th5 th6 th7 th8 th9 pi pia orw ris se mn ln hi wi br sp si le un ul px tm ps ft fk r1) := hD
  refine lv_iload_n hx hb dX0_exposeLine_6 rfl (lv_at hl 3 rfl) ?_
  refine lv_istore (lv' := [(6, .int a2), (0, .ref cm), (1, .ref sc), (2, .int a1), (3, .int a2), (4, .int a3), (5, .ref orw)]) hx hb dX0_exposeLine_7 hl (by decide) rfl (fun ls hl => ?_)
  have L9 : ∀ (k : Int32 → (Nat → Int32) → (Nat → Int32) → Option OUT_X0_exposeLine), (∀ (w15 : Int32) (w16 : Nat → Int32) (w17 : Nat → Int32) (H : Heap) (locs : List Loc) (ls : Array Slot), k w15 w16 w17 = some r → va_P D vwCl (ws_camr_scene_row24 cI cC cZ cR cm cm1 cm2 cm3 sc sea th th1 th2 th3 th4 th5 th6 th7 th8 th9 pi pia orw w16 se mn ln hi wi br sp si le un ul px tm ps ft fk w17) H → va_D A (ws_camr_scene_row24 cI cC cZ cR cm cm1 cm2 cm3 sc sea th th1 th2 th3 th4 th5 th6 th7 th8 th9 pi pia orw w16 se mn ln hi wi br sp si le un ul px tm ps ft fk w17) → va_S A s.heap H locs → lv_has ls 8 [(0, .ref cm), (1, .ref sc), (2, .int a1), (3, .int a2), (4, .int a3), (5, .ref orw), (6, .int w15)] → W p l e R_X0_exposeLine s m ([.ref cm, .ref sc, .int a1, .int a2, .int a3, .ref orw] : List Value).toArray below meth c H locs 0 0 Q (F0 m 56 ls [])) → ∀ (n : Nat) (v5 : Int32) (v6 : Nat → Int32) (v7 : Nat → Int32) (H : Heap) (locs : List Loc) (ls : Array Slot), f_X0_exposeLine_L9 se mn ln hi wi br sp si le un ul ft fk a1 a2 a3 k n v5 v6 v7 = some r → va_P D vwCl (ws_camr_scene_row24 cI cC cZ cR cm cm1 cm2 cm3 sc sea th th1 th2 th3 th4 th5 th6 th7 th8 th9 pi pia orw v6 se mn ln hi wi br sp si le un ul px tm ps ft fk v7) H → va_D A (ws_camr_scene_row24 cI cC cZ cR cm cm1 cm2 cm3 sc sea th th1 th2 th3 th4 th5 th6 th7 th8 th9 pi pia orw v6 se mn ln hi wi br sp si le un ul px tm ps ft fk v7) → va_S A s.heap H locs → lv_has ls 8 [(0, .ref cm), (1, .ref sc), (2, .int a1), (3, .int a2), (4, .int a3), (5, .ref orw), (6, .int v5)] → W p l e R_X0_exposeLine s m ([.ref cm, .ref sc, .int a1, .int a2, .int a3, .ref orw] : List Value).toArray below meth c H locs 0 0 Q (F0 m 9 ls []) := by
    intro k K n
    induction n with
    | zero => intro v5 v6 v7 H locs ls h; exact no_sm h
    | succ n ih =>
      intro v5 v6 v7 H locs ls h hP hD hS hl
      rw [f_X0_exposeLine_L9_s] at h
      refine lv_iload hx hb dX0_exposeLine_9 (lv_at hl 6 rfl) ?_
      refine lv_iload_n hx hb dX0_exposeLine_11 rfl (lv_at hl 3 rfl) ?_
      refine lv_iload hx hb dX0_exposeLine_12 (lv_at hl 4 rfl) ?_
      refine lv_iadd hx hb dX0_exposeLine_14 ?_
      refine lv_icmp_ge (tgt := 56) hx hb dX0_exposeLine_15 (by decide) (fun c14 => ?_) (fun c14 => ?_)
      · replace h := br_p c14 h
        exact K _ _ _ _ _ _ h hP hD hS (lv_sub hl [0, 1, 2, 3, 4, 5, 6] rfl)
      · replace h := br_n c14 h
        refine lv_aload_n hx hb dX0_exposeLine_18 rfl (lv_at hl 1 rfl) ?_
        refine lv_iload hx hb dX0_exposeLine_19 (lv_at hl 6 rfl) ?_
        obtain ⟨r8, hcr8, h⟩ := bn_sp h
        have hPc := hP.sub (ws' := (ws_scene cI cC cZ cR sc sea th th1 th2 th3 th4 th5 th6 th7 th8 th9 pi pia se mn ln hi wi br sp si le un ul px tm ps ft fk)) [2, 3, 4, 5, 6, 7, 8, 9, 10, 11, 12, 13, 14, 15] rfl
        have hDc := hD.sub (ws' := (ws_scene cI cC cZ cR sc sea th th1 th2 th3 th4 th5 th6 th7 th8 th9 pi pia se mn ln hi wi br sp si le un ul px tm ps ft fk)) [2, 3, 4, 5, 6, 7, 8, 9, 10, 11, 12, 13, 14, 15] (by decide) rfl
        have hFc := va_free (wc := (ws_scene cI cC cZ cR sc sea th th1 th2 th3 th4 th5 th6 th7 th8 th9 pi pia se mn ln hi wi br sp si le un ul px tm ps ft fk)) hD hS hA [2, 3, 4, 5, 6, 7, 8, 9, 10, 11, 12, 13, 14, 15] rfl
        refine va_calli (va_runV (As := [.int v5]) (rest := []) ⟨hx, hb, hml, hown, hts⟩ (m_X5_lightAt l D cI cC cZ cR sc sea th th1 th2 th3 th4 th5 th6 th7 th8 th9 pi pia _ se mn ln hi wi br sp si le un ul px tm ps ft fk v5   r8 hcr8) (cwV 1 hts gX0_exposeLine_X5_lightAt rfl rfl rfl (by decide +kernel) ⟨Nat.le_of_ble_eq_true rfl, Nat.le_of_ble_eq_true rfl⟩) (cPc_pv hPc hK hDc (ci := 5) (q0 := 0) rfl rfl) rfl rfl hl.1 rfl (lv_room (Nat.le_of_ble_eq_true rfl)) dX0_exposeLine_21 ⟨Nat.le_of_ble_eq_true rfl, Nat.le_of_ble_eq_true rfl⟩) hS (fun q _ h => hFc q h) hFc (fun xq u t H1 locs ht hvm hw hB hz1 hk1 hS => ?_)
        rw [hw]
        obtain ⟨hP1, hD1⟩ := hB
        rw [ht] at hP1
        obtain ⟨hP, hD⟩ := va_join (wr := [(cm, .inr (0, [.ref cm1, .ref cm2, .ref cm3])), (cm3, .inl (cI, 25, .inl v6)), (orw, .inl (cI, 24, .inl v7))]) (w1 := (ws_scene cI cC cZ cR sc sea th th1 th2 th3 th4 th5 th6 th7 th8 th9 pi pia se mn ln hi wi br sp si le un ul px tm ps ft fk)) hP hD [2, 3, 4, 5, 6, 7, 8, 9, 10, 11, 12, 13, 14, 15] [0, 1, 16] rfl rfl (by decide) (by decide) hk1 hFc hP1 hD1
        have hP := hP.sub (ws' := (ws_camr_scene_row24 cI cC cZ cR cm cm1 cm2 cm3 sc sea th th1 th2 th3 th4 th5 th6 th7 th8 th9 pi pia orw v6 se mn ln hi wi br sp si le un ul px tm ps ft fk v7)) [0, 1, 3, 4, 5, 6, 7, 8, 9, 10, 11, 12, 13, 14, 15, 16, 2] rfl
        have hD := hD.sub (ws' := (ws_camr_scene_row24 cI cC cZ cR cm cm1 cm2 cm3 sc sea th th1 th2 th3 th4 th5 th6 th7 th8 th9 pi pia orw v6 se mn ln hi wi br sp si le un ul px tm ps ft fk v7)) [0, 1, 3, 4, 5, 6, 7, 8, 9, 10, 11, 12, 13, 14, 15, 16, 2] (by decide) rfl
        generalize H1 = H at hP hS ⊢
        refine lv_istore (lv' := [(7, .int r8), (0, .ref cm), (1, .ref sc), (2, .int a1), (3, .int a2), (4, .int a3), (5, .ref orw), (6, .int v5)]) hx hb dX0_exposeLine_24 hl (by decide) rfl (fun ls hl => ?_)
        refine lv_iload hx hb dX0_exposeLine_26 (lv_at hl 0 rfl) ?_
        refine lv_if_eq (tgt := 50) hx hb dX0_exposeLine_28 (by decide) (fun c13 => ?_) (fun c13 => ?_)
        · replace h := br_p c13 h
          obtain ⟨x9, ex9, h⟩ := bd_sp h
          refine lv_iinc (v := x9) (lv' := [(6, .int x9), (7, .int r8), (0, .ref cm), (1, .ref sc), (2, .int a1), (3, .int a2), (4, .int a3), (5, .ref orw)]) hx hb dX0_exposeLine_50 hl (k := 7) rfl (by rw [ex9]; rfl) (by decide) rfl (fun ls hl => ?_)
          refine lv_goto (tgt := 9) hx hb dX0_exposeLine_53 (by decide) ?_
          exact ih _ _ _ _ _ _ h hP hD hS (lv_sub hl [2, 3, 4, 5, 6, 7, 0] rfl)
        · replace h := br_n c13 h
          refine lv_aload_n hx hb dX0_exposeLine_31 rfl (lv_at hl 1 rfl) ?_
          refine lv_aload_n hx hb dX0_exposeLine_32 rfl (lv_at hl 2 rfl) ?_
          refine va_get (D := D) (ci := 5) (v := .ref th) (C := RX5) (T := TX5) (N := 7) hx hb hts uX0_exposeLine_X5 hown hK.1 hP 2 rfl rfl 1 (by decide) (hts _ kX0_exposeLine_1) (fun _ h9 => h9) rfl dX0_exposeLine_33 ?_
          refine lv_iload_n hx hb dX0_exposeLine_36 rfl (lv_at hl 3 rfl) ?_
          refine lv_iload hx hb dX0_exposeLine_37 (lv_at hl 7 rfl) ?_
          obtain ⟨r10, hcr10, h⟩ := bn_sp h
          have hPc := hP.sub (ws' := (ws_camr_things cI cC cZ cR cm cm1 cm2 cm3 th th1 th2 th3 th4 th5 th6 th7 th8 th9 v6 mn ln hi wi br sp si le un ul)) [0, 1, 4, 5, 6, 7, 8, 9, 10, 11, 12, 13] rfl
          have hDc := hD.sub (ws' := (ws_camr_things cI cC cZ cR cm cm1 cm2 cm3 th th1 th2 th3 th4 th5 th6 th7 th8 th9 v6 mn ln hi wi br sp si le un ul)) [0, 1, 4, 5, 6, 7, 8, 9, 10, 11, 12, 13] (by decide) rfl
          have hFc := va_free (wc := (ws_camr_things cI cC cZ cR cm cm1 cm2 cm3 th th1 th2 th3 th4 th5 th6 th7 th8 th9 v6 mn ln hi wi br sp si le un ul)) hD hS hA [0, 1, 4, 5, 6, 7, 8, 9, 10, 11, 12, 13] rfl
          refine va_callv (va_runV (As := [.ref th, .int a1, .int v5]) (rest := []) ⟨hx, hb, hml, hown, hts⟩ (m_X0_findRises l D cI cC cZ cR cm cm1 cm2 cm3 th th1 th2 th3 th4 th5 th6 th7 th8 th9 _ v6 mn ln hi wi br sp si le un ul a1 v5   r10 hcr10) (cwV 3 hts gX0_exposeLine_X0_findRises rfl rfl rfl (by decide +kernel) ⟨Nat.le_of_ble_eq_true rfl, Nat.le_of_ble_eq_true rfl⟩) (cPc_pv hPc hK hDc (ci := 0) (q0 := 0) rfl rfl) rfl rfl hl.1 rfl (lv_room (Nat.le_of_ble_eq_true rfl)) dX0_exposeLine_39 ⟨Nat.le_of_ble_eq_true rfl, Nat.le_of_ble_eq_true rfl⟩) hS (fun q _ h => hFc q h) hFc (fun u t H1 locs ht hvm hw hB hz1 hk1 hS => ?_)
          obtain ⟨hP1, hD1⟩ := hB
          rw [ht] at hP1
          obtain ⟨hP, hD⟩ := va_join (wr := [(sc, .inr (5, [.ref sea, .ref th, .ref pi, .int tm, .int ps, .int ft, .int fk])), (sea, .inl (cI, 4, .inl se)), (pi, .inr (3, [.ref pia])), (pia, .inl (cI, 384, .inl px)), (orw, .inl (cI, 24, .inl v7))]) (w1 := (ws_camr_things cI cC cZ cR cm cm1 cm2 cm3 th th1 th2 th3 th4 th5 th6 th7 th8 th9 r10 mn ln hi wi br sp si le un ul)) hP hD [0, 1, 4, 5, 6, 7, 8, 9, 10, 11, 12, 13] [2, 3, 14, 15, 16] rfl rfl (by decide) (by decide) hk1 hFc hP1 hD1
          have hP := hP.sub (ws' := (ws_camr_scene_row24 cI cC cZ cR cm cm1 cm2 cm3 sc sea th th1 th2 th3 th4 th5 th6 th7 th8 th9 pi pia orw r10 se mn ln hi wi br sp si le un ul px tm ps ft fk v7)) [5, 6, 0, 1, 7, 8, 9, 10, 11, 12, 13, 14, 15, 16, 2, 3, 4] rfl
          have hD := hD.sub (ws' := (ws_camr_scene_row24 cI cC cZ cR cm cm1 cm2 cm3 sc sea th th1 th2 th3 th4 th5 th6 th7 th8 th9 pi pia orw r10 se mn ln hi wi br sp si le un ul px tm ps ft fk v7)) [5, 6, 0, 1, 7, 8, 9, 10, 11, 12, 13, 14, 15, 16, 2, 3, 4] (by decide) rfl
          generalize H1 = H at hP hS ⊢
          refine lv_aload_n hx hb dX0_exposeLine_42 rfl (lv_at hl 1 rfl) ?_
          refine lv_iload hx hb dX0_exposeLine_43 (lv_at hl 0 rfl) ?_
          refine lv_aload hx hb dX0_exposeLine_45 (lv_at hl 6 rfl) ?_
          obtain ⟨r11, hcr11, h⟩ := bn_sp h
          have hPc := hP.sub (ws' := (ws_camr_row24 cI cC cZ cR cm cm1 cm2 cm3 orw r10 v7)) [0, 1, 16] rfl
          have hDc := hD.sub (ws' := (ws_camr_row24 cI cC cZ cR cm cm1 cm2 cm3 orw r10 v7)) [0, 1, 16] (by decide) rfl
          have hFc := va_free (wc := (ws_camr_row24 cI cC cZ cR cm cm1 cm2 cm3 orw r10 v7)) hD hS hA [0, 1, 16] rfl
          refine va_callv (va_runV (As := [.int r8, .ref orw]) (rest := []) ⟨hx, hb, hml, hown, hts⟩ (m_X0_addLight l D cI cC cZ cR cm cm1 cm2 cm3 orw _ r10 v7 r8   r11 hcr11) (cwV 2 hts gX0_exposeLine_X0_addLight rfl rfl rfl (by decide +kernel) ⟨Nat.le_of_ble_eq_true rfl, Nat.le_of_ble_eq_true rfl⟩) (cPc_pv hPc hK hDc (ci := 0) (q0 := 0) rfl rfl) rfl rfl hl.1 rfl (lv_room (Nat.le_of_ble_eq_true rfl)) dX0_exposeLine_47 ⟨Nat.le_of_ble_eq_true rfl, Nat.le_of_ble_eq_true rfl⟩) hS (fun q _ h => hFc q h) hFc (fun u t H1 locs ht hvm hw hB hz1 hk1 hS => ?_)
          obtain ⟨hP1, hD1⟩ := hB
          rw [ht] at hP1
          obtain ⟨hP, hD⟩ := va_join (wr := [(sc, .inr (5, [.ref sea, .ref th, .ref pi, .int tm, .int ps, .int ft, .int fk])), (sea, .inl (cI, 4, .inl se)), (th, .inr (6, [.int mn, .ref th1, .ref th2, .ref th3, .ref th4, .ref th5, .ref th6, .ref th7, .ref th8, .ref th9])), (th1, .inl (cI, 8, .inl ln)), (th2, .inl (cI, 8, .inl hi)), (th3, .inl (cI, 8, .inl wi)), (th4, .inl (cI, 8, .inl br)), (th5, .inl (cI, 8, .inl sp)), (th6, .inl (cI, 8, .inl si)), (th7, .inl (cI, 8, .inl le)), (th8, .inl (cI, 8, .inl un)), (th9, .inl (cI, 8, .inl ul)), (pi, .inr (3, [.ref pia])), (pia, .inl (cI, 384, .inl px))]) (w1 := (ws_camr_row24 cI cC cZ cR cm cm1 cm2 cm3 orw r10 r11)) hP hD [0, 1, 16] [2, 3, 4, 5, 6, 7, 8, 9, 10, 11, 12, 13, 14, 15] rfl rfl (by decide) (by decide) hk1 hFc hP1 hD1
          have hP := hP.sub (ws' := (ws_camr_scene_row24 cI cC cZ cR cm cm1 cm2 cm3 sc sea th th1 th2 th3 th4 th5 th6 th7 th8 th9 pi pia orw r10 se mn ln hi wi br sp si le un ul px tm ps ft fk r11)) [14, 15, 0, 1, 2, 3, 4, 5, 6, 7, 8, 9, 10, 11, 12, 13, 16] rfl
          have hD := hD.sub (ws' := (ws_camr_scene_row24 cI cC cZ cR cm cm1 cm2 cm3 sc sea th th1 th2 th3 th4 th5 th6 th7 th8 th9 pi pia orw r10 se mn ln hi wi br sp si le un ul px tm ps ft fk r11)) [14, 15, 0, 1, 2, 3, 4, 5, 6, 7, 8, 9, 10, 11, 12, 13, 16] (by decide) rfl
          generalize H1 = H at hP hS ⊢
          obtain ⟨x12, ex12, h⟩ := bd_sp h
          refine lv_iinc (v := x12) (lv' := [(6, .int x12), (7, .int r8), (0, .ref cm), (1, .ref sc), (2, .int a1), (3, .int a2), (4, .int a3), (5, .ref orw)]) hx hb dX0_exposeLine_50 hl (k := 7) rfl (by rw [ex12]; rfl) (by decide) rfl (fun ls hl => ?_)
          refine lv_goto (tgt := 9) hx hb dX0_exposeLine_53 (by decide) ?_
          exact ih _ _ _ _ _ _ h hP hD hS (lv_sub hl [2, 3, 4, 5, 6, 7, 0] rfl)
  refine L9 _ (fun w15 w16 w17 H locs ls h hP hD hS hl => ?_) 4000 a2 ris r1 _ _ _ h hP hD hS (lv_sub hl [1, 2, 3, 4, 5, 6, 0] rfl)
  have e9 := Option.some.inj h
  subst e9
  rw [hQ]
  exact W.vret hx hb hr (fun t ht hW => ⟨⟨(), rfl, trivial, by rw [ht]; exact hP, hD⟩, hS.F ht⟩) hS.2.2 dX0_exposeLine_56
-- LeaningLines$Camera.takePicture
abbrev OUT_X0_takePicture : Type := (Nat → Int32) × (Nat → Int32) × Int32 × Int32 × (Nat → Int32)
def f_X0_takePicture_L2 (se : Nat → Int32) (mn : Int32) (ln : Nat → Int32) (hi : Nat → Int32) (wi : Nat → Int32) (br : Nat → Int32) (sp : Nat → Int32) (si : Nat → Int32) (le : Nat → Int32) (un : Nat → Int32) (ul : Nat → Int32) (tm : Int32) (ft : Int32) (fk : Int32) (k : Int32 → (Nat → Int32) → (Nat → Int32) → (Nat → Int32) → Option OUT_X0_takePicture) : Nat → Int32 → (Nat → Int32) → (Nat → Int32) → (Nat → Int32) → Option OUT_X0_takePicture
  | 0 => fun _ _ _ _ => none
  | n + 1 => fun v5 v6 v7 v8 => (if 16 ≤ v5 then k v5 v6 v7 v8 else bn (f_X5_beginOf se tm v5) (fun r9 => gd 1 4 (bn (f_X0_exposeLine v7 se mn ln hi wi br sp si le un ul ft fk v6 v5 r9 (se (1 : Int32).toNatClampNeg)) (fun r10 => bn (f_X3_putLine v8 r10.2 v5) (fun r11 => bd (v5 + 1) (fun x12 => f_X0_takePicture_L2 se mn ln hi wi br sp si le un ul tm ft fk k n x12 r10.2 r10.1 r11))))))
theorem f_X0_takePicture_L2_s (se : Nat → Int32) (mn : Int32) (ln : Nat → Int32) (hi : Nat → Int32) (wi : Nat → Int32) (br : Nat → Int32) (sp : Nat → Int32) (si : Nat → Int32) (le : Nat → Int32) (un : Nat → Int32) (ul : Nat → Int32) (tm : Int32) (ft : Int32) (fk : Int32) (k : Int32 → (Nat → Int32) → (Nat → Int32) → (Nat → Int32) → Option OUT_X0_takePicture) (n : Nat) (v5 : Int32) (v6 : Nat → Int32) (v7 : Nat → Int32) (v8 : Nat → Int32) : f_X0_takePicture_L2 se mn ln hi wi br sp si le un ul tm ft fk k (n + 1) v5 v6 v7 v8 = ((if 16 ≤ v5 then k v5 v6 v7 v8 else bn (f_X5_beginOf se tm v5) (fun r9 => gd 1 4 (bn (f_X0_exposeLine v7 se mn ln hi wi br sp si le un ul ft fk v6 v5 r9 (se (1 : Int32).toNatClampNeg)) (fun r10 => bn (f_X3_putLine v8 r10.2 v5) (fun r11 => bd (v5 + 1) (fun x12 => f_X0_takePicture_L2 se mn ln hi wi br sp si le un ul tm ft fk k n x12 r10.2 r10.1 r11))))))) := rfl
def f_X0_takePicture (lea : Nat → Int32) (ris : Nat → Int32) (se : Nat → Int32) (mn : Int32) (ln : Nat → Int32) (hi : Nat → Int32) (wi : Nat → Int32) (br : Nat → Int32) (sp : Nat → Int32) (si : Nat → Int32) (le : Nat → Int32) (un : Nat → Int32) (ul : Nat → Int32) (px : Nat → Int32) (tm : Int32) (ps : Int32) (ft : Int32) (fk : Int32) : Option OUT_X0_takePicture :=
  f_X0_takePicture_L2 se mn ln hi wi br sp si le un ul tm ft fk (fun (w14 : Int32) (w15 : Nat → Int32) (w16 : Nat → Int32) (w17 : Nat → Int32) => bn (f_X5_endOfPicture se tm) (fun r18 => some (w15, w16, r18, ps + 1, w17))) 4000 0 lea ris px
theorem uX0_takePicture_X5 : ∀ w ∈ wsX50, w ∈ wsX0_takePicture := by decide +kernel
theorem kX0_takePicture_1 : Cond.fieldLink RX0 27 "LeaningLines$Scene" "settings" "[I" ∈ wsX0_takePicture := by decide +kernel
theorem uX0_takePicture_X0 : ∀ w ∈ wsX00, w ∈ wsX0_takePicture := by decide +kernel
theorem kX0_takePicture_3 : Cond.fieldLink RX0 9 "LeaningLines$Camera" "leaning" "[I" ∈ wsX0_takePicture := by decide +kernel
theorem kX0_takePicture_4 : Cond.fieldLink RX0 34 "LeaningLines$Scene" "picture" "LLeaningLines$Picture;" ∈ wsX0_takePicture := by decide +kernel
theorem kX0_takePicture_5 : Cond.fieldLink RX0 48 "LeaningLines$Scene" "time" "I" ∈ wsX0_takePicture := by decide +kernel
theorem kX0_takePicture_6 : Cond.fieldLink RX0 52 "LeaningLines$Scene" "pictures" "I" ∈ wsX0_takePicture := by decide +kernel
abbrev R_X0_takePicture : Room := { frames := 4, cells := 0, slots := 0, locals := 99 }
set_option maxHeartbeats 4000000 in
set_option maxRecDepth 100000 in
theorem m_X0_takePicture (l : Launch) (D : va_G) (cI cC cZ cR : ClassId) (cm cm1 cm2 cm3 sc sea th th1 th2 th3 th4 th5 th6 th7 th8 th9 pi pia : Nat) (sz : Nat) (lea : Nat → Int32) (upr : Nat → Int32) (ris : Nat → Int32) (se : Nat → Int32) (mn : Int32) (ln : Nat → Int32) (hi : Nat → Int32) (wi : Nat → Int32) (br : Nat → Int32) (sp : Nat → Int32) (si : Nat → Int32) (le : Nat → Int32) (un : Nat → Int32) (ul : Nat → Int32) (px : Nat → Int32) (tm : Int32) (ps : Int32) (ft : Int32) (fk : Int32)     (r : OUT_X0_takePicture) (hf : f_X0_takePicture lea ris se mn ln hi wi br sp si le un ul px tm ps ft fk = some r) : Met l yX0_takePicture wsX0_takePicture R_X0_takePicture (cPc D cI cC cZ cR [.ref cm, .ref sc] sz (ws_camera_scene cI cC cZ cR cm cm1 cm2 cm3 sc sea th th1 th2 th3 th4 th5 th6 th7 th8 th9 pi pia lea upr ris se mn ln hi wi br sp si le un ul px tm ps ft fk)) (cQv D (ws_camera_scene cI cC cZ cR cm cm1 cm2 cm3 sc sea th th1 th2 th3 th4 th5 th6 th7 th8 th9 pi pia r.1 upr r.2.1 se mn ln hi wi br sp si le un ul r.2.2.2.2 r.2.2.1 r.2.2.2.1 ft fk) (va_A (ws_camera_scene cI cC cZ cR cm cm1 cm2 cm3 sc sea th th1 th2 th3 th4 th5 th6 th7 th8 th9 pi pia lea upr ris se mn ln hi wi br sp si le un ul px tm ps ft fk) sz)) 0 0 (va_A (ws_camera_scene cI cC cZ cR cm cm1 cm2 cm3 sc sea th th1 th2 th3 th4 th5 th6 th7 th8 th9 pi pia lea upr ris se mn ln hi wi br sp si le un ul px tm ps ft fk) sz) := by
  refine Met.ofW (cc := cX0_takePicture) (maxL := 3) (ret := none) (by decide) rfl ?_
  intro p e s m args below meth c s₁ B hml hv
  obtain ⟨rfl, hsz, hP, hK, hD0⟩ := hv
  have hx := B.exec
  have hb := B.bytes
  have hr := B.returns
  have hts := atoms_spec (ws := wsX0_takePicture) B.pre
  have hown : s.vm.findClass RX0 = some m.cls := findClass_of_methodNamed B.named
  have hlocks := B.notSynchronized
  subst hsz
  have hD := hD0.self (sz := s.heap.size)
  generalize hAe : va_A (ws_camera_scene cI cC cZ cR cm cm1 cm2 cm3 sc sea th th1 th2 th3 th4 th5 th6 th7 th8 th9 pi pia lea upr ris se mn ln hi wi br sp si le un ul px tm ps ft fk) s.heap.size = A at hD ⊢
  skip
  have hA : ∀ q : Nat, s.heap.size ≤ q → A q := fun q h => by rw [← hAe]; exact Or.inr h
  have hS : va_S A s.heap s.heap [] := va_S.rf
  have hl := lv_entry ([.ref cm, .ref sc]) (n := 3) (Nat.le_of_ble_eq_true rfl)
  rw [lg_entry_eq]
  generalize (lg_sl ([.ref cm, .ref sc]) ++ List.replicate (3 - (lg_sl ([.ref cm, .ref sc])).length) Slot.unset).toArray = ls at hl ⊢
  have hl : lv_has ls 3 [(0, .ref cm), (1, .ref sc)] := hl
  refine W_absQ (fun Q hQ => ?_)
  refine W.eq (g2 := F0 m 0 ls []) rfl ?_
  have h := hf
  unfold f_X0_takePicture at h
  refine lv_iconst (v := 0) hx hb dX0_takePicture_0 (by decide) ?_
  refine lv_istore_n (lv' := [(2, .int 0), (0, .ref cm), (1, .ref sc)]) hx hb dX0_takePicture_1 rfl hl (by decide) rfl (fun ls hl => ?_)
  have L2 : ∀ (k : Int32 → (Nat → Int32) → (Nat → Int32) → (Nat → Int32) → Option OUT_X0_takePicture), (∀ (w14 : Int32) (w15 : Nat → Int32) (w16 : Nat → Int32) (w17 : Nat → Int32) (H : Heap) (locs : List Loc) (ls : Array Slot), k w14 w15 w16 w17 = some r → va_P D vwCl (ws_camera_scene cI cC cZ cR cm cm1 cm2 cm3 sc sea th th1 th2 th3 th4 th5 th6 th7 th8 th9 pi pia w15 upr w16 se mn ln hi wi br sp si le un ul w17 tm ps ft fk) H → va_D A (ws_camera_scene cI cC cZ cR cm cm1 cm2 cm3 sc sea th th1 th2 th3 th4 th5 th6 th7 th8 th9 pi pia w15 upr w16 se mn ln hi wi br sp si le un ul w17 tm ps ft fk) → va_S A s.heap H locs → lv_has ls 3 [(0, .ref cm), (1, .ref sc), (2, .int w14)] → W p l e R_X0_takePicture s m ([.ref cm, .ref sc] : List Value).toArray below meth c H locs 0 0 Q (F0 m 47 ls [])) → ∀ (n : Nat) (v5 : Int32) (v6 : Nat → Int32) (v7 : Nat → Int32) (v8 : Nat → Int32) (H : Heap) (locs : List Loc) (ls : Array Slot), f_X0_takePicture_L2 se mn ln hi wi br sp si le un ul tm ft fk k n v5 v6 v7 v8 = some r → va_P D vwCl (ws_camera_scene cI cC cZ cR cm cm1 cm2 cm3 sc sea th th1 th2 th3 th4 th5 th6 th7 th8 th9 pi pia v6 upr v7 se mn ln hi wi br sp si le un ul v8 tm ps ft fk) H → va_D A (ws_camera_scene cI cC cZ cR cm cm1 cm2 cm3 sc sea th th1 th2 th3 th4 th5 th6 th7 th8 th9 pi pia v6 upr v7 se mn ln hi wi br sp si le un ul v8 tm ps ft fk) → va_S A s.heap H locs → lv_has ls 3 [(0, .ref cm), (1, .ref sc), (2, .int v5)] → W p l e R_X0_takePicture s m ([.ref cm, .ref sc] : List Value).toArray below meth c H locs 0 0 Q (F0 m 2 ls []) := by
    intro k K n
    induction n with
    | zero => intro v5 v6 v7 v8 H locs ls h; exact no_sm h
    | succ n ih =>
      intro v5 v6 v7 v8 H locs ls h hP hD hS hl
      rw [f_X0_takePicture_L2_s] at h
      refine lv_iload_n hx hb dX0_takePicture_2 rfl (lv_at hl 2 rfl) ?_
      refine lv_bipush (v := 16) hx hb dX0_takePicture_3 (by decide) ?_
      refine lv_icmp_ge (tgt := 47) hx hb dX0_takePicture_5 (by decide) (fun c13 => ?_) (fun c13 => ?_)
      · replace h := br_p c13 h
        exact K _ _ _ _ _ _ _ h hP hD hS (lv_sub hl [0, 1, 2] rfl)
      · replace h := br_n c13 h
        refine lv_aload_n hx hb dX0_takePicture_8 rfl (lv_at hl 0 rfl) ?_
        refine lv_aload_n hx hb dX0_takePicture_9 rfl (lv_at hl 1 rfl) ?_
        refine lv_iload_n hx hb dX0_takePicture_10 rfl (lv_at hl 2 rfl) ?_
        refine lv_aload_n hx hb dX0_takePicture_11 rfl (lv_at hl 1 rfl) ?_
        refine lv_iload_n hx hb dX0_takePicture_12 rfl (lv_at hl 2 rfl) ?_
        obtain ⟨r9, hcr9, h⟩ := bn_sp h
        have hPc := hP.sub (ws' := (ws_scene cI cC cZ cR sc sea th th1 th2 th3 th4 th5 th6 th7 th8 th9 pi pia se mn ln hi wi br sp si le un ul v8 tm ps ft fk)) [4, 5, 6, 7, 8, 9, 10, 11, 12, 13, 14, 15, 16, 17] rfl
        have hDc := hD.sub (ws' := (ws_scene cI cC cZ cR sc sea th th1 th2 th3 th4 th5 th6 th7 th8 th9 pi pia se mn ln hi wi br sp si le un ul v8 tm ps ft fk)) [4, 5, 6, 7, 8, 9, 10, 11, 12, 13, 14, 15, 16, 17] (by decide) rfl
        have hFc := va_free (wc := (ws_scene cI cC cZ cR sc sea th th1 th2 th3 th4 th5 th6 th7 th8 th9 pi pia se mn ln hi wi br sp si le un ul v8 tm ps ft fk)) hD hS hA [4, 5, 6, 7, 8, 9, 10, 11, 12, 13, 14, 15, 16, 17] rfl
        refine va_calli (va_runV (As := [.int v5]) (rest := [.int v5, .ref sc, .ref cm]) ⟨hx, hb, hml, hown, hts⟩ (m_X5_beginOf l D cI cC cZ cR sc sea th th1 th2 th3 th4 th5 th6 th7 th8 th9 pi pia _ se mn ln hi wi br sp si le un ul v8 tm ps ft fk v5   r9 hcr9) (cwV 1 hts gX0_takePicture_X5_beginOf rfl rfl rfl (by decide +kernel) ⟨Nat.le_of_ble_eq_true rfl, Nat.le_of_ble_eq_true rfl⟩) (cPc_pv hPc hK hDc (ci := 5) (q0 := 0) rfl rfl) rfl rfl hl.1 rfl (lv_room (Nat.le_of_ble_eq_true rfl)) dX0_takePicture_13 ⟨Nat.le_of_ble_eq_true rfl, Nat.le_of_ble_eq_true rfl⟩) hS (fun q _ h => hFc q h) hFc (fun xq u t H1 locs ht hvm hw hB hz1 hk1 hS => ?_)
        rw [hw]
        obtain ⟨hP1, hD1⟩ := hB
        rw [ht] at hP1
        obtain ⟨hP, hD⟩ := va_join (wr := [(cm, .inr (0, [.ref cm1, .ref cm2, .ref cm3])), (cm1, .inl (cI, 24, .inl v6)), (cm2, .inl (cI, 24, .inl upr)), (cm3, .inl (cI, 25, .inl v7))]) (w1 := (ws_scene cI cC cZ cR sc sea th th1 th2 th3 th4 th5 th6 th7 th8 th9 pi pia se mn ln hi wi br sp si le un ul v8 tm ps ft fk)) hP hD [4, 5, 6, 7, 8, 9, 10, 11, 12, 13, 14, 15, 16, 17] [0, 1, 2, 3] rfl rfl (by decide) (by decide) hk1 hFc hP1 hD1
        generalize H1 = H at hP hS ⊢
        have hP : va_P D vwCl (ws_camera_scene cI cC cZ cR cm cm1 cm2 cm3 sc sea th th1 th2 th3 th4 th5 th6 th7 th8 th9 pi pia v6 upr v7 se mn ln hi wi br sp si le un ul v8 tm ps ft fk) H := hP
        have hD : va_D A (ws_camera_scene cI cC cZ cR cm cm1 cm2 cm3 sc sea th th1 th2 th3 th4 th5 th6 th7 th8 th9 pi pia v6 upr v7 se mn ln hi wi br sp si le un ul v8 tm ps ft fk) := hD
        refine lv_aload_n hx hb dX0_takePicture_16 rfl (lv_at hl 1 rfl) ?_
        refine va_get (D := D) (ci := 5) (v := .ref sea) (C := RX5) (T := TX5) (N := 7) hx hb hts uX0_takePicture_X5 hown hK.1 hP 4 rfl rfl 0 (by decide) (hts _ kX0_takePicture_1) (fun _ h9 => h9) rfl dX0_takePicture_17 ?_
        refine lv_iconst (v := 1) hx hb dX0_takePicture_20 (by decide) ?_
        obtain ⟨hin, h⟩ := gd_sp h
        refine va_iald (D := D) hx hb hK.1 hP 5 0 rfl rfl hin dX0_takePicture_21 ?_
        refine lv_aload_n hx hb dX0_takePicture_22 rfl (lv_at hl 0 rfl) ?_
        refine va_get (D := D) (ci := 0) (v := .ref cm1) (C := RX0) (T := TX0) (N := 3) hx hb hts uX0_takePicture_X0 hown hK.1 hP 0 rfl rfl 0 (by decide) (hts _ kX0_takePicture_3) (fun _ h9 => h9) rfl dX0_takePicture_23 ?_
        obtain ⟨r10, hcr10, h⟩ := bn_sp h
        have hPc := hP.sub (ws' := (ws_camr_scene_row24 cI cC cZ cR cm cm1 cm2 cm3 sc sea th th1 th2 th3 th4 th5 th6 th7 th8 th9 pi pia cm1 v7 se mn ln hi wi br sp si le un ul v8 tm ps ft fk v6)) [0, 3, 4, 5, 6, 7, 8, 9, 10, 11, 12, 13, 14, 15, 16, 17, 1] rfl
        have hDc := hD.sub (ws' := (ws_camr_scene_row24 cI cC cZ cR cm cm1 cm2 cm3 sc sea th th1 th2 th3 th4 th5 th6 th7 th8 th9 pi pia cm1 v7 se mn ln hi wi br sp si le un ul v8 tm ps ft fk v6)) [0, 3, 4, 5, 6, 7, 8, 9, 10, 11, 12, 13, 14, 15, 16, 17, 1] (by decide) rfl
        have hFc := va_free (wc := (ws_camr_scene_row24 cI cC cZ cR cm cm1 cm2 cm3 sc sea th th1 th2 th3 th4 th5 th6 th7 th8 th9 pi pia cm1 v7 se mn ln hi wi br sp si le un ul v8 tm ps ft fk v6)) hD hS hA [0, 3, 4, 5, 6, 7, 8, 9, 10, 11, 12, 13, 14, 15, 16, 17, 1] rfl
        refine va_callv (va_runV (As := [.ref sc, .int v5, .int r9, .int (se (1 : Int32).toNatClampNeg), .ref cm1]) (rest := []) ⟨hx, hb, hml, hown, hts⟩ (m_X0_exposeLine l D cI cC cZ cR cm cm1 cm2 cm3 sc sea th th1 th2 th3 th4 th5 th6 th7 th8 th9 pi pia cm1 _ v7 se mn ln hi wi br sp si le un ul v8 tm ps ft fk v6 v5 r9 (se (1 : Int32).toNatClampNeg)   r10 hcr10) (cwV 5 hts gX0_takePicture_X0_exposeLine rfl rfl rfl (by decide +kernel) ⟨Nat.le_of_ble_eq_true rfl, Nat.le_of_ble_eq_true rfl⟩) (cPc_pv hPc hK hDc (ci := 0) (q0 := 0) rfl rfl) rfl rfl hl.1 rfl (lv_room (Nat.le_of_ble_eq_true rfl)) dX0_takePicture_26 ⟨Nat.le_of_ble_eq_true rfl, Nat.le_of_ble_eq_true rfl⟩) hS (fun q _ h => hFc q h) hFc (fun u t H1 locs ht hvm hw hB hz1 hk1 hS => ?_)
        obtain ⟨hP1, hD1⟩ := hB
        rw [ht] at hP1
        obtain ⟨hP, hD⟩ := va_join (wr := [(cm2, .inl (cI, 24, .inl upr))]) (w1 := (ws_camr_scene_row24 cI cC cZ cR cm cm1 cm2 cm3 sc sea th th1 th2 th3 th4 th5 th6 th7 th8 th9 pi pia cm1 r10.1 se mn ln hi wi br sp si le un ul v8 tm ps ft fk r10.2)) hP hD [0, 3, 4, 5, 6, 7, 8, 9, 10, 11, 12, 13, 14, 15, 16, 17, 1] [2] rfl rfl (by decide) (by decide) hk1 hFc hP1 hD1
        have hP := hP.sub (ws' := (ws_camera_scene cI cC cZ cR cm cm1 cm2 cm3 sc sea th th1 th2 th3 th4 th5 th6 th7 th8 th9 pi pia r10.2 upr r10.1 se mn ln hi wi br sp si le un ul v8 tm ps ft fk)) [1, 17, 0, 2, 3, 4, 5, 6, 7, 8, 9, 10, 11, 12, 13, 14, 15, 16] rfl
        have hD := hD.sub (ws' := (ws_camera_scene cI cC cZ cR cm cm1 cm2 cm3 sc sea th th1 th2 th3 th4 th5 th6 th7 th8 th9 pi pia r10.2 upr r10.1 se mn ln hi wi br sp si le un ul v8 tm ps ft fk)) [1, 17, 0, 2, 3, 4, 5, 6, 7, 8, 9, 10, 11, 12, 13, 14, 15, 16] (by decide) rfl
        generalize H1 = H at hP hS ⊢
        refine lv_aload_n hx hb dX0_takePicture_29 rfl (lv_at hl 1 rfl) ?_
        refine va_get (D := D) (ci := 5) (v := .ref pi) (C := RX5) (T := TX5) (N := 7) hx hb hts uX0_takePicture_X5 hown hK.1 hP 4 rfl rfl 2 (by decide) (hts _ kX0_takePicture_4) (fun _ h9 => h9) rfl dX0_takePicture_30 ?_
        refine lv_iload_n hx hb dX0_takePicture_33 rfl (lv_at hl 2 rfl) ?_
        refine lv_aload_n hx hb dX0_takePicture_34 rfl (lv_at hl 0 rfl) ?_
        refine va_get (D := D) (ci := 0) (v := .ref cm1) (C := RX0) (T := TX0) (N := 3) hx hb hts uX0_takePicture_X0 hown hK.1 hP 0 rfl rfl 0 (by decide) (hts _ kX0_takePicture_3) (fun _ h9 => h9) rfl dX0_takePicture_35 ?_
        obtain ⟨r11, hcr11, h⟩ := bn_sp h
        have hPc := hP.sub (ws' := (ws_picture_row24 cI cC cZ cR pi pia cm1 v8 r10.2)) [16, 17, 1] rfl
        have hDc := hD.sub (ws' := (ws_picture_row24 cI cC cZ cR pi pia cm1 v8 r10.2)) [16, 17, 1] (by decide) rfl
        have hFc := va_free (wc := (ws_picture_row24 cI cC cZ cR pi pia cm1 v8 r10.2)) hD hS hA [16, 17, 1] rfl
        refine va_callv (va_runV (As := [.int v5, .ref cm1]) (rest := []) ⟨hx, hb, hml, hown, hts⟩ (m_X3_putLine l D cI cC cZ cR pi pia cm1 _ v8 r10.2 v5   r11 hcr11) (cwV 2 hts gX0_takePicture_X3_putLine rfl rfl rfl (by decide +kernel) ⟨Nat.le_of_ble_eq_true rfl, Nat.le_of_ble_eq_true rfl⟩) (cPc_pv hPc hK hDc (ci := 3) (q0 := 0) rfl rfl) rfl rfl hl.1 rfl (lv_room (Nat.le_of_ble_eq_true rfl)) dX0_takePicture_38 ⟨Nat.le_of_ble_eq_true rfl, Nat.le_of_ble_eq_true rfl⟩) hS (fun q _ h => hFc q h) hFc (fun u t H1 locs ht hvm hw hB hz1 hk1 hS => ?_)
        obtain ⟨hP1, hD1⟩ := hB
        rw [ht] at hP1
        obtain ⟨hP, hD⟩ := va_join (wr := [(cm, .inr (0, [.ref cm1, .ref cm2, .ref cm3])), (cm2, .inl (cI, 24, .inl upr)), (cm3, .inl (cI, 25, .inl r10.1)), (sc, .inr (5, [.ref sea, .ref th, .ref pi, .int tm, .int ps, .int ft, .int fk])), (sea, .inl (cI, 4, .inl se)), (th, .inr (6, [.int mn, .ref th1, .ref th2, .ref th3, .ref th4, .ref th5, .ref th6, .ref th7, .ref th8, .ref th9])), (th1, .inl (cI, 8, .inl ln)), (th2, .inl (cI, 8, .inl hi)), (th3, .inl (cI, 8, .inl wi)), (th4, .inl (cI, 8, .inl br)), (th5, .inl (cI, 8, .inl sp)), (th6, .inl (cI, 8, .inl si)), (th7, .inl (cI, 8, .inl le)), (th8, .inl (cI, 8, .inl un)), (th9, .inl (cI, 8, .inl ul))]) (w1 := (ws_picture_row24 cI cC cZ cR pi pia cm1 r11 r10.2)) hP hD [16, 17, 1] [0, 2, 3, 4, 5, 6, 7, 8, 9, 10, 11, 12, 13, 14, 15] rfl rfl (by decide) (by decide) hk1 hFc hP1 hD1
        have hP := hP.sub (ws' := (ws_camera_scene cI cC cZ cR cm cm1 cm2 cm3 sc sea th th1 th2 th3 th4 th5 th6 th7 th8 th9 pi pia r10.2 upr r10.1 se mn ln hi wi br sp si le un ul r11 tm ps ft fk)) [0, 17, 1, 2, 3, 4, 5, 6, 7, 8, 9, 10, 11, 12, 13, 14, 15, 16] rfl
        have hD := hD.sub (ws' := (ws_camera_scene cI cC cZ cR cm cm1 cm2 cm3 sc sea th th1 th2 th3 th4 th5 th6 th7 th8 th9 pi pia r10.2 upr r10.1 se mn ln hi wi br sp si le un ul r11 tm ps ft fk)) [0, 17, 1, 2, 3, 4, 5, 6, 7, 8, 9, 10, 11, 12, 13, 14, 15, 16] (by decide) rfl
        generalize H1 = H at hP hS ⊢
        obtain ⟨x12, ex12, h⟩ := bd_sp h
        refine lv_iinc (v := x12) (lv' := [(2, .int x12), (0, .ref cm), (1, .ref sc)]) hx hb dX0_takePicture_41 hl (k := 2) rfl (by rw [ex12]; rfl) (by decide) rfl (fun ls hl => ?_)
        refine lv_goto (tgt := 2) hx hb dX0_takePicture_44 (by decide) ?_
        exact ih _ _ _ _ _ _ _ h hP hD hS (lv_sub hl [1, 2, 0] rfl)
  refine L2 _ (fun w14 w15 w16 w17 H locs ls h hP hD hS hl => ?_) 4000 0 lea ris px _ _ _ h hP hD hS (lv_sub hl [1, 2, 0] rfl)
  refine lv_aload_n hx hb dX0_takePicture_47 rfl (lv_at hl 1 rfl) ?_
  refine lv_aload_n hx hb dX0_takePicture_48 rfl (lv_at hl 1 rfl) ?_
  obtain ⟨r18, hcr18, h⟩ := bn_sp h
  have hPc := hP.sub (ws' := (ws_scene cI cC cZ cR sc sea th th1 th2 th3 th4 th5 th6 th7 th8 th9 pi pia se mn ln hi wi br sp si le un ul w17 tm ps ft fk)) [4, 5, 6, 7, 8, 9, 10, 11, 12, 13, 14, 15, 16, 17] rfl
  have hDc := hD.sub (ws' := (ws_scene cI cC cZ cR sc sea th th1 th2 th3 th4 th5 th6 th7 th8 th9 pi pia se mn ln hi wi br sp si le un ul w17 tm ps ft fk)) [4, 5, 6, 7, 8, 9, 10, 11, 12, 13, 14, 15, 16, 17] (by decide) rfl
  have hFc := va_free (wc := (ws_scene cI cC cZ cR sc sea th th1 th2 th3 th4 th5 th6 th7 th8 th9 pi pia se mn ln hi wi br sp si le un ul w17 tm ps ft fk)) hD hS hA [4, 5, 6, 7, 8, 9, 10, 11, 12, 13, 14, 15, 16, 17] rfl
  refine va_calli (va_runV (As := []) (rest := [.ref sc]) ⟨hx, hb, hml, hown, hts⟩ (m_X5_endOfPicture l D cI cC cZ cR sc sea th th1 th2 th3 th4 th5 th6 th7 th8 th9 pi pia _ se mn ln hi wi br sp si le un ul w17 tm ps ft fk    r18 hcr18) (cwV 0 hts gX0_takePicture_X5_endOfPicture rfl rfl rfl (by decide +kernel) ⟨Nat.le_of_ble_eq_true rfl, Nat.le_of_ble_eq_true rfl⟩) (cPc_pv hPc hK hDc (ci := 5) (q0 := 0) rfl rfl) rfl rfl hl.1 rfl (lv_room (Nat.le_of_ble_eq_true rfl)) dX0_takePicture_49 ⟨Nat.le_of_ble_eq_true rfl, Nat.le_of_ble_eq_true rfl⟩) hS (fun q _ h => hFc q h) hFc (fun xq u t H1 locs ht hvm hw hB hz1 hk1 hS => ?_)
  rw [hw]
  obtain ⟨hP1, hD1⟩ := hB
  rw [ht] at hP1
  obtain ⟨hP, hD⟩ := va_join (wr := [(cm, .inr (0, [.ref cm1, .ref cm2, .ref cm3])), (cm1, .inl (cI, 24, .inl w15)), (cm2, .inl (cI, 24, .inl upr)), (cm3, .inl (cI, 25, .inl w16))]) (w1 := (ws_scene cI cC cZ cR sc sea th th1 th2 th3 th4 th5 th6 th7 th8 th9 pi pia se mn ln hi wi br sp si le un ul w17 tm ps ft fk)) hP hD [4, 5, 6, 7, 8, 9, 10, 11, 12, 13, 14, 15, 16, 17] [0, 1, 2, 3] rfl rfl (by decide) (by decide) hk1 hFc hP1 hD1
  generalize H1 = H at hP hS ⊢
  have hP : va_P D vwCl (ws_camera_scene cI cC cZ cR cm cm1 cm2 cm3 sc sea th th1 th2 th3 th4 th5 th6 th7 th8 th9 pi pia w15 upr w16 se mn ln hi wi br sp si le un ul w17 tm ps ft fk) H := hP
  have hD : va_D A (ws_camera_scene cI cC cZ cR cm cm1 cm2 cm3 sc sea th th1 th2 th3 th4 th5 th6 th7 th8 th9 pi pia w15 upr w16 se mn ln hi wi br sp si le un ul w17 tm ps ft fk) := hD
  refine va_put (D := D) (ci := 5) (v := .int r18) (ty := .int) (C := RX5) (T := TX5) (N := 7) hx hb hts uX0_takePicture_X5 tyX5 tyX5_ok nmX5 hown hK.1 hP hD hS 4 rfl rfl 3 (by decide) (hts _ kX0_takePicture_5) (fun _ h9 => h9) rfl (by decide +kernel) rfl rfl (Nat.le_of_ble_eq_true rfl) dX0_takePicture_52 (fun H locs hP hD hS => ?_)
  have hP : va_P D vwCl (ws_camera_scene cI cC cZ cR cm cm1 cm2 cm3 sc sea th th1 th2 th3 th4 th5 th6 th7 th8 th9 pi pia w15 upr w16 se mn ln hi wi br sp si le un ul w17 r18 ps ft fk) H := hP
  have hD : va_D A (ws_camera_scene cI cC cZ cR cm cm1 cm2 cm3 sc sea th th1 th2 th3 th4 th5 th6 th7 th8 th9 pi pia w15 upr w16 se mn ln hi wi br sp si le un ul w17 r18 ps ft fk) := hD
  refine lv_aload_n hx hb dX0_takePicture_55 rfl (lv_at hl 1 rfl) ?_
  refine lv_dup hx hb dX0_takePicture_56 rfl ?_
  refine va_get (D := D) (ci := 5) (v := .int ps) (C := RX5) (T := TX5) (N := 7) hx hb hts uX0_takePicture_X5 hown hK.1 hP 4 rfl rfl 4 (by decide) (hts _ kX0_takePicture_6) (fun _ h9 => h9) rfl dX0_takePicture_57 ?_
  refine lv_iconst (v := 1) hx hb dX0_takePicture_60 (by decide) ?_
  refine lv_iadd hx hb dX0_takePicture_61 ?_
  refine va_put (D := D) (ci := 5) (v := .int (ps + 1)) (ty := .int) (C := RX5) (T := TX5) (N := 7) hx hb hts uX0_takePicture_X5 tyX5 tyX5_ok nmX5 hown hK.1 hP hD hS 4 rfl rfl 4 (by decide) (hts _ kX0_takePicture_6) (fun _ h9 => h9) rfl (by decide +kernel) rfl rfl (Nat.le_of_ble_eq_true rfl) dX0_takePicture_62 (fun H locs hP hD hS => ?_)
  have hP : va_P D vwCl (ws_camera_scene cI cC cZ cR cm cm1 cm2 cm3 sc sea th th1 th2 th3 th4 th5 th6 th7 th8 th9 pi pia w15 upr w16 se mn ln hi wi br sp si le un ul w17 r18 (ps + 1) ft fk) H := hP
  have hD : va_D A (ws_camera_scene cI cC cZ cR cm cm1 cm2 cm3 sc sea th th1 th2 th3 th4 th5 th6 th7 th8 th9 pi pia w15 upr w16 se mn ln hi wi br sp si le un ul w17 r18 (ps + 1) ft fk) := hD
  have e9 := Option.some.inj h
  subst e9
  rw [hQ]
  exact W.vret hx hb hr (fun t ht hW => ⟨⟨(), rfl, trivial, by rw [ht]; exact hP, hD⟩, hS.F ht⟩) hS.2.2 dX0_takePicture_65
-- LeaningLines$Camera.pixelsBent
abbrev OUT_X0_pixelsBent : Type := Int32 × (Nat → Int32) × (Nat → Int32) × (Nat → Int32)
def f_X0_pixelsBent_L54 (r12 : OUT_X0_exposeLine) (r13 : OUT_X0_exposeLine) (k : Int32 → Int32 → Option OUT_X0_pixelsBent) : Nat → Int32 → Int32 → Option OUT_X0_pixelsBent
  | 0 => fun _ _ => none
  | n + 1 => fun v16 v17 => (if 24 ≤ v17 then k v16 v17 else gd v17 24 (gd v17 24 ((if (r12.2 v17.toNatClampNeg) = (r13.2 v17.toNatClampNeg) then bd (v17 + 1) (fun x18 => f_X0_pixelsBent_L54 r12 r13 k n v16 x18) else bd (v16 + 1) (fun x19 => bd (v17 + 1) (fun x20 => f_X0_pixelsBent_L54 r12 r13 k n x19 x20))))))
theorem f_X0_pixelsBent_L54_s (r12 : OUT_X0_exposeLine) (r13 : OUT_X0_exposeLine) (k : Int32 → Int32 → Option OUT_X0_pixelsBent) (n : Nat) (v16 : Int32) (v17 : Int32) : f_X0_pixelsBent_L54 r12 r13 k (n + 1) v16 v17 = ((if 24 ≤ v17 then k v16 v17 else gd v17 24 (gd v17 24 ((if (r12.2 v17.toNatClampNeg) = (r13.2 v17.toNatClampNeg) then bd (v17 + 1) (fun x18 => f_X0_pixelsBent_L54 r12 r13 k n v16 x18) else bd (v16 + 1) (fun x19 => bd (v17 + 1) (fun x20 => f_X0_pixelsBent_L54 r12 r13 k n x19 x20))))))) := rfl
def f_X0_pixelsBent_L4 (se : Nat → Int32) (mn : Int32) (ln : Nat → Int32) (hi : Nat → Int32) (wi : Nat → Int32) (br : Nat → Int32) (sp : Nat → Int32) (si : Nat → Int32) (le : Nat → Int32) (un : Nat → Int32) (ul : Nat → Int32) (tm : Int32) (ft : Int32) (fk : Int32) (k : Int32 → Int32 → (Nat → Int32) → (Nat → Int32) → (Nat → Int32) → Option OUT_X0_pixelsBent) : Nat → Int32 → Int32 → (Nat → Int32) → (Nat → Int32) → (Nat → Int32) → Option OUT_X0_pixelsBent
  | 0 => fun _ _ _ _ _ => none
  | n + 1 => fun v6 v7 v8 v9 v10 => (if 16 ≤ v7 then k v6 v7 v8 v9 v10 else bn (f_X5_beginOf se tm v7) (fun r11 => gd 1 4 (bn (f_X0_exposeLine v10 se mn ln hi wi br sp si le un ul ft fk v8 v7 r11 (se (1 : Int32).toNatClampNeg)) (fun r12 => gd 1 4 (bn (f_X0_exposeLine r12.1 se mn ln hi wi br sp si le un ul ft fk v9 v7 tm (se (1 : Int32).toNatClampNeg)) (fun r13 => f_X0_pixelsBent_L54 r12 r13 (fun (w23 : Int32) (w24 : Int32) => bd (v7 + 1) (fun x25 => f_X0_pixelsBent_L4 se mn ln hi wi br sp si le un ul tm ft fk k n w23 x25 r12.2 r13.2 r13.1)) 4000 v6 0))))))
theorem f_X0_pixelsBent_L4_s (se : Nat → Int32) (mn : Int32) (ln : Nat → Int32) (hi : Nat → Int32) (wi : Nat → Int32) (br : Nat → Int32) (sp : Nat → Int32) (si : Nat → Int32) (le : Nat → Int32) (un : Nat → Int32) (ul : Nat → Int32) (tm : Int32) (ft : Int32) (fk : Int32) (k : Int32 → Int32 → (Nat → Int32) → (Nat → Int32) → (Nat → Int32) → Option OUT_X0_pixelsBent) (n : Nat) (v6 : Int32) (v7 : Int32) (v8 : Nat → Int32) (v9 : Nat → Int32) (v10 : Nat → Int32) : f_X0_pixelsBent_L4 se mn ln hi wi br sp si le un ul tm ft fk k (n + 1) v6 v7 v8 v9 v10 = ((if 16 ≤ v7 then k v6 v7 v8 v9 v10 else bn (f_X5_beginOf se tm v7) (fun r11 => gd 1 4 (bn (f_X0_exposeLine v10 se mn ln hi wi br sp si le un ul ft fk v8 v7 r11 (se (1 : Int32).toNatClampNeg)) (fun r12 => gd 1 4 (bn (f_X0_exposeLine r12.1 se mn ln hi wi br sp si le un ul ft fk v9 v7 tm (se (1 : Int32).toNatClampNeg)) (fun r13 => f_X0_pixelsBent_L54 r12 r13 (fun (w23 : Int32) (w24 : Int32) => bd (v7 + 1) (fun x25 => f_X0_pixelsBent_L4 se mn ln hi wi br sp si le un ul tm ft fk k n w23 x25 r12.2 r13.2 r13.1)) 4000 v6 0))))))) := rfl
def f_X0_pixelsBent (lea : Nat → Int32) (upr : Nat → Int32) (ris : Nat → Int32) (se : Nat → Int32) (mn : Int32) (ln : Nat → Int32) (hi : Nat → Int32) (wi : Nat → Int32) (br : Nat → Int32) (sp : Nat → Int32) (si : Nat → Int32) (le : Nat → Int32) (un : Nat → Int32) (ul : Nat → Int32) (tm : Int32) (ft : Int32) (fk : Int32) : Option OUT_X0_pixelsBent :=
  f_X0_pixelsBent_L4 se mn ln hi wi br sp si le un ul tm ft fk (fun (w27 : Int32) (w28 : Int32) (w29 : Nat → Int32) (w30 : Nat → Int32) (w31 : Nat → Int32) => some ((w27, w29, w30, w31))) 4000 0 0 lea upr ris
theorem uX0_pixelsBent_X5 : ∀ w ∈ wsX50, w ∈ wsX0_pixelsBent := by decide +kernel
theorem kX0_pixelsBent_1 : Cond.fieldLink RX0 27 "LeaningLines$Scene" "settings" "[I" ∈ wsX0_pixelsBent := by decide +kernel
theorem uX0_pixelsBent_X0 : ∀ w ∈ wsX00, w ∈ wsX0_pixelsBent := by decide +kernel
theorem kX0_pixelsBent_3 : Cond.fieldLink RX0 9 "LeaningLines$Camera" "leaning" "[I" ∈ wsX0_pixelsBent := by decide +kernel
theorem kX0_pixelsBent_4 : Cond.fieldLink RX0 48 "LeaningLines$Scene" "time" "I" ∈ wsX0_pixelsBent := by decide +kernel
theorem kX0_pixelsBent_5 : Cond.fieldLink RX0 15 "LeaningLines$Camera" "upright" "[I" ∈ wsX0_pixelsBent := by decide +kernel
abbrev R_X0_pixelsBent : Room := { frames := 4, cells := 0, slots := 0, locals := 99 }
set_option maxHeartbeats 4000000 in
set_option maxRecDepth 100000 in
theorem m_X0_pixelsBent (l : Launch) (D : va_G) (cI cC cZ cR : ClassId) (cm cm1 cm2 cm3 sc sea th th1 th2 th3 th4 th5 th6 th7 th8 th9 pi pia : Nat) (sz : Nat) (lea : Nat → Int32) (upr : Nat → Int32) (ris : Nat → Int32) (se : Nat → Int32) (mn : Int32) (ln : Nat → Int32) (hi : Nat → Int32) (wi : Nat → Int32) (br : Nat → Int32) (sp : Nat → Int32) (si : Nat → Int32) (le : Nat → Int32) (un : Nat → Int32) (ul : Nat → Int32) (px : Nat → Int32) (tm : Int32) (ps : Int32) (ft : Int32) (fk : Int32)     (r : OUT_X0_pixelsBent) (hf : f_X0_pixelsBent lea upr ris se mn ln hi wi br sp si le un ul tm ft fk = some r) : Met l yX0_pixelsBent wsX0_pixelsBent R_X0_pixelsBent (cPc D cI cC cZ cR [.ref cm, .ref sc] sz (ws_camera_scene cI cC cZ cR cm cm1 cm2 cm3 sc sea th th1 th2 th3 th4 th5 th6 th7 th8 th9 pi pia lea upr ris se mn ln hi wi br sp si le un ul px tm ps ft fk)) (cQi D (ws_camera_scene cI cC cZ cR cm cm1 cm2 cm3 sc sea th th1 th2 th3 th4 th5 th6 th7 th8 th9 pi pia r.2.1 r.2.2.1 r.2.2.2 se mn ln hi wi br sp si le un ul px tm ps ft fk) (va_A (ws_camera_scene cI cC cZ cR cm cm1 cm2 cm3 sc sea th th1 th2 th3 th4 th5 th6 th7 th8 th9 pi pia lea upr ris se mn ln hi wi br sp si le un ul px tm ps ft fk) sz) r.1) 0 0 (va_A (ws_camera_scene cI cC cZ cR cm cm1 cm2 cm3 sc sea th th1 th2 th3 th4 th5 th6 th7 th8 th9 pi pia lea upr ris se mn ln hi wi br sp si le un ul px tm ps ft fk) sz) := by
  refine Met.ofW (cc := cX0_pixelsBent) (maxL := 5) (ret := (some .int)) (by decide) rfl ?_
  intro p e s m args below meth c s₁ B hml hv
  obtain ⟨rfl, hsz, hP, hK, hD0⟩ := hv
  have hx := B.exec
  have hb := B.bytes
  have hr := B.returns
  have hts := atoms_spec (ws := wsX0_pixelsBent) B.pre
  have hown : s.vm.findClass RX0 = some m.cls := findClass_of_methodNamed B.named
  have hlocks := B.notSynchronized
  subst hsz
  have hD := hD0.self (sz := s.heap.size)
  generalize hAe : va_A (ws_camera_scene cI cC cZ cR cm cm1 cm2 cm3 sc sea th th1 th2 th3 th4 th5 th6 th7 th8 th9 pi pia lea upr ris se mn ln hi wi br sp si le un ul px tm ps ft fk) s.heap.size = A at hD ⊢
  skip
  have hA : ∀ q : Nat, s.heap.size ≤ q → A q := fun q h => by rw [← hAe]; exact Or.inr h
  have hS : va_S A s.heap s.heap [] := va_S.rf
  have hl := lv_entry ([.ref cm, .ref sc]) (n := 5) (Nat.le_of_ble_eq_true rfl)
  rw [lg_entry_eq]
  generalize (lg_sl ([.ref cm, .ref sc]) ++ List.replicate (5 - (lg_sl ([.ref cm, .ref sc])).length) Slot.unset).toArray = ls at hl ⊢
  have hl : lv_has ls 5 [(0, .ref cm), (1, .ref sc)] := hl
  refine W_absQ (fun Q hQ => ?_)
  refine W.eq (g2 := F0 m 0 ls []) rfl ?_
  have h := hf
  unfold f_X0_pixelsBent at h
  refine lv_iconst (v := 0) hx hb dX0_pixelsBent_0 (by decide) ?_
  refine lv_istore_n (lv' := [(2, .int 0), (0, .ref cm), (1, .ref sc)]) hx hb dX0_pixelsBent_1 rfl hl (by decide) rfl (fun ls hl => ?_)
  refine lv_iconst (v := 0) hx hb dX0_pixelsBent_2 (by decide) ?_
  refine lv_istore_n (lv' := [(3, .int 0), (2, .int 0), (0, .ref cm), (1, .ref sc)]) hx hb dX0_pixelsBent_3 rfl hl (by decide) rfl (fun ls hl => ?_)
  have L4 : ∀ (k : Int32 → Int32 → (Nat → Int32) → (Nat → Int32) → (Nat → Int32) → Option OUT_X0_pixelsBent), (∀ (w27 : Int32) (w28 : Int32) (w29 : Nat → Int32) (w30 : Nat → Int32) (w31 : Nat → Int32) (H : Heap) (locs : List Loc) (ls : Array Slot), k w27 w28 w29 w30 w31 = some r → va_P D vwCl (ws_camera_scene cI cC cZ cR cm cm1 cm2 cm3 sc sea th th1 th2 th3 th4 th5 th6 th7 th8 th9 pi pia w29 w30 w31 se mn ln hi wi br sp si le un ul px tm ps ft fk) H → va_D A (ws_camera_scene cI cC cZ cR cm cm1 cm2 cm3 sc sea th th1 th2 th3 th4 th5 th6 th7 th8 th9 pi pia w29 w30 w31 se mn ln hi wi br sp si le un ul px tm ps ft fk) → va_S A s.heap H locs → lv_has ls 5 [(0, .ref cm), (1, .ref sc), (2, .int w27), (3, .int w28)] → W p l e R_X0_pixelsBent s m ([.ref cm, .ref sc] : List Value).toArray below meth c H locs 0 0 Q (F0 m 93 ls [])) → ∀ (n : Nat) (v6 : Int32) (v7 : Int32) (v8 : Nat → Int32) (v9 : Nat → Int32) (v10 : Nat → Int32) (H : Heap) (locs : List Loc) (ls : Array Slot), f_X0_pixelsBent_L4 se mn ln hi wi br sp si le un ul tm ft fk k n v6 v7 v8 v9 v10 = some r → va_P D vwCl (ws_camera_scene cI cC cZ cR cm cm1 cm2 cm3 sc sea th th1 th2 th3 th4 th5 th6 th7 th8 th9 pi pia v8 v9 v10 se mn ln hi wi br sp si le un ul px tm ps ft fk) H → va_D A (ws_camera_scene cI cC cZ cR cm cm1 cm2 cm3 sc sea th th1 th2 th3 th4 th5 th6 th7 th8 th9 pi pia v8 v9 v10 se mn ln hi wi br sp si le un ul px tm ps ft fk) → va_S A s.heap H locs → lv_has ls 5 [(0, .ref cm), (1, .ref sc), (2, .int v6), (3, .int v7)] → W p l e R_X0_pixelsBent s m ([.ref cm, .ref sc] : List Value).toArray below meth c H locs 0 0 Q (F0 m 4 ls []) := by
    intro k K n
    induction n with
    | zero => intro v6 v7 v8 v9 v10 H locs ls h; exact no_sm h
    | succ n ih =>
      intro v6 v7 v8 v9 v10 H locs ls h hP hD hS hl
      rw [f_X0_pixelsBent_L4_s] at h
      refine lv_iload_n hx hb dX0_pixelsBent_4 rfl (lv_at hl 3 rfl) ?_
      refine lv_bipush (v := 16) hx hb dX0_pixelsBent_5 (by decide) ?_
      refine lv_icmp_ge (tgt := 93) hx hb dX0_pixelsBent_7 (by decide) (fun c26 => ?_) (fun c26 => ?_)
      · replace h := br_p c26 h
        exact K _ _ _ _ _ _ _ _ h hP hD hS (lv_sub hl [0, 1, 2, 3] rfl)
      · replace h := br_n c26 h
        refine lv_aload_n hx hb dX0_pixelsBent_10 rfl (lv_at hl 0 rfl) ?_
        refine lv_aload_n hx hb dX0_pixelsBent_11 rfl (lv_at hl 1 rfl) ?_
        refine lv_iload_n hx hb dX0_pixelsBent_12 rfl (lv_at hl 3 rfl) ?_
        refine lv_aload_n hx hb dX0_pixelsBent_13 rfl (lv_at hl 1 rfl) ?_
        refine lv_iload_n hx hb dX0_pixelsBent_14 rfl (lv_at hl 3 rfl) ?_
        obtain ⟨r11, hcr11, h⟩ := bn_sp h
        have hPc := hP.sub (ws' := (ws_scene cI cC cZ cR sc sea th th1 th2 th3 th4 th5 th6 th7 th8 th9 pi pia se mn ln hi wi br sp si le un ul px tm ps ft fk)) [4, 5, 6, 7, 8, 9, 10, 11, 12, 13, 14, 15, 16, 17] rfl
        have hDc := hD.sub (ws' := (ws_scene cI cC cZ cR sc sea th th1 th2 th3 th4 th5 th6 th7 th8 th9 pi pia se mn ln hi wi br sp si le un ul px tm ps ft fk)) [4, 5, 6, 7, 8, 9, 10, 11, 12, 13, 14, 15, 16, 17] (by decide) rfl
        have hFc := va_free (wc := (ws_scene cI cC cZ cR sc sea th th1 th2 th3 th4 th5 th6 th7 th8 th9 pi pia se mn ln hi wi br sp si le un ul px tm ps ft fk)) hD hS hA [4, 5, 6, 7, 8, 9, 10, 11, 12, 13, 14, 15, 16, 17] rfl
        refine va_calli (va_runV (As := [.int v7]) (rest := [.int v7, .ref sc, .ref cm]) ⟨hx, hb, hml, hown, hts⟩ (m_X5_beginOf l D cI cC cZ cR sc sea th th1 th2 th3 th4 th5 th6 th7 th8 th9 pi pia _ se mn ln hi wi br sp si le un ul px tm ps ft fk v7   r11 hcr11) (cwV 1 hts gX0_pixelsBent_X5_beginOf rfl rfl rfl (by decide +kernel) ⟨Nat.le_of_ble_eq_true rfl, Nat.le_of_ble_eq_true rfl⟩) (cPc_pv hPc hK hDc (ci := 5) (q0 := 0) rfl rfl) rfl rfl hl.1 rfl (lv_room (Nat.le_of_ble_eq_true rfl)) dX0_pixelsBent_15 ⟨Nat.le_of_ble_eq_true rfl, Nat.le_of_ble_eq_true rfl⟩) hS (fun q _ h => hFc q h) hFc (fun xq u t H1 locs ht hvm hw hB hz1 hk1 hS => ?_)
        rw [hw]
        obtain ⟨hP1, hD1⟩ := hB
        rw [ht] at hP1
        obtain ⟨hP, hD⟩ := va_join (wr := [(cm, .inr (0, [.ref cm1, .ref cm2, .ref cm3])), (cm1, .inl (cI, 24, .inl v8)), (cm2, .inl (cI, 24, .inl v9)), (cm3, .inl (cI, 25, .inl v10))]) (w1 := (ws_scene cI cC cZ cR sc sea th th1 th2 th3 th4 th5 th6 th7 th8 th9 pi pia se mn ln hi wi br sp si le un ul px tm ps ft fk)) hP hD [4, 5, 6, 7, 8, 9, 10, 11, 12, 13, 14, 15, 16, 17] [0, 1, 2, 3] rfl rfl (by decide) (by decide) hk1 hFc hP1 hD1
        generalize H1 = H at hP hS ⊢
        have hP : va_P D vwCl (ws_camera_scene cI cC cZ cR cm cm1 cm2 cm3 sc sea th th1 th2 th3 th4 th5 th6 th7 th8 th9 pi pia v8 v9 v10 se mn ln hi wi br sp si le un ul px tm ps ft fk) H := hP
        have hD : va_D A (ws_camera_scene cI cC cZ cR cm cm1 cm2 cm3 sc sea th th1 th2 th3 th4 th5 th6 th7 th8 th9 pi pia v8 v9 v10 se mn ln hi wi br sp si le un ul px tm ps ft fk) := hD
        refine lv_aload_n hx hb dX0_pixelsBent_18 rfl (lv_at hl 1 rfl) ?_
        refine va_get (D := D) (ci := 5) (v := .ref sea) (C := RX5) (T := TX5) (N := 7) hx hb hts uX0_pixelsBent_X5 hown hK.1 hP 4 rfl rfl 0 (by decide) (hts _ kX0_pixelsBent_1) (fun _ h9 => h9) rfl dX0_pixelsBent_19 ?_
        refine lv_iconst (v := 1) hx hb dX0_pixelsBent_22 (by decide) ?_
        obtain ⟨hin, h⟩ := gd_sp h
        refine va_iald (D := D) hx hb hK.1 hP 5 0 rfl rfl hin dX0_pixelsBent_23 ?_
        refine lv_aload_n hx hb dX0_pixelsBent_24 rfl (lv_at hl 0 rfl) ?_
        refine va_get (D := D) (ci := 0) (v := .ref cm1) (C := RX0) (T := TX0) (N := 3) hx hb hts uX0_pixelsBent_X0 hown hK.1 hP 0 rfl rfl 0 (by decide) (hts _ kX0_pixelsBent_3) (fun _ h9 => h9) rfl dX0_pixelsBent_25 ?_
        obtain ⟨r12, hcr12, h⟩ := bn_sp h
        have hPc := hP.sub (ws' := (ws_camr_scene_row24 cI cC cZ cR cm cm1 cm2 cm3 sc sea th th1 th2 th3 th4 th5 th6 th7 th8 th9 pi pia cm1 v10 se mn ln hi wi br sp si le un ul px tm ps ft fk v8)) [0, 3, 4, 5, 6, 7, 8, 9, 10, 11, 12, 13, 14, 15, 16, 17, 1] rfl
        have hDc := hD.sub (ws' := (ws_camr_scene_row24 cI cC cZ cR cm cm1 cm2 cm3 sc sea th th1 th2 th3 th4 th5 th6 th7 th8 th9 pi pia cm1 v10 se mn ln hi wi br sp si le un ul px tm ps ft fk v8)) [0, 3, 4, 5, 6, 7, 8, 9, 10, 11, 12, 13, 14, 15, 16, 17, 1] (by decide) rfl
        have hFc := va_free (wc := (ws_camr_scene_row24 cI cC cZ cR cm cm1 cm2 cm3 sc sea th th1 th2 th3 th4 th5 th6 th7 th8 th9 pi pia cm1 v10 se mn ln hi wi br sp si le un ul px tm ps ft fk v8)) hD hS hA [0, 3, 4, 5, 6, 7, 8, 9, 10, 11, 12, 13, 14, 15, 16, 17, 1] rfl
        refine va_callv (va_runV (As := [.ref sc, .int v7, .int r11, .int (se (1 : Int32).toNatClampNeg), .ref cm1]) (rest := []) ⟨hx, hb, hml, hown, hts⟩ (m_X0_exposeLine l D cI cC cZ cR cm cm1 cm2 cm3 sc sea th th1 th2 th3 th4 th5 th6 th7 th8 th9 pi pia cm1 _ v10 se mn ln hi wi br sp si le un ul px tm ps ft fk v8 v7 r11 (se (1 : Int32).toNatClampNeg)   r12 hcr12) (cwV 5 hts gX0_pixelsBent_X0_exposeLine rfl rfl rfl (by decide +kernel) ⟨Nat.le_of_ble_eq_true rfl, Nat.le_of_ble_eq_true rfl⟩) (cPc_pv hPc hK hDc (ci := 0) (q0 := 0) rfl rfl) rfl rfl hl.1 rfl (lv_room (Nat.le_of_ble_eq_true rfl)) dX0_pixelsBent_28 ⟨Nat.le_of_ble_eq_true rfl, Nat.le_of_ble_eq_true rfl⟩) hS (fun q _ h => hFc q h) hFc (fun u t H1 locs ht hvm hw hB hz1 hk1 hS => ?_)
        obtain ⟨hP1, hD1⟩ := hB
        rw [ht] at hP1
        obtain ⟨hP, hD⟩ := va_join (wr := [(cm2, .inl (cI, 24, .inl v9))]) (w1 := (ws_camr_scene_row24 cI cC cZ cR cm cm1 cm2 cm3 sc sea th th1 th2 th3 th4 th5 th6 th7 th8 th9 pi pia cm1 r12.1 se mn ln hi wi br sp si le un ul px tm ps ft fk r12.2)) hP hD [0, 3, 4, 5, 6, 7, 8, 9, 10, 11, 12, 13, 14, 15, 16, 17, 1] [2] rfl rfl (by decide) (by decide) hk1 hFc hP1 hD1
        have hP := hP.sub (ws' := (ws_camera_scene cI cC cZ cR cm cm1 cm2 cm3 sc sea th th1 th2 th3 th4 th5 th6 th7 th8 th9 pi pia r12.2 v9 r12.1 se mn ln hi wi br sp si le un ul px tm ps ft fk)) [1, 17, 0, 2, 3, 4, 5, 6, 7, 8, 9, 10, 11, 12, 13, 14, 15, 16] rfl
        have hD := hD.sub (ws' := (ws_camera_scene cI cC cZ cR cm cm1 cm2 cm3 sc sea th th1 th2 th3 th4 th5 th6 th7 th8 th9 pi pia r12.2 v9 r12.1 se mn ln hi wi br sp si le un ul px tm ps ft fk)) [1, 17, 0, 2, 3, 4, 5, 6, 7, 8, 9, 10, 11, 12, 13, 14, 15, 16] (by decide) rfl
        generalize H1 = H at hP hS ⊢
        refine lv_aload_n hx hb dX0_pixelsBent_31 rfl (lv_at hl 0 rfl) ?_
        refine lv_aload_n hx hb dX0_pixelsBent_32 rfl (lv_at hl 1 rfl) ?_
        refine lv_iload_n hx hb dX0_pixelsBent_33 rfl (lv_at hl 3 rfl) ?_
        refine lv_aload_n hx hb dX0_pixelsBent_34 rfl (lv_at hl 1 rfl) ?_
        refine va_get (D := D) (ci := 5) (v := .int tm) (C := RX5) (T := TX5) (N := 7) hx hb hts uX0_pixelsBent_X5 hown hK.1 hP 4 rfl rfl 3 (by decide) (hts _ kX0_pixelsBent_4) (fun _ h9 => h9) rfl dX0_pixelsBent_35 ?_
        refine lv_aload_n hx hb dX0_pixelsBent_38 rfl (lv_at hl 1 rfl) ?_
        refine va_get (D := D) (ci := 5) (v := .ref sea) (C := RX5) (T := TX5) (N := 7) hx hb hts uX0_pixelsBent_X5 hown hK.1 hP 4 rfl rfl 0 (by decide) (hts _ kX0_pixelsBent_1) (fun _ h9 => h9) rfl dX0_pixelsBent_39 ?_
        refine lv_iconst (v := 1) hx hb dX0_pixelsBent_42 (by decide) ?_
        obtain ⟨hin, h⟩ := gd_sp h
        refine va_iald (D := D) hx hb hK.1 hP 5 0 rfl rfl hin dX0_pixelsBent_43 ?_
        refine lv_aload_n hx hb dX0_pixelsBent_44 rfl (lv_at hl 0 rfl) ?_
        refine va_get (D := D) (ci := 0) (v := .ref cm2) (C := RX0) (T := TX0) (N := 3) hx hb hts uX0_pixelsBent_X0 hown hK.1 hP 0 rfl rfl 1 (by decide) (hts _ kX0_pixelsBent_5) (fun _ h9 => h9) rfl dX0_pixelsBent_45 ?_
        obtain ⟨r13, hcr13, h⟩ := bn_sp h
        have hPc := hP.sub (ws' := (ws_camr_scene_row24 cI cC cZ cR cm cm1 cm2 cm3 sc sea th th1 th2 th3 th4 th5 th6 th7 th8 th9 pi pia cm2 r12.1 se mn ln hi wi br sp si le un ul px tm ps ft fk v9)) [0, 3, 4, 5, 6, 7, 8, 9, 10, 11, 12, 13, 14, 15, 16, 17, 2] rfl
        have hDc := hD.sub (ws' := (ws_camr_scene_row24 cI cC cZ cR cm cm1 cm2 cm3 sc sea th th1 th2 th3 th4 th5 th6 th7 th8 th9 pi pia cm2 r12.1 se mn ln hi wi br sp si le un ul px tm ps ft fk v9)) [0, 3, 4, 5, 6, 7, 8, 9, 10, 11, 12, 13, 14, 15, 16, 17, 2] (by decide) rfl
        have hFc := va_free (wc := (ws_camr_scene_row24 cI cC cZ cR cm cm1 cm2 cm3 sc sea th th1 th2 th3 th4 th5 th6 th7 th8 th9 pi pia cm2 r12.1 se mn ln hi wi br sp si le un ul px tm ps ft fk v9)) hD hS hA [0, 3, 4, 5, 6, 7, 8, 9, 10, 11, 12, 13, 14, 15, 16, 17, 2] rfl
        refine va_callv (va_runV (As := [.ref sc, .int v7, .int tm, .int (se (1 : Int32).toNatClampNeg), .ref cm2]) (rest := []) ⟨hx, hb, hml, hown, hts⟩ (m_X0_exposeLine l D cI cC cZ cR cm cm1 cm2 cm3 sc sea th th1 th2 th3 th4 th5 th6 th7 th8 th9 pi pia cm2 _ r12.1 se mn ln hi wi br sp si le un ul px tm ps ft fk v9 v7 tm (se (1 : Int32).toNatClampNeg)   r13 hcr13) (cwV 5 hts gX0_pixelsBent_X0_exposeLine rfl rfl rfl (by decide +kernel) ⟨Nat.le_of_ble_eq_true rfl, Nat.le_of_ble_eq_true rfl⟩) (cPc_pv hPc hK hDc (ci := 0) (q0 := 0) rfl rfl) rfl rfl hl.1 rfl (lv_room (Nat.le_of_ble_eq_true rfl)) dX0_pixelsBent_48 ⟨Nat.le_of_ble_eq_true rfl, Nat.le_of_ble_eq_true rfl⟩) hS (fun q _ h => hFc q h) hFc (fun u t H1 locs ht hvm hw hB hz1 hk1 hS => ?_)
        obtain ⟨hP1, hD1⟩ := hB
        rw [ht] at hP1
        obtain ⟨hP, hD⟩ := va_join (wr := [(cm1, .inl (cI, 24, .inl r12.2))]) (w1 := (ws_camr_scene_row24 cI cC cZ cR cm cm1 cm2 cm3 sc sea th th1 th2 th3 th4 th5 th6 th7 th8 th9 pi pia cm2 r13.1 se mn ln hi wi br sp si le un ul px tm ps ft fk r13.2)) hP hD [0, 3, 4, 5, 6, 7, 8, 9, 10, 11, 12, 13, 14, 15, 16, 17, 2] [1] rfl rfl (by decide) (by decide) hk1 hFc hP1 hD1
        have hP := hP.sub (ws' := (ws_camera_scene cI cC cZ cR cm cm1 cm2 cm3 sc sea th th1 th2 th3 th4 th5 th6 th7 th8 th9 pi pia r12.2 r13.2 r13.1 se mn ln hi wi br sp si le un ul px tm ps ft fk)) [1, 0, 17, 2, 3, 4, 5, 6, 7, 8, 9, 10, 11, 12, 13, 14, 15, 16] rfl
        have hD := hD.sub (ws' := (ws_camera_scene cI cC cZ cR cm cm1 cm2 cm3 sc sea th th1 th2 th3 th4 th5 th6 th7 th8 th9 pi pia r12.2 r13.2 r13.1 se mn ln hi wi br sp si le un ul px tm ps ft fk)) [1, 0, 17, 2, 3, 4, 5, 6, 7, 8, 9, 10, 11, 12, 13, 14, 15, 16] (by decide) rfl
        generalize H1 = H at hP hS ⊢
        refine lv_iconst (v := 0) hx hb dX0_pixelsBent_51 (by decide) ?_
        refine lv_istore (lv' := [(4, .int 0), (0, .ref cm), (1, .ref sc), (2, .int v6), (3, .int v7)]) hx hb dX0_pixelsBent_52 hl (by decide) rfl (fun ls hl => ?_)
        have L54 : ∀ (k : Int32 → Int32 → Option OUT_X0_pixelsBent), (∀ (w23 : Int32) (w24 : Int32) (H : Heap) (locs : List Loc) (ls : Array Slot), k w23 w24 = some r → va_P D vwCl (ws_camera_scene cI cC cZ cR cm cm1 cm2 cm3 sc sea th th1 th2 th3 th4 th5 th6 th7 th8 th9 pi pia r12.2 r13.2 r13.1 se mn ln hi wi br sp si le un ul px tm ps ft fk) H → va_D A (ws_camera_scene cI cC cZ cR cm cm1 cm2 cm3 sc sea th th1 th2 th3 th4 th5 th6 th7 th8 th9 pi pia r12.2 r13.2 r13.1 se mn ln hi wi br sp si le un ul px tm ps ft fk) → va_S A s.heap H locs → lv_has ls 5 [(0, .ref cm), (1, .ref sc), (2, .int w23), (3, .int v7), (4, .int w24)] → W p l e R_X0_pixelsBent s m ([.ref cm, .ref sc] : List Value).toArray below meth c H locs 0 0 Q (F0 m 87 ls [])) → ∀ (n : Nat) (v16 : Int32) (v17 : Int32) (H : Heap) (locs : List Loc) (ls : Array Slot), f_X0_pixelsBent_L54 r12 r13 k n v16 v17 = some r → va_P D vwCl (ws_camera_scene cI cC cZ cR cm cm1 cm2 cm3 sc sea th th1 th2 th3 th4 th5 th6 th7 th8 th9 pi pia r12.2 r13.2 r13.1 se mn ln hi wi br sp si le un ul px tm ps ft fk) H → va_D A (ws_camera_scene cI cC cZ cR cm cm1 cm2 cm3 sc sea th th1 th2 th3 th4 th5 th6 th7 th8 th9 pi pia r12.2 r13.2 r13.1 se mn ln hi wi br sp si le un ul px tm ps ft fk) → va_S A s.heap H locs → lv_has ls 5 [(0, .ref cm), (1, .ref sc), (2, .int v16), (3, .int v7), (4, .int v17)] → W p l e R_X0_pixelsBent s m ([.ref cm, .ref sc] : List Value).toArray below meth c H locs 0 0 Q (F0 m 54 ls []) := by
          intro k K n
          induction n with
          | zero => intro v16 v17 H locs ls h; exact no_sm h
          | succ n ih =>
            intro v16 v17 H locs ls h hP hD hS hl
            rw [f_X0_pixelsBent_L54_s] at h
            refine lv_iload hx hb dX0_pixelsBent_54 (lv_at hl 4 rfl) ?_
            refine lv_bipush (v := 24) hx hb dX0_pixelsBent_56 (by decide) ?_
            refine lv_icmp_ge (tgt := 87) hx hb dX0_pixelsBent_58 (by decide) (fun c22 => ?_) (fun c22 => ?_)
            · replace h := br_p c22 h
              exact K _ _ _ _ _ h hP hD hS (lv_sub hl [0, 1, 2, 3, 4] rfl)
            · replace h := br_n c22 h
              refine lv_aload_n hx hb dX0_pixelsBent_61 rfl (lv_at hl 0 rfl) ?_
              refine va_get (D := D) (ci := 0) (v := .ref cm1) (C := RX0) (T := TX0) (N := 3) hx hb hts uX0_pixelsBent_X0 hown hK.1 hP 0 rfl rfl 0 (by decide) (hts _ kX0_pixelsBent_3) (fun _ h9 => h9) rfl dX0_pixelsBent_62 ?_
              refine lv_iload hx hb dX0_pixelsBent_65 (lv_at hl 4 rfl) ?_
              obtain ⟨hin, h⟩ := gd_sp h
              refine va_iald (D := D) hx hb hK.1 hP 1 0 rfl rfl hin dX0_pixelsBent_67 ?_
              refine lv_aload_n hx hb dX0_pixelsBent_68 rfl (lv_at hl 0 rfl) ?_
              refine va_get (D := D) (ci := 0) (v := .ref cm2) (C := RX0) (T := TX0) (N := 3) hx hb hts uX0_pixelsBent_X0 hown hK.1 hP 0 rfl rfl 1 (by decide) (hts _ kX0_pixelsBent_5) (fun _ h9 => h9) rfl dX0_pixelsBent_69 ?_
              refine lv_iload hx hb dX0_pixelsBent_72 (lv_at hl 4 rfl) ?_
              obtain ⟨hin, h⟩ := gd_sp h
              refine va_iald (D := D) hx hb hK.1 hP 2 0 rfl rfl hin dX0_pixelsBent_74 ?_
              refine lv_icmp_eq (tgt := 81) hx hb dX0_pixelsBent_75 (by decide) (fun c21 => ?_) (fun c21 => ?_)
              · replace h := br_p c21 h
                obtain ⟨x18, ex18, h⟩ := bd_sp h
                refine lv_iinc (v := x18) (lv' := [(4, .int x18), (0, .ref cm), (1, .ref sc), (2, .int v16), (3, .int v7)]) hx hb dX0_pixelsBent_81 hl (k := 4) rfl (by rw [ex18]; rfl) (by decide) rfl (fun ls hl => ?_)
                refine lv_goto (tgt := 54) hx hb dX0_pixelsBent_84 (by decide) ?_
                exact ih _ _ _ _ _ h hP hD hS (lv_sub hl [1, 2, 3, 4, 0] rfl)
              · replace h := br_n c21 h
                obtain ⟨x19, ex19, h⟩ := bd_sp h
                refine lv_iinc (v := x19) (lv' := [(2, .int x19), (0, .ref cm), (1, .ref sc), (3, .int v7), (4, .int v17)]) hx hb dX0_pixelsBent_78 hl (k := 2) rfl (by rw [ex19]; rfl) (by decide) rfl (fun ls hl => ?_)
                obtain ⟨x20, ex20, h⟩ := bd_sp h
                refine lv_iinc (v := x20) (lv' := [(4, .int x20), (2, .int x19), (0, .ref cm), (1, .ref sc), (3, .int v7)]) hx hb dX0_pixelsBent_81 hl (k := 4) rfl (by rw [ex20]; rfl) (by decide) rfl (fun ls hl => ?_)
                refine lv_goto (tgt := 54) hx hb dX0_pixelsBent_84 (by decide) ?_
                exact ih _ _ _ _ _ h hP hD hS (lv_sub hl [2, 3, 1, 4, 0] rfl)
        refine L54 _ (fun w23 w24 H locs ls h hP hD hS hl => ?_) 4000 v6 0 _ _ _ h hP hD hS (lv_sub hl [1, 2, 3, 4, 0] rfl)
        obtain ⟨x25, ex25, h⟩ := bd_sp h
        refine lv_iinc (v := x25) (lv' := [(3, .int x25), (0, .ref cm), (1, .ref sc), (2, .int w23), (4, .int w24)]) hx hb dX0_pixelsBent_87 hl (k := 3) rfl (by rw [ex25]; rfl) (by decide) rfl (fun ls hl => ?_)
        refine lv_goto (tgt := 4) hx hb dX0_pixelsBent_90 (by decide) ?_
        exact ih _ _ _ _ _ _ _ _ h hP hD hS (lv_sub hl [1, 2, 3, 0] rfl)
  refine L4 _ (fun w27 w28 w29 w30 w31 H locs ls h hP hD hS hl => ?_) 4000 0 0 lea upr ris _ _ _ h hP hD hS (lv_sub hl [2, 3, 1, 0] rfl)
  refine lv_iload_n hx hb dX0_pixelsBent_93 rfl (lv_at hl 2 rfl) ?_
  have e9 := Option.some.inj h
  subst e9
  rw [hQ]
  exact W.iret (v := w27) hx hb hr (fun t ht hW => ⟨⟨w27, (), rfl, rfl, by rw [ht]; exact hP, hD⟩, hS.F ht⟩) hS.2.2 dX0_pixelsBent_94
-- LeaningLines$Camera.brightnessAt
abbrev OUT_X0_brightnessAt : Type := Int32 × (Nat → Int32) × (Nat → Int32)
def f_X0_brightnessAt (upr : Nat → Int32) (ris : Nat → Int32) (se : Nat → Int32) (mn : Int32) (ln : Nat → Int32) (hi : Nat → Int32) (wi : Nat → Int32) (br : Nat → Int32) (sp : Nat → Int32) (si : Nat → Int32) (le : Nat → Int32) (un : Nat → Int32) (ul : Nat → Int32) (ft : Int32) (fk : Int32) (a1 : Int32) (a2 : Int32) (a3 : Int32) : Option OUT_X0_brightnessAt :=
  bn (f_X0_exposeLine ris se mn ln hi wi br sp si le un ul ft fk upr a1 a3 1) (fun r1 => gd a2 24 (some ((r1.2 a2.toNatClampNeg, r1.2, r1.1))))
theorem uX0_brightnessAt_X0 : ∀ w ∈ wsX00, w ∈ wsX0_brightnessAt := by decide +kernel
theorem kX0_brightnessAt_1 : Cond.fieldLink RX0 15 "LeaningLines$Camera" "upright" "[I" ∈ wsX0_brightnessAt := by decide +kernel
abbrev R_X0_brightnessAt : Room := { frames := 4, cells := 0, slots := 0, locals := 99 }
set_option maxHeartbeats 4000000 in
set_option maxRecDepth 100000 in
theorem m_X0_brightnessAt (l : Launch) (D : va_G) (cI cC cZ cR : ClassId) (cm cm1 cm2 cm3 sc sea th th1 th2 th3 th4 th5 th6 th7 th8 th9 pi pia : Nat) (sz : Nat) (lea : Nat → Int32) (upr : Nat → Int32) (ris : Nat → Int32) (se : Nat → Int32) (mn : Int32) (ln : Nat → Int32) (hi : Nat → Int32) (wi : Nat → Int32) (br : Nat → Int32) (sp : Nat → Int32) (si : Nat → Int32) (le : Nat → Int32) (un : Nat → Int32) (ul : Nat → Int32) (px : Nat → Int32) (tm : Int32) (ps : Int32) (ft : Int32) (fk : Int32)  (a1 : Int32) (a2 : Int32) (a3 : Int32)   (r : OUT_X0_brightnessAt) (hf : f_X0_brightnessAt upr ris se mn ln hi wi br sp si le un ul ft fk a1 a2 a3 = some r) : Met l yX0_brightnessAt wsX0_brightnessAt R_X0_brightnessAt (cPc D cI cC cZ cR [.ref cm, .ref sc, .int a1, .int a2, .int a3] sz (ws_camera_scene cI cC cZ cR cm cm1 cm2 cm3 sc sea th th1 th2 th3 th4 th5 th6 th7 th8 th9 pi pia lea upr ris se mn ln hi wi br sp si le un ul px tm ps ft fk)) (cQi D (ws_camera_scene cI cC cZ cR cm cm1 cm2 cm3 sc sea th th1 th2 th3 th4 th5 th6 th7 th8 th9 pi pia lea r.2.1 r.2.2 se mn ln hi wi br sp si le un ul px tm ps ft fk) (va_A (ws_camera_scene cI cC cZ cR cm cm1 cm2 cm3 sc sea th th1 th2 th3 th4 th5 th6 th7 th8 th9 pi pia lea upr ris se mn ln hi wi br sp si le un ul px tm ps ft fk) sz) r.1) 0 0 (va_A (ws_camera_scene cI cC cZ cR cm cm1 cm2 cm3 sc sea th th1 th2 th3 th4 th5 th6 th7 th8 th9 pi pia lea upr ris se mn ln hi wi br sp si le un ul px tm ps ft fk) sz) := by
  refine Met.ofW (cc := cX0_brightnessAt) (maxL := 5) (ret := (some .int)) (by decide) rfl ?_
  intro p e s m args below meth c s₁ B hml hv
  obtain ⟨rfl, hsz, hP, hK, hD0⟩ := hv
  have hx := B.exec
  have hb := B.bytes
  have hr := B.returns
  have hts := atoms_spec (ws := wsX0_brightnessAt) B.pre
  have hown : s.vm.findClass RX0 = some m.cls := findClass_of_methodNamed B.named
  have hlocks := B.notSynchronized
  subst hsz
  have hD := hD0.self (sz := s.heap.size)
  generalize hAe : va_A (ws_camera_scene cI cC cZ cR cm cm1 cm2 cm3 sc sea th th1 th2 th3 th4 th5 th6 th7 th8 th9 pi pia lea upr ris se mn ln hi wi br sp si le un ul px tm ps ft fk) s.heap.size = A at hD ⊢
  skip
  have hA : ∀ q : Nat, s.heap.size ≤ q → A q := fun q h => by rw [← hAe]; exact Or.inr h
  have hS : va_S A s.heap s.heap [] := va_S.rf
  have hl := lv_entry ([.ref cm, .ref sc, .int a1, .int a2, .int a3]) (n := 5) (Nat.le_of_ble_eq_true rfl)
  rw [lg_entry_eq]
  generalize (lg_sl ([.ref cm, .ref sc, .int a1, .int a2, .int a3]) ++ List.replicate (5 - (lg_sl ([.ref cm, .ref sc, .int a1, .int a2, .int a3])).length) Slot.unset).toArray = ls at hl ⊢
  have hl : lv_has ls 5 [(0, .ref cm), (1, .ref sc), (2, .int a1), (3, .int a2), (4, .int a3)] := hl
  refine W_absQ (fun Q hQ => ?_)
  refine W.eq (g2 := F0 m 0 ls []) rfl ?_
  have h := hf
  unfold f_X0_brightnessAt at h
  refine lv_aload_n hx hb dX0_brightnessAt_0 rfl (lv_at hl 0 rfl) ?_
  refine lv_aload_n hx hb dX0_brightnessAt_1 rfl (lv_at hl 1 rfl) ?_
  refine lv_iload_n hx hb dX0_brightnessAt_2 rfl (lv_at hl 2 rfl) ?_
  refine lv_iload hx hb dX0_brightnessAt_3 (lv_at hl 4 rfl) ?_
  refine lv_iconst (v := 1) hx hb dX0_brightnessAt_5 (by decide) ?_
  refine lv_aload_n hx hb dX0_brightnessAt_6 rfl (lv_at hl 0 rfl) ?_
  refine va_get (D := D) (ci := 0) (v := .ref cm2) (C := RX0) (T := TX0) (N := 3) hx hb hts uX0_brightnessAt_X0 hown hK.1 hP 0 rfl rfl 1 (by decide) (hts _ kX0_brightnessAt_1) (fun _ h9 => h9) rfl dX0_brightnessAt_7 ?_
  obtain ⟨r1, hcr1, h⟩ := bn_sp h
  have hPc := hP.sub (ws' := (ws_camr_scene_row24 cI cC cZ cR cm cm1 cm2 cm3 sc sea th th1 th2 th3 th4 th5 th6 th7 th8 th9 pi pia cm2 ris se mn ln hi wi br sp si le un ul px tm ps ft fk upr)) [0, 3, 4, 5, 6, 7, 8, 9, 10, 11, 12, 13, 14, 15, 16, 17, 2] rfl
  have hDc := hD.sub (ws' := (ws_camr_scene_row24 cI cC cZ cR cm cm1 cm2 cm3 sc sea th th1 th2 th3 th4 th5 th6 th7 th8 th9 pi pia cm2 ris se mn ln hi wi br sp si le un ul px tm ps ft fk upr)) [0, 3, 4, 5, 6, 7, 8, 9, 10, 11, 12, 13, 14, 15, 16, 17, 2] (by decide) rfl
  have hFc := va_free (wc := (ws_camr_scene_row24 cI cC cZ cR cm cm1 cm2 cm3 sc sea th th1 th2 th3 th4 th5 th6 th7 th8 th9 pi pia cm2 ris se mn ln hi wi br sp si le un ul px tm ps ft fk upr)) hD hS hA [0, 3, 4, 5, 6, 7, 8, 9, 10, 11, 12, 13, 14, 15, 16, 17, 2] rfl
  refine va_callv (va_runV (As := [.ref sc, .int a1, .int a3, .int 1, .ref cm2]) (rest := []) ⟨hx, hb, hml, hown, hts⟩ (m_X0_exposeLine l D cI cC cZ cR cm cm1 cm2 cm3 sc sea th th1 th2 th3 th4 th5 th6 th7 th8 th9 pi pia cm2 _ ris se mn ln hi wi br sp si le un ul px tm ps ft fk upr a1 a3 1   r1 hcr1) (cwV 5 hts gX0_brightnessAt_X0_exposeLine rfl rfl rfl (by decide +kernel) ⟨Nat.le_of_ble_eq_true rfl, Nat.le_of_ble_eq_true rfl⟩) (cPc_pv hPc hK hDc (ci := 0) (q0 := 0) rfl rfl) rfl rfl hl.1 rfl (lv_room (Nat.le_of_ble_eq_true rfl)) dX0_brightnessAt_10 ⟨Nat.le_of_ble_eq_true rfl, Nat.le_of_ble_eq_true rfl⟩) hS (fun q _ h => hFc q h) hFc (fun u t H1 locs ht hvm hw hB hz1 hk1 hS => ?_)
  obtain ⟨hP1, hD1⟩ := hB
  rw [ht] at hP1
  obtain ⟨hP, hD⟩ := va_join (wr := [(cm1, .inl (cI, 24, .inl lea))]) (w1 := (ws_camr_scene_row24 cI cC cZ cR cm cm1 cm2 cm3 sc sea th th1 th2 th3 th4 th5 th6 th7 th8 th9 pi pia cm2 r1.1 se mn ln hi wi br sp si le un ul px tm ps ft fk r1.2)) hP hD [0, 3, 4, 5, 6, 7, 8, 9, 10, 11, 12, 13, 14, 15, 16, 17, 2] [1] rfl rfl (by decide) (by decide) hk1 hFc hP1 hD1
  have hP := hP.sub (ws' := (ws_camera_scene cI cC cZ cR cm cm1 cm2 cm3 sc sea th th1 th2 th3 th4 th5 th6 th7 th8 th9 pi pia lea r1.2 r1.1 se mn ln hi wi br sp si le un ul px tm ps ft fk)) [1, 0, 17, 2, 3, 4, 5, 6, 7, 8, 9, 10, 11, 12, 13, 14, 15, 16] rfl
  have hD := hD.sub (ws' := (ws_camera_scene cI cC cZ cR cm cm1 cm2 cm3 sc sea th th1 th2 th3 th4 th5 th6 th7 th8 th9 pi pia lea r1.2 r1.1 se mn ln hi wi br sp si le un ul px tm ps ft fk)) [1, 0, 17, 2, 3, 4, 5, 6, 7, 8, 9, 10, 11, 12, 13, 14, 15, 16] (by decide) rfl
  generalize H1 = H at hP hS ⊢
  refine lv_aload_n hx hb dX0_brightnessAt_13 rfl (lv_at hl 0 rfl) ?_
  refine va_get (D := D) (ci := 0) (v := .ref cm2) (C := RX0) (T := TX0) (N := 3) hx hb hts uX0_brightnessAt_X0 hown hK.1 hP 0 rfl rfl 1 (by decide) (hts _ kX0_brightnessAt_1) (fun _ h9 => h9) rfl dX0_brightnessAt_14 ?_
  refine lv_iload_n hx hb dX0_brightnessAt_17 rfl (lv_at hl 3 rfl) ?_
  obtain ⟨hin, h⟩ := gd_sp h
  refine va_iald (D := D) hx hb hK.1 hP 2 0 rfl rfl hin dX0_brightnessAt_18 ?_
  have e9 := Option.some.inj h
  subst e9
  rw [hQ]
  exact W.iret (v := r1.2 a2.toNatClampNeg) hx hb hr (fun t ht hW => ⟨⟨r1.2 a2.toNatClampNeg, (), rfl, rfl, by rw [ht]; exact hP, hD⟩, hS.F ht⟩) hS.2.2 dX0_brightnessAt_19
