abbrev ws_picture (cI cC cZ cR : ClassId) (pi pia : Nat) (px : Nat → Int32) : va_W := [(pi, .inr (3, [.ref pia])), (pia, .inl (cI, 384, .inl px))]
abbrev ws_picture_row24 (cI cC cZ cR : ClassId) (pi pia orw : Nat) (px : Nat → Int32) (orow : Nat → Int32) : va_W := [(pi, .inr (3, [.ref pia])), (pia, .inl (cI, 384, .inl px)), (orw, .inl (cI, 24, .inl orow))]
abbrev ws_picture_picture (cI cC cZ cR : ClassId) (pi pia opi opia : Nat) (px : Nat → Int32) (opx : Nat → Int32) : va_W := [(pi, .inr (3, [.ref pia])), (pia, .inl (cI, 384, .inl px)), (opi, .inr (3, [.ref opia])), (opia, .inl (cI, 384, .inl opx))]
-- LeaningLines$Picture.pixelAt
abbrev OUT_X3_pixelAt : Type := Int32
def f_X3_pixelAt (px : Nat → Int32) (a0 : Int32) (a1 : Int32) : Option OUT_X3_pixelAt :=
  gd ((a0 * 24) + a1) 384 (some (px ((a0 * 24) + a1 : Int32).toNatClampNeg))
theorem uX3_pixelAt_X3 : ∀ w ∈ wsX30, w ∈ wsX3_pixelAt := by decide +kernel
theorem kX3_pixelAt_1 : Cond.fieldLink RX3 9 "LeaningLines$Picture" "pixels" "[I" ∈ wsX3_pixelAt := by decide +kernel
abbrev R_X3_pixelAt : Room := { frames := 0, cells := 0, slots := 0, locals := 0 }
set_option maxHeartbeats 4000000 in
set_option maxRecDepth 100000 in
theorem m_X3_pixelAt (l : Launch) (D : va_G) (cI cC cZ cR : ClassId) (pi pia : Nat) (sz : Nat) (px : Nat → Int32)  (a0 : Int32) (a1 : Int32)   (r : OUT_X3_pixelAt) (hf : f_X3_pixelAt px a0 a1 = some r) : Met l yX3_pixelAt wsX3_pixelAt R_X3_pixelAt (cPc D cI cC cZ cR [.ref pi, .int a0, .int a1] sz (ws_picture cI cC cZ cR pi pia px)) (cQi D (ws_picture cI cC cZ cR pi pia px) (va_A (ws_picture cI cC cZ cR pi pia px) sz) r) 0 0 (va_A (ws_picture cI cC cZ cR pi pia px) sz) := by
  refine Met.ofW (cc := cX3_pixelAt) (maxL := 3) (ret := (some .int)) (by decide) rfl ?_
  intro p e s m args below meth c s₁ B hml hv
  obtain ⟨rfl, hsz, hP, hK, hD0⟩ := hv
  have hx := B.exec
  have hb := B.bytes
  have hr := B.returns
  have hts := atoms_spec (ws := wsX3_pixelAt) B.pre
  have hown : s.vm.findClass RX3 = some m.cls := findClass_of_methodNamed B.named
  have hlocks := B.notSynchronized
  subst hsz
  have hD := hD0.self (sz := s.heap.size)
  generalize hAe : va_A (ws_picture cI cC cZ cR pi pia px) s.heap.size = A at hD ⊢
  skip
  have hA : ∀ q : Nat, s.heap.size ≤ q → A q := fun q h => by rw [← hAe]; exact Or.inr h
  have hS : va_S A s.heap s.heap [] := va_S.rf
  have hl := lv_entry ([.ref pi, .int a0, .int a1]) (n := 3) (Nat.le_of_ble_eq_true rfl)
  rw [lg_entry_eq]
  generalize (lg_sl ([.ref pi, .int a0, .int a1]) ++ List.replicate (3 - (lg_sl ([.ref pi, .int a0, .int a1])).length) Slot.unset).toArray = ls at hl ⊢
  have hl : lv_has ls 3 [(0, .ref pi), (1, .int a0), (2, .int a1)] := hl
  refine W_absQ (fun Q hQ => ?_)
  refine W.eq (g2 := F0 m 0 ls []) rfl ?_
  have h := hf
  unfold f_X3_pixelAt at h
  refine lv_aload_n hx hb dX3_pixelAt_0 rfl (lv_at hl 0 rfl) ?_
  refine va_get (D := D) (ci := 3) (v := .ref pia) (C := RX3) (T := TX3) (N := 1) hx hb hts uX3_pixelAt_X3 hown hK.1 hP 0 rfl rfl 0 (by decide) (hts _ kX3_pixelAt_1) (fun _ h9 => h9) rfl dX3_pixelAt_1 ?_
  refine lv_iload_n hx hb dX3_pixelAt_4 rfl (lv_at hl 1 rfl) ?_
  refine lv_bipush (v := 24) hx hb dX3_pixelAt_5 (by decide) ?_
  refine lv_imul hx hb dX3_pixelAt_7 ?_
  refine lv_iload_n hx hb dX3_pixelAt_8 rfl (lv_at hl 2 rfl) ?_
  refine lv_iadd hx hb dX3_pixelAt_9 ?_
  obtain ⟨hin, h⟩ := gd_sp h
  refine va_iald (D := D) hx hb hK.1 hP 1 0 rfl rfl hin dX3_pixelAt_10 ?_
  have e9 := Option.some.inj h
  subst e9
  rw [hQ]
  exact W.iret (v := px ((a0 * 24) + a1 : Int32).toNatClampNeg) hx hb hr (fun t ht hW => ⟨⟨px ((a0 * 24) + a1 : Int32).toNatClampNeg, (), rfl, rfl, by rw [ht]; exact hP, hD⟩, hS.F ht⟩) hS.2.2 dX3_pixelAt_11
-- LeaningLines$Picture.columnsNotDark
abbrev OUT_X3_columnsNotDark : Type := Int32
def f_X3_columnsNotDark_L4 (px : Nat → Int32) (a0 : Int32) (k : Int32 → Int32 → Option OUT_X3_columnsNotDark) : Nat → Int32 → Int32 → Option OUT_X3_columnsNotDark
  | 0 => fun _ _ => none
  | n + 1 => fun v3 v4 => (if 24 ≤ v4 then k v3 v4 else bn (f_X3_pixelAt px a0 v4) (fun r5 => (if r5 = 0 then bd (v4 + 1) (fun x6 => f_X3_columnsNotDark_L4 px a0 k n v3 x6) else bd (v3 ||| (1 <<< (v4 &&& 31))) (fun x7 => bd (v4 + 1) (fun x8 => f_X3_columnsNotDark_L4 px a0 k n x7 x8)))))
theorem f_X3_columnsNotDark_L4_s (px : Nat → Int32) (a0 : Int32) (k : Int32 → Int32 → Option OUT_X3_columnsNotDark) (n : Nat) (v3 : Int32) (v4 : Int32) : f_X3_columnsNotDark_L4 px a0 k (n + 1) v3 v4 = ((if 24 ≤ v4 then k v3 v4 else bn (f_X3_pixelAt px a0 v4) (fun r5 => (if r5 = 0 then bd (v4 + 1) (fun x6 => f_X3_columnsNotDark_L4 px a0 k n v3 x6) else bd (v3 ||| (1 <<< (v4 &&& 31))) (fun x7 => bd (v4 + 1) (fun x8 => f_X3_columnsNotDark_L4 px a0 k n x7 x8)))))) := rfl
def f_X3_columnsNotDark (px : Nat → Int32) (a0 : Int32) : Option OUT_X3_columnsNotDark :=
  f_X3_columnsNotDark_L4 px a0 (fun (w11 : Int32) (w12 : Int32) => some (w11)) 4000 0 0
abbrev R_X3_columnsNotDark : Room := { frames := 1, cells := 0, slots := 0, locals := 22 }
set_option maxHeartbeats 4000000 in
set_option maxRecDepth 100000 in
theorem m_X3_columnsNotDark (l : Launch) (D : va_G) (cI cC cZ cR : ClassId) (pi pia : Nat) (sz : Nat) (px : Nat → Int32)  (a0 : Int32)   (r : OUT_X3_columnsNotDark) (hf : f_X3_columnsNotDark px a0 = some r) : Met l yX3_columnsNotDark wsX3_columnsNotDark R_X3_columnsNotDark (cPc D cI cC cZ cR [.ref pi, .int a0] sz (ws_picture cI cC cZ cR pi pia px)) (cQi D (ws_picture cI cC cZ cR pi pia px) (va_A (ws_picture cI cC cZ cR pi pia px) sz) r) 0 0 (va_A (ws_picture cI cC cZ cR pi pia px) sz) := by
  refine Met.ofW (cc := cX3_columnsNotDark) (maxL := 4) (ret := (some .int)) (by decide) rfl ?_
  intro p e s m args below meth c s₁ B hml hv
  obtain ⟨rfl, hsz, hP, hK, hD0⟩ := hv
  have hx := B.exec
  have hb := B.bytes
  have hr := B.returns
  have hts := atoms_spec (ws := wsX3_columnsNotDark) B.pre
  have hown : s.vm.findClass RX3 = some m.cls := findClass_of_methodNamed B.named
  have hlocks := B.notSynchronized
  subst hsz
  have hD := hD0.self (sz := s.heap.size)
  generalize hAe : va_A (ws_picture cI cC cZ cR pi pia px) s.heap.size = A at hD ⊢
  skip
  have hA : ∀ q : Nat, s.heap.size ≤ q → A q := fun q h => by rw [← hAe]; exact Or.inr h
  have hS : va_S A s.heap s.heap [] := va_S.rf
  have hl := lv_entry ([.ref pi, .int a0]) (n := 4) (Nat.le_of_ble_eq_true rfl)
  rw [lg_entry_eq]
  generalize (lg_sl ([.ref pi, .int a0]) ++ List.replicate (4 - (lg_sl ([.ref pi, .int a0])).length) Slot.unset).toArray = ls at hl ⊢
  have hl : lv_has ls 4 [(0, .ref pi), (1, .int a0)] := hl
  refine W_absQ (fun Q hQ => ?_)
  refine W.eq (g2 := F0 m 0 ls []) rfl ?_
  have h := hf
  unfold f_X3_columnsNotDark at h
  refine lv_iconst (v := 0) hx hb dX3_columnsNotDark_0 (by decide) ?_
  refine lv_istore_n (lv' := [(2, .int 0), (0, .ref pi), (1, .int a0)]) hx hb dX3_columnsNotDark_1 rfl hl (by decide) rfl (fun ls hl => ?_)
  refine lv_iconst (v := 0) hx hb dX3_columnsNotDark_2 (by decide) ?_
  refine lv_istore_n (lv' := [(3, .int 0), (2, .int 0), (0, .ref pi), (1, .int a0)]) hx hb dX3_columnsNotDark_3 rfl hl (by decide) rfl (fun ls hl => ?_)
  have L4 : ∀ (k : Int32 → Int32 → Option OUT_X3_columnsNotDark), (∀ (w11 : Int32) (w12 : Int32) (H : Heap) (locs : List Loc) (ls : Array Slot), k w11 w12 = some r → va_P D vwCl (ws_picture cI cC cZ cR pi pia px) H → va_D A (ws_picture cI cC cZ cR pi pia px) → va_S A s.heap H locs → lv_has ls 4 [(0, .ref pi), (1, .int a0), (2, .int w11), (3, .int w12)] → W p l e R_X3_columnsNotDark s m ([.ref pi, .int a0] : List Value).toArray below meth c H locs 0 0 Q (F0 m 31 ls [])) → ∀ (n : Nat) (v3 : Int32) (v4 : Int32) (H : Heap) (locs : List Loc) (ls : Array Slot), f_X3_columnsNotDark_L4 px a0 k n v3 v4 = some r → va_P D vwCl (ws_picture cI cC cZ cR pi pia px) H → va_D A (ws_picture cI cC cZ cR pi pia px) → va_S A s.heap H locs → lv_has ls 4 [(0, .ref pi), (1, .int a0), (2, .int v3), (3, .int v4)] → W p l e R_X3_columnsNotDark s m ([.ref pi, .int a0] : List Value).toArray below meth c H locs 0 0 Q (F0 m 4 ls []) := by
    intro k K n
    induction n with
    | zero => intro v3 v4 H locs ls h; exact no_sm h
    | succ n ih =>
      intro v3 v4 H locs ls h hP hD hS hl
      rw [f_X3_columnsNotDark_L4_s] at h
      refine lv_iload_n hx hb dX3_columnsNotDark_4 rfl (lv_at hl 3 rfl) ?_
      refine lv_bipush (v := 24) hx hb dX3_columnsNotDark_5 (by decide) ?_
      refine lv_icmp_ge (tgt := 31) hx hb dX3_columnsNotDark_7 (by decide) (fun c10 => ?_) (fun c10 => ?_)
      · replace h := br_p c10 h
        exact K _ _ _ _ _ h hP hD hS (lv_sub hl [0, 1, 2, 3] rfl)
      · replace h := br_n c10 h
        refine lv_aload_n hx hb dX3_columnsNotDark_10 rfl (lv_at hl 0 rfl) ?_
        refine lv_iload_n hx hb dX3_columnsNotDark_11 rfl (lv_at hl 1 rfl) ?_
        refine lv_iload_n hx hb dX3_columnsNotDark_12 rfl (lv_at hl 3 rfl) ?_
        obtain ⟨r5, hcr5, h⟩ := bn_sp h
        have hPc := hP.sub (ws' := (ws_picture cI cC cZ cR pi pia px)) [0, 1] rfl
        have hDc := hD.sub (ws' := (ws_picture cI cC cZ cR pi pia px)) [0, 1] (by decide) rfl
        have hFc := va_free (wc := (ws_picture cI cC cZ cR pi pia px)) hD hS hA [0, 1] rfl
        refine va_calli (va_runV (As := [.int a0, .int v4]) (rest := []) ⟨hx, hb, hml, hown, hts⟩ (m_X3_pixelAt l D cI cC cZ cR pi pia _ px a0 v4   r5 hcr5) (cwV 2 hts gX3_columnsNotDark_X3_pixelAt rfl rfl rfl (by decide +kernel) ⟨Nat.le_of_ble_eq_true rfl, Nat.le_of_ble_eq_true rfl⟩) (cPc_pv hPc hK hDc (ci := 3) (q0 := 0) rfl rfl) rfl rfl hl.1 rfl (lv_room (Nat.le_of_ble_eq_true rfl)) dX3_columnsNotDark_13 ⟨Nat.le_of_ble_eq_true rfl, Nat.le_of_ble_eq_true rfl⟩) hS (fun q _ h => hFc q h) hFc (fun xq u t H1 locs ht hvm hw hB hz1 hk1 hS => ?_)
        rw [hw]
        obtain ⟨hP1, hD1⟩ := hB
        rw [ht] at hP1
        obtain ⟨hP, hD⟩ := va_join (wr := []) (w1 := (ws_picture cI cC cZ cR pi pia px)) hP hD [0, 1] [] rfl rfl (by decide) (by decide) hk1 hFc hP1 hD1
        generalize H1 = H at hP hS ⊢
        have hP : va_P D vwCl (ws_picture cI cC cZ cR pi pia px) H := hP
        have hD : va_D A (ws_picture cI cC cZ cR pi pia px) := hD
        refine lv_if_eq (tgt := 25) hx hb dX3_columnsNotDark_16 (by decide) (fun c9 => ?_) (fun c9 => ?_)
        · replace h := br_p c9 h
          obtain ⟨x6, ex6, h⟩ := bd_sp h
          refine lv_iinc (v := x6) (lv' := [(3, .int x6), (0, .ref pi), (1, .int a0), (2, .int v3)]) hx hb dX3_columnsNotDark_25 hl (k := 3) rfl (by rw [ex6]; rfl) (by decide) rfl (fun ls hl => ?_)
          refine lv_goto (tgt := 4) hx hb dX3_columnsNotDark_28 (by decide) ?_
          exact ih _ _ _ _ _ h hP hD hS (lv_sub hl [1, 2, 3, 0] rfl)
        · replace h := br_n c9 h
          refine lv_iload_n hx hb dX3_columnsNotDark_19 rfl (lv_at hl 2 rfl) ?_
          refine lv_iconst (v := 1) hx hb dX3_columnsNotDark_20 (by decide) ?_
          refine lv_iload_n hx hb dX3_columnsNotDark_21 rfl (lv_at hl 3 rfl) ?_
          refine lv_ishl hx hb dX3_columnsNotDark_22 ?_
          refine lv_ior hx hb dX3_columnsNotDark_23 ?_
          refine lv_topi (fun x7 ex7 => ?_)
          replace h := bd_s2 h ex7
          refine lv_istore_n (lv' := [(2, .int x7), (0, .ref pi), (1, .int a0), (3, .int v4)]) hx hb dX3_columnsNotDark_24 rfl hl (by decide) rfl (fun ls hl => ?_)
          obtain ⟨x8, ex8, h⟩ := bd_sp h
          refine lv_iinc (v := x8) (lv' := [(3, .int x8), (2, .int x7), (0, .ref pi), (1, .int a0)]) hx hb dX3_columnsNotDark_25 hl (k := 3) rfl (by rw [ex8]; rfl) (by decide) rfl (fun ls hl => ?_)
          refine lv_goto (tgt := 4) hx hb dX3_columnsNotDark_28 (by decide) ?_
          exact ih _ _ _ _ _ h hP hD hS (lv_sub hl [2, 3, 1, 0] rfl)
  refine L4 _ (fun w11 w12 H locs ls h hP hD hS hl => ?_) 4000 0 0 _ _ _ h hP hD hS (lv_sub hl [2, 3, 1, 0] rfl)
  refine lv_iload_n hx hb dX3_columnsNotDark_31 rfl (lv_at hl 2 rfl) ?_
  have e9 := Option.some.inj h
  subst e9
  rw [hQ]
  exact W.iret (v := w11) hx hb hr (fun t ht hW => ⟨⟨w11, (), rfl, rfl, by rw [ht]; exact hP, hD⟩, hS.F ht⟩) hS.2.2 dX3_columnsNotDark_32
-- LeaningLines$Picture.sumOfLine
abbrev OUT_X3_sumOfLine : Type := Int32
def f_X3_sumOfLine_L4 (px : Nat → Int32) (a0 : Int32) (k : Int32 → Int32 → Option OUT_X3_sumOfLine) : Nat → Int32 → Int32 → Option OUT_X3_sumOfLine
  | 0 => fun _ _ => none
  | n + 1 => fun v3 v4 => (if 24 ≤ v4 then k v3 v4 else bn (f_X3_pixelAt px a0 v4) (fun r5 => bd (v3 + r5) (fun x6 => bd (v4 + 1) (fun x7 => f_X3_sumOfLine_L4 px a0 k n x6 x7))))
theorem f_X3_sumOfLine_L4_s (px : Nat → Int32) (a0 : Int32) (k : Int32 → Int32 → Option OUT_X3_sumOfLine) (n : Nat) (v3 : Int32) (v4 : Int32) : f_X3_sumOfLine_L4 px a0 k (n + 1) v3 v4 = ((if 24 ≤ v4 then k v3 v4 else bn (f_X3_pixelAt px a0 v4) (fun r5 => bd (v3 + r5) (fun x6 => bd (v4 + 1) (fun x7 => f_X3_sumOfLine_L4 px a0 k n x6 x7))))) := rfl
def f_X3_sumOfLine (px : Nat → Int32) (a0 : Int32) : Option OUT_X3_sumOfLine :=
  f_X3_sumOfLine_L4 px a0 (fun (w9 : Int32) (w10 : Int32) => some (w9)) 4000 0 0
abbrev R_X3_sumOfLine : Room := { frames := 1, cells := 0, slots := 0, locals := 22 }
set_option maxHeartbeats 4000000 in
set_option maxRecDepth 100000 in
theorem m_X3_sumOfLine (l : Launch) (D : va_G) (cI cC cZ cR : ClassId) (pi pia : Nat) (sz : Nat) (px : Nat → Int32)  (a0 : Int32)   (r : OUT_X3_sumOfLine) (hf : f_X3_sumOfLine px a0 = some r) : Met l yX3_sumOfLine wsX3_sumOfLine R_X3_sumOfLine (cPc D cI cC cZ cR [.ref pi, .int a0] sz (ws_picture cI cC cZ cR pi pia px)) (cQi D (ws_picture cI cC cZ cR pi pia px) (va_A (ws_picture cI cC cZ cR pi pia px) sz) r) 0 0 (va_A (ws_picture cI cC cZ cR pi pia px) sz) := by
  refine Met.ofW (cc := cX3_sumOfLine) (maxL := 4) (ret := (some .int)) (by decide) rfl ?_
  intro p e s m args below meth c s₁ B hml hv
  obtain ⟨rfl, hsz, hP, hK, hD0⟩ := hv
  have hx := B.exec
  have hb := B.bytes
  have hr := B.returns
  have hts := atoms_spec (ws := wsX3_sumOfLine) B.pre
  have hown : s.vm.findClass RX3 = some m.cls := findClass_of_methodNamed B.named
  have hlocks := B.notSynchronized
  subst hsz
  have hD := hD0.self (sz := s.heap.size)
  generalize hAe : va_A (ws_picture cI cC cZ cR pi pia px) s.heap.size = A at hD ⊢
  skip
  have hA : ∀ q : Nat, s.heap.size ≤ q → A q := fun q h => by rw [← hAe]; exact Or.inr h
  have hS : va_S A s.heap s.heap [] := va_S.rf
  have hl := lv_entry ([.ref pi, .int a0]) (n := 4) (Nat.le_of_ble_eq_true rfl)
  rw [lg_entry_eq]
  generalize (lg_sl ([.ref pi, .int a0]) ++ List.replicate (4 - (lg_sl ([.ref pi, .int a0])).length) Slot.unset).toArray = ls at hl ⊢
  have hl : lv_has ls 4 [(0, .ref pi), (1, .int a0)] := hl
  refine W_absQ (fun Q hQ => ?_)
  refine W.eq (g2 := F0 m 0 ls []) rfl ?_
  have h := hf
  unfold f_X3_sumOfLine at h
  refine lv_iconst (v := 0) hx hb dX3_sumOfLine_0 (by decide) ?_
  refine lv_istore_n (lv' := [(2, .int 0), (0, .ref pi), (1, .int a0)]) hx hb dX3_sumOfLine_1 rfl hl (by decide) rfl (fun ls hl => ?_)
  refine lv_iconst (v := 0) hx hb dX3_sumOfLine_2 (by decide) ?_
  refine lv_istore_n (lv' := [(3, .int 0), (2, .int 0), (0, .ref pi), (1, .int a0)]) hx hb dX3_sumOfLine_3 rfl hl (by decide) rfl (fun ls hl => ?_)
  have L4 : ∀ (k : Int32 → Int32 → Option OUT_X3_sumOfLine), (∀ (w9 : Int32) (w10 : Int32) (H : Heap) (locs : List Loc) (ls : Array Slot), k w9 w10 = some r → va_P D vwCl (ws_picture cI cC cZ cR pi pia px) H → va_D A (ws_picture cI cC cZ cR pi pia px) → va_S A s.heap H locs → lv_has ls 4 [(0, .ref pi), (1, .int a0), (2, .int w9), (3, .int w10)] → W p l e R_X3_sumOfLine s m ([.ref pi, .int a0] : List Value).toArray below meth c H locs 0 0 Q (F0 m 25 ls [])) → ∀ (n : Nat) (v3 : Int32) (v4 : Int32) (H : Heap) (locs : List Loc) (ls : Array Slot), f_X3_sumOfLine_L4 px a0 k n v3 v4 = some r → va_P D vwCl (ws_picture cI cC cZ cR pi pia px) H → va_D A (ws_picture cI cC cZ cR pi pia px) → va_S A s.heap H locs → lv_has ls 4 [(0, .ref pi), (1, .int a0), (2, .int v3), (3, .int v4)] → W p l e R_X3_sumOfLine s m ([.ref pi, .int a0] : List Value).toArray below meth c H locs 0 0 Q (F0 m 4 ls []) := by
    intro k K n
    induction n with
    | zero => intro v3 v4 H locs ls h; exact no_sm h
    | succ n ih =>
      intro v3 v4 H locs ls h hP hD hS hl
      rw [f_X3_sumOfLine_L4_s] at h
      refine lv_iload_n hx hb dX3_sumOfLine_4 rfl (lv_at hl 3 rfl) ?_
      refine lv_bipush (v := 24) hx hb dX3_sumOfLine_5 (by decide) ?_
      refine lv_icmp_ge (tgt := 25) hx hb dX3_sumOfLine_7 (by decide) (fun c8 => ?_) (fun c8 => ?_)
      · replace h := br_p c8 h
        exact K _ _ _ _ _ h hP hD hS (lv_sub hl [0, 1, 2, 3] rfl)
      · replace h := br_n c8 h
        refine lv_iload_n hx hb dX3_sumOfLine_10 rfl (lv_at hl 2 rfl) ?_
        refine lv_aload_n hx hb dX3_sumOfLine_11 rfl (lv_at hl 0 rfl) ?_
        refine lv_iload_n hx hb dX3_sumOfLine_12 rfl (lv_at hl 1 rfl) ?_
        refine lv_iload_n hx hb dX3_sumOfLine_13 rfl (lv_at hl 3 rfl) ?_
        obtain ⟨r5, hcr5, h⟩ := bn_sp h
        have hPc := hP.sub (ws' := (ws_picture cI cC cZ cR pi pia px)) [0, 1] rfl
        have hDc := hD.sub (ws' := (ws_picture cI cC cZ cR pi pia px)) [0, 1] (by decide) rfl
        have hFc := va_free (wc := (ws_picture cI cC cZ cR pi pia px)) hD hS hA [0, 1] rfl
        refine va_calli (va_runV (As := [.int a0, .int v4]) (rest := [.int v3]) ⟨hx, hb, hml, hown, hts⟩ (m_X3_pixelAt l D cI cC cZ cR pi pia _ px a0 v4   r5 hcr5) (cwV 2 hts gX3_sumOfLine_X3_pixelAt rfl rfl rfl (by decide +kernel) ⟨Nat.le_of_ble_eq_true rfl, Nat.le_of_ble_eq_true rfl⟩) (cPc_pv hPc hK hDc (ci := 3) (q0 := 0) rfl rfl) rfl rfl hl.1 rfl (lv_room (Nat.le_of_ble_eq_true rfl)) dX3_sumOfLine_14 ⟨Nat.le_of_ble_eq_true rfl, Nat.le_of_ble_eq_true rfl⟩) hS (fun q _ h => hFc q h) hFc (fun xq u t H1 locs ht hvm hw hB hz1 hk1 hS => ?_)
        rw [hw]
        obtain ⟨hP1, hD1⟩ := hB
        rw [ht] at hP1
        obtain ⟨hP, hD⟩ := va_join (wr := []) (w1 := (ws_picture cI cC cZ cR pi pia px)) hP hD [0, 1] [] rfl rfl (by decide) (by decide) hk1 hFc hP1 hD1
        generalize H1 = H at hP hS ⊢
        have hP : va_P D vwCl (ws_picture cI cC cZ cR pi pia px) H := hP
        have hD : va_D A (ws_picture cI cC cZ cR pi pia px) := hD
        refine lv_iadd hx hb dX3_sumOfLine_17 ?_
        refine lv_topi (fun x6 ex6 => ?_)
        replace h := bd_s2 h ex6
        refine lv_istore_n (lv' := [(2, .int x6), (0, .ref pi), (1, .int a0), (3, .int v4)]) hx hb dX3_sumOfLine_18 rfl hl (by decide) rfl (fun ls hl => ?_)
        obtain ⟨x7, ex7, h⟩ := bd_sp h
        refine lv_iinc (v := x7) (lv' := [(3, .int x7), (2, .int x6), (0, .ref pi), (1, .int a0)]) hx hb dX3_sumOfLine_19 hl (k := 3) rfl (by rw [ex7]; rfl) (by decide) rfl (fun ls hl => ?_)
        refine lv_goto (tgt := 4) hx hb dX3_sumOfLine_22 (by decide) ?_
        exact ih _ _ _ _ _ h hP hD hS (lv_sub hl [2, 3, 1, 0] rfl)
  refine L4 _ (fun w9 w10 H locs ls h hP hD hS hl => ?_) 4000 0 0 _ _ _ h hP hD hS (lv_sub hl [2, 3, 1, 0] rfl)
  refine lv_iload_n hx hb dX3_sumOfLine_25 rfl (lv_at hl 2 rfl) ?_
  have e9 := Option.some.inj h
  subst e9
  rw [hQ]
  exact W.iret (v := w9) hx hb hr (fun t ht hW => ⟨⟨w9, (), rfl, rfl, by rw [ht]; exact hP, hD⟩, hS.F ht⟩) hS.2.2 dX3_sumOfLine_26
-- LeaningLines$Picture.leftmostNotDark
abbrev OUT_X3_leftmostNotDark : Type := Int32
def f_X3_leftmostNotDark_L2 (px : Nat → Int32) (a0 : Int32) (k : Int32 → Option OUT_X3_leftmostNotDark) : Nat → Int32 → Option OUT_X3_leftmostNotDark
  | 0 => fun _ => none
  | n + 1 => fun v2 => (if 24 ≤ v2 then k v2 else bn (f_X3_pixelAt px a0 v2) (fun r3 => (if r3 = 0 then bd (v2 + 1) (fun x4 => f_X3_leftmostNotDark_L2 px a0 k n x4) else some (v2))))
theorem f_X3_leftmostNotDark_L2_s (px : Nat → Int32) (a0 : Int32) (k : Int32 → Option OUT_X3_leftmostNotDark) (n : Nat) (v2 : Int32) : f_X3_leftmostNotDark_L2 px a0 k (n + 1) v2 = ((if 24 ≤ v2 then k v2 else bn (f_X3_pixelAt px a0 v2) (fun r3 => (if r3 = 0 then bd (v2 + 1) (fun x4 => f_X3_leftmostNotDark_L2 px a0 k n x4) else some (v2))))) := rfl
def f_X3_leftmostNotDark (px : Nat → Int32) (a0 : Int32) : Option OUT_X3_leftmostNotDark :=
  f_X3_leftmostNotDark_L2 px a0 (fun (w7 : Int32) => some ((-6))) 4000 0
abbrev R_X3_leftmostNotDark : Room := { frames := 1, cells := 0, slots := 0, locals := 22 }
set_option maxHeartbeats 4000000 in
set_option maxRecDepth 100000 in
theorem m_X3_leftmostNotDark (l : Launch) (D : va_G) (cI cC cZ cR : ClassId) (pi pia : Nat) (sz : Nat) (px : Nat → Int32)  (a0 : Int32)   (r : OUT_X3_leftmostNotDark) (hf : f_X3_leftmostNotDark px a0 = some r) : Met l yX3_leftmostNotDark wsX3_leftmostNotDark R_X3_leftmostNotDark (cPc D cI cC cZ cR [.ref pi, .int a0] sz (ws_picture cI cC cZ cR pi pia px)) (cQi D (ws_picture cI cC cZ cR pi pia px) (va_A (ws_picture cI cC cZ cR pi pia px) sz) r) 0 0 (va_A (ws_picture cI cC cZ cR pi pia px) sz) := by
  refine Met.ofW (cc := cX3_leftmostNotDark) (maxL := 3) (ret := (some .int)) (by decide) rfl ?_
  intro p e s m args below meth c s₁ B hml hv
  obtain ⟨rfl, hsz, hP, hK, hD0⟩ := hv
  have hx := B.exec
  have hb := B.bytes
  have hr := B.returns
  have hts := atoms_spec (ws := wsX3_leftmostNotDark) B.pre
  have hown : s.vm.findClass RX3 = some m.cls := findClass_of_methodNamed B.named
  have hlocks := B.notSynchronized
  subst hsz
  have hD := hD0.self (sz := s.heap.size)
  generalize hAe : va_A (ws_picture cI cC cZ cR pi pia px) s.heap.size = A at hD ⊢
  skip
  have hA : ∀ q : Nat, s.heap.size ≤ q → A q := fun q h => by rw [← hAe]; exact Or.inr h
  have hS : va_S A s.heap s.heap [] := va_S.rf
  have hl := lv_entry ([.ref pi, .int a0]) (n := 3) (Nat.le_of_ble_eq_true rfl)
  rw [lg_entry_eq]
  generalize (lg_sl ([.ref pi, .int a0]) ++ List.replicate (3 - (lg_sl ([.ref pi, .int a0])).length) Slot.unset).toArray = ls at hl ⊢
  have hl : lv_has ls 3 [(0, .ref pi), (1, .int a0)] := hl
  refine W_absQ (fun Q hQ => ?_)
  refine W.eq (g2 := F0 m 0 ls []) rfl ?_
  have h := hf
  unfold f_X3_leftmostNotDark at h
  refine lv_iconst (v := 0) hx hb dX3_leftmostNotDark_0 (by decide) ?_
  refine lv_istore_n (lv' := [(2, .int 0), (0, .ref pi), (1, .int a0)]) hx hb dX3_leftmostNotDark_1 rfl hl (by decide) rfl (fun ls hl => ?_)
  have L2 : ∀ (k : Int32 → Option OUT_X3_leftmostNotDark), (∀ (w7 : Int32) (H : Heap) (locs : List Loc) (ls : Array Slot), k w7 = some r → va_P D vwCl (ws_picture cI cC cZ cR pi pia px) H → va_D A (ws_picture cI cC cZ cR pi pia px) → va_S A s.heap H locs → lv_has ls 3 [(0, .ref pi), (1, .int a0), (2, .int w7)] → W p l e R_X3_leftmostNotDark s m ([.ref pi, .int a0] : List Value).toArray below meth c H locs 0 0 Q (F0 m 25 ls [])) → ∀ (n : Nat) (v2 : Int32) (H : Heap) (locs : List Loc) (ls : Array Slot), f_X3_leftmostNotDark_L2 px a0 k n v2 = some r → va_P D vwCl (ws_picture cI cC cZ cR pi pia px) H → va_D A (ws_picture cI cC cZ cR pi pia px) → va_S A s.heap H locs → lv_has ls 3 [(0, .ref pi), (1, .int a0), (2, .int v2)] → W p l e R_X3_leftmostNotDark s m ([.ref pi, .int a0] : List Value).toArray below meth c H locs 0 0 Q (F0 m 2 ls []) := by
    intro k K n
    induction n with
    | zero => intro v2 H locs ls h; exact no_sm h
    | succ n ih =>
      intro v2 H locs ls h hP hD hS hl
      rw [f_X3_leftmostNotDark_L2_s] at h
      refine lv_iload_n hx hb dX3_leftmostNotDark_2 rfl (lv_at hl 2 rfl) ?_
      refine lv_bipush (v := 24) hx hb dX3_leftmostNotDark_3 (by decide) ?_
      refine lv_icmp_ge (tgt := 25) hx hb dX3_leftmostNotDark_5 (by decide) (fun c6 => ?_) (fun c6 => ?_)
      · replace h := br_p c6 h
        exact K _ _ _ _ h hP hD hS (lv_sub hl [0, 1, 2] rfl)
      · replace h := br_n c6 h
        refine lv_aload_n hx hb dX3_leftmostNotDark_8 rfl (lv_at hl 0 rfl) ?_
        refine lv_iload_n hx hb dX3_leftmostNotDark_9 rfl (lv_at hl 1 rfl) ?_
        refine lv_iload_n hx hb dX3_leftmostNotDark_10 rfl (lv_at hl 2 rfl) ?_
        obtain ⟨r3, hcr3, h⟩ := bn_sp h
        have hPc := hP.sub (ws' := (ws_picture cI cC cZ cR pi pia px)) [0, 1] rfl
        have hDc := hD.sub (ws' := (ws_picture cI cC cZ cR pi pia px)) [0, 1] (by decide) rfl
        have hFc := va_free (wc := (ws_picture cI cC cZ cR pi pia px)) hD hS hA [0, 1] rfl
        refine va_calli (va_runV (As := [.int a0, .int v2]) (rest := []) ⟨hx, hb, hml, hown, hts⟩ (m_X3_pixelAt l D cI cC cZ cR pi pia _ px a0 v2   r3 hcr3) (cwV 2 hts gX3_leftmostNotDark_X3_pixelAt rfl rfl rfl (by decide +kernel) ⟨Nat.le_of_ble_eq_true rfl, Nat.le_of_ble_eq_true rfl⟩) (cPc_pv hPc hK hDc (ci := 3) (q0 := 0) rfl rfl) rfl rfl hl.1 rfl (lv_room (Nat.le_of_ble_eq_true rfl)) dX3_leftmostNotDark_11 ⟨Nat.le_of_ble_eq_true rfl, Nat.le_of_ble_eq_true rfl⟩) hS (fun q _ h => hFc q h) hFc (fun xq u t H1 locs ht hvm hw hB hz1 hk1 hS => ?_)
        rw [hw]
        obtain ⟨hP1, hD1⟩ := hB
        rw [ht] at hP1
        obtain ⟨hP, hD⟩ := va_join (wr := []) (w1 := (ws_picture cI cC cZ cR pi pia px)) hP hD [0, 1] [] rfl rfl (by decide) (by decide) hk1 hFc hP1 hD1
        generalize H1 = H at hP hS ⊢
        have hP : va_P D vwCl (ws_picture cI cC cZ cR pi pia px) H := hP
        have hD : va_D A (ws_picture cI cC cZ cR pi pia px) := hD
        refine lv_if_eq (tgt := 19) hx hb dX3_leftmostNotDark_14 (by decide) (fun c5 => ?_) (fun c5 => ?_)
        · replace h := br_p c5 h
          obtain ⟨x4, ex4, h⟩ := bd_sp h
          refine lv_iinc (v := x4) (lv' := [(2, .int x4), (0, .ref pi), (1, .int a0)]) hx hb dX3_leftmostNotDark_19 hl (k := 2) rfl (by rw [ex4]; rfl) (by decide) rfl (fun ls hl => ?_)
          refine lv_goto (tgt := 2) hx hb dX3_leftmostNotDark_22 (by decide) ?_
          exact ih _ _ _ _ h hP hD hS (lv_sub hl [1, 2, 0] rfl)
        · replace h := br_n c5 h
          refine lv_iload_n hx hb dX3_leftmostNotDark_17 rfl (lv_at hl 2 rfl) ?_
          have e9 := Option.some.inj h
          subst e9
          rw [hQ]
          exact W.iret (v := v2) hx hb hr (fun t ht hW => ⟨⟨v2, (), rfl, rfl, by rw [ht]; exact hP, hD⟩, hS.F ht⟩) hS.2.2 dX3_leftmostNotDark_18
  refine L2 _ (fun w7 H locs ls h hP hD hS hl => ?_) 4000 0 _ _ _ h hP hD hS (lv_sub hl [1, 2, 0] rfl)
  refine lv_bipush (v := (-6)) hx hb dX3_leftmostNotDark_25 (by decide) ?_
  have e9 := Option.some.inj h
  subst e9
  rw [hQ]
  exact W.iret (v := (-6)) hx hb hr (fun t ht hW => ⟨⟨(-6), (), rfl, rfl, by rw [ht]; exact hP, hD⟩, hS.F ht⟩) hS.2.2 dX3_leftmostNotDark_27
-- LeaningLines$Picture.sumOfAll
abbrev OUT_X3_sumOfAll : Type := Int32
def f_X3_sumOfAll_L4 (px : Nat → Int32) (k : Int32 → Int32 → Option OUT_X3_sumOfAll) : Nat → Int32 → Int32 → Option OUT_X3_sumOfAll
  | 0 => fun _ _ => none
  | n + 1 => fun v3 v4 => (if 16 ≤ v4 then k v3 v4 else bn (f_X3_sumOfLine px v4) (fun r5 => bd (v3 + r5) (fun x6 => bd (v4 + 1) (fun x7 => f_X3_sumOfAll_L4 px k n x6 x7))))
theorem f_X3_sumOfAll_L4_s (px : Nat → Int32) (k : Int32 → Int32 → Option OUT_X3_sumOfAll) (n : Nat) (v3 : Int32) (v4 : Int32) : f_X3_sumOfAll_L4 px k (n + 1) v3 v4 = ((if 16 ≤ v4 then k v3 v4 else bn (f_X3_sumOfLine px v4) (fun r5 => bd (v3 + r5) (fun x6 => bd (v4 + 1) (fun x7 => f_X3_sumOfAll_L4 px k n x6 x7))))) := rfl
def f_X3_sumOfAll (px : Nat → Int32) : Option OUT_X3_sumOfAll :=
  f_X3_sumOfAll_L4 px (fun (w9 : Int32) (w10 : Int32) => some (w9)) 4000 0 0
abbrev R_X3_sumOfAll : Room := { frames := 2, cells := 0, slots := 0, locals := 45 }
set_option maxHeartbeats 4000000 in
set_option maxRecDepth 100000 in
theorem m_X3_sumOfAll (l : Launch) (D : va_G) (cI cC cZ cR : ClassId) (pi pia : Nat) (sz : Nat) (px : Nat → Int32)     (r : OUT_X3_sumOfAll) (hf : f_X3_sumOfAll px = some r) : Met l yX3_sumOfAll wsX3_sumOfAll R_X3_sumOfAll (cPc D cI cC cZ cR [.ref pi] sz (ws_picture cI cC cZ cR pi pia px)) (cQi D (ws_picture cI cC cZ cR pi pia px) (va_A (ws_picture cI cC cZ cR pi pia px) sz) r) 0 0 (va_A (ws_picture cI cC cZ cR pi pia px) sz) := by
  refine Met.ofW (cc := cX3_sumOfAll) (maxL := 3) (ret := (some .int)) (by decide) rfl ?_
  intro p e s m args below meth c s₁ B hml hv
  obtain ⟨rfl, hsz, hP, hK, hD0⟩ := hv
  have hx := B.exec
  have hb := B.bytes
  have hr := B.returns
  have hts := atoms_spec (ws := wsX3_sumOfAll) B.pre
  have hown : s.vm.findClass RX3 = some m.cls := findClass_of_methodNamed B.named
  have hlocks := B.notSynchronized
  subst hsz
  have hD := hD0.self (sz := s.heap.size)
  generalize hAe : va_A (ws_picture cI cC cZ cR pi pia px) s.heap.size = A at hD ⊢
  skip
  have hA : ∀ q : Nat, s.heap.size ≤ q → A q := fun q h => by rw [← hAe]; exact Or.inr h
  have hS : va_S A s.heap s.heap [] := va_S.rf
  have hl := lv_entry ([.ref pi]) (n := 3) (Nat.le_of_ble_eq_true rfl)
  rw [lg_entry_eq]
  generalize (lg_sl ([.ref pi]) ++ List.replicate (3 - (lg_sl ([.ref pi])).length) Slot.unset).toArray = ls at hl ⊢
  have hl : lv_has ls 3 [(0, .ref pi)] := hl
  refine W_absQ (fun Q hQ => ?_)
  refine W.eq (g2 := F0 m 0 ls []) rfl ?_
  have h := hf
  unfold f_X3_sumOfAll at h
  refine lv_iconst (v := 0) hx hb dX3_sumOfAll_0 (by decide) ?_
  refine lv_istore_n (lv' := [(1, .int 0), (0, .ref pi)]) hx hb dX3_sumOfAll_1 rfl hl (by decide) rfl (fun ls hl => ?_)
  refine lv_iconst (v := 0) hx hb dX3_sumOfAll_2 (by decide) ?_
  refine lv_istore_n (lv' := [(2, .int 0), (1, .int 0), (0, .ref pi)]) hx hb dX3_sumOfAll_3 rfl hl (by decide) rfl (fun ls hl => ?_)
  have L4 : ∀ (k : Int32 → Int32 → Option OUT_X3_sumOfAll), (∀ (w9 : Int32) (w10 : Int32) (H : Heap) (locs : List Loc) (ls : Array Slot), k w9 w10 = some r → va_P D vwCl (ws_picture cI cC cZ cR pi pia px) H → va_D A (ws_picture cI cC cZ cR pi pia px) → va_S A s.heap H locs → lv_has ls 3 [(0, .ref pi), (1, .int w9), (2, .int w10)] → W p l e R_X3_sumOfAll s m ([.ref pi] : List Value).toArray below meth c H locs 0 0 Q (F0 m 24 ls [])) → ∀ (n : Nat) (v3 : Int32) (v4 : Int32) (H : Heap) (locs : List Loc) (ls : Array Slot), f_X3_sumOfAll_L4 px k n v3 v4 = some r → va_P D vwCl (ws_picture cI cC cZ cR pi pia px) H → va_D A (ws_picture cI cC cZ cR pi pia px) → va_S A s.heap H locs → lv_has ls 3 [(0, .ref pi), (1, .int v3), (2, .int v4)] → W p l e R_X3_sumOfAll s m ([.ref pi] : List Value).toArray below meth c H locs 0 0 Q (F0 m 4 ls []) := by
    intro k K n
    induction n with
    | zero => intro v3 v4 H locs ls h; exact no_sm h
    | succ n ih =>
      intro v3 v4 H locs ls h hP hD hS hl
      rw [f_X3_sumOfAll_L4_s] at h
      refine lv_iload_n hx hb dX3_sumOfAll_4 rfl (lv_at hl 2 rfl) ?_
      refine lv_bipush (v := 16) hx hb dX3_sumOfAll_5 (by decide) ?_
      refine lv_icmp_ge (tgt := 24) hx hb dX3_sumOfAll_7 (by decide) (fun c8 => ?_) (fun c8 => ?_)
      · replace h := br_p c8 h
        exact K _ _ _ _ _ h hP hD hS (lv_sub hl [0, 1, 2] rfl)
      · replace h := br_n c8 h
        refine lv_iload_n hx hb dX3_sumOfAll_10 rfl (lv_at hl 1 rfl) ?_
        refine lv_aload_n hx hb dX3_sumOfAll_11 rfl (lv_at hl 0 rfl) ?_
        refine lv_iload_n hx hb dX3_sumOfAll_12 rfl (lv_at hl 2 rfl) ?_
        obtain ⟨r5, hcr5, h⟩ := bn_sp h
        have hPc := hP.sub (ws' := (ws_picture cI cC cZ cR pi pia px)) [0, 1] rfl
        have hDc := hD.sub (ws' := (ws_picture cI cC cZ cR pi pia px)) [0, 1] (by decide) rfl
        have hFc := va_free (wc := (ws_picture cI cC cZ cR pi pia px)) hD hS hA [0, 1] rfl
        refine va_calli (va_runV (As := [.int v4]) (rest := [.int v3]) ⟨hx, hb, hml, hown, hts⟩ (m_X3_sumOfLine l D cI cC cZ cR pi pia _ px v4   r5 hcr5) (cwV 1 hts gX3_sumOfAll_X3_sumOfLine rfl rfl rfl (by decide +kernel) ⟨Nat.le_of_ble_eq_true rfl, Nat.le_of_ble_eq_true rfl⟩) (cPc_pv hPc hK hDc (ci := 3) (q0 := 0) rfl rfl) rfl rfl hl.1 rfl (lv_room (Nat.le_of_ble_eq_true rfl)) dX3_sumOfAll_13 ⟨Nat.le_of_ble_eq_true rfl, Nat.le_of_ble_eq_true rfl⟩) hS (fun q _ h => hFc q h) hFc (fun xq u t H1 locs ht hvm hw hB hz1 hk1 hS => ?_)
        rw [hw]
        obtain ⟨hP1, hD1⟩ := hB
        rw [ht] at hP1
        obtain ⟨hP, hD⟩ := va_join (wr := []) (w1 := (ws_picture cI cC cZ cR pi pia px)) hP hD [0, 1] [] rfl rfl (by decide) (by decide) hk1 hFc hP1 hD1
        generalize H1 = H at hP hS ⊢
        have hP : va_P D vwCl (ws_picture cI cC cZ cR pi pia px) H := hP
        have hD : va_D A (ws_picture cI cC cZ cR pi pia px) := hD
        refine lv_iadd hx hb dX3_sumOfAll_16 ?_
        refine lv_topi (fun x6 ex6 => ?_)
        replace h := bd_s2 h ex6
        refine lv_istore_n (lv' := [(1, .int x6), (0, .ref pi), (2, .int v4)]) hx hb dX3_sumOfAll_17 rfl hl (by decide) rfl (fun ls hl => ?_)
        obtain ⟨x7, ex7, h⟩ := bd_sp h
        refine lv_iinc (v := x7) (lv' := [(2, .int x7), (1, .int x6), (0, .ref pi)]) hx hb dX3_sumOfAll_18 hl (k := 2) rfl (by rw [ex7]; rfl) (by decide) rfl (fun ls hl => ?_)
        refine lv_goto (tgt := 4) hx hb dX3_sumOfAll_21 (by decide) ?_
        exact ih _ _ _ _ _ h hP hD hS (lv_sub hl [2, 1, 0] rfl)
  refine L4 _ (fun w9 w10 H locs ls h hP hD hS hl => ?_) 4000 0 0 _ _ _ h hP hD hS (lv_sub hl [2, 1, 0] rfl)
  refine lv_iload_n hx hb dX3_sumOfAll_24 rfl (lv_at hl 1 rfl) ?_
  have e9 := Option.some.inj h
  subst e9
  rw [hQ]
  exact W.iret (v := w9) hx hb hr (fun t ht hW => ⟨⟨w9, (), rfl, rfl, by rw [ht]; exact hP, hD⟩, hS.F ht⟩) hS.2.2 dX3_sumOfAll_25
-- LeaningLines$Picture.darkLines
abbrev OUT_X3_darkLines : Type := Int32
def f_X3_darkLines_L4 (px : Nat → Int32) (k : Int32 → Int32 → Option OUT_X3_darkLines) : Nat → Int32 → Int32 → Option OUT_X3_darkLines
  | 0 => fun _ _ => none
  | n + 1 => fun v3 v4 => (if 16 ≤ v4 then k v3 v4 else bn (f_X3_columnsNotDark px v4) (fun r5 => (if ¬ r5 = 0 then bd (v4 + 1) (fun x6 => f_X3_darkLines_L4 px k n v3 x6) else bd (v3 ||| (1 <<< (v4 &&& 31))) (fun x7 => bd (v4 + 1) (fun x8 => f_X3_darkLines_L4 px k n x7 x8)))))
theorem f_X3_darkLines_L4_s (px : Nat → Int32) (k : Int32 → Int32 → Option OUT_X3_darkLines) (n : Nat) (v3 : Int32) (v4 : Int32) : f_X3_darkLines_L4 px k (n + 1) v3 v4 = ((if 16 ≤ v4 then k v3 v4 else bn (f_X3_columnsNotDark px v4) (fun r5 => (if ¬ r5 = 0 then bd (v4 + 1) (fun x6 => f_X3_darkLines_L4 px k n v3 x6) else bd (v3 ||| (1 <<< (v4 &&& 31))) (fun x7 => bd (v4 + 1) (fun x8 => f_X3_darkLines_L4 px k n x7 x8)))))) := rfl
def f_X3_darkLines (px : Nat → Int32) : Option OUT_X3_darkLines :=
  f_X3_darkLines_L4 px (fun (w11 : Int32) (w12 : Int32) => some (w11)) 4000 0 0
abbrev R_X3_darkLines : Room := { frames := 2, cells := 0, slots := 0, locals := 45 }
set_option maxHeartbeats 4000000 in
set_option maxRecDepth 100000 in
theorem m_X3_darkLines (l : Launch) (D : va_G) (cI cC cZ cR : ClassId) (pi pia : Nat) (sz : Nat) (px : Nat → Int32)     (r : OUT_X3_darkLines) (hf : f_X3_darkLines px = some r) : Met l yX3_darkLines wsX3_darkLines R_X3_darkLines (cPc D cI cC cZ cR [.ref pi] sz (ws_picture cI cC cZ cR pi pia px)) (cQi D (ws_picture cI cC cZ cR pi pia px) (va_A (ws_picture cI cC cZ cR pi pia px) sz) r) 0 0 (va_A (ws_picture cI cC cZ cR pi pia px) sz) := by
  refine Met.ofW (cc := cX3_darkLines) (maxL := 3) (ret := (some .int)) (by decide) rfl ?_
  intro p e s m args below meth c s₁ B hml hv
  obtain ⟨rfl, hsz, hP, hK, hD0⟩ := hv
  have hx := B.exec
  have hb := B.bytes
  have hr := B.returns
  have hts := atoms_spec (ws := wsX3_darkLines) B.pre
  have hown : s.vm.findClass RX3 = some m.cls := findClass_of_methodNamed B.named
  have hlocks := B.notSynchronized
  subst hsz
  have hD := hD0.self (sz := s.heap.size)
  generalize hAe : va_A (ws_picture cI cC cZ cR pi pia px) s.heap.size = A at hD ⊢
  skip
  have hA : ∀ q : Nat, s.heap.size ≤ q → A q := fun q h => by rw [← hAe]; exact Or.inr h
  have hS : va_S A s.heap s.heap [] := va_S.rf
  have hl := lv_entry ([.ref pi]) (n := 3) (Nat.le_of_ble_eq_true rfl)
  rw [lg_entry_eq]
  generalize (lg_sl ([.ref pi]) ++ List.replicate (3 - (lg_sl ([.ref pi])).length) Slot.unset).toArray = ls at hl ⊢
  have hl : lv_has ls 3 [(0, .ref pi)] := hl
  refine W_absQ (fun Q hQ => ?_)
  refine W.eq (g2 := F0 m 0 ls []) rfl ?_
  have h := hf
  unfold f_X3_darkLines at h
  refine lv_iconst (v := 0) hx hb dX3_darkLines_0 (by decide) ?_
  refine lv_istore_n (lv' := [(1, .int 0), (0, .ref pi)]) hx hb dX3_darkLines_1 rfl hl (by decide) rfl (fun ls hl => ?_)
  refine lv_iconst (v := 0) hx hb dX3_darkLines_2 (by decide) ?_
  refine lv_istore_n (lv' := [(2, .int 0), (1, .int 0), (0, .ref pi)]) hx hb dX3_darkLines_3 rfl hl (by decide) rfl (fun ls hl => ?_)
  have L4 : ∀ (k : Int32 → Int32 → Option OUT_X3_darkLines), (∀ (w11 : Int32) (w12 : Int32) (H : Heap) (locs : List Loc) (ls : Array Slot), k w11 w12 = some r → va_P D vwCl (ws_picture cI cC cZ cR pi pia px) H → va_D A (ws_picture cI cC cZ cR pi pia px) → va_S A s.heap H locs → lv_has ls 3 [(0, .ref pi), (1, .int w11), (2, .int w12)] → W p l e R_X3_darkLines s m ([.ref pi] : List Value).toArray below meth c H locs 0 0 Q (F0 m 30 ls [])) → ∀ (n : Nat) (v3 : Int32) (v4 : Int32) (H : Heap) (locs : List Loc) (ls : Array Slot), f_X3_darkLines_L4 px k n v3 v4 = some r → va_P D vwCl (ws_picture cI cC cZ cR pi pia px) H → va_D A (ws_picture cI cC cZ cR pi pia px) → va_S A s.heap H locs → lv_has ls 3 [(0, .ref pi), (1, .int v3), (2, .int v4)] → W p l e R_X3_darkLines s m ([.ref pi] : List Value).toArray below meth c H locs 0 0 Q (F0 m 4 ls []) := by
    intro k K n
    induction n with
    | zero => intro v3 v4 H locs ls h; exact no_sm h
    | succ n ih =>
      intro v3 v4 H locs ls h hP hD hS hl
      rw [f_X3_darkLines_L4_s] at h
      refine lv_iload_n hx hb dX3_darkLines_4 rfl (lv_at hl 2 rfl) ?_
      refine lv_bipush (v := 16) hx hb dX3_darkLines_5 (by decide) ?_
      refine lv_icmp_ge (tgt := 30) hx hb dX3_darkLines_7 (by decide) (fun c10 => ?_) (fun c10 => ?_)
      · replace h := br_p c10 h
        exact K _ _ _ _ _ h hP hD hS (lv_sub hl [0, 1, 2] rfl)
      · replace h := br_n c10 h
        refine lv_aload_n hx hb dX3_darkLines_10 rfl (lv_at hl 0 rfl) ?_
        refine lv_iload_n hx hb dX3_darkLines_11 rfl (lv_at hl 2 rfl) ?_
        obtain ⟨r5, hcr5, h⟩ := bn_sp h
        have hPc := hP.sub (ws' := (ws_picture cI cC cZ cR pi pia px)) [0, 1] rfl
        have hDc := hD.sub (ws' := (ws_picture cI cC cZ cR pi pia px)) [0, 1] (by decide) rfl
        have hFc := va_free (wc := (ws_picture cI cC cZ cR pi pia px)) hD hS hA [0, 1] rfl
        refine va_calli (va_runV (As := [.int v4]) (rest := []) ⟨hx, hb, hml, hown, hts⟩ (m_X3_columnsNotDark l D cI cC cZ cR pi pia _ px v4   r5 hcr5) (cwV 1 hts gX3_darkLines_X3_columnsNotDark rfl rfl rfl (by decide +kernel) ⟨Nat.le_of_ble_eq_true rfl, Nat.le_of_ble_eq_true rfl⟩) (cPc_pv hPc hK hDc (ci := 3) (q0 := 0) rfl rfl) rfl rfl hl.1 rfl (lv_room (Nat.le_of_ble_eq_true rfl)) dX3_darkLines_12 ⟨Nat.le_of_ble_eq_true rfl, Nat.le_of_ble_eq_true rfl⟩) hS (fun q _ h => hFc q h) hFc (fun xq u t H1 locs ht hvm hw hB hz1 hk1 hS => ?_)
        rw [hw]
        obtain ⟨hP1, hD1⟩ := hB
        rw [ht] at hP1
        obtain ⟨hP, hD⟩ := va_join (wr := []) (w1 := (ws_picture cI cC cZ cR pi pia px)) hP hD [0, 1] [] rfl rfl (by decide) (by decide) hk1 hFc hP1 hD1
        generalize H1 = H at hP hS ⊢
        have hP : va_P D vwCl (ws_picture cI cC cZ cR pi pia px) H := hP
        have hD : va_D A (ws_picture cI cC cZ cR pi pia px) := hD
        refine lv_if_ne (tgt := 24) hx hb dX3_darkLines_15 (by decide) (fun c9 => ?_) (fun c9 => ?_)
        · replace h := br_p c9 h
          obtain ⟨x6, ex6, h⟩ := bd_sp h
          refine lv_iinc (v := x6) (lv' := [(2, .int x6), (0, .ref pi), (1, .int v3)]) hx hb dX3_darkLines_24 hl (k := 2) rfl (by rw [ex6]; rfl) (by decide) rfl (fun ls hl => ?_)
          refine lv_goto (tgt := 4) hx hb dX3_darkLines_27 (by decide) ?_
          exact ih _ _ _ _ _ h hP hD hS (lv_sub hl [1, 2, 0] rfl)
        · replace h := br_n (not_not_intro c9) h
          refine lv_iload_n hx hb dX3_darkLines_18 rfl (lv_at hl 1 rfl) ?_
          refine lv_iconst (v := 1) hx hb dX3_darkLines_19 (by decide) ?_
          refine lv_iload_n hx hb dX3_darkLines_20 rfl (lv_at hl 2 rfl) ?_
          refine lv_ishl hx hb dX3_darkLines_21 ?_
          refine lv_ior hx hb dX3_darkLines_22 ?_
          refine lv_topi (fun x7 ex7 => ?_)
          replace h := bd_s2 h ex7
          refine lv_istore_n (lv' := [(1, .int x7), (0, .ref pi), (2, .int v4)]) hx hb dX3_darkLines_23 rfl hl (by decide) rfl (fun ls hl => ?_)
          obtain ⟨x8, ex8, h⟩ := bd_sp h
          refine lv_iinc (v := x8) (lv' := [(2, .int x8), (1, .int x7), (0, .ref pi)]) hx hb dX3_darkLines_24 hl (k := 2) rfl (by rw [ex8]; rfl) (by decide) rfl (fun ls hl => ?_)
          refine lv_goto (tgt := 4) hx hb dX3_darkLines_27 (by decide) ?_
          exact ih _ _ _ _ _ h hP hD hS (lv_sub hl [2, 1, 0] rfl)
  refine L4 _ (fun w11 w12 H locs ls h hP hD hS hl => ?_) 4000 0 0 _ _ _ h hP hD hS (lv_sub hl [2, 1, 0] rfl)
  refine lv_iload_n hx hb dX3_darkLines_30 rfl (lv_at hl 1 rfl) ?_
  have e9 := Option.some.inj h
  subst e9
  rw [hQ]
  exact W.iret (v := w11) hx hb hr (fun t ht hW => ⟨⟨w11, (), rfl, rfl, by rw [ht]; exact hP, hD⟩, hS.F ht⟩) hS.2.2 dX3_darkLines_31
-- LeaningLines$Picture.brightest
abbrev OUT_X3_brightest : Type := Int32
def f_X3_brightest_L12 (px : Nat → Int32) (v4 : Int32) (k : Int32 → Int32 → Option OUT_X3_brightest) : Nat → Int32 → Int32 → Option OUT_X3_brightest
  | 0 => fun _ _ => none
  | n + 1 => fun v7 v8 => (if 24 ≤ v8 then k v7 v8 else bn (f_X3_pixelAt px v4 v8) (fun r9 => bd (if v7 < r9 then r9 else v7) (fun x10 => bd (v8 + 1) (fun x11 => f_X3_brightest_L12 px v4 k n x10 x11))))
theorem f_X3_brightest_L12_s (px : Nat → Int32) (v4 : Int32) (k : Int32 → Int32 → Option OUT_X3_brightest) (n : Nat) (v7 : Int32) (v8 : Int32) : f_X3_brightest_L12 px v4 k (n + 1) v7 v8 = ((if 24 ≤ v8 then k v7 v8 else bn (f_X3_pixelAt px v4 v8) (fun r9 => bd (if v7 < r9 then r9 else v7) (fun x10 => bd (v8 + 1) (fun x11 => f_X3_brightest_L12 px v4 k n x10 x11))))) := rfl
def f_X3_brightest_L4 (px : Nat → Int32) (k : Int32 → Int32 → Option OUT_X3_brightest) : Nat → Int32 → Int32 → Option OUT_X3_brightest
  | 0 => fun _ _ => none
  | n + 1 => fun v3 v4 => (if 16 ≤ v4 then k v3 v4 else f_X3_brightest_L12 px v4 (fun (w13 : Int32) (w14 : Int32) => bd (v4 + 1) (fun x15 => f_X3_brightest_L4 px k n w13 x15)) 4000 v3 0)
theorem f_X3_brightest_L4_s (px : Nat → Int32) (k : Int32 → Int32 → Option OUT_X3_brightest) (n : Nat) (v3 : Int32) (v4 : Int32) : f_X3_brightest_L4 px k (n + 1) v3 v4 = ((if 16 ≤ v4 then k v3 v4 else f_X3_brightest_L12 px v4 (fun (w13 : Int32) (w14 : Int32) => bd (v4 + 1) (fun x15 => f_X3_brightest_L4 px k n w13 x15)) 4000 v3 0)) := rfl
def f_X3_brightest (px : Nat → Int32) : Option OUT_X3_brightest :=
  f_X3_brightest_L4 px (fun (w17 : Int32) (w18 : Int32) => some (w17)) 4000 0 0
theorem kX3_brightest_0 : Cond.methodLink RX3 32 Lib.Math.max.name ∈ wsX3_brightest := by decide +kernel
theorem kX3_brightest_1 : Cond.static Lib.Math.max.name ∈ wsX3_brightest := by decide +kernel
theorem kX3_brightest_2 : Cond.initialized "java/lang/Math" ∈ wsX3_brightest := by decide +kernel
theorem kX3_brightest_3 : Cond.code Lib.Math.max.name Lib.Math.max.code 2 (some .int) ∈ wsX3_brightest := by decide +kernel
abbrev R_X3_brightest : Room := { frames := 1, cells := 0, slots := 0, locals := 22 }
set_option maxHeartbeats 4000000 in
set_option maxRecDepth 100000 in
theorem m_X3_brightest (l : Launch) (D : va_G) (cI cC cZ cR : ClassId) (pi pia : Nat) (sz : Nat) (px : Nat → Int32)     (r : OUT_X3_brightest) (hf : f_X3_brightest px = some r) : Met l yX3_brightest wsX3_brightest R_X3_brightest (cPc D cI cC cZ cR [.ref pi] sz (ws_picture cI cC cZ cR pi pia px)) (cQi D (ws_picture cI cC cZ cR pi pia px) (va_A (ws_picture cI cC cZ cR pi pia px) sz) r) 0 0 (va_A (ws_picture cI cC cZ cR pi pia px) sz) := by
  refine Met.ofW (cc := cX3_brightest) (maxL := 4) (ret := (some .int)) (by decide) rfl ?_
  intro p e s m args below meth c s₁ B hml hv
  obtain ⟨rfl, hsz, hP, hK, hD0⟩ := hv
  have hx := B.exec
  have hb := B.bytes
  have hr := B.returns
  have hts := atoms_spec (ws := wsX3_brightest) B.pre
  have hown : s.vm.findClass RX3 = some m.cls := findClass_of_methodNamed B.named
  have hlocks := B.notSynchronized
  subst hsz
  have hD := hD0.self (sz := s.heap.size)
  generalize hAe : va_A (ws_picture cI cC cZ cR pi pia px) s.heap.size = A at hD ⊢
  skip
  have hA : ∀ q : Nat, s.heap.size ≤ q → A q := fun q h => by rw [← hAe]; exact Or.inr h
  have hS : va_S A s.heap s.heap [] := va_S.rf
  have hl := lv_entry ([.ref pi]) (n := 4) (Nat.le_of_ble_eq_true rfl)
  rw [lg_entry_eq]
  generalize (lg_sl ([.ref pi]) ++ List.replicate (4 - (lg_sl ([.ref pi])).length) Slot.unset).toArray = ls at hl ⊢
  have hl : lv_has ls 4 [(0, .ref pi)] := hl
  refine W_absQ (fun Q hQ => ?_)
  refine W.eq (g2 := F0 m 0 ls []) rfl ?_
  have h := hf
  unfold f_X3_brightest at h
  refine lv_iconst (v := 0) hx hb dX3_brightest_0 (by decide) ?_
  refine lv_istore_n (lv' := [(1, .int 0), (0, .ref pi)]) hx hb dX3_brightest_1 rfl hl (by decide) rfl (fun ls hl => ?_)
  refine lv_iconst (v := 0) hx hb dX3_brightest_2 (by decide) ?_
  refine lv_istore_n (lv' := [(2, .int 0), (1, .int 0), (0, .ref pi)]) hx hb dX3_brightest_3 rfl hl (by decide) rfl (fun ls hl => ?_)
  have L4 : ∀ (k : Int32 → Int32 → Option OUT_X3_brightest), (∀ (w17 : Int32) (w18 : Int32) (H : Heap) (locs : List Loc) (ls : Array Slot), k w17 w18 = some r → va_P D vwCl (ws_picture cI cC cZ cR pi pia px) H → va_D A (ws_picture cI cC cZ cR pi pia px) → va_S A s.heap H locs → lv_has ls 4 [(0, .ref pi), (1, .int w17), (2, .int w18)] → W p l e R_X3_brightest s m ([.ref pi] : List Value).toArray below meth c H locs 0 0 Q (F0 m 41 ls [])) → ∀ (n : Nat) (v3 : Int32) (v4 : Int32) (H : Heap) (locs : List Loc) (ls : Array Slot), f_X3_brightest_L4 px k n v3 v4 = some r → va_P D vwCl (ws_picture cI cC cZ cR pi pia px) H → va_D A (ws_picture cI cC cZ cR pi pia px) → va_S A s.heap H locs → lv_has ls 4 [(0, .ref pi), (1, .int v3), (2, .int v4)] → W p l e R_X3_brightest s m ([.ref pi] : List Value).toArray below meth c H locs 0 0 Q (F0 m 4 ls []) := by
    intro k K n
    induction n with
    | zero => intro v3 v4 H locs ls h; exact no_sm h
    | succ n ih =>
      intro v3 v4 H locs ls h hP hD hS hl
      rw [f_X3_brightest_L4_s] at h
      refine lv_iload_n hx hb dX3_brightest_4 rfl (lv_at hl 2 rfl) ?_
      refine lv_bipush (v := 16) hx hb dX3_brightest_5 (by decide) ?_
      refine lv_icmp_ge (tgt := 41) hx hb dX3_brightest_7 (by decide) (fun c16 => ?_) (fun c16 => ?_)
      · replace h := br_p c16 h
        exact K _ _ _ _ _ h hP hD hS (lv_sub hl [0, 1, 2] rfl)
      · replace h := br_n c16 h
        refine lv_iconst (v := 0) hx hb dX3_brightest_10 (by decide) ?_
        refine lv_istore_n (lv' := [(3, .int 0), (0, .ref pi), (1, .int v3), (2, .int v4)]) hx hb dX3_brightest_11 rfl hl (by decide) rfl (fun ls hl => ?_)
        have L12 : ∀ (k : Int32 → Int32 → Option OUT_X3_brightest), (∀ (w13 : Int32) (w14 : Int32) (H : Heap) (locs : List Loc) (ls : Array Slot), k w13 w14 = some r → va_P D vwCl (ws_picture cI cC cZ cR pi pia px) H → va_D A (ws_picture cI cC cZ cR pi pia px) → va_S A s.heap H locs → lv_has ls 4 [(0, .ref pi), (1, .int w13), (2, .int v4), (3, .int w14)] → W p l e R_X3_brightest s m ([.ref pi] : List Value).toArray below meth c H locs 0 0 Q (F0 m 35 ls [])) → ∀ (n : Nat) (v7 : Int32) (v8 : Int32) (H : Heap) (locs : List Loc) (ls : Array Slot), f_X3_brightest_L12 px v4 k n v7 v8 = some r → va_P D vwCl (ws_picture cI cC cZ cR pi pia px) H → va_D A (ws_picture cI cC cZ cR pi pia px) → va_S A s.heap H locs → lv_has ls 4 [(0, .ref pi), (1, .int v7), (2, .int v4), (3, .int v8)] → W p l e R_X3_brightest s m ([.ref pi] : List Value).toArray below meth c H locs 0 0 Q (F0 m 12 ls []) := by
          intro k K n
          induction n with
          | zero => intro v7 v8 H locs ls h; exact no_sm h
          | succ n ih =>
            intro v7 v8 H locs ls h hP hD hS hl
            rw [f_X3_brightest_L12_s] at h
            refine lv_iload_n hx hb dX3_brightest_12 rfl (lv_at hl 3 rfl) ?_
            refine lv_bipush (v := 24) hx hb dX3_brightest_13 (by decide) ?_
            refine lv_icmp_ge (tgt := 35) hx hb dX3_brightest_15 (by decide) (fun c12 => ?_) (fun c12 => ?_)
            · replace h := br_p c12 h
              exact K _ _ _ _ _ h hP hD hS (lv_sub hl [0, 1, 2, 3] rfl)
            · replace h := br_n c12 h
              refine lv_iload_n hx hb dX3_brightest_18 rfl (lv_at hl 1 rfl) ?_
              refine lv_aload_n hx hb dX3_brightest_19 rfl (lv_at hl 0 rfl) ?_
              refine lv_iload_n hx hb dX3_brightest_20 rfl (lv_at hl 2 rfl) ?_
              refine lv_iload_n hx hb dX3_brightest_21 rfl (lv_at hl 3 rfl) ?_
              obtain ⟨r9, hcr9, h⟩ := bn_sp h
              have hPc := hP.sub (ws' := (ws_picture cI cC cZ cR pi pia px)) [0, 1] rfl
              have hDc := hD.sub (ws' := (ws_picture cI cC cZ cR pi pia px)) [0, 1] (by decide) rfl
              have hFc := va_free (wc := (ws_picture cI cC cZ cR pi pia px)) hD hS hA [0, 1] rfl
              refine va_calli (va_runV (As := [.int v4, .int v8]) (rest := [.int v7]) ⟨hx, hb, hml, hown, hts⟩ (m_X3_pixelAt l D cI cC cZ cR pi pia _ px v4 v8   r9 hcr9) (cwV 2 hts gX3_brightest_X3_pixelAt rfl rfl rfl (by decide +kernel) ⟨Nat.le_of_ble_eq_true rfl, Nat.le_of_ble_eq_true rfl⟩) (cPc_pv hPc hK hDc (ci := 3) (q0 := 0) rfl rfl) rfl rfl hl.1 rfl (lv_room (Nat.le_of_ble_eq_true rfl)) dX3_brightest_22 ⟨Nat.le_of_ble_eq_true rfl, Nat.le_of_ble_eq_true rfl⟩) hS (fun q _ h => hFc q h) hFc (fun xq u t H1 locs ht hvm hw hB hz1 hk1 hS => ?_)
              rw [hw]
              obtain ⟨hP1, hD1⟩ := hB
              rw [ht] at hP1
              obtain ⟨hP, hD⟩ := va_join (wr := []) (w1 := (ws_picture cI cC cZ cR pi pia px)) hP hD [0, 1] [] rfl rfl (by decide) (by decide) hk1 hFc hP1 hD1
              generalize H1 = H at hP hS ⊢
              have hP : va_P D vwCl (ws_picture cI cC cZ cR pi pia px) H := hP
              have hD : va_D A (ws_picture cI cC cZ cR pi pia px) := hD
              refine va_mmax hx hb (by rw [hml]; exact hl.1.symm) hown (hts _ kX3_brightest_0) (hts _ kX3_brightest_1) (hts _ kX3_brightest_2) (hts _ kX3_brightest_3) (Nat.le_of_ble_eq_true rfl) (Nat.le_of_ble_eq_true rfl) (Nat.zero_le _) (Nat.zero_le _) dX3_brightest_25 ?_
              refine lv_topi (fun x10 ex10 => ?_)
              replace h := bd_s2 h ex10
              refine lv_istore_n (lv' := [(1, .int x10), (0, .ref pi), (2, .int v4), (3, .int v8)]) hx hb dX3_brightest_28 rfl hl (by decide) rfl (fun ls hl => ?_)
              obtain ⟨x11, ex11, h⟩ := bd_sp h
              refine lv_iinc (v := x11) (lv' := [(3, .int x11), (1, .int x10), (0, .ref pi), (2, .int v4)]) hx hb dX3_brightest_29 hl (k := 3) rfl (by rw [ex11]; rfl) (by decide) rfl (fun ls hl => ?_)
              refine lv_goto (tgt := 12) hx hb dX3_brightest_32 (by decide) ?_
              exact ih _ _ _ _ _ h hP hD hS (lv_sub hl [2, 1, 3, 0] rfl)
        refine L12 _ (fun w13 w14 H locs ls h hP hD hS hl => ?_) 4000 v3 0 _ _ _ h hP hD hS (lv_sub hl [1, 2, 3, 0] rfl)
        obtain ⟨x15, ex15, h⟩ := bd_sp h
        refine lv_iinc (v := x15) (lv' := [(2, .int x15), (0, .ref pi), (1, .int w13), (3, .int w14)]) hx hb dX3_brightest_35 hl (k := 2) rfl (by rw [ex15]; rfl) (by decide) rfl (fun ls hl => ?_)
        refine lv_goto (tgt := 4) hx hb dX3_brightest_38 (by decide) ?_
        exact ih _ _ _ _ _ h hP hD hS (lv_sub hl [1, 2, 0] rfl)
  refine L4 _ (fun w17 w18 H locs ls h hP hD hS hl => ?_) 4000 0 0 _ _ _ h hP hD hS (lv_sub hl [2, 1, 0] rfl)
  refine lv_iload_n hx hb dX3_brightest_41 rfl (lv_at hl 1 rfl) ?_
  have e9 := Option.some.inj h
  subst e9
  rw [hQ]
  exact W.iret (v := w17) hx hb hr (fun t ht hW => ⟨⟨w17, (), rfl, rfl, by rw [ht]; exact hP, hD⟩, hS.F ht⟩) hS.2.2 dX3_brightest_42
-- LeaningLines$Picture.bands
abbrev OUT_X3_bands : Type := Int32
def f_X3_bands_L4 (px : Nat → Int32) (k : Int32 → Int32 → Option OUT_X3_bands) : Nat → Int32 → Int32 → Option OUT_X3_bands
  | 0 => fun _ _ => none
  | n + 1 => fun v3 v4 => (if 16 ≤ v4 then k v3 v4 else bn (f_X3_columnsNotDark px v4) (fun r5 => jn (fun (j6 : Int32) => bn (f_X3_columnsNotDark px (v4 - 1)) (fun r7 => jn (fun (j8 : Int32) => (if j6 = j8 then bd (v4 + 1) (fun x9 => f_X3_bands_L4 px k n v3 x9) else bd (v3 + 1) (fun x10 => bd (v4 + 1) (fun x11 => f_X3_bands_L4 px k n x10 x11)))) (fun j38 => (if ¬ r7 = 0 then j38 0 else j38 1)))) (fun j23 => (if ¬ r5 = 0 then j23 0 else j23 1))))
theorem f_X3_bands_L4_s (px : Nat → Int32) (k : Int32 → Int32 → Option OUT_X3_bands) (n : Nat) (v3 : Int32) (v4 : Int32) : f_X3_bands_L4 px k (n + 1) v3 v4 = ((if 16 ≤ v4 then k v3 v4 else bn (f_X3_columnsNotDark px v4) (fun r5 => jn (fun (j6 : Int32) => bn (f_X3_columnsNotDark px (v4 - 1)) (fun r7 => jn (fun (j8 : Int32) => (if j6 = j8 then bd (v4 + 1) (fun x9 => f_X3_bands_L4 px k n v3 x9) else bd (v3 + 1) (fun x10 => bd (v4 + 1) (fun x11 => f_X3_bands_L4 px k n x10 x11)))) (fun j38 => (if ¬ r7 = 0 then j38 0 else j38 1)))) (fun j23 => (if ¬ r5 = 0 then j23 0 else j23 1))))) := rfl
def f_X3_bands (px : Nat → Int32) : Option OUT_X3_bands :=
  f_X3_bands_L4 px (fun (w16 : Int32) (w17 : Int32) => some (w16)) 4000 0 1
abbrev R_X3_bands : Room := { frames := 2, cells := 0, slots := 0, locals := 45 }
set_option maxHeartbeats 4000000 in
set_option maxRecDepth 100000 in
theorem m_X3_bands (l : Launch) (D : va_G) (cI cC cZ cR : ClassId) (pi pia : Nat) (sz : Nat) (px : Nat → Int32)     (r : OUT_X3_bands) (hf : f_X3_bands px = some r) : Met l yX3_bands wsX3_bands R_X3_bands (cPc D cI cC cZ cR [.ref pi] sz (ws_picture cI cC cZ cR pi pia px)) (cQi D (ws_picture cI cC cZ cR pi pia px) (va_A (ws_picture cI cC cZ cR pi pia px) sz) r) 0 0 (va_A (ws_picture cI cC cZ cR pi pia px) sz) := by
  refine Met.ofW (cc := cX3_bands) (maxL := 3) (ret := (some .int)) (by decide) rfl ?_
  intro p e s m args below meth c s₁ B hml hv
  obtain ⟨rfl, hsz, hP, hK, hD0⟩ := hv
  have hx := B.exec
  have hb := B.bytes
  have hr := B.returns
  have hts := atoms_spec (ws := wsX3_bands) B.pre
  have hown : s.vm.findClass RX3 = some m.cls := findClass_of_methodNamed B.named
  have hlocks := B.notSynchronized
  subst hsz
  have hD := hD0.self (sz := s.heap.size)
  generalize hAe : va_A (ws_picture cI cC cZ cR pi pia px) s.heap.size = A at hD ⊢
  skip
  have hA : ∀ q : Nat, s.heap.size ≤ q → A q := fun q h => by rw [← hAe]; exact Or.inr h
  have hS : va_S A s.heap s.heap [] := va_S.rf
  have hl := lv_entry ([.ref pi]) (n := 3) (Nat.le_of_ble_eq_true rfl)
  rw [lg_entry_eq]
  generalize (lg_sl ([.ref pi]) ++ List.replicate (3 - (lg_sl ([.ref pi])).length) Slot.unset).toArray = ls at hl ⊢
  have hl : lv_has ls 3 [(0, .ref pi)] := hl
  refine W_absQ (fun Q hQ => ?_)
  refine W.eq (g2 := F0 m 0 ls []) rfl ?_
  have h := hf
  unfold f_X3_bands at h
  refine lv_iconst (v := 0) hx hb dX3_bands_0 (by decide) ?_
  refine lv_istore_n (lv' := [(1, .int 0), (0, .ref pi)]) hx hb dX3_bands_1 rfl hl (by decide) rfl (fun ls hl => ?_)
  refine lv_iconst (v := 1) hx hb dX3_bands_2 (by decide) ?_
  refine lv_istore_n (lv' := [(2, .int 1), (1, .int 0), (0, .ref pi)]) hx hb dX3_bands_3 rfl hl (by decide) rfl (fun ls hl => ?_)
  have L4 : ∀ (k : Int32 → Int32 → Option OUT_X3_bands), (∀ (w16 : Int32) (w17 : Int32) (H : Heap) (locs : List Loc) (ls : Array Slot), k w16 w17 = some r → va_P D vwCl (ws_picture cI cC cZ cR pi pia px) H → va_D A (ws_picture cI cC cZ cR pi pia px) → va_S A s.heap H locs → lv_has ls 3 [(0, .ref pi), (1, .int w16), (2, .int w17)] → W p l e R_X3_bands s m ([.ref pi] : List Value).toArray below meth c H locs 0 0 Q (F0 m 50 ls [])) → ∀ (n : Nat) (v3 : Int32) (v4 : Int32) (H : Heap) (locs : List Loc) (ls : Array Slot), f_X3_bands_L4 px k n v3 v4 = some r → va_P D vwCl (ws_picture cI cC cZ cR pi pia px) H → va_D A (ws_picture cI cC cZ cR pi pia px) → va_S A s.heap H locs → lv_has ls 3 [(0, .ref pi), (1, .int v3), (2, .int v4)] → W p l e R_X3_bands s m ([.ref pi] : List Value).toArray below meth c H locs 0 0 Q (F0 m 4 ls []) := by
    intro k K n
    induction n with
    | zero => intro v3 v4 H locs ls h; exact no_sm h
    | succ n ih =>
      intro v3 v4 H locs ls h hP hD hS hl
      rw [f_X3_bands_L4_s] at h
      refine lv_iload_n hx hb dX3_bands_4 rfl (lv_at hl 2 rfl) ?_
      refine lv_bipush (v := 16) hx hb dX3_bands_5 (by decide) ?_
      refine lv_icmp_ge (tgt := 50) hx hb dX3_bands_7 (by decide) (fun c15 => ?_) (fun c15 => ?_)
      · replace h := br_p c15 h
        exact K _ _ _ _ _ h hP hD hS (lv_sub hl [0, 1, 2] rfl)
      · replace h := br_n c15 h
        refine lv_aload_n hx hb dX3_bands_10 rfl (lv_at hl 0 rfl) ?_
        refine lv_iload_n hx hb dX3_bands_11 rfl (lv_at hl 2 rfl) ?_
        obtain ⟨r5, hcr5, h⟩ := bn_sp h
        have hPc := hP.sub (ws' := (ws_picture cI cC cZ cR pi pia px)) [0, 1] rfl
        have hDc := hD.sub (ws' := (ws_picture cI cC cZ cR pi pia px)) [0, 1] (by decide) rfl
        have hFc := va_free (wc := (ws_picture cI cC cZ cR pi pia px)) hD hS hA [0, 1] rfl
        refine va_calli (va_runV (As := [.int v4]) (rest := []) ⟨hx, hb, hml, hown, hts⟩ (m_X3_columnsNotDark l D cI cC cZ cR pi pia _ px v4   r5 hcr5) (cwV 1 hts gX3_bands_X3_columnsNotDark rfl rfl rfl (by decide +kernel) ⟨Nat.le_of_ble_eq_true rfl, Nat.le_of_ble_eq_true rfl⟩) (cPc_pv hPc hK hDc (ci := 3) (q0 := 0) rfl rfl) rfl rfl hl.1 rfl (lv_room (Nat.le_of_ble_eq_true rfl)) dX3_bands_12 ⟨Nat.le_of_ble_eq_true rfl, Nat.le_of_ble_eq_true rfl⟩) hS (fun q _ h => hFc q h) hFc (fun xq u t H1 locs ht hvm hw hB hz1 hk1 hS => ?_)
        rw [hw]
        obtain ⟨hP1, hD1⟩ := hB
        rw [ht] at hP1
        obtain ⟨hP, hD⟩ := va_join (wr := []) (w1 := (ws_picture cI cC cZ cR pi pia px)) hP hD [0, 1] [] rfl rfl (by decide) (by decide) hk1 hFc hP1 hD1
        generalize H1 = H at hP hS ⊢
        have hP : va_P D vwCl (ws_picture cI cC cZ cR pi pia px) H := hP
        have hD : va_D A (ws_picture cI cC cZ cR pi pia px) := hD
        obtain ⟨j23, hj23, h⟩ := jn_sp h
        have J23 : ∀ (j6 : Int32) (H : Heap) (locs : List Loc) (ls : Array Slot), j23 j6 = some r → va_P D vwCl (ws_picture cI cC cZ cR pi pia px) H → va_D A (ws_picture cI cC cZ cR pi pia px) → va_S A s.heap H locs → lv_has ls 3 [(0, .ref pi), (1, .int v3), (2, .int v4)] → W p l e R_X3_bands s m ([.ref pi] : List Value).toArray below meth c H locs 0 0 Q (F0 m 23 ls [.int j6]) := by
          intro j6 H locs ls h hP hD hS hl
          rw [hj23] at h
          refine lv_aload_n hx hb dX3_bands_23 rfl (lv_at hl 0 rfl) ?_
          refine lv_iload_n hx hb dX3_bands_24 rfl (lv_at hl 2 rfl) ?_
          refine lv_iconst (v := 1) hx hb dX3_bands_25 (by decide) ?_
          refine lv_isub hx hb dX3_bands_26 ?_
          obtain ⟨r7, hcr7, h⟩ := bn_sp h
          have hPc := hP.sub (ws' := (ws_picture cI cC cZ cR pi pia px)) [0, 1] rfl
          have hDc := hD.sub (ws' := (ws_picture cI cC cZ cR pi pia px)) [0, 1] (by decide) rfl
          have hFc := va_free (wc := (ws_picture cI cC cZ cR pi pia px)) hD hS hA [0, 1] rfl
          refine va_calli (va_runV (As := [.int (v4 - 1)]) (rest := [.int j6]) ⟨hx, hb, hml, hown, hts⟩ (m_X3_columnsNotDark l D cI cC cZ cR pi pia _ px (v4 - 1)   r7 hcr7) (cwV 1 hts gX3_bands_X3_columnsNotDark rfl rfl rfl (by decide +kernel) ⟨Nat.le_of_ble_eq_true rfl, Nat.le_of_ble_eq_true rfl⟩) (cPc_pv hPc hK hDc (ci := 3) (q0 := 0) rfl rfl) rfl rfl hl.1 rfl (lv_room (Nat.le_of_ble_eq_true rfl)) dX3_bands_27 ⟨Nat.le_of_ble_eq_true rfl, Nat.le_of_ble_eq_true rfl⟩) hS (fun q _ h => hFc q h) hFc (fun xq u t H1 locs ht hvm hw hB hz1 hk1 hS => ?_)
          rw [hw]
          obtain ⟨hP1, hD1⟩ := hB
          rw [ht] at hP1
          obtain ⟨hP, hD⟩ := va_join (wr := []) (w1 := (ws_picture cI cC cZ cR pi pia px)) hP hD [0, 1] [] rfl rfl (by decide) (by decide) hk1 hFc hP1 hD1
          generalize H1 = H at hP hS ⊢
          have hP : va_P D vwCl (ws_picture cI cC cZ cR pi pia px) H := hP
          have hD : va_D A (ws_picture cI cC cZ cR pi pia px) := hD
          obtain ⟨j38, hj38, h⟩ := jn_sp h
          have J38 : ∀ (j8 : Int32) (H : Heap) (locs : List Loc) (ls : Array Slot), j38 j8 = some r → va_P D vwCl (ws_picture cI cC cZ cR pi pia px) H → va_D A (ws_picture cI cC cZ cR pi pia px) → va_S A s.heap H locs → lv_has ls 3 [(0, .ref pi), (1, .int v3), (2, .int v4)] → W p l e R_X3_bands s m ([.ref pi] : List Value).toArray below meth c H locs 0 0 Q (F0 m 38 ls [.int j8, .int j6]) := by
            intro j8 H locs ls h hP hD hS hl
            rw [hj38] at h
            refine lv_icmp_eq (tgt := 44) hx hb dX3_bands_38 (by decide) (fun c12 => ?_) (fun c12 => ?_)
            · replace h := br_p c12 h
              obtain ⟨x9, ex9, h⟩ := bd_sp h
              refine lv_iinc (v := x9) (lv' := [(2, .int x9), (0, .ref pi), (1, .int v3)]) hx hb dX3_bands_44 hl (k := 2) rfl (by rw [ex9]; rfl) (by decide) rfl (fun ls hl => ?_)
              refine lv_goto (tgt := 4) hx hb dX3_bands_47 (by decide) ?_
              exact ih _ _ _ _ _ h hP hD hS (lv_sub hl [1, 2, 0] rfl)
            · replace h := br_n c12 h
              obtain ⟨x10, ex10, h⟩ := bd_sp h
              refine lv_iinc (v := x10) (lv' := [(1, .int x10), (0, .ref pi), (2, .int v4)]) hx hb dX3_bands_41 hl (k := 1) rfl (by rw [ex10]; rfl) (by decide) rfl (fun ls hl => ?_)
              obtain ⟨x11, ex11, h⟩ := bd_sp h
              refine lv_iinc (v := x11) (lv' := [(2, .int x11), (1, .int x10), (0, .ref pi)]) hx hb dX3_bands_44 hl (k := 2) rfl (by rw [ex11]; rfl) (by decide) rfl (fun ls hl => ?_)
              refine lv_goto (tgt := 4) hx hb dX3_bands_47 (by decide) ?_
              exact ih _ _ _ _ _ h hP hD hS (lv_sub hl [2, 1, 0] rfl)
          refine lv_if_ne (tgt := 37) hx hb dX3_bands_30 (by decide) (fun c13 => ?_) (fun c13 => ?_)
          · replace h := br_p c13 h
            refine lv_iconst (v := 0) hx hb dX3_bands_37 (by decide) ?_
            exact J38 _ _ _ _ h hP hD hS (lv_sub hl [0, 1, 2] rfl)
          · replace h := br_n (not_not_intro c13) h
            refine lv_iconst (v := 1) hx hb dX3_bands_33 (by decide) ?_
            refine lv_goto (tgt := 38) hx hb dX3_bands_34 (by decide) ?_
            exact J38 _ _ _ _ h hP hD hS (lv_sub hl [0, 1, 2] rfl)
        refine lv_if_ne (tgt := 22) hx hb dX3_bands_15 (by decide) (fun c14 => ?_) (fun c14 => ?_)
        · replace h := br_p c14 h
          refine lv_iconst (v := 0) hx hb dX3_bands_22 (by decide) ?_
          exact J23 _ _ _ _ h hP hD hS (lv_sub hl [0, 1, 2] rfl)
        · replace h := br_n (not_not_intro c14) h
          refine lv_iconst (v := 1) hx hb dX3_bands_18 (by decide) ?_
          refine lv_goto (tgt := 23) hx hb dX3_bands_19 (by decide) ?_
          exact J23 _ _ _ _ h hP hD hS (lv_sub hl [0, 1, 2] rfl)
  refine L4 _ (fun w16 w17 H locs ls h hP hD hS hl => ?_) 4000 0 1 _ _ _ h hP hD hS (lv_sub hl [2, 1, 0] rfl)
  refine lv_iload_n hx hb dX3_bands_50 rfl (lv_at hl 1 rfl) ?_
  have e9 := Option.some.inj h
  subst e9
  rw [hQ]
  exact W.iret (v := w16) hx hb hr (fun t ht hW => ⟨⟨w16, (), rfl, rfl, by rw [ht]; exact hP, hD⟩, hS.F ht⟩) hS.2.2 dX3_bands_51
-- LeaningLines$Picture.putLine
abbrev OUT_X3_putLine : Type := (Nat → Int32)
def f_X3_putLine (px : Nat → Int32) (orow : Nat → Int32) (a0 : Int32) : Option OUT_X3_putLine :=
  gr (a0 * 24) 360 (some (va_cpy orow px (0 : Int32).toNatClampNeg (a0 * 24 : Int32).toNatClampNeg (24 : Int32).toNatClampNeg))
theorem uX3_putLine_X3 : ∀ w ∈ wsX30, w ∈ wsX3_putLine := by decide +kernel
theorem kX3_putLine_1 : Cond.fieldLink RX3 9 "LeaningLines$Picture" "pixels" "[I" ∈ wsX3_putLine := by decide +kernel
theorem kX3_putLine_2 : Cond.methodLink RX3 15 arraycopyName ∈ wsX3_putLine := by decide +kernel
theorem kX3_putLine_3 : Cond.native arraycopyName ∈ wsX3_putLine := by decide +kernel
theorem kX3_putLine_4 : Cond.static arraycopyName ∈ wsX3_putLine := by decide +kernel
theorem kX3_putLine_5 : Cond.initialized "java/lang/System" ∈ wsX3_putLine := by decide +kernel
abbrev R_X3_putLine : Room := { frames := 1, cells := 0, slots := 0, locals := 40 }
set_option maxHeartbeats 4000000 in
set_option maxRecDepth 100000 in
theorem m_X3_putLine (l : Launch) (D : va_G) (cI cC cZ cR : ClassId) (pi pia orw : Nat) (sz : Nat) (px : Nat → Int32) (orow : Nat → Int32)  (a0 : Int32)   (r : OUT_X3_putLine) (hf : f_X3_putLine px orow a0 = some r) : Met l yX3_putLine wsX3_putLine R_X3_putLine (cPc D cI cC cZ cR [.ref pi, .int a0, .ref orw] sz (ws_picture_row24 cI cC cZ cR pi pia orw px orow)) (cQv D (ws_picture_row24 cI cC cZ cR pi pia orw r orow) (va_A (ws_picture_row24 cI cC cZ cR pi pia orw px orow) sz)) 0 0 (va_A (ws_picture_row24 cI cC cZ cR pi pia orw px orow) sz) := by
  refine Met.ofW (cc := cX3_putLine) (maxL := 3) (ret := none) (by decide) rfl ?_
  intro p e s m args below meth c s₁ B hml hv
  obtain ⟨rfl, hsz, hP, hK, hD0⟩ := hv
  have hx := B.exec
  have hb := B.bytes
  have hr := B.returns
  have hts := atoms_spec (ws := wsX3_putLine) B.pre
  have hown : s.vm.findClass RX3 = some m.cls := findClass_of_methodNamed B.named
  have hlocks := B.notSynchronized
  subst hsz
  have hD := hD0.self (sz := s.heap.size)
  generalize hAe : va_A (ws_picture_row24 cI cC cZ cR pi pia orw px orow) s.heap.size = A at hD ⊢
  skip
  have hA : ∀ q : Nat, s.heap.size ≤ q → A q := fun q h => by rw [← hAe]; exact Or.inr h
  have hS : va_S A s.heap s.heap [] := va_S.rf
  have hl := lv_entry ([.ref pi, .int a0, .ref orw]) (n := 3) (Nat.le_of_ble_eq_true rfl)
  rw [lg_entry_eq]
  generalize (lg_sl ([.ref pi, .int a0, .ref orw]) ++ List.replicate (3 - (lg_sl ([.ref pi, .int a0, .ref orw])).length) Slot.unset).toArray = ls at hl ⊢
  have hl : lv_has ls 3 [(0, .ref pi), (1, .int a0), (2, .ref orw)] := hl
  refine W_absQ (fun Q hQ => ?_)
  refine W.eq (g2 := F0 m 0 ls []) rfl ?_
  have h := hf
  unfold f_X3_putLine at h
  refine lv_aload_n hx hb dX3_putLine_0 rfl (lv_at hl 2 rfl) ?_
  refine lv_iconst (v := 0) hx hb dX3_putLine_1 (by decide) ?_
  refine lv_aload_n hx hb dX3_putLine_2 rfl (lv_at hl 0 rfl) ?_
  refine va_get (D := D) (ci := 3) (v := .ref pia) (C := RX3) (T := TX3) (N := 1) hx hb hts uX3_putLine_X3 hown hK.1 hP 0 rfl rfl 0 (by decide) (hts _ kX3_putLine_1) (fun _ h9 => h9) rfl dX3_putLine_3 ?_
  refine lv_iload_n hx hb dX3_putLine_6 rfl (lv_at hl 1 rfl) ?_
  refine lv_bipush (v := 24) hx hb dX3_putLine_7 (by decide) ?_
  refine lv_imul hx hb dX3_putLine_9 ?_
  refine lv_bipush (v := 24) hx hb dX3_putLine_10 (by decide) ?_
  obtain ⟨hr2, hr5, h⟩ := gr_sp h
  refine va_copyi (D := D) hx hb (by rw [hml]; exact hl.1.symm) hown (hts _ kX3_putLine_2) (hts _ kX3_putLine_3) (hts _ kX3_putLine_4) (hts _ kX3_putLine_5) hK.1 hP hD hS 2 1 0 0 rfl rfl rfl rfl rfl (by decide) hr2 (by decide) (Nat.le_of_ble_eq_true rfl) (by have := hr5; show _ + 24 ≤ 384; omega) (fun _ _ => rfl) (Nat.le_of_ble_eq_true rfl) (Nat.le_of_ble_eq_true rfl) dX3_putLine_12 (fun H locs hP hD hS => ?_)
  have hP : va_P D vwCl (ws_picture_row24 cI cC cZ cR pi pia orw (va_cpy orow px (0 : Int32).toNatClampNeg (a0 * 24 : Int32).toNatClampNeg (24 : Int32).toNatClampNeg) orow) H := hP
  have hD : va_D A (ws_picture_row24 cI cC cZ cR pi pia orw (va_cpy orow px (0 : Int32).toNatClampNeg (a0 * 24 : Int32).toNatClampNeg (24 : Int32).toNatClampNeg) orow) := hD
  have e9 := Option.some.inj h
  subst e9
  rw [hQ]
  exact W.vret hx hb hr (fun t ht hW => ⟨⟨(), rfl, trivial, by rw [ht]; exact hP, hD⟩, hS.F ht⟩) hS.2.2 dX3_putLine_15
-- LeaningLines$Picture.copyFrom
abbrev OUT_X3_copyFrom : Type := (Nat → Int32)
def f_X3_copyFrom (px : Nat → Int32) (opx : Nat → Int32) : Option OUT_X3_copyFrom :=
  some (va_cpy opx px (0 : Int32).toNatClampNeg (0 : Int32).toNatClampNeg (384 : Int32).toNatClampNeg)
theorem uX3_copyFrom_X3 : ∀ w ∈ wsX30, w ∈ wsX3_copyFrom := by decide +kernel
theorem kX3_copyFrom_1 : Cond.fieldLink RX3 9 "LeaningLines$Picture" "pixels" "[I" ∈ wsX3_copyFrom := by decide +kernel
theorem kX3_copyFrom_2 : Cond.methodLink RX3 15 arraycopyName ∈ wsX3_copyFrom := by decide +kernel
theorem kX3_copyFrom_3 : Cond.native arraycopyName ∈ wsX3_copyFrom := by decide +kernel
theorem kX3_copyFrom_4 : Cond.static arraycopyName ∈ wsX3_copyFrom := by decide +kernel
theorem kX3_copyFrom_5 : Cond.initialized "java/lang/System" ∈ wsX3_copyFrom := by decide +kernel
abbrev R_X3_copyFrom : Room := { frames := 1, cells := 0, slots := 0, locals := 40 }
set_option maxHeartbeats 4000000 in
set_option maxRecDepth 100000 in
theorem m_X3_copyFrom (l : Launch) (D : va_G) (cI cC cZ cR : ClassId) (pi pia opi opia : Nat) (sz : Nat) (px : Nat → Int32) (opx : Nat → Int32)     (r : OUT_X3_copyFrom) (hf : f_X3_copyFrom px opx = some r) : Met l yX3_copyFrom wsX3_copyFrom R_X3_copyFrom (cPc D cI cC cZ cR [.ref pi, .ref opi] sz (ws_picture_picture cI cC cZ cR pi pia opi opia px opx)) (cQv D (ws_picture_picture cI cC cZ cR pi pia opi opia r opx) (va_A (ws_picture_picture cI cC cZ cR pi pia opi opia px opx) sz)) 0 0 (va_A (ws_picture_picture cI cC cZ cR pi pia opi opia px opx) sz) := by
  refine Met.ofW (cc := cX3_copyFrom) (maxL := 2) (ret := none) (by decide) rfl ?_
  intro p e s m args below meth c s₁ B hml hv
  obtain ⟨rfl, hsz, hP, hK, hD0⟩ := hv
  have hx := B.exec
  have hb := B.bytes
  have hr := B.returns
  have hts := atoms_spec (ws := wsX3_copyFrom) B.pre
  have hown : s.vm.findClass RX3 = some m.cls := findClass_of_methodNamed B.named
  have hlocks := B.notSynchronized
  subst hsz
  have hD := hD0.self (sz := s.heap.size)
  generalize hAe : va_A (ws_picture_picture cI cC cZ cR pi pia opi opia px opx) s.heap.size = A at hD ⊢
  skip
  have hA : ∀ q : Nat, s.heap.size ≤ q → A q := fun q h => by rw [← hAe]; exact Or.inr h
  have hS : va_S A s.heap s.heap [] := va_S.rf
  have hl := lv_entry ([.ref pi, .ref opi]) (n := 2) (Nat.le_of_ble_eq_true rfl)
  rw [lg_entry_eq]
  generalize (lg_sl ([.ref pi, .ref opi]) ++ List.replicate (2 - (lg_sl ([.ref pi, .ref opi])).length) Slot.unset).toArray = ls at hl ⊢
  have hl : lv_has ls 2 [(0, .ref pi), (1, .ref opi)] := hl
  refine W_absQ (fun Q hQ => ?_)
  refine W.eq (g2 := F0 m 0 ls []) rfl ?_
  have h := hf
  unfold f_X3_copyFrom at h
  refine lv_aload_n hx hb dX3_copyFrom_0 rfl (lv_at hl 1 rfl) ?_
  refine va_get (D := D) (ci := 3) (v := .ref opia) (C := RX3) (T := TX3) (N := 1) hx hb hts uX3_copyFrom_X3 hown hK.1 hP 2 rfl rfl 0 (by decide) (hts _ kX3_copyFrom_1) (fun _ h9 => h9) rfl dX3_copyFrom_1 ?_
  refine lv_iconst (v := 0) hx hb dX3_copyFrom_4 (by decide) ?_
  refine lv_aload_n hx hb dX3_copyFrom_5 rfl (lv_at hl 0 rfl) ?_
  refine va_get (D := D) (ci := 3) (v := .ref pia) (C := RX3) (T := TX3) (N := 1) hx hb hts uX3_copyFrom_X3 hown hK.1 hP 0 rfl rfl 0 (by decide) (hts _ kX3_copyFrom_1) (fun _ h9 => h9) rfl dX3_copyFrom_6 ?_
  refine lv_iconst (v := 0) hx hb dX3_copyFrom_9 (by decide) ?_
  refine lv_sipush (v := 384) hx hb dX3_copyFrom_10 (by decide) ?_
  refine va_copyi (D := D) hx hb (by rw [hml]; exact hl.1.symm) hown (hts _ kX3_copyFrom_2) (hts _ kX3_copyFrom_3) (hts _ kX3_copyFrom_4) (hts _ kX3_copyFrom_5) hK.1 hP hD hS 3 1 0 0 rfl rfl rfl rfl rfl (by decide) (by decide) (by decide) (Nat.le_of_ble_eq_true rfl) (Nat.le_of_ble_eq_true rfl) (fun _ _ => rfl) (Nat.le_of_ble_eq_true rfl) (Nat.le_of_ble_eq_true rfl) dX3_copyFrom_13 (fun H locs hP hD hS => ?_)
  have hP : va_P D vwCl (ws_picture_picture cI cC cZ cR pi pia opi opia (va_cpy opx px (0 : Int32).toNatClampNeg (0 : Int32).toNatClampNeg (384 : Int32).toNatClampNeg) opx) H := hP
  have hD : va_D A (ws_picture_picture cI cC cZ cR pi pia opi opia (va_cpy opx px (0 : Int32).toNatClampNeg (0 : Int32).toNatClampNeg (384 : Int32).toNatClampNeg) opx) := hD
  have e9 := Option.some.inj h
  subst e9
  rw [hQ]
  exact W.vret hx hb hr (fun t ht hW => ⟨⟨(), rfl, trivial, by rw [ht]; exact hP, hD⟩, hS.F ht⟩) hS.2.2 dX3_copyFrom_16
