abbrev ws_pad (cI cC cZ cR : ClassId) (pd pda : Nat) (pl : Int32) (tx : Nat → Int32) : va_W := [(pd, .inr (2, [.ref pda, .int pl])), (pda, .inl (cC, 80, .inl tx))]
abbrev ws_reader (cI cC cZ cR : ClassId) (rd rda pd pda : Nat) (pl : Int32) (tx : Nat → Int32) (at_ : Int32) (kd : Int32) (va : Nat → Int32) : va_W := [(rd, .inr (4, [.ref pd, .int at_, .int kd, .ref rda])), (pd, .inr (2, [.ref pda, .int pl])), (pda, .inl (cC, 80, .inl tx)), (rda, .inl (cI, 7, .inl va))]
-- LeaningLines$Pad.charactersIn
abbrev OUT_X2_charactersIn : Type := Int32
def f_X2_charactersIn_L4  (k : Int32 → Int64 → Option OUT_X2_charactersIn) : Nat → Int32 → Int64 → Option OUT_X2_charactersIn
  | 0 => fun _ _ => none
  | n + 1 => fun v3 v4 => (if 8 ≤ v3 then k v3 v4 else (if (lg_cmp (v4 &&& 255) 0) = 0 then k v3 v4 else bn (f_X7_within (((v4 &&& 255) : Int64).toInt32) 33 126) (fun r5 => (if ¬ r5 = 0 then bd (((v4 : Int64).toUInt64 >>> ((8 : Int32).toInt64.toUInt64 &&& Int64.toUInt64 63)).toInt64) (fun x6 => bd (v3 + 1) (fun x7 => f_X2_charactersIn_L4 k n x7 x6)) else some (0)))))
theorem f_X2_charactersIn_L4_s  (k : Int32 → Int64 → Option OUT_X2_charactersIn) (n : Nat) (v3 : Int32) (v4 : Int64) : f_X2_charactersIn_L4  k (n + 1) v3 v4 = ((if 8 ≤ v3 then k v3 v4 else (if (lg_cmp (v4 &&& 255) 0) = 0 then k v3 v4 else bn (f_X7_within (((v4 &&& 255) : Int64).toInt32) 33 126) (fun r5 => (if ¬ r5 = 0 then bd (((v4 : Int64).toUInt64 >>> ((8 : Int32).toInt64.toUInt64 &&& Int64.toUInt64 63)).toInt64) (fun x6 => bd (v3 + 1) (fun x7 => f_X2_charactersIn_L4 k n x7 x6)) else some (0)))))) := rfl
def f_X2_charactersIn (a0 : Int64) : Option OUT_X2_charactersIn :=
  f_X2_charactersIn_L4  (fun (w11 : Int32) (w12 : Int64) => (if ¬ (lg_cmp w12 0) = 0 then some (0) else some (w11))) 4000 0 a0
theorem kX2_charactersIn_0 : Cond.constantLong RX2 19 (255) ∈ wsX2_charactersIn := by decide +kernel
theorem kX2_charactersIn_1 : Cond.initialized RX7 ∈ wsX2_charactersIn := by decide +kernel
theorem kX2_charactersIn_2 : Cond.static yX7_within ∈ wsX2_charactersIn := by decide +kernel
abbrev R_X2_charactersIn : Room := { frames := 1, cells := 0, slots := 0, locals := 22 }
set_option maxHeartbeats 4000000 in
set_option maxRecDepth 100000 in
theorem m_X2_charactersIn (l : Launch) (D : va_G) (cI cC cZ cR : ClassId)  (sz : Nat)   (a0 : Int64)   (r : OUT_X2_charactersIn) (hf : f_X2_charactersIn a0 = some r) : Met l yX2_charactersIn wsX2_charactersIn R_X2_charactersIn (cPc D cI cC cZ cR [.long a0] sz []) (cQi D [] (va_A [] sz) r) 0 0 (va_A [] sz) := by
  refine Met.ofW (cc := cX2_charactersIn) (maxL := 5) (ret := (some .int)) (by decide) rfl ?_
  intro p e s m args below meth c s₁ B hml hv
  obtain ⟨rfl, hsz, hP, hK, hD0⟩ := hv
  have hx := B.exec
  have hb := B.bytes
  have hr := B.returns
  have hts := atoms_spec (ws := wsX2_charactersIn) B.pre
  have hown : s.vm.findClass RX2 = some m.cls := findClass_of_methodNamed B.named
  have hlocks := B.notSynchronized
  subst hsz
  have hD := hD0.self (sz := s.heap.size)
  generalize hAe : va_A [] s.heap.size = A at hD ⊢
  skip
  have hA : ∀ q : Nat, s.heap.size ≤ q → A q := fun q h => by rw [← hAe]; exact Or.inr h
  have hS : va_S A s.heap s.heap [] := va_S.rf
  have hl := lv_entry ([.long a0]) (n := 5) (Nat.le_of_ble_eq_true rfl)
  rw [lg_entry_eq]
  generalize (lg_sl ([.long a0]) ++ List.replicate (5 - (lg_sl ([.long a0])).length) Slot.unset).toArray = ls at hl ⊢
  have hl : lv_has ls 5 [(0, .long a0)] := hl
  refine W_absQ (fun Q hQ => ?_)
  refine W.eq (g2 := F0 m 0 ls []) rfl ?_
  have h := hf
  unfold f_X2_charactersIn at h
  refine lv_iconst (v := 0) hx hb dX2_charactersIn_0 (by decide) ?_
  refine lv_istore_n (lv' := [(2, .int 0), (0, .long a0)]) hx hb dX2_charactersIn_1 rfl hl (by decide) rfl (fun ls hl => ?_)
  refine lv_lload_n hx hb dX2_charactersIn_2 rfl (lv_at hl 1 rfl) ?_
  refine lv_lstore_n (lv' := [(3, .long a0), (2, .int 0), (0, .long a0)]) hx hb dX2_charactersIn_3 rfl hl (by decide) rfl (fun ls hl => ?_)
  have L4 : ∀ (k : Int32 → Int64 → Option OUT_X2_charactersIn), (∀ (w11 : Int32) (w12 : Int64) (H : Heap) (locs : List Loc) (ls : Array Slot), k w11 w12 = some r → va_P D vwCl [] H → va_D A [] → va_S A s.heap H locs → lv_has ls 5 [(0, .long a0), (2, .int w11), (3, .long w12)] → W p l e R_X2_charactersIn s m ([.long a0] : List Value).toArray below meth c H locs 0 0 Q (F0 m 49 ls [])) → ∀ (n : Nat) (v3 : Int32) (v4 : Int64) (H : Heap) (locs : List Loc) (ls : Array Slot), f_X2_charactersIn_L4  k n v3 v4 = some r → va_P D vwCl [] H → va_D A [] → va_S A s.heap H locs → lv_has ls 5 [(0, .long a0), (2, .int v3), (3, .long v4)] → W p l e R_X2_charactersIn s m ([.long a0] : List Value).toArray below meth c H locs 0 0 Q (F0 m 4 ls []) := by
    intro k K n
    induction n with
    | zero => intro v3 v4 H locs ls h; exact no_sm h
    | succ n ih =>
      intro v3 v4 H locs ls h hP hD hS hl
      rw [f_X2_charactersIn_L4_s] at h
      refine lv_iload_n hx hb dX2_charactersIn_4 rfl (lv_at hl 1 rfl) ?_
      refine lv_bipush (v := 8) hx hb dX2_charactersIn_5 (by decide) ?_
      refine lv_icmp_ge (tgt := 49) hx hb dX2_charactersIn_7 (by decide) (fun c10 => ?_) (fun c10 => ?_)
      · replace h := br_p c10 h
        exact K _ _ _ _ _ h hP hD hS (lv_sub hl [0, 1, 2] rfl)
      · replace h := br_n c10 h
        refine lv_lload_n hx hb dX2_charactersIn_10 rfl (lv_at hl 2 rfl) ?_
        refine lv_ldc2 (v := 255) hx hb hown (hts _ kX2_charactersIn_0) dX2_charactersIn_11 ?_
        refine lv_land hx hb dX2_charactersIn_14 ?_
        refine lv_lconst (v := 0) hx hb dX2_charactersIn_15 (by decide) ?_
        refine W.lcmp hx hb dX2_charactersIn_16 ?_
        refine lv_if_eq (tgt := 49) hx hb dX2_charactersIn_17 (by decide) (fun c9 => ?_) (fun c9 => ?_)
        · replace h := br_p c9 h
          exact K _ _ _ _ _ h hP hD hS (lv_sub hl [0, 1, 2] rfl)
        · replace h := br_n c9 h
          refine lv_lload_n hx hb dX2_charactersIn_20 rfl (lv_at hl 2 rfl) ?_
          refine lv_ldc2 (v := 255) hx hb hown (hts _ kX2_charactersIn_0) dX2_charactersIn_21 ?_
          refine lv_land hx hb dX2_charactersIn_24 ?_
          refine lv_l2i (v := ((v4 &&& 255) : Int64).toInt32) hx hb dX2_charactersIn_25 rfl ?_
          refine lv_bipush (v := 33) hx hb dX2_charactersIn_26 (by decide) ?_
          refine lv_bipush (v := 126) hx hb dX2_charactersIn_28 (by decide) ?_
          obtain ⟨r5, hcr5, h⟩ := bn_sp h
          have hPc := hP.sub (ws' := []) [] rfl
          have hDc := hD.sub (ws' := []) [] (by decide) rfl
          have hFc := va_free (wc := []) hD hS hA [] rfl
          refine va_calli (va_runSN (As := [.int (((v4 &&& 255) : Int64).toInt32), .int 33, .int 126]) (rest := []) ⟨hx, hb, hml, hown, hts⟩ (m_X7_within l D cI cC cZ cR  _  (((v4 &&& 255) : Int64).toInt32) 33 126   r5 hcr5) ⟨va_cnB (host := "LeaningLines") 3 hts gX2_charactersIn_X7_within_n21 rfl rfl rfl hK.2.2.2.2.2.2.2.2.2.2.1 (hts _ kX2_charactersIn_1) (by decide +kernel) ⟨Nat.le_of_ble_eq_true rfl, Nat.le_of_ble_eq_true rfl⟩, hts _ kX2_charactersIn_2, trivial⟩ (cPc_ps hPc hK hDc) rfl rfl hl.1 rfl (lv_room (Nat.le_of_ble_eq_true rfl)) dX2_charactersIn_30 ⟨Nat.le_of_ble_eq_true rfl, Nat.le_of_ble_eq_true rfl⟩) hS (fun q _ h => hFc q h) hFc (fun xq u t H1 locs ht hvm hw hB hz1 hk1 hS => ?_)
          rw [hw]
          obtain ⟨hP1, hD1⟩ := hB
          rw [ht] at hP1
          obtain ⟨hP, hD⟩ := va_join (wr := []) (w1 := []) hP hD [] [] rfl rfl (by decide) (by decide) hk1 hFc hP1 hD1
          generalize H1 = H at hP hS ⊢
          have hP : va_P D vwCl [] H := hP
          have hD : va_D A [] := hD
          refine lv_if_ne (tgt := 38) hx hb dX2_charactersIn_33 (by decide) (fun c8 => ?_) (fun c8 => ?_)
          · replace h := br_p c8 h
            refine lv_lload_n hx hb dX2_charactersIn_38 rfl (lv_at hl 2 rfl) ?_
            refine lv_bipush (v := 8) hx hb dX2_charactersIn_39 (by decide) ?_
            refine lv_lushr (v := ((v4 : Int64).toUInt64 >>> ((8 : Int32).toInt64.toUInt64 &&& Int64.toUInt64 63)).toInt64) hx hb dX2_charactersIn_41 rfl ?_
            refine lv_topl (fun x6 ex6 => ?_)
            replace h := bd_s2 h ex6
            refine lv_lstore_n (lv' := [(3, .long x6), (0, .long a0), (2, .int v3)]) hx hb dX2_charactersIn_42 rfl hl (by decide) rfl (fun ls hl => ?_)
            obtain ⟨x7, ex7, h⟩ := bd_sp h
            refine lv_iinc (v := x7) (lv' := [(2, .int x7), (3, .long x6), (0, .long a0)]) hx hb dX2_charactersIn_43 hl (k := 2) rfl (by rw [ex7]; rfl) (by decide) rfl (fun ls hl => ?_)
            refine lv_goto (tgt := 4) hx hb dX2_charactersIn_46 (by decide) ?_
            exact ih _ _ _ _ _ h hP hD hS (lv_sub hl [2, 0, 1] rfl)
          · replace h := br_n (not_not_intro c8) h
            refine lv_iconst (v := 0) hx hb dX2_charactersIn_36 (by decide) ?_
            have e9 := Option.some.inj h
            subst e9
            rw [hQ]
            exact W.iret (v := 0) hx hb hr (fun t ht hW => ⟨⟨0, (), rfl, rfl, by rw [ht]; exact hP, hD⟩, hS.F ht⟩) hS.2.2 dX2_charactersIn_37
  refine L4 _ (fun w11 w12 H locs ls h hP hD hS hl => ?_) 4000 0 a0 _ _ _ h hP hD hS (lv_sub hl [2, 1, 0] rfl)
  refine lv_lload_n hx hb dX2_charactersIn_49 rfl (lv_at hl 2 rfl) ?_
  refine lv_lconst (v := 0) hx hb dX2_charactersIn_50 (by decide) ?_
  refine W.lcmp hx hb dX2_charactersIn_51 ?_
  refine lv_if_ne (tgt := 59) hx hb dX2_charactersIn_52 (by decide) (fun c13 => ?_) (fun c13 => ?_)
  · replace h := br_p c13 h
    refine lv_iconst (v := 0) hx hb dX2_charactersIn_59 (by decide) ?_
    have e9 := Option.some.inj h
    subst e9
    rw [hQ]
    exact W.iret (v := 0) hx hb hr (fun t ht hW => ⟨⟨0, (), rfl, rfl, by rw [ht]; exact hP, hD⟩, hS.F ht⟩) hS.2.2 dX2_charactersIn_60
  · replace h := br_n (not_not_intro c13) h
    refine lv_iload_n hx hb dX2_charactersIn_55 rfl (lv_at hl 1 rfl) ?_
    refine lv_goto (tgt := 60) hx hb dX2_charactersIn_56 (by decide) ?_
    have e9 := Option.some.inj h
    subst e9
    rw [hQ]
    exact W.iret (v := w11) hx hb hr (fun t ht hW => ⟨⟨w11, (), rfl, rfl, by rw [ht]; exact hP, hD⟩, hS.F ht⟩) hS.2.2 dX2_charactersIn_60
-- LeaningLines$Pad.append
abbrev OUT_X2_append : Type := Int32 × (Nat → Int32)
def f_X2_append_L5 (a0 : Int64) (k : Int32 → Int32 → (Nat → Int32) → Option OUT_X2_append) : Nat → Int32 → Int32 → (Nat → Int32) → Option OUT_X2_append
  | 0 => fun _ _ _ => none
  | n + 1 => fun v5 v6 v7 => (if v5 < 0 then k v5 v6 v7 else gd v6 80 (bd (upd v7 v6.toNatClampNeg (vp_nar .char (((((((((a0 : Int64).toUInt64 >>> (((8 * v5) : Int32).toInt64.toUInt64 &&& Int64.toUInt64 63)).toInt64) &&& 255) : Int64).toInt32) : Int32).toUInt32 % 65536).toInt32))) (fun (y8 : Nat → Int32) => bd (v5 + (-1)) (fun x9 => f_X2_append_L5 a0 k n x9 (v6 + 1) y8))))
theorem f_X2_append_L5_s (a0 : Int64) (k : Int32 → Int32 → (Nat → Int32) → Option OUT_X2_append) (n : Nat) (v5 : Int32) (v6 : Int32) (v7 : Nat → Int32) : f_X2_append_L5 a0 k (n + 1) v5 v6 v7 = ((if v5 < 0 then k v5 v6 v7 else gd v6 80 (bd (upd v7 v6.toNatClampNeg (vp_nar .char (((((((((a0 : Int64).toUInt64 >>> (((8 * v5) : Int32).toInt64.toUInt64 &&& Int64.toUInt64 63)).toInt64) &&& 255) : Int64).toInt32) : Int32).toUInt32 % 65536).toInt32))) (fun (y8 : Nat → Int32) => bd (v5 + (-1)) (fun x9 => f_X2_append_L5 a0 k n x9 (v6 + 1) y8))))) := rfl
def f_X2_append (pl : Int32) (tx : Nat → Int32) (a0 : Int64) (a1 : Int32) : Option OUT_X2_append :=
  bd (a1 - 1) (fun x1 => f_X2_append_L5 a0 (fun (w11 : Int32) (w12 : Int32) (w13 : Nat → Int32) => some (w12, w13)) 4000 x1 pl tx)
theorem uX2_append_X2 : ∀ w ∈ wsX20, w ∈ wsX2_append := by decide +kernel
theorem kX2_append_1 : Cond.fieldLink RX2 9 "LeaningLines$Pad" "text" "[C" ∈ wsX2_append := by decide +kernel
theorem kX2_append_2 : Cond.fieldLink RX2 15 "LeaningLines$Pad" "length" "I" ∈ wsX2_append := by decide +kernel
theorem kX2_append_3 : Cond.constantLong RX2 19 (255) ∈ wsX2_append := by decide +kernel
abbrev R_X2_append : Room := { frames := 0, cells := 0, slots := 0, locals := 0 }
set_option maxHeartbeats 4000000 in
set_option maxRecDepth 100000 in
theorem m_X2_append (l : Launch) (D : va_G) (cI cC cZ cR : ClassId) (pd pda : Nat) (sz : Nat) (pl : Int32) (tx : Nat → Int32)  (a0 : Int64) (a1 : Int32)   (r : OUT_X2_append) (hf : f_X2_append pl tx a0 a1 = some r) : Met l yX2_append wsX2_append R_X2_append (cPc D cI cC cZ cR [.ref pd, .long a0, .int a1] sz (ws_pad cI cC cZ cR pd pda pl tx)) (cQv D (ws_pad cI cC cZ cR pd pda r.1 r.2) (va_A (ws_pad cI cC cZ cR pd pda pl tx) sz)) 0 0 (va_A (ws_pad cI cC cZ cR pd pda pl tx) sz) := by
  refine Met.ofW (cc := cX2_append) (maxL := 5) (ret := none) (by decide) rfl ?_
  intro p e s m args below meth c s₁ B hml hv
  obtain ⟨rfl, hsz, hP, hK, hD0⟩ := hv
  have hx := B.exec
  have hb := B.bytes
  have hr := B.returns
  have hts := atoms_spec (ws := wsX2_append) B.pre
  have hown : s.vm.findClass RX2 = some m.cls := findClass_of_methodNamed B.named
  have hlocks := B.notSynchronized
  subst hsz
  have hD := hD0.self (sz := s.heap.size)
  generalize hAe : va_A (ws_pad cI cC cZ cR pd pda pl tx) s.heap.size = A at hD ⊢
  skip
  have hA : ∀ q : Nat, s.heap.size ≤ q → A q := fun q h => by rw [← hAe]; exact Or.inr h
  have hS : va_S A s.heap s.heap [] := va_S.rf
  have hl := lv_entry ([.ref pd, .long a0, .int a1]) (n := 5) (Nat.le_of_ble_eq_true rfl)
  rw [lg_entry_eq]
  generalize (lg_sl ([.ref pd, .long a0, .int a1]) ++ List.replicate (5 - (lg_sl ([.ref pd, .long a0, .int a1])).length) Slot.unset).toArray = ls at hl ⊢
  have hl : lv_has ls 5 [(0, .ref pd), (1, .long a0), (3, .int a1)] := hl
  refine W_absQ (fun Q hQ => ?_)
  refine W.eq (g2 := F0 m 0 ls []) rfl ?_
  have h := hf
  unfold f_X2_append at h
  refine lv_iload_n hx hb dX2_append_0 rfl (lv_at hl 2 rfl) ?_
  refine lv_iconst (v := 1) hx hb dX2_append_1 (by decide) ?_
  refine lv_isub hx hb dX2_append_2 ?_
  refine lv_topi (fun x1 ex1 => ?_)
  replace h := bd_s2 h ex1
  refine lv_istore (lv' := [(4, .int x1), (0, .ref pd), (1, .long a0), (3, .int a1)]) hx hb dX2_append_3 hl (by decide) rfl (fun ls hl => ?_)
  have L5 : ∀ (k : Int32 → Int32 → (Nat → Int32) → Option OUT_X2_append), (∀ (w11 : Int32) (w12 : Int32) (w13 : Nat → Int32) (H : Heap) (locs : List Loc) (ls : Array Slot), k w11 w12 w13 = some r → va_P D vwCl (ws_pad cI cC cZ cR pd pda w12 w13) H → va_D A (ws_pad cI cC cZ cR pd pda w12 w13) → va_S A s.heap H locs → lv_has ls 5 [(0, .ref pd), (1, .long a0), (3, .int a1), (4, .int w11)] → W p l e R_X2_append s m ([.ref pd, .long a0, .int a1] : List Value).toArray below meth c H locs 0 0 Q (F0 m 48 ls [])) → ∀ (n : Nat) (v5 : Int32) (v6 : Int32) (v7 : Nat → Int32) (H : Heap) (locs : List Loc) (ls : Array Slot), f_X2_append_L5 a0 k n v5 v6 v7 = some r → va_P D vwCl (ws_pad cI cC cZ cR pd pda v6 v7) H → va_D A (ws_pad cI cC cZ cR pd pda v6 v7) → va_S A s.heap H locs → lv_has ls 5 [(0, .ref pd), (1, .long a0), (3, .int a1), (4, .int v5)] → W p l e R_X2_append s m ([.ref pd, .long a0, .int a1] : List Value).toArray below meth c H locs 0 0 Q (F0 m 5 ls []) := by
    intro k K n
    induction n with
    | zero => intro v5 v6 v7 H locs ls h; exact no_sm h
    | succ n ih =>
      intro v5 v6 v7 H locs ls h hP hD hS hl
      rw [f_X2_append_L5_s] at h
      refine lv_iload hx hb dX2_append_5 (lv_at hl 3 rfl) ?_
      refine lv_if_lt (tgt := 48) hx hb dX2_append_7 (by decide) (fun c10 => ?_) (fun c10 => ?_)
      · replace h := br_p c10 h
        exact K _ _ _ _ _ _ h hP hD hS (lv_sub hl [0, 1, 2, 3] rfl)
      · replace h := br_n c10 h
        refine lv_aload_n hx hb dX2_append_10 rfl (lv_at hl 0 rfl) ?_
        refine va_get (D := D) (ci := 2) (v := .ref pda) (C := RX2) (T := TX2) (N := 2) hx hb hts uX2_append_X2 hown hK.1 hP 0 rfl rfl 0 (by decide) (hts _ kX2_append_1) (fun _ h9 => h9) rfl dX2_append_11 ?_
        refine lv_aload_n hx hb dX2_append_14 rfl (lv_at hl 0 rfl) ?_
        refine va_get (D := D) (ci := 2) (v := .int v6) (C := RX2) (T := TX2) (N := 2) hx hb hts uX2_append_X2 hown hK.1 hP 0 rfl rfl 1 (by decide) (hts _ kX2_append_2) (fun _ h9 => h9) rfl dX2_append_15 ?_
        refine lv_lload_n hx hb dX2_append_18 rfl (lv_at hl 1 rfl) ?_
        refine lv_bipush (v := 8) hx hb dX2_append_19 (by decide) ?_
        refine lv_iload hx hb dX2_append_21 (lv_at hl 3 rfl) ?_
        refine lv_imul hx hb dX2_append_23 ?_
        refine lv_lushr (v := ((a0 : Int64).toUInt64 >>> (((8 * v5) : Int32).toInt64.toUInt64 &&& Int64.toUInt64 63)).toInt64) hx hb dX2_append_24 rfl ?_
        refine lv_ldc2 (v := 255) hx hb hown (hts _ kX2_append_3) dX2_append_25 ?_
        refine lv_land hx hb dX2_append_28 ?_
        refine lv_l2i (v := (((((a0 : Int64).toUInt64 >>> (((8 * v5) : Int32).toInt64.toUInt64 &&& Int64.toUInt64 63)).toInt64) &&& 255) : Int64).toInt32) hx hb dX2_append_29 rfl ?_
        refine lv_i2c (v := ((((((((a0 : Int64).toUInt64 >>> (((8 * v5) : Int32).toInt64.toUInt64 &&& Int64.toUInt64 63)).toInt64) &&& 255) : Int64).toInt32) : Int32).toUInt32 % 65536).toInt32) hx hb dX2_append_30 rfl ?_
        obtain ⟨hin, h⟩ := gd_sp h
        refine va_cast (D := D) hx hb hK.1 hP hD hS 1 1 rfl rfl hin dX2_append_31 (fun H locs hP hD hS => ?_)
        have hP : va_P D vwCl (ws_pad cI cC cZ cR pd pda v6 (upd v7 v6.toNatClampNeg (vp_nar .char (((((((((a0 : Int64).toUInt64 >>> (((8 * v5) : Int32).toInt64.toUInt64 &&& Int64.toUInt64 63)).toInt64) &&& 255) : Int64).toInt32) : Int32).toUInt32 % 65536).toInt32)))) H := hP
        have hD : va_D A (ws_pad cI cC cZ cR pd pda v6 (upd v7 v6.toNatClampNeg (vp_nar .char (((((((((a0 : Int64).toUInt64 >>> (((8 * v5) : Int32).toInt64.toUInt64 &&& Int64.toUInt64 63)).toInt64) &&& 255) : Int64).toInt32) : Int32).toUInt32 % 65536).toInt32)))) := hD
        obtain ⟨y8, ey8, h⟩ := bd_sp h
        rw [← ey8] at hP hD
        refine lv_aload_n hx hb dX2_append_32 rfl (lv_at hl 0 rfl) ?_
        refine lv_dup hx hb dX2_append_33 rfl ?_
        refine va_get (D := D) (ci := 2) (v := .int v6) (C := RX2) (T := TX2) (N := 2) hx hb hts uX2_append_X2 hown hK.1 hP 0 rfl rfl 1 (by decide) (hts _ kX2_append_2) (fun _ h9 => h9) rfl dX2_append_34 ?_
        refine lv_iconst (v := 1) hx hb dX2_append_37 (by decide) ?_
        refine lv_iadd hx hb dX2_append_38 ?_
        refine va_put (D := D) (ci := 2) (v := .int (v6 + 1)) (ty := .int) (C := RX2) (T := TX2) (N := 2) hx hb hts uX2_append_X2 tyX2 tyX2_ok nmX2 hown hK.1 hP hD hS 0 rfl rfl 1 (by decide) (hts _ kX2_append_2) (fun _ h9 => h9) rfl (by decide +kernel) rfl rfl (Nat.le_of_ble_eq_true rfl) dX2_append_39 (fun H locs hP hD hS => ?_)
        have hP : va_P D vwCl (ws_pad cI cC cZ cR pd pda (v6 + 1) y8) H := hP
        have hD : va_D A (ws_pad cI cC cZ cR pd pda (v6 + 1) y8) := hD
        obtain ⟨x9, ex9, h⟩ := bd_sp h
        refine lv_iinc (v := x9) (lv' := [(4, .int x9), (0, .ref pd), (1, .long a0), (3, .int a1)]) hx hb dX2_append_42 hl (k := 3) rfl (by rw [ex9]; rfl) (by decide) rfl (fun ls hl => ?_)
        refine lv_goto (tgt := 5) hx hb dX2_append_45 (by decide) ?_
        exact ih _ _ _ _ _ _ h hP hD hS (lv_sub hl [1, 2, 3, 0] rfl)
  refine L5 _ (fun w11 w12 w13 H locs ls h hP hD hS hl => ?_) 4000 x1 pl tx _ _ _ h hP hD hS (lv_sub hl [1, 2, 3, 0] rfl)
  have e9 := Option.some.inj h
  subst e9
  rw [hQ]
  exact W.vret hx hb hr (fun t ht hW => ⟨⟨(), rfl, trivial, by rw [ht]; exact hP, hD⟩, hS.F ht⟩) hS.2.2 dX2_append_48
-- LeaningLines$Pad.characterAt
abbrev OUT_X2_characterAt : Type := Int32
def f_X2_characterAt (pl : Int32) (tx : Nat → Int32) (a0 : Int32) : Option OUT_X2_characterAt :=
  (if a0 < 0 then some (32) else (if pl ≤ a0 then some (32) else gd a0 80 (gc (tx a0.toNatClampNeg) (some (tx a0.toNatClampNeg)))))
theorem uX2_characterAt_X2 : ∀ w ∈ wsX20, w ∈ wsX2_characterAt := by decide +kernel
theorem kX2_characterAt_1 : Cond.fieldLink RX2 15 "LeaningLines$Pad" "length" "I" ∈ wsX2_characterAt := by decide +kernel
theorem kX2_characterAt_2 : Cond.fieldLink RX2 9 "LeaningLines$Pad" "text" "[C" ∈ wsX2_characterAt := by decide +kernel
abbrev R_X2_characterAt : Room := { frames := 0, cells := 0, slots := 0, locals := 0 }
set_option maxHeartbeats 4000000 in
set_option maxRecDepth 100000 in
theorem m_X2_characterAt (l : Launch) (D : va_G) (cI cC cZ cR : ClassId) (pd pda : Nat) (sz : Nat) (pl : Int32) (tx : Nat → Int32)  (a0 : Int32)   (r : OUT_X2_characterAt) (hf : f_X2_characterAt pl tx a0 = some r) : Met l yX2_characterAt wsX2_characterAt R_X2_characterAt (cPc D cI cC cZ cR [.ref pd, .int a0] sz (ws_pad cI cC cZ cR pd pda pl tx)) (cQi D (ws_pad cI cC cZ cR pd pda pl tx) (va_A (ws_pad cI cC cZ cR pd pda pl tx) sz) r) 0 0 (va_A (ws_pad cI cC cZ cR pd pda pl tx) sz) := by
  refine Met.ofW (cc := cX2_characterAt) (maxL := 2) (ret := (some .char)) (by decide) rfl ?_
  intro p e s m args below meth c s₁ B hml hv
  obtain ⟨rfl, hsz, hP, hK, hD0⟩ := hv
  have hx := B.exec
  have hb := B.bytes
  have hr := B.returns
  have hts := atoms_spec (ws := wsX2_characterAt) B.pre
  have hown : s.vm.findClass RX2 = some m.cls := findClass_of_methodNamed B.named
  have hlocks := B.notSynchronized
  subst hsz
  have hD := hD0.self (sz := s.heap.size)
  generalize hAe : va_A (ws_pad cI cC cZ cR pd pda pl tx) s.heap.size = A at hD ⊢
  skip
  have hA : ∀ q : Nat, s.heap.size ≤ q → A q := fun q h => by rw [← hAe]; exact Or.inr h
  have hS : va_S A s.heap s.heap [] := va_S.rf
  have hl := lv_entry ([.ref pd, .int a0]) (n := 2) (Nat.le_of_ble_eq_true rfl)
  rw [lg_entry_eq]
  generalize (lg_sl ([.ref pd, .int a0]) ++ List.replicate (2 - (lg_sl ([.ref pd, .int a0])).length) Slot.unset).toArray = ls at hl ⊢
  have hl : lv_has ls 2 [(0, .ref pd), (1, .int a0)] := hl
  refine W_absQ (fun Q hQ => ?_)
  refine W.eq (g2 := F0 m 0 ls []) rfl ?_
  have h := hf
  unfold f_X2_characterAt at h
  refine lv_iload_n hx hb dX2_characterAt_0 rfl (lv_at hl 1 rfl) ?_
  refine lv_if_lt (tgt := 21) hx hb dX2_characterAt_1 (by decide) (fun c2 => ?_) (fun c2 => ?_)
  · replace h := br_p c2 h
    refine lv_bipush (v := 32) hx hb dX2_characterAt_21 (by decide) ?_
    have e9 := Option.some.inj h
    subst e9
    rw [hQ]
    exact W.zret (v := 32) hx hb hr (by decide) (fun t ht hW => ⟨⟨32, (), rfl, rfl, by rw [ht]; exact hP, hD⟩, hS.F ht⟩) hS.2.2 dX2_characterAt_23
  · replace h := br_n c2 h
    refine lv_iload_n hx hb dX2_characterAt_4 rfl (lv_at hl 1 rfl) ?_
    refine lv_aload_n hx hb dX2_characterAt_5 rfl (lv_at hl 0 rfl) ?_
    refine va_get (D := D) (ci := 2) (v := .int pl) (C := RX2) (T := TX2) (N := 2) hx hb hts uX2_characterAt_X2 hown hK.1 hP 0 rfl rfl 1 (by decide) (hts _ kX2_characterAt_1) (fun _ h9 => h9) rfl dX2_characterAt_6 ?_
    refine lv_icmp_ge (tgt := 21) hx hb dX2_characterAt_9 (by decide) (fun c1 => ?_) (fun c1 => ?_)
    · replace h := br_p c1 h
      refine lv_bipush (v := 32) hx hb dX2_characterAt_21 (by decide) ?_
      have e9 := Option.some.inj h
      subst e9
      rw [hQ]
      exact W.zret (v := 32) hx hb hr (by decide) (fun t ht hW => ⟨⟨32, (), rfl, rfl, by rw [ht]; exact hP, hD⟩, hS.F ht⟩) hS.2.2 dX2_characterAt_23
    · replace h := br_n c1 h
      refine lv_aload_n hx hb dX2_characterAt_12 rfl (lv_at hl 0 rfl) ?_
      refine va_get (D := D) (ci := 2) (v := .ref pda) (C := RX2) (T := TX2) (N := 2) hx hb hts uX2_characterAt_X2 hown hK.1 hP 0 rfl rfl 0 (by decide) (hts _ kX2_characterAt_2) (fun _ h9 => h9) rfl dX2_characterAt_13 ?_
      refine lv_iload_n hx hb dX2_characterAt_16 rfl (lv_at hl 1 rfl) ?_
      obtain ⟨hin, h⟩ := gd_sp h
      refine va_cald (D := D) hx hb hK.1 hP 1 1 rfl rfl hin dX2_characterAt_17 ?_
      refine lv_goto (tgt := 23) hx hb dX2_characterAt_18 (by decide) ?_
      obtain ⟨hnr, h⟩ := gc_sp h
      have e9 := Option.some.inj h
      subst e9
      rw [hQ]
      exact W.zret (v := tx a0.toNatClampNeg) hx hb hr (nar_c hnr) (fun t ht hW => ⟨⟨tx a0.toNatClampNeg, (), rfl, rfl, by rw [ht]; exact hP, hD⟩, hS.F ht⟩) hS.2.2 dX2_characterAt_23
-- LeaningLines$Reader.isDigit
abbrev OUT_X4_isDigit : Type := Int32
def f_X4_isDigit (a0 : Int32) : Option OUT_X4_isDigit :=
  (if a0 < 48 then some (0) else (if 57 < a0 then some (0) else some (1)))
abbrev R_X4_isDigit : Room := { frames := 0, cells := 0, slots := 0, locals := 0 }
set_option maxHeartbeats 4000000 in
set_option maxRecDepth 100000 in
theorem m_X4_isDigit (l : Launch) (D : va_G) (cI cC cZ cR : ClassId)  (sz : Nat)   (a0 : Int32)   (r : OUT_X4_isDigit) (hf : f_X4_isDigit a0 = some r) : Met l yX4_isDigit wsX4_isDigit R_X4_isDigit (cPc D cI cC cZ cR [.int a0] sz []) (cQi D [] (va_A [] sz) r) 0 0 (va_A [] sz) := by
  refine Met.ofW (cc := cX4_isDigit) (maxL := 1) (ret := (some .boolean)) (by decide) rfl ?_
  intro p e s m args below meth c s₁ B hml hv
  obtain ⟨rfl, hsz, hP, hK, hD0⟩ := hv
  have hx := B.exec
  have hb := B.bytes
  have hr := B.returns
  have hts := atoms_spec (ws := wsX4_isDigit) B.pre
  have hown : s.vm.findClass RX4 = some m.cls := findClass_of_methodNamed B.named
  have hlocks := B.notSynchronized
  subst hsz
  have hD := hD0.self (sz := s.heap.size)
  generalize hAe : va_A [] s.heap.size = A at hD ⊢
  skip
  have hA : ∀ q : Nat, s.heap.size ≤ q → A q := fun q h => by rw [← hAe]; exact Or.inr h
  have hS : va_S A s.heap s.heap [] := va_S.rf
  have hl := lv_entry ([.int a0]) (n := 1) (Nat.le_of_ble_eq_true rfl)
  rw [lg_entry_eq]
  generalize (lg_sl ([.int a0]) ++ List.replicate (1 - (lg_sl ([.int a0])).length) Slot.unset).toArray = ls at hl ⊢
  have hl : lv_has ls 1 [(0, .int a0)] := hl
  refine W_absQ (fun Q hQ => ?_)
  refine W.eq (g2 := F0 m 0 ls []) rfl ?_
  have h := hf
  unfold f_X4_isDigit at h
  refine lv_iload_n hx hb dX4_isDigit_0 rfl (lv_at hl 0 rfl) ?_
  refine lv_bipush (v := 48) hx hb dX4_isDigit_1 (by decide) ?_
  refine lv_icmp_lt (tgt := 16) hx hb dX4_isDigit_3 (by decide) (fun c2 => ?_) (fun c2 => ?_)
  · replace h := br_p c2 h
    refine lv_iconst (v := 0) hx hb dX4_isDigit_16 (by decide) ?_
    have e9 := Option.some.inj h
    subst e9
    rw [hQ]
    exact W.zret (v := 0) hx hb hr rfl (fun t ht hW => ⟨⟨0, (), rfl, rfl, by rw [ht]; exact hP, hD⟩, hS.F ht⟩) hS.2.2 dX4_isDigit_17
  · replace h := br_n c2 h
    refine lv_iload_n hx hb dX4_isDigit_6 rfl (lv_at hl 0 rfl) ?_
    refine lv_bipush (v := 57) hx hb dX4_isDigit_7 (by decide) ?_
    refine lv_icmp_gt (tgt := 16) hx hb dX4_isDigit_9 (by decide) (fun c1 => ?_) (fun c1 => ?_)
    · replace h := br_p c1 h
      refine lv_iconst (v := 0) hx hb dX4_isDigit_16 (by decide) ?_
      have e9 := Option.some.inj h
      subst e9
      rw [hQ]
      exact W.zret (v := 0) hx hb hr rfl (fun t ht hW => ⟨⟨0, (), rfl, rfl, by rw [ht]; exact hP, hD⟩, hS.F ht⟩) hS.2.2 dX4_isDigit_17
    · replace h := br_n c1 h
      refine lv_iconst (v := 1) hx hb dX4_isDigit_12 (by decide) ?_
      refine lv_goto (tgt := 17) hx hb dX4_isDigit_13 (by decide) ?_
      have e9 := Option.some.inj h
      subst e9
      rw [hQ]
      exact W.zret (v := 1) hx hb hr rfl (fun t ht hW => ⟨⟨1, (), rfl, rfl, by rw [ht]; exact hP, hD⟩, hS.F ht⟩) hS.2.2 dX4_isDigit_17
-- LeaningLines$Reader.take
abbrev OUT_X4_take : Type := Int32 × Int32
def f_X4_take (pl : Int32) (tx : Nat → Int32) (at_ : Int32) (a0 : Int32) : Option OUT_X4_take :=
  bn (f_X2_characterAt pl tx at_) (fun r1 => (if r1 = a0 then some ((1, at_ + 1)) else some ((0, at_))))
theorem uX4_take_X4 : ∀ w ∈ wsX40, w ∈ wsX4_take := by decide +kernel
theorem kX4_take_1 : Cond.fieldLink RX4 23 "LeaningLines$Reader" "pad" "LLeaningLines$Pad;" ∈ wsX4_take := by decide +kernel
theorem kX4_take_2 : Cond.fieldLink RX4 9 "LeaningLines$Reader" "at" "I" ∈ wsX4_take := by decide +kernel
abbrev R_X4_take : Room := { frames := 1, cells := 0, slots := 0, locals := 21 }
set_option maxHeartbeats 4000000 in
set_option maxRecDepth 100000 in
theorem m_X4_take (l : Launch) (D : va_G) (cI cC cZ cR : ClassId) (rd rda pd pda : Nat) (sz : Nat) (pl : Int32) (tx : Nat → Int32) (at_ : Int32) (kd : Int32) (va : Nat → Int32)  (a0 : Int32)   (r : OUT_X4_take) (hf : f_X4_take pl tx at_ a0 = some r) : Met l yX4_take wsX4_take R_X4_take (cPc D cI cC cZ cR [.ref rd, .int a0] sz (ws_reader cI cC cZ cR rd rda pd pda pl tx at_ kd va)) (cQi D (ws_reader cI cC cZ cR rd rda pd pda pl tx r.2 kd va) (va_A (ws_reader cI cC cZ cR rd rda pd pda pl tx at_ kd va) sz) r.1) 0 0 (va_A (ws_reader cI cC cZ cR rd rda pd pda pl tx at_ kd va) sz) := by
  refine Met.ofW (cc := cX4_take) (maxL := 2) (ret := (some .boolean)) (by decide) rfl ?_
  intro p e s m args below meth c s₁ B hml hv
  obtain ⟨rfl, hsz, hP, hK, hD0⟩ := hv
  have hx := B.exec
  have hb := B.bytes
  have hr := B.returns
  have hts := atoms_spec (ws := wsX4_take) B.pre
  have hown : s.vm.findClass RX4 = some m.cls := findClass_of_methodNamed B.named
  have hlocks := B.notSynchronized
  subst hsz
  have hD := hD0.self (sz := s.heap.size)
  generalize hAe : va_A (ws_reader cI cC cZ cR rd rda pd pda pl tx at_ kd va) s.heap.size = A at hD ⊢
  skip
  have hA : ∀ q : Nat, s.heap.size ≤ q → A q := fun q h => by rw [← hAe]; exact Or.inr h
  have hS : va_S A s.heap s.heap [] := va_S.rf
  have hl := lv_entry ([.ref rd, .int a0]) (n := 2) (Nat.le_of_ble_eq_true rfl)
  rw [lg_entry_eq]
  generalize (lg_sl ([.ref rd, .int a0]) ++ List.replicate (2 - (lg_sl ([.ref rd, .int a0])).length) Slot.unset).toArray = ls at hl ⊢
  have hl : lv_has ls 2 [(0, .ref rd), (1, .int a0)] := hl
  refine W_absQ (fun Q hQ => ?_)
  refine W.eq (g2 := F0 m 0 ls []) rfl ?_
  have h := hf
  unfold f_X4_take at h
  refine lv_aload_n hx hb dX4_take_0 rfl (lv_at hl 0 rfl) ?_
  refine va_get (D := D) (ci := 4) (v := .ref pd) (C := RX4) (T := TX4) (N := 4) hx hb hts uX4_take_X4 hown hK.1 hP 0 rfl rfl 0 (by decide) (hts _ kX4_take_1) (fun _ h9 => h9) rfl dX4_take_1 ?_
  refine lv_aload_n hx hb dX4_take_4 rfl (lv_at hl 0 rfl) ?_
  refine va_get (D := D) (ci := 4) (v := .int at_) (C := RX4) (T := TX4) (N := 4) hx hb hts uX4_take_X4 hown hK.1 hP 0 rfl rfl 1 (by decide) (hts _ kX4_take_2) (fun _ h9 => h9) rfl dX4_take_5 ?_
  obtain ⟨r1, hcr1, h⟩ := bn_sp h
  have hPc := hP.sub (ws' := (ws_pad cI cC cZ cR pd pda pl tx)) [1, 2] rfl
  have hDc := hD.sub (ws' := (ws_pad cI cC cZ cR pd pda pl tx)) [1, 2] (by decide) rfl
  have hFc := va_free (wc := (ws_pad cI cC cZ cR pd pda pl tx)) hD hS hA [1, 2] rfl
  refine va_calli (va_runV (As := [.int at_]) (rest := []) ⟨hx, hb, hml, hown, hts⟩ (m_X2_characterAt l D cI cC cZ cR pd pda _ pl tx at_   r1 hcr1) (cwV 1 hts gX4_take_X2_characterAt rfl rfl rfl (by decide +kernel) ⟨Nat.le_of_ble_eq_true rfl, Nat.le_of_ble_eq_true rfl⟩) (cPc_pv hPc hK hDc (ci := 2) (q0 := 0) rfl rfl) rfl rfl hl.1 rfl (lv_room (Nat.le_of_ble_eq_true rfl)) dX4_take_8 ⟨Nat.le_of_ble_eq_true rfl, Nat.le_of_ble_eq_true rfl⟩) hS (fun q _ h => hFc q h) hFc (fun xq u t H1 locs ht hvm hw hB hz1 hk1 hS => ?_)
  rw [hw]
  obtain ⟨hP1, hD1⟩ := hB
  rw [ht] at hP1
  obtain ⟨hP, hD⟩ := va_join (wr := [(rd, .inr (4, [.ref pd, .int at_, .int kd, .ref rda])), (rda, .inl (cI, 7, .inl va))]) (w1 := (ws_pad cI cC cZ cR pd pda pl tx)) hP hD [1, 2] [0, 3] rfl rfl (by decide) (by decide) hk1 hFc hP1 hD1
  have hP := hP.sub (ws' := (ws_reader cI cC cZ cR rd rda pd pda pl tx at_ kd va)) [0, 2, 3, 1] rfl
  have hD := hD.sub (ws' := (ws_reader cI cC cZ cR rd rda pd pda pl tx at_ kd va)) [0, 2, 3, 1] (by decide) rfl
  generalize H1 = H at hP hS ⊢
  refine lv_iload_n hx hb dX4_take_11 rfl (lv_at hl 1 rfl) ?_
  refine lv_icmp_eq (tgt := 17) hx hb dX4_take_12 (by decide) (fun c2 => ?_) (fun c2 => ?_)
  · replace h := br_p c2 h
    refine lv_aload_n hx hb dX4_take_17 rfl (lv_at hl 0 rfl) ?_
    refine lv_dup hx hb dX4_take_18 rfl ?_
    refine va_get (D := D) (ci := 4) (v := .int at_) (C := RX4) (T := TX4) (N := 4) hx hb hts uX4_take_X4 hown hK.1 hP 0 rfl rfl 1 (by decide) (hts _ kX4_take_2) (fun _ h9 => h9) rfl dX4_take_19 ?_
    refine lv_iconst (v := 1) hx hb dX4_take_22 (by decide) ?_
    refine lv_iadd hx hb dX4_take_23 ?_
    refine va_put (D := D) (ci := 4) (v := .int (at_ + 1)) (ty := .int) (C := RX4) (T := TX4) (N := 4) hx hb hts uX4_take_X4 tyX4 tyX4_ok nmX4 hown hK.1 hP hD hS 0 rfl rfl 1 (by decide) (hts _ kX4_take_2) (fun _ h9 => h9) rfl (by decide +kernel) rfl rfl (Nat.le_of_ble_eq_true rfl) dX4_take_24 (fun H locs hP hD hS => ?_)
    have hP : va_P D vwCl (ws_reader cI cC cZ cR rd rda pd pda pl tx (at_ + 1) kd va) H := hP
    have hD : va_D A (ws_reader cI cC cZ cR rd rda pd pda pl tx (at_ + 1) kd va) := hD
    refine lv_iconst (v := 1) hx hb dX4_take_27 (by decide) ?_
    have e9 := Option.some.inj h
    subst e9
    rw [hQ]
    exact W.zret (v := 1) hx hb hr rfl (fun t ht hW => ⟨⟨1, (), rfl, rfl, by rw [ht]; exact hP, hD⟩, hS.F ht⟩) hS.2.2 dX4_take_28
  · replace h := br_n c2 h
    refine lv_iconst (v := 0) hx hb dX4_take_15 (by decide) ?_
    have e9 := Option.some.inj h
    subst e9
    rw [hQ]
    exact W.zret (v := 0) hx hb hr rfl (fun t ht hW => ⟨⟨0, (), rfl, rfl, by rw [ht]; exact hP, hD⟩, hS.F ht⟩) hS.2.2 dX4_take_16
-- LeaningLines$Reader.readDigit
abbrev OUT_X4_readDigit : Type := Int32 × Int32 × (Nat → Int32)
def f_X4_readDigit (pl : Int32) (tx : Nat → Int32) (at_ : Int32) (va : Nat → Int32) (a0 : Int32) : Option OUT_X4_readDigit :=
  bn (f_X2_characterAt pl tx at_) (fun r1 => bn (f_X4_isDigit r1) (fun r2 => (if ¬ r2 = 0 then gd a0 7 (some ((1, at_ + 1, upd va a0.toNatClampNeg (r1 - 48)))) else some ((0, at_, va)))))
theorem uX4_readDigit_X4 : ∀ w ∈ wsX40, w ∈ wsX4_readDigit := by decide +kernel
theorem kX4_readDigit_1 : Cond.fieldLink RX4 23 "LeaningLines$Reader" "pad" "LLeaningLines$Pad;" ∈ wsX4_readDigit := by decide +kernel
theorem kX4_readDigit_2 : Cond.fieldLink RX4 9 "LeaningLines$Reader" "at" "I" ∈ wsX4_readDigit := by decide +kernel
theorem kX4_readDigit_3 : Cond.fieldLink RX4 19 "LeaningLines$Reader" "values" "[I" ∈ wsX4_readDigit := by decide +kernel
abbrev R_X4_readDigit : Room := { frames := 1, cells := 0, slots := 0, locals := 21 }
set_option maxHeartbeats 4000000 in
set_option maxRecDepth 100000 in
theorem m_X4_readDigit (l : Launch) (D : va_G) (cI cC cZ cR : ClassId) (rd rda pd pda : Nat) (sz : Nat) (pl : Int32) (tx : Nat → Int32) (at_ : Int32) (kd : Int32) (va : Nat → Int32)  (a0 : Int32)   (r : OUT_X4_readDigit) (hf : f_X4_readDigit pl tx at_ va a0 = some r) : Met l yX4_readDigit wsX4_readDigit R_X4_readDigit (cPc D cI cC cZ cR [.ref rd, .int a0] sz (ws_reader cI cC cZ cR rd rda pd pda pl tx at_ kd va)) (cQi D (ws_reader cI cC cZ cR rd rda pd pda pl tx r.2.1 kd r.2.2) (va_A (ws_reader cI cC cZ cR rd rda pd pda pl tx at_ kd va) sz) r.1) 0 0 (va_A (ws_reader cI cC cZ cR rd rda pd pda pl tx at_ kd va) sz) := by
  refine Met.ofW (cc := cX4_readDigit) (maxL := 3) (ret := (some .boolean)) (by decide) rfl ?_
  intro p e s m args below meth c s₁ B hml hv
  obtain ⟨rfl, hsz, hP, hK, hD0⟩ := hv
  have hx := B.exec
  have hb := B.bytes
  have hr := B.returns
  have hts := atoms_spec (ws := wsX4_readDigit) B.pre
  have hown : s.vm.findClass RX4 = some m.cls := findClass_of_methodNamed B.named
  have hlocks := B.notSynchronized
  subst hsz
  have hD := hD0.self (sz := s.heap.size)
  generalize hAe : va_A (ws_reader cI cC cZ cR rd rda pd pda pl tx at_ kd va) s.heap.size = A at hD ⊢
  skip
  have hA : ∀ q : Nat, s.heap.size ≤ q → A q := fun q h => by rw [← hAe]; exact Or.inr h
  have hS : va_S A s.heap s.heap [] := va_S.rf
  have hl := lv_entry ([.ref rd, .int a0]) (n := 3) (Nat.le_of_ble_eq_true rfl)
  rw [lg_entry_eq]
  generalize (lg_sl ([.ref rd, .int a0]) ++ List.replicate (3 - (lg_sl ([.ref rd, .int a0])).length) Slot.unset).toArray = ls at hl ⊢
  have hl : lv_has ls 3 [(0, .ref rd), (1, .int a0)] := hl
  refine W_absQ (fun Q hQ => ?_)
  refine W.eq (g2 := F0 m 0 ls []) rfl ?_
  have h := hf
  unfold f_X4_readDigit at h
  refine lv_aload_n hx hb dX4_readDigit_0 rfl (lv_at hl 0 rfl) ?_
  refine va_get (D := D) (ci := 4) (v := .ref pd) (C := RX4) (T := TX4) (N := 4) hx hb hts uX4_readDigit_X4 hown hK.1 hP 0 rfl rfl 0 (by decide) (hts _ kX4_readDigit_1) (fun _ h9 => h9) rfl dX4_readDigit_1 ?_
  refine lv_aload_n hx hb dX4_readDigit_4 rfl (lv_at hl 0 rfl) ?_
  refine va_get (D := D) (ci := 4) (v := .int at_) (C := RX4) (T := TX4) (N := 4) hx hb hts uX4_readDigit_X4 hown hK.1 hP 0 rfl rfl 1 (by decide) (hts _ kX4_readDigit_2) (fun _ h9 => h9) rfl dX4_readDigit_5 ?_
  obtain ⟨r1, hcr1, h⟩ := bn_sp h
  have hPc := hP.sub (ws' := (ws_pad cI cC cZ cR pd pda pl tx)) [1, 2] rfl
  have hDc := hD.sub (ws' := (ws_pad cI cC cZ cR pd pda pl tx)) [1, 2] (by decide) rfl
  have hFc := va_free (wc := (ws_pad cI cC cZ cR pd pda pl tx)) hD hS hA [1, 2] rfl
  refine va_calli (va_runV (As := [.int at_]) (rest := []) ⟨hx, hb, hml, hown, hts⟩ (m_X2_characterAt l D cI cC cZ cR pd pda _ pl tx at_   r1 hcr1) (cwV 1 hts gX4_readDigit_X2_characterAt rfl rfl rfl (by decide +kernel) ⟨Nat.le_of_ble_eq_true rfl, Nat.le_of_ble_eq_true rfl⟩) (cPc_pv hPc hK hDc (ci := 2) (q0 := 0) rfl rfl) rfl rfl hl.1 rfl (lv_room (Nat.le_of_ble_eq_true rfl)) dX4_readDigit_8 ⟨Nat.le_of_ble_eq_true rfl, Nat.le_of_ble_eq_true rfl⟩) hS (fun q _ h => hFc q h) hFc (fun xq u t H1 locs ht hvm hw hB hz1 hk1 hS => ?_)
  rw [hw]
  obtain ⟨hP1, hD1⟩ := hB
  rw [ht] at hP1
  obtain ⟨hP, hD⟩ := va_join (wr := [(rd, .inr (4, [.ref pd, .int at_, .int kd, .ref rda])), (rda, .inl (cI, 7, .inl va))]) (w1 := (ws_pad cI cC cZ cR pd pda pl tx)) hP hD [1, 2] [0, 3] rfl rfl (by decide) (by decide) hk1 hFc hP1 hD1
  have hP := hP.sub (ws' := (ws_reader cI cC cZ cR rd rda pd pda pl tx at_ kd va)) [0, 2, 3, 1] rfl
  have hD := hD.sub (ws' := (ws_reader cI cC cZ cR rd rda pd pda pl tx at_ kd va)) [0, 2, 3, 1] (by decide) rfl
  generalize H1 = H at hP hS ⊢
  refine lv_istore_n (lv' := [(2, .int r1), (0, .ref rd), (1, .int a0)]) hx hb dX4_readDigit_11 rfl hl (by decide) rfl (fun ls hl => ?_)
  refine lv_iload_n hx hb dX4_readDigit_12 rfl (lv_at hl 0 rfl) ?_
  obtain ⟨r2, hcr2, h⟩ := bn_sp h
  have hPc := hP.sub (ws' := []) [] rfl
  have hDc := hD.sub (ws' := []) [] (by decide) rfl
  have hFc := va_free (wc := []) hD hS hA [] rfl
  refine va_calli (va_runS (As := [.int r1]) (rest := []) ⟨hx, hb, hml, hown, hts⟩ (m_X4_isDigit l D cI cC cZ cR  _  r1   r2 hcr2) (va_cwS 1 hts gX4_readDigit_X4_isDigit rfl rfl rfl (by decide +kernel) ⟨Nat.le_of_ble_eq_true rfl, Nat.le_of_ble_eq_true rfl⟩) (cPc_ps hPc hK hDc) rfl rfl hl.1 rfl (lv_room (Nat.le_of_ble_eq_true rfl)) dX4_readDigit_13 ⟨Nat.le_of_ble_eq_true rfl, Nat.le_of_ble_eq_true rfl⟩) hS (fun q _ h => hFc q h) hFc (fun xq u t H1 locs ht hvm hw hB hz1 hk1 hS => ?_)
  rw [hw]
  obtain ⟨hP1, hD1⟩ := hB
  rw [ht] at hP1
  obtain ⟨hP, hD⟩ := va_join (wr := [(rd, .inr (4, [.ref pd, .int at_, .int kd, .ref rda])), (pd, .inr (2, [.ref pda, .int pl])), (pda, .inl (cC, 80, .inl tx)), (rda, .inl (cI, 7, .inl va))]) (w1 := []) hP hD [] [0, 1, 2, 3] rfl rfl (by decide) (by decide) hk1 hFc hP1 hD1
  generalize H1 = H at hP hS ⊢
  have hP : va_P D vwCl (ws_reader cI cC cZ cR rd rda pd pda pl tx at_ kd va) H := hP
  have hD : va_D A (ws_reader cI cC cZ cR rd rda pd pda pl tx at_ kd va) := hD
  refine lv_if_ne (tgt := 21) hx hb dX4_readDigit_16 (by decide) (fun c3 => ?_) (fun c3 => ?_)
  · replace h := br_p c3 h
    refine lv_aload_n hx hb dX4_readDigit_21 rfl (lv_at hl 1 rfl) ?_
    refine va_get (D := D) (ci := 4) (v := .ref rda) (C := RX4) (T := TX4) (N := 4) hx hb hts uX4_readDigit_X4 hown hK.1 hP 0 rfl rfl 3 (by decide) (hts _ kX4_readDigit_3) (fun _ h9 => h9) rfl dX4_readDigit_22 ?_
    refine lv_iload_n hx hb dX4_readDigit_25 rfl (lv_at hl 2 rfl) ?_
    refine lv_iload_n hx hb dX4_readDigit_26 rfl (lv_at hl 0 rfl) ?_
    refine lv_bipush (v := 48) hx hb dX4_readDigit_27 (by decide) ?_
    refine lv_isub hx hb dX4_readDigit_29 ?_
    obtain ⟨hin, h⟩ := gd_sp h
    refine va_iast (D := D) hx hb hK.1 hP hD hS 3 0 rfl rfl hin dX4_readDigit_30 (fun H locs hP hD hS => ?_)
    have hP : va_P D vwCl (ws_reader cI cC cZ cR rd rda pd pda pl tx at_ kd (upd va a0.toNatClampNeg (r1 - 48))) H := hP
    have hD : va_D A (ws_reader cI cC cZ cR rd rda pd pda pl tx at_ kd (upd va a0.toNatClampNeg (r1 - 48))) := hD
    refine lv_aload_n hx hb dX4_readDigit_31 rfl (lv_at hl 1 rfl) ?_
    refine lv_dup hx hb dX4_readDigit_32 rfl ?_
    refine va_get (D := D) (ci := 4) (v := .int at_) (C := RX4) (T := TX4) (N := 4) hx hb hts uX4_readDigit_X4 hown hK.1 hP 0 rfl rfl 1 (by decide) (hts _ kX4_readDigit_2) (fun _ h9 => h9) rfl dX4_readDigit_33 ?_
    refine lv_iconst (v := 1) hx hb dX4_readDigit_36 (by decide) ?_
    refine lv_iadd hx hb dX4_readDigit_37 ?_
    refine va_put (D := D) (ci := 4) (v := .int (at_ + 1)) (ty := .int) (C := RX4) (T := TX4) (N := 4) hx hb hts uX4_readDigit_X4 tyX4 tyX4_ok nmX4 hown hK.1 hP hD hS 0 rfl rfl 1 (by decide) (hts _ kX4_readDigit_2) (fun _ h9 => h9) rfl (by decide +kernel) rfl rfl (Nat.le_of_ble_eq_true rfl) dX4_readDigit_38 (fun H locs hP hD hS => ?_)
    have hP : va_P D vwCl (ws_reader cI cC cZ cR rd rda pd pda pl tx (at_ + 1) kd (upd va a0.toNatClampNeg (r1 - 48))) H := hP
    have hD : va_D A (ws_reader cI cC cZ cR rd rda pd pda pl tx (at_ + 1) kd (upd va a0.toNatClampNeg (r1 - 48))) := hD
    refine lv_iconst (v := 1) hx hb dX4_readDigit_41 (by decide) ?_
    have e9 := Option.some.inj h
    subst e9
    rw [hQ]
    exact W.zret (v := 1) hx hb hr rfl (fun t ht hW => ⟨⟨1, (), rfl, rfl, by rw [ht]; exact hP, hD⟩, hS.F ht⟩) hS.2.2 dX4_readDigit_42
  · replace h := br_n (not_not_intro c3) h
    refine lv_iconst (v := 0) hx hb dX4_readDigit_19 (by decide) ?_
    have e9 := Option.some.inj h
    subst e9
    rw [hQ]
    exact W.zret (v := 0) hx hb hr rfl (fun t ht hW => ⟨⟨0, (), rfl, rfl, by rw [ht]; exact hP, hD⟩, hS.F ht⟩) hS.2.2 dX4_readDigit_20
-- LeaningLines$Reader.readNumber
abbrev OUT_X4_readNumber : Type := Int32 × Int32 × (Nat → Int32)
def f_X4_readNumber (pl : Int32) (tx : Nat → Int32) (at_ : Int32) (va : Nat → Int32) (a0 : Int32) : Option OUT_X4_readNumber :=
  bn (f_X4_readDigit pl tx at_ va a0) (fun r1 => (if ¬ r1.1 = 0 then bn (f_X2_characterAt pl tx r1.2.1) (fun r2 => gd a0 7 ((if (r1.2.2 a0.toNatClampNeg) = 0 then some ((1, r1.2.1, r1.2.2)) else bn (f_X4_isDigit r2) (fun r3 => (if r3 = 0 then some ((1, r1.2.1, r1.2.2)) else gd a0 7 (gd a0 7 (some ((1, r1.2.1 + 1, upd r1.2.2 a0.toNatClampNeg (((r1.2.2 a0.toNatClampNeg) * 10) + (r2 - 48))))))))))) else some ((0, r1.2.1, r1.2.2))))
theorem uX4_readNumber_X4 : ∀ w ∈ wsX40, w ∈ wsX4_readNumber := by decide +kernel
theorem kX4_readNumber_1 : Cond.fieldLink RX4 23 "LeaningLines$Reader" "pad" "LLeaningLines$Pad;" ∈ wsX4_readNumber := by decide +kernel
theorem kX4_readNumber_2 : Cond.fieldLink RX4 9 "LeaningLines$Reader" "at" "I" ∈ wsX4_readNumber := by decide +kernel
theorem kX4_readNumber_3 : Cond.fieldLink RX4 19 "LeaningLines$Reader" "values" "[I" ∈ wsX4_readNumber := by decide +kernel
abbrev R_X4_readNumber : Room := { frames := 2, cells := 0, slots := 0, locals := 43 }
set_option maxHeartbeats 4000000 in
set_option maxRecDepth 100000 in
theorem m_X4_readNumber (l : Launch) (D : va_G) (cI cC cZ cR : ClassId) (rd rda pd pda : Nat) (sz : Nat) (pl : Int32) (tx : Nat → Int32) (at_ : Int32) (kd : Int32) (va : Nat → Int32)  (a0 : Int32)   (r : OUT_X4_readNumber) (hf : f_X4_readNumber pl tx at_ va a0 = some r) : Met l yX4_readNumber wsX4_readNumber R_X4_readNumber (cPc D cI cC cZ cR [.ref rd, .int a0] sz (ws_reader cI cC cZ cR rd rda pd pda pl tx at_ kd va)) (cQi D (ws_reader cI cC cZ cR rd rda pd pda pl tx r.2.1 kd r.2.2) (va_A (ws_reader cI cC cZ cR rd rda pd pda pl tx at_ kd va) sz) r.1) 0 0 (va_A (ws_reader cI cC cZ cR rd rda pd pda pl tx at_ kd va) sz) := by
  refine Met.ofW (cc := cX4_readNumber) (maxL := 3) (ret := (some .boolean)) (by decide) rfl ?_
  intro p e s m args below meth c s₁ B hml hv
  obtain ⟨rfl, hsz, hP, hK, hD0⟩ := hv
  have hx := B.exec
  have hb := B.bytes
  have hr := B.returns
  have hts := atoms_spec (ws := wsX4_readNumber) B.pre
  have hown : s.vm.findClass RX4 = some m.cls := findClass_of_methodNamed B.named
  have hlocks := B.notSynchronized
  subst hsz
  have hD := hD0.self (sz := s.heap.size)
  generalize hAe : va_A (ws_reader cI cC cZ cR rd rda pd pda pl tx at_ kd va) s.heap.size = A at hD ⊢
  skip
  have hA : ∀ q : Nat, s.heap.size ≤ q → A q := fun q h => by rw [← hAe]; exact Or.inr h
  have hS : va_S A s.heap s.heap [] := va_S.rf
  have hl := lv_entry ([.ref rd, .int a0]) (n := 3) (Nat.le_of_ble_eq_true rfl)
  rw [lg_entry_eq]
  generalize (lg_sl ([.ref rd, .int a0]) ++ List.replicate (3 - (lg_sl ([.ref rd, .int a0])).length) Slot.unset).toArray = ls at hl ⊢
  have hl : lv_has ls 3 [(0, .ref rd), (1, .int a0)] := hl
  refine W_absQ (fun Q hQ => ?_)
  refine W.eq (g2 := F0 m 0 ls []) rfl ?_
  have h := hf
  unfold f_X4_readNumber at h
  refine lv_aload_n hx hb dX4_readNumber_0 rfl (lv_at hl 0 rfl) ?_
  refine lv_iload_n hx hb dX4_readNumber_1 rfl (lv_at hl 1 rfl) ?_
  obtain ⟨r1, hcr1, h⟩ := bn_sp h
  have hPc := hP.sub (ws' := (ws_reader cI cC cZ cR rd rda pd pda pl tx at_ kd va)) [0, 1, 2, 3] rfl
  have hDc := hD.sub (ws' := (ws_reader cI cC cZ cR rd rda pd pda pl tx at_ kd va)) [0, 1, 2, 3] (by decide) rfl
  have hFc := va_free (wc := (ws_reader cI cC cZ cR rd rda pd pda pl tx at_ kd va)) hD hS hA [0, 1, 2, 3] rfl
  refine va_calli (va_runV (As := [.int a0]) (rest := []) ⟨hx, hb, hml, hown, hts⟩ (m_X4_readDigit l D cI cC cZ cR rd rda pd pda _ pl tx at_ kd va a0   r1 hcr1) (cwV 1 hts gX4_readNumber_X4_readDigit rfl rfl rfl (by decide +kernel) ⟨Nat.le_of_ble_eq_true rfl, Nat.le_of_ble_eq_true rfl⟩) (cPc_pv hPc hK hDc (ci := 4) (q0 := 0) rfl rfl) rfl rfl hl.1 rfl (lv_room (Nat.le_of_ble_eq_true rfl)) dX4_readNumber_2 ⟨Nat.le_of_ble_eq_true rfl, Nat.le_of_ble_eq_true rfl⟩) hS (fun q _ h => hFc q h) hFc (fun xq u t H1 locs ht hvm hw hB hz1 hk1 hS => ?_)
  rw [hw]
  obtain ⟨hP1, hD1⟩ := hB
  rw [ht] at hP1
  obtain ⟨hP, hD⟩ := va_join (wr := []) (w1 := (ws_reader cI cC cZ cR rd rda pd pda pl tx r1.2.1 kd r1.2.2)) hP hD [0, 1, 2, 3] [] rfl rfl (by decide) (by decide) hk1 hFc hP1 hD1
  generalize H1 = H at hP hS ⊢
  have hP : va_P D vwCl (ws_reader cI cC cZ cR rd rda pd pda pl tx r1.2.1 kd r1.2.2) H := hP
  have hD : va_D A (ws_reader cI cC cZ cR rd rda pd pda pl tx r1.2.1 kd r1.2.2) := hD
  refine lv_if_ne (tgt := 10) hx hb dX4_readNumber_5 (by decide) (fun c6 => ?_) (fun c6 => ?_)
  · replace h := br_p c6 h
    refine lv_aload_n hx hb dX4_readNumber_10 rfl (lv_at hl 0 rfl) ?_
    refine va_get (D := D) (ci := 4) (v := .ref pd) (C := RX4) (T := TX4) (N := 4) hx hb hts uX4_readNumber_X4 hown hK.1 hP 0 rfl rfl 0 (by decide) (hts _ kX4_readNumber_1) (fun _ h9 => h9) rfl dX4_readNumber_11 ?_
    refine lv_aload_n hx hb dX4_readNumber_14 rfl (lv_at hl 0 rfl) ?_
    refine va_get (D := D) (ci := 4) (v := .int r1.2.1) (C := RX4) (T := TX4) (N := 4) hx hb hts uX4_readNumber_X4 hown hK.1 hP 0 rfl rfl 1 (by decide) (hts _ kX4_readNumber_2) (fun _ h9 => h9) rfl dX4_readNumber_15 ?_
    obtain ⟨r2, hcr2, h⟩ := bn_sp h
    have hPc := hP.sub (ws' := (ws_pad cI cC cZ cR pd pda pl tx)) [1, 2] rfl
    have hDc := hD.sub (ws' := (ws_pad cI cC cZ cR pd pda pl tx)) [1, 2] (by decide) rfl
    have hFc := va_free (wc := (ws_pad cI cC cZ cR pd pda pl tx)) hD hS hA [1, 2] rfl
    refine va_calli (va_runV (As := [.int r1.2.1]) (rest := []) ⟨hx, hb, hml, hown, hts⟩ (m_X2_characterAt l D cI cC cZ cR pd pda _ pl tx r1.2.1   r2 hcr2) (cwV 1 hts gX4_readNumber_X2_characterAt rfl rfl rfl (by decide +kernel) ⟨Nat.le_of_ble_eq_true rfl, Nat.le_of_ble_eq_true rfl⟩) (cPc_pv hPc hK hDc (ci := 2) (q0 := 0) rfl rfl) rfl rfl hl.1 rfl (lv_room (Nat.le_of_ble_eq_true rfl)) dX4_readNumber_18 ⟨Nat.le_of_ble_eq_true rfl, Nat.le_of_ble_eq_true rfl⟩) hS (fun q _ h => hFc q h) hFc (fun xq u t H1 locs ht hvm hw hB hz1 hk1 hS => ?_)
    rw [hw]
    obtain ⟨hP1, hD1⟩ := hB
    rw [ht] at hP1
    obtain ⟨hP, hD⟩ := va_join (wr := [(rd, .inr (4, [.ref pd, .int r1.2.1, .int kd, .ref rda])), (rda, .inl (cI, 7, .inl r1.2.2))]) (w1 := (ws_pad cI cC cZ cR pd pda pl tx)) hP hD [1, 2] [0, 3] rfl rfl (by decide) (by decide) hk1 hFc hP1 hD1
    have hP := hP.sub (ws' := (ws_reader cI cC cZ cR rd rda pd pda pl tx r1.2.1 kd r1.2.2)) [0, 2, 3, 1] rfl
    have hD := hD.sub (ws' := (ws_reader cI cC cZ cR rd rda pd pda pl tx r1.2.1 kd r1.2.2)) [0, 2, 3, 1] (by decide) rfl
    generalize H1 = H at hP hS ⊢
    refine lv_istore_n (lv' := [(2, .int r2), (0, .ref rd), (1, .int a0)]) hx hb dX4_readNumber_21 rfl hl (by decide) rfl (fun ls hl => ?_)
    refine lv_aload_n hx hb dX4_readNumber_22 rfl (lv_at hl 1 rfl) ?_
    refine va_get (D := D) (ci := 4) (v := .ref rda) (C := RX4) (T := TX4) (N := 4) hx hb hts uX4_readNumber_X4 hown hK.1 hP 0 rfl rfl 3 (by decide) (hts _ kX4_readNumber_3) (fun _ h9 => h9) rfl dX4_readNumber_23 ?_
    refine lv_iload_n hx hb dX4_readNumber_26 rfl (lv_at hl 2 rfl) ?_
    obtain ⟨hin, h⟩ := gd_sp h
    refine va_iald (D := D) hx hb hK.1 hP 3 0 rfl rfl hin dX4_readNumber_27 ?_
    refine lv_if_eq (tgt := 68) hx hb dX4_readNumber_28 (by decide) (fun c5 => ?_) (fun c5 => ?_)
    · replace h := br_p c5 h
      refine lv_iconst (v := 1) hx hb dX4_readNumber_68 (by decide) ?_
      have e9 := Option.some.inj h
      subst e9
      rw [hQ]
      exact W.zret (v := 1) hx hb hr rfl (fun t ht hW => ⟨⟨1, (), rfl, rfl, by rw [ht]; exact hP, hD⟩, hS.F ht⟩) hS.2.2 dX4_readNumber_69
    · replace h := br_n c5 h
      refine lv_iload_n hx hb dX4_readNumber_31 rfl (lv_at hl 0 rfl) ?_
      obtain ⟨r3, hcr3, h⟩ := bn_sp h
      have hPc := hP.sub (ws' := []) [] rfl
      have hDc := hD.sub (ws' := []) [] (by decide) rfl
      have hFc := va_free (wc := []) hD hS hA [] rfl
      refine va_calli (va_runS (As := [.int r2]) (rest := []) ⟨hx, hb, hml, hown, hts⟩ (m_X4_isDigit l D cI cC cZ cR  _  r2   r3 hcr3) (va_cwS 1 hts gX4_readNumber_X4_isDigit rfl rfl rfl (by decide +kernel) ⟨Nat.le_of_ble_eq_true rfl, Nat.le_of_ble_eq_true rfl⟩) (cPc_ps hPc hK hDc) rfl rfl hl.1 rfl (lv_room (Nat.le_of_ble_eq_true rfl)) dX4_readNumber_32 ⟨Nat.le_of_ble_eq_true rfl, Nat.le_of_ble_eq_true rfl⟩) hS (fun q _ h => hFc q h) hFc (fun xq u t H1 locs ht hvm hw hB hz1 hk1 hS => ?_)
      rw [hw]
      obtain ⟨hP1, hD1⟩ := hB
      rw [ht] at hP1
      obtain ⟨hP, hD⟩ := va_join (wr := [(rd, .inr (4, [.ref pd, .int r1.2.1, .int kd, .ref rda])), (pd, .inr (2, [.ref pda, .int pl])), (pda, .inl (cC, 80, .inl tx)), (rda, .inl (cI, 7, .inl r1.2.2))]) (w1 := []) hP hD [] [0, 1, 2, 3] rfl rfl (by decide) (by decide) hk1 hFc hP1 hD1
      generalize H1 = H at hP hS ⊢
      have hP : va_P D vwCl (ws_reader cI cC cZ cR rd rda pd pda pl tx r1.2.1 kd r1.2.2) H := hP
      have hD : va_D A (ws_reader cI cC cZ cR rd rda pd pda pl tx r1.2.1 kd r1.2.2) := hD
      refine lv_if_eq (tgt := 68) hx hb dX4_readNumber_35 (by decide) (fun c4 => ?_) (fun c4 => ?_)
      · replace h := br_p c4 h
        refine lv_iconst (v := 1) hx hb dX4_readNumber_68 (by decide) ?_
        have e9 := Option.some.inj h
        subst e9
        rw [hQ]
        exact W.zret (v := 1) hx hb hr rfl (fun t ht hW => ⟨⟨1, (), rfl, rfl, by rw [ht]; exact hP, hD⟩, hS.F ht⟩) hS.2.2 dX4_readNumber_69
      · replace h := br_n c4 h
        refine lv_aload_n hx hb dX4_readNumber_38 rfl (lv_at hl 1 rfl) ?_
        refine va_get (D := D) (ci := 4) (v := .ref rda) (C := RX4) (T := TX4) (N := 4) hx hb hts uX4_readNumber_X4 hown hK.1 hP 0 rfl rfl 3 (by decide) (hts _ kX4_readNumber_3) (fun _ h9 => h9) rfl dX4_readNumber_39 ?_
        refine lv_iload_n hx hb dX4_readNumber_42 rfl (lv_at hl 2 rfl) ?_
        refine lv_aload_n hx hb dX4_readNumber_43 rfl (lv_at hl 1 rfl) ?_
        refine va_get (D := D) (ci := 4) (v := .ref rda) (C := RX4) (T := TX4) (N := 4) hx hb hts uX4_readNumber_X4 hown hK.1 hP 0 rfl rfl 3 (by decide) (hts _ kX4_readNumber_3) (fun _ h9 => h9) rfl dX4_readNumber_44 ?_
        refine lv_iload_n hx hb dX4_readNumber_47 rfl (lv_at hl 2 rfl) ?_
        obtain ⟨hin, h⟩ := gd_sp h
        refine va_iald (D := D) hx hb hK.1 hP 3 0 rfl rfl hin dX4_readNumber_48 ?_
        refine lv_bipush (v := 10) hx hb dX4_readNumber_49 (by decide) ?_
        refine lv_imul hx hb dX4_readNumber_51 ?_
        refine lv_iload_n hx hb dX4_readNumber_52 rfl (lv_at hl 0 rfl) ?_
        refine lv_bipush (v := 48) hx hb dX4_readNumber_53 (by decide) ?_
        refine lv_isub hx hb dX4_readNumber_55 ?_
        refine lv_iadd hx hb dX4_readNumber_56 ?_
        obtain ⟨hin, h⟩ := gd_sp h
        refine va_iast (D := D) hx hb hK.1 hP hD hS 3 0 rfl rfl hin dX4_readNumber_57 (fun H locs hP hD hS => ?_)
        have hP : va_P D vwCl (ws_reader cI cC cZ cR rd rda pd pda pl tx r1.2.1 kd (upd r1.2.2 a0.toNatClampNeg (((r1.2.2 a0.toNatClampNeg) * 10) + (r2 - 48)))) H := hP
        have hD : va_D A (ws_reader cI cC cZ cR rd rda pd pda pl tx r1.2.1 kd (upd r1.2.2 a0.toNatClampNeg (((r1.2.2 a0.toNatClampNeg) * 10) + (r2 - 48)))) := hD
        refine lv_aload_n hx hb dX4_readNumber_58 rfl (lv_at hl 1 rfl) ?_
        refine lv_dup hx hb dX4_readNumber_59 rfl ?_
        refine va_get (D := D) (ci := 4) (v := .int r1.2.1) (C := RX4) (T := TX4) (N := 4) hx hb hts uX4_readNumber_X4 hown hK.1 hP 0 rfl rfl 1 (by decide) (hts _ kX4_readNumber_2) (fun _ h9 => h9) rfl dX4_readNumber_60 ?_
        refine lv_iconst (v := 1) hx hb dX4_readNumber_63 (by decide) ?_
        refine lv_iadd hx hb dX4_readNumber_64 ?_
        refine va_put (D := D) (ci := 4) (v := .int (r1.2.1 + 1)) (ty := .int) (C := RX4) (T := TX4) (N := 4) hx hb hts uX4_readNumber_X4 tyX4 tyX4_ok nmX4 hown hK.1 hP hD hS 0 rfl rfl 1 (by decide) (hts _ kX4_readNumber_2) (fun _ h9 => h9) rfl (by decide +kernel) rfl rfl (Nat.le_of_ble_eq_true rfl) dX4_readNumber_65 (fun H locs hP hD hS => ?_)
        have hP : va_P D vwCl (ws_reader cI cC cZ cR rd rda pd pda pl tx (r1.2.1 + 1) kd (upd r1.2.2 a0.toNatClampNeg (((r1.2.2 a0.toNatClampNeg) * 10) + (r2 - 48)))) H := hP
        have hD : va_D A (ws_reader cI cC cZ cR rd rda pd pda pl tx (r1.2.1 + 1) kd (upd r1.2.2 a0.toNatClampNeg (((r1.2.2 a0.toNatClampNeg) * 10) + (r2 - 48)))) := hD
        refine lv_iconst (v := 1) hx hb dX4_readNumber_68 (by decide) ?_
        have e9 := Option.some.inj h
        subst e9
        rw [hQ]
        exact W.zret (v := 1) hx hb hr rfl (fun t ht hW => ⟨⟨1, (), rfl, rfl, by rw [ht]; exact hP, hD⟩, hS.F ht⟩) hS.2.2 dX4_readNumber_69
  · replace h := br_n (not_not_intro c6) h
    refine lv_iconst (v := 0) hx hb dX4_readNumber_8 (by decide) ?_
    have e9 := Option.some.inj h
    subst e9
    rw [hQ]
    exact W.zret (v := 0) hx hb hr rfl (fun t ht hW => ⟨⟨0, (), rfl, rfl, by rw [ht]; exact hP, hD⟩, hS.F ht⟩) hS.2.2 dX4_readNumber_9
-- LeaningLines$Reader.readThing
abbrev OUT_X4_readThing : Type := Int32 × Int32 × (Nat → Int32)
def f_X4_readThing (pl : Int32) (tx : Nat → Int32) (at_ : Int32) (va : Nat → Int32) : Option OUT_X4_readThing :=
  gd 5 7 (gd 6 7 (bn (f_X4_readNumber pl tx at_ (upd (upd va (5 : Int32).toNatClampNeg 0) (6 : Int32).toNatClampNeg (-6)) 0) (fun r1 => jn (fun (j2 : Int32) (j3 : Int32) (j4 : Nat → Int32) => jn (fun (j5 : Int32) (j6 : Int32) => jn (fun (j7 : Int32) (j8 : Int32) (j9 : Nat → Int32) => jn (fun (j10 : Nat → Int32) => (if j7 = 0 then some ((0, j8, j10)) else bn (f_X4_take pl tx j8 64) (fun r11 => (if r11.1 = 0 then some ((1, r11.2, j10)) else bn (f_X4_readDigit pl tx r11.2 j10 6) (fun r12 => (if r12.1 = 0 then some ((0, r12.2.1, r12.2.2)) else some ((1, r12.2.1, r12.2.2)))))))) (fun j157 => (if j5 = 0 then j157 j9 else gd 5 7 (gd 5 7 (j157 (upd j9 (5 : Int32).toNatClampNeg (-(j9 (5 : Int32).toNatClampNeg)))))))) (fun j140 => jn (fun (j17 : Int32) => bn (f_X4_readNumber pl tx j17 j4 5) (fun r18 => j140 r18.1 r18.2.1 r18.2.2)) (fun j134 => (if ¬ j5 = 0 then j134 j6 else (if j2 = 0 then j140 j2 j6 j4 else bn (f_X4_take pl tx j6 43) (fun r19 => (if r19.1 = 0 then j140 j2 r19.2 j4 else j134 r19.2))))))) (fun j116 => (if j2 = 0 then j116 0 j3 else bn (f_X4_take pl tx j3 45) (fun r23 => (if r23.1 = 0 then j116 0 r23.2 else j116 1 r23.2))))) (fun j97 => (if r1.1 = 0 then j97 0 r1.2.1 r1.2.2 else bn (f_X4_take pl tx r1.2.1 44) (fun r26 => (if r26.1 = 0 then j97 0 r26.2 r1.2.2 else bn (f_X4_readNumber pl tx r26.2 r1.2.2 1) (fun r27 => (if r27.1 = 0 then j97 0 r27.2.1 r27.2.2 else bn (f_X4_take pl tx r27.2.1 44) (fun r28 => (if r28.1 = 0 then j97 0 r28.2 r27.2.2 else bn (f_X4_readNumber pl tx r28.2 r27.2.2 2) (fun r29 => (if r29.1 = 0 then j97 0 r29.2.1 r29.2.2 else bn (f_X4_take pl tx r29.2.1 44) (fun r30 => (if r30.1 = 0 then j97 0 r30.2 r29.2.2 else bn (f_X4_readNumber pl tx r30.2 r29.2.2 3) (fun r31 => (if r31.1 = 0 then j97 0 r31.2.1 r31.2.2 else bn (f_X4_take pl tx r31.2.1 42) (fun r32 => (if r32.1 = 0 then j97 0 r32.2 r31.2.2 else bn (f_X4_readDigit pl tx r32.2 r31.2.2 4) (fun r33 => (if r33.1 = 0 then j97 0 r33.2.1 r33.2.2 else j97 1 r33.2.1 r33.2.2)))))))))))))))))))))
theorem uX4_readThing_X4 : ∀ w ∈ wsX40, w ∈ wsX4_readThing := by decide +kernel
theorem kX4_readThing_1 : Cond.fieldLink RX4 19 "LeaningLines$Reader" "values" "[I" ∈ wsX4_readThing := by decide +kernel
abbrev R_X4_readThing : Room := { frames := 3, cells := 0, slots := 0, locals := 65 }
set_option maxHeartbeats 4000000 in
set_option maxRecDepth 100000 in
theorem m_X4_readThing (l : Launch) (D : va_G) (cI cC cZ cR : ClassId) (rd rda pd pda : Nat) (sz : Nat) (pl : Int32) (tx : Nat → Int32) (at_ : Int32) (kd : Int32) (va : Nat → Int32)     (r : OUT_X4_readThing) (hf : f_X4_readThing pl tx at_ va = some r) : Met l yX4_readThing wsX4_readThing R_X4_readThing (cPc D cI cC cZ cR [.ref rd] sz (ws_reader cI cC cZ cR rd rda pd pda pl tx at_ kd va)) (cQi D (ws_reader cI cC cZ cR rd rda pd pda pl tx r.2.1 kd r.2.2) (va_A (ws_reader cI cC cZ cR rd rda pd pda pl tx at_ kd va) sz) r.1) 0 0 (va_A (ws_reader cI cC cZ cR rd rda pd pda pl tx at_ kd va) sz) := by
  refine Met.ofW (cc := cX4_readThing) (maxL := 3) (ret := (some .boolean)) (by decide) rfl ?_
  intro p e s m args below meth c s₁ B hml hv
  obtain ⟨rfl, hsz, hP, hK, hD0⟩ := hv
  have hx := B.exec
  have hb := B.bytes
  have hr := B.returns
  have hts := atoms_spec (ws := wsX4_readThing) B.pre
  have hown : s.vm.findClass RX4 = some m.cls := findClass_of_methodNamed B.named
  have hlocks := B.notSynchronized
  subst hsz
  have hD := hD0.self (sz := s.heap.size)
  generalize hAe : va_A (ws_reader cI cC cZ cR rd rda pd pda pl tx at_ kd va) s.heap.size = A at hD ⊢
  skip
  have hA : ∀ q : Nat, s.heap.size ≤ q → A q := fun q h => by rw [← hAe]; exact Or.inr h
  have hS : va_S A s.heap s.heap [] := va_S.rf
  have hl := lv_entry ([.ref rd]) (n := 3) (Nat.le_of_ble_eq_true rfl)
  rw [lg_entry_eq]
  generalize (lg_sl ([.ref rd]) ++ List.replicate (3 - (lg_sl ([.ref rd])).length) Slot.unset).toArray = ls at hl ⊢
  have hl : lv_has ls 3 [(0, .ref rd)] := hl
  refine W_absQ (fun Q hQ => ?_)
  refine W.eq (g2 := F0 m 0 ls []) rfl ?_
  have h := hf
  unfold f_X4_readThing at h
  refine lv_aload_n hx hb dX4_readThing_0 rfl (lv_at hl 0 rfl) ?_
  refine va_get (D := D) (ci := 4) (v := .ref rda) (C := RX4) (T := TX4) (N := 4) hx hb hts uX4_readThing_X4 hown hK.1 hP 0 rfl rfl 3 (by decide) (hts _ kX4_readThing_1) (fun _ h9 => h9) rfl dX4_readThing_1 ?_
  refine lv_iconst (v := 5) hx hb dX4_readThing_4 (by decide) ?_
  refine lv_iconst (v := 0) hx hb dX4_readThing_5 (by decide) ?_
  obtain ⟨hin, h⟩ := gd_sp h
  refine va_iast (D := D) hx hb hK.1 hP hD hS 3 0 rfl rfl hin dX4_readThing_6 (fun H locs hP hD hS => ?_)
  have hP : va_P D vwCl (ws_reader cI cC cZ cR rd rda pd pda pl tx at_ kd (upd va (5 : Int32).toNatClampNeg 0)) H := hP
  have hD : va_D A (ws_reader cI cC cZ cR rd rda pd pda pl tx at_ kd (upd va (5 : Int32).toNatClampNeg 0)) := hD
  refine lv_aload_n hx hb dX4_readThing_7 rfl (lv_at hl 0 rfl) ?_
  refine va_get (D := D) (ci := 4) (v := .ref rda) (C := RX4) (T := TX4) (N := 4) hx hb hts uX4_readThing_X4 hown hK.1 hP 0 rfl rfl 3 (by decide) (hts _ kX4_readThing_1) (fun _ h9 => h9) rfl dX4_readThing_8 ?_
  refine lv_bipush (v := 6) hx hb dX4_readThing_11 (by decide) ?_
  refine lv_bipush (v := (-6)) hx hb dX4_readThing_13 (by decide) ?_
  obtain ⟨hin, h⟩ := gd_sp h
  refine va_iast (D := D) hx hb hK.1 hP hD hS 3 0 rfl rfl hin dX4_readThing_15 (fun H locs hP hD hS => ?_)
  have hP : va_P D vwCl (ws_reader cI cC cZ cR rd rda pd pda pl tx at_ kd (upd (upd va (5 : Int32).toNatClampNeg 0) (6 : Int32).toNatClampNeg (-6))) H := hP
  have hD : va_D A (ws_reader cI cC cZ cR rd rda pd pda pl tx at_ kd (upd (upd va (5 : Int32).toNatClampNeg 0) (6 : Int32).toNatClampNeg (-6))) := hD
  refine lv_aload_n hx hb dX4_readThing_16 rfl (lv_at hl 0 rfl) ?_
  refine lv_iconst (v := 0) hx hb dX4_readThing_17 (by decide) ?_
  obtain ⟨r1, hcr1, h⟩ := bn_sp h
  have hPc := hP.sub (ws' := (ws_reader cI cC cZ cR rd rda pd pda pl tx at_ kd (upd (upd va (5 : Int32).toNatClampNeg 0) (6 : Int32).toNatClampNeg (-6)))) [0, 1, 2, 3] rfl
  have hDc := hD.sub (ws' := (ws_reader cI cC cZ cR rd rda pd pda pl tx at_ kd (upd (upd va (5 : Int32).toNatClampNeg 0) (6 : Int32).toNatClampNeg (-6)))) [0, 1, 2, 3] (by decide) rfl
  have hFc := va_free (wc := (ws_reader cI cC cZ cR rd rda pd pda pl tx at_ kd (upd (upd va (5 : Int32).toNatClampNeg 0) (6 : Int32).toNatClampNeg (-6)))) hD hS hA [0, 1, 2, 3] rfl
  refine va_calli (va_runV (As := [.int 0]) (rest := []) ⟨hx, hb, hml, hown, hts⟩ (m_X4_readNumber l D cI cC cZ cR rd rda pd pda _ pl tx at_ kd (upd (upd va (5 : Int32).toNatClampNeg 0) (6 : Int32).toNatClampNeg (-6)) 0   r1 hcr1) (cwV 1 hts gX4_readThing_X4_readNumber rfl rfl rfl (by decide +kernel) ⟨Nat.le_of_ble_eq_true rfl, Nat.le_of_ble_eq_true rfl⟩) (cPc_pv hPc hK hDc (ci := 4) (q0 := 0) rfl rfl) rfl rfl hl.1 rfl (lv_room (Nat.le_of_ble_eq_true rfl)) dX4_readThing_18 ⟨Nat.le_of_ble_eq_true rfl, Nat.le_of_ble_eq_true rfl⟩) hS (fun q _ h => hFc q h) hFc (fun xq u t H1 locs ht hvm hw hB hz1 hk1 hS => ?_)
  rw [hw]
  obtain ⟨hP1, hD1⟩ := hB
  rw [ht] at hP1
  obtain ⟨hP, hD⟩ := va_join (wr := []) (w1 := (ws_reader cI cC cZ cR rd rda pd pda pl tx r1.2.1 kd r1.2.2)) hP hD [0, 1, 2, 3] [] rfl rfl (by decide) (by decide) hk1 hFc hP1 hD1
  generalize H1 = H at hP hS ⊢
  have hP : va_P D vwCl (ws_reader cI cC cZ cR rd rda pd pda pl tx r1.2.1 kd r1.2.2) H := hP
  have hD : va_D A (ws_reader cI cC cZ cR rd rda pd pda pl tx r1.2.1 kd r1.2.2) := hD
  obtain ⟨j97, hj97, h⟩ := jn_sp h
  have J97 : ∀ (j2 : Int32) (j3 : Int32) (j4 : Nat → Int32) (H : Heap) (locs : List Loc) (ls : Array Slot), j97 j2 j3 j4 = some r → va_P D vwCl (ws_reader cI cC cZ cR rd rda pd pda pl tx j3 kd j4) H → va_D A (ws_reader cI cC cZ cR rd rda pd pda pl tx j3 kd j4) → va_S A s.heap H locs → lv_has ls 3 [(0, .ref rd)] → W p l e R_X4_readThing s m ([.ref rd] : List Value).toArray below meth c H locs 0 0 Q (F0 m 97 ls [.int j2]) := by
    intro j2 j3 j4 H locs ls h hP hD hS hl
    rw [hj97] at h
    refine lv_istore_n (lv' := [(1, .int j2), (0, .ref rd)]) hx hb dX4_readThing_97 rfl hl (by decide) rfl (fun ls hl => ?_)
    refine lv_iload_n hx hb dX4_readThing_98 rfl (lv_at hl 0 rfl) ?_
    obtain ⟨j116, hj116, h⟩ := jn_sp h
    have J116 : ∀ (j5 : Int32) (j6 : Int32) (H : Heap) (locs : List Loc) (ls : Array Slot), j116 j5 j6 = some r → va_P D vwCl (ws_reader cI cC cZ cR rd rda pd pda pl tx j6 kd j4) H → va_D A (ws_reader cI cC cZ cR rd rda pd pda pl tx j6 kd j4) → va_S A s.heap H locs → lv_has ls 3 [(0, .ref rd), (1, .int j2)] → W p l e R_X4_readThing s m ([.ref rd] : List Value).toArray below meth c H locs 0 0 Q (F0 m 116 ls [.int j5]) := by
      intro j5 j6 H locs ls h hP hD hS hl
      rw [hj116] at h
      refine lv_istore_n (lv' := [(2, .int j5), (0, .ref rd), (1, .int j2)]) hx hb dX4_readThing_116 rfl hl (by decide) rfl (fun ls hl => ?_)
      refine lv_iload_n hx hb dX4_readThing_117 rfl (lv_at hl 0 rfl) ?_
      obtain ⟨j140, hj140, h⟩ := jn_sp h
      have J140 : ∀ (j7 : Int32) (j8 : Int32) (j9 : Nat → Int32) (H : Heap) (locs : List Loc) (ls : Array Slot), j140 j7 j8 j9 = some r → va_P D vwCl (ws_reader cI cC cZ cR rd rda pd pda pl tx j8 kd j9) H → va_D A (ws_reader cI cC cZ cR rd rda pd pda pl tx j8 kd j9) → va_S A s.heap H locs → lv_has ls 3 [(0, .ref rd), (1, .int j7), (2, .int j5)] → W p l e R_X4_readThing s m ([.ref rd] : List Value).toArray below meth c H locs 0 0 Q (F0 m 140 ls []) := by
        intro j7 j8 j9 H locs ls h hP hD hS hl
        rw [hj140] at h
        refine lv_iload_n hx hb dX4_readThing_140 rfl (lv_at hl 2 rfl) ?_
        obtain ⟨j157, hj157, h⟩ := jn_sp h
        have J157 : ∀ (j10 : Nat → Int32) (H : Heap) (locs : List Loc) (ls : Array Slot), j157 j10 = some r → va_P D vwCl (ws_reader cI cC cZ cR rd rda pd pda pl tx j8 kd j10) H → va_D A (ws_reader cI cC cZ cR rd rda pd pda pl tx j8 kd j10) → va_S A s.heap H locs → lv_has ls 3 [(0, .ref rd), (1, .int j7), (2, .int j5)] → W p l e R_X4_readThing s m ([.ref rd] : List Value).toArray below meth c H locs 0 0 Q (F0 m 157 ls []) := by
          intro j10 H locs ls h hP hD hS hl
          rw [hj157] at h
          refine lv_iload_n hx hb dX4_readThing_157 rfl (lv_at hl 1 rfl) ?_
          refine lv_if_eq (tgt := 183) hx hb dX4_readThing_158 (by decide) (fun c15 => ?_) (fun c15 => ?_)
          · replace h := br_p c15 h
            refine lv_iconst (v := 0) hx hb dX4_readThing_183 (by decide) ?_
            have e9 := Option.some.inj h
            subst e9
            rw [hQ]
            exact W.zret (v := 0) hx hb hr rfl (fun t ht hW => ⟨⟨0, (), rfl, rfl, by rw [ht]; exact hP, hD⟩, hS.F ht⟩) hS.2.2 dX4_readThing_184
          · replace h := br_n c15 h
            refine lv_aload_n hx hb dX4_readThing_161 rfl (lv_at hl 0 rfl) ?_
            refine lv_bipush (v := 64) hx hb dX4_readThing_162 (by decide) ?_
            obtain ⟨r11, hcr11, h⟩ := bn_sp h
            have hPc := hP.sub (ws' := (ws_reader cI cC cZ cR rd rda pd pda pl tx j8 kd j10)) [0, 1, 2, 3] rfl
            have hDc := hD.sub (ws' := (ws_reader cI cC cZ cR rd rda pd pda pl tx j8 kd j10)) [0, 1, 2, 3] (by decide) rfl
            have hFc := va_free (wc := (ws_reader cI cC cZ cR rd rda pd pda pl tx j8 kd j10)) hD hS hA [0, 1, 2, 3] rfl
            refine va_calli (va_runV (As := [.int 64]) (rest := []) ⟨hx, hb, hml, hown, hts⟩ (m_X4_take l D cI cC cZ cR rd rda pd pda _ pl tx j8 kd j10 64   r11 hcr11) (cwV 1 hts gX4_readThing_X4_take rfl rfl rfl (by decide +kernel) ⟨Nat.le_of_ble_eq_true rfl, Nat.le_of_ble_eq_true rfl⟩) (cPc_pv hPc hK hDc (ci := 4) (q0 := 0) rfl rfl) rfl rfl hl.1 rfl (lv_room (Nat.le_of_ble_eq_true rfl)) dX4_readThing_164 ⟨Nat.le_of_ble_eq_true rfl, Nat.le_of_ble_eq_true rfl⟩) hS (fun q _ h => hFc q h) hFc (fun xq u t H1 locs ht hvm hw hB hz1 hk1 hS => ?_)
            rw [hw]
            obtain ⟨hP1, hD1⟩ := hB
            rw [ht] at hP1
            obtain ⟨hP, hD⟩ := va_join (wr := []) (w1 := (ws_reader cI cC cZ cR rd rda pd pda pl tx r11.2 kd j10)) hP hD [0, 1, 2, 3] [] rfl rfl (by decide) (by decide) hk1 hFc hP1 hD1
            generalize H1 = H at hP hS ⊢
            have hP : va_P D vwCl (ws_reader cI cC cZ cR rd rda pd pda pl tx r11.2 kd j10) H := hP
            have hD : va_D A (ws_reader cI cC cZ cR rd rda pd pda pl tx r11.2 kd j10) := hD
            refine lv_if_eq (tgt := 179) hx hb dX4_readThing_167 (by decide) (fun c14 => ?_) (fun c14 => ?_)
            · replace h := br_p c14 h
              refine lv_iconst (v := 1) hx hb dX4_readThing_179 (by decide) ?_
              refine lv_goto (tgt := 184) hx hb dX4_readThing_180 (by decide) ?_
              have e9 := Option.some.inj h
              subst e9
              rw [hQ]
              exact W.zret (v := 1) hx hb hr rfl (fun t ht hW => ⟨⟨1, (), rfl, rfl, by rw [ht]; exact hP, hD⟩, hS.F ht⟩) hS.2.2 dX4_readThing_184
            · replace h := br_n c14 h
              refine lv_aload_n hx hb dX4_readThing_170 rfl (lv_at hl 0 rfl) ?_
              refine lv_bipush (v := 6) hx hb dX4_readThing_171 (by decide) ?_
              obtain ⟨r12, hcr12, h⟩ := bn_sp h
              have hPc := hP.sub (ws' := (ws_reader cI cC cZ cR rd rda pd pda pl tx r11.2 kd j10)) [0, 1, 2, 3] rfl
              have hDc := hD.sub (ws' := (ws_reader cI cC cZ cR rd rda pd pda pl tx r11.2 kd j10)) [0, 1, 2, 3] (by decide) rfl
              have hFc := va_free (wc := (ws_reader cI cC cZ cR rd rda pd pda pl tx r11.2 kd j10)) hD hS hA [0, 1, 2, 3] rfl
              refine va_calli (va_runV (As := [.int 6]) (rest := []) ⟨hx, hb, hml, hown, hts⟩ (m_X4_readDigit l D cI cC cZ cR rd rda pd pda _ pl tx r11.2 kd j10 6   r12 hcr12) (cwV 1 hts gX4_readThing_X4_readDigit rfl rfl rfl (by decide +kernel) ⟨Nat.le_of_ble_eq_true rfl, Nat.le_of_ble_eq_true rfl⟩) (cPc_pv hPc hK hDc (ci := 4) (q0 := 0) rfl rfl) rfl rfl hl.1 rfl (lv_room (Nat.le_of_ble_eq_true rfl)) dX4_readThing_173 ⟨Nat.le_of_ble_eq_true rfl, Nat.le_of_ble_eq_true rfl⟩) hS (fun q _ h => hFc q h) hFc (fun xq u t H1 locs ht hvm hw hB hz1 hk1 hS => ?_)
              rw [hw]
              obtain ⟨hP1, hD1⟩ := hB
              rw [ht] at hP1
              obtain ⟨hP, hD⟩ := va_join (wr := []) (w1 := (ws_reader cI cC cZ cR rd rda pd pda pl tx r12.2.1 kd r12.2.2)) hP hD [0, 1, 2, 3] [] rfl rfl (by decide) (by decide) hk1 hFc hP1 hD1
              generalize H1 = H at hP hS ⊢
              have hP : va_P D vwCl (ws_reader cI cC cZ cR rd rda pd pda pl tx r12.2.1 kd r12.2.2) H := hP
              have hD : va_D A (ws_reader cI cC cZ cR rd rda pd pda pl tx r12.2.1 kd r12.2.2) := hD
              refine lv_if_eq (tgt := 183) hx hb dX4_readThing_176 (by decide) (fun c13 => ?_) (fun c13 => ?_)
              · replace h := br_p c13 h
                refine lv_iconst (v := 0) hx hb dX4_readThing_183 (by decide) ?_
                have e9 := Option.some.inj h
                subst e9
                rw [hQ]
                exact W.zret (v := 0) hx hb hr rfl (fun t ht hW => ⟨⟨0, (), rfl, rfl, by rw [ht]; exact hP, hD⟩, hS.F ht⟩) hS.2.2 dX4_readThing_184
              · replace h := br_n c13 h
                refine lv_iconst (v := 1) hx hb dX4_readThing_179 (by decide) ?_
                refine lv_goto (tgt := 184) hx hb dX4_readThing_180 (by decide) ?_
                have e9 := Option.some.inj h
                subst e9
                rw [hQ]
                exact W.zret (v := 1) hx hb hr rfl (fun t ht hW => ⟨⟨1, (), rfl, rfl, by rw [ht]; exact hP, hD⟩, hS.F ht⟩) hS.2.2 dX4_readThing_184
        refine lv_if_eq (tgt := 157) hx hb dX4_readThing_141 (by decide) (fun c16 => ?_) (fun c16 => ?_)
        · replace h := br_p c16 h
          exact J157 _ _ _ _ h hP hD hS (lv_sub hl [0, 1, 2] rfl)
        · replace h := br_n c16 h
          refine lv_aload_n hx hb dX4_readThing_144 rfl (lv_at hl 0 rfl) ?_
          refine va_get (D := D) (ci := 4) (v := .ref rda) (C := RX4) (T := TX4) (N := 4) hx hb hts uX4_readThing_X4 hown hK.1 hP 0 rfl rfl 3 (by decide) (hts _ kX4_readThing_1) (fun _ h9 => h9) rfl dX4_readThing_145 ?_
          refine lv_iconst (v := 5) hx hb dX4_readThing_148 (by decide) ?_
          refine lv_aload_n hx hb dX4_readThing_149 rfl (lv_at hl 0 rfl) ?_
          refine va_get (D := D) (ci := 4) (v := .ref rda) (C := RX4) (T := TX4) (N := 4) hx hb hts uX4_readThing_X4 hown hK.1 hP 0 rfl rfl 3 (by decide) (hts _ kX4_readThing_1) (fun _ h9 => h9) rfl dX4_readThing_150 ?_
          refine lv_iconst (v := 5) hx hb dX4_readThing_153 (by decide) ?_
          obtain ⟨hin, h⟩ := gd_sp h
          refine va_iald (D := D) hx hb hK.1 hP 3 0 rfl rfl hin dX4_readThing_154 ?_
          refine lv_ineg hx hb dX4_readThing_155 ?_
          obtain ⟨hin, h⟩ := gd_sp h
          refine va_iast (D := D) hx hb hK.1 hP hD hS 3 0 rfl rfl hin dX4_readThing_156 (fun H locs hP hD hS => ?_)
          have hP : va_P D vwCl (ws_reader cI cC cZ cR rd rda pd pda pl tx j8 kd (upd j9 (5 : Int32).toNatClampNeg (-(j9 (5 : Int32).toNatClampNeg)))) H := hP
          have hD : va_D A (ws_reader cI cC cZ cR rd rda pd pda pl tx j8 kd (upd j9 (5 : Int32).toNatClampNeg (-(j9 (5 : Int32).toNatClampNeg)))) := hD
          exact J157 _ _ _ _ h hP hD hS (lv_sub hl [0, 1, 2] rfl)
      obtain ⟨j134, hj134, h⟩ := jn_sp h
      have J134 : ∀ (j17 : Int32) (H : Heap) (locs : List Loc) (ls : Array Slot), j134 j17 = some r → va_P D vwCl (ws_reader cI cC cZ cR rd rda pd pda pl tx j17 kd j4) H → va_D A (ws_reader cI cC cZ cR rd rda pd pda pl tx j17 kd j4) → va_S A s.heap H locs → lv_has ls 3 [(0, .ref rd), (1, .int j2), (2, .int j5)] → W p l e R_X4_readThing s m ([.ref rd] : List Value).toArray below meth c H locs 0 0 Q (F0 m 134 ls []) := by
        intro j17 H locs ls h hP hD hS hl
        rw [hj134] at h
        refine lv_aload_n hx hb dX4_readThing_134 rfl (lv_at hl 0 rfl) ?_
        refine lv_iconst (v := 5) hx hb dX4_readThing_135 (by decide) ?_
        obtain ⟨r18, hcr18, h⟩ := bn_sp h
        have hPc := hP.sub (ws' := (ws_reader cI cC cZ cR rd rda pd pda pl tx j17 kd j4)) [0, 1, 2, 3] rfl
        have hDc := hD.sub (ws' := (ws_reader cI cC cZ cR rd rda pd pda pl tx j17 kd j4)) [0, 1, 2, 3] (by decide) rfl
        have hFc := va_free (wc := (ws_reader cI cC cZ cR rd rda pd pda pl tx j17 kd j4)) hD hS hA [0, 1, 2, 3] rfl
        refine va_calli (va_runV (As := [.int 5]) (rest := []) ⟨hx, hb, hml, hown, hts⟩ (m_X4_readNumber l D cI cC cZ cR rd rda pd pda _ pl tx j17 kd j4 5   r18 hcr18) (cwV 1 hts gX4_readThing_X4_readNumber rfl rfl rfl (by decide +kernel) ⟨Nat.le_of_ble_eq_true rfl, Nat.le_of_ble_eq_true rfl⟩) (cPc_pv hPc hK hDc (ci := 4) (q0 := 0) rfl rfl) rfl rfl hl.1 rfl (lv_room (Nat.le_of_ble_eq_true rfl)) dX4_readThing_136 ⟨Nat.le_of_ble_eq_true rfl, Nat.le_of_ble_eq_true rfl⟩) hS (fun q _ h => hFc q h) hFc (fun xq u t H1 locs ht hvm hw hB hz1 hk1 hS => ?_)
        rw [hw]
        obtain ⟨hP1, hD1⟩ := hB
        rw [ht] at hP1
        obtain ⟨hP, hD⟩ := va_join (wr := []) (w1 := (ws_reader cI cC cZ cR rd rda pd pda pl tx r18.2.1 kd r18.2.2)) hP hD [0, 1, 2, 3] [] rfl rfl (by decide) (by decide) hk1 hFc hP1 hD1
        generalize H1 = H at hP hS ⊢
        have hP : va_P D vwCl (ws_reader cI cC cZ cR rd rda pd pda pl tx r18.2.1 kd r18.2.2) H := hP
        have hD : va_D A (ws_reader cI cC cZ cR rd rda pd pda pl tx r18.2.1 kd r18.2.2) := hD
        refine lv_istore_n (lv' := [(1, .int r18.1), (0, .ref rd), (2, .int j5)]) hx hb dX4_readThing_139 rfl hl (by decide) rfl (fun ls hl => ?_)
        exact J140 _ _ _ _ _ _ h hP hD hS (lv_sub hl [1, 0, 2] rfl)
      refine lv_if_ne (tgt := 134) hx hb dX4_readThing_118 (by decide) (fun c22 => ?_) (fun c22 => ?_)
      · replace h := br_p c22 h
        exact J134 _ _ _ _ h hP hD hS (lv_sub hl [1, 2, 0] rfl)
      · replace h := br_n (not_not_intro c22) h
        refine lv_iload_n hx hb dX4_readThing_121 rfl (lv_at hl 2 rfl) ?_
        refine lv_if_eq (tgt := 140) hx hb dX4_readThing_122 (by decide) (fun c21 => ?_) (fun c21 => ?_)
        · replace h := br_p c21 h
          exact J140 _ _ _ _ _ _ h hP hD hS (lv_sub hl [1, 2, 0] rfl)
        · replace h := br_n c21 h
          refine lv_aload_n hx hb dX4_readThing_125 rfl (lv_at hl 1 rfl) ?_
          refine lv_bipush (v := 43) hx hb dX4_readThing_126 (by decide) ?_
          obtain ⟨r19, hcr19, h⟩ := bn_sp h
          have hPc := hP.sub (ws' := (ws_reader cI cC cZ cR rd rda pd pda pl tx j6 kd j4)) [0, 1, 2, 3] rfl
          have hDc := hD.sub (ws' := (ws_reader cI cC cZ cR rd rda pd pda pl tx j6 kd j4)) [0, 1, 2, 3] (by decide) rfl
          have hFc := va_free (wc := (ws_reader cI cC cZ cR rd rda pd pda pl tx j6 kd j4)) hD hS hA [0, 1, 2, 3] rfl
          refine va_calli (va_runV (As := [.int 43]) (rest := []) ⟨hx, hb, hml, hown, hts⟩ (m_X4_take l D cI cC cZ cR rd rda pd pda _ pl tx j6 kd j4 43   r19 hcr19) (cwV 1 hts gX4_readThing_X4_take rfl rfl rfl (by decide +kernel) ⟨Nat.le_of_ble_eq_true rfl, Nat.le_of_ble_eq_true rfl⟩) (cPc_pv hPc hK hDc (ci := 4) (q0 := 0) rfl rfl) rfl rfl hl.1 rfl (lv_room (Nat.le_of_ble_eq_true rfl)) dX4_readThing_128 ⟨Nat.le_of_ble_eq_true rfl, Nat.le_of_ble_eq_true rfl⟩) hS (fun q _ h => hFc q h) hFc (fun xq u t H1 locs ht hvm hw hB hz1 hk1 hS => ?_)
          rw [hw]
          obtain ⟨hP1, hD1⟩ := hB
          rw [ht] at hP1
          obtain ⟨hP, hD⟩ := va_join (wr := []) (w1 := (ws_reader cI cC cZ cR rd rda pd pda pl tx r19.2 kd j4)) hP hD [0, 1, 2, 3] [] rfl rfl (by decide) (by decide) hk1 hFc hP1 hD1
          generalize H1 = H at hP hS ⊢
          have hP : va_P D vwCl (ws_reader cI cC cZ cR rd rda pd pda pl tx r19.2 kd j4) H := hP
          have hD : va_D A (ws_reader cI cC cZ cR rd rda pd pda pl tx r19.2 kd j4) := hD
          refine lv_if_eq (tgt := 140) hx hb dX4_readThing_131 (by decide) (fun c20 => ?_) (fun c20 => ?_)
          · replace h := br_p c20 h
            exact J140 _ _ _ _ _ _ h hP hD hS (lv_sub hl [1, 2, 0] rfl)
          · replace h := br_n c20 h
            exact J134 _ _ _ _ h hP hD hS (lv_sub hl [1, 2, 0] rfl)
    refine lv_if_eq (tgt := 115) hx hb dX4_readThing_99 (by decide) (fun c25 => ?_) (fun c25 => ?_)
    · replace h := br_p c25 h
      refine lv_iconst (v := 0) hx hb dX4_readThing_115 (by decide) ?_
      exact J116 _ _ _ _ _ h hP hD hS (lv_sub hl [1, 0] rfl)
    · replace h := br_n c25 h
      refine lv_aload_n hx hb dX4_readThing_102 rfl (lv_at hl 1 rfl) ?_
      refine lv_bipush (v := 45) hx hb dX4_readThing_103 (by decide) ?_
      obtain ⟨r23, hcr23, h⟩ := bn_sp h
      have hPc := hP.sub (ws' := (ws_reader cI cC cZ cR rd rda pd pda pl tx j3 kd j4)) [0, 1, 2, 3] rfl
      have hDc := hD.sub (ws' := (ws_reader cI cC cZ cR rd rda pd pda pl tx j3 kd j4)) [0, 1, 2, 3] (by decide) rfl
      have hFc := va_free (wc := (ws_reader cI cC cZ cR rd rda pd pda pl tx j3 kd j4)) hD hS hA [0, 1, 2, 3] rfl
      refine va_calli (va_runV (As := [.int 45]) (rest := []) ⟨hx, hb, hml, hown, hts⟩ (m_X4_take l D cI cC cZ cR rd rda pd pda _ pl tx j3 kd j4 45   r23 hcr23) (cwV 1 hts gX4_readThing_X4_take rfl rfl rfl (by decide +kernel) ⟨Nat.le_of_ble_eq_true rfl, Nat.le_of_ble_eq_true rfl⟩) (cPc_pv hPc hK hDc (ci := 4) (q0 := 0) rfl rfl) rfl rfl hl.1 rfl (lv_room (Nat.le_of_ble_eq_true rfl)) dX4_readThing_105 ⟨Nat.le_of_ble_eq_true rfl, Nat.le_of_ble_eq_true rfl⟩) hS (fun q _ h => hFc q h) hFc (fun xq u t H1 locs ht hvm hw hB hz1 hk1 hS => ?_)
      rw [hw]
      obtain ⟨hP1, hD1⟩ := hB
      rw [ht] at hP1
      obtain ⟨hP, hD⟩ := va_join (wr := []) (w1 := (ws_reader cI cC cZ cR rd rda pd pda pl tx r23.2 kd j4)) hP hD [0, 1, 2, 3] [] rfl rfl (by decide) (by decide) hk1 hFc hP1 hD1
      generalize H1 = H at hP hS ⊢
      have hP : va_P D vwCl (ws_reader cI cC cZ cR rd rda pd pda pl tx r23.2 kd j4) H := hP
      have hD : va_D A (ws_reader cI cC cZ cR rd rda pd pda pl tx r23.2 kd j4) := hD
      refine lv_if_eq (tgt := 115) hx hb dX4_readThing_108 (by decide) (fun c24 => ?_) (fun c24 => ?_)
      · replace h := br_p c24 h
        refine lv_iconst (v := 0) hx hb dX4_readThing_115 (by decide) ?_
        exact J116 _ _ _ _ _ h hP hD hS (lv_sub hl [1, 0] rfl)
      · replace h := br_n c24 h
        refine lv_iconst (v := 1) hx hb dX4_readThing_111 (by decide) ?_
        refine lv_goto (tgt := 116) hx hb dX4_readThing_112 (by decide) ?_
        exact J116 _ _ _ _ _ h hP hD hS (lv_sub hl [1, 0] rfl)
  refine lv_if_eq (tgt := 96) hx hb dX4_readThing_21 (by decide) (fun c42 => ?_) (fun c42 => ?_)
  · replace h := br_p c42 h
    refine lv_iconst (v := 0) hx hb dX4_readThing_96 (by decide) ?_
    exact J97 _ _ _ _ _ _ h hP hD hS (lv_sub hl [0] rfl)
  · replace h := br_n c42 h
    refine lv_aload_n hx hb dX4_readThing_24 rfl (lv_at hl 0 rfl) ?_
    refine lv_bipush (v := 44) hx hb dX4_readThing_25 (by decide) ?_
    obtain ⟨r26, hcr26, h⟩ := bn_sp h
    have hPc := hP.sub (ws' := (ws_reader cI cC cZ cR rd rda pd pda pl tx r1.2.1 kd r1.2.2)) [0, 1, 2, 3] rfl
    have hDc := hD.sub (ws' := (ws_reader cI cC cZ cR rd rda pd pda pl tx r1.2.1 kd r1.2.2)) [0, 1, 2, 3] (by decide) rfl
    have hFc := va_free (wc := (ws_reader cI cC cZ cR rd rda pd pda pl tx r1.2.1 kd r1.2.2)) hD hS hA [0, 1, 2, 3] rfl
    refine va_calli (va_runV (As := [.int 44]) (rest := []) ⟨hx, hb, hml, hown, hts⟩ (m_X4_take l D cI cC cZ cR rd rda pd pda _ pl tx r1.2.1 kd r1.2.2 44   r26 hcr26) (cwV 1 hts gX4_readThing_X4_take rfl rfl rfl (by decide +kernel) ⟨Nat.le_of_ble_eq_true rfl, Nat.le_of_ble_eq_true rfl⟩) (cPc_pv hPc hK hDc (ci := 4) (q0 := 0) rfl rfl) rfl rfl hl.1 rfl (lv_room (Nat.le_of_ble_eq_true rfl)) dX4_readThing_27 ⟨Nat.le_of_ble_eq_true rfl, Nat.le_of_ble_eq_true rfl⟩) hS (fun q _ h => hFc q h) hFc (fun xq u t H1 locs ht hvm hw hB hz1 hk1 hS => ?_)
    rw [hw]
    obtain ⟨hP1, hD1⟩ := hB
    rw [ht] at hP1
    obtain ⟨hP, hD⟩ := va_join (wr := []) (w1 := (ws_reader cI cC cZ cR rd rda pd pda pl tx r26.2 kd r1.2.2)) hP hD [0, 1, 2, 3] [] rfl rfl (by decide) (by decide) hk1 hFc hP1 hD1
    generalize H1 = H at hP hS ⊢
    have hP : va_P D vwCl (ws_reader cI cC cZ cR rd rda pd pda pl tx r26.2 kd r1.2.2) H := hP
    have hD : va_D A (ws_reader cI cC cZ cR rd rda pd pda pl tx r26.2 kd r1.2.2) := hD
    refine lv_if_eq (tgt := 96) hx hb dX4_readThing_30 (by decide) (fun c41 => ?_) (fun c41 => ?_)
    · replace h := br_p c41 h
      refine lv_iconst (v := 0) hx hb dX4_readThing_96 (by decide) ?_
      exact J97 _ _ _ _ _ _ h hP hD hS (lv_sub hl [0] rfl)
    · replace h := br_n c41 h
      refine lv_aload_n hx hb dX4_readThing_33 rfl (lv_at hl 0 rfl) ?_
      refine lv_iconst (v := 1) hx hb dX4_readThing_34 (by decide) ?_
      obtain ⟨r27, hcr27, h⟩ := bn_sp h
      have hPc := hP.sub (ws' := (ws_reader cI cC cZ cR rd rda pd pda pl tx r26.2 kd r1.2.2)) [0, 1, 2, 3] rfl
      have hDc := hD.sub (ws' := (ws_reader cI cC cZ cR rd rda pd pda pl tx r26.2 kd r1.2.2)) [0, 1, 2, 3] (by decide) rfl
      have hFc := va_free (wc := (ws_reader cI cC cZ cR rd rda pd pda pl tx r26.2 kd r1.2.2)) hD hS hA [0, 1, 2, 3] rfl
      refine va_calli (va_runV (As := [.int 1]) (rest := []) ⟨hx, hb, hml, hown, hts⟩ (m_X4_readNumber l D cI cC cZ cR rd rda pd pda _ pl tx r26.2 kd r1.2.2 1   r27 hcr27) (cwV 1 hts gX4_readThing_X4_readNumber rfl rfl rfl (by decide +kernel) ⟨Nat.le_of_ble_eq_true rfl, Nat.le_of_ble_eq_true rfl⟩) (cPc_pv hPc hK hDc (ci := 4) (q0 := 0) rfl rfl) rfl rfl hl.1 rfl (lv_room (Nat.le_of_ble_eq_true rfl)) dX4_readThing_35 ⟨Nat.le_of_ble_eq_true rfl, Nat.le_of_ble_eq_true rfl⟩) hS (fun q _ h => hFc q h) hFc (fun xq u t H1 locs ht hvm hw hB hz1 hk1 hS => ?_)
      rw [hw]
      obtain ⟨hP1, hD1⟩ := hB
      rw [ht] at hP1
      obtain ⟨hP, hD⟩ := va_join (wr := []) (w1 := (ws_reader cI cC cZ cR rd rda pd pda pl tx r27.2.1 kd r27.2.2)) hP hD [0, 1, 2, 3] [] rfl rfl (by decide) (by decide) hk1 hFc hP1 hD1
      generalize H1 = H at hP hS ⊢
      have hP : va_P D vwCl (ws_reader cI cC cZ cR rd rda pd pda pl tx r27.2.1 kd r27.2.2) H := hP
      have hD : va_D A (ws_reader cI cC cZ cR rd rda pd pda pl tx r27.2.1 kd r27.2.2) := hD
      refine lv_if_eq (tgt := 96) hx hb dX4_readThing_38 (by decide) (fun c40 => ?_) (fun c40 => ?_)
      · replace h := br_p c40 h
        refine lv_iconst (v := 0) hx hb dX4_readThing_96 (by decide) ?_
        exact J97 _ _ _ _ _ _ h hP hD hS (lv_sub hl [0] rfl)
      · replace h := br_n c40 h
        refine lv_aload_n hx hb dX4_readThing_41 rfl (lv_at hl 0 rfl) ?_
        refine lv_bipush (v := 44) hx hb dX4_readThing_42 (by decide) ?_
        obtain ⟨r28, hcr28, h⟩ := bn_sp h
        have hPc := hP.sub (ws' := (ws_reader cI cC cZ cR rd rda pd pda pl tx r27.2.1 kd r27.2.2)) [0, 1, 2, 3] rfl
        have hDc := hD.sub (ws' := (ws_reader cI cC cZ cR rd rda pd pda pl tx r27.2.1 kd r27.2.2)) [0, 1, 2, 3] (by decide) rfl
        have hFc := va_free (wc := (ws_reader cI cC cZ cR rd rda pd pda pl tx r27.2.1 kd r27.2.2)) hD hS hA [0, 1, 2, 3] rfl
        refine va_calli (va_runV (As := [.int 44]) (rest := []) ⟨hx, hb, hml, hown, hts⟩ (m_X4_take l D cI cC cZ cR rd rda pd pda _ pl tx r27.2.1 kd r27.2.2 44   r28 hcr28) (cwV 1 hts gX4_readThing_X4_take rfl rfl rfl (by decide +kernel) ⟨Nat.le_of_ble_eq_true rfl, Nat.le_of_ble_eq_true rfl⟩) (cPc_pv hPc hK hDc (ci := 4) (q0 := 0) rfl rfl) rfl rfl hl.1 rfl (lv_room (Nat.le_of_ble_eq_true rfl)) dX4_readThing_44 ⟨Nat.le_of_ble_eq_true rfl, Nat.le_of_ble_eq_true rfl⟩) hS (fun q _ h => hFc q h) hFc (fun xq u t H1 locs ht hvm hw hB hz1 hk1 hS => ?_)
        rw [hw]
        obtain ⟨hP1, hD1⟩ := hB
        rw [ht] at hP1
        obtain ⟨hP, hD⟩ := va_join (wr := []) (w1 := (ws_reader cI cC cZ cR rd rda pd pda pl tx r28.2 kd r27.2.2)) hP hD [0, 1, 2, 3] [] rfl rfl (by decide) (by decide) hk1 hFc hP1 hD1
        generalize H1 = H at hP hS ⊢
        have hP : va_P D vwCl (ws_reader cI cC cZ cR rd rda pd pda pl tx r28.2 kd r27.2.2) H := hP
        have hD : va_D A (ws_reader cI cC cZ cR rd rda pd pda pl tx r28.2 kd r27.2.2) := hD
        refine lv_if_eq (tgt := 96) hx hb dX4_readThing_47 (by decide) (fun c39 => ?_) (fun c39 => ?_)
        · replace h := br_p c39 h
          refine lv_iconst (v := 0) hx hb dX4_readThing_96 (by decide) ?_
          exact J97 _ _ _ _ _ _ h hP hD hS (lv_sub hl [0] rfl)
        · replace h := br_n c39 h
          refine lv_aload_n hx hb dX4_readThing_50 rfl (lv_at hl 0 rfl) ?_
          refine lv_iconst (v := 2) hx hb dX4_readThing_51 (by decide) ?_
          obtain ⟨r29, hcr29, h⟩ := bn_sp h
          have hPc := hP.sub (ws' := (ws_reader cI cC cZ cR rd rda pd pda pl tx r28.2 kd r27.2.2)) [0, 1, 2, 3] rfl
          have hDc := hD.sub (ws' := (ws_reader cI cC cZ cR rd rda pd pda pl tx r28.2 kd r27.2.2)) [0, 1, 2, 3] (by decide) rfl
          have hFc := va_free (wc := (ws_reader cI cC cZ cR rd rda pd pda pl tx r28.2 kd r27.2.2)) hD hS hA [0, 1, 2, 3] rfl
          refine va_calli (va_runV (As := [.int 2]) (rest := []) ⟨hx, hb, hml, hown, hts⟩ (m_X4_readNumber l D cI cC cZ cR rd rda pd pda _ pl tx r28.2 kd r27.2.2 2   r29 hcr29) (cwV 1 hts gX4_readThing_X4_readNumber rfl rfl rfl (by decide +kernel) ⟨Nat.le_of_ble_eq_true rfl, Nat.le_of_ble_eq_true rfl⟩) (cPc_pv hPc hK hDc (ci := 4) (q0 := 0) rfl rfl) rfl rfl hl.1 rfl (lv_room (Nat.le_of_ble_eq_true rfl)) dX4_readThing_52 ⟨Nat.le_of_ble_eq_true rfl, Nat.le_of_ble_eq_true rfl⟩) hS (fun q _ h => hFc q h) hFc (fun xq u t H1 locs ht hvm hw hB hz1 hk1 hS => ?_)
          rw [hw]
          obtain ⟨hP1, hD1⟩ := hB
          rw [ht] at hP1
          obtain ⟨hP, hD⟩ := va_join (wr := []) (w1 := (ws_reader cI cC cZ cR rd rda pd pda pl tx r29.2.1 kd r29.2.2)) hP hD [0, 1, 2, 3] [] rfl rfl (by decide) (by decide) hk1 hFc hP1 hD1
          generalize H1 = H at hP hS ⊢
          have hP : va_P D vwCl (ws_reader cI cC cZ cR rd rda pd pda pl tx r29.2.1 kd r29.2.2) H := hP
          have hD : va_D A (ws_reader cI cC cZ cR rd rda pd pda pl tx r29.2.1 kd r29.2.2) := hD
          refine lv_if_eq (tgt := 96) hx hb dX4_readThing_55 (by decide) (fun c38 => ?_) (fun c38 => ?_)
          · replace h := br_p c38 h
            refine lv_iconst (v := 0) hx hb dX4_readThing_96 (by decide) ?_
            exact J97 _ _ _ _ _ _ h hP hD hS (lv_sub hl [0] rfl)
          · replace h := br_n c38 h
            refine lv_aload_n hx hb dX4_readThing_58 rfl (lv_at hl 0 rfl) ?_
            refine lv_bipush (v := 44) hx hb dX4_readThing_59 (by decide) ?_
            obtain ⟨r30, hcr30, h⟩ := bn_sp h
            have hPc := hP.sub (ws' := (ws_reader cI cC cZ cR rd rda pd pda pl tx r29.2.1 kd r29.2.2)) [0, 1, 2, 3] rfl
            have hDc := hD.sub (ws' := (ws_reader cI cC cZ cR rd rda pd pda pl tx r29.2.1 kd r29.2.2)) [0, 1, 2, 3] (by decide) rfl
            have hFc := va_free (wc := (ws_reader cI cC cZ cR rd rda pd pda pl tx r29.2.1 kd r29.2.2)) hD hS hA [0, 1, 2, 3] rfl
            refine va_calli (va_runV (As := [.int 44]) (rest := []) ⟨hx, hb, hml, hown, hts⟩ (m_X4_take l D cI cC cZ cR rd rda pd pda _ pl tx r29.2.1 kd r29.2.2 44   r30 hcr30) (cwV 1 hts gX4_readThing_X4_take rfl rfl rfl (by decide +kernel) ⟨Nat.le_of_ble_eq_true rfl, Nat.le_of_ble_eq_true rfl⟩) (cPc_pv hPc hK hDc (ci := 4) (q0 := 0) rfl rfl) rfl rfl hl.1 rfl (lv_room (Nat.le_of_ble_eq_true rfl)) dX4_readThing_61 ⟨Nat.le_of_ble_eq_true rfl, Nat.le_of_ble_eq_true rfl⟩) hS (fun q _ h => hFc q h) hFc (fun xq u t H1 locs ht hvm hw hB hz1 hk1 hS => ?_)
            rw [hw]
            obtain ⟨hP1, hD1⟩ := hB
            rw [ht] at hP1
            obtain ⟨hP, hD⟩ := va_join (wr := []) (w1 := (ws_reader cI cC cZ cR rd rda pd pda pl tx r30.2 kd r29.2.2)) hP hD [0, 1, 2, 3] [] rfl rfl (by decide) (by decide) hk1 hFc hP1 hD1
            generalize H1 = H at hP hS ⊢
            have hP : va_P D vwCl (ws_reader cI cC cZ cR rd rda pd pda pl tx r30.2 kd r29.2.2) H := hP
            have hD : va_D A (ws_reader cI cC cZ cR rd rda pd pda pl tx r30.2 kd r29.2.2) := hD
            refine lv_if_eq (tgt := 96) hx hb dX4_readThing_64 (by decide) (fun c37 => ?_) (fun c37 => ?_)
            · replace h := br_p c37 h
              refine lv_iconst (v := 0) hx hb dX4_readThing_96 (by decide) ?_
              exact J97 _ _ _ _ _ _ h hP hD hS (lv_sub hl [0] rfl)
            · replace h := br_n c37 h
              refine lv_aload_n hx hb dX4_readThing_67 rfl (lv_at hl 0 rfl) ?_
              refine lv_iconst (v := 3) hx hb dX4_readThing_68 (by decide) ?_
              obtain ⟨r31, hcr31, h⟩ := bn_sp h
              have hPc := hP.sub (ws' := (ws_reader cI cC cZ cR rd rda pd pda pl tx r30.2 kd r29.2.2)) [0, 1, 2, 3] rfl
              have hDc := hD.sub (ws' := (ws_reader cI cC cZ cR rd rda pd pda pl tx r30.2 kd r29.2.2)) [0, 1, 2, 3] (by decide) rfl
              have hFc := va_free (wc := (ws_reader cI cC cZ cR rd rda pd pda pl tx r30.2 kd r29.2.2)) hD hS hA [0, 1, 2, 3] rfl
              refine va_calli (va_runV (As := [.int 3]) (rest := []) ⟨hx, hb, hml, hown, hts⟩ (m_X4_readNumber l D cI cC cZ cR rd rda pd pda _ pl tx r30.2 kd r29.2.2 3   r31 hcr31) (cwV 1 hts gX4_readThing_X4_readNumber rfl rfl rfl (by decide +kernel) ⟨Nat.le_of_ble_eq_true rfl, Nat.le_of_ble_eq_true rfl⟩) (cPc_pv hPc hK hDc (ci := 4) (q0 := 0) rfl rfl) rfl rfl hl.1 rfl (lv_room (Nat.le_of_ble_eq_true rfl)) dX4_readThing_69 ⟨Nat.le_of_ble_eq_true rfl, Nat.le_of_ble_eq_true rfl⟩) hS (fun q _ h => hFc q h) hFc (fun xq u t H1 locs ht hvm hw hB hz1 hk1 hS => ?_)
              rw [hw]
              obtain ⟨hP1, hD1⟩ := hB
              rw [ht] at hP1
              obtain ⟨hP, hD⟩ := va_join (wr := []) (w1 := (ws_reader cI cC cZ cR rd rda pd pda pl tx r31.2.1 kd r31.2.2)) hP hD [0, 1, 2, 3] [] rfl rfl (by decide) (by decide) hk1 hFc hP1 hD1
              generalize H1 = H at hP hS ⊢
              have hP : va_P D vwCl (ws_reader cI cC cZ cR rd rda pd pda pl tx r31.2.1 kd r31.2.2) H := hP
              have hD : va_D A (ws_reader cI cC cZ cR rd rda pd pda pl tx r31.2.1 kd r31.2.2) := hD
              refine lv_if_eq (tgt := 96) hx hb dX4_readThing_72 (by decide) (fun c36 => ?_) (fun c36 => ?_)
              · replace h := br_p c36 h
                refine lv_iconst (v := 0) hx hb dX4_readThing_96 (by decide) ?_
                exact J97 _ _ _ _ _ _ h hP hD hS (lv_sub hl [0] rfl)
              · replace h := br_n c36 h
                refine lv_aload_n hx hb dX4_readThing_75 rfl (lv_at hl 0 rfl) ?_
                refine lv_bipush (v := 42) hx hb dX4_readThing_76 (by decide) ?_
                obtain ⟨r32, hcr32, h⟩ := bn_sp h
                have hPc := hP.sub (ws' := (ws_reader cI cC cZ cR rd rda pd pda pl tx r31.2.1 kd r31.2.2)) [0, 1, 2, 3] rfl
                have hDc := hD.sub (ws' := (ws_reader cI cC cZ cR rd rda pd pda pl tx r31.2.1 kd r31.2.2)) [0, 1, 2, 3] (by decide) rfl
                have hFc := va_free (wc := (ws_reader cI cC cZ cR rd rda pd pda pl tx r31.2.1 kd r31.2.2)) hD hS hA [0, 1, 2, 3] rfl
                refine va_calli (va_runV (As := [.int 42]) (rest := []) ⟨hx, hb, hml, hown, hts⟩ (m_X4_take l D cI cC cZ cR rd rda pd pda _ pl tx r31.2.1 kd r31.2.2 42   r32 hcr32) (cwV 1 hts gX4_readThing_X4_take rfl rfl rfl (by decide +kernel) ⟨Nat.le_of_ble_eq_true rfl, Nat.le_of_ble_eq_true rfl⟩) (cPc_pv hPc hK hDc (ci := 4) (q0 := 0) rfl rfl) rfl rfl hl.1 rfl (lv_room (Nat.le_of_ble_eq_true rfl)) dX4_readThing_78 ⟨Nat.le_of_ble_eq_true rfl, Nat.le_of_ble_eq_true rfl⟩) hS (fun q _ h => hFc q h) hFc (fun xq u t H1 locs ht hvm hw hB hz1 hk1 hS => ?_)
                rw [hw]
                obtain ⟨hP1, hD1⟩ := hB
                rw [ht] at hP1
                obtain ⟨hP, hD⟩ := va_join (wr := []) (w1 := (ws_reader cI cC cZ cR rd rda pd pda pl tx r32.2 kd r31.2.2)) hP hD [0, 1, 2, 3] [] rfl rfl (by decide) (by decide) hk1 hFc hP1 hD1
                generalize H1 = H at hP hS ⊢
                have hP : va_P D vwCl (ws_reader cI cC cZ cR rd rda pd pda pl tx r32.2 kd r31.2.2) H := hP
                have hD : va_D A (ws_reader cI cC cZ cR rd rda pd pda pl tx r32.2 kd r31.2.2) := hD
                refine lv_if_eq (tgt := 96) hx hb dX4_readThing_81 (by decide) (fun c35 => ?_) (fun c35 => ?_)
                · replace h := br_p c35 h
                  refine lv_iconst (v := 0) hx hb dX4_readThing_96 (by decide) ?_
                  exact J97 _ _ _ _ _ _ h hP hD hS (lv_sub hl [0] rfl)
                · replace h := br_n c35 h
                  refine lv_aload_n hx hb dX4_readThing_84 rfl (lv_at hl 0 rfl) ?_
                  refine lv_iconst (v := 4) hx hb dX4_readThing_85 (by decide) ?_
                  obtain ⟨r33, hcr33, h⟩ := bn_sp h
                  have hPc := hP.sub (ws' := (ws_reader cI cC cZ cR rd rda pd pda pl tx r32.2 kd r31.2.2)) [0, 1, 2, 3] rfl
                  have hDc := hD.sub (ws' := (ws_reader cI cC cZ cR rd rda pd pda pl tx r32.2 kd r31.2.2)) [0, 1, 2, 3] (by decide) rfl
                  have hFc := va_free (wc := (ws_reader cI cC cZ cR rd rda pd pda pl tx r32.2 kd r31.2.2)) hD hS hA [0, 1, 2, 3] rfl
                  refine va_calli (va_runV (As := [.int 4]) (rest := []) ⟨hx, hb, hml, hown, hts⟩ (m_X4_readDigit l D cI cC cZ cR rd rda pd pda _ pl tx r32.2 kd r31.2.2 4   r33 hcr33) (cwV 1 hts gX4_readThing_X4_readDigit rfl rfl rfl (by decide +kernel) ⟨Nat.le_of_ble_eq_true rfl, Nat.le_of_ble_eq_true rfl⟩) (cPc_pv hPc hK hDc (ci := 4) (q0 := 0) rfl rfl) rfl rfl hl.1 rfl (lv_room (Nat.le_of_ble_eq_true rfl)) dX4_readThing_86 ⟨Nat.le_of_ble_eq_true rfl, Nat.le_of_ble_eq_true rfl⟩) hS (fun q _ h => hFc q h) hFc (fun xq u t H1 locs ht hvm hw hB hz1 hk1 hS => ?_)
                  rw [hw]
                  obtain ⟨hP1, hD1⟩ := hB
                  rw [ht] at hP1
                  obtain ⟨hP, hD⟩ := va_join (wr := []) (w1 := (ws_reader cI cC cZ cR rd rda pd pda pl tx r33.2.1 kd r33.2.2)) hP hD [0, 1, 2, 3] [] rfl rfl (by decide) (by decide) hk1 hFc hP1 hD1
                  generalize H1 = H at hP hS ⊢
                  have hP : va_P D vwCl (ws_reader cI cC cZ cR rd rda pd pda pl tx r33.2.1 kd r33.2.2) H := hP
                  have hD : va_D A (ws_reader cI cC cZ cR rd rda pd pda pl tx r33.2.1 kd r33.2.2) := hD
                  refine lv_if_eq (tgt := 96) hx hb dX4_readThing_89 (by decide) (fun c34 => ?_) (fun c34 => ?_)
                  · replace h := br_p c34 h
                    refine lv_iconst (v := 0) hx hb dX4_readThing_96 (by decide) ?_
                    exact J97 _ _ _ _ _ _ h hP hD hS (lv_sub hl [0] rfl)
                  · replace h := br_n c34 h
                    refine lv_iconst (v := 1) hx hb dX4_readThing_92 (by decide) ?_
                    refine lv_goto (tgt := 97) hx hb dX4_readThing_93 (by decide) ?_
                    exact J97 _ _ _ _ _ _ h hP hD hS (lv_sub hl [0] rfl)
-- LeaningLines$Reader.readOrder
abbrev OUT_X4_readOrder : Type := Int32 × Int32 × Int32 × (Nat → Int32)
def f_X4_readOrder (pl : Int32) (tx : Nat → Int32) (at_ : Int32) (va : Nat → Int32) : Option OUT_X4_readOrder :=
  bn (f_X2_characterAt pl tx at_) (fun r1 => gc r1 (bn (f_X4_take pl tx at_ 103) (fun r2 => (if r2.1 = 0 then bn (f_X4_take pl tx r2.2 102) (fun r3 => (if r3.1 = 0 then bn (f_X4_take pl tx r3.2 119) (fun r4 => (if r4.1 = 0 then bn (f_X4_take pl tx r4.2 112) (fun r5 => gb r5.1 (some ((r5.1, r5.2, r1, va)))) else bn (f_X4_readNumber pl tx r4.2 va 0) (fun r6 => gb r6.1 (some ((r6.1, r6.2.1, r1, r6.2.2)))))) else bn (f_X4_readNumber pl tx r3.2 va 0) (fun r8 => (if r8.1 = 0 then some ((0, r8.2.1, r1, r8.2.2)) else bn (f_X4_take pl tx r8.2.1 46) (fun r9 => (if r9.1 = 0 then some ((0, r9.2, r1, r8.2.2)) else bn (f_X4_readNumber pl tx r9.2 r8.2.2 1) (fun r10 => (if r10.1 = 0 then some ((0, r10.2.1, r1, r10.2.2)) else some ((1, r10.2.1, r1, r10.2.2)))))))))) else bn (f_X4_readThing pl tx r2.2 va) (fun r15 => gb r15.1 (some ((r15.1, r15.2.1, r1, r15.2.2))))))))
theorem uX4_readOrder_X4 : ∀ w ∈ wsX40, w ∈ wsX4_readOrder := by decide +kernel
theorem kX4_readOrder_1 : Cond.fieldLink RX4 23 "LeaningLines$Reader" "pad" "LLeaningLines$Pad;" ∈ wsX4_readOrder := by decide +kernel
theorem kX4_readOrder_2 : Cond.fieldLink RX4 9 "LeaningLines$Reader" "at" "I" ∈ wsX4_readOrder := by decide +kernel
theorem kX4_readOrder_3 : Cond.fieldLink RX4 15 "LeaningLines$Reader" "kind" "C" ∈ wsX4_readOrder := by decide +kernel
abbrev R_X4_readOrder : Room := { frames := 4, cells := 0, slots := 0, locals := 87 }
set_option maxHeartbeats 4000000 in
set_option maxRecDepth 100000 in
theorem m_X4_readOrder (l : Launch) (D : va_G) (cI cC cZ cR : ClassId) (rd rda pd pda : Nat) (sz : Nat) (pl : Int32) (tx : Nat → Int32) (at_ : Int32) (kd : Int32) (va : Nat → Int32)     (r : OUT_X4_readOrder) (hf : f_X4_readOrder pl tx at_ va = some r) : Met l yX4_readOrder wsX4_readOrder R_X4_readOrder (cPc D cI cC cZ cR [.ref rd] sz (ws_reader cI cC cZ cR rd rda pd pda pl tx at_ kd va)) (cQi D (ws_reader cI cC cZ cR rd rda pd pda pl tx r.2.1 r.2.2.1 r.2.2.2) (va_A (ws_reader cI cC cZ cR rd rda pd pda pl tx at_ kd va) sz) r.1) 0 0 (va_A (ws_reader cI cC cZ cR rd rda pd pda pl tx at_ kd va) sz) := by
  refine Met.ofW (cc := cX4_readOrder) (maxL := 1) (ret := (some .boolean)) (by decide) rfl ?_
  intro p e s m args below meth c s₁ B hml hv
  obtain ⟨rfl, hsz, hP, hK, hD0⟩ := hv
  have hx := B.exec
  have hb := B.bytes
  have hr := B.returns
  have hts := atoms_spec (ws := wsX4_readOrder) B.pre
  have hown : s.vm.findClass RX4 = some m.cls := findClass_of_methodNamed B.named
  have hlocks := B.notSynchronized
  subst hsz
  have hD := hD0.self (sz := s.heap.size)
  generalize hAe : va_A (ws_reader cI cC cZ cR rd rda pd pda pl tx at_ kd va) s.heap.size = A at hD ⊢
  skip
  have hA : ∀ q : Nat, s.heap.size ≤ q → A q := fun q h => by rw [← hAe]; exact Or.inr h
  have hS : va_S A s.heap s.heap [] := va_S.rf
  have hl := lv_entry ([.ref rd]) (n := 1) (Nat.le_of_ble_eq_true rfl)
  rw [lg_entry_eq]
  generalize (lg_sl ([.ref rd]) ++ List.replicate (1 - (lg_sl ([.ref rd])).length) Slot.unset).toArray = ls at hl ⊢
  have hl : lv_has ls 1 [(0, .ref rd)] := hl
  refine W_absQ (fun Q hQ => ?_)
  refine W.eq (g2 := F0 m 0 ls []) rfl ?_
  have h := hf
  unfold f_X4_readOrder at h
  refine lv_aload_n hx hb dX4_readOrder_0 rfl (lv_at hl 0 rfl) ?_
  refine lv_aload_n hx hb dX4_readOrder_1 rfl (lv_at hl 0 rfl) ?_
  refine va_get (D := D) (ci := 4) (v := .ref pd) (C := RX4) (T := TX4) (N := 4) hx hb hts uX4_readOrder_X4 hown hK.1 hP 0 rfl rfl 0 (by decide) (hts _ kX4_readOrder_1) (fun _ h9 => h9) rfl dX4_readOrder_2 ?_
  refine lv_aload_n hx hb dX4_readOrder_5 rfl (lv_at hl 0 rfl) ?_
  refine va_get (D := D) (ci := 4) (v := .int at_) (C := RX4) (T := TX4) (N := 4) hx hb hts uX4_readOrder_X4 hown hK.1 hP 0 rfl rfl 1 (by decide) (hts _ kX4_readOrder_2) (fun _ h9 => h9) rfl dX4_readOrder_6 ?_
  obtain ⟨r1, hcr1, h⟩ := bn_sp h
  have hPc := hP.sub (ws' := (ws_pad cI cC cZ cR pd pda pl tx)) [1, 2] rfl
  have hDc := hD.sub (ws' := (ws_pad cI cC cZ cR pd pda pl tx)) [1, 2] (by decide) rfl
  have hFc := va_free (wc := (ws_pad cI cC cZ cR pd pda pl tx)) hD hS hA [1, 2] rfl
  refine va_calli (va_runV (As := [.int at_]) (rest := [.ref rd]) ⟨hx, hb, hml, hown, hts⟩ (m_X2_characterAt l D cI cC cZ cR pd pda _ pl tx at_   r1 hcr1) (cwV 1 hts gX4_readOrder_X2_characterAt rfl rfl rfl (by decide +kernel) ⟨Nat.le_of_ble_eq_true rfl, Nat.le_of_ble_eq_true rfl⟩) (cPc_pv hPc hK hDc (ci := 2) (q0 := 0) rfl rfl) rfl rfl hl.1 rfl (lv_room (Nat.le_of_ble_eq_true rfl)) dX4_readOrder_9 ⟨Nat.le_of_ble_eq_true rfl, Nat.le_of_ble_eq_true rfl⟩) hS (fun q _ h => hFc q h) hFc (fun xq u t H1 locs ht hvm hw hB hz1 hk1 hS => ?_)
  rw [hw]
  obtain ⟨hP1, hD1⟩ := hB
  rw [ht] at hP1
  obtain ⟨hP, hD⟩ := va_join (wr := [(rd, .inr (4, [.ref pd, .int at_, .int kd, .ref rda])), (rda, .inl (cI, 7, .inl va))]) (w1 := (ws_pad cI cC cZ cR pd pda pl tx)) hP hD [1, 2] [0, 3] rfl rfl (by decide) (by decide) hk1 hFc hP1 hD1
  have hP := hP.sub (ws' := (ws_reader cI cC cZ cR rd rda pd pda pl tx at_ kd va)) [0, 2, 3, 1] rfl
  have hD := hD.sub (ws' := (ws_reader cI cC cZ cR rd rda pd pda pl tx at_ kd va)) [0, 2, 3, 1] (by decide) rfl
  generalize H1 = H at hP hS ⊢
  obtain ⟨hch, h⟩ := gc_sp h
  refine va_put (D := D) (ci := 4) (v := .int r1) (ty := .char) (C := RX4) (T := TX4) (N := 4) hx hb hts uX4_readOrder_X4 tyX4 tyX4_ok nmX4 hown hK.1 hP hD hS 0 rfl rfl 2 (by decide) (hts _ kX4_readOrder_3) (fun _ h9 => h9) rfl (by decide +kernel) (nar_c hch) (fit_c hch) (Nat.le_of_ble_eq_true rfl) dX4_readOrder_12 (fun H locs hP hD hS => ?_)
  have hP : va_P D vwCl (ws_reader cI cC cZ cR rd rda pd pda pl tx at_ r1 va) H := hP
  have hD : va_D A (ws_reader cI cC cZ cR rd rda pd pda pl tx at_ r1 va) := hD
  refine lv_aload_n hx hb dX4_readOrder_15 rfl (lv_at hl 0 rfl) ?_
  refine lv_bipush (v := 103) hx hb dX4_readOrder_16 (by decide) ?_
  obtain ⟨r2, hcr2, h⟩ := bn_sp h
  have hPc := hP.sub (ws' := (ws_reader cI cC cZ cR rd rda pd pda pl tx at_ r1 va)) [0, 1, 2, 3] rfl
  have hDc := hD.sub (ws' := (ws_reader cI cC cZ cR rd rda pd pda pl tx at_ r1 va)) [0, 1, 2, 3] (by decide) rfl
  have hFc := va_free (wc := (ws_reader cI cC cZ cR rd rda pd pda pl tx at_ r1 va)) hD hS hA [0, 1, 2, 3] rfl
  refine va_calli (va_runV (As := [.int 103]) (rest := []) ⟨hx, hb, hml, hown, hts⟩ (m_X4_take l D cI cC cZ cR rd rda pd pda _ pl tx at_ r1 va 103   r2 hcr2) (cwV 1 hts gX4_readOrder_X4_take rfl rfl rfl (by decide +kernel) ⟨Nat.le_of_ble_eq_true rfl, Nat.le_of_ble_eq_true rfl⟩) (cPc_pv hPc hK hDc (ci := 4) (q0 := 0) rfl rfl) rfl rfl hl.1 rfl (lv_room (Nat.le_of_ble_eq_true rfl)) dX4_readOrder_18 ⟨Nat.le_of_ble_eq_true rfl, Nat.le_of_ble_eq_true rfl⟩) hS (fun q _ h => hFc q h) hFc (fun xq u t H1 locs ht hvm hw hB hz1 hk1 hS => ?_)
  rw [hw]
  obtain ⟨hP1, hD1⟩ := hB
  rw [ht] at hP1
  obtain ⟨hP, hD⟩ := va_join (wr := []) (w1 := (ws_reader cI cC cZ cR rd rda pd pda pl tx r2.2 r1 va)) hP hD [0, 1, 2, 3] [] rfl rfl (by decide) (by decide) hk1 hFc hP1 hD1
  generalize H1 = H at hP hS ⊢
  have hP : va_P D vwCl (ws_reader cI cC cZ cR rd rda pd pda pl tx r2.2 r1 va) H := hP
  have hD : va_D A (ws_reader cI cC cZ cR rd rda pd pda pl tx r2.2 r1 va) := hD
  refine lv_if_eq (tgt := 29) hx hb dX4_readOrder_21 (by decide) (fun c16 => ?_) (fun c16 => ?_)
  · replace h := br_p c16 h
    refine lv_aload_n hx hb dX4_readOrder_29 rfl (lv_at hl 0 rfl) ?_
    refine lv_bipush (v := 102) hx hb dX4_readOrder_30 (by decide) ?_
    obtain ⟨r3, hcr3, h⟩ := bn_sp h
    have hPc := hP.sub (ws' := (ws_reader cI cC cZ cR rd rda pd pda pl tx r2.2 r1 va)) [0, 1, 2, 3] rfl
    have hDc := hD.sub (ws' := (ws_reader cI cC cZ cR rd rda pd pda pl tx r2.2 r1 va)) [0, 1, 2, 3] (by decide) rfl
    have hFc := va_free (wc := (ws_reader cI cC cZ cR rd rda pd pda pl tx r2.2 r1 va)) hD hS hA [0, 1, 2, 3] rfl
    refine va_calli (va_runV (As := [.int 102]) (rest := []) ⟨hx, hb, hml, hown, hts⟩ (m_X4_take l D cI cC cZ cR rd rda pd pda _ pl tx r2.2 r1 va 102   r3 hcr3) (cwV 1 hts gX4_readOrder_X4_take rfl rfl rfl (by decide +kernel) ⟨Nat.le_of_ble_eq_true rfl, Nat.le_of_ble_eq_true rfl⟩) (cPc_pv hPc hK hDc (ci := 4) (q0 := 0) rfl rfl) rfl rfl hl.1 rfl (lv_room (Nat.le_of_ble_eq_true rfl)) dX4_readOrder_32 ⟨Nat.le_of_ble_eq_true rfl, Nat.le_of_ble_eq_true rfl⟩) hS (fun q _ h => hFc q h) hFc (fun xq u t H1 locs ht hvm hw hB hz1 hk1 hS => ?_)
    rw [hw]
    obtain ⟨hP1, hD1⟩ := hB
    rw [ht] at hP1
    obtain ⟨hP, hD⟩ := va_join (wr := []) (w1 := (ws_reader cI cC cZ cR rd rda pd pda pl tx r3.2 r1 va)) hP hD [0, 1, 2, 3] [] rfl rfl (by decide) (by decide) hk1 hFc hP1 hD1
    generalize H1 = H at hP hS ⊢
    have hP : va_P D vwCl (ws_reader cI cC cZ cR rd rda pd pda pl tx r3.2 r1 va) H := hP
    have hD : va_D A (ws_reader cI cC cZ cR rd rda pd pda pl tx r3.2 r1 va) := hD
    refine lv_if_eq (tgt := 69) hx hb dX4_readOrder_35 (by decide) (fun c14 => ?_) (fun c14 => ?_)
    · replace h := br_p c14 h
      refine lv_aload_n hx hb dX4_readOrder_69 rfl (lv_at hl 0 rfl) ?_
      refine lv_bipush (v := 119) hx hb dX4_readOrder_70 (by decide) ?_
      obtain ⟨r4, hcr4, h⟩ := bn_sp h
      have hPc := hP.sub (ws' := (ws_reader cI cC cZ cR rd rda pd pda pl tx r3.2 r1 va)) [0, 1, 2, 3] rfl
      have hDc := hD.sub (ws' := (ws_reader cI cC cZ cR rd rda pd pda pl tx r3.2 r1 va)) [0, 1, 2, 3] (by decide) rfl
      have hFc := va_free (wc := (ws_reader cI cC cZ cR rd rda pd pda pl tx r3.2 r1 va)) hD hS hA [0, 1, 2, 3] rfl
      refine va_calli (va_runV (As := [.int 119]) (rest := []) ⟨hx, hb, hml, hown, hts⟩ (m_X4_take l D cI cC cZ cR rd rda pd pda _ pl tx r3.2 r1 va 119   r4 hcr4) (cwV 1 hts gX4_readOrder_X4_take rfl rfl rfl (by decide +kernel) ⟨Nat.le_of_ble_eq_true rfl, Nat.le_of_ble_eq_true rfl⟩) (cPc_pv hPc hK hDc (ci := 4) (q0 := 0) rfl rfl) rfl rfl hl.1 rfl (lv_room (Nat.le_of_ble_eq_true rfl)) dX4_readOrder_72 ⟨Nat.le_of_ble_eq_true rfl, Nat.le_of_ble_eq_true rfl⟩) hS (fun q _ h => hFc q h) hFc (fun xq u t H1 locs ht hvm hw hB hz1 hk1 hS => ?_)
      rw [hw]
      obtain ⟨hP1, hD1⟩ := hB
      rw [ht] at hP1
      obtain ⟨hP, hD⟩ := va_join (wr := []) (w1 := (ws_reader cI cC cZ cR rd rda pd pda pl tx r4.2 r1 va)) hP hD [0, 1, 2, 3] [] rfl rfl (by decide) (by decide) hk1 hFc hP1 hD1
      generalize H1 = H at hP hS ⊢
      have hP : va_P D vwCl (ws_reader cI cC cZ cR rd rda pd pda pl tx r4.2 r1 va) H := hP
      have hD : va_D A (ws_reader cI cC cZ cR rd rda pd pda pl tx r4.2 r1 va) := hD
      refine lv_if_eq (tgt := 84) hx hb dX4_readOrder_75 (by decide) (fun c7 => ?_) (fun c7 => ?_)
      · replace h := br_p c7 h
        refine lv_aload_n hx hb dX4_readOrder_84 rfl (lv_at hl 0 rfl) ?_
        refine lv_bipush (v := 112) hx hb dX4_readOrder_85 (by decide) ?_
        obtain ⟨r5, hcr5, h⟩ := bn_sp h
        have hPc := hP.sub (ws' := (ws_reader cI cC cZ cR rd rda pd pda pl tx r4.2 r1 va)) [0, 1, 2, 3] rfl
        have hDc := hD.sub (ws' := (ws_reader cI cC cZ cR rd rda pd pda pl tx r4.2 r1 va)) [0, 1, 2, 3] (by decide) rfl
        have hFc := va_free (wc := (ws_reader cI cC cZ cR rd rda pd pda pl tx r4.2 r1 va)) hD hS hA [0, 1, 2, 3] rfl
        refine va_calli (va_runV (As := [.int 112]) (rest := []) ⟨hx, hb, hml, hown, hts⟩ (m_X4_take l D cI cC cZ cR rd rda pd pda _ pl tx r4.2 r1 va 112   r5 hcr5) (cwV 1 hts gX4_readOrder_X4_take rfl rfl rfl (by decide +kernel) ⟨Nat.le_of_ble_eq_true rfl, Nat.le_of_ble_eq_true rfl⟩) (cPc_pv hPc hK hDc (ci := 4) (q0 := 0) rfl rfl) rfl rfl hl.1 rfl (lv_room (Nat.le_of_ble_eq_true rfl)) dX4_readOrder_87 ⟨Nat.le_of_ble_eq_true rfl, Nat.le_of_ble_eq_true rfl⟩) hS (fun q _ h => hFc q h) hFc (fun xq u t H1 locs ht hvm hw hB hz1 hk1 hS => ?_)
        rw [hw]
        obtain ⟨hP1, hD1⟩ := hB
        rw [ht] at hP1
        obtain ⟨hP, hD⟩ := va_join (wr := []) (w1 := (ws_reader cI cC cZ cR rd rda pd pda pl tx r5.2 r1 va)) hP hD [0, 1, 2, 3] [] rfl rfl (by decide) (by decide) hk1 hFc hP1 hD1
        generalize H1 = H at hP hS ⊢
        have hP : va_P D vwCl (ws_reader cI cC cZ cR rd rda pd pda pl tx r5.2 r1 va) H := hP
        have hD : va_D A (ws_reader cI cC cZ cR rd rda pd pda pl tx r5.2 r1 va) := hD
        obtain ⟨hnr, h⟩ := gb_sp h
        have e9 := Option.some.inj h
        subst e9
        rw [hQ]
        exact W.zret (v := r5.1) hx hb hr (nar_b hnr) (fun t ht hW => ⟨⟨r5.1, (), rfl, rfl, by rw [ht]; exact hP, hD⟩, hS.F ht⟩) hS.2.2 dX4_readOrder_90
      · replace h := br_n c7 h
        refine lv_aload_n hx hb dX4_readOrder_78 rfl (lv_at hl 0 rfl) ?_
        refine lv_iconst (v := 0) hx hb dX4_readOrder_79 (by decide) ?_
        obtain ⟨r6, hcr6, h⟩ := bn_sp h
        have hPc := hP.sub (ws' := (ws_reader cI cC cZ cR rd rda pd pda pl tx r4.2 r1 va)) [0, 1, 2, 3] rfl
        have hDc := hD.sub (ws' := (ws_reader cI cC cZ cR rd rda pd pda pl tx r4.2 r1 va)) [0, 1, 2, 3] (by decide) rfl
        have hFc := va_free (wc := (ws_reader cI cC cZ cR rd rda pd pda pl tx r4.2 r1 va)) hD hS hA [0, 1, 2, 3] rfl
        refine va_calli (va_runV (As := [.int 0]) (rest := []) ⟨hx, hb, hml, hown, hts⟩ (m_X4_readNumber l D cI cC cZ cR rd rda pd pda _ pl tx r4.2 r1 va 0   r6 hcr6) (cwV 1 hts gX4_readOrder_X4_readNumber rfl rfl rfl (by decide +kernel) ⟨Nat.le_of_ble_eq_true rfl, Nat.le_of_ble_eq_true rfl⟩) (cPc_pv hPc hK hDc (ci := 4) (q0 := 0) rfl rfl) rfl rfl hl.1 rfl (lv_room (Nat.le_of_ble_eq_true rfl)) dX4_readOrder_80 ⟨Nat.le_of_ble_eq_true rfl, Nat.le_of_ble_eq_true rfl⟩) hS (fun q _ h => hFc q h) hFc (fun xq u t H1 locs ht hvm hw hB hz1 hk1 hS => ?_)
        rw [hw]
        obtain ⟨hP1, hD1⟩ := hB
        rw [ht] at hP1
        obtain ⟨hP, hD⟩ := va_join (wr := []) (w1 := (ws_reader cI cC cZ cR rd rda pd pda pl tx r6.2.1 r1 r6.2.2)) hP hD [0, 1, 2, 3] [] rfl rfl (by decide) (by decide) hk1 hFc hP1 hD1
        generalize H1 = H at hP hS ⊢
        have hP : va_P D vwCl (ws_reader cI cC cZ cR rd rda pd pda pl tx r6.2.1 r1 r6.2.2) H := hP
        have hD : va_D A (ws_reader cI cC cZ cR rd rda pd pda pl tx r6.2.1 r1 r6.2.2) := hD
        obtain ⟨hnr, h⟩ := gb_sp h
        have e9 := Option.some.inj h
        subst e9
        rw [hQ]
        exact W.zret (v := r6.1) hx hb hr (nar_b hnr) (fun t ht hW => ⟨⟨r6.1, (), rfl, rfl, by rw [ht]; exact hP, hD⟩, hS.F ht⟩) hS.2.2 dX4_readOrder_83
    · replace h := br_n c14 h
      refine lv_aload_n hx hb dX4_readOrder_38 rfl (lv_at hl 0 rfl) ?_
      refine lv_iconst (v := 0) hx hb dX4_readOrder_39 (by decide) ?_
      obtain ⟨r8, hcr8, h⟩ := bn_sp h
      have hPc := hP.sub (ws' := (ws_reader cI cC cZ cR rd rda pd pda pl tx r3.2 r1 va)) [0, 1, 2, 3] rfl
      have hDc := hD.sub (ws' := (ws_reader cI cC cZ cR rd rda pd pda pl tx r3.2 r1 va)) [0, 1, 2, 3] (by decide) rfl
      have hFc := va_free (wc := (ws_reader cI cC cZ cR rd rda pd pda pl tx r3.2 r1 va)) hD hS hA [0, 1, 2, 3] rfl
      refine va_calli (va_runV (As := [.int 0]) (rest := []) ⟨hx, hb, hml, hown, hts⟩ (m_X4_readNumber l D cI cC cZ cR rd rda pd pda _ pl tx r3.2 r1 va 0   r8 hcr8) (cwV 1 hts gX4_readOrder_X4_readNumber rfl rfl rfl (by decide +kernel) ⟨Nat.le_of_ble_eq_true rfl, Nat.le_of_ble_eq_true rfl⟩) (cPc_pv hPc hK hDc (ci := 4) (q0 := 0) rfl rfl) rfl rfl hl.1 rfl (lv_room (Nat.le_of_ble_eq_true rfl)) dX4_readOrder_40 ⟨Nat.le_of_ble_eq_true rfl, Nat.le_of_ble_eq_true rfl⟩) hS (fun q _ h => hFc q h) hFc (fun xq u t H1 locs ht hvm hw hB hz1 hk1 hS => ?_)
      rw [hw]
      obtain ⟨hP1, hD1⟩ := hB
      rw [ht] at hP1
      obtain ⟨hP, hD⟩ := va_join (wr := []) (w1 := (ws_reader cI cC cZ cR rd rda pd pda pl tx r8.2.1 r1 r8.2.2)) hP hD [0, 1, 2, 3] [] rfl rfl (by decide) (by decide) hk1 hFc hP1 hD1
      generalize H1 = H at hP hS ⊢
      have hP : va_P D vwCl (ws_reader cI cC cZ cR rd rda pd pda pl tx r8.2.1 r1 r8.2.2) H := hP
      have hD : va_D A (ws_reader cI cC cZ cR rd rda pd pda pl tx r8.2.1 r1 r8.2.2) := hD
      refine lv_if_eq (tgt := 67) hx hb dX4_readOrder_43 (by decide) (fun c13 => ?_) (fun c13 => ?_)
      · replace h := br_p c13 h
        refine lv_iconst (v := 0) hx hb dX4_readOrder_67 (by decide) ?_
        have e9 := Option.some.inj h
        subst e9
        rw [hQ]
        exact W.zret (v := 0) hx hb hr rfl (fun t ht hW => ⟨⟨0, (), rfl, rfl, by rw [ht]; exact hP, hD⟩, hS.F ht⟩) hS.2.2 dX4_readOrder_68
      · replace h := br_n c13 h
        refine lv_aload_n hx hb dX4_readOrder_46 rfl (lv_at hl 0 rfl) ?_
        refine lv_bipush (v := 46) hx hb dX4_readOrder_47 (by decide) ?_
        obtain ⟨r9, hcr9, h⟩ := bn_sp h
        have hPc := hP.sub (ws' := (ws_reader cI cC cZ cR rd rda pd pda pl tx r8.2.1 r1 r8.2.2)) [0, 1, 2, 3] rfl
        have hDc := hD.sub (ws' := (ws_reader cI cC cZ cR rd rda pd pda pl tx r8.2.1 r1 r8.2.2)) [0, 1, 2, 3] (by decide) rfl
        have hFc := va_free (wc := (ws_reader cI cC cZ cR rd rda pd pda pl tx r8.2.1 r1 r8.2.2)) hD hS hA [0, 1, 2, 3] rfl
        refine va_calli (va_runV (As := [.int 46]) (rest := []) ⟨hx, hb, hml, hown, hts⟩ (m_X4_take l D cI cC cZ cR rd rda pd pda _ pl tx r8.2.1 r1 r8.2.2 46   r9 hcr9) (cwV 1 hts gX4_readOrder_X4_take rfl rfl rfl (by decide +kernel) ⟨Nat.le_of_ble_eq_true rfl, Nat.le_of_ble_eq_true rfl⟩) (cPc_pv hPc hK hDc (ci := 4) (q0 := 0) rfl rfl) rfl rfl hl.1 rfl (lv_room (Nat.le_of_ble_eq_true rfl)) dX4_readOrder_49 ⟨Nat.le_of_ble_eq_true rfl, Nat.le_of_ble_eq_true rfl⟩) hS (fun q _ h => hFc q h) hFc (fun xq u t H1 locs ht hvm hw hB hz1 hk1 hS => ?_)
        rw [hw]
        obtain ⟨hP1, hD1⟩ := hB
        rw [ht] at hP1
        obtain ⟨hP, hD⟩ := va_join (wr := []) (w1 := (ws_reader cI cC cZ cR rd rda pd pda pl tx r9.2 r1 r8.2.2)) hP hD [0, 1, 2, 3] [] rfl rfl (by decide) (by decide) hk1 hFc hP1 hD1
        generalize H1 = H at hP hS ⊢
        have hP : va_P D vwCl (ws_reader cI cC cZ cR rd rda pd pda pl tx r9.2 r1 r8.2.2) H := hP
        have hD : va_D A (ws_reader cI cC cZ cR rd rda pd pda pl tx r9.2 r1 r8.2.2) := hD
        refine lv_if_eq (tgt := 67) hx hb dX4_readOrder_52 (by decide) (fun c12 => ?_) (fun c12 => ?_)
        · replace h := br_p c12 h
          refine lv_iconst (v := 0) hx hb dX4_readOrder_67 (by decide) ?_
          have e9 := Option.some.inj h
          subst e9
          rw [hQ]
          exact W.zret (v := 0) hx hb hr rfl (fun t ht hW => ⟨⟨0, (), rfl, rfl, by rw [ht]; exact hP, hD⟩, hS.F ht⟩) hS.2.2 dX4_readOrder_68
        · replace h := br_n c12 h
          refine lv_aload_n hx hb dX4_readOrder_55 rfl (lv_at hl 0 rfl) ?_
          refine lv_iconst (v := 1) hx hb dX4_readOrder_56 (by decide) ?_
          obtain ⟨r10, hcr10, h⟩ := bn_sp h
          have hPc := hP.sub (ws' := (ws_reader cI cC cZ cR rd rda pd pda pl tx r9.2 r1 r8.2.2)) [0, 1, 2, 3] rfl
          have hDc := hD.sub (ws' := (ws_reader cI cC cZ cR rd rda pd pda pl tx r9.2 r1 r8.2.2)) [0, 1, 2, 3] (by decide) rfl
          have hFc := va_free (wc := (ws_reader cI cC cZ cR rd rda pd pda pl tx r9.2 r1 r8.2.2)) hD hS hA [0, 1, 2, 3] rfl
          refine va_calli (va_runV (As := [.int 1]) (rest := []) ⟨hx, hb, hml, hown, hts⟩ (m_X4_readNumber l D cI cC cZ cR rd rda pd pda _ pl tx r9.2 r1 r8.2.2 1   r10 hcr10) (cwV 1 hts gX4_readOrder_X4_readNumber rfl rfl rfl (by decide +kernel) ⟨Nat.le_of_ble_eq_true rfl, Nat.le_of_ble_eq_true rfl⟩) (cPc_pv hPc hK hDc (ci := 4) (q0 := 0) rfl rfl) rfl rfl hl.1 rfl (lv_room (Nat.le_of_ble_eq_true rfl)) dX4_readOrder_57 ⟨Nat.le_of_ble_eq_true rfl, Nat.le_of_ble_eq_true rfl⟩) hS (fun q _ h => hFc q h) hFc (fun xq u t H1 locs ht hvm hw hB hz1 hk1 hS => ?_)
          rw [hw]
          obtain ⟨hP1, hD1⟩ := hB
          rw [ht] at hP1
          obtain ⟨hP, hD⟩ := va_join (wr := []) (w1 := (ws_reader cI cC cZ cR rd rda pd pda pl tx r10.2.1 r1 r10.2.2)) hP hD [0, 1, 2, 3] [] rfl rfl (by decide) (by decide) hk1 hFc hP1 hD1
          generalize H1 = H at hP hS ⊢
          have hP : va_P D vwCl (ws_reader cI cC cZ cR rd rda pd pda pl tx r10.2.1 r1 r10.2.2) H := hP
          have hD : va_D A (ws_reader cI cC cZ cR rd rda pd pda pl tx r10.2.1 r1 r10.2.2) := hD
          refine lv_if_eq (tgt := 67) hx hb dX4_readOrder_60 (by decide) (fun c11 => ?_) (fun c11 => ?_)
          · replace h := br_p c11 h
            refine lv_iconst (v := 0) hx hb dX4_readOrder_67 (by decide) ?_
            have e9 := Option.some.inj h
            subst e9
            rw [hQ]
            exact W.zret (v := 0) hx hb hr rfl (fun t ht hW => ⟨⟨0, (), rfl, rfl, by rw [ht]; exact hP, hD⟩, hS.F ht⟩) hS.2.2 dX4_readOrder_68
          · replace h := br_n c11 h
            refine lv_iconst (v := 1) hx hb dX4_readOrder_63 (by decide) ?_
            refine lv_goto (tgt := 68) hx hb dX4_readOrder_64 (by decide) ?_
            have e9 := Option.some.inj h
            subst e9
            rw [hQ]
            exact W.zret (v := 1) hx hb hr rfl (fun t ht hW => ⟨⟨1, (), rfl, rfl, by rw [ht]; exact hP, hD⟩, hS.F ht⟩) hS.2.2 dX4_readOrder_68
  · replace h := br_n c16 h
    refine lv_aload_n hx hb dX4_readOrder_24 rfl (lv_at hl 0 rfl) ?_
    obtain ⟨r15, hcr15, h⟩ := bn_sp h
    have hPc := hP.sub (ws' := (ws_reader cI cC cZ cR rd rda pd pda pl tx r2.2 r1 va)) [0, 1, 2, 3] rfl
    have hDc := hD.sub (ws' := (ws_reader cI cC cZ cR rd rda pd pda pl tx r2.2 r1 va)) [0, 1, 2, 3] (by decide) rfl
    have hFc := va_free (wc := (ws_reader cI cC cZ cR rd rda pd pda pl tx r2.2 r1 va)) hD hS hA [0, 1, 2, 3] rfl
    refine va_calli (va_runV (As := []) (rest := []) ⟨hx, hb, hml, hown, hts⟩ (m_X4_readThing l D cI cC cZ cR rd rda pd pda _ pl tx r2.2 r1 va    r15 hcr15) (cwV 0 hts gX4_readOrder_X4_readThing rfl rfl rfl (by decide +kernel) ⟨Nat.le_of_ble_eq_true rfl, Nat.le_of_ble_eq_true rfl⟩) (cPc_pv hPc hK hDc (ci := 4) (q0 := 0) rfl rfl) rfl rfl hl.1 rfl (lv_room (Nat.le_of_ble_eq_true rfl)) dX4_readOrder_25 ⟨Nat.le_of_ble_eq_true rfl, Nat.le_of_ble_eq_true rfl⟩) hS (fun q _ h => hFc q h) hFc (fun xq u t H1 locs ht hvm hw hB hz1 hk1 hS => ?_)
    rw [hw]
    obtain ⟨hP1, hD1⟩ := hB
    rw [ht] at hP1
    obtain ⟨hP, hD⟩ := va_join (wr := []) (w1 := (ws_reader cI cC cZ cR rd rda pd pda pl tx r15.2.1 r1 r15.2.2)) hP hD [0, 1, 2, 3] [] rfl rfl (by decide) (by decide) hk1 hFc hP1 hD1
    generalize H1 = H at hP hS ⊢
    have hP : va_P D vwCl (ws_reader cI cC cZ cR rd rda pd pda pl tx r15.2.1 r1 r15.2.2) H := hP
    have hD : va_D A (ws_reader cI cC cZ cR rd rda pd pda pl tx r15.2.1 r1 r15.2.2) := hD
    obtain ⟨hnr, h⟩ := gb_sp h
    have e9 := Option.some.inj h
    subst e9
    rw [hQ]
    exact W.zret (v := r15.1) hx hb hr (nar_b hnr) (fun t ht hW => ⟨⟨r15.1, (), rfl, rfl, by rw [ht]; exact hP, hD⟩, hS.F ht⟩) hS.2.2 dX4_readOrder_28
-- LeaningLines$Reader.findFault
abbrev OUT_X4_findFault : Type := Int32 × Int32 × Int32 × (Nat → Int32)
def f_X4_findFault_L9 (pl : Int32) (tx : Nat → Int32) (k : Int32 → Int32 → Int32 → Int32 → (Nat → Int32) → Option OUT_X4_findFault) : Nat → Int32 → Int32 → Int32 → Int32 → (Nat → Int32) → Option OUT_X4_findFault
  | 0 => fun _ _ _ _ _ => none
  | n + 1 => fun v6 v7 v8 v9 v10 => (if v6 = 0 then k v6 v7 v8 v9 v10 else (if 80 ≤ v7 then k v6 v7 v8 v9 v10 else bn (f_X4_readOrder pl tx v8 v10) (fun r11 => (if ¬ r11.1 = 0 then bn (f_X4_take pl tx r11.2.1 59) (fun r12 => bd (v7 + 1) (fun x13 => f_X4_findFault_L9 pl tx k n r12.1 x13 r12.2 r11.2.2.1 r11.2.2.2)) else some ((r11.2.1, r11.2.1, r11.2.2.1, r11.2.2.2))))))
theorem f_X4_findFault_L9_s (pl : Int32) (tx : Nat → Int32) (k : Int32 → Int32 → Int32 → Int32 → (Nat → Int32) → Option OUT_X4_findFault) (n : Nat) (v6 : Int32) (v7 : Int32) (v8 : Int32) (v9 : Int32) (v10 : Nat → Int32) : f_X4_findFault_L9 pl tx k (n + 1) v6 v7 v8 v9 v10 = ((if v6 = 0 then k v6 v7 v8 v9 v10 else (if 80 ≤ v7 then k v6 v7 v8 v9 v10 else bn (f_X4_readOrder pl tx v8 v10) (fun r11 => (if ¬ r11.1 = 0 then bn (f_X4_take pl tx r11.2.1 59) (fun r12 => bd (v7 + 1) (fun x13 => f_X4_findFault_L9 pl tx k n r12.1 x13 r12.2 r11.2.2.1 r11.2.2.2)) else some ((r11.2.1, r11.2.1, r11.2.2.1, r11.2.2.2))))))) := rfl
def f_X4_findFault (pl : Int32) (tx : Nat → Int32) (kd : Int32) (va : Nat → Int32) : Option OUT_X4_findFault :=
  f_X4_findFault_L9 pl tx (fun (w17 : Int32) (w18 : Int32) (w19 : Int32) (w20 : Int32) (w21 : Nat → Int32) => (if ¬ w19 = pl then some ((w19, w19, w20, w21)) else some (((-6), w19, w20, w21)))) 4000 1 0 0 kd va
theorem uX4_findFault_X4 : ∀ w ∈ wsX40, w ∈ wsX4_findFault := by decide +kernel
theorem kX4_findFault_1 : Cond.fieldLink RX4 9 "LeaningLines$Reader" "at" "I" ∈ wsX4_findFault := by decide +kernel
theorem kX4_findFault_2 : Cond.fieldLink RX4 23 "LeaningLines$Reader" "pad" "LLeaningLines$Pad;" ∈ wsX4_findFault := by decide +kernel
theorem uX4_findFault_X2 : ∀ w ∈ wsX20, w ∈ wsX4_findFault := by decide +kernel
theorem kX4_findFault_4 : Cond.fieldLink RX4 35 "LeaningLines$Pad" "length" "I" ∈ wsX4_findFault := by decide +kernel
abbrev R_X4_findFault : Room := { frames := 5, cells := 0, slots := 0, locals := 107 }
set_option maxHeartbeats 4000000 in
set_option maxRecDepth 100000 in
theorem m_X4_findFault (l : Launch) (D : va_G) (cI cC cZ cR : ClassId) (rd rda pd pda : Nat) (sz : Nat) (pl : Int32) (tx : Nat → Int32) (at_ : Int32) (kd : Int32) (va : Nat → Int32)     (r : OUT_X4_findFault) (hf : f_X4_findFault pl tx kd va = some r) : Met l yX4_findFault wsX4_findFault R_X4_findFault (cPc D cI cC cZ cR [.ref rd] sz (ws_reader cI cC cZ cR rd rda pd pda pl tx at_ kd va)) (cQi D (ws_reader cI cC cZ cR rd rda pd pda pl tx r.2.1 r.2.2.1 r.2.2.2) (va_A (ws_reader cI cC cZ cR rd rda pd pda pl tx at_ kd va) sz) r.1) 0 0 (va_A (ws_reader cI cC cZ cR rd rda pd pda pl tx at_ kd va) sz) := by
  refine Met.ofW (cc := cX4_findFault) (maxL := 3) (ret := (some .int)) (by decide) rfl ?_
  intro p e s m args below meth c s₁ B hml hv
  obtain ⟨rfl, hsz, hP, hK, hD0⟩ := hv
  have hx := B.exec
  have hb := B.bytes
  have hr := B.returns
  have hts := atoms_spec (ws := wsX4_findFault) B.pre
  have hown : s.vm.findClass RX4 = some m.cls := findClass_of_methodNamed B.named
  have hlocks := B.notSynchronized
  subst hsz
  have hD := hD0.self (sz := s.heap.size)
  generalize hAe : va_A (ws_reader cI cC cZ cR rd rda pd pda pl tx at_ kd va) s.heap.size = A at hD ⊢
  skip
  have hA : ∀ q : Nat, s.heap.size ≤ q → A q := fun q h => by rw [← hAe]; exact Or.inr h
  have hS : va_S A s.heap s.heap [] := va_S.rf
  have hl := lv_entry ([.ref rd]) (n := 3) (Nat.le_of_ble_eq_true rfl)
  rw [lg_entry_eq]
  generalize (lg_sl ([.ref rd]) ++ List.replicate (3 - (lg_sl ([.ref rd])).length) Slot.unset).toArray = ls at hl ⊢
  have hl : lv_has ls 3 [(0, .ref rd)] := hl
  refine W_absQ (fun Q hQ => ?_)
  refine W.eq (g2 := F0 m 0 ls []) rfl ?_
  have h := hf
  unfold f_X4_findFault at h
  refine lv_aload_n hx hb dX4_findFault_0 rfl (lv_at hl 0 rfl) ?_
  refine lv_iconst (v := 0) hx hb dX4_findFault_1 (by decide) ?_
  refine va_put (D := D) (ci := 4) (v := .int 0) (ty := .int) (C := RX4) (T := TX4) (N := 4) hx hb hts uX4_findFault_X4 tyX4 tyX4_ok nmX4 hown hK.1 hP hD hS 0 rfl rfl 1 (by decide) (hts _ kX4_findFault_1) (fun _ h9 => h9) rfl (by decide +kernel) rfl rfl (Nat.le_of_ble_eq_true rfl) dX4_findFault_2 (fun H locs hP hD hS => ?_)
  have hP : va_P D vwCl (ws_reader cI cC cZ cR rd rda pd pda pl tx 0 kd va) H := hP
  have hD : va_D A (ws_reader cI cC cZ cR rd rda pd pda pl tx 0 kd va) := hD
  refine lv_iconst (v := 1) hx hb dX4_findFault_5 (by decide) ?_
  refine lv_istore_n (lv' := [(1, .int 1), (0, .ref rd)]) hx hb dX4_findFault_6 rfl hl (by decide) rfl (fun ls hl => ?_)
  refine lv_iconst (v := 0) hx hb dX4_findFault_7 (by decide) ?_
  refine lv_istore_n (lv' := [(2, .int 0), (1, .int 1), (0, .ref rd)]) hx hb dX4_findFault_8 rfl hl (by decide) rfl (fun ls hl => ?_)
  have L9 : ∀ (k : Int32 → Int32 → Int32 → Int32 → (Nat → Int32) → Option OUT_X4_findFault), (∀ (w17 : Int32) (w18 : Int32) (w19 : Int32) (w20 : Int32) (w21 : Nat → Int32) (H : Heap) (locs : List Loc) (ls : Array Slot), k w17 w18 w19 w20 w21 = some r → va_P D vwCl (ws_reader cI cC cZ cR rd rda pd pda pl tx w19 w20 w21) H → va_D A (ws_reader cI cC cZ cR rd rda pd pda pl tx w19 w20 w21) → va_S A s.heap H locs → lv_has ls 3 [(0, .ref rd), (1, .int w17), (2, .int w18)] → W p l e R_X4_findFault s m ([.ref rd] : List Value).toArray below meth c H locs 0 0 Q (F0 m 44 ls [])) → ∀ (n : Nat) (v6 : Int32) (v7 : Int32) (v8 : Int32) (v9 : Int32) (v10 : Nat → Int32) (H : Heap) (locs : List Loc) (ls : Array Slot), f_X4_findFault_L9 pl tx k n v6 v7 v8 v9 v10 = some r → va_P D vwCl (ws_reader cI cC cZ cR rd rda pd pda pl tx v8 v9 v10) H → va_D A (ws_reader cI cC cZ cR rd rda pd pda pl tx v8 v9 v10) → va_S A s.heap H locs → lv_has ls 3 [(0, .ref rd), (1, .int v6), (2, .int v7)] → W p l e R_X4_findFault s m ([.ref rd] : List Value).toArray below meth c H locs 0 0 Q (F0 m 9 ls []) := by
    intro k K n
    induction n with
    | zero => intro v6 v7 v8 v9 v10 H locs ls h; exact no_sm h
    | succ n ih =>
      intro v6 v7 v8 v9 v10 H locs ls h hP hD hS hl
      rw [f_X4_findFault_L9_s] at h
      refine lv_iload_n hx hb dX4_findFault_9 rfl (lv_at hl 1 rfl) ?_
      refine lv_if_eq (tgt := 44) hx hb dX4_findFault_10 (by decide) (fun c16 => ?_) (fun c16 => ?_)
      · replace h := br_p c16 h
        exact K _ _ _ _ _ _ _ _ h hP hD hS (lv_sub hl [0, 1, 2] rfl)
      · replace h := br_n c16 h
        refine lv_iload_n hx hb dX4_findFault_13 rfl (lv_at hl 2 rfl) ?_
        refine lv_bipush (v := 80) hx hb dX4_findFault_14 (by decide) ?_
        refine lv_icmp_ge (tgt := 44) hx hb dX4_findFault_16 (by decide) (fun c15 => ?_) (fun c15 => ?_)
        · replace h := br_p c15 h
          exact K _ _ _ _ _ _ _ _ h hP hD hS (lv_sub hl [0, 1, 2] rfl)
        · replace h := br_n c15 h
          refine lv_aload_n hx hb dX4_findFault_19 rfl (lv_at hl 0 rfl) ?_
          obtain ⟨r11, hcr11, h⟩ := bn_sp h
          have hPc := hP.sub (ws' := (ws_reader cI cC cZ cR rd rda pd pda pl tx v8 v9 v10)) [0, 1, 2, 3] rfl
          have hDc := hD.sub (ws' := (ws_reader cI cC cZ cR rd rda pd pda pl tx v8 v9 v10)) [0, 1, 2, 3] (by decide) rfl
          have hFc := va_free (wc := (ws_reader cI cC cZ cR rd rda pd pda pl tx v8 v9 v10)) hD hS hA [0, 1, 2, 3] rfl
          refine va_calli (va_runV (As := []) (rest := []) ⟨hx, hb, hml, hown, hts⟩ (m_X4_readOrder l D cI cC cZ cR rd rda pd pda _ pl tx v8 v9 v10    r11 hcr11) (cwV 0 hts gX4_findFault_X4_readOrder rfl rfl rfl (by decide +kernel) ⟨Nat.le_of_ble_eq_true rfl, Nat.le_of_ble_eq_true rfl⟩) (cPc_pv hPc hK hDc (ci := 4) (q0 := 0) rfl rfl) rfl rfl hl.1 rfl (lv_room (Nat.le_of_ble_eq_true rfl)) dX4_findFault_20 ⟨Nat.le_of_ble_eq_true rfl, Nat.le_of_ble_eq_true rfl⟩) hS (fun q _ h => hFc q h) hFc (fun xq u t H1 locs ht hvm hw hB hz1 hk1 hS => ?_)
          rw [hw]
          obtain ⟨hP1, hD1⟩ := hB
          rw [ht] at hP1
          obtain ⟨hP, hD⟩ := va_join (wr := []) (w1 := (ws_reader cI cC cZ cR rd rda pd pda pl tx r11.2.1 r11.2.2.1 r11.2.2.2)) hP hD [0, 1, 2, 3] [] rfl rfl (by decide) (by decide) hk1 hFc hP1 hD1
          generalize H1 = H at hP hS ⊢
          have hP : va_P D vwCl (ws_reader cI cC cZ cR rd rda pd pda pl tx r11.2.1 r11.2.2.1 r11.2.2.2) H := hP
          have hD : va_D A (ws_reader cI cC cZ cR rd rda pd pda pl tx r11.2.1 r11.2.2.1 r11.2.2.2) := hD
          refine lv_if_ne (tgt := 31) hx hb dX4_findFault_23 (by decide) (fun c14 => ?_) (fun c14 => ?_)
          · replace h := br_p c14 h
            refine lv_aload_n hx hb dX4_findFault_31 rfl (lv_at hl 0 rfl) ?_
            refine lv_bipush (v := 59) hx hb dX4_findFault_32 (by decide) ?_
            obtain ⟨r12, hcr12, h⟩ := bn_sp h
            have hPc := hP.sub (ws' := (ws_reader cI cC cZ cR rd rda pd pda pl tx r11.2.1 r11.2.2.1 r11.2.2.2)) [0, 1, 2, 3] rfl
            have hDc := hD.sub (ws' := (ws_reader cI cC cZ cR rd rda pd pda pl tx r11.2.1 r11.2.2.1 r11.2.2.2)) [0, 1, 2, 3] (by decide) rfl
            have hFc := va_free (wc := (ws_reader cI cC cZ cR rd rda pd pda pl tx r11.2.1 r11.2.2.1 r11.2.2.2)) hD hS hA [0, 1, 2, 3] rfl
            refine va_calli (va_runV (As := [.int 59]) (rest := []) ⟨hx, hb, hml, hown, hts⟩ (m_X4_take l D cI cC cZ cR rd rda pd pda _ pl tx r11.2.1 r11.2.2.1 r11.2.2.2 59   r12 hcr12) (cwV 1 hts gX4_findFault_X4_take rfl rfl rfl (by decide +kernel) ⟨Nat.le_of_ble_eq_true rfl, Nat.le_of_ble_eq_true rfl⟩) (cPc_pv hPc hK hDc (ci := 4) (q0 := 0) rfl rfl) rfl rfl hl.1 rfl (lv_room (Nat.le_of_ble_eq_true rfl)) dX4_findFault_34 ⟨Nat.le_of_ble_eq_true rfl, Nat.le_of_ble_eq_true rfl⟩) hS (fun q _ h => hFc q h) hFc (fun xq u t H1 locs ht hvm hw hB hz1 hk1 hS => ?_)
            rw [hw]
            obtain ⟨hP1, hD1⟩ := hB
            rw [ht] at hP1
            obtain ⟨hP, hD⟩ := va_join (wr := []) (w1 := (ws_reader cI cC cZ cR rd rda pd pda pl tx r12.2 r11.2.2.1 r11.2.2.2)) hP hD [0, 1, 2, 3] [] rfl rfl (by decide) (by decide) hk1 hFc hP1 hD1
            generalize H1 = H at hP hS ⊢
            have hP : va_P D vwCl (ws_reader cI cC cZ cR rd rda pd pda pl tx r12.2 r11.2.2.1 r11.2.2.2) H := hP
            have hD : va_D A (ws_reader cI cC cZ cR rd rda pd pda pl tx r12.2 r11.2.2.1 r11.2.2.2) := hD
            refine lv_istore_n (lv' := [(1, .int r12.1), (0, .ref rd), (2, .int v7)]) hx hb dX4_findFault_37 rfl hl (by decide) rfl (fun ls hl => ?_)
            obtain ⟨x13, ex13, h⟩ := bd_sp h
            refine lv_iinc (v := x13) (lv' := [(2, .int x13), (1, .int r12.1), (0, .ref rd)]) hx hb dX4_findFault_38 hl (k := 2) rfl (by rw [ex13]; rfl) (by decide) rfl (fun ls hl => ?_)
            refine lv_goto (tgt := 9) hx hb dX4_findFault_41 (by decide) ?_
            exact ih _ _ _ _ _ _ _ _ h hP hD hS (lv_sub hl [2, 1, 0] rfl)
          · replace h := br_n (not_not_intro c14) h
            refine lv_aload_n hx hb dX4_findFault_26 rfl (lv_at hl 0 rfl) ?_
            refine va_get (D := D) (ci := 4) (v := .int r11.2.1) (C := RX4) (T := TX4) (N := 4) hx hb hts uX4_findFault_X4 hown hK.1 hP 0 rfl rfl 1 (by decide) (hts _ kX4_findFault_1) (fun _ h9 => h9) rfl dX4_findFault_27 ?_
            have e9 := Option.some.inj h
            subst e9
            rw [hQ]
            exact W.iret (v := r11.2.1) hx hb hr (fun t ht hW => ⟨⟨r11.2.1, (), rfl, rfl, by rw [ht]; exact hP, hD⟩, hS.F ht⟩) hS.2.2 dX4_findFault_30
  refine L9 _ (fun w17 w18 w19 w20 w21 H locs ls h hP hD hS hl => ?_) 4000 1 0 0 kd va _ _ _ h hP hD hS (lv_sub hl [2, 1, 0] rfl)
  refine lv_aload_n hx hb dX4_findFault_44 rfl (lv_at hl 0 rfl) ?_
  refine va_get (D := D) (ci := 4) (v := .int w19) (C := RX4) (T := TX4) (N := 4) hx hb hts uX4_findFault_X4 hown hK.1 hP 0 rfl rfl 1 (by decide) (hts _ kX4_findFault_1) (fun _ h9 => h9) rfl dX4_findFault_45 ?_
  refine lv_aload_n hx hb dX4_findFault_48 rfl (lv_at hl 0 rfl) ?_
  refine va_get (D := D) (ci := 4) (v := .ref pd) (C := RX4) (T := TX4) (N := 4) hx hb hts uX4_findFault_X4 hown hK.1 hP 0 rfl rfl 0 (by decide) (hts _ kX4_findFault_2) (fun _ h9 => h9) rfl dX4_findFault_49 ?_
  refine va_get (D := D) (ci := 2) (v := .int pl) (C := RX2) (T := TX2) (N := 2) hx hb hts uX4_findFault_X2 hown hK.1 hP 1 rfl rfl 1 (by decide) (hts _ kX4_findFault_4) (fun _ h9 => h9) rfl dX4_findFault_52 ?_
  refine lv_icmp_ne (tgt := 63) hx hb dX4_findFault_55 (by decide) (fun c22 => ?_) (fun c22 => ?_)
  · replace h := br_p c22 h
    refine lv_aload_n hx hb dX4_findFault_63 rfl (lv_at hl 0 rfl) ?_
    refine va_get (D := D) (ci := 4) (v := .int w19) (C := RX4) (T := TX4) (N := 4) hx hb hts uX4_findFault_X4 hown hK.1 hP 0 rfl rfl 1 (by decide) (hts _ kX4_findFault_1) (fun _ h9 => h9) rfl dX4_findFault_64 ?_
    have e9 := Option.some.inj h
    subst e9
    rw [hQ]
    exact W.iret (v := w19) hx hb hr (fun t ht hW => ⟨⟨w19, (), rfl, rfl, by rw [ht]; exact hP, hD⟩, hS.F ht⟩) hS.2.2 dX4_findFault_67
  · replace h := br_n (not_not_intro c22) h
    refine lv_bipush (v := (-6)) hx hb dX4_findFault_58 (by decide) ?_
    refine lv_goto (tgt := 67) hx hb dX4_findFault_60 (by decide) ?_
    have e9 := Option.some.inj h
    subst e9
    rw [hQ]
    exact W.iret (v := (-6)) hx hb hr (fun t ht hW => ⟨⟨(-6), (), rfl, rfl, by rw [ht]; exact hP, hD⟩, hS.F ht⟩) hS.2.2 dX4_findFault_67
