
-- LeaningLinesModel.set
abbrev OUT_X8_set : Type := Int32 × Int32 × (Nat → Int32) × (Nat → Int32)
def f_X8_set (kn : Int32) (s_ : Nat → Int32) (past : Nat → Int32) (a0 : Int32) (a1 : Int32) : Option OUT_X8_set :=
  jn (fun (j1 : Int32) => (if ¬ j1 = 0 then bn (f_X8_remembers kn s_ past) (fun r2 => gd a0 465 (bd (s_ a0.toNatClampNeg) (fun x3 => gd a0 465 (some ((x3, r2.1, upd s_ a0.toNatClampNeg a1, r2.2)))))) else some (((-2), kn, s_, past)))) (fun j63 => (if ¬ a0 = 0 then (if ¬ a0 = 1 then (if ¬ a0 = 2 then (if ¬ a0 = 3 then j63 0 else bn (f_X8_in a1 1 4) (fun r5 => (if r5 = 0 then j63 0 else j63 1))) else bn (f_X8_in a1 0 40) (fun r8 => j63 r8)) else bn (f_X8_in a1 1 20) (fun r10 => j63 r10)) else bn (f_X8_in a1 0 9) (fun r12 => j63 r12)))
theorem uX8_set_X8 : ∀ w ∈ wsX80, w ∈ wsX8_set := by decide +kernel
theorem kX8_set_1 : Cond.fieldLink RX8 7 "LeaningLinesModel" "s" "[I" ∈ wsX8_set := by decide +kernel
abbrev R_X8_set : Room := { frames := 1, cells := 0, slots := 0, locals := 22 }
set_option maxHeartbeats 4000000 in
set_option maxRecDepth 100000 in
theorem m_X8_set (l : Launch) (D : va_G) (cI cC cZ cR : ClassId) (mo mo1 mo2 mo3 mo4 mo5 : Nat) (sz : Nat) (kn : Int32) (le_ : Int32) (s_ : Nat → Int32) (past : Nat → Int32) (slo : Nat → Int32) (isv : Nat → Int32) (pad_ : Nat → Int32)  (a0 : Int32) (a1 : Int32)   (r : OUT_X8_set) (hf : f_X8_set kn s_ past a0 a1 = some r) : Met l yX8_set wsX8_set R_X8_set (cPc D cI cC cZ cR [.ref mo, .int a0, .int a1] sz (ws_model cI cC cZ cR mo mo1 mo2 mo3 mo4 mo5 kn le_ s_ past slo isv pad_)) (cQi D (ws_model cI cC cZ cR mo mo1 mo2 mo3 mo4 mo5 r.2.1 le_ r.2.2.1 r.2.2.2 slo isv pad_) (va_A (ws_model cI cC cZ cR mo mo1 mo2 mo3 mo4 mo5 kn le_ s_ past slo isv pad_) sz) r.1) 0 0 (va_A (ws_model cI cC cZ cR mo mo1 mo2 mo3 mo4 mo5 kn le_ s_ past slo isv pad_) sz) := by
  refine Met.ofW (cc := cX8_set) (maxL := 5) (ret := (some .int)) (by decide) rfl ?_
  intro p e s m args below meth c s₁ B hml hv
  obtain ⟨rfl, hsz, hP, hK, hD0⟩ := hv
  have hx := B.exec
  have hb := B.bytes
  have hr := B.returns
  have hts := atoms_spec (ws := wsX8_set) B.pre
  have hown : s.vm.findClass RX8 = some m.cls := findClass_of_methodNamed B.named
  have hlocks := B.notSynchronized
  subst hsz
  have hD := hD0.self (sz := s.heap.size)
  generalize hAe : va_A (ws_model cI cC cZ cR mo mo1 mo2 mo3 mo4 mo5 kn le_ s_ past slo isv pad_) s.heap.size = A at hD ⊢
  skip
  have hA : ∀ q : Nat, s.heap.size ≤ q → A q := fun q h => by rw [← hAe]; exact Or.inr h
  have hS : va_S A s.heap s.heap [] := va_S.rf
  have hl := lv_entry ([.ref mo, .int a0, .int a1]) (n := 5) (Nat.le_of_ble_eq_true rfl)
  rw [lg_entry_eq]
  generalize (lg_sl ([.ref mo, .int a0, .int a1]) ++ List.replicate (5 - (lg_sl ([.ref mo, .int a0, .int a1])).length) Slot.unset).toArray = ls at hl ⊢
  have hl : lv_has ls 5 [(0, .ref mo), (1, .int a0), (2, .int a1)] := hl
  refine W_absQ (fun Q hQ => ?_)
  refine W.eq (g2 := F0 m 0 ls []) rfl ?_
  have h := hf
  unfold f_X8_set at h
  refine lv_iload_n hx hb dX8_set_0 rfl (lv_at hl 1 rfl) ?_
  obtain ⟨j63, hj63, h⟩ := jn_sp h
  have J63 : ∀ (j1 : Int32) (H : Heap) (locs : List Loc) (ls : Array Slot), j63 j1 = some r → va_P D vwCl (ws_model cI cC cZ cR mo mo1 mo2 mo3 mo4 mo5 kn le_ s_ past slo isv pad_) H → va_D A (ws_model cI cC cZ cR mo mo1 mo2 mo3 mo4 mo5 kn le_ s_ past slo isv pad_) → va_S A s.heap H locs → lv_has ls 5 [(0, .ref mo), (1, .int a0), (2, .int a1)] → W p l e R_X8_set s m ([.ref mo, .int a0, .int a1] : List Value).toArray below meth c H locs 0 0 Q (F0 m 63 ls [.int j1]) := by
    intro j1 H locs ls h hP hD hS hl
    rw [hj63] at h
    refine lv_istore_n (lv' := [(3, .int j1), (0, .ref mo), (1, .int a0), (2, .int a1)]) hx hb dX8_set_63 rfl hl (by decide) rfl (fun ls hl => ?_)
    refine lv_iload_n hx hb dX8_set_64 rfl (lv_at hl 0 rfl) ?_
    refine lv_if_ne (tgt := 71) hx hb dX8_set_65 (by decide) (fun c4 => ?_) (fun c4 => ?_)
    · replace h := br_p c4 h
      refine lv_aload_n hx hb dX8_set_71 rfl (lv_at hl 1 rfl) ?_
      obtain ⟨r2, hcr2, h⟩ := bn_sp h
      have hPc := hP.sub (ws' := (ws_model cI cC cZ cR mo mo1 mo2 mo3 mo4 mo5 kn le_ s_ past slo isv pad_)) [0, 1, 2, 3, 4, 5] rfl
      have hDc := hD.sub (ws' := (ws_model cI cC cZ cR mo mo1 mo2 mo3 mo4 mo5 kn le_ s_ past slo isv pad_)) [0, 1, 2, 3, 4, 5] (by decide) rfl
      have hFc := va_free (wc := (ws_model cI cC cZ cR mo mo1 mo2 mo3 mo4 mo5 kn le_ s_ past slo isv pad_)) hD hS hA [0, 1, 2, 3, 4, 5] rfl
      refine va_callv (va_runV (As := []) (rest := []) ⟨hx, hb, hml, hown, hts⟩ (m_X8_remembers l D cI cC cZ cR mo mo1 mo2 mo3 mo4 mo5 _ kn le_ s_ past slo isv pad_    r2 hcr2) (cwV 0 hts gX8_set_X8_remembers rfl rfl rfl (by decide +kernel) ⟨Nat.le_of_ble_eq_true rfl, Nat.le_of_ble_eq_true rfl⟩) (cPc_pv hPc hK hDc (ci := 8) (q0 := 0) rfl rfl) rfl rfl hl.1 rfl (lv_room (Nat.le_of_ble_eq_true rfl)) dX8_set_72 ⟨Nat.le_of_ble_eq_true rfl, Nat.le_of_ble_eq_true rfl⟩) hS (fun q _ h => hFc q h) hFc (fun u t H1 locs ht hvm hw hB hz1 hk1 hS => ?_)
      obtain ⟨hP1, hD1⟩ := hB
      rw [ht] at hP1
      obtain ⟨hP, hD⟩ := va_join (wr := []) (w1 := (ws_model cI cC cZ cR mo mo1 mo2 mo3 mo4 mo5 r2.1 le_ s_ r2.2 slo isv pad_)) hP hD [0, 1, 2, 3, 4, 5] [] rfl rfl (by decide) (by decide) hk1 hFc hP1 hD1
      generalize H1 = H at hP hS ⊢
      have hP : va_P D vwCl (ws_model cI cC cZ cR mo mo1 mo2 mo3 mo4 mo5 r2.1 le_ s_ r2.2 slo isv pad_) H := hP
      have hD : va_D A (ws_model cI cC cZ cR mo mo1 mo2 mo3 mo4 mo5 r2.1 le_ s_ r2.2 slo isv pad_) := hD
      refine lv_aload_n hx hb dX8_set_75 rfl (lv_at hl 1 rfl) ?_
      refine va_get (D := D) (ci := 8) (v := .ref mo1) (C := RX8) (T := TX8) (N := 7) hx hb hts uX8_set_X8 hown hK.1 hP 0 rfl rfl 0 (by decide) (hts _ kX8_set_1) (fun _ h9 => h9) rfl dX8_set_76 ?_
      refine lv_iload_n hx hb dX8_set_79 rfl (lv_at hl 2 rfl) ?_
      obtain ⟨hin, h⟩ := gd_sp h
      refine va_iald (D := D) hx hb hK.1 hP 1 0 rfl rfl hin dX8_set_80 ?_
      refine lv_topi (fun x3 ex3 => ?_)
      replace h := bd_s2 h ex3
      refine lv_istore (lv' := [(4, .int x3), (3, .int j1), (0, .ref mo), (1, .int a0), (2, .int a1)]) hx hb dX8_set_81 hl (by decide) rfl (fun ls hl => ?_)
      refine lv_aload_n hx hb dX8_set_83 rfl (lv_at hl 2 rfl) ?_
      refine va_get (D := D) (ci := 8) (v := .ref mo1) (C := RX8) (T := TX8) (N := 7) hx hb hts uX8_set_X8 hown hK.1 hP 0 rfl rfl 0 (by decide) (hts _ kX8_set_1) (fun _ h9 => h9) rfl dX8_set_84 ?_
      refine lv_iload_n hx hb dX8_set_87 rfl (lv_at hl 3 rfl) ?_
      refine lv_iload_n hx hb dX8_set_88 rfl (lv_at hl 4 rfl) ?_
      obtain ⟨hin, h⟩ := gd_sp h
      refine va_iast (D := D) hx hb hK.1 hP hD hS 1 0 rfl rfl hin dX8_set_89 (fun H locs hP hD hS => ?_)
      have hP : va_P D vwCl (ws_model cI cC cZ cR mo mo1 mo2 mo3 mo4 mo5 r2.1 le_ (upd s_ a0.toNatClampNeg a1) r2.2 slo isv pad_) H := hP
      have hD : va_D A (ws_model cI cC cZ cR mo mo1 mo2 mo3 mo4 mo5 r2.1 le_ (upd s_ a0.toNatClampNeg a1) r2.2 slo isv pad_) := hD
      refine lv_iload hx hb dX8_set_90 (lv_at hl 0 rfl) ?_
      have e9 := Option.some.inj h
      subst e9
      rw [hQ]
      exact W.iret (v := x3) hx hb hr (fun t ht hW => ⟨⟨x3, (), rfl, rfl, by rw [ht]; exact hP, hD⟩, hS.F ht⟩) hS.2.2 dX8_set_92
    · replace h := br_n (not_not_intro c4) h
      refine lv_bipush (v := (-2)) hx hb dX8_set_68 (by decide) ?_
      have e9 := Option.some.inj h
      subst e9
      rw [hQ]
      exact W.iret (v := (-2)) hx hb hr (fun t ht hW => ⟨⟨(-2), (), rfl, rfl, by rw [ht]; exact hP, hD⟩, hS.F ht⟩) hS.2.2 dX8_set_70
  refine lv_if_ne (tgt := 14) hx hb dX8_set_1 (by decide) (fun c13 => ?_) (fun c13 => ?_)
  · replace h := br_p c13 h
    refine lv_iload_n hx hb dX8_set_14 rfl (lv_at hl 1 rfl) ?_
    refine lv_iconst (v := 1) hx hb dX8_set_15 (by decide) ?_
    refine lv_icmp_ne (tgt := 29) hx hb dX8_set_16 (by decide) (fun c11 => ?_) (fun c11 => ?_)
    · replace h := br_p c11 h
      refine lv_iload_n hx hb dX8_set_29 rfl (lv_at hl 1 rfl) ?_
      refine lv_iconst (v := 2) hx hb dX8_set_30 (by decide) ?_
      refine lv_icmp_ne (tgt := 44) hx hb dX8_set_31 (by decide) (fun c9 => ?_) (fun c9 => ?_)
      · replace h := br_p c9 h
        refine lv_iload_n hx hb dX8_set_44 rfl (lv_at hl 1 rfl) ?_
        refine lv_iconst (v := 3) hx hb dX8_set_45 (by decide) ?_
        refine lv_icmp_ne (tgt := 62) hx hb dX8_set_46 (by decide) (fun c7 => ?_) (fun c7 => ?_)
        · replace h := br_p c7 h
          refine lv_iconst (v := 0) hx hb dX8_set_62 (by decide) ?_
          exact J63 _ _ _ _ h hP hD hS (lv_sub hl [0, 1, 2] rfl)
        · replace h := br_n (not_not_intro c7) h
          refine lv_iload_n hx hb dX8_set_49 rfl (lv_at hl 2 rfl) ?_
          refine lv_iconst (v := 1) hx hb dX8_set_50 (by decide) ?_
          refine lv_iconst (v := 4) hx hb dX8_set_51 (by decide) ?_
          obtain ⟨r5, hcr5, h⟩ := bn_sp h
          have hPc := hP.sub (ws' := []) [] rfl
          have hDc := hD.sub (ws' := []) [] (by decide) rfl
          have hFc := va_free (wc := []) hD hS hA [] rfl
          refine va_calli (va_runS (As := [.int a1, .int 1, .int 4]) (rest := []) ⟨hx, hb, hml, hown, hts⟩ (m_X8_in l D cI cC cZ cR  _  a1 1 4   r5 hcr5) (va_cwS 3 hts gX8_set_X8_in rfl rfl rfl (by decide +kernel) ⟨Nat.le_of_ble_eq_true rfl, Nat.le_of_ble_eq_true rfl⟩) (cPc_ps hPc hK hDc) rfl rfl hl.1 rfl (lv_room (Nat.le_of_ble_eq_true rfl)) dX8_set_52 ⟨Nat.le_of_ble_eq_true rfl, Nat.le_of_ble_eq_true rfl⟩) hS (fun q _ h => hFc q h) hFc (fun xq u t H1 locs ht hvm hw hB hz1 hk1 hS => ?_)
          rw [hw]
          obtain ⟨hP1, hD1⟩ := hB
          rw [ht] at hP1
          obtain ⟨hP, hD⟩ := va_join (wr := [(mo, .inr (8, [.ref mo1, .ref mo2, .int kn, .ref mo3, .ref mo4, .ref mo5, .int le_])), (mo1, .inl (cI, 465, .inl s_)), (mo2, .inl (cI, 2790, .inl past)), (mo3, .inl (cI, 930, .inl slo)), (mo4, .inl (cZ, 2, .inl isv)), (mo5, .inl (cI, 80, .inl pad_))]) (w1 := []) hP hD [] [0, 1, 2, 3, 4, 5] rfl rfl (by decide) (by decide) hk1 hFc hP1 hD1
          generalize H1 = H at hP hS ⊢
          have hP : va_P D vwCl (ws_model cI cC cZ cR mo mo1 mo2 mo3 mo4 mo5 kn le_ s_ past slo isv pad_) H := hP
          have hD : va_D A (ws_model cI cC cZ cR mo mo1 mo2 mo3 mo4 mo5 kn le_ s_ past slo isv pad_) := hD
          refine lv_if_eq (tgt := 62) hx hb dX8_set_55 (by decide) (fun c6 => ?_) (fun c6 => ?_)
          · replace h := br_p c6 h
            refine lv_iconst (v := 0) hx hb dX8_set_62 (by decide) ?_
            exact J63 _ _ _ _ h hP hD hS (lv_sub hl [0, 1, 2] rfl)
          · replace h := br_n c6 h
            refine lv_iconst (v := 1) hx hb dX8_set_58 (by decide) ?_
            refine lv_goto (tgt := 63) hx hb dX8_set_59 (by decide) ?_
            exact J63 _ _ _ _ h hP hD hS (lv_sub hl [0, 1, 2] rfl)
      · replace h := br_n (not_not_intro c9) h
        refine lv_iload_n hx hb dX8_set_34 rfl (lv_at hl 2 rfl) ?_
        refine lv_iconst (v := 0) hx hb dX8_set_35 (by decide) ?_
        refine lv_bipush (v := 40) hx hb dX8_set_36 (by decide) ?_
        obtain ⟨r8, hcr8, h⟩ := bn_sp h
        have hPc := hP.sub (ws' := []) [] rfl
        have hDc := hD.sub (ws' := []) [] (by decide) rfl
        have hFc := va_free (wc := []) hD hS hA [] rfl
        refine va_calli (va_runS (As := [.int a1, .int 0, .int 40]) (rest := []) ⟨hx, hb, hml, hown, hts⟩ (m_X8_in l D cI cC cZ cR  _  a1 0 40   r8 hcr8) (va_cwS 3 hts gX8_set_X8_in rfl rfl rfl (by decide +kernel) ⟨Nat.le_of_ble_eq_true rfl, Nat.le_of_ble_eq_true rfl⟩) (cPc_ps hPc hK hDc) rfl rfl hl.1 rfl (lv_room (Nat.le_of_ble_eq_true rfl)) dX8_set_38 ⟨Nat.le_of_ble_eq_true rfl, Nat.le_of_ble_eq_true rfl⟩) hS (fun q _ h => hFc q h) hFc (fun xq u t H1 locs ht hvm hw hB hz1 hk1 hS => ?_)
        rw [hw]
        obtain ⟨hP1, hD1⟩ := hB
        rw [ht] at hP1
        obtain ⟨hP, hD⟩ := va_join (wr := [(mo, .inr (8, [.ref mo1, .ref mo2, .int kn, .ref mo3, .ref mo4, .ref mo5, .int le_])), (mo1, .inl (cI, 465, .inl s_)), (mo2, .inl (cI, 2790, .inl past)), (mo3, .inl (cI, 930, .inl slo)), (mo4, .inl (cZ, 2, .inl isv)), (mo5, .inl (cI, 80, .inl pad_))]) (w1 := []) hP hD [] [0, 1, 2, 3, 4, 5] rfl rfl (by decide) (by decide) hk1 hFc hP1 hD1
        generalize H1 = H at hP hS ⊢
        have hP : va_P D vwCl (ws_model cI cC cZ cR mo mo1 mo2 mo3 mo4 mo5 kn le_ s_ past slo isv pad_) H := hP
        have hD : va_D A (ws_model cI cC cZ cR mo mo1 mo2 mo3 mo4 mo5 kn le_ s_ past slo isv pad_) := hD
        refine lv_goto (tgt := 63) hx hb dX8_set_41 (by decide) ?_
        exact J63 _ _ _ _ h hP hD hS (lv_sub hl [0, 1, 2] rfl)
    · replace h := br_n (not_not_intro c11) h
      refine lv_iload_n hx hb dX8_set_19 rfl (lv_at hl 2 rfl) ?_
      refine lv_iconst (v := 1) hx hb dX8_set_20 (by decide) ?_
      refine lv_bipush (v := 20) hx hb dX8_set_21 (by decide) ?_
      obtain ⟨r10, hcr10, h⟩ := bn_sp h
      have hPc := hP.sub (ws' := []) [] rfl
      have hDc := hD.sub (ws' := []) [] (by decide) rfl
      have hFc := va_free (wc := []) hD hS hA [] rfl
      refine va_calli (va_runS (As := [.int a1, .int 1, .int 20]) (rest := []) ⟨hx, hb, hml, hown, hts⟩ (m_X8_in l D cI cC cZ cR  _  a1 1 20   r10 hcr10) (va_cwS 3 hts gX8_set_X8_in rfl rfl rfl (by decide +kernel) ⟨Nat.le_of_ble_eq_true rfl, Nat.le_of_ble_eq_true rfl⟩) (cPc_ps hPc hK hDc) rfl rfl hl.1 rfl (lv_room (Nat.le_of_ble_eq_true rfl)) dX8_set_23 ⟨Nat.le_of_ble_eq_true rfl, Nat.le_of_ble_eq_true rfl⟩) hS (fun q _ h => hFc q h) hFc (fun xq u t H1 locs ht hvm hw hB hz1 hk1 hS => ?_)
      rw [hw]
      obtain ⟨hP1, hD1⟩ := hB
      rw [ht] at hP1
      obtain ⟨hP, hD⟩ := va_join (wr := [(mo, .inr (8, [.ref mo1, .ref mo2, .int kn, .ref mo3, .ref mo4, .ref mo5, .int le_])), (mo1, .inl (cI, 465, .inl s_)), (mo2, .inl (cI, 2790, .inl past)), (mo3, .inl (cI, 930, .inl slo)), (mo4, .inl (cZ, 2, .inl isv)), (mo5, .inl (cI, 80, .inl pad_))]) (w1 := []) hP hD [] [0, 1, 2, 3, 4, 5] rfl rfl (by decide) (by decide) hk1 hFc hP1 hD1
      generalize H1 = H at hP hS ⊢
      have hP : va_P D vwCl (ws_model cI cC cZ cR mo mo1 mo2 mo3 mo4 mo5 kn le_ s_ past slo isv pad_) H := hP
      have hD : va_D A (ws_model cI cC cZ cR mo mo1 mo2 mo3 mo4 mo5 kn le_ s_ past slo isv pad_) := hD
      refine lv_goto (tgt := 63) hx hb dX8_set_26 (by decide) ?_
      exact J63 _ _ _ _ h hP hD hS (lv_sub hl [0, 1, 2] rfl)
  · replace h := br_n (not_not_intro c13) h
    refine lv_iload_n hx hb dX8_set_4 rfl (lv_at hl 2 rfl) ?_
    refine lv_iconst (v := 0) hx hb dX8_set_5 (by decide) ?_
    refine lv_bipush (v := 9) hx hb dX8_set_6 (by decide) ?_
    obtain ⟨r12, hcr12, h⟩ := bn_sp h
    have hPc := hP.sub (ws' := []) [] rfl
    have hDc := hD.sub (ws' := []) [] (by decide) rfl
    have hFc := va_free (wc := []) hD hS hA [] rfl
    refine va_calli (va_runS (As := [.int a1, .int 0, .int 9]) (rest := []) ⟨hx, hb, hml, hown, hts⟩ (m_X8_in l D cI cC cZ cR  _  a1 0 9   r12 hcr12) (va_cwS 3 hts gX8_set_X8_in rfl rfl rfl (by decide +kernel) ⟨Nat.le_of_ble_eq_true rfl, Nat.le_of_ble_eq_true rfl⟩) (cPc_ps hPc hK hDc) rfl rfl hl.1 rfl (lv_room (Nat.le_of_ble_eq_true rfl)) dX8_set_8 ⟨Nat.le_of_ble_eq_true rfl, Nat.le_of_ble_eq_true rfl⟩) hS (fun q _ h => hFc q h) hFc (fun xq u t H1 locs ht hvm hw hB hz1 hk1 hS => ?_)
    rw [hw]
    obtain ⟨hP1, hD1⟩ := hB
    rw [ht] at hP1
    obtain ⟨hP, hD⟩ := va_join (wr := [(mo, .inr (8, [.ref mo1, .ref mo2, .int kn, .ref mo3, .ref mo4, .ref mo5, .int le_])), (mo1, .inl (cI, 465, .inl s_)), (mo2, .inl (cI, 2790, .inl past)), (mo3, .inl (cI, 930, .inl slo)), (mo4, .inl (cZ, 2, .inl isv)), (mo5, .inl (cI, 80, .inl pad_))]) (w1 := []) hP hD [] [0, 1, 2, 3, 4, 5] rfl rfl (by decide) (by decide) hk1 hFc hP1 hD1
    generalize H1 = H at hP hS ⊢
    have hP : va_P D vwCl (ws_model cI cC cZ cR mo mo1 mo2 mo3 mo4 mo5 kn le_ s_ past slo isv pad_) H := hP
    have hD : va_D A (ws_model cI cC cZ cR mo mo1 mo2 mo3 mo4 mo5 kn le_ s_ past slo isv pad_) := hD
    refine lv_goto (tgt := 63) hx hb dX8_set_11 (by decide) ?_
    exact J63 _ _ _ _ h hP hD hS (lv_sub hl [0, 1, 2] rfl)
-- LeaningLinesModel.thing
abbrev OUT_X8_thing : Type := Int32 × Int32 × (Nat → Int32) × (Nat → Int32)
def f_X8_thing (kn : Int32) (s_ : Nat → Int32) (past : Nat → Int32) (a0 : Int32) (a1 : Int32) (a2 : Int32) (a3 : Int32) (a4 : Int32) : Option OUT_X8_thing :=
  bn (f_X8_whyNotThing s_ a0 a1 a2 a3 a4) (fun r1 => (if 0 ≤ r1 then bn (f_X8_remembers kn s_ past) (fun r2 => bn (f_X8_comes s_ a0 a1 a2 a3 a4) (fun r3 => some ((r3.1, r2.1, r3.2, r2.2)))) else some ((r1, kn, s_, past))))
abbrev R_X8_thing : Room := { frames := 2, cells := 0, slots := 0, locals := 48 }
set_option maxHeartbeats 4000000 in
set_option maxRecDepth 100000 in
theorem m_X8_thing (l : Launch) (D : va_G) (cI cC cZ cR : ClassId) (mo mo1 mo2 mo3 mo4 mo5 : Nat) (sz : Nat) (kn : Int32) (le_ : Int32) (s_ : Nat → Int32) (past : Nat → Int32) (slo : Nat → Int32) (isv : Nat → Int32) (pad_ : Nat → Int32)  (a0 : Int32) (a1 : Int32) (a2 : Int32) (a3 : Int32) (a4 : Int32)   (r : OUT_X8_thing) (hf : f_X8_thing kn s_ past a0 a1 a2 a3 a4 = some r) : Met l yX8_thing wsX8_thing R_X8_thing (cPc D cI cC cZ cR [.ref mo, .int a0, .int a1, .int a2, .int a3, .int a4] sz (ws_model cI cC cZ cR mo mo1 mo2 mo3 mo4 mo5 kn le_ s_ past slo isv pad_)) (cQi D (ws_model cI cC cZ cR mo mo1 mo2 mo3 mo4 mo5 r.2.1 le_ r.2.2.1 r.2.2.2 slo isv pad_) (va_A (ws_model cI cC cZ cR mo mo1 mo2 mo3 mo4 mo5 kn le_ s_ past slo isv pad_) sz) r.1) 0 0 (va_A (ws_model cI cC cZ cR mo mo1 mo2 mo3 mo4 mo5 kn le_ s_ past slo isv pad_) sz) := by
  refine Met.ofW (cc := cX8_thing) (maxL := 7) (ret := (some .int)) (by decide) rfl ?_
  intro p e s m args below meth c s₁ B hml hv
  obtain ⟨rfl, hsz, hP, hK, hD0⟩ := hv
  have hx := B.exec
  have hb := B.bytes
  have hr := B.returns
  have hts := atoms_spec (ws := wsX8_thing) B.pre
  have hown : s.vm.findClass RX8 = some m.cls := findClass_of_methodNamed B.named
  have hlocks := B.notSynchronized
  subst hsz
  have hD := hD0.self (sz := s.heap.size)
  generalize hAe : va_A (ws_model cI cC cZ cR mo mo1 mo2 mo3 mo4 mo5 kn le_ s_ past slo isv pad_) s.heap.size = A at hD ⊢
  skip
  have hA : ∀ q : Nat, s.heap.size ≤ q → A q := fun q h => by rw [← hAe]; exact Or.inr h
  have hS : va_S A s.heap s.heap [] := va_S.rf
  have hl := lv_entry ([.ref mo, .int a0, .int a1, .int a2, .int a3, .int a4]) (n := 7) (Nat.le_of_ble_eq_true rfl)
  rw [lg_entry_eq]
  generalize (lg_sl ([.ref mo, .int a0, .int a1, .int a2, .int a3, .int a4]) ++ List.replicate (7 - (lg_sl ([.ref mo, .int a0, .int a1, .int a2, .int a3, .int a4])).length) Slot.unset).toArray = ls at hl ⊢
  have hl : lv_has ls 7 [(0, .ref mo), (1, .int a0), (2, .int a1), (3, .int a2), (4, .int a3), (5, .int a4)] := hl
  refine W_absQ (fun Q hQ => ?_)
  refine W.eq (g2 := F0 m 0 ls []) rfl ?_
  have h := hf
  unfold f_X8_thing at h
  refine lv_aload_n hx hb dX8_thing_0 rfl (lv_at hl 0 rfl) ?_
  refine lv_iload_n hx hb dX8_thing_1 rfl (lv_at hl 1 rfl) ?_
  refine lv_iload_n hx hb dX8_thing_2 rfl (lv_at hl 2 rfl) ?_
  refine lv_iload_n hx hb dX8_thing_3 rfl (lv_at hl 3 rfl) ?_
  refine lv_iload hx hb dX8_thing_4 (lv_at hl 4 rfl) ?_
  refine lv_iload hx hb dX8_thing_6 (lv_at hl 5 rfl) ?_
  obtain ⟨r1, hcr1, h⟩ := bn_sp h
  have hPc := hP.sub (ws' := (ws_model cI cC cZ cR mo mo1 mo2 mo3 mo4 mo5 kn le_ s_ past slo isv pad_)) [0, 1, 2, 3, 4, 5] rfl
  have hDc := hD.sub (ws' := (ws_model cI cC cZ cR mo mo1 mo2 mo3 mo4 mo5 kn le_ s_ past slo isv pad_)) [0, 1, 2, 3, 4, 5] (by decide) rfl
  have hFc := va_free (wc := (ws_model cI cC cZ cR mo mo1 mo2 mo3 mo4 mo5 kn le_ s_ past slo isv pad_)) hD hS hA [0, 1, 2, 3, 4, 5] rfl
  refine va_calli (va_runV (As := [.int a0, .int a1, .int a2, .int a3, .int a4]) (rest := []) ⟨hx, hb, hml, hown, hts⟩ (m_X8_whyNotThing l D cI cC cZ cR mo mo1 mo2 mo3 mo4 mo5 _ kn le_ s_ past slo isv pad_ a0 a1 a2 a3 a4   r1 hcr1) (cwV 5 hts gX8_thing_X8_whyNotThing rfl rfl rfl (by decide +kernel) ⟨Nat.le_of_ble_eq_true rfl, Nat.le_of_ble_eq_true rfl⟩) (cPc_pv hPc hK hDc (ci := 8) (q0 := 0) rfl rfl) rfl rfl hl.1 rfl (lv_room (Nat.le_of_ble_eq_true rfl)) dX8_thing_8 ⟨Nat.le_of_ble_eq_true rfl, Nat.le_of_ble_eq_true rfl⟩) hS (fun q _ h => hFc q h) hFc (fun xq u t H1 locs ht hvm hw hB hz1 hk1 hS => ?_)
  rw [hw]
  obtain ⟨hP1, hD1⟩ := hB
  rw [ht] at hP1
  obtain ⟨hP, hD⟩ := va_join (wr := []) (w1 := (ws_model cI cC cZ cR mo mo1 mo2 mo3 mo4 mo5 kn le_ s_ past slo isv pad_)) hP hD [0, 1, 2, 3, 4, 5] [] rfl rfl (by decide) (by decide) hk1 hFc hP1 hD1
  generalize H1 = H at hP hS ⊢
  have hP : va_P D vwCl (ws_model cI cC cZ cR mo mo1 mo2 mo3 mo4 mo5 kn le_ s_ past slo isv pad_) H := hP
  have hD : va_D A (ws_model cI cC cZ cR mo mo1 mo2 mo3 mo4 mo5 kn le_ s_ past slo isv pad_) := hD
  refine lv_istore (lv' := [(6, .int r1), (0, .ref mo), (1, .int a0), (2, .int a1), (3, .int a2), (4, .int a3), (5, .int a4)]) hx hb dX8_thing_11 hl (by decide) rfl (fun ls hl => ?_)
  refine lv_iload hx hb dX8_thing_13 (lv_at hl 0 rfl) ?_
  refine lv_if_ge (tgt := 21) hx hb dX8_thing_15 (by decide) (fun c4 => ?_) (fun c4 => ?_)
  · replace h := br_p c4 h
    refine lv_aload_n hx hb dX8_thing_21 rfl (lv_at hl 1 rfl) ?_
    obtain ⟨r2, hcr2, h⟩ := bn_sp h
    have hPc := hP.sub (ws' := (ws_model cI cC cZ cR mo mo1 mo2 mo3 mo4 mo5 kn le_ s_ past slo isv pad_)) [0, 1, 2, 3, 4, 5] rfl
    have hDc := hD.sub (ws' := (ws_model cI cC cZ cR mo mo1 mo2 mo3 mo4 mo5 kn le_ s_ past slo isv pad_)) [0, 1, 2, 3, 4, 5] (by decide) rfl
    have hFc := va_free (wc := (ws_model cI cC cZ cR mo mo1 mo2 mo3 mo4 mo5 kn le_ s_ past slo isv pad_)) hD hS hA [0, 1, 2, 3, 4, 5] rfl
    refine va_callv (va_runV (As := []) (rest := []) ⟨hx, hb, hml, hown, hts⟩ (m_X8_remembers l D cI cC cZ cR mo mo1 mo2 mo3 mo4 mo5 _ kn le_ s_ past slo isv pad_    r2 hcr2) (cwV 0 hts gX8_thing_X8_remembers rfl rfl rfl (by decide +kernel) ⟨Nat.le_of_ble_eq_true rfl, Nat.le_of_ble_eq_true rfl⟩) (cPc_pv hPc hK hDc (ci := 8) (q0 := 0) rfl rfl) rfl rfl hl.1 rfl (lv_room (Nat.le_of_ble_eq_true rfl)) dX8_thing_22 ⟨Nat.le_of_ble_eq_true rfl, Nat.le_of_ble_eq_true rfl⟩) hS (fun q _ h => hFc q h) hFc (fun u t H1 locs ht hvm hw hB hz1 hk1 hS => ?_)
    obtain ⟨hP1, hD1⟩ := hB
    rw [ht] at hP1
    obtain ⟨hP, hD⟩ := va_join (wr := []) (w1 := (ws_model cI cC cZ cR mo mo1 mo2 mo3 mo4 mo5 r2.1 le_ s_ r2.2 slo isv pad_)) hP hD [0, 1, 2, 3, 4, 5] [] rfl rfl (by decide) (by decide) hk1 hFc hP1 hD1
    generalize H1 = H at hP hS ⊢
    have hP : va_P D vwCl (ws_model cI cC cZ cR mo mo1 mo2 mo3 mo4 mo5 r2.1 le_ s_ r2.2 slo isv pad_) H := hP
    have hD : va_D A (ws_model cI cC cZ cR mo mo1 mo2 mo3 mo4 mo5 r2.1 le_ s_ r2.2 slo isv pad_) := hD
    refine lv_aload_n hx hb dX8_thing_25 rfl (lv_at hl 1 rfl) ?_
    refine lv_iload_n hx hb dX8_thing_26 rfl (lv_at hl 2 rfl) ?_
    refine lv_iload_n hx hb dX8_thing_27 rfl (lv_at hl 3 rfl) ?_
    refine lv_iload_n hx hb dX8_thing_28 rfl (lv_at hl 4 rfl) ?_
    refine lv_iload hx hb dX8_thing_29 (lv_at hl 5 rfl) ?_
    refine lv_iload hx hb dX8_thing_31 (lv_at hl 6 rfl) ?_
    obtain ⟨r3, hcr3, h⟩ := bn_sp h
    have hPc := hP.sub (ws' := (ws_model cI cC cZ cR mo mo1 mo2 mo3 mo4 mo5 r2.1 le_ s_ r2.2 slo isv pad_)) [0, 1, 2, 3, 4, 5] rfl
    have hDc := hD.sub (ws' := (ws_model cI cC cZ cR mo mo1 mo2 mo3 mo4 mo5 r2.1 le_ s_ r2.2 slo isv pad_)) [0, 1, 2, 3, 4, 5] (by decide) rfl
    have hFc := va_free (wc := (ws_model cI cC cZ cR mo mo1 mo2 mo3 mo4 mo5 r2.1 le_ s_ r2.2 slo isv pad_)) hD hS hA [0, 1, 2, 3, 4, 5] rfl
    refine va_calli (va_runV (As := [.int a0, .int a1, .int a2, .int a3, .int a4]) (rest := []) ⟨hx, hb, hml, hown, hts⟩ (m_X8_comes l D cI cC cZ cR mo mo1 mo2 mo3 mo4 mo5 _ r2.1 le_ s_ r2.2 slo isv pad_ a0 a1 a2 a3 a4   r3 hcr3) (cwV 5 hts gX8_thing_X8_comes rfl rfl rfl (by decide +kernel) ⟨Nat.le_of_ble_eq_true rfl, Nat.le_of_ble_eq_true rfl⟩) (cPc_pv hPc hK hDc (ci := 8) (q0 := 0) rfl rfl) rfl rfl hl.1 rfl (lv_room (Nat.le_of_ble_eq_true rfl)) dX8_thing_33 ⟨Nat.le_of_ble_eq_true rfl, Nat.le_of_ble_eq_true rfl⟩) hS (fun q _ h => hFc q h) hFc (fun xq u t H1 locs ht hvm hw hB hz1 hk1 hS => ?_)
    rw [hw]
    obtain ⟨hP1, hD1⟩ := hB
    rw [ht] at hP1
    obtain ⟨hP, hD⟩ := va_join (wr := []) (w1 := (ws_model cI cC cZ cR mo mo1 mo2 mo3 mo4 mo5 r2.1 le_ r3.2 r2.2 slo isv pad_)) hP hD [0, 1, 2, 3, 4, 5] [] rfl rfl (by decide) (by decide) hk1 hFc hP1 hD1
    generalize H1 = H at hP hS ⊢
    have hP : va_P D vwCl (ws_model cI cC cZ cR mo mo1 mo2 mo3 mo4 mo5 r2.1 le_ r3.2 r2.2 slo isv pad_) H := hP
    have hD : va_D A (ws_model cI cC cZ cR mo mo1 mo2 mo3 mo4 mo5 r2.1 le_ r3.2 r2.2 slo isv pad_) := hD
    have e9 := Option.some.inj h
    subst e9
    rw [hQ]
    exact W.iret (v := r3.1) hx hb hr (fun t ht hW => ⟨⟨r3.1, (), rfl, rfl, by rw [ht]; exact hP, hD⟩, hS.F ht⟩) hS.2.2 dX8_thing_36
  · replace h := br_n c4 h
    refine lv_iload hx hb dX8_thing_18 (lv_at hl 0 rfl) ?_
    have e9 := Option.some.inj h
    subst e9
    rw [hQ]
    exact W.iret (v := r1) hx hb hr (fun t ht hW => ⟨⟨r1, (), rfl, rfl, by rw [ht]; exact hP, hD⟩, hS.F ht⟩) hS.2.2 dX8_thing_20
-- LeaningLinesModel.speed
abbrev OUT_X8_speed : Type := Int32 × Int32 × (Nat → Int32) × (Nat → Int32)
def f_X8_speed (kn : Int32) (s_ : Nat → Int32) (past : Nat → Int32) (a0 : Int32) (a1 : Int32) : Option OUT_X8_speed :=
  bn (f_X8_isThing s_ a0) (fun r1 => (if ¬ r1 = 0 then bn (f_X8_in a1 (-40) 40) (fun r2 => (if ¬ r2 = 0 then bn (f_X8_remembers kn s_ past) (fun r3 => bn (f_X8_its s_ a0 5) (fun r4 => bn (f_X8_its s_ a0 7) (fun r5 => bn (f_X8_anew s_ a0 a1 r5) (fun r6 => some ((r4 + 100, r3.1, r6, r3.2)))))) else some (((-2), kn, s_, past)))) else some (((-1), kn, s_, past))))
abbrev R_X8_speed : Room := { frames := 3, cells := 0, slots := 0, locals := 70 }
set_option maxHeartbeats 4000000 in
set_option maxRecDepth 100000 in
theorem m_X8_speed (l : Launch) (D : va_G) (cI cC cZ cR : ClassId) (mo mo1 mo2 mo3 mo4 mo5 : Nat) (sz : Nat) (kn : Int32) (le_ : Int32) (s_ : Nat → Int32) (past : Nat → Int32) (slo : Nat → Int32) (isv : Nat → Int32) (pad_ : Nat → Int32)  (a0 : Int32) (a1 : Int32)   (r : OUT_X8_speed) (hf : f_X8_speed kn s_ past a0 a1 = some r) : Met l yX8_speed wsX8_speed R_X8_speed (cPc D cI cC cZ cR [.ref mo, .int a0, .int a1] sz (ws_model cI cC cZ cR mo mo1 mo2 mo3 mo4 mo5 kn le_ s_ past slo isv pad_)) (cQi D (ws_model cI cC cZ cR mo mo1 mo2 mo3 mo4 mo5 r.2.1 le_ r.2.2.1 r.2.2.2 slo isv pad_) (va_A (ws_model cI cC cZ cR mo mo1 mo2 mo3 mo4 mo5 kn le_ s_ past slo isv pad_) sz) r.1) 0 0 (va_A (ws_model cI cC cZ cR mo mo1 mo2 mo3 mo4 mo5 kn le_ s_ past slo isv pad_) sz) := by
  refine Met.ofW (cc := cX8_speed) (maxL := 4) (ret := (some .int)) (by decide) rfl ?_
  intro p e s m args below meth c s₁ B hml hv
  obtain ⟨rfl, hsz, hP, hK, hD0⟩ := hv
  have hx := B.exec
  have hb := B.bytes
  have hr := B.returns
  have hts := atoms_spec (ws := wsX8_speed) B.pre
  have hown : s.vm.findClass RX8 = some m.cls := findClass_of_methodNamed B.named
  have hlocks := B.notSynchronized
  subst hsz
  have hD := hD0.self (sz := s.heap.size)
  generalize hAe : va_A (ws_model cI cC cZ cR mo mo1 mo2 mo3 mo4 mo5 kn le_ s_ past slo isv pad_) s.heap.size = A at hD ⊢
  skip
  have hA : ∀ q : Nat, s.heap.size ≤ q → A q := fun q h => by rw [← hAe]; exact Or.inr h
  have hS : va_S A s.heap s.heap [] := va_S.rf
  have hl := lv_entry ([.ref mo, .int a0, .int a1]) (n := 4) (Nat.le_of_ble_eq_true rfl)
  rw [lg_entry_eq]
  generalize (lg_sl ([.ref mo, .int a0, .int a1]) ++ List.replicate (4 - (lg_sl ([.ref mo, .int a0, .int a1])).length) Slot.unset).toArray = ls at hl ⊢
  have hl : lv_has ls 4 [(0, .ref mo), (1, .int a0), (2, .int a1)] := hl
  refine W_absQ (fun Q hQ => ?_)
  refine W.eq (g2 := F0 m 0 ls []) rfl ?_
  have h := hf
  unfold f_X8_speed at h
  refine lv_aload_n hx hb dX8_speed_0 rfl (lv_at hl 0 rfl) ?_
  refine lv_iload_n hx hb dX8_speed_1 rfl (lv_at hl 1 rfl) ?_
  obtain ⟨r1, hcr1, h⟩ := bn_sp h
  have hPc := hP.sub (ws' := (ws_model cI cC cZ cR mo mo1 mo2 mo3 mo4 mo5 kn le_ s_ past slo isv pad_)) [0, 1, 2, 3, 4, 5] rfl
  have hDc := hD.sub (ws' := (ws_model cI cC cZ cR mo mo1 mo2 mo3 mo4 mo5 kn le_ s_ past slo isv pad_)) [0, 1, 2, 3, 4, 5] (by decide) rfl
  have hFc := va_free (wc := (ws_model cI cC cZ cR mo mo1 mo2 mo3 mo4 mo5 kn le_ s_ past slo isv pad_)) hD hS hA [0, 1, 2, 3, 4, 5] rfl
  refine va_calli (va_runV (As := [.int a0]) (rest := []) ⟨hx, hb, hml, hown, hts⟩ (m_X8_isThing l D cI cC cZ cR mo mo1 mo2 mo3 mo4 mo5 _ kn le_ s_ past slo isv pad_ a0   r1 hcr1) (cwV 1 hts gX8_speed_X8_isThing rfl rfl rfl (by decide +kernel) ⟨Nat.le_of_ble_eq_true rfl, Nat.le_of_ble_eq_true rfl⟩) (cPc_pv hPc hK hDc (ci := 8) (q0 := 0) rfl rfl) rfl rfl hl.1 rfl (lv_room (Nat.le_of_ble_eq_true rfl)) dX8_speed_2 ⟨Nat.le_of_ble_eq_true rfl, Nat.le_of_ble_eq_true rfl⟩) hS (fun q _ h => hFc q h) hFc (fun xq u t H1 locs ht hvm hw hB hz1 hk1 hS => ?_)
  rw [hw]
  obtain ⟨hP1, hD1⟩ := hB
  rw [ht] at hP1
  obtain ⟨hP, hD⟩ := va_join (wr := []) (w1 := (ws_model cI cC cZ cR mo mo1 mo2 mo3 mo4 mo5 kn le_ s_ past slo isv pad_)) hP hD [0, 1, 2, 3, 4, 5] [] rfl rfl (by decide) (by decide) hk1 hFc hP1 hD1
  generalize H1 = H at hP hS ⊢
  have hP : va_P D vwCl (ws_model cI cC cZ cR mo mo1 mo2 mo3 mo4 mo5 kn le_ s_ past slo isv pad_) H := hP
  have hD : va_D A (ws_model cI cC cZ cR mo mo1 mo2 mo3 mo4 mo5 kn le_ s_ past slo isv pad_) := hD
  refine lv_if_ne (tgt := 10) hx hb dX8_speed_5 (by decide) (fun c8 => ?_) (fun c8 => ?_)
  · replace h := br_p c8 h
    refine lv_iload_n hx hb dX8_speed_10 rfl (lv_at hl 2 rfl) ?_
    refine lv_bipush (v := (-40)) hx hb dX8_speed_11 (by decide) ?_
    refine lv_bipush (v := 40) hx hb dX8_speed_13 (by decide) ?_
    obtain ⟨r2, hcr2, h⟩ := bn_sp h
    have hPc := hP.sub (ws' := []) [] rfl
    have hDc := hD.sub (ws' := []) [] (by decide) rfl
    have hFc := va_free (wc := []) hD hS hA [] rfl
    refine va_calli (va_runS (As := [.int a1, .int (-40), .int 40]) (rest := []) ⟨hx, hb, hml, hown, hts⟩ (m_X8_in l D cI cC cZ cR  _  a1 (-40) 40   r2 hcr2) (va_cwS 3 hts gX8_speed_X8_in rfl rfl rfl (by decide +kernel) ⟨Nat.le_of_ble_eq_true rfl, Nat.le_of_ble_eq_true rfl⟩) (cPc_ps hPc hK hDc) rfl rfl hl.1 rfl (lv_room (Nat.le_of_ble_eq_true rfl)) dX8_speed_15 ⟨Nat.le_of_ble_eq_true rfl, Nat.le_of_ble_eq_true rfl⟩) hS (fun q _ h => hFc q h) hFc (fun xq u t H1 locs ht hvm hw hB hz1 hk1 hS => ?_)
    rw [hw]
    obtain ⟨hP1, hD1⟩ := hB
    rw [ht] at hP1
    obtain ⟨hP, hD⟩ := va_join (wr := [(mo, .inr (8, [.ref mo1, .ref mo2, .int kn, .ref mo3, .ref mo4, .ref mo5, .int le_])), (mo1, .inl (cI, 465, .inl s_)), (mo2, .inl (cI, 2790, .inl past)), (mo3, .inl (cI, 930, .inl slo)), (mo4, .inl (cZ, 2, .inl isv)), (mo5, .inl (cI, 80, .inl pad_))]) (w1 := []) hP hD [] [0, 1, 2, 3, 4, 5] rfl rfl (by decide) (by decide) hk1 hFc hP1 hD1
    generalize H1 = H at hP hS ⊢
    have hP : va_P D vwCl (ws_model cI cC cZ cR mo mo1 mo2 mo3 mo4 mo5 kn le_ s_ past slo isv pad_) H := hP
    have hD : va_D A (ws_model cI cC cZ cR mo mo1 mo2 mo3 mo4 mo5 kn le_ s_ past slo isv pad_) := hD
    refine lv_if_ne (tgt := 24) hx hb dX8_speed_18 (by decide) (fun c7 => ?_) (fun c7 => ?_)
    · replace h := br_p c7 h
      refine lv_aload_n hx hb dX8_speed_24 rfl (lv_at hl 0 rfl) ?_
      obtain ⟨r3, hcr3, h⟩ := bn_sp h
      have hPc := hP.sub (ws' := (ws_model cI cC cZ cR mo mo1 mo2 mo3 mo4 mo5 kn le_ s_ past slo isv pad_)) [0, 1, 2, 3, 4, 5] rfl
      have hDc := hD.sub (ws' := (ws_model cI cC cZ cR mo mo1 mo2 mo3 mo4 mo5 kn le_ s_ past slo isv pad_)) [0, 1, 2, 3, 4, 5] (by decide) rfl
      have hFc := va_free (wc := (ws_model cI cC cZ cR mo mo1 mo2 mo3 mo4 mo5 kn le_ s_ past slo isv pad_)) hD hS hA [0, 1, 2, 3, 4, 5] rfl
      refine va_callv (va_runV (As := []) (rest := []) ⟨hx, hb, hml, hown, hts⟩ (m_X8_remembers l D cI cC cZ cR mo mo1 mo2 mo3 mo4 mo5 _ kn le_ s_ past slo isv pad_    r3 hcr3) (cwV 0 hts gX8_speed_X8_remembers rfl rfl rfl (by decide +kernel) ⟨Nat.le_of_ble_eq_true rfl, Nat.le_of_ble_eq_true rfl⟩) (cPc_pv hPc hK hDc (ci := 8) (q0 := 0) rfl rfl) rfl rfl hl.1 rfl (lv_room (Nat.le_of_ble_eq_true rfl)) dX8_speed_25 ⟨Nat.le_of_ble_eq_true rfl, Nat.le_of_ble_eq_true rfl⟩) hS (fun q _ h => hFc q h) hFc (fun u t H1 locs ht hvm hw hB hz1 hk1 hS => ?_)
      obtain ⟨hP1, hD1⟩ := hB
      rw [ht] at hP1
      obtain ⟨hP, hD⟩ := va_join (wr := []) (w1 := (ws_model cI cC cZ cR mo mo1 mo2 mo3 mo4 mo5 r3.1 le_ s_ r3.2 slo isv pad_)) hP hD [0, 1, 2, 3, 4, 5] [] rfl rfl (by decide) (by decide) hk1 hFc hP1 hD1
      generalize H1 = H at hP hS ⊢
      have hP : va_P D vwCl (ws_model cI cC cZ cR mo mo1 mo2 mo3 mo4 mo5 r3.1 le_ s_ r3.2 slo isv pad_) H := hP
      have hD : va_D A (ws_model cI cC cZ cR mo mo1 mo2 mo3 mo4 mo5 r3.1 le_ s_ r3.2 slo isv pad_) := hD
      refine lv_aload_n hx hb dX8_speed_28 rfl (lv_at hl 0 rfl) ?_
      refine lv_iload_n hx hb dX8_speed_29 rfl (lv_at hl 1 rfl) ?_
      refine lv_iconst (v := 5) hx hb dX8_speed_30 (by decide) ?_
      obtain ⟨r4, hcr4, h⟩ := bn_sp h
      have hPc := hP.sub (ws' := (ws_model cI cC cZ cR mo mo1 mo2 mo3 mo4 mo5 r3.1 le_ s_ r3.2 slo isv pad_)) [0, 1, 2, 3, 4, 5] rfl
      have hDc := hD.sub (ws' := (ws_model cI cC cZ cR mo mo1 mo2 mo3 mo4 mo5 r3.1 le_ s_ r3.2 slo isv pad_)) [0, 1, 2, 3, 4, 5] (by decide) rfl
      have hFc := va_free (wc := (ws_model cI cC cZ cR mo mo1 mo2 mo3 mo4 mo5 r3.1 le_ s_ r3.2 slo isv pad_)) hD hS hA [0, 1, 2, 3, 4, 5] rfl
      refine va_calli (va_runV (As := [.int a0, .int 5]) (rest := []) ⟨hx, hb, hml, hown, hts⟩ (m_X8_its l D cI cC cZ cR mo mo1 mo2 mo3 mo4 mo5 _ r3.1 le_ s_ r3.2 slo isv pad_ a0 5   r4 hcr4) (cwV 2 hts gX8_speed_X8_its rfl rfl rfl (by decide +kernel) ⟨Nat.le_of_ble_eq_true rfl, Nat.le_of_ble_eq_true rfl⟩) (cPc_pv hPc hK hDc (ci := 8) (q0 := 0) rfl rfl) rfl rfl hl.1 rfl (lv_room (Nat.le_of_ble_eq_true rfl)) dX8_speed_31 ⟨Nat.le_of_ble_eq_true rfl, Nat.le_of_ble_eq_true rfl⟩) hS (fun q _ h => hFc q h) hFc (fun xq u t H1 locs ht hvm hw hB hz1 hk1 hS => ?_)
      rw [hw]
      obtain ⟨hP1, hD1⟩ := hB
      rw [ht] at hP1
      obtain ⟨hP, hD⟩ := va_join (wr := []) (w1 := (ws_model cI cC cZ cR mo mo1 mo2 mo3 mo4 mo5 r3.1 le_ s_ r3.2 slo isv pad_)) hP hD [0, 1, 2, 3, 4, 5] [] rfl rfl (by decide) (by decide) hk1 hFc hP1 hD1
      generalize H1 = H at hP hS ⊢
      have hP : va_P D vwCl (ws_model cI cC cZ cR mo mo1 mo2 mo3 mo4 mo5 r3.1 le_ s_ r3.2 slo isv pad_) H := hP
      have hD : va_D A (ws_model cI cC cZ cR mo mo1 mo2 mo3 mo4 mo5 r3.1 le_ s_ r3.2 slo isv pad_) := hD
      refine lv_istore_n (lv' := [(3, .int r4), (0, .ref mo), (1, .int a0), (2, .int a1)]) hx hb dX8_speed_34 rfl hl (by decide) rfl (fun ls hl => ?_)
      refine lv_aload_n hx hb dX8_speed_35 rfl (lv_at hl 1 rfl) ?_
      refine lv_iload_n hx hb dX8_speed_36 rfl (lv_at hl 2 rfl) ?_
      refine lv_iload_n hx hb dX8_speed_37 rfl (lv_at hl 3 rfl) ?_
      refine lv_aload_n hx hb dX8_speed_38 rfl (lv_at hl 1 rfl) ?_
      refine lv_iload_n hx hb dX8_speed_39 rfl (lv_at hl 2 rfl) ?_
      refine lv_bipush (v := 7) hx hb dX8_speed_40 (by decide) ?_
      obtain ⟨r5, hcr5, h⟩ := bn_sp h
      have hPc := hP.sub (ws' := (ws_model cI cC cZ cR mo mo1 mo2 mo3 mo4 mo5 r3.1 le_ s_ r3.2 slo isv pad_)) [0, 1, 2, 3, 4, 5] rfl
      have hDc := hD.sub (ws' := (ws_model cI cC cZ cR mo mo1 mo2 mo3 mo4 mo5 r3.1 le_ s_ r3.2 slo isv pad_)) [0, 1, 2, 3, 4, 5] (by decide) rfl
      have hFc := va_free (wc := (ws_model cI cC cZ cR mo mo1 mo2 mo3 mo4 mo5 r3.1 le_ s_ r3.2 slo isv pad_)) hD hS hA [0, 1, 2, 3, 4, 5] rfl
      refine va_calli (va_runV (As := [.int a0, .int 7]) (rest := [.int a1, .int a0, .ref mo]) ⟨hx, hb, hml, hown, hts⟩ (m_X8_its l D cI cC cZ cR mo mo1 mo2 mo3 mo4 mo5 _ r3.1 le_ s_ r3.2 slo isv pad_ a0 7   r5 hcr5) (cwV 2 hts gX8_speed_X8_its rfl rfl rfl (by decide +kernel) ⟨Nat.le_of_ble_eq_true rfl, Nat.le_of_ble_eq_true rfl⟩) (cPc_pv hPc hK hDc (ci := 8) (q0 := 0) rfl rfl) rfl rfl hl.1 rfl (lv_room (Nat.le_of_ble_eq_true rfl)) dX8_speed_42 ⟨Nat.le_of_ble_eq_true rfl, Nat.le_of_ble_eq_true rfl⟩) hS (fun q _ h => hFc q h) hFc (fun xq u t H1 locs ht hvm hw hB hz1 hk1 hS => ?_)
      rw [hw]
      obtain ⟨hP1, hD1⟩ := hB
      rw [ht] at hP1
      obtain ⟨hP, hD⟩ := va_join (wr := []) (w1 := (ws_model cI cC cZ cR mo mo1 mo2 mo3 mo4 mo5 r3.1 le_ s_ r3.2 slo isv pad_)) hP hD [0, 1, 2, 3, 4, 5] [] rfl rfl (by decide) (by decide) hk1 hFc hP1 hD1
      generalize H1 = H at hP hS ⊢
      have hP : va_P D vwCl (ws_model cI cC cZ cR mo mo1 mo2 mo3 mo4 mo5 r3.1 le_ s_ r3.2 slo isv pad_) H := hP
      have hD : va_D A (ws_model cI cC cZ cR mo mo1 mo2 mo3 mo4 mo5 r3.1 le_ s_ r3.2 slo isv pad_) := hD
      obtain ⟨r6, hcr6, h⟩ := bn_sp h
      have hPc := hP.sub (ws' := (ws_model cI cC cZ cR mo mo1 mo2 mo3 mo4 mo5 r3.1 le_ s_ r3.2 slo isv pad_)) [0, 1, 2, 3, 4, 5] rfl
      have hDc := hD.sub (ws' := (ws_model cI cC cZ cR mo mo1 mo2 mo3 mo4 mo5 r3.1 le_ s_ r3.2 slo isv pad_)) [0, 1, 2, 3, 4, 5] (by decide) rfl
      have hFc := va_free (wc := (ws_model cI cC cZ cR mo mo1 mo2 mo3 mo4 mo5 r3.1 le_ s_ r3.2 slo isv pad_)) hD hS hA [0, 1, 2, 3, 4, 5] rfl
      refine va_callv (va_runV (As := [.int a0, .int a1, .int r5]) (rest := []) ⟨hx, hb, hml, hown, hts⟩ (m_X8_anew l D cI cC cZ cR mo mo1 mo2 mo3 mo4 mo5 _ r3.1 le_ s_ r3.2 slo isv pad_ a0 a1 r5   r6 hcr6) (cwV 3 hts gX8_speed_X8_anew rfl rfl rfl (by decide +kernel) ⟨Nat.le_of_ble_eq_true rfl, Nat.le_of_ble_eq_true rfl⟩) (cPc_pv hPc hK hDc (ci := 8) (q0 := 0) rfl rfl) rfl rfl hl.1 rfl (lv_room (Nat.le_of_ble_eq_true rfl)) dX8_speed_45 ⟨Nat.le_of_ble_eq_true rfl, Nat.le_of_ble_eq_true rfl⟩) hS (fun q _ h => hFc q h) hFc (fun u t H1 locs ht hvm hw hB hz1 hk1 hS => ?_)
      obtain ⟨hP1, hD1⟩ := hB
      rw [ht] at hP1
      obtain ⟨hP, hD⟩ := va_join (wr := []) (w1 := (ws_model cI cC cZ cR mo mo1 mo2 mo3 mo4 mo5 r3.1 le_ r6 r3.2 slo isv pad_)) hP hD [0, 1, 2, 3, 4, 5] [] rfl rfl (by decide) (by decide) hk1 hFc hP1 hD1
      generalize H1 = H at hP hS ⊢
      have hP : va_P D vwCl (ws_model cI cC cZ cR mo mo1 mo2 mo3 mo4 mo5 r3.1 le_ r6 r3.2 slo isv pad_) H := hP
      have hD : va_D A (ws_model cI cC cZ cR mo mo1 mo2 mo3 mo4 mo5 r3.1 le_ r6 r3.2 slo isv pad_) := hD
      refine lv_iload_n hx hb dX8_speed_48 rfl (lv_at hl 0 rfl) ?_
      refine lv_bipush (v := 100) hx hb dX8_speed_49 (by decide) ?_
      refine lv_iadd hx hb dX8_speed_51 ?_
      have e9 := Option.some.inj h
      subst e9
      rw [hQ]
      exact W.iret (v := r4 + 100) hx hb hr (fun t ht hW => ⟨⟨r4 + 100, (), rfl, rfl, by rw [ht]; exact hP, hD⟩, hS.F ht⟩) hS.2.2 dX8_speed_52
    · replace h := br_n (not_not_intro c7) h
      refine lv_bipush (v := (-2)) hx hb dX8_speed_21 (by decide) ?_
      have e9 := Option.some.inj h
      subst e9
      rw [hQ]
      exact W.iret (v := (-2)) hx hb hr (fun t ht hW => ⟨⟨(-2), (), rfl, rfl, by rw [ht]; exact hP, hD⟩, hS.F ht⟩) hS.2.2 dX8_speed_23
  · replace h := br_n (not_not_intro c8) h
    refine lv_iconst (v := (-1)) hx hb dX8_speed_8 (by decide) ?_
    have e9 := Option.some.inj h
    subst e9
    rw [hQ]
    exact W.iret (v := (-1)) hx hb hr (fun t ht hW => ⟨⟨(-1), (), rfl, rfl, by rw [ht]; exact hP, hD⟩, hS.F ht⟩) hS.2.2 dX8_speed_9
-- LeaningLinesModel.ride
abbrev OUT_X8_ride : Type := Int32 × Int32 × (Nat → Int32) × (Nat → Int32)
def f_X8_ride (kn : Int32) (s_ : Nat → Int32) (past : Nat → Int32) (a0 : Int32) (a1 : Int32) : Option OUT_X8_ride :=
  bn (f_X8_isThing s_ a0) (fun r1 => (if ¬ r1 = 0 then jn (fun (_ : Unit) => bn (f_X8_remembers kn s_ past) (fun r2 => bn (f_X8_its s_ a0 7) (fun r3 => bn (f_X8_its s_ a0 5) (fun r4 => jn (fun (j5 : Int32) => bn (f_X8_anew s_ a0 r4 j5) (fun r6 => (if 0 ≤ r3 then some ((r3, r2.1, r6, r2.2)) else some (((-6), r2.1, r6, r2.2))))) (fun j61 => (if ¬ a1 = (-6) then j61 a1 else j61 (-1))))))) (fun j30 => (if a1 = (-6) then j30 () else bn (f_X8_in a1 0 (a0 - 1)) (fun r9 => (if ¬ r9 = 0 then j30 () else some (((-2), kn, s_, past)))))) else some (((-1), kn, s_, past))))
abbrev R_X8_ride : Room := { frames := 3, cells := 0, slots := 0, locals := 70 }
set_option maxHeartbeats 4000000 in
set_option maxRecDepth 100000 in
theorem m_X8_ride (l : Launch) (D : va_G) (cI cC cZ cR : ClassId) (mo mo1 mo2 mo3 mo4 mo5 : Nat) (sz : Nat) (kn : Int32) (le_ : Int32) (s_ : Nat → Int32) (past : Nat → Int32) (slo : Nat → Int32) (isv : Nat → Int32) (pad_ : Nat → Int32)  (a0 : Int32) (a1 : Int32)   (r : OUT_X8_ride) (hf : f_X8_ride kn s_ past a0 a1 = some r) : Met l yX8_ride wsX8_ride R_X8_ride (cPc D cI cC cZ cR [.ref mo, .int a0, .int a1] sz (ws_model cI cC cZ cR mo mo1 mo2 mo3 mo4 mo5 kn le_ s_ past slo isv pad_)) (cQi D (ws_model cI cC cZ cR mo mo1 mo2 mo3 mo4 mo5 r.2.1 le_ r.2.2.1 r.2.2.2 slo isv pad_) (va_A (ws_model cI cC cZ cR mo mo1 mo2 mo3 mo4 mo5 kn le_ s_ past slo isv pad_) sz) r.1) 0 0 (va_A (ws_model cI cC cZ cR mo mo1 mo2 mo3 mo4 mo5 kn le_ s_ past slo isv pad_) sz) := by
  refine Met.ofW (cc := cX8_ride) (maxL := 4) (ret := (some .int)) (by decide) rfl ?_
  intro p e s m args below meth c s₁ B hml hv
  obtain ⟨rfl, hsz, hP, hK, hD0⟩ := hv
  have hx := B.exec
  have hb := B.bytes
  have hr := B.returns
  have hts := atoms_spec (ws := wsX8_ride) B.pre
  have hown : s.vm.findClass RX8 = some m.cls := findClass_of_methodNamed B.named
  have hlocks := B.notSynchronized
  subst hsz
  have hD := hD0.self (sz := s.heap.size)
  generalize hAe : va_A (ws_model cI cC cZ cR mo mo1 mo2 mo3 mo4 mo5 kn le_ s_ past slo isv pad_) s.heap.size = A at hD ⊢
  skip
  have hA : ∀ q : Nat, s.heap.size ≤ q → A q := fun q h => by rw [← hAe]; exact Or.inr h
  have hS : va_S A s.heap s.heap [] := va_S.rf
  have hl := lv_entry ([.ref mo, .int a0, .int a1]) (n := 4) (Nat.le_of_ble_eq_true rfl)
  rw [lg_entry_eq]
  generalize (lg_sl ([.ref mo, .int a0, .int a1]) ++ List.replicate (4 - (lg_sl ([.ref mo, .int a0, .int a1])).length) Slot.unset).toArray = ls at hl ⊢
  have hl : lv_has ls 4 [(0, .ref mo), (1, .int a0), (2, .int a1)] := hl
  refine W_absQ (fun Q hQ => ?_)
  refine W.eq (g2 := F0 m 0 ls []) rfl ?_
  have h := hf
  unfold f_X8_ride at h
  refine lv_aload_n hx hb dX8_ride_0 rfl (lv_at hl 0 rfl) ?_
  refine lv_iload_n hx hb dX8_ride_1 rfl (lv_at hl 1 rfl) ?_
  obtain ⟨r1, hcr1, h⟩ := bn_sp h
  have hPc := hP.sub (ws' := (ws_model cI cC cZ cR mo mo1 mo2 mo3 mo4 mo5 kn le_ s_ past slo isv pad_)) [0, 1, 2, 3, 4, 5] rfl
  have hDc := hD.sub (ws' := (ws_model cI cC cZ cR mo mo1 mo2 mo3 mo4 mo5 kn le_ s_ past slo isv pad_)) [0, 1, 2, 3, 4, 5] (by decide) rfl
  have hFc := va_free (wc := (ws_model cI cC cZ cR mo mo1 mo2 mo3 mo4 mo5 kn le_ s_ past slo isv pad_)) hD hS hA [0, 1, 2, 3, 4, 5] rfl
  refine va_calli (va_runV (As := [.int a0]) (rest := []) ⟨hx, hb, hml, hown, hts⟩ (m_X8_isThing l D cI cC cZ cR mo mo1 mo2 mo3 mo4 mo5 _ kn le_ s_ past slo isv pad_ a0   r1 hcr1) (cwV 1 hts gX8_ride_X8_isThing rfl rfl rfl (by decide +kernel) ⟨Nat.le_of_ble_eq_true rfl, Nat.le_of_ble_eq_true rfl⟩) (cPc_pv hPc hK hDc (ci := 8) (q0 := 0) rfl rfl) rfl rfl hl.1 rfl (lv_room (Nat.le_of_ble_eq_true rfl)) dX8_ride_2 ⟨Nat.le_of_ble_eq_true rfl, Nat.le_of_ble_eq_true rfl⟩) hS (fun q _ h => hFc q h) hFc (fun xq u t H1 locs ht hvm hw hB hz1 hk1 hS => ?_)
  rw [hw]
  obtain ⟨hP1, hD1⟩ := hB
  rw [ht] at hP1
  obtain ⟨hP, hD⟩ := va_join (wr := []) (w1 := (ws_model cI cC cZ cR mo mo1 mo2 mo3 mo4 mo5 kn le_ s_ past slo isv pad_)) hP hD [0, 1, 2, 3, 4, 5] [] rfl rfl (by decide) (by decide) hk1 hFc hP1 hD1
  generalize H1 = H at hP hS ⊢
  have hP : va_P D vwCl (ws_model cI cC cZ cR mo mo1 mo2 mo3 mo4 mo5 kn le_ s_ past slo isv pad_) H := hP
  have hD : va_D A (ws_model cI cC cZ cR mo mo1 mo2 mo3 mo4 mo5 kn le_ s_ past slo isv pad_) := hD
  refine lv_if_ne (tgt := 10) hx hb dX8_ride_5 (by decide) (fun c12 => ?_) (fun c12 => ?_)
  · replace h := br_p c12 h
    refine lv_iload_n hx hb dX8_ride_10 rfl (lv_at hl 2 rfl) ?_
    refine lv_bipush (v := (-6)) hx hb dX8_ride_11 (by decide) ?_
    obtain ⟨j30, hj30, h⟩ := jn_sp h
    have J30 : ∀ (_u : Unit) (H : Heap) (locs : List Loc) (ls : Array Slot), j30 _u = some r → va_P D vwCl (ws_model cI cC cZ cR mo mo1 mo2 mo3 mo4 mo5 kn le_ s_ past slo isv pad_) H → va_D A (ws_model cI cC cZ cR mo mo1 mo2 mo3 mo4 mo5 kn le_ s_ past slo isv pad_) → va_S A s.heap H locs → lv_has ls 4 [(0, .ref mo), (1, .int a0), (2, .int a1)] → W p l e R_X8_ride s m ([.ref mo, .int a0, .int a1] : List Value).toArray below meth c H locs 0 0 Q (F0 m 30 ls []) := by
      intro _u H locs ls h hP hD hS hl
      rw [hj30] at h
      refine lv_aload_n hx hb dX8_ride_30 rfl (lv_at hl 0 rfl) ?_
      obtain ⟨r2, hcr2, h⟩ := bn_sp h
      have hPc := hP.sub (ws' := (ws_model cI cC cZ cR mo mo1 mo2 mo3 mo4 mo5 kn le_ s_ past slo isv pad_)) [0, 1, 2, 3, 4, 5] rfl
      have hDc := hD.sub (ws' := (ws_model cI cC cZ cR mo mo1 mo2 mo3 mo4 mo5 kn le_ s_ past slo isv pad_)) [0, 1, 2, 3, 4, 5] (by decide) rfl
      have hFc := va_free (wc := (ws_model cI cC cZ cR mo mo1 mo2 mo3 mo4 mo5 kn le_ s_ past slo isv pad_)) hD hS hA [0, 1, 2, 3, 4, 5] rfl
      refine va_callv (va_runV (As := []) (rest := []) ⟨hx, hb, hml, hown, hts⟩ (m_X8_remembers l D cI cC cZ cR mo mo1 mo2 mo3 mo4 mo5 _ kn le_ s_ past slo isv pad_    r2 hcr2) (cwV 0 hts gX8_ride_X8_remembers rfl rfl rfl (by decide +kernel) ⟨Nat.le_of_ble_eq_true rfl, Nat.le_of_ble_eq_true rfl⟩) (cPc_pv hPc hK hDc (ci := 8) (q0 := 0) rfl rfl) rfl rfl hl.1 rfl (lv_room (Nat.le_of_ble_eq_true rfl)) dX8_ride_31 ⟨Nat.le_of_ble_eq_true rfl, Nat.le_of_ble_eq_true rfl⟩) hS (fun q _ h => hFc q h) hFc (fun u t H1 locs ht hvm hw hB hz1 hk1 hS => ?_)
      obtain ⟨hP1, hD1⟩ := hB
      rw [ht] at hP1
      obtain ⟨hP, hD⟩ := va_join (wr := []) (w1 := (ws_model cI cC cZ cR mo mo1 mo2 mo3 mo4 mo5 r2.1 le_ s_ r2.2 slo isv pad_)) hP hD [0, 1, 2, 3, 4, 5] [] rfl rfl (by decide) (by decide) hk1 hFc hP1 hD1
      generalize H1 = H at hP hS ⊢
      have hP : va_P D vwCl (ws_model cI cC cZ cR mo mo1 mo2 mo3 mo4 mo5 r2.1 le_ s_ r2.2 slo isv pad_) H := hP
      have hD : va_D A (ws_model cI cC cZ cR mo mo1 mo2 mo3 mo4 mo5 r2.1 le_ s_ r2.2 slo isv pad_) := hD
      refine lv_aload_n hx hb dX8_ride_34 rfl (lv_at hl 0 rfl) ?_
      refine lv_iload_n hx hb dX8_ride_35 rfl (lv_at hl 1 rfl) ?_
      refine lv_bipush (v := 7) hx hb dX8_ride_36 (by decide) ?_
      obtain ⟨r3, hcr3, h⟩ := bn_sp h
      have hPc := hP.sub (ws' := (ws_model cI cC cZ cR mo mo1 mo2 mo3 mo4 mo5 r2.1 le_ s_ r2.2 slo isv pad_)) [0, 1, 2, 3, 4, 5] rfl
      have hDc := hD.sub (ws' := (ws_model cI cC cZ cR mo mo1 mo2 mo3 mo4 mo5 r2.1 le_ s_ r2.2 slo isv pad_)) [0, 1, 2, 3, 4, 5] (by decide) rfl
      have hFc := va_free (wc := (ws_model cI cC cZ cR mo mo1 mo2 mo3 mo4 mo5 r2.1 le_ s_ r2.2 slo isv pad_)) hD hS hA [0, 1, 2, 3, 4, 5] rfl
      refine va_calli (va_runV (As := [.int a0, .int 7]) (rest := []) ⟨hx, hb, hml, hown, hts⟩ (m_X8_its l D cI cC cZ cR mo mo1 mo2 mo3 mo4 mo5 _ r2.1 le_ s_ r2.2 slo isv pad_ a0 7   r3 hcr3) (cwV 2 hts gX8_ride_X8_its rfl rfl rfl (by decide +kernel) ⟨Nat.le_of_ble_eq_true rfl, Nat.le_of_ble_eq_true rfl⟩) (cPc_pv hPc hK hDc (ci := 8) (q0 := 0) rfl rfl) rfl rfl hl.1 rfl (lv_room (Nat.le_of_ble_eq_true rfl)) dX8_ride_38 ⟨Nat.le_of_ble_eq_true rfl, Nat.le_of_ble_eq_true rfl⟩) hS (fun q _ h => hFc q h) hFc (fun xq u t H1 locs ht hvm hw hB hz1 hk1 hS => ?_)
      rw [hw]
      obtain ⟨hP1, hD1⟩ := hB
      rw [ht] at hP1
      obtain ⟨hP, hD⟩ := va_join (wr := []) (w1 := (ws_model cI cC cZ cR mo mo1 mo2 mo3 mo4 mo5 r2.1 le_ s_ r2.2 slo isv pad_)) hP hD [0, 1, 2, 3, 4, 5] [] rfl rfl (by decide) (by decide) hk1 hFc hP1 hD1
      generalize H1 = H at hP hS ⊢
      have hP : va_P D vwCl (ws_model cI cC cZ cR mo mo1 mo2 mo3 mo4 mo5 r2.1 le_ s_ r2.2 slo isv pad_) H := hP
      have hD : va_D A (ws_model cI cC cZ cR mo mo1 mo2 mo3 mo4 mo5 r2.1 le_ s_ r2.2 slo isv pad_) := hD
      refine lv_istore_n (lv' := [(3, .int r3), (0, .ref mo), (1, .int a0), (2, .int a1)]) hx hb dX8_ride_41 rfl hl (by decide) rfl (fun ls hl => ?_)
      refine lv_aload_n hx hb dX8_ride_42 rfl (lv_at hl 1 rfl) ?_
      refine lv_iload_n hx hb dX8_ride_43 rfl (lv_at hl 2 rfl) ?_
      refine lv_aload_n hx hb dX8_ride_44 rfl (lv_at hl 1 rfl) ?_
      refine lv_iload_n hx hb dX8_ride_45 rfl (lv_at hl 2 rfl) ?_
      refine lv_iconst (v := 5) hx hb dX8_ride_46 (by decide) ?_
      obtain ⟨r4, hcr4, h⟩ := bn_sp h
      have hPc := hP.sub (ws' := (ws_model cI cC cZ cR mo mo1 mo2 mo3 mo4 mo5 r2.1 le_ s_ r2.2 slo isv pad_)) [0, 1, 2, 3, 4, 5] rfl
      have hDc := hD.sub (ws' := (ws_model cI cC cZ cR mo mo1 mo2 mo3 mo4 mo5 r2.1 le_ s_ r2.2 slo isv pad_)) [0, 1, 2, 3, 4, 5] (by decide) rfl
      have hFc := va_free (wc := (ws_model cI cC cZ cR mo mo1 mo2 mo3 mo4 mo5 r2.1 le_ s_ r2.2 slo isv pad_)) hD hS hA [0, 1, 2, 3, 4, 5] rfl
      refine va_calli (va_runV (As := [.int a0, .int 5]) (rest := [.int a0, .ref mo]) ⟨hx, hb, hml, hown, hts⟩ (m_X8_its l D cI cC cZ cR mo mo1 mo2 mo3 mo4 mo5 _ r2.1 le_ s_ r2.2 slo isv pad_ a0 5   r4 hcr4) (cwV 2 hts gX8_ride_X8_its rfl rfl rfl (by decide +kernel) ⟨Nat.le_of_ble_eq_true rfl, Nat.le_of_ble_eq_true rfl⟩) (cPc_pv hPc hK hDc (ci := 8) (q0 := 0) rfl rfl) rfl rfl hl.1 rfl (lv_room (Nat.le_of_ble_eq_true rfl)) dX8_ride_47 ⟨Nat.le_of_ble_eq_true rfl, Nat.le_of_ble_eq_true rfl⟩) hS (fun q _ h => hFc q h) hFc (fun xq u t H1 locs ht hvm hw hB hz1 hk1 hS => ?_)
      rw [hw]
      obtain ⟨hP1, hD1⟩ := hB
      rw [ht] at hP1
      obtain ⟨hP, hD⟩ := va_join (wr := []) (w1 := (ws_model cI cC cZ cR mo mo1 mo2 mo3 mo4 mo5 r2.1 le_ s_ r2.2 slo isv pad_)) hP hD [0, 1, 2, 3, 4, 5] [] rfl rfl (by decide) (by decide) hk1 hFc hP1 hD1
      generalize H1 = H at hP hS ⊢
      have hP : va_P D vwCl (ws_model cI cC cZ cR mo mo1 mo2 mo3 mo4 mo5 r2.1 le_ s_ r2.2 slo isv pad_) H := hP
      have hD : va_D A (ws_model cI cC cZ cR mo mo1 mo2 mo3 mo4 mo5 r2.1 le_ s_ r2.2 slo isv pad_) := hD
      refine lv_iload_n hx hb dX8_ride_50 rfl (lv_at hl 3 rfl) ?_
      refine lv_bipush (v := (-6)) hx hb dX8_ride_51 (by decide) ?_
      obtain ⟨j61, hj61, h⟩ := jn_sp h
      have J61 : ∀ (j5 : Int32) (H : Heap) (locs : List Loc) (ls : Array Slot), j61 j5 = some r → va_P D vwCl (ws_model cI cC cZ cR mo mo1 mo2 mo3 mo4 mo5 r2.1 le_ s_ r2.2 slo isv pad_) H → va_D A (ws_model cI cC cZ cR mo mo1 mo2 mo3 mo4 mo5 r2.1 le_ s_ r2.2 slo isv pad_) → va_S A s.heap H locs → lv_has ls 4 [(0, .ref mo), (1, .int a0), (2, .int a1), (3, .int r3)] → W p l e R_X8_ride s m ([.ref mo, .int a0, .int a1] : List Value).toArray below meth c H locs 0 0 Q (F0 m 61 ls [.int j5, .int r4, .int a0, .ref mo]) := by
        intro j5 H locs ls h hP hD hS hl
        rw [hj61] at h
        obtain ⟨r6, hcr6, h⟩ := bn_sp h
        have hPc := hP.sub (ws' := (ws_model cI cC cZ cR mo mo1 mo2 mo3 mo4 mo5 r2.1 le_ s_ r2.2 slo isv pad_)) [0, 1, 2, 3, 4, 5] rfl
        have hDc := hD.sub (ws' := (ws_model cI cC cZ cR mo mo1 mo2 mo3 mo4 mo5 r2.1 le_ s_ r2.2 slo isv pad_)) [0, 1, 2, 3, 4, 5] (by decide) rfl
        have hFc := va_free (wc := (ws_model cI cC cZ cR mo mo1 mo2 mo3 mo4 mo5 r2.1 le_ s_ r2.2 slo isv pad_)) hD hS hA [0, 1, 2, 3, 4, 5] rfl
        refine va_callv (va_runV (As := [.int a0, .int r4, .int j5]) (rest := []) ⟨hx, hb, hml, hown, hts⟩ (m_X8_anew l D cI cC cZ cR mo mo1 mo2 mo3 mo4 mo5 _ r2.1 le_ s_ r2.2 slo isv pad_ a0 r4 j5   r6 hcr6) (cwV 3 hts gX8_ride_X8_anew rfl rfl rfl (by decide +kernel) ⟨Nat.le_of_ble_eq_true rfl, Nat.le_of_ble_eq_true rfl⟩) (cPc_pv hPc hK hDc (ci := 8) (q0 := 0) rfl rfl) rfl rfl hl.1 rfl (lv_room (Nat.le_of_ble_eq_true rfl)) dX8_ride_61 ⟨Nat.le_of_ble_eq_true rfl, Nat.le_of_ble_eq_true rfl⟩) hS (fun q _ h => hFc q h) hFc (fun u t H1 locs ht hvm hw hB hz1 hk1 hS => ?_)
        obtain ⟨hP1, hD1⟩ := hB
        rw [ht] at hP1
        obtain ⟨hP, hD⟩ := va_join (wr := []) (w1 := (ws_model cI cC cZ cR mo mo1 mo2 mo3 mo4 mo5 r2.1 le_ r6 r2.2 slo isv pad_)) hP hD [0, 1, 2, 3, 4, 5] [] rfl rfl (by decide) (by decide) hk1 hFc hP1 hD1
        generalize H1 = H at hP hS ⊢
        have hP : va_P D vwCl (ws_model cI cC cZ cR mo mo1 mo2 mo3 mo4 mo5 r2.1 le_ r6 r2.2 slo isv pad_) H := hP
        have hD : va_D A (ws_model cI cC cZ cR mo mo1 mo2 mo3 mo4 mo5 r2.1 le_ r6 r2.2 slo isv pad_) := hD
        refine lv_iload_n hx hb dX8_ride_64 rfl (lv_at hl 3 rfl) ?_
        refine lv_if_ge (tgt := 73) hx hb dX8_ride_65 (by decide) (fun c7 => ?_) (fun c7 => ?_)
        · replace h := br_p c7 h
          refine lv_iload_n hx hb dX8_ride_73 rfl (lv_at hl 3 rfl) ?_
          have e9 := Option.some.inj h
          subst e9
          rw [hQ]
          exact W.iret (v := r3) hx hb hr (fun t ht hW => ⟨⟨r3, (), rfl, rfl, by rw [ht]; exact hP, hD⟩, hS.F ht⟩) hS.2.2 dX8_ride_74
        · replace h := br_n c7 h
          refine lv_bipush (v := (-6)) hx hb dX8_ride_68 (by decide) ?_
          refine lv_goto (tgt := 74) hx hb dX8_ride_70 (by decide) ?_
          have e9 := Option.some.inj h
          subst e9
          rw [hQ]
          exact W.iret (v := (-6)) hx hb hr (fun t ht hW => ⟨⟨(-6), (), rfl, rfl, by rw [ht]; exact hP, hD⟩, hS.F ht⟩) hS.2.2 dX8_ride_74
      refine lv_icmp_ne (tgt := 60) hx hb dX8_ride_53 (by decide) (fun c8 => ?_) (fun c8 => ?_)
      · replace h := br_p c8 h
        refine lv_iload_n hx hb dX8_ride_60 rfl (lv_at hl 3 rfl) ?_
        exact J61 _ _ _ _ h hP hD hS (lv_sub hl [1, 2, 3, 0] rfl)
      · replace h := br_n (not_not_intro c8) h
        refine lv_iconst (v := (-1)) hx hb dX8_ride_56 (by decide) ?_
        refine lv_goto (tgt := 61) hx hb dX8_ride_57 (by decide) ?_
        exact J61 _ _ _ _ h hP hD hS (lv_sub hl [1, 2, 3, 0] rfl)
    refine lv_icmp_eq (tgt := 30) hx hb dX8_ride_13 (by decide) (fun c11 => ?_) (fun c11 => ?_)
    · replace h := br_p c11 h
      exact J30 _ _ _ _ h hP hD hS (lv_sub hl [0, 1, 2] rfl)
    · replace h := br_n c11 h
      refine lv_iload_n hx hb dX8_ride_16 rfl (lv_at hl 2 rfl) ?_
      refine lv_iconst (v := 0) hx hb dX8_ride_17 (by decide) ?_
      refine lv_iload_n hx hb dX8_ride_18 rfl (lv_at hl 1 rfl) ?_
      refine lv_iconst (v := 1) hx hb dX8_ride_19 (by decide) ?_
      refine lv_isub hx hb dX8_ride_20 ?_
      obtain ⟨r9, hcr9, h⟩ := bn_sp h
      have hPc := hP.sub (ws' := []) [] rfl
      have hDc := hD.sub (ws' := []) [] (by decide) rfl
      have hFc := va_free (wc := []) hD hS hA [] rfl
      refine va_calli (va_runS (As := [.int a1, .int 0, .int (a0 - 1)]) (rest := []) ⟨hx, hb, hml, hown, hts⟩ (m_X8_in l D cI cC cZ cR  _  a1 0 (a0 - 1)   r9 hcr9) (va_cwS 3 hts gX8_ride_X8_in rfl rfl rfl (by decide +kernel) ⟨Nat.le_of_ble_eq_true rfl, Nat.le_of_ble_eq_true rfl⟩) (cPc_ps hPc hK hDc) rfl rfl hl.1 rfl (lv_room (Nat.le_of_ble_eq_true rfl)) dX8_ride_21 ⟨Nat.le_of_ble_eq_true rfl, Nat.le_of_ble_eq_true rfl⟩) hS (fun q _ h => hFc q h) hFc (fun xq u t H1 locs ht hvm hw hB hz1 hk1 hS => ?_)
      rw [hw]
      obtain ⟨hP1, hD1⟩ := hB
      rw [ht] at hP1
      obtain ⟨hP, hD⟩ := va_join (wr := [(mo, .inr (8, [.ref mo1, .ref mo2, .int kn, .ref mo3, .ref mo4, .ref mo5, .int le_])), (mo1, .inl (cI, 465, .inl s_)), (mo2, .inl (cI, 2790, .inl past)), (mo3, .inl (cI, 930, .inl slo)), (mo4, .inl (cZ, 2, .inl isv)), (mo5, .inl (cI, 80, .inl pad_))]) (w1 := []) hP hD [] [0, 1, 2, 3, 4, 5] rfl rfl (by decide) (by decide) hk1 hFc hP1 hD1
      generalize H1 = H at hP hS ⊢
      have hP : va_P D vwCl (ws_model cI cC cZ cR mo mo1 mo2 mo3 mo4 mo5 kn le_ s_ past slo isv pad_) H := hP
      have hD : va_D A (ws_model cI cC cZ cR mo mo1 mo2 mo3 mo4 mo5 kn le_ s_ past slo isv pad_) := hD
      refine lv_if_ne (tgt := 30) hx hb dX8_ride_24 (by decide) (fun c10 => ?_) (fun c10 => ?_)
      · replace h := br_p c10 h
        exact J30 _ _ _ _ h hP hD hS (lv_sub hl [0, 1, 2] rfl)
      · replace h := br_n (not_not_intro c10) h
        refine lv_bipush (v := (-2)) hx hb dX8_ride_27 (by decide) ?_
        have e9 := Option.some.inj h
        subst e9
        rw [hQ]
        exact W.iret (v := (-2)) hx hb hr (fun t ht hW => ⟨⟨(-2), (), rfl, rfl, by rw [ht]; exact hP, hD⟩, hS.F ht⟩) hS.2.2 dX8_ride_29
  · replace h := br_n (not_not_intro c12) h
    refine lv_iconst (v := (-1)) hx hb dX8_ride_8 (by decide) ?_
    have e9 := Option.some.inj h
    subst e9
    rw [hQ]
    exact W.iret (v := (-1)) hx hb hr (fun t ht hW => ⟨⟨(-1), (), rfl, rfl, by rw [ht]; exact hP, hD⟩, hS.F ht⟩) hS.2.2 dX8_ride_9
-- LeaningLinesModel.flash
abbrev OUT_X8_flash : Type := Int32 × Int32 × (Nat → Int32) × (Nat → Int32)
def f_X8_flash (kn : Int32) (s_ : Nat → Int32) (past : Nat → Int32) (a0 : Int32) (a1 : Int32) : Option OUT_X8_flash :=
  bn (f_X8_isFlash a0 a1) (fun r1 => (if ¬ r1 = 0 then bn (f_X8_remembers kn s_ past) (fun r2 => bn (f_X8_flashes s_ a0 a1) (fun r3 => some ((r3.1, r2.1, r3.2, r2.2)))) else some (((-2), kn, s_, past))))
abbrev R_X8_flash : Room := { frames := 2, cells := 0, slots := 0, locals := 43 }
set_option maxHeartbeats 4000000 in
set_option maxRecDepth 100000 in
theorem m_X8_flash (l : Launch) (D : va_G) (cI cC cZ cR : ClassId) (mo mo1 mo2 mo3 mo4 mo5 : Nat) (sz : Nat) (kn : Int32) (le_ : Int32) (s_ : Nat → Int32) (past : Nat → Int32) (slo : Nat → Int32) (isv : Nat → Int32) (pad_ : Nat → Int32)  (a0 : Int32) (a1 : Int32)   (r : OUT_X8_flash) (hf : f_X8_flash kn s_ past a0 a1 = some r) : Met l yX8_flash wsX8_flash R_X8_flash (cPc D cI cC cZ cR [.ref mo, .int a0, .int a1] sz (ws_model cI cC cZ cR mo mo1 mo2 mo3 mo4 mo5 kn le_ s_ past slo isv pad_)) (cQi D (ws_model cI cC cZ cR mo mo1 mo2 mo3 mo4 mo5 r.2.1 le_ r.2.2.1 r.2.2.2 slo isv pad_) (va_A (ws_model cI cC cZ cR mo mo1 mo2 mo3 mo4 mo5 kn le_ s_ past slo isv pad_) sz) r.1) 0 0 (va_A (ws_model cI cC cZ cR mo mo1 mo2 mo3 mo4 mo5 kn le_ s_ past slo isv pad_) sz) := by
  refine Met.ofW (cc := cX8_flash) (maxL := 3) (ret := (some .int)) (by decide) rfl ?_
  intro p e s m args below meth c s₁ B hml hv
  obtain ⟨rfl, hsz, hP, hK, hD0⟩ := hv
  have hx := B.exec
  have hb := B.bytes
  have hr := B.returns
  have hts := atoms_spec (ws := wsX8_flash) B.pre
  have hown : s.vm.findClass RX8 = some m.cls := findClass_of_methodNamed B.named
  have hlocks := B.notSynchronized
  subst hsz
  have hD := hD0.self (sz := s.heap.size)
  generalize hAe : va_A (ws_model cI cC cZ cR mo mo1 mo2 mo3 mo4 mo5 kn le_ s_ past slo isv pad_) s.heap.size = A at hD ⊢
  skip
  have hA : ∀ q : Nat, s.heap.size ≤ q → A q := fun q h => by rw [← hAe]; exact Or.inr h
  have hS : va_S A s.heap s.heap [] := va_S.rf
  have hl := lv_entry ([.ref mo, .int a0, .int a1]) (n := 3) (Nat.le_of_ble_eq_true rfl)
  rw [lg_entry_eq]
  generalize (lg_sl ([.ref mo, .int a0, .int a1]) ++ List.replicate (3 - (lg_sl ([.ref mo, .int a0, .int a1])).length) Slot.unset).toArray = ls at hl ⊢
  have hl : lv_has ls 3 [(0, .ref mo), (1, .int a0), (2, .int a1)] := hl
  refine W_absQ (fun Q hQ => ?_)
  refine W.eq (g2 := F0 m 0 ls []) rfl ?_
  have h := hf
  unfold f_X8_flash at h
  refine lv_iload_n hx hb dX8_flash_0 rfl (lv_at hl 1 rfl) ?_
  refine lv_iload_n hx hb dX8_flash_1 rfl (lv_at hl 2 rfl) ?_
  obtain ⟨r1, hcr1, h⟩ := bn_sp h
  have hPc := hP.sub (ws' := []) [] rfl
  have hDc := hD.sub (ws' := []) [] (by decide) rfl
  have hFc := va_free (wc := []) hD hS hA [] rfl
  refine va_calli (va_runS (As := [.int a0, .int a1]) (rest := []) ⟨hx, hb, hml, hown, hts⟩ (m_X8_isFlash l D cI cC cZ cR  _  a0 a1   r1 hcr1) (va_cwS 2 hts gX8_flash_X8_isFlash rfl rfl rfl (by decide +kernel) ⟨Nat.le_of_ble_eq_true rfl, Nat.le_of_ble_eq_true rfl⟩) (cPc_ps hPc hK hDc) rfl rfl hl.1 rfl (lv_room (Nat.le_of_ble_eq_true rfl)) dX8_flash_2 ⟨Nat.le_of_ble_eq_true rfl, Nat.le_of_ble_eq_true rfl⟩) hS (fun q _ h => hFc q h) hFc (fun xq u t H1 locs ht hvm hw hB hz1 hk1 hS => ?_)
  rw [hw]
  obtain ⟨hP1, hD1⟩ := hB
  rw [ht] at hP1
  obtain ⟨hP, hD⟩ := va_join (wr := [(mo, .inr (8, [.ref mo1, .ref mo2, .int kn, .ref mo3, .ref mo4, .ref mo5, .int le_])), (mo1, .inl (cI, 465, .inl s_)), (mo2, .inl (cI, 2790, .inl past)), (mo3, .inl (cI, 930, .inl slo)), (mo4, .inl (cZ, 2, .inl isv)), (mo5, .inl (cI, 80, .inl pad_))]) (w1 := []) hP hD [] [0, 1, 2, 3, 4, 5] rfl rfl (by decide) (by decide) hk1 hFc hP1 hD1
  generalize H1 = H at hP hS ⊢
  have hP : va_P D vwCl (ws_model cI cC cZ cR mo mo1 mo2 mo3 mo4 mo5 kn le_ s_ past slo isv pad_) H := hP
  have hD : va_D A (ws_model cI cC cZ cR mo mo1 mo2 mo3 mo4 mo5 kn le_ s_ past slo isv pad_) := hD
  refine lv_if_ne (tgt := 11) hx hb dX8_flash_5 (by decide) (fun c4 => ?_) (fun c4 => ?_)
  · replace h := br_p c4 h
    refine lv_aload_n hx hb dX8_flash_11 rfl (lv_at hl 0 rfl) ?_
    obtain ⟨r2, hcr2, h⟩ := bn_sp h
    have hPc := hP.sub (ws' := (ws_model cI cC cZ cR mo mo1 mo2 mo3 mo4 mo5 kn le_ s_ past slo isv pad_)) [0, 1, 2, 3, 4, 5] rfl
    have hDc := hD.sub (ws' := (ws_model cI cC cZ cR mo mo1 mo2 mo3 mo4 mo5 kn le_ s_ past slo isv pad_)) [0, 1, 2, 3, 4, 5] (by decide) rfl
    have hFc := va_free (wc := (ws_model cI cC cZ cR mo mo1 mo2 mo3 mo4 mo5 kn le_ s_ past slo isv pad_)) hD hS hA [0, 1, 2, 3, 4, 5] rfl
    refine va_callv (va_runV (As := []) (rest := []) ⟨hx, hb, hml, hown, hts⟩ (m_X8_remembers l D cI cC cZ cR mo mo1 mo2 mo3 mo4 mo5 _ kn le_ s_ past slo isv pad_    r2 hcr2) (cwV 0 hts gX8_flash_X8_remembers rfl rfl rfl (by decide +kernel) ⟨Nat.le_of_ble_eq_true rfl, Nat.le_of_ble_eq_true rfl⟩) (cPc_pv hPc hK hDc (ci := 8) (q0 := 0) rfl rfl) rfl rfl hl.1 rfl (lv_room (Nat.le_of_ble_eq_true rfl)) dX8_flash_12 ⟨Nat.le_of_ble_eq_true rfl, Nat.le_of_ble_eq_true rfl⟩) hS (fun q _ h => hFc q h) hFc (fun u t H1 locs ht hvm hw hB hz1 hk1 hS => ?_)
    obtain ⟨hP1, hD1⟩ := hB
    rw [ht] at hP1
    obtain ⟨hP, hD⟩ := va_join (wr := []) (w1 := (ws_model cI cC cZ cR mo mo1 mo2 mo3 mo4 mo5 r2.1 le_ s_ r2.2 slo isv pad_)) hP hD [0, 1, 2, 3, 4, 5] [] rfl rfl (by decide) (by decide) hk1 hFc hP1 hD1
    generalize H1 = H at hP hS ⊢
    have hP : va_P D vwCl (ws_model cI cC cZ cR mo mo1 mo2 mo3 mo4 mo5 r2.1 le_ s_ r2.2 slo isv pad_) H := hP
    have hD : va_D A (ws_model cI cC cZ cR mo mo1 mo2 mo3 mo4 mo5 r2.1 le_ s_ r2.2 slo isv pad_) := hD
    refine lv_aload_n hx hb dX8_flash_15 rfl (lv_at hl 0 rfl) ?_
    refine lv_iload_n hx hb dX8_flash_16 rfl (lv_at hl 1 rfl) ?_
    refine lv_iload_n hx hb dX8_flash_17 rfl (lv_at hl 2 rfl) ?_
    obtain ⟨r3, hcr3, h⟩ := bn_sp h
    have hPc := hP.sub (ws' := (ws_model cI cC cZ cR mo mo1 mo2 mo3 mo4 mo5 r2.1 le_ s_ r2.2 slo isv pad_)) [0, 1, 2, 3, 4, 5] rfl
    have hDc := hD.sub (ws' := (ws_model cI cC cZ cR mo mo1 mo2 mo3 mo4 mo5 r2.1 le_ s_ r2.2 slo isv pad_)) [0, 1, 2, 3, 4, 5] (by decide) rfl
    have hFc := va_free (wc := (ws_model cI cC cZ cR mo mo1 mo2 mo3 mo4 mo5 r2.1 le_ s_ r2.2 slo isv pad_)) hD hS hA [0, 1, 2, 3, 4, 5] rfl
    refine va_calli (va_runV (As := [.int a0, .int a1]) (rest := []) ⟨hx, hb, hml, hown, hts⟩ (m_X8_flashes l D cI cC cZ cR mo mo1 mo2 mo3 mo4 mo5 _ r2.1 le_ s_ r2.2 slo isv pad_ a0 a1   r3 hcr3) (cwV 2 hts gX8_flash_X8_flashes rfl rfl rfl (by decide +kernel) ⟨Nat.le_of_ble_eq_true rfl, Nat.le_of_ble_eq_true rfl⟩) (cPc_pv hPc hK hDc (ci := 8) (q0 := 0) rfl rfl) rfl rfl hl.1 rfl (lv_room (Nat.le_of_ble_eq_true rfl)) dX8_flash_18 ⟨Nat.le_of_ble_eq_true rfl, Nat.le_of_ble_eq_true rfl⟩) hS (fun q _ h => hFc q h) hFc (fun xq u t H1 locs ht hvm hw hB hz1 hk1 hS => ?_)
    rw [hw]
    obtain ⟨hP1, hD1⟩ := hB
    rw [ht] at hP1
    obtain ⟨hP, hD⟩ := va_join (wr := []) (w1 := (ws_model cI cC cZ cR mo mo1 mo2 mo3 mo4 mo5 r2.1 le_ r3.2 r2.2 slo isv pad_)) hP hD [0, 1, 2, 3, 4, 5] [] rfl rfl (by decide) (by decide) hk1 hFc hP1 hD1
    generalize H1 = H at hP hS ⊢
    have hP : va_P D vwCl (ws_model cI cC cZ cR mo mo1 mo2 mo3 mo4 mo5 r2.1 le_ r3.2 r2.2 slo isv pad_) H := hP
    have hD : va_D A (ws_model cI cC cZ cR mo mo1 mo2 mo3 mo4 mo5 r2.1 le_ r3.2 r2.2 slo isv pad_) := hD
    have e9 := Option.some.inj h
    subst e9
    rw [hQ]
    exact W.iret (v := r3.1) hx hb hr (fun t ht hW => ⟨⟨r3.1, (), rfl, rfl, by rw [ht]; exact hP, hD⟩, hS.F ht⟩) hS.2.2 dX8_flash_21
  · replace h := br_n (not_not_intro c4) h
    refine lv_bipush (v := (-2)) hx hb dX8_flash_8 (by decide) ?_
    have e9 := Option.some.inj h
    subst e9
    rw [hQ]
    exact W.iret (v := (-2)) hx hb hr (fun t ht hW => ⟨⟨(-2), (), rfl, rfl, by rw [ht]; exact hP, hD⟩, hS.F ht⟩) hS.2.2 dX8_flash_10
-- LeaningLinesModel.pass
abbrev OUT_X8_pass : Type := Int32 × Int32 × (Nat → Int32) × (Nat → Int32)
def f_X8_pass (kn : Int32) (s_ : Nat → Int32) (past : Nat → Int32) (a0 : Int32) : Option OUT_X8_pass :=
  bn (f_X8_whyNotPass s_ a0) (fun r1 => (if 0 ≤ r1 then bn (f_X8_remembers kn s_ past) (fun r2 => gd 4 465 (gd 4 465 (gd 4 465 (some (((upd s_ (4 : Int32).toNatClampNeg ((s_ (4 : Int32).toNatClampNeg) + a0)) (4 : Int32).toNatClampNeg, r2.1, upd s_ (4 : Int32).toNatClampNeg ((s_ (4 : Int32).toNatClampNeg) + a0), r2.2)))))) else some ((r1, kn, s_, past))))
theorem uX8_pass_X8 : ∀ w ∈ wsX80, w ∈ wsX8_pass := by decide +kernel
theorem kX8_pass_1 : Cond.fieldLink RX8 7 "LeaningLinesModel" "s" "[I" ∈ wsX8_pass := by decide +kernel
abbrev R_X8_pass : Room := { frames := 2, cells := 0, slots := 0, locals := 43 }
set_option maxHeartbeats 4000000 in
set_option maxRecDepth 100000 in
theorem m_X8_pass (l : Launch) (D : va_G) (cI cC cZ cR : ClassId) (mo mo1 mo2 mo3 mo4 mo5 : Nat) (sz : Nat) (kn : Int32) (le_ : Int32) (s_ : Nat → Int32) (past : Nat → Int32) (slo : Nat → Int32) (isv : Nat → Int32) (pad_ : Nat → Int32)  (a0 : Int32)   (r : OUT_X8_pass) (hf : f_X8_pass kn s_ past a0 = some r) : Met l yX8_pass wsX8_pass R_X8_pass (cPc D cI cC cZ cR [.ref mo, .int a0] sz (ws_model cI cC cZ cR mo mo1 mo2 mo3 mo4 mo5 kn le_ s_ past slo isv pad_)) (cQi D (ws_model cI cC cZ cR mo mo1 mo2 mo3 mo4 mo5 r.2.1 le_ r.2.2.1 r.2.2.2 slo isv pad_) (va_A (ws_model cI cC cZ cR mo mo1 mo2 mo3 mo4 mo5 kn le_ s_ past slo isv pad_) sz) r.1) 0 0 (va_A (ws_model cI cC cZ cR mo mo1 mo2 mo3 mo4 mo5 kn le_ s_ past slo isv pad_) sz) := by
  refine Met.ofW (cc := cX8_pass) (maxL := 3) (ret := (some .int)) (by decide) rfl ?_
  intro p e s m args below meth c s₁ B hml hv
  obtain ⟨rfl, hsz, hP, hK, hD0⟩ := hv
  have hx := B.exec
  have hb := B.bytes
  have hr := B.returns
  have hts := atoms_spec (ws := wsX8_pass) B.pre
  have hown : s.vm.findClass RX8 = some m.cls := findClass_of_methodNamed B.named
  have hlocks := B.notSynchronized
  subst hsz
  have hD := hD0.self (sz := s.heap.size)
  generalize hAe : va_A (ws_model cI cC cZ cR mo mo1 mo2 mo3 mo4 mo5 kn le_ s_ past slo isv pad_) s.heap.size = A at hD ⊢
  skip
  have hA : ∀ q : Nat, s.heap.size ≤ q → A q := fun q h => by rw [← hAe]; exact Or.inr h
  have hS : va_S A s.heap s.heap [] := va_S.rf
  have hl := lv_entry ([.ref mo, .int a0]) (n := 3) (Nat.le_of_ble_eq_true rfl)
  rw [lg_entry_eq]
  generalize (lg_sl ([.ref mo, .int a0]) ++ List.replicate (3 - (lg_sl ([.ref mo, .int a0])).length) Slot.unset).toArray = ls at hl ⊢
  have hl : lv_has ls 3 [(0, .ref mo), (1, .int a0)] := hl
  refine W_absQ (fun Q hQ => ?_)
  refine W.eq (g2 := F0 m 0 ls []) rfl ?_
  have h := hf
  unfold f_X8_pass at h
  refine lv_aload_n hx hb dX8_pass_0 rfl (lv_at hl 0 rfl) ?_
  refine lv_iload_n hx hb dX8_pass_1 rfl (lv_at hl 1 rfl) ?_
  obtain ⟨r1, hcr1, h⟩ := bn_sp h
  have hPc := hP.sub (ws' := (ws_model cI cC cZ cR mo mo1 mo2 mo3 mo4 mo5 kn le_ s_ past slo isv pad_)) [0, 1, 2, 3, 4, 5] rfl
  have hDc := hD.sub (ws' := (ws_model cI cC cZ cR mo mo1 mo2 mo3 mo4 mo5 kn le_ s_ past slo isv pad_)) [0, 1, 2, 3, 4, 5] (by decide) rfl
  have hFc := va_free (wc := (ws_model cI cC cZ cR mo mo1 mo2 mo3 mo4 mo5 kn le_ s_ past slo isv pad_)) hD hS hA [0, 1, 2, 3, 4, 5] rfl
  refine va_calli (va_runV (As := [.int a0]) (rest := []) ⟨hx, hb, hml, hown, hts⟩ (m_X8_whyNotPass l D cI cC cZ cR mo mo1 mo2 mo3 mo4 mo5 _ kn le_ s_ past slo isv pad_ a0   r1 hcr1) (cwV 1 hts gX8_pass_X8_whyNotPass rfl rfl rfl (by decide +kernel) ⟨Nat.le_of_ble_eq_true rfl, Nat.le_of_ble_eq_true rfl⟩) (cPc_pv hPc hK hDc (ci := 8) (q0 := 0) rfl rfl) rfl rfl hl.1 rfl (lv_room (Nat.le_of_ble_eq_true rfl)) dX8_pass_2 ⟨Nat.le_of_ble_eq_true rfl, Nat.le_of_ble_eq_true rfl⟩) hS (fun q _ h => hFc q h) hFc (fun xq u t H1 locs ht hvm hw hB hz1 hk1 hS => ?_)
  rw [hw]
  obtain ⟨hP1, hD1⟩ := hB
  rw [ht] at hP1
  obtain ⟨hP, hD⟩ := va_join (wr := []) (w1 := (ws_model cI cC cZ cR mo mo1 mo2 mo3 mo4 mo5 kn le_ s_ past slo isv pad_)) hP hD [0, 1, 2, 3, 4, 5] [] rfl rfl (by decide) (by decide) hk1 hFc hP1 hD1
  generalize H1 = H at hP hS ⊢
  have hP : va_P D vwCl (ws_model cI cC cZ cR mo mo1 mo2 mo3 mo4 mo5 kn le_ s_ past slo isv pad_) H := hP
  have hD : va_D A (ws_model cI cC cZ cR mo mo1 mo2 mo3 mo4 mo5 kn le_ s_ past slo isv pad_) := hD
  refine lv_istore_n (lv' := [(2, .int r1), (0, .ref mo), (1, .int a0)]) hx hb dX8_pass_5 rfl hl (by decide) rfl (fun ls hl => ?_)
  refine lv_iload_n hx hb dX8_pass_6 rfl (lv_at hl 0 rfl) ?_
  refine lv_if_ge (tgt := 12) hx hb dX8_pass_7 (by decide) (fun c3 => ?_) (fun c3 => ?_)
  · replace h := br_p c3 h
    refine lv_aload_n hx hb dX8_pass_12 rfl (lv_at hl 1 rfl) ?_
    obtain ⟨r2, hcr2, h⟩ := bn_sp h
    have hPc := hP.sub (ws' := (ws_model cI cC cZ cR mo mo1 mo2 mo3 mo4 mo5 kn le_ s_ past slo isv pad_)) [0, 1, 2, 3, 4, 5] rfl
    have hDc := hD.sub (ws' := (ws_model cI cC cZ cR mo mo1 mo2 mo3 mo4 mo5 kn le_ s_ past slo isv pad_)) [0, 1, 2, 3, 4, 5] (by decide) rfl
    have hFc := va_free (wc := (ws_model cI cC cZ cR mo mo1 mo2 mo3 mo4 mo5 kn le_ s_ past slo isv pad_)) hD hS hA [0, 1, 2, 3, 4, 5] rfl
    refine va_callv (va_runV (As := []) (rest := []) ⟨hx, hb, hml, hown, hts⟩ (m_X8_remembers l D cI cC cZ cR mo mo1 mo2 mo3 mo4 mo5 _ kn le_ s_ past slo isv pad_    r2 hcr2) (cwV 0 hts gX8_pass_X8_remembers rfl rfl rfl (by decide +kernel) ⟨Nat.le_of_ble_eq_true rfl, Nat.le_of_ble_eq_true rfl⟩) (cPc_pv hPc hK hDc (ci := 8) (q0 := 0) rfl rfl) rfl rfl hl.1 rfl (lv_room (Nat.le_of_ble_eq_true rfl)) dX8_pass_13 ⟨Nat.le_of_ble_eq_true rfl, Nat.le_of_ble_eq_true rfl⟩) hS (fun q _ h => hFc q h) hFc (fun u t H1 locs ht hvm hw hB hz1 hk1 hS => ?_)
    obtain ⟨hP1, hD1⟩ := hB
    rw [ht] at hP1
    obtain ⟨hP, hD⟩ := va_join (wr := []) (w1 := (ws_model cI cC cZ cR mo mo1 mo2 mo3 mo4 mo5 r2.1 le_ s_ r2.2 slo isv pad_)) hP hD [0, 1, 2, 3, 4, 5] [] rfl rfl (by decide) (by decide) hk1 hFc hP1 hD1
    generalize H1 = H at hP hS ⊢
    have hP : va_P D vwCl (ws_model cI cC cZ cR mo mo1 mo2 mo3 mo4 mo5 r2.1 le_ s_ r2.2 slo isv pad_) H := hP
    have hD : va_D A (ws_model cI cC cZ cR mo mo1 mo2 mo3 mo4 mo5 r2.1 le_ s_ r2.2 slo isv pad_) := hD
    refine lv_aload_n hx hb dX8_pass_16 rfl (lv_at hl 1 rfl) ?_
    refine va_get (D := D) (ci := 8) (v := .ref mo1) (C := RX8) (T := TX8) (N := 7) hx hb hts uX8_pass_X8 hown hK.1 hP 0 rfl rfl 0 (by decide) (hts _ kX8_pass_1) (fun _ h9 => h9) rfl dX8_pass_17 ?_
    refine lv_iconst (v := 4) hx hb dX8_pass_20 (by decide) ?_
    refine lv_dup2_11 hx hb dX8_pass_21 rfl rfl ?_
    obtain ⟨hin, h⟩ := gd_sp h
    refine va_iald (D := D) hx hb hK.1 hP 1 0 rfl rfl hin dX8_pass_22 ?_
    refine lv_iload_n hx hb dX8_pass_23 rfl (lv_at hl 2 rfl) ?_
    refine lv_iadd hx hb dX8_pass_24 ?_
    obtain ⟨hin, h⟩ := gd_sp h
    refine va_iast (D := D) hx hb hK.1 hP hD hS 1 0 rfl rfl hin dX8_pass_25 (fun H locs hP hD hS => ?_)
    have hP : va_P D vwCl (ws_model cI cC cZ cR mo mo1 mo2 mo3 mo4 mo5 r2.1 le_ (upd s_ (4 : Int32).toNatClampNeg ((s_ (4 : Int32).toNatClampNeg) + a0)) r2.2 slo isv pad_) H := hP
    have hD : va_D A (ws_model cI cC cZ cR mo mo1 mo2 mo3 mo4 mo5 r2.1 le_ (upd s_ (4 : Int32).toNatClampNeg ((s_ (4 : Int32).toNatClampNeg) + a0)) r2.2 slo isv pad_) := hD
    refine lv_aload_n hx hb dX8_pass_26 rfl (lv_at hl 1 rfl) ?_
    refine va_get (D := D) (ci := 8) (v := .ref mo1) (C := RX8) (T := TX8) (N := 7) hx hb hts uX8_pass_X8 hown hK.1 hP 0 rfl rfl 0 (by decide) (hts _ kX8_pass_1) (fun _ h9 => h9) rfl dX8_pass_27 ?_
    refine lv_iconst (v := 4) hx hb dX8_pass_30 (by decide) ?_
    obtain ⟨hin, h⟩ := gd_sp h
    refine va_iald (D := D) hx hb hK.1 hP 1 0 rfl rfl hin dX8_pass_31 ?_
    have e9 := Option.some.inj h
    subst e9
    rw [hQ]
    exact W.iret (v := (upd s_ (4 : Int32).toNatClampNeg ((s_ (4 : Int32).toNatClampNeg) + a0)) (4 : Int32).toNatClampNeg) hx hb hr (fun t ht hW => ⟨⟨(upd s_ (4 : Int32).toNatClampNeg ((s_ (4 : Int32).toNatClampNeg) + a0)) (4 : Int32).toNatClampNeg, (), rfl, rfl, by rw [ht]; exact hP, hD⟩, hS.F ht⟩) hS.2.2 dX8_pass_32
  · replace h := br_n c3 h
    refine lv_iload_n hx hb dX8_pass_10 rfl (lv_at hl 0 rfl) ?_
    have e9 := Option.some.inj h
    subst e9
    rw [hQ]
    exact W.iret (v := r1) hx hb hr (fun t ht hW => ⟨⟨r1, (), rfl, rfl, by rw [ht]; exact hP, hD⟩, hS.F ht⟩) hS.2.2 dX8_pass_11
-- LeaningLinesModel.shoot
abbrev OUT_X8_shoot : Type := Int32 × Int32 × (Nat → Int32) × (Nat → Int32)
def f_X8_shoot (kn : Int32) (s_ : Nat → Int32) (past : Nat → Int32) : Option OUT_X8_shoot :=
  bn (f_X8_whyNotShoot s_) (fun r1 => (if 0 ≤ r1 then bn (f_X8_remembers kn s_ past) (fun r2 => bn (f_X8_shoots s_) (fun r3 => some ((r3.1, r2.1, r3.2, r2.2)))) else some (((-5), kn, s_, past))))
abbrev R_X8_shoot : Room := { frames := 6, cells := 0, slots := 0, locals := 144 }
set_option maxHeartbeats 4000000 in
set_option maxRecDepth 100000 in
theorem m_X8_shoot (l : Launch) (D : va_G) (cI cC cZ cR : ClassId) (mo mo1 mo2 mo3 mo4 mo5 : Nat) (sz : Nat) (kn : Int32) (le_ : Int32) (s_ : Nat → Int32) (past : Nat → Int32) (slo : Nat → Int32) (isv : Nat → Int32) (pad_ : Nat → Int32)     (r : OUT_X8_shoot) (hf : f_X8_shoot kn s_ past = some r) : Met l yX8_shoot wsX8_shoot R_X8_shoot (cPc D cI cC cZ cR [.ref mo] sz (ws_model cI cC cZ cR mo mo1 mo2 mo3 mo4 mo5 kn le_ s_ past slo isv pad_)) (cQi D (ws_model cI cC cZ cR mo mo1 mo2 mo3 mo4 mo5 r.2.1 le_ r.2.2.1 r.2.2.2 slo isv pad_) (va_A (ws_model cI cC cZ cR mo mo1 mo2 mo3 mo4 mo5 kn le_ s_ past slo isv pad_) sz) r.1) 0 0 (va_A (ws_model cI cC cZ cR mo mo1 mo2 mo3 mo4 mo5 kn le_ s_ past slo isv pad_) sz) := by
  refine Met.ofW (cc := cX8_shoot) (maxL := 1) (ret := (some .int)) (by decide) rfl ?_
  intro p e s m args below meth c s₁ B hml hv
  obtain ⟨rfl, hsz, hP, hK, hD0⟩ := hv
  have hx := B.exec
  have hb := B.bytes
  have hr := B.returns
  have hts := atoms_spec (ws := wsX8_shoot) B.pre
  have hown : s.vm.findClass RX8 = some m.cls := findClass_of_methodNamed B.named
  have hlocks := B.notSynchronized
  subst hsz
  have hD := hD0.self (sz := s.heap.size)
  generalize hAe : va_A (ws_model cI cC cZ cR mo mo1 mo2 mo3 mo4 mo5 kn le_ s_ past slo isv pad_) s.heap.size = A at hD ⊢
  skip
  have hA : ∀ q : Nat, s.heap.size ≤ q → A q := fun q h => by rw [← hAe]; exact Or.inr h
  have hS : va_S A s.heap s.heap [] := va_S.rf
  have hl := lv_entry ([.ref mo]) (n := 1) (Nat.le_of_ble_eq_true rfl)
  rw [lg_entry_eq]
  generalize (lg_sl ([.ref mo]) ++ List.replicate (1 - (lg_sl ([.ref mo])).length) Slot.unset).toArray = ls at hl ⊢
  have hl : lv_has ls 1 [(0, .ref mo)] := hl
  refine W_absQ (fun Q hQ => ?_)
  refine W.eq (g2 := F0 m 0 ls []) rfl ?_
  have h := hf
  unfold f_X8_shoot at h
  refine lv_aload_n hx hb dX8_shoot_0 rfl (lv_at hl 0 rfl) ?_
  obtain ⟨r1, hcr1, h⟩ := bn_sp h
  have hPc := hP.sub (ws' := (ws_model cI cC cZ cR mo mo1 mo2 mo3 mo4 mo5 kn le_ s_ past slo isv pad_)) [0, 1, 2, 3, 4, 5] rfl
  have hDc := hD.sub (ws' := (ws_model cI cC cZ cR mo mo1 mo2 mo3 mo4 mo5 kn le_ s_ past slo isv pad_)) [0, 1, 2, 3, 4, 5] (by decide) rfl
  have hFc := va_free (wc := (ws_model cI cC cZ cR mo mo1 mo2 mo3 mo4 mo5 kn le_ s_ past slo isv pad_)) hD hS hA [0, 1, 2, 3, 4, 5] rfl
  refine va_calli (va_runV (As := []) (rest := []) ⟨hx, hb, hml, hown, hts⟩ (m_X8_whyNotShoot l D cI cC cZ cR mo mo1 mo2 mo3 mo4 mo5 _ kn le_ s_ past slo isv pad_    r1 hcr1) (cwV 0 hts gX8_shoot_X8_whyNotShoot rfl rfl rfl (by decide +kernel) ⟨Nat.le_of_ble_eq_true rfl, Nat.le_of_ble_eq_true rfl⟩) (cPc_pv hPc hK hDc (ci := 8) (q0 := 0) rfl rfl) rfl rfl hl.1 rfl (lv_room (Nat.le_of_ble_eq_true rfl)) dX8_shoot_1 ⟨Nat.le_of_ble_eq_true rfl, Nat.le_of_ble_eq_true rfl⟩) hS (fun q _ h => hFc q h) hFc (fun xq u t H1 locs ht hvm hw hB hz1 hk1 hS => ?_)
  rw [hw]
  obtain ⟨hP1, hD1⟩ := hB
  rw [ht] at hP1
  obtain ⟨hP, hD⟩ := va_join (wr := []) (w1 := (ws_model cI cC cZ cR mo mo1 mo2 mo3 mo4 mo5 kn le_ s_ past slo isv pad_)) hP hD [0, 1, 2, 3, 4, 5] [] rfl rfl (by decide) (by decide) hk1 hFc hP1 hD1
  generalize H1 = H at hP hS ⊢
  have hP : va_P D vwCl (ws_model cI cC cZ cR mo mo1 mo2 mo3 mo4 mo5 kn le_ s_ past slo isv pad_) H := hP
  have hD : va_D A (ws_model cI cC cZ cR mo mo1 mo2 mo3 mo4 mo5 kn le_ s_ past slo isv pad_) := hD
  refine lv_if_ge (tgt := 10) hx hb dX8_shoot_4 (by decide) (fun c4 => ?_) (fun c4 => ?_)
  · replace h := br_p c4 h
    refine lv_aload_n hx hb dX8_shoot_10 rfl (lv_at hl 0 rfl) ?_
    obtain ⟨r2, hcr2, h⟩ := bn_sp h
    have hPc := hP.sub (ws' := (ws_model cI cC cZ cR mo mo1 mo2 mo3 mo4 mo5 kn le_ s_ past slo isv pad_)) [0, 1, 2, 3, 4, 5] rfl
    have hDc := hD.sub (ws' := (ws_model cI cC cZ cR mo mo1 mo2 mo3 mo4 mo5 kn le_ s_ past slo isv pad_)) [0, 1, 2, 3, 4, 5] (by decide) rfl
    have hFc := va_free (wc := (ws_model cI cC cZ cR mo mo1 mo2 mo3 mo4 mo5 kn le_ s_ past slo isv pad_)) hD hS hA [0, 1, 2, 3, 4, 5] rfl
    refine va_callv (va_runV (As := []) (rest := []) ⟨hx, hb, hml, hown, hts⟩ (m_X8_remembers l D cI cC cZ cR mo mo1 mo2 mo3 mo4 mo5 _ kn le_ s_ past slo isv pad_    r2 hcr2) (cwV 0 hts gX8_shoot_X8_remembers rfl rfl rfl (by decide +kernel) ⟨Nat.le_of_ble_eq_true rfl, Nat.le_of_ble_eq_true rfl⟩) (cPc_pv hPc hK hDc (ci := 8) (q0 := 0) rfl rfl) rfl rfl hl.1 rfl (lv_room (Nat.le_of_ble_eq_true rfl)) dX8_shoot_11 ⟨Nat.le_of_ble_eq_true rfl, Nat.le_of_ble_eq_true rfl⟩) hS (fun q _ h => hFc q h) hFc (fun u t H1 locs ht hvm hw hB hz1 hk1 hS => ?_)
    obtain ⟨hP1, hD1⟩ := hB
    rw [ht] at hP1
    obtain ⟨hP, hD⟩ := va_join (wr := []) (w1 := (ws_model cI cC cZ cR mo mo1 mo2 mo3 mo4 mo5 r2.1 le_ s_ r2.2 slo isv pad_)) hP hD [0, 1, 2, 3, 4, 5] [] rfl rfl (by decide) (by decide) hk1 hFc hP1 hD1
    generalize H1 = H at hP hS ⊢
    have hP : va_P D vwCl (ws_model cI cC cZ cR mo mo1 mo2 mo3 mo4 mo5 r2.1 le_ s_ r2.2 slo isv pad_) H := hP
    have hD : va_D A (ws_model cI cC cZ cR mo mo1 mo2 mo3 mo4 mo5 r2.1 le_ s_ r2.2 slo isv pad_) := hD
    refine lv_aload_n hx hb dX8_shoot_14 rfl (lv_at hl 0 rfl) ?_
    obtain ⟨r3, hcr3, h⟩ := bn_sp h
    have hPc := hP.sub (ws' := (ws_model cI cC cZ cR mo mo1 mo2 mo3 mo4 mo5 r2.1 le_ s_ r2.2 slo isv pad_)) [0, 1, 2, 3, 4, 5] rfl
    have hDc := hD.sub (ws' := (ws_model cI cC cZ cR mo mo1 mo2 mo3 mo4 mo5 r2.1 le_ s_ r2.2 slo isv pad_)) [0, 1, 2, 3, 4, 5] (by decide) rfl
    have hFc := va_free (wc := (ws_model cI cC cZ cR mo mo1 mo2 mo3 mo4 mo5 r2.1 le_ s_ r2.2 slo isv pad_)) hD hS hA [0, 1, 2, 3, 4, 5] rfl
    refine va_calli (va_runV (As := []) (rest := []) ⟨hx, hb, hml, hown, hts⟩ (m_X8_shoots l D cI cC cZ cR mo mo1 mo2 mo3 mo4 mo5 _ r2.1 le_ s_ r2.2 slo isv pad_    r3 hcr3) (cwV 0 hts gX8_shoot_X8_shoots rfl rfl rfl (by decide +kernel) ⟨Nat.le_of_ble_eq_true rfl, Nat.le_of_ble_eq_true rfl⟩) (cPc_pv hPc hK hDc (ci := 8) (q0 := 0) rfl rfl) rfl rfl hl.1 rfl (lv_room (Nat.le_of_ble_eq_true rfl)) dX8_shoot_15 ⟨Nat.le_of_ble_eq_true rfl, Nat.le_of_ble_eq_true rfl⟩) hS (fun q _ h => hFc q h) hFc (fun xq u t H1 locs ht hvm hw hB hz1 hk1 hS => ?_)
    rw [hw]
    obtain ⟨hP1, hD1⟩ := hB
    rw [ht] at hP1
    obtain ⟨hP, hD⟩ := va_join (wr := []) (w1 := (ws_model cI cC cZ cR mo mo1 mo2 mo3 mo4 mo5 r2.1 le_ r3.2 r2.2 slo isv pad_)) hP hD [0, 1, 2, 3, 4, 5] [] rfl rfl (by decide) (by decide) hk1 hFc hP1 hD1
    generalize H1 = H at hP hS ⊢
    have hP : va_P D vwCl (ws_model cI cC cZ cR mo mo1 mo2 mo3 mo4 mo5 r2.1 le_ r3.2 r2.2 slo isv pad_) H := hP
    have hD : va_D A (ws_model cI cC cZ cR mo mo1 mo2 mo3 mo4 mo5 r2.1 le_ r3.2 r2.2 slo isv pad_) := hD
    have e9 := Option.some.inj h
    subst e9
    rw [hQ]
    exact W.iret (v := r3.1) hx hb hr (fun t ht hW => ⟨⟨r3.1, (), rfl, rfl, by rw [ht]; exact hP, hD⟩, hS.F ht⟩) hS.2.2 dX8_shoot_18
  · replace h := br_n c4 h
    refine lv_bipush (v := (-5)) hx hb dX8_shoot_7 (by decide) ?_
    have e9 := Option.some.inj h
    subst e9
    rw [hQ]
    exact W.iret (v := (-5)) hx hb hr (fun t ht hW => ⟨⟨(-5), (), rfl, rfl, by rw [ht]; exact hP, hD⟩, hS.F ht⟩) hS.2.2 dX8_shoot_9
-- LeaningLinesModel.of
abbrev OUT_X8_of : Type := Int32
def f_X8_of (s_ : Nat → Int32) (a0 : Int32) (a1 : Int32) : Option OUT_X8_of :=
  bn (f_X8_isThing s_ a0) (fun r1 => (if ¬ r1 = 0 then jn (fun (_ : Unit) => bn (f_X8_its s_ a0 a1) (fun r2 => some (r2))) (fun j56 => (if a1 = 0 then j56 () else (if a1 = 1 then gd 4 465 (bn (f_X8_left s_ a0 (s_ (4 : Int32).toNatClampNeg)) (fun r4 => some (r4 + 1000))) else (if a1 = 2 then j56 () else (if a1 = 3 then j56 () else (if a1 = 4 then j56 () else (if a1 = 5 then bn (f_X8_its s_ a0 5) (fun r9 => some (r9 + 100)) else (if a1 = 6 then bn (f_X8_its s_ a0 7) (fun r11 => (if 0 ≤ r11 then bn (f_X8_its s_ a0 7) (fun r12 => some (r12)) else some ((-6)))) else (if a1 = 7 then bn (f_X8_goes s_ a0) (fun r15 => some (r15 + 1000)) else some ((-2))))))))))) else some ((-1))))
theorem uX8_of_X8 : ∀ w ∈ wsX80, w ∈ wsX8_of := by decide +kernel
theorem kX8_of_1 : Cond.fieldLink RX8 7 "LeaningLinesModel" "s" "[I" ∈ wsX8_of := by decide +kernel
abbrev R_X8_of : Room := { frames := 2, cells := 0, slots := 0, locals := 46 }
set_option maxHeartbeats 4000000 in
set_option maxRecDepth 100000 in
theorem m_X8_of (l : Launch) (D : va_G) (cI cC cZ cR : ClassId) (mo mo1 mo2 mo3 mo4 mo5 : Nat) (sz : Nat) (kn : Int32) (le_ : Int32) (s_ : Nat → Int32) (past : Nat → Int32) (slo : Nat → Int32) (isv : Nat → Int32) (pad_ : Nat → Int32)  (a0 : Int32) (a1 : Int32)   (r : OUT_X8_of) (hf : f_X8_of s_ a0 a1 = some r) : Met l yX8_of wsX8_of R_X8_of (cPc D cI cC cZ cR [.ref mo, .int a0, .int a1] sz (ws_model cI cC cZ cR mo mo1 mo2 mo3 mo4 mo5 kn le_ s_ past slo isv pad_)) (cQi D (ws_model cI cC cZ cR mo mo1 mo2 mo3 mo4 mo5 kn le_ s_ past slo isv pad_) (va_A (ws_model cI cC cZ cR mo mo1 mo2 mo3 mo4 mo5 kn le_ s_ past slo isv pad_) sz) r) 0 0 (va_A (ws_model cI cC cZ cR mo mo1 mo2 mo3 mo4 mo5 kn le_ s_ past slo isv pad_) sz) := by
  refine Met.ofW (cc := cX8_of) (maxL := 3) (ret := (some .int)) (by decide) rfl ?_
  intro p e s m args below meth c s₁ B hml hv
  obtain ⟨rfl, hsz, hP, hK, hD0⟩ := hv
  have hx := B.exec
  have hb := B.bytes
  have hr := B.returns
  have hts := atoms_spec (ws := wsX8_of) B.pre
  have hown : s.vm.findClass RX8 = some m.cls := findClass_of_methodNamed B.named
  have hlocks := B.notSynchronized
  subst hsz
  have hD := hD0.self (sz := s.heap.size)
  generalize hAe : va_A (ws_model cI cC cZ cR mo mo1 mo2 mo3 mo4 mo5 kn le_ s_ past slo isv pad_) s.heap.size = A at hD ⊢
  skip
  have hA : ∀ q : Nat, s.heap.size ≤ q → A q := fun q h => by rw [← hAe]; exact Or.inr h
  have hS : va_S A s.heap s.heap [] := va_S.rf
  have hl := lv_entry ([.ref mo, .int a0, .int a1]) (n := 3) (Nat.le_of_ble_eq_true rfl)
  rw [lg_entry_eq]
  generalize (lg_sl ([.ref mo, .int a0, .int a1]) ++ List.replicate (3 - (lg_sl ([.ref mo, .int a0, .int a1])).length) Slot.unset).toArray = ls at hl ⊢
  have hl : lv_has ls 3 [(0, .ref mo), (1, .int a0), (2, .int a1)] := hl
  refine W_absQ (fun Q hQ => ?_)
  refine W.eq (g2 := F0 m 0 ls []) rfl ?_
  have h := hf
  unfold f_X8_of at h
  refine lv_aload_n hx hb dX8_of_0 rfl (lv_at hl 0 rfl) ?_
  refine lv_iload_n hx hb dX8_of_1 rfl (lv_at hl 1 rfl) ?_
  obtain ⟨r1, hcr1, h⟩ := bn_sp h
  have hPc := hP.sub (ws' := (ws_model cI cC cZ cR mo mo1 mo2 mo3 mo4 mo5 kn le_ s_ past slo isv pad_)) [0, 1, 2, 3, 4, 5] rfl
  have hDc := hD.sub (ws' := (ws_model cI cC cZ cR mo mo1 mo2 mo3 mo4 mo5 kn le_ s_ past slo isv pad_)) [0, 1, 2, 3, 4, 5] (by decide) rfl
  have hFc := va_free (wc := (ws_model cI cC cZ cR mo mo1 mo2 mo3 mo4 mo5 kn le_ s_ past slo isv pad_)) hD hS hA [0, 1, 2, 3, 4, 5] rfl
  refine va_calli (va_runV (As := [.int a0]) (rest := []) ⟨hx, hb, hml, hown, hts⟩ (m_X8_isThing l D cI cC cZ cR mo mo1 mo2 mo3 mo4 mo5 _ kn le_ s_ past slo isv pad_ a0   r1 hcr1) (cwV 1 hts gX8_of_X8_isThing rfl rfl rfl (by decide +kernel) ⟨Nat.le_of_ble_eq_true rfl, Nat.le_of_ble_eq_true rfl⟩) (cPc_pv hPc hK hDc (ci := 8) (q0 := 0) rfl rfl) rfl rfl hl.1 rfl (lv_room (Nat.le_of_ble_eq_true rfl)) dX8_of_2 ⟨Nat.le_of_ble_eq_true rfl, Nat.le_of_ble_eq_true rfl⟩) hS (fun q _ h => hFc q h) hFc (fun xq u t H1 locs ht hvm hw hB hz1 hk1 hS => ?_)
  rw [hw]
  obtain ⟨hP1, hD1⟩ := hB
  rw [ht] at hP1
  obtain ⟨hP, hD⟩ := va_join (wr := []) (w1 := (ws_model cI cC cZ cR mo mo1 mo2 mo3 mo4 mo5 kn le_ s_ past slo isv pad_)) hP hD [0, 1, 2, 3, 4, 5] [] rfl rfl (by decide) (by decide) hk1 hFc hP1 hD1
  generalize H1 = H at hP hS ⊢
  have hP : va_P D vwCl (ws_model cI cC cZ cR mo mo1 mo2 mo3 mo4 mo5 kn le_ s_ past slo isv pad_) H := hP
  have hD : va_D A (ws_model cI cC cZ cR mo mo1 mo2 mo3 mo4 mo5 kn le_ s_ past slo isv pad_) := hD
  refine lv_if_ne (tgt := 10) hx hb dX8_of_5 (by decide) (fun c17 => ?_) (fun c17 => ?_)
  · replace h := br_p c17 h
    refine lv_iload_n hx hb dX8_of_10 rfl (lv_at hl 2 rfl) ?_
    obtain ⟨j56, hj56, h⟩ := jn_sp h
    have J56 : ∀ (_u : Unit) (H : Heap) (locs : List Loc) (ls : Array Slot), j56 _u = some r → va_P D vwCl (ws_model cI cC cZ cR mo mo1 mo2 mo3 mo4 mo5 kn le_ s_ past slo isv pad_) H → va_D A (ws_model cI cC cZ cR mo mo1 mo2 mo3 mo4 mo5 kn le_ s_ past slo isv pad_) → va_S A s.heap H locs → lv_has ls 3 [(0, .ref mo), (1, .int a0), (2, .int a1)] → W p l e R_X8_of s m ([.ref mo, .int a0, .int a1] : List Value).toArray below meth c H locs 0 0 Q (F0 m 56 ls []) := by
      intro _u H locs ls h hP hD hS hl
      rw [hj56] at h
      refine lv_aload_n hx hb dX8_of_56 rfl (lv_at hl 0 rfl) ?_
      refine lv_iload_n hx hb dX8_of_57 rfl (lv_at hl 1 rfl) ?_
      refine lv_iload_n hx hb dX8_of_58 rfl (lv_at hl 2 rfl) ?_
      obtain ⟨r2, hcr2, h⟩ := bn_sp h
      have hPc := hP.sub (ws' := (ws_model cI cC cZ cR mo mo1 mo2 mo3 mo4 mo5 kn le_ s_ past slo isv pad_)) [0, 1, 2, 3, 4, 5] rfl
      have hDc := hD.sub (ws' := (ws_model cI cC cZ cR mo mo1 mo2 mo3 mo4 mo5 kn le_ s_ past slo isv pad_)) [0, 1, 2, 3, 4, 5] (by decide) rfl
      have hFc := va_free (wc := (ws_model cI cC cZ cR mo mo1 mo2 mo3 mo4 mo5 kn le_ s_ past slo isv pad_)) hD hS hA [0, 1, 2, 3, 4, 5] rfl
      refine va_calli (va_runV (As := [.int a0, .int a1]) (rest := []) ⟨hx, hb, hml, hown, hts⟩ (m_X8_its l D cI cC cZ cR mo mo1 mo2 mo3 mo4 mo5 _ kn le_ s_ past slo isv pad_ a0 a1   r2 hcr2) (cwV 2 hts gX8_of_X8_its rfl rfl rfl (by decide +kernel) ⟨Nat.le_of_ble_eq_true rfl, Nat.le_of_ble_eq_true rfl⟩) (cPc_pv hPc hK hDc (ci := 8) (q0 := 0) rfl rfl) rfl rfl hl.1 rfl (lv_room (Nat.le_of_ble_eq_true rfl)) dX8_of_59 ⟨Nat.le_of_ble_eq_true rfl, Nat.le_of_ble_eq_true rfl⟩) hS (fun q _ h => hFc q h) hFc (fun xq u t H1 locs ht hvm hw hB hz1 hk1 hS => ?_)
      rw [hw]
      obtain ⟨hP1, hD1⟩ := hB
      rw [ht] at hP1
      obtain ⟨hP, hD⟩ := va_join (wr := []) (w1 := (ws_model cI cC cZ cR mo mo1 mo2 mo3 mo4 mo5 kn le_ s_ past slo isv pad_)) hP hD [0, 1, 2, 3, 4, 5] [] rfl rfl (by decide) (by decide) hk1 hFc hP1 hD1
      generalize H1 = H at hP hS ⊢
      have hP : va_P D vwCl (ws_model cI cC cZ cR mo mo1 mo2 mo3 mo4 mo5 kn le_ s_ past slo isv pad_) H := hP
      have hD : va_D A (ws_model cI cC cZ cR mo mo1 mo2 mo3 mo4 mo5 kn le_ s_ past slo isv pad_) := hD
      have e9 := Option.some.inj h
      subst e9
      rw [hQ]
      exact W.iret (v := r2) hx hb hr (fun t ht hW => ⟨⟨r2, (), rfl, rfl, by rw [ht]; exact hP, hD⟩, hS.F ht⟩) hS.2.2 dX8_of_62
    by_cases c3 : a1 = 0
    · replace h := br_p c3 h
      refine lv_tableIn (tgt := 56) hx hb dX8_of_11 (by rw [c3]; decide) (by rw [c3]; decide) (by rw [c3]; rfl) (by decide) ?_
      exact J56 _ _ _ _ h hP hD hS (lv_sub hl [0, 1, 2] rfl)
    · replace h := br_n c3 h
      by_cases c5 : a1 = 1
      · replace h := br_p c5 h
        refine lv_tableIn (tgt := 63) hx hb dX8_of_11 (by rw [c5]; decide) (by rw [c5]; decide) (by rw [c5]; rfl) (by decide) ?_
        refine lv_aload_n hx hb dX8_of_63 rfl (lv_at hl 0 rfl) ?_
        refine lv_iload_n hx hb dX8_of_64 rfl (lv_at hl 1 rfl) ?_
        refine lv_aload_n hx hb dX8_of_65 rfl (lv_at hl 0 rfl) ?_
        refine va_get (D := D) (ci := 8) (v := .ref mo1) (C := RX8) (T := TX8) (N := 7) hx hb hts uX8_of_X8 hown hK.1 hP 0 rfl rfl 0 (by decide) (hts _ kX8_of_1) (fun _ h9 => h9) rfl dX8_of_66 ?_
        refine lv_iconst (v := 4) hx hb dX8_of_69 (by decide) ?_
        obtain ⟨hin, h⟩ := gd_sp h
        refine va_iald (D := D) hx hb hK.1 hP 1 0 rfl rfl hin dX8_of_70 ?_
        obtain ⟨r4, hcr4, h⟩ := bn_sp h
        have hPc := hP.sub (ws' := (ws_model cI cC cZ cR mo mo1 mo2 mo3 mo4 mo5 kn le_ s_ past slo isv pad_)) [0, 1, 2, 3, 4, 5] rfl
        have hDc := hD.sub (ws' := (ws_model cI cC cZ cR mo mo1 mo2 mo3 mo4 mo5 kn le_ s_ past slo isv pad_)) [0, 1, 2, 3, 4, 5] (by decide) rfl
        have hFc := va_free (wc := (ws_model cI cC cZ cR mo mo1 mo2 mo3 mo4 mo5 kn le_ s_ past slo isv pad_)) hD hS hA [0, 1, 2, 3, 4, 5] rfl
        refine va_calli (va_runV (As := [.int a0, .int (s_ (4 : Int32).toNatClampNeg)]) (rest := []) ⟨hx, hb, hml, hown, hts⟩ (m_X8_left l D cI cC cZ cR mo mo1 mo2 mo3 mo4 mo5 _ kn le_ s_ past slo isv pad_ a0 (s_ (4 : Int32).toNatClampNeg)   r4 hcr4) (cwV 2 hts gX8_of_X8_left rfl rfl rfl (by decide +kernel) ⟨Nat.le_of_ble_eq_true rfl, Nat.le_of_ble_eq_true rfl⟩) (cPc_pv hPc hK hDc (ci := 8) (q0 := 0) rfl rfl) rfl rfl hl.1 rfl (lv_room (Nat.le_of_ble_eq_true rfl)) dX8_of_71 ⟨Nat.le_of_ble_eq_true rfl, Nat.le_of_ble_eq_true rfl⟩) hS (fun q _ h => hFc q h) hFc (fun xq u t H1 locs ht hvm hw hB hz1 hk1 hS => ?_)
        rw [hw]
        obtain ⟨hP1, hD1⟩ := hB
        rw [ht] at hP1
        obtain ⟨hP, hD⟩ := va_join (wr := []) (w1 := (ws_model cI cC cZ cR mo mo1 mo2 mo3 mo4 mo5 kn le_ s_ past slo isv pad_)) hP hD [0, 1, 2, 3, 4, 5] [] rfl rfl (by decide) (by decide) hk1 hFc hP1 hD1
        generalize H1 = H at hP hS ⊢
        have hP : va_P D vwCl (ws_model cI cC cZ cR mo mo1 mo2 mo3 mo4 mo5 kn le_ s_ past slo isv pad_) H := hP
        have hD : va_D A (ws_model cI cC cZ cR mo mo1 mo2 mo3 mo4 mo5 kn le_ s_ past slo isv pad_) := hD
        refine lv_sipush (v := 1000) hx hb dX8_of_74 (by decide) ?_
        refine lv_iadd hx hb dX8_of_77 ?_
        have e9 := Option.some.inj h
        subst e9
        rw [hQ]
        exact W.iret (v := r4 + 1000) hx hb hr (fun t ht hW => ⟨⟨r4 + 1000, (), rfl, rfl, by rw [ht]; exact hP, hD⟩, hS.F ht⟩) hS.2.2 dX8_of_78
      · replace h := br_n c5 h
        by_cases c6 : a1 = 2
        · replace h := br_p c6 h
          refine lv_tableIn (tgt := 56) hx hb dX8_of_11 (by rw [c6]; decide) (by rw [c6]; decide) (by rw [c6]; rfl) (by decide) ?_
          exact J56 _ _ _ _ h hP hD hS (lv_sub hl [0, 1, 2] rfl)
        · replace h := br_n c6 h
          by_cases c7 : a1 = 3
          · replace h := br_p c7 h
            refine lv_tableIn (tgt := 56) hx hb dX8_of_11 (by rw [c7]; decide) (by rw [c7]; decide) (by rw [c7]; rfl) (by decide) ?_
            exact J56 _ _ _ _ h hP hD hS (lv_sub hl [0, 1, 2] rfl)
          · replace h := br_n c7 h
            by_cases c8 : a1 = 4
            · replace h := br_p c8 h
              refine lv_tableIn (tgt := 56) hx hb dX8_of_11 (by rw [c8]; decide) (by rw [c8]; decide) (by rw [c8]; rfl) (by decide) ?_
              exact J56 _ _ _ _ h hP hD hS (lv_sub hl [0, 1, 2] rfl)
            · replace h := br_n c8 h
              by_cases c10 : a1 = 5
              · replace h := br_p c10 h
                refine lv_tableIn (tgt := 79) hx hb dX8_of_11 (by rw [c10]; decide) (by rw [c10]; decide) (by rw [c10]; rfl) (by decide) ?_
                refine lv_aload_n hx hb dX8_of_79 rfl (lv_at hl 0 rfl) ?_
                refine lv_iload_n hx hb dX8_of_80 rfl (lv_at hl 1 rfl) ?_
                refine lv_iconst (v := 5) hx hb dX8_of_81 (by decide) ?_
                obtain ⟨r9, hcr9, h⟩ := bn_sp h
                have hPc := hP.sub (ws' := (ws_model cI cC cZ cR mo mo1 mo2 mo3 mo4 mo5 kn le_ s_ past slo isv pad_)) [0, 1, 2, 3, 4, 5] rfl
                have hDc := hD.sub (ws' := (ws_model cI cC cZ cR mo mo1 mo2 mo3 mo4 mo5 kn le_ s_ past slo isv pad_)) [0, 1, 2, 3, 4, 5] (by decide) rfl
                have hFc := va_free (wc := (ws_model cI cC cZ cR mo mo1 mo2 mo3 mo4 mo5 kn le_ s_ past slo isv pad_)) hD hS hA [0, 1, 2, 3, 4, 5] rfl
                refine va_calli (va_runV (As := [.int a0, .int 5]) (rest := []) ⟨hx, hb, hml, hown, hts⟩ (m_X8_its l D cI cC cZ cR mo mo1 mo2 mo3 mo4 mo5 _ kn le_ s_ past slo isv pad_ a0 5   r9 hcr9) (cwV 2 hts gX8_of_X8_its rfl rfl rfl (by decide +kernel) ⟨Nat.le_of_ble_eq_true rfl, Nat.le_of_ble_eq_true rfl⟩) (cPc_pv hPc hK hDc (ci := 8) (q0 := 0) rfl rfl) rfl rfl hl.1 rfl (lv_room (Nat.le_of_ble_eq_true rfl)) dX8_of_82 ⟨Nat.le_of_ble_eq_true rfl, Nat.le_of_ble_eq_true rfl⟩) hS (fun q _ h => hFc q h) hFc (fun xq u t H1 locs ht hvm hw hB hz1 hk1 hS => ?_)
                rw [hw]
                obtain ⟨hP1, hD1⟩ := hB
                rw [ht] at hP1
                obtain ⟨hP, hD⟩ := va_join (wr := []) (w1 := (ws_model cI cC cZ cR mo mo1 mo2 mo3 mo4 mo5 kn le_ s_ past slo isv pad_)) hP hD [0, 1, 2, 3, 4, 5] [] rfl rfl (by decide) (by decide) hk1 hFc hP1 hD1
                generalize H1 = H at hP hS ⊢
                have hP : va_P D vwCl (ws_model cI cC cZ cR mo mo1 mo2 mo3 mo4 mo5 kn le_ s_ past slo isv pad_) H := hP
                have hD : va_D A (ws_model cI cC cZ cR mo mo1 mo2 mo3 mo4 mo5 kn le_ s_ past slo isv pad_) := hD
                refine lv_bipush (v := 100) hx hb dX8_of_85 (by decide) ?_
                refine lv_iadd hx hb dX8_of_87 ?_
                have e9 := Option.some.inj h
                subst e9
                rw [hQ]
                exact W.iret (v := r9 + 100) hx hb hr (fun t ht hW => ⟨⟨r9 + 100, (), rfl, rfl, by rw [ht]; exact hP, hD⟩, hS.F ht⟩) hS.2.2 dX8_of_88
              · replace h := br_n c10 h
                by_cases c14 : a1 = 6
                · replace h := br_p c14 h
                  refine lv_tableIn (tgt := 89) hx hb dX8_of_11 (by rw [c14]; decide) (by rw [c14]; decide) (by rw [c14]; rfl) (by decide) ?_
                  refine lv_aload_n hx hb dX8_of_89 rfl (lv_at hl 0 rfl) ?_
                  refine lv_iload_n hx hb dX8_of_90 rfl (lv_at hl 1 rfl) ?_
                  refine lv_bipush (v := 7) hx hb dX8_of_91 (by decide) ?_
                  obtain ⟨r11, hcr11, h⟩ := bn_sp h
                  have hPc := hP.sub (ws' := (ws_model cI cC cZ cR mo mo1 mo2 mo3 mo4 mo5 kn le_ s_ past slo isv pad_)) [0, 1, 2, 3, 4, 5] rfl
                  have hDc := hD.sub (ws' := (ws_model cI cC cZ cR mo mo1 mo2 mo3 mo4 mo5 kn le_ s_ past slo isv pad_)) [0, 1, 2, 3, 4, 5] (by decide) rfl
                  have hFc := va_free (wc := (ws_model cI cC cZ cR mo mo1 mo2 mo3 mo4 mo5 kn le_ s_ past slo isv pad_)) hD hS hA [0, 1, 2, 3, 4, 5] rfl
                  refine va_calli (va_runV (As := [.int a0, .int 7]) (rest := []) ⟨hx, hb, hml, hown, hts⟩ (m_X8_its l D cI cC cZ cR mo mo1 mo2 mo3 mo4 mo5 _ kn le_ s_ past slo isv pad_ a0 7   r11 hcr11) (cwV 2 hts gX8_of_X8_its rfl rfl rfl (by decide +kernel) ⟨Nat.le_of_ble_eq_true rfl, Nat.le_of_ble_eq_true rfl⟩) (cPc_pv hPc hK hDc (ci := 8) (q0 := 0) rfl rfl) rfl rfl hl.1 rfl (lv_room (Nat.le_of_ble_eq_true rfl)) dX8_of_93 ⟨Nat.le_of_ble_eq_true rfl, Nat.le_of_ble_eq_true rfl⟩) hS (fun q _ h => hFc q h) hFc (fun xq u t H1 locs ht hvm hw hB hz1 hk1 hS => ?_)
                  rw [hw]
                  obtain ⟨hP1, hD1⟩ := hB
                  rw [ht] at hP1
                  obtain ⟨hP, hD⟩ := va_join (wr := []) (w1 := (ws_model cI cC cZ cR mo mo1 mo2 mo3 mo4 mo5 kn le_ s_ past slo isv pad_)) hP hD [0, 1, 2, 3, 4, 5] [] rfl rfl (by decide) (by decide) hk1 hFc hP1 hD1
                  generalize H1 = H at hP hS ⊢
                  have hP : va_P D vwCl (ws_model cI cC cZ cR mo mo1 mo2 mo3 mo4 mo5 kn le_ s_ past slo isv pad_) H := hP
                  have hD : va_D A (ws_model cI cC cZ cR mo mo1 mo2 mo3 mo4 mo5 kn le_ s_ past slo isv pad_) := hD
                  refine lv_if_ge (tgt := 104) hx hb dX8_of_96 (by decide) (fun c13 => ?_) (fun c13 => ?_)
                  · replace h := br_p c13 h
                    refine lv_aload_n hx hb dX8_of_104 rfl (lv_at hl 0 rfl) ?_
                    refine lv_iload_n hx hb dX8_of_105 rfl (lv_at hl 1 rfl) ?_
                    refine lv_bipush (v := 7) hx hb dX8_of_106 (by decide) ?_
                    obtain ⟨r12, hcr12, h⟩ := bn_sp h
                    have hPc := hP.sub (ws' := (ws_model cI cC cZ cR mo mo1 mo2 mo3 mo4 mo5 kn le_ s_ past slo isv pad_)) [0, 1, 2, 3, 4, 5] rfl
                    have hDc := hD.sub (ws' := (ws_model cI cC cZ cR mo mo1 mo2 mo3 mo4 mo5 kn le_ s_ past slo isv pad_)) [0, 1, 2, 3, 4, 5] (by decide) rfl
                    have hFc := va_free (wc := (ws_model cI cC cZ cR mo mo1 mo2 mo3 mo4 mo5 kn le_ s_ past slo isv pad_)) hD hS hA [0, 1, 2, 3, 4, 5] rfl
                    refine va_calli (va_runV (As := [.int a0, .int 7]) (rest := []) ⟨hx, hb, hml, hown, hts⟩ (m_X8_its l D cI cC cZ cR mo mo1 mo2 mo3 mo4 mo5 _ kn le_ s_ past slo isv pad_ a0 7   r12 hcr12) (cwV 2 hts gX8_of_X8_its rfl rfl rfl (by decide +kernel) ⟨Nat.le_of_ble_eq_true rfl, Nat.le_of_ble_eq_true rfl⟩) (cPc_pv hPc hK hDc (ci := 8) (q0 := 0) rfl rfl) rfl rfl hl.1 rfl (lv_room (Nat.le_of_ble_eq_true rfl)) dX8_of_108 ⟨Nat.le_of_ble_eq_true rfl, Nat.le_of_ble_eq_true rfl⟩) hS (fun q _ h => hFc q h) hFc (fun xq u t H1 locs ht hvm hw hB hz1 hk1 hS => ?_)
                    rw [hw]
                    obtain ⟨hP1, hD1⟩ := hB
                    rw [ht] at hP1
                    obtain ⟨hP, hD⟩ := va_join (wr := []) (w1 := (ws_model cI cC cZ cR mo mo1 mo2 mo3 mo4 mo5 kn le_ s_ past slo isv pad_)) hP hD [0, 1, 2, 3, 4, 5] [] rfl rfl (by decide) (by decide) hk1 hFc hP1 hD1
                    generalize H1 = H at hP hS ⊢
                    have hP : va_P D vwCl (ws_model cI cC cZ cR mo mo1 mo2 mo3 mo4 mo5 kn le_ s_ past slo isv pad_) H := hP
                    have hD : va_D A (ws_model cI cC cZ cR mo mo1 mo2 mo3 mo4 mo5 kn le_ s_ past slo isv pad_) := hD
                    have e9 := Option.some.inj h
                    subst e9
                    rw [hQ]
                    exact W.iret (v := r12) hx hb hr (fun t ht hW => ⟨⟨r12, (), rfl, rfl, by rw [ht]; exact hP, hD⟩, hS.F ht⟩) hS.2.2 dX8_of_111
                  · replace h := br_n c13 h
                    refine lv_bipush (v := (-6)) hx hb dX8_of_99 (by decide) ?_
                    refine lv_goto (tgt := 111) hx hb dX8_of_101 (by decide) ?_
                    have e9 := Option.some.inj h
                    subst e9
                    rw [hQ]
                    exact W.iret (v := (-6)) hx hb hr (fun t ht hW => ⟨⟨(-6), (), rfl, rfl, by rw [ht]; exact hP, hD⟩, hS.F ht⟩) hS.2.2 dX8_of_111
                · replace h := br_n c14 h
                  by_cases c16 : a1 = 7
                  · replace h := br_p c16 h
                    refine lv_tableIn (tgt := 112) hx hb dX8_of_11 (by rw [c16]; decide) (by rw [c16]; decide) (by rw [c16]; rfl) (by decide) ?_
                    refine lv_aload_n hx hb dX8_of_112 rfl (lv_at hl 0 rfl) ?_
                    refine lv_iload_n hx hb dX8_of_113 rfl (lv_at hl 1 rfl) ?_
                    obtain ⟨r15, hcr15, h⟩ := bn_sp h
                    have hPc := hP.sub (ws' := (ws_model cI cC cZ cR mo mo1 mo2 mo3 mo4 mo5 kn le_ s_ past slo isv pad_)) [0, 1, 2, 3, 4, 5] rfl
                    have hDc := hD.sub (ws' := (ws_model cI cC cZ cR mo mo1 mo2 mo3 mo4 mo5 kn le_ s_ past slo isv pad_)) [0, 1, 2, 3, 4, 5] (by decide) rfl
                    have hFc := va_free (wc := (ws_model cI cC cZ cR mo mo1 mo2 mo3 mo4 mo5 kn le_ s_ past slo isv pad_)) hD hS hA [0, 1, 2, 3, 4, 5] rfl
                    refine va_calli (va_runV (As := [.int a0]) (rest := []) ⟨hx, hb, hml, hown, hts⟩ (m_X8_goes l D cI cC cZ cR mo mo1 mo2 mo3 mo4 mo5 _ kn le_ s_ past slo isv pad_ a0   r15 hcr15) (cwV 1 hts gX8_of_X8_goes rfl rfl rfl (by decide +kernel) ⟨Nat.le_of_ble_eq_true rfl, Nat.le_of_ble_eq_true rfl⟩) (cPc_pv hPc hK hDc (ci := 8) (q0 := 0) rfl rfl) rfl rfl hl.1 rfl (lv_room (Nat.le_of_ble_eq_true rfl)) dX8_of_114 ⟨Nat.le_of_ble_eq_true rfl, Nat.le_of_ble_eq_true rfl⟩) hS (fun q _ h => hFc q h) hFc (fun xq u t H1 locs ht hvm hw hB hz1 hk1 hS => ?_)
                    rw [hw]
                    obtain ⟨hP1, hD1⟩ := hB
                    rw [ht] at hP1
                    obtain ⟨hP, hD⟩ := va_join (wr := []) (w1 := (ws_model cI cC cZ cR mo mo1 mo2 mo3 mo4 mo5 kn le_ s_ past slo isv pad_)) hP hD [0, 1, 2, 3, 4, 5] [] rfl rfl (by decide) (by decide) hk1 hFc hP1 hD1
                    generalize H1 = H at hP hS ⊢
                    have hP : va_P D vwCl (ws_model cI cC cZ cR mo mo1 mo2 mo3 mo4 mo5 kn le_ s_ past slo isv pad_) H := hP
                    have hD : va_D A (ws_model cI cC cZ cR mo mo1 mo2 mo3 mo4 mo5 kn le_ s_ past slo isv pad_) := hD
                    refine lv_sipush (v := 1000) hx hb dX8_of_117 (by decide) ?_
                    refine lv_iadd hx hb dX8_of_120 ?_
                    have e9 := Option.some.inj h
                    subst e9
                    rw [hQ]
                    exact W.iret (v := r15 + 1000) hx hb hr (fun t ht hW => ⟨⟨r15 + 1000, (), rfl, rfl, by rw [ht]; exact hP, hD⟩, hS.F ht⟩) hS.2.2 dX8_of_121
                  · replace h := br_n c16 h
                    refine lv_tableOut (tgt := 122) hx hb dX8_of_11 (sw_out8 (fun e => c3 (Int32.toInt_inj.mp (e.trans (by decide)))) (fun e => c5 (Int32.toInt_inj.mp (e.trans (by decide)))) (fun e => c6 (Int32.toInt_inj.mp (e.trans (by decide)))) (fun e => c7 (Int32.toInt_inj.mp (e.trans (by decide)))) (fun e => c8 (Int32.toInt_inj.mp (e.trans (by decide)))) (fun e => c10 (Int32.toInt_inj.mp (e.trans (by decide)))) (fun e => c14 (Int32.toInt_inj.mp (e.trans (by decide)))) (fun e => c16 (Int32.toInt_inj.mp (e.trans (by decide))))) (by decide) ?_
                    refine lv_bipush (v := (-2)) hx hb dX8_of_122 (by decide) ?_
                    have e9 := Option.some.inj h
                    subst e9
                    rw [hQ]
                    exact W.iret (v := (-2)) hx hb hr (fun t ht hW => ⟨⟨(-2), (), rfl, rfl, by rw [ht]; exact hP, hD⟩, hS.F ht⟩) hS.2.2 dX8_of_124
  · replace h := br_n (not_not_intro c17) h
    refine lv_iconst (v := (-1)) hx hb dX8_of_8 (by decide) ?_
    have e9 := Option.some.inj h
    subst e9
    rw [hQ]
    exact W.iret (v := (-1)) hx hb hr (fun t ht hW => ⟨⟨(-1), (), rfl, rfl, by rw [ht]; exact hP, hD⟩, hS.F ht⟩) hS.2.2 dX8_of_9
-- LeaningLinesModel.pixel
abbrev OUT_X8_pixel : Type := Int32
def f_X8_pixel (s_ : Nat → Int32) (a0 : Int32) (a1 : Int32) : Option OUT_X8_pixel :=
  bn (f_X8_isPixel a0 a1) (fun r1 => (if r1 = 0 then some ((-1)) else gd ((81 + (24 * a0)) + a1) 465 (some (s_ ((81 + (24 * a0)) + a1 : Int32).toNatClampNeg))))
theorem uX8_pixel_X8 : ∀ w ∈ wsX80, w ∈ wsX8_pixel := by decide +kernel
theorem kX8_pixel_1 : Cond.fieldLink RX8 7 "LeaningLinesModel" "s" "[I" ∈ wsX8_pixel := by decide +kernel
abbrev R_X8_pixel : Room := { frames := 2, cells := 0, slots := 0, locals := 43 }
set_option maxHeartbeats 4000000 in
set_option maxRecDepth 100000 in
theorem m_X8_pixel (l : Launch) (D : va_G) (cI cC cZ cR : ClassId) (mo mo1 mo2 mo3 mo4 mo5 : Nat) (sz : Nat) (kn : Int32) (le_ : Int32) (s_ : Nat → Int32) (past : Nat → Int32) (slo : Nat → Int32) (isv : Nat → Int32) (pad_ : Nat → Int32)  (a0 : Int32) (a1 : Int32)   (r : OUT_X8_pixel) (hf : f_X8_pixel s_ a0 a1 = some r) : Met l yX8_pixel wsX8_pixel R_X8_pixel (cPc D cI cC cZ cR [.ref mo, .int a0, .int a1] sz (ws_model cI cC cZ cR mo mo1 mo2 mo3 mo4 mo5 kn le_ s_ past slo isv pad_)) (cQi D (ws_model cI cC cZ cR mo mo1 mo2 mo3 mo4 mo5 kn le_ s_ past slo isv pad_) (va_A (ws_model cI cC cZ cR mo mo1 mo2 mo3 mo4 mo5 kn le_ s_ past slo isv pad_) sz) r) 0 0 (va_A (ws_model cI cC cZ cR mo mo1 mo2 mo3 mo4 mo5 kn le_ s_ past slo isv pad_) sz) := by
  refine Met.ofW (cc := cX8_pixel) (maxL := 3) (ret := (some .int)) (by decide) rfl ?_
  intro p e s m args below meth c s₁ B hml hv
  obtain ⟨rfl, hsz, hP, hK, hD0⟩ := hv
  have hx := B.exec
  have hb := B.bytes
  have hr := B.returns
  have hts := atoms_spec (ws := wsX8_pixel) B.pre
  have hown : s.vm.findClass RX8 = some m.cls := findClass_of_methodNamed B.named
  have hlocks := B.notSynchronized
  subst hsz
  have hD := hD0.self (sz := s.heap.size)
  generalize hAe : va_A (ws_model cI cC cZ cR mo mo1 mo2 mo3 mo4 mo5 kn le_ s_ past slo isv pad_) s.heap.size = A at hD ⊢
  skip
  have hA : ∀ q : Nat, s.heap.size ≤ q → A q := fun q h => by rw [← hAe]; exact Or.inr h
  have hS : va_S A s.heap s.heap [] := va_S.rf
  have hl := lv_entry ([.ref mo, .int a0, .int a1]) (n := 3) (Nat.le_of_ble_eq_true rfl)
  rw [lg_entry_eq]
  generalize (lg_sl ([.ref mo, .int a0, .int a1]) ++ List.replicate (3 - (lg_sl ([.ref mo, .int a0, .int a1])).length) Slot.unset).toArray = ls at hl ⊢
  have hl : lv_has ls 3 [(0, .ref mo), (1, .int a0), (2, .int a1)] := hl
  refine W_absQ (fun Q hQ => ?_)
  refine W.eq (g2 := F0 m 0 ls []) rfl ?_
  have h := hf
  unfold f_X8_pixel at h
  refine lv_iload_n hx hb dX8_pixel_0 rfl (lv_at hl 1 rfl) ?_
  refine lv_iload_n hx hb dX8_pixel_1 rfl (lv_at hl 2 rfl) ?_
  obtain ⟨r1, hcr1, h⟩ := bn_sp h
  have hPc := hP.sub (ws' := []) [] rfl
  have hDc := hD.sub (ws' := []) [] (by decide) rfl
  have hFc := va_free (wc := []) hD hS hA [] rfl
  refine va_calli (va_runS (As := [.int a0, .int a1]) (rest := []) ⟨hx, hb, hml, hown, hts⟩ (m_X8_isPixel l D cI cC cZ cR  _  a0 a1   r1 hcr1) (va_cwS 2 hts gX8_pixel_X8_isPixel rfl rfl rfl (by decide +kernel) ⟨Nat.le_of_ble_eq_true rfl, Nat.le_of_ble_eq_true rfl⟩) (cPc_ps hPc hK hDc) rfl rfl hl.1 rfl (lv_room (Nat.le_of_ble_eq_true rfl)) dX8_pixel_2 ⟨Nat.le_of_ble_eq_true rfl, Nat.le_of_ble_eq_true rfl⟩) hS (fun q _ h => hFc q h) hFc (fun xq u t H1 locs ht hvm hw hB hz1 hk1 hS => ?_)
  rw [hw]
  obtain ⟨hP1, hD1⟩ := hB
  rw [ht] at hP1
  obtain ⟨hP, hD⟩ := va_join (wr := [(mo, .inr (8, [.ref mo1, .ref mo2, .int kn, .ref mo3, .ref mo4, .ref mo5, .int le_])), (mo1, .inl (cI, 465, .inl s_)), (mo2, .inl (cI, 2790, .inl past)), (mo3, .inl (cI, 930, .inl slo)), (mo4, .inl (cZ, 2, .inl isv)), (mo5, .inl (cI, 80, .inl pad_))]) (w1 := []) hP hD [] [0, 1, 2, 3, 4, 5] rfl rfl (by decide) (by decide) hk1 hFc hP1 hD1
  generalize H1 = H at hP hS ⊢
  have hP : va_P D vwCl (ws_model cI cC cZ cR mo mo1 mo2 mo3 mo4 mo5 kn le_ s_ past slo isv pad_) H := hP
  have hD : va_D A (ws_model cI cC cZ cR mo mo1 mo2 mo3 mo4 mo5 kn le_ s_ past slo isv pad_) := hD
  refine lv_if_eq (tgt := 25) hx hb dX8_pixel_5 (by decide) (fun c2 => ?_) (fun c2 => ?_)
  · replace h := br_p c2 h
    refine lv_iconst (v := (-1)) hx hb dX8_pixel_25 (by decide) ?_
    have e9 := Option.some.inj h
    subst e9
    rw [hQ]
    exact W.iret (v := (-1)) hx hb hr (fun t ht hW => ⟨⟨(-1), (), rfl, rfl, by rw [ht]; exact hP, hD⟩, hS.F ht⟩) hS.2.2 dX8_pixel_26
  · replace h := br_n c2 h
    refine lv_aload_n hx hb dX8_pixel_8 rfl (lv_at hl 0 rfl) ?_
    refine va_get (D := D) (ci := 8) (v := .ref mo1) (C := RX8) (T := TX8) (N := 7) hx hb hts uX8_pixel_X8 hown hK.1 hP 0 rfl rfl 0 (by decide) (hts _ kX8_pixel_1) (fun _ h9 => h9) rfl dX8_pixel_9 ?_
    refine lv_bipush (v := 81) hx hb dX8_pixel_12 (by decide) ?_
    refine lv_bipush (v := 24) hx hb dX8_pixel_14 (by decide) ?_
    refine lv_iload_n hx hb dX8_pixel_16 rfl (lv_at hl 1 rfl) ?_
    refine lv_imul hx hb dX8_pixel_17 ?_
    refine lv_iadd hx hb dX8_pixel_18 ?_
    refine lv_iload_n hx hb dX8_pixel_19 rfl (lv_at hl 2 rfl) ?_
    refine lv_iadd hx hb dX8_pixel_20 ?_
    obtain ⟨hin, h⟩ := gd_sp h
    refine va_iald (D := D) hx hb hK.1 hP 1 0 rfl rfl hin dX8_pixel_21 ?_
    refine lv_goto (tgt := 26) hx hb dX8_pixel_22 (by decide) ?_
    have e9 := Option.some.inj h
    subst e9
    rw [hQ]
    exact W.iret (v := s_ ((81 + (24 * a0)) + a1 : Int32).toNatClampNeg) hx hb hr (fun t ht hW => ⟨⟨s_ ((81 + (24 * a0)) + a1 : Int32).toNatClampNeg, (), rfl, rfl, by rw [ht]; exact hP, hD⟩, hS.F ht⟩) hS.2.2 dX8_pixel_26
-- LeaningLinesModel.joined
abbrev OUT_X8_joined : Type := Int32
def f_X8_joined_L35 (s_ : Nat → Int32) (a0 : Int32) (a1 : Int32) (k : Int32 → Int32 → Option OUT_X8_joined) : Nat → Int32 → Int32 → Option OUT_X8_joined
  | 0 => fun _ _ => none
  | n + 1 => fun v5 v6 => gd 3 465 (gd 3 465 ((if ((a0 * (s_ (3 : Int32).toNatClampNeg)) + (s_ (3 : Int32).toNatClampNeg)) ≤ v6 then k v5 v6 else (if 16 ≤ v6 then k v5 v6 else gd ((81 + (24 * v6)) + a1) 465 (bd (v5 + (s_ ((81 + (24 * v6)) + a1 : Int32).toNatClampNeg)) (fun x7 => bd (v6 + 1) (fun x8 => f_X8_joined_L35 s_ a0 a1 k n x7 x8)))))))
theorem f_X8_joined_L35_s (s_ : Nat → Int32) (a0 : Int32) (a1 : Int32) (k : Int32 → Int32 → Option OUT_X8_joined) (n : Nat) (v5 : Int32) (v6 : Int32) : f_X8_joined_L35 s_ a0 a1 k (n + 1) v5 v6 = (gd 3 465 (gd 3 465 ((if ((a0 * (s_ (3 : Int32).toNatClampNeg)) + (s_ (3 : Int32).toNatClampNeg)) ≤ v6 then k v5 v6 else (if 16 ≤ v6 then k v5 v6 else gd ((81 + (24 * v6)) + a1) 465 (bd (v5 + (s_ ((81 + (24 * v6)) + a1 : Int32).toNatClampNeg)) (fun x7 => bd (v6 + 1) (fun x8 => f_X8_joined_L35 s_ a0 a1 k n x7 x8)))))))) := rfl
def f_X8_joined (s_ : Nat → Int32) (a0 : Int32) (a1 : Int32) : Option OUT_X8_joined :=
  bn (f_X8_isPixel a0 a1) (fun r1 => (if r1 = 0 then some ((-1)) else gd 3 465 ((if (a0 * (s_ (3 : Int32).toNatClampNeg)) < 16 then gd 3 465 (bd (a0 * (s_ (3 : Int32).toNatClampNeg)) (fun x2 => f_X8_joined_L35 s_ a0 a1 (fun (w11 : Int32) (w12 : Int32) => some (w11)) 4000 0 x2)) else some ((-1))))))
theorem uX8_joined_X8 : ∀ w ∈ wsX80, w ∈ wsX8_joined := by decide +kernel
theorem kX8_joined_1 : Cond.fieldLink RX8 7 "LeaningLinesModel" "s" "[I" ∈ wsX8_joined := by decide +kernel
abbrev R_X8_joined : Room := { frames := 2, cells := 0, slots := 0, locals := 43 }
set_option maxHeartbeats 4000000 in
set_option maxRecDepth 100000 in
theorem m_X8_joined (l : Launch) (D : va_G) (cI cC cZ cR : ClassId) (mo mo1 mo2 mo3 mo4 mo5 : Nat) (sz : Nat) (kn : Int32) (le_ : Int32) (s_ : Nat → Int32) (past : Nat → Int32) (slo : Nat → Int32) (isv : Nat → Int32) (pad_ : Nat → Int32)  (a0 : Int32) (a1 : Int32)   (r : OUT_X8_joined) (hf : f_X8_joined s_ a0 a1 = some r) : Met l yX8_joined wsX8_joined R_X8_joined (cPc D cI cC cZ cR [.ref mo, .int a0, .int a1] sz (ws_model cI cC cZ cR mo mo1 mo2 mo3 mo4 mo5 kn le_ s_ past slo isv pad_)) (cQi D (ws_model cI cC cZ cR mo mo1 mo2 mo3 mo4 mo5 kn le_ s_ past slo isv pad_) (va_A (ws_model cI cC cZ cR mo mo1 mo2 mo3 mo4 mo5 kn le_ s_ past slo isv pad_) sz) r) 0 0 (va_A (ws_model cI cC cZ cR mo mo1 mo2 mo3 mo4 mo5 kn le_ s_ past slo isv pad_) sz) := by
  refine Met.ofW (cc := cX8_joined) (maxL := 5) (ret := (some .int)) (by decide) rfl ?_
  intro p e s m args below meth c s₁ B hml hv
  obtain ⟨rfl, hsz, hP, hK, hD0⟩ := hv
  have hx := B.exec
  have hb := B.bytes
  have hr := B.returns
  have hts := atoms_spec (ws := wsX8_joined) B.pre
  have hown : s.vm.findClass RX8 = some m.cls := findClass_of_methodNamed B.named
  have hlocks := B.notSynchronized
  subst hsz
  have hD := hD0.self (sz := s.heap.size)
  generalize hAe : va_A (ws_model cI cC cZ cR mo mo1 mo2 mo3 mo4 mo5 kn le_ s_ past slo isv pad_) s.heap.size = A at hD ⊢
  skip
  have hA : ∀ q : Nat, s.heap.size ≤ q → A q := fun q h => by rw [← hAe]; exact Or.inr h
  have hS : va_S A s.heap s.heap [] := va_S.rf
  have hl := lv_entry ([.ref mo, .int a0, .int a1]) (n := 5) (Nat.le_of_ble_eq_true rfl)
  rw [lg_entry_eq]
  generalize (lg_sl ([.ref mo, .int a0, .int a1]) ++ List.replicate (5 - (lg_sl ([.ref mo, .int a0, .int a1])).length) Slot.unset).toArray = ls at hl ⊢
  have hl : lv_has ls 5 [(0, .ref mo), (1, .int a0), (2, .int a1)] := hl
  refine W_absQ (fun Q hQ => ?_)
  refine W.eq (g2 := F0 m 0 ls []) rfl ?_
  have h := hf
  unfold f_X8_joined at h
  refine lv_iload_n hx hb dX8_joined_0 rfl (lv_at hl 1 rfl) ?_
  refine lv_iload_n hx hb dX8_joined_1 rfl (lv_at hl 2 rfl) ?_
  obtain ⟨r1, hcr1, h⟩ := bn_sp h
  have hPc := hP.sub (ws' := []) [] rfl
  have hDc := hD.sub (ws' := []) [] (by decide) rfl
  have hFc := va_free (wc := []) hD hS hA [] rfl
  refine va_calli (va_runS (As := [.int a0, .int a1]) (rest := []) ⟨hx, hb, hml, hown, hts⟩ (m_X8_isPixel l D cI cC cZ cR  _  a0 a1   r1 hcr1) (va_cwS 2 hts gX8_joined_X8_isPixel rfl rfl rfl (by decide +kernel) ⟨Nat.le_of_ble_eq_true rfl, Nat.le_of_ble_eq_true rfl⟩) (cPc_ps hPc hK hDc) rfl rfl hl.1 rfl (lv_room (Nat.le_of_ble_eq_true rfl)) dX8_joined_2 ⟨Nat.le_of_ble_eq_true rfl, Nat.le_of_ble_eq_true rfl⟩) hS (fun q _ h => hFc q h) hFc (fun xq u t H1 locs ht hvm hw hB hz1 hk1 hS => ?_)
  rw [hw]
  obtain ⟨hP1, hD1⟩ := hB
  rw [ht] at hP1
  obtain ⟨hP, hD⟩ := va_join (wr := [(mo, .inr (8, [.ref mo1, .ref mo2, .int kn, .ref mo3, .ref mo4, .ref mo5, .int le_])), (mo1, .inl (cI, 465, .inl s_)), (mo2, .inl (cI, 2790, .inl past)), (mo3, .inl (cI, 930, .inl slo)), (mo4, .inl (cZ, 2, .inl isv)), (mo5, .inl (cI, 80, .inl pad_))]) (w1 := []) hP hD [] [0, 1, 2, 3, 4, 5] rfl rfl (by decide) (by decide) hk1 hFc hP1 hD1
  generalize H1 = H at hP hS ⊢
  have hP : va_P D vwCl (ws_model cI cC cZ cR mo mo1 mo2 mo3 mo4 mo5 kn le_ s_ past slo isv pad_) H := hP
  have hD : va_D A (ws_model cI cC cZ cR mo mo1 mo2 mo3 mo4 mo5 kn le_ s_ past slo isv pad_) := hD
  refine lv_if_eq (tgt := 21) hx hb dX8_joined_5 (by decide) (fun c14 => ?_) (fun c14 => ?_)
  · replace h := br_p c14 h
    refine lv_iconst (v := (-1)) hx hb dX8_joined_21 (by decide) ?_
    have e9 := Option.some.inj h
    subst e9
    rw [hQ]
    exact W.iret (v := (-1)) hx hb hr (fun t ht hW => ⟨⟨(-1), (), rfl, rfl, by rw [ht]; exact hP, hD⟩, hS.F ht⟩) hS.2.2 dX8_joined_22
  · replace h := br_n c14 h
    refine lv_iload_n hx hb dX8_joined_8 rfl (lv_at hl 1 rfl) ?_
    refine lv_aload_n hx hb dX8_joined_9 rfl (lv_at hl 0 rfl) ?_
    refine va_get (D := D) (ci := 8) (v := .ref mo1) (C := RX8) (T := TX8) (N := 7) hx hb hts uX8_joined_X8 hown hK.1 hP 0 rfl rfl 0 (by decide) (hts _ kX8_joined_1) (fun _ h9 => h9) rfl dX8_joined_10 ?_
    refine lv_iconst (v := 3) hx hb dX8_joined_13 (by decide) ?_
    obtain ⟨hin, h⟩ := gd_sp h
    refine va_iald (D := D) hx hb hK.1 hP 1 0 rfl rfl hin dX8_joined_14 ?_
    refine lv_imul hx hb dX8_joined_15 ?_
    refine lv_bipush (v := 16) hx hb dX8_joined_16 (by decide) ?_
    refine lv_icmp_lt (tgt := 23) hx hb dX8_joined_18 (by decide) (fun c13 => ?_) (fun c13 => ?_)
    · replace h := br_p c13 h
      refine lv_iconst (v := 0) hx hb dX8_joined_23 (by decide) ?_
      refine lv_istore_n (lv' := [(3, .int 0), (0, .ref mo), (1, .int a0), (2, .int a1)]) hx hb dX8_joined_24 rfl hl (by decide) rfl (fun ls hl => ?_)
      refine lv_iload_n hx hb dX8_joined_25 rfl (lv_at hl 2 rfl) ?_
      refine lv_aload_n hx hb dX8_joined_26 rfl (lv_at hl 1 rfl) ?_
      refine va_get (D := D) (ci := 8) (v := .ref mo1) (C := RX8) (T := TX8) (N := 7) hx hb hts uX8_joined_X8 hown hK.1 hP 0 rfl rfl 0 (by decide) (hts _ kX8_joined_1) (fun _ h9 => h9) rfl dX8_joined_27 ?_
      refine lv_iconst (v := 3) hx hb dX8_joined_30 (by decide) ?_
      obtain ⟨hin, h⟩ := gd_sp h
      refine va_iald (D := D) hx hb hK.1 hP 1 0 rfl rfl hin dX8_joined_31 ?_
      refine lv_imul hx hb dX8_joined_32 ?_
      refine lv_topi (fun x2 ex2 => ?_)
      replace h := bd_s2 h ex2
      refine lv_istore (lv' := [(4, .int x2), (3, .int 0), (0, .ref mo), (1, .int a0), (2, .int a1)]) hx hb dX8_joined_33 hl (by decide) rfl (fun ls hl => ?_)
      have L35 : ∀ (k : Int32 → Int32 → Option OUT_X8_joined), (∀ (w11 : Int32) (w12 : Int32) (H : Heap) (locs : List Loc) (ls : Array Slot), k w11 w12 = some r → va_P D vwCl (ws_model cI cC cZ cR mo mo1 mo2 mo3 mo4 mo5 kn le_ s_ past slo isv pad_) H → va_D A (ws_model cI cC cZ cR mo mo1 mo2 mo3 mo4 mo5 kn le_ s_ past slo isv pad_) → va_S A s.heap H locs → lv_has ls 5 [(0, .ref mo), (1, .int a0), (2, .int a1), (3, .int w11), (4, .int w12)] → W p l e R_X8_joined s m ([.ref mo, .int a0, .int a1] : List Value).toArray below meth c H locs 0 0 Q (F0 m 86 ls [])) → ∀ (n : Nat) (v5 : Int32) (v6 : Int32) (H : Heap) (locs : List Loc) (ls : Array Slot), f_X8_joined_L35 s_ a0 a1 k n v5 v6 = some r → va_P D vwCl (ws_model cI cC cZ cR mo mo1 mo2 mo3 mo4 mo5 kn le_ s_ past slo isv pad_) H → va_D A (ws_model cI cC cZ cR mo mo1 mo2 mo3 mo4 mo5 kn le_ s_ past slo isv pad_) → va_S A s.heap H locs → lv_has ls 5 [(0, .ref mo), (1, .int a0), (2, .int a1), (3, .int v5), (4, .int v6)] → W p l e R_X8_joined s m ([.ref mo, .int a0, .int a1] : List Value).toArray below meth c H locs 0 0 Q (F0 m 35 ls []) := by
        intro k K n
        induction n with
        | zero => intro v5 v6 H locs ls h; exact no_sm h
        | succ n ih =>
          intro v5 v6 H locs ls h hP hD hS hl
          rw [f_X8_joined_L35_s] at h
          refine lv_iload hx hb dX8_joined_35 (lv_at hl 4 rfl) ?_
          refine lv_iload_n hx hb dX8_joined_37 rfl (lv_at hl 1 rfl) ?_
          refine lv_aload_n hx hb dX8_joined_38 rfl (lv_at hl 0 rfl) ?_
          refine va_get (D := D) (ci := 8) (v := .ref mo1) (C := RX8) (T := TX8) (N := 7) hx hb hts uX8_joined_X8 hown hK.1 hP 0 rfl rfl 0 (by decide) (hts _ kX8_joined_1) (fun _ h9 => h9) rfl dX8_joined_39 ?_
          refine lv_iconst (v := 3) hx hb dX8_joined_42 (by decide) ?_
          obtain ⟨hin, h⟩ := gd_sp h
          refine va_iald (D := D) hx hb hK.1 hP 1 0 rfl rfl hin dX8_joined_43 ?_
          refine lv_imul hx hb dX8_joined_44 ?_
          refine lv_aload_n hx hb dX8_joined_45 rfl (lv_at hl 0 rfl) ?_
          refine va_get (D := D) (ci := 8) (v := .ref mo1) (C := RX8) (T := TX8) (N := 7) hx hb hts uX8_joined_X8 hown hK.1 hP 0 rfl rfl 0 (by decide) (hts _ kX8_joined_1) (fun _ h9 => h9) rfl dX8_joined_46 ?_
          refine lv_iconst (v := 3) hx hb dX8_joined_49 (by decide) ?_
          obtain ⟨hin, h⟩ := gd_sp h
          refine va_iald (D := D) hx hb hK.1 hP 1 0 rfl rfl hin dX8_joined_50 ?_
          refine lv_iadd hx hb dX8_joined_51 ?_
          refine lv_icmp_ge (tgt := 86) hx hb dX8_joined_52 (by decide) (fun c10 => ?_) (fun c10 => ?_)
          · replace h := br_p c10 h
            exact K _ _ _ _ _ h hP hD hS (lv_sub hl [0, 1, 2, 3, 4] rfl)
          · replace h := br_n c10 h
            refine lv_iload hx hb dX8_joined_55 (lv_at hl 4 rfl) ?_
            refine lv_bipush (v := 16) hx hb dX8_joined_57 (by decide) ?_
            refine lv_icmp_ge (tgt := 86) hx hb dX8_joined_59 (by decide) (fun c9 => ?_) (fun c9 => ?_)
            · replace h := br_p c9 h
              exact K _ _ _ _ _ h hP hD hS (lv_sub hl [0, 1, 2, 3, 4] rfl)
            · replace h := br_n c9 h
              refine lv_iload_n hx hb dX8_joined_62 rfl (lv_at hl 3 rfl) ?_
              refine lv_aload_n hx hb dX8_joined_63 rfl (lv_at hl 0 rfl) ?_
              refine va_get (D := D) (ci := 8) (v := .ref mo1) (C := RX8) (T := TX8) (N := 7) hx hb hts uX8_joined_X8 hown hK.1 hP 0 rfl rfl 0 (by decide) (hts _ kX8_joined_1) (fun _ h9 => h9) rfl dX8_joined_64 ?_
              refine lv_bipush (v := 81) hx hb dX8_joined_67 (by decide) ?_
              refine lv_bipush (v := 24) hx hb dX8_joined_69 (by decide) ?_
              refine lv_iload hx hb dX8_joined_71 (lv_at hl 4 rfl) ?_
              refine lv_imul hx hb dX8_joined_73 ?_
              refine lv_iadd hx hb dX8_joined_74 ?_
              refine lv_iload_n hx hb dX8_joined_75 rfl (lv_at hl 2 rfl) ?_
              refine lv_iadd hx hb dX8_joined_76 ?_
              obtain ⟨hin, h⟩ := gd_sp h
              refine va_iald (D := D) hx hb hK.1 hP 1 0 rfl rfl hin dX8_joined_77 ?_
              refine lv_iadd hx hb dX8_joined_78 ?_
              refine lv_topi (fun x7 ex7 => ?_)
              replace h := bd_s2 h ex7
              refine lv_istore_n (lv' := [(3, .int x7), (0, .ref mo), (1, .int a0), (2, .int a1), (4, .int v6)]) hx hb dX8_joined_79 rfl hl (by decide) rfl (fun ls hl => ?_)
              obtain ⟨x8, ex8, h⟩ := bd_sp h
              refine lv_iinc (v := x8) (lv' := [(4, .int x8), (3, .int x7), (0, .ref mo), (1, .int a0), (2, .int a1)]) hx hb dX8_joined_80 hl (k := 4) rfl (by rw [ex8]; rfl) (by decide) rfl (fun ls hl => ?_)
              refine lv_goto (tgt := 35) hx hb dX8_joined_83 (by decide) ?_
              exact ih _ _ _ _ _ h hP hD hS (lv_sub hl [2, 3, 4, 1, 0] rfl)
      refine L35 _ (fun w11 w12 H locs ls h hP hD hS hl => ?_) 4000 0 x2 _ _ _ h hP hD hS (lv_sub hl [2, 3, 4, 1, 0] rfl)
      refine lv_iload_n hx hb dX8_joined_86 rfl (lv_at hl 3 rfl) ?_
      have e9 := Option.some.inj h
      subst e9
      rw [hQ]
      exact W.iret (v := w11) hx hb hr (fun t ht hW => ⟨⟨w11, (), rfl, rfl, by rw [ht]; exact hP, hD⟩, hS.F ht⟩) hS.2.2 dX8_joined_87
    · replace h := br_n c13 h
      refine lv_iconst (v := (-1)) hx hb dX8_joined_21 (by decide) ?_
      have e9 := Option.some.inj h
      subst e9
      rw [hQ]
      exact W.iret (v := (-1)) hx hb hr (fun t ht hW => ⟨⟨(-1), (), rfl, rfl, by rw [ht]; exact hP, hD⟩, hS.F ht⟩) hS.2.2 dX8_joined_22
-- LeaningLinesModel.ofLine
abbrev OUT_X8_ofLine : Type := Int32
def f_X8_ofLine (s_ : Nat → Int32) (a0 : Int32) (a1 : Int32) : Option OUT_X8_ofLine :=
  bn (f_X8_in a0 0 15) (fun r1 => (if ¬ r1 = 0 then (if ¬ a1 = 0 then (if ¬ a1 = 1 then (if ¬ a1 = 2 then some ((-2)) else bn (f_X8_leftmost s_ a0) (fun r2 => some (r2))) else bn (f_X8_sumOf s_ a0) (fun r4 => some (r4))) else bn (f_X8_lit s_ a0) (fun r6 => some (r6))) else some ((-1))))
abbrev R_X8_ofLine : Room := { frames := 1, cells := 0, slots := 0, locals := 23 }
set_option maxHeartbeats 4000000 in
set_option maxRecDepth 100000 in
theorem m_X8_ofLine (l : Launch) (D : va_G) (cI cC cZ cR : ClassId) (mo mo1 mo2 mo3 mo4 mo5 : Nat) (sz : Nat) (kn : Int32) (le_ : Int32) (s_ : Nat → Int32) (past : Nat → Int32) (slo : Nat → Int32) (isv : Nat → Int32) (pad_ : Nat → Int32)  (a0 : Int32) (a1 : Int32)   (r : OUT_X8_ofLine) (hf : f_X8_ofLine s_ a0 a1 = some r) : Met l yX8_ofLine wsX8_ofLine R_X8_ofLine (cPc D cI cC cZ cR [.ref mo, .int a0, .int a1] sz (ws_model cI cC cZ cR mo mo1 mo2 mo3 mo4 mo5 kn le_ s_ past slo isv pad_)) (cQi D (ws_model cI cC cZ cR mo mo1 mo2 mo3 mo4 mo5 kn le_ s_ past slo isv pad_) (va_A (ws_model cI cC cZ cR mo mo1 mo2 mo3 mo4 mo5 kn le_ s_ past slo isv pad_) sz) r) 0 0 (va_A (ws_model cI cC cZ cR mo mo1 mo2 mo3 mo4 mo5 kn le_ s_ past slo isv pad_) sz) := by
  refine Met.ofW (cc := cX8_ofLine) (maxL := 3) (ret := (some .int)) (by decide) rfl ?_
  intro p e s m args below meth c s₁ B hml hv
  obtain ⟨rfl, hsz, hP, hK, hD0⟩ := hv
  have hx := B.exec
  have hb := B.bytes
  have hr := B.returns
  have hts := atoms_spec (ws := wsX8_ofLine) B.pre
  have hown : s.vm.findClass RX8 = some m.cls := findClass_of_methodNamed B.named
  have hlocks := B.notSynchronized
  subst hsz
  have hD := hD0.self (sz := s.heap.size)
  generalize hAe : va_A (ws_model cI cC cZ cR mo mo1 mo2 mo3 mo4 mo5 kn le_ s_ past slo isv pad_) s.heap.size = A at hD ⊢
  skip
  have hA : ∀ q : Nat, s.heap.size ≤ q → A q := fun q h => by rw [← hAe]; exact Or.inr h
  have hS : va_S A s.heap s.heap [] := va_S.rf
  have hl := lv_entry ([.ref mo, .int a0, .int a1]) (n := 3) (Nat.le_of_ble_eq_true rfl)
  rw [lg_entry_eq]
  generalize (lg_sl ([.ref mo, .int a0, .int a1]) ++ List.replicate (3 - (lg_sl ([.ref mo, .int a0, .int a1])).length) Slot.unset).toArray = ls at hl ⊢
  have hl : lv_has ls 3 [(0, .ref mo), (1, .int a0), (2, .int a1)] := hl
  refine W_absQ (fun Q hQ => ?_)
  refine W.eq (g2 := F0 m 0 ls []) rfl ?_
  have h := hf
  unfold f_X8_ofLine at h
  refine lv_iload_n hx hb dX8_ofLine_0 rfl (lv_at hl 1 rfl) ?_
  refine lv_iconst (v := 0) hx hb dX8_ofLine_1 (by decide) ?_
  refine lv_bipush (v := 15) hx hb dX8_ofLine_2 (by decide) ?_
  obtain ⟨r1, hcr1, h⟩ := bn_sp h
  have hPc := hP.sub (ws' := []) [] rfl
  have hDc := hD.sub (ws' := []) [] (by decide) rfl
  have hFc := va_free (wc := []) hD hS hA [] rfl
  refine va_calli (va_runS (As := [.int a0, .int 0, .int 15]) (rest := []) ⟨hx, hb, hml, hown, hts⟩ (m_X8_in l D cI cC cZ cR  _  a0 0 15   r1 hcr1) (va_cwS 3 hts gX8_ofLine_X8_in rfl rfl rfl (by decide +kernel) ⟨Nat.le_of_ble_eq_true rfl, Nat.le_of_ble_eq_true rfl⟩) (cPc_ps hPc hK hDc) rfl rfl hl.1 rfl (lv_room (Nat.le_of_ble_eq_true rfl)) dX8_ofLine_4 ⟨Nat.le_of_ble_eq_true rfl, Nat.le_of_ble_eq_true rfl⟩) hS (fun q _ h => hFc q h) hFc (fun xq u t H1 locs ht hvm hw hB hz1 hk1 hS => ?_)
  rw [hw]
  obtain ⟨hP1, hD1⟩ := hB
  rw [ht] at hP1
  obtain ⟨hP, hD⟩ := va_join (wr := [(mo, .inr (8, [.ref mo1, .ref mo2, .int kn, .ref mo3, .ref mo4, .ref mo5, .int le_])), (mo1, .inl (cI, 465, .inl s_)), (mo2, .inl (cI, 2790, .inl past)), (mo3, .inl (cI, 930, .inl slo)), (mo4, .inl (cZ, 2, .inl isv)), (mo5, .inl (cI, 80, .inl pad_))]) (w1 := []) hP hD [] [0, 1, 2, 3, 4, 5] rfl rfl (by decide) (by decide) hk1 hFc hP1 hD1
  generalize H1 = H at hP hS ⊢
  have hP : va_P D vwCl (ws_model cI cC cZ cR mo mo1 mo2 mo3 mo4 mo5 kn le_ s_ past slo isv pad_) H := hP
  have hD : va_D A (ws_model cI cC cZ cR mo mo1 mo2 mo3 mo4 mo5 kn le_ s_ past slo isv pad_) := hD
  refine lv_if_ne (tgt := 12) hx hb dX8_ofLine_7 (by decide) (fun c8 => ?_) (fun c8 => ?_)
  · replace h := br_p c8 h
    refine lv_iload_n hx hb dX8_ofLine_12 rfl (lv_at hl 2 rfl) ?_
    refine lv_if_ne (tgt := 24) hx hb dX8_ofLine_13 (by decide) (fun c7 => ?_) (fun c7 => ?_)
    · replace h := br_p c7 h
      refine lv_iload_n hx hb dX8_ofLine_24 rfl (lv_at hl 2 rfl) ?_
      refine lv_iconst (v := 1) hx hb dX8_ofLine_25 (by decide) ?_
      refine lv_icmp_ne (tgt := 37) hx hb dX8_ofLine_26 (by decide) (fun c5 => ?_) (fun c5 => ?_)
      · replace h := br_p c5 h
        refine lv_iload_n hx hb dX8_ofLine_37 rfl (lv_at hl 2 rfl) ?_
        refine lv_iconst (v := 2) hx hb dX8_ofLine_38 (by decide) ?_
        refine lv_icmp_ne (tgt := 50) hx hb dX8_ofLine_39 (by decide) (fun c3 => ?_) (fun c3 => ?_)
        · replace h := br_p c3 h
          refine lv_bipush (v := (-2)) hx hb dX8_ofLine_50 (by decide) ?_
          have e9 := Option.some.inj h
          subst e9
          rw [hQ]
          exact W.iret (v := (-2)) hx hb hr (fun t ht hW => ⟨⟨(-2), (), rfl, rfl, by rw [ht]; exact hP, hD⟩, hS.F ht⟩) hS.2.2 dX8_ofLine_52
        · replace h := br_n (not_not_intro c3) h
          refine lv_aload_n hx hb dX8_ofLine_42 rfl (lv_at hl 0 rfl) ?_
          refine lv_iload_n hx hb dX8_ofLine_43 rfl (lv_at hl 1 rfl) ?_
          obtain ⟨r2, hcr2, h⟩ := bn_sp h
          have hPc := hP.sub (ws' := (ws_model cI cC cZ cR mo mo1 mo2 mo3 mo4 mo5 kn le_ s_ past slo isv pad_)) [0, 1, 2, 3, 4, 5] rfl
          have hDc := hD.sub (ws' := (ws_model cI cC cZ cR mo mo1 mo2 mo3 mo4 mo5 kn le_ s_ past slo isv pad_)) [0, 1, 2, 3, 4, 5] (by decide) rfl
          have hFc := va_free (wc := (ws_model cI cC cZ cR mo mo1 mo2 mo3 mo4 mo5 kn le_ s_ past slo isv pad_)) hD hS hA [0, 1, 2, 3, 4, 5] rfl
          refine va_calli (va_runV (As := [.int a0]) (rest := []) ⟨hx, hb, hml, hown, hts⟩ (m_X8_leftmost l D cI cC cZ cR mo mo1 mo2 mo3 mo4 mo5 _ kn le_ s_ past slo isv pad_ a0   r2 hcr2) (cwV 1 hts gX8_ofLine_X8_leftmost rfl rfl rfl (by decide +kernel) ⟨Nat.le_of_ble_eq_true rfl, Nat.le_of_ble_eq_true rfl⟩) (cPc_pv hPc hK hDc (ci := 8) (q0 := 0) rfl rfl) rfl rfl hl.1 rfl (lv_room (Nat.le_of_ble_eq_true rfl)) dX8_ofLine_44 ⟨Nat.le_of_ble_eq_true rfl, Nat.le_of_ble_eq_true rfl⟩) hS (fun q _ h => hFc q h) hFc (fun xq u t H1 locs ht hvm hw hB hz1 hk1 hS => ?_)
          rw [hw]
          obtain ⟨hP1, hD1⟩ := hB
          rw [ht] at hP1
          obtain ⟨hP, hD⟩ := va_join (wr := []) (w1 := (ws_model cI cC cZ cR mo mo1 mo2 mo3 mo4 mo5 kn le_ s_ past slo isv pad_)) hP hD [0, 1, 2, 3, 4, 5] [] rfl rfl (by decide) (by decide) hk1 hFc hP1 hD1
          generalize H1 = H at hP hS ⊢
          have hP : va_P D vwCl (ws_model cI cC cZ cR mo mo1 mo2 mo3 mo4 mo5 kn le_ s_ past slo isv pad_) H := hP
          have hD : va_D A (ws_model cI cC cZ cR mo mo1 mo2 mo3 mo4 mo5 kn le_ s_ past slo isv pad_) := hD
          refine lv_goto (tgt := 52) hx hb dX8_ofLine_47 (by decide) ?_
          have e9 := Option.some.inj h
          subst e9
          rw [hQ]
          exact W.iret (v := r2) hx hb hr (fun t ht hW => ⟨⟨r2, (), rfl, rfl, by rw [ht]; exact hP, hD⟩, hS.F ht⟩) hS.2.2 dX8_ofLine_52
      · replace h := br_n (not_not_intro c5) h
        refine lv_aload_n hx hb dX8_ofLine_29 rfl (lv_at hl 0 rfl) ?_
        refine lv_iload_n hx hb dX8_ofLine_30 rfl (lv_at hl 1 rfl) ?_
        obtain ⟨r4, hcr4, h⟩ := bn_sp h
        have hPc := hP.sub (ws' := (ws_model cI cC cZ cR mo mo1 mo2 mo3 mo4 mo5 kn le_ s_ past slo isv pad_)) [0, 1, 2, 3, 4, 5] rfl
        have hDc := hD.sub (ws' := (ws_model cI cC cZ cR mo mo1 mo2 mo3 mo4 mo5 kn le_ s_ past slo isv pad_)) [0, 1, 2, 3, 4, 5] (by decide) rfl
        have hFc := va_free (wc := (ws_model cI cC cZ cR mo mo1 mo2 mo3 mo4 mo5 kn le_ s_ past slo isv pad_)) hD hS hA [0, 1, 2, 3, 4, 5] rfl
        refine va_calli (va_runV (As := [.int a0]) (rest := []) ⟨hx, hb, hml, hown, hts⟩ (m_X8_sumOf l D cI cC cZ cR mo mo1 mo2 mo3 mo4 mo5 _ kn le_ s_ past slo isv pad_ a0   r4 hcr4) (cwV 1 hts gX8_ofLine_X8_sumOf rfl rfl rfl (by decide +kernel) ⟨Nat.le_of_ble_eq_true rfl, Nat.le_of_ble_eq_true rfl⟩) (cPc_pv hPc hK hDc (ci := 8) (q0 := 0) rfl rfl) rfl rfl hl.1 rfl (lv_room (Nat.le_of_ble_eq_true rfl)) dX8_ofLine_31 ⟨Nat.le_of_ble_eq_true rfl, Nat.le_of_ble_eq_true rfl⟩) hS (fun q _ h => hFc q h) hFc (fun xq u t H1 locs ht hvm hw hB hz1 hk1 hS => ?_)
        rw [hw]
        obtain ⟨hP1, hD1⟩ := hB
        rw [ht] at hP1
        obtain ⟨hP, hD⟩ := va_join (wr := []) (w1 := (ws_model cI cC cZ cR mo mo1 mo2 mo3 mo4 mo5 kn le_ s_ past slo isv pad_)) hP hD [0, 1, 2, 3, 4, 5] [] rfl rfl (by decide) (by decide) hk1 hFc hP1 hD1
        generalize H1 = H at hP hS ⊢
        have hP : va_P D vwCl (ws_model cI cC cZ cR mo mo1 mo2 mo3 mo4 mo5 kn le_ s_ past slo isv pad_) H := hP
        have hD : va_D A (ws_model cI cC cZ cR mo mo1 mo2 mo3 mo4 mo5 kn le_ s_ past slo isv pad_) := hD
        refine lv_goto (tgt := 52) hx hb dX8_ofLine_34 (by decide) ?_
        have e9 := Option.some.inj h
        subst e9
        rw [hQ]
        exact W.iret (v := r4) hx hb hr (fun t ht hW => ⟨⟨r4, (), rfl, rfl, by rw [ht]; exact hP, hD⟩, hS.F ht⟩) hS.2.2 dX8_ofLine_52
    · replace h := br_n (not_not_intro c7) h
      refine lv_aload_n hx hb dX8_ofLine_16 rfl (lv_at hl 0 rfl) ?_
      refine lv_iload_n hx hb dX8_ofLine_17 rfl (lv_at hl 1 rfl) ?_
      obtain ⟨r6, hcr6, h⟩ := bn_sp h
      have hPc := hP.sub (ws' := (ws_model cI cC cZ cR mo mo1 mo2 mo3 mo4 mo5 kn le_ s_ past slo isv pad_)) [0, 1, 2, 3, 4, 5] rfl
      have hDc := hD.sub (ws' := (ws_model cI cC cZ cR mo mo1 mo2 mo3 mo4 mo5 kn le_ s_ past slo isv pad_)) [0, 1, 2, 3, 4, 5] (by decide) rfl
      have hFc := va_free (wc := (ws_model cI cC cZ cR mo mo1 mo2 mo3 mo4 mo5 kn le_ s_ past slo isv pad_)) hD hS hA [0, 1, 2, 3, 4, 5] rfl
      refine va_calli (va_runV (As := [.int a0]) (rest := []) ⟨hx, hb, hml, hown, hts⟩ (m_X8_lit l D cI cC cZ cR mo mo1 mo2 mo3 mo4 mo5 _ kn le_ s_ past slo isv pad_ a0   r6 hcr6) (cwV 1 hts gX8_ofLine_X8_lit rfl rfl rfl (by decide +kernel) ⟨Nat.le_of_ble_eq_true rfl, Nat.le_of_ble_eq_true rfl⟩) (cPc_pv hPc hK hDc (ci := 8) (q0 := 0) rfl rfl) rfl rfl hl.1 rfl (lv_room (Nat.le_of_ble_eq_true rfl)) dX8_ofLine_18 ⟨Nat.le_of_ble_eq_true rfl, Nat.le_of_ble_eq_true rfl⟩) hS (fun q _ h => hFc q h) hFc (fun xq u t H1 locs ht hvm hw hB hz1 hk1 hS => ?_)
      rw [hw]
      obtain ⟨hP1, hD1⟩ := hB
      rw [ht] at hP1
      obtain ⟨hP, hD⟩ := va_join (wr := []) (w1 := (ws_model cI cC cZ cR mo mo1 mo2 mo3 mo4 mo5 kn le_ s_ past slo isv pad_)) hP hD [0, 1, 2, 3, 4, 5] [] rfl rfl (by decide) (by decide) hk1 hFc hP1 hD1
      generalize H1 = H at hP hS ⊢
      have hP : va_P D vwCl (ws_model cI cC cZ cR mo mo1 mo2 mo3 mo4 mo5 kn le_ s_ past slo isv pad_) H := hP
      have hD : va_D A (ws_model cI cC cZ cR mo mo1 mo2 mo3 mo4 mo5 kn le_ s_ past slo isv pad_) := hD
      refine lv_goto (tgt := 52) hx hb dX8_ofLine_21 (by decide) ?_
      have e9 := Option.some.inj h
      subst e9
      rw [hQ]
      exact W.iret (v := r6) hx hb hr (fun t ht hW => ⟨⟨r6, (), rfl, rfl, by rw [ht]; exact hP, hD⟩, hS.F ht⟩) hS.2.2 dX8_ofLine_52
  · replace h := br_n (not_not_intro c8) h
    refine lv_iconst (v := (-1)) hx hb dX8_ofLine_10 (by decide) ?_
    have e9 := Option.some.inj h
    subst e9
    rw [hQ]
    exact W.iret (v := (-1)) hx hb hr (fun t ht hW => ⟨⟨(-1), (), rfl, rfl, by rw [ht]; exact hP, hD⟩, hS.F ht⟩) hS.2.2 dX8_ofLine_11
-- LeaningLinesModel.count
abbrev OUT_X8_count : Type := Int32
def f_X8_count (kn : Int32) (le_ : Int32) (s_ : Nat → Int32) (a0 : Int32) : Option OUT_X8_count :=
  jn (fun (_ : Unit) => bn (f_X8_in a0 8 11) (fun r1 => (if r1 = 0 then some ((-2)) else gd (a0 - 8) 465 (some (s_ (a0 - 8 : Int32).toNatClampNeg))))) (fun j150 => (if a0 = 0 then gd 4 465 (some (s_ (4 : Int32).toNatClampNeg)) else (if a0 = 1 then gd 5 465 (some (s_ (5 : Int32).toNatClampNeg)) else (if a0 = 2 then gd 6 465 (some (s_ (6 : Int32).toNatClampNeg)) else (if a0 = 3 then bn (f_X8_darkLines s_) (fun r6 => some (r6)) else (if a0 = 4 then bn (f_X8_brightest s_) (fun r8 => some (r8)) else (if a0 = 5 then bn (f_X8_bands s_) (fun r10 => some (r10)) else (if a0 = 6 then gd 7 465 ((if 0 ≤ (s_ (7 : Int32).toNatClampNeg) then gd 7 465 (some (s_ (7 : Int32).toNatClampNeg)) else some ((-6)))) else (if a0 = 7 then gd 8 465 (some (s_ (8 : Int32).toNatClampNeg)) else (if a0 = 8 then j150 () else (if a0 = 9 then j150 () else (if a0 = 10 then j150 () else (if a0 = 11 then j150 () else (if a0 = 12 then some (le_) else (if a0 = 13 then some (kn) else j150 ())))))))))))))))
theorem uX8_count_X8 : ∀ w ∈ wsX80, w ∈ wsX8_count := by decide +kernel
theorem kX8_count_1 : Cond.fieldLink RX8 7 "LeaningLinesModel" "s" "[I" ∈ wsX8_count := by decide +kernel
theorem kX8_count_2 : Cond.fieldLink RX8 121 "LeaningLinesModel" "length" "I" ∈ wsX8_count := by decide +kernel
theorem kX8_count_3 : Cond.fieldLink RX8 26 "LeaningLinesModel" "known" "I" ∈ wsX8_count := by decide +kernel
abbrev R_X8_count : Room := { frames := 2, cells := 0, slots := 0, locals := 45 }
set_option maxHeartbeats 4000000 in
set_option maxRecDepth 100000 in
theorem m_X8_count (l : Launch) (D : va_G) (cI cC cZ cR : ClassId) (mo mo1 mo2 mo3 mo4 mo5 : Nat) (sz : Nat) (kn : Int32) (le_ : Int32) (s_ : Nat → Int32) (past : Nat → Int32) (slo : Nat → Int32) (isv : Nat → Int32) (pad_ : Nat → Int32)  (a0 : Int32)   (r : OUT_X8_count) (hf : f_X8_count kn le_ s_ a0 = some r) : Met l yX8_count wsX8_count R_X8_count (cPc D cI cC cZ cR [.ref mo, .int a0] sz (ws_model cI cC cZ cR mo mo1 mo2 mo3 mo4 mo5 kn le_ s_ past slo isv pad_)) (cQi D (ws_model cI cC cZ cR mo mo1 mo2 mo3 mo4 mo5 kn le_ s_ past slo isv pad_) (va_A (ws_model cI cC cZ cR mo mo1 mo2 mo3 mo4 mo5 kn le_ s_ past slo isv pad_) sz) r) 0 0 (va_A (ws_model cI cC cZ cR mo mo1 mo2 mo3 mo4 mo5 kn le_ s_ past slo isv pad_) sz) := by
  refine Met.ofW (cc := cX8_count) (maxL := 2) (ret := (some .int)) (by decide) rfl ?_
  intro p e s m args below meth c s₁ B hml hv
  obtain ⟨rfl, hsz, hP, hK, hD0⟩ := hv
  have hx := B.exec
  have hb := B.bytes
  have hr := B.returns
  have hts := atoms_spec (ws := wsX8_count) B.pre
  have hown : s.vm.findClass RX8 = some m.cls := findClass_of_methodNamed B.named
  have hlocks := B.notSynchronized
  subst hsz
  have hD := hD0.self (sz := s.heap.size)
  generalize hAe : va_A (ws_model cI cC cZ cR mo mo1 mo2 mo3 mo4 mo5 kn le_ s_ past slo isv pad_) s.heap.size = A at hD ⊢
  skip
  have hA : ∀ q : Nat, s.heap.size ≤ q → A q := fun q h => by rw [← hAe]; exact Or.inr h
  have hS : va_S A s.heap s.heap [] := va_S.rf
  have hl := lv_entry ([.ref mo, .int a0]) (n := 2) (Nat.le_of_ble_eq_true rfl)
  rw [lg_entry_eq]
  generalize (lg_sl ([.ref mo, .int a0]) ++ List.replicate (2 - (lg_sl ([.ref mo, .int a0])).length) Slot.unset).toArray = ls at hl ⊢
  have hl : lv_has ls 2 [(0, .ref mo), (1, .int a0)] := hl
  refine W_absQ (fun Q hQ => ?_)
  refine W.eq (g2 := F0 m 0 ls []) rfl ?_
  have h := hf
  unfold f_X8_count at h
  refine lv_iload_n hx hb dX8_count_0 rfl (lv_at hl 1 rfl) ?_
  obtain ⟨j150, hj150, h⟩ := jn_sp h
  have J150 : ∀ (_u : Unit) (H : Heap) (locs : List Loc) (ls : Array Slot), j150 _u = some r → va_P D vwCl (ws_model cI cC cZ cR mo mo1 mo2 mo3 mo4 mo5 kn le_ s_ past slo isv pad_) H → va_D A (ws_model cI cC cZ cR mo mo1 mo2 mo3 mo4 mo5 kn le_ s_ past slo isv pad_) → va_S A s.heap H locs → lv_has ls 2 [(0, .ref mo), (1, .int a0)] → W p l e R_X8_count s m ([.ref mo, .int a0] : List Value).toArray below meth c H locs 0 0 Q (F0 m 150 ls []) := by
    intro _u H locs ls h hP hD hS hl
    rw [hj150] at h
    refine lv_iload_n hx hb dX8_count_150 rfl (lv_at hl 1 rfl) ?_
    refine lv_bipush (v := 8) hx hb dX8_count_151 (by decide) ?_
    refine lv_bipush (v := 11) hx hb dX8_count_153 (by decide) ?_
    obtain ⟨r1, hcr1, h⟩ := bn_sp h
    have hPc := hP.sub (ws' := []) [] rfl
    have hDc := hD.sub (ws' := []) [] (by decide) rfl
    have hFc := va_free (wc := []) hD hS hA [] rfl
    refine va_calli (va_runS (As := [.int a0, .int 8, .int 11]) (rest := []) ⟨hx, hb, hml, hown, hts⟩ (m_X8_in l D cI cC cZ cR  _  a0 8 11   r1 hcr1) (va_cwS 3 hts gX8_count_X8_in rfl rfl rfl (by decide +kernel) ⟨Nat.le_of_ble_eq_true rfl, Nat.le_of_ble_eq_true rfl⟩) (cPc_ps hPc hK hDc) rfl rfl hl.1 rfl (lv_room (Nat.le_of_ble_eq_true rfl)) dX8_count_155 ⟨Nat.le_of_ble_eq_true rfl, Nat.le_of_ble_eq_true rfl⟩) hS (fun q _ h => hFc q h) hFc (fun xq u t H1 locs ht hvm hw hB hz1 hk1 hS => ?_)
    rw [hw]
    obtain ⟨hP1, hD1⟩ := hB
    rw [ht] at hP1
    obtain ⟨hP, hD⟩ := va_join (wr := [(mo, .inr (8, [.ref mo1, .ref mo2, .int kn, .ref mo3, .ref mo4, .ref mo5, .int le_])), (mo1, .inl (cI, 465, .inl s_)), (mo2, .inl (cI, 2790, .inl past)), (mo3, .inl (cI, 930, .inl slo)), (mo4, .inl (cZ, 2, .inl isv)), (mo5, .inl (cI, 80, .inl pad_))]) (w1 := []) hP hD [] [0, 1, 2, 3, 4, 5] rfl rfl (by decide) (by decide) hk1 hFc hP1 hD1
    generalize H1 = H at hP hS ⊢
    have hP : va_P D vwCl (ws_model cI cC cZ cR mo mo1 mo2 mo3 mo4 mo5 kn le_ s_ past slo isv pad_) H := hP
    have hD : va_D A (ws_model cI cC cZ cR mo mo1 mo2 mo3 mo4 mo5 kn le_ s_ past slo isv pad_) := hD
    refine lv_if_eq (tgt := 173) hx hb dX8_count_158 (by decide) (fun c2 => ?_) (fun c2 => ?_)
    · replace h := br_p c2 h
      refine lv_bipush (v := (-2)) hx hb dX8_count_173 (by decide) ?_
      have e9 := Option.some.inj h
      subst e9
      rw [hQ]
      exact W.iret (v := (-2)) hx hb hr (fun t ht hW => ⟨⟨(-2), (), rfl, rfl, by rw [ht]; exact hP, hD⟩, hS.F ht⟩) hS.2.2 dX8_count_175
    · replace h := br_n c2 h
      refine lv_aload_n hx hb dX8_count_161 rfl (lv_at hl 0 rfl) ?_
      refine va_get (D := D) (ci := 8) (v := .ref mo1) (C := RX8) (T := TX8) (N := 7) hx hb hts uX8_count_X8 hown hK.1 hP 0 rfl rfl 0 (by decide) (hts _ kX8_count_1) (fun _ h9 => h9) rfl dX8_count_162 ?_
      refine lv_iload_n hx hb dX8_count_165 rfl (lv_at hl 1 rfl) ?_
      refine lv_bipush (v := 8) hx hb dX8_count_166 (by decide) ?_
      refine lv_isub hx hb dX8_count_168 ?_
      obtain ⟨hin, h⟩ := gd_sp h
      refine va_iald (D := D) hx hb hK.1 hP 1 0 rfl rfl hin dX8_count_169 ?_
      refine lv_goto (tgt := 175) hx hb dX8_count_170 (by decide) ?_
      have e9 := Option.some.inj h
      subst e9
      rw [hQ]
      exact W.iret (v := s_ (a0 - 8 : Int32).toNatClampNeg) hx hb hr (fun t ht hW => ⟨⟨s_ (a0 - 8 : Int32).toNatClampNeg, (), rfl, rfl, by rw [ht]; exact hP, hD⟩, hS.F ht⟩) hS.2.2 dX8_count_175
  by_cases c3 : a0 = 0
  · replace h := br_p c3 h
    refine lv_tableIn (tgt := 72) hx hb dX8_count_1 (by rw [c3]; decide) (by rw [c3]; decide) (by rw [c3]; rfl) (by decide) ?_
    refine lv_aload_n hx hb dX8_count_72 rfl (lv_at hl 0 rfl) ?_
    refine va_get (D := D) (ci := 8) (v := .ref mo1) (C := RX8) (T := TX8) (N := 7) hx hb hts uX8_count_X8 hown hK.1 hP 0 rfl rfl 0 (by decide) (hts _ kX8_count_1) (fun _ h9 => h9) rfl dX8_count_73 ?_
    refine lv_iconst (v := 4) hx hb dX8_count_76 (by decide) ?_
    obtain ⟨hin, h⟩ := gd_sp h
    refine va_iald (D := D) hx hb hK.1 hP 1 0 rfl rfl hin dX8_count_77 ?_
    have e9 := Option.some.inj h
    subst e9
    rw [hQ]
    exact W.iret (v := s_ (4 : Int32).toNatClampNeg) hx hb hr (fun t ht hW => ⟨⟨s_ (4 : Int32).toNatClampNeg, (), rfl, rfl, by rw [ht]; exact hP, hD⟩, hS.F ht⟩) hS.2.2 dX8_count_78
  · replace h := br_n c3 h
    by_cases c4 : a0 = 1
    · replace h := br_p c4 h
      refine lv_tableIn (tgt := 79) hx hb dX8_count_1 (by rw [c4]; decide) (by rw [c4]; decide) (by rw [c4]; rfl) (by decide) ?_
      refine lv_aload_n hx hb dX8_count_79 rfl (lv_at hl 0 rfl) ?_
      refine va_get (D := D) (ci := 8) (v := .ref mo1) (C := RX8) (T := TX8) (N := 7) hx hb hts uX8_count_X8 hown hK.1 hP 0 rfl rfl 0 (by decide) (hts _ kX8_count_1) (fun _ h9 => h9) rfl dX8_count_80 ?_
      refine lv_iconst (v := 5) hx hb dX8_count_83 (by decide) ?_
      obtain ⟨hin, h⟩ := gd_sp h
      refine va_iald (D := D) hx hb hK.1 hP 1 0 rfl rfl hin dX8_count_84 ?_
      have e9 := Option.some.inj h
      subst e9
      rw [hQ]
      exact W.iret (v := s_ (5 : Int32).toNatClampNeg) hx hb hr (fun t ht hW => ⟨⟨s_ (5 : Int32).toNatClampNeg, (), rfl, rfl, by rw [ht]; exact hP, hD⟩, hS.F ht⟩) hS.2.2 dX8_count_85
    · replace h := br_n c4 h
      by_cases c5 : a0 = 2
      · replace h := br_p c5 h
        refine lv_tableIn (tgt := 86) hx hb dX8_count_1 (by rw [c5]; decide) (by rw [c5]; decide) (by rw [c5]; rfl) (by decide) ?_
        refine lv_aload_n hx hb dX8_count_86 rfl (lv_at hl 0 rfl) ?_
        refine va_get (D := D) (ci := 8) (v := .ref mo1) (C := RX8) (T := TX8) (N := 7) hx hb hts uX8_count_X8 hown hK.1 hP 0 rfl rfl 0 (by decide) (hts _ kX8_count_1) (fun _ h9 => h9) rfl dX8_count_87 ?_
        refine lv_bipush (v := 6) hx hb dX8_count_90 (by decide) ?_
        obtain ⟨hin, h⟩ := gd_sp h
        refine va_iald (D := D) hx hb hK.1 hP 1 0 rfl rfl hin dX8_count_92 ?_
        have e9 := Option.some.inj h
        subst e9
        rw [hQ]
        exact W.iret (v := s_ (6 : Int32).toNatClampNeg) hx hb hr (fun t ht hW => ⟨⟨s_ (6 : Int32).toNatClampNeg, (), rfl, rfl, by rw [ht]; exact hP, hD⟩, hS.F ht⟩) hS.2.2 dX8_count_93
      · replace h := br_n c5 h
        by_cases c7 : a0 = 3
        · replace h := br_p c7 h
          refine lv_tableIn (tgt := 94) hx hb dX8_count_1 (by rw [c7]; decide) (by rw [c7]; decide) (by rw [c7]; rfl) (by decide) ?_
          refine lv_aload_n hx hb dX8_count_94 rfl (lv_at hl 0 rfl) ?_
          obtain ⟨r6, hcr6, h⟩ := bn_sp h
          have hPc := hP.sub (ws' := (ws_model cI cC cZ cR mo mo1 mo2 mo3 mo4 mo5 kn le_ s_ past slo isv pad_)) [0, 1, 2, 3, 4, 5] rfl
          have hDc := hD.sub (ws' := (ws_model cI cC cZ cR mo mo1 mo2 mo3 mo4 mo5 kn le_ s_ past slo isv pad_)) [0, 1, 2, 3, 4, 5] (by decide) rfl
          have hFc := va_free (wc := (ws_model cI cC cZ cR mo mo1 mo2 mo3 mo4 mo5 kn le_ s_ past slo isv pad_)) hD hS hA [0, 1, 2, 3, 4, 5] rfl
          refine va_calli (va_runV (As := []) (rest := []) ⟨hx, hb, hml, hown, hts⟩ (m_X8_darkLines l D cI cC cZ cR mo mo1 mo2 mo3 mo4 mo5 _ kn le_ s_ past slo isv pad_    r6 hcr6) (cwV 0 hts gX8_count_X8_darkLines rfl rfl rfl (by decide +kernel) ⟨Nat.le_of_ble_eq_true rfl, Nat.le_of_ble_eq_true rfl⟩) (cPc_pv hPc hK hDc (ci := 8) (q0 := 0) rfl rfl) rfl rfl hl.1 rfl (lv_room (Nat.le_of_ble_eq_true rfl)) dX8_count_95 ⟨Nat.le_of_ble_eq_true rfl, Nat.le_of_ble_eq_true rfl⟩) hS (fun q _ h => hFc q h) hFc (fun xq u t H1 locs ht hvm hw hB hz1 hk1 hS => ?_)
          rw [hw]
          obtain ⟨hP1, hD1⟩ := hB
          rw [ht] at hP1
          obtain ⟨hP, hD⟩ := va_join (wr := []) (w1 := (ws_model cI cC cZ cR mo mo1 mo2 mo3 mo4 mo5 kn le_ s_ past slo isv pad_)) hP hD [0, 1, 2, 3, 4, 5] [] rfl rfl (by decide) (by decide) hk1 hFc hP1 hD1
          generalize H1 = H at hP hS ⊢
          have hP : va_P D vwCl (ws_model cI cC cZ cR mo mo1 mo2 mo3 mo4 mo5 kn le_ s_ past slo isv pad_) H := hP
          have hD : va_D A (ws_model cI cC cZ cR mo mo1 mo2 mo3 mo4 mo5 kn le_ s_ past slo isv pad_) := hD
          have e9 := Option.some.inj h
          subst e9
          rw [hQ]
          exact W.iret (v := r6) hx hb hr (fun t ht hW => ⟨⟨r6, (), rfl, rfl, by rw [ht]; exact hP, hD⟩, hS.F ht⟩) hS.2.2 dX8_count_98
        · replace h := br_n c7 h
          by_cases c9 : a0 = 4
          · replace h := br_p c9 h
            refine lv_tableIn (tgt := 99) hx hb dX8_count_1 (by rw [c9]; decide) (by rw [c9]; decide) (by rw [c9]; rfl) (by decide) ?_
            refine lv_aload_n hx hb dX8_count_99 rfl (lv_at hl 0 rfl) ?_
            obtain ⟨r8, hcr8, h⟩ := bn_sp h
            have hPc := hP.sub (ws' := (ws_model cI cC cZ cR mo mo1 mo2 mo3 mo4 mo5 kn le_ s_ past slo isv pad_)) [0, 1, 2, 3, 4, 5] rfl
            have hDc := hD.sub (ws' := (ws_model cI cC cZ cR mo mo1 mo2 mo3 mo4 mo5 kn le_ s_ past slo isv pad_)) [0, 1, 2, 3, 4, 5] (by decide) rfl
            have hFc := va_free (wc := (ws_model cI cC cZ cR mo mo1 mo2 mo3 mo4 mo5 kn le_ s_ past slo isv pad_)) hD hS hA [0, 1, 2, 3, 4, 5] rfl
            refine va_calli (va_runV (As := []) (rest := []) ⟨hx, hb, hml, hown, hts⟩ (m_X8_brightest l D cI cC cZ cR mo mo1 mo2 mo3 mo4 mo5 _ kn le_ s_ past slo isv pad_    r8 hcr8) (cwV 0 hts gX8_count_X8_brightest rfl rfl rfl (by decide +kernel) ⟨Nat.le_of_ble_eq_true rfl, Nat.le_of_ble_eq_true rfl⟩) (cPc_pv hPc hK hDc (ci := 8) (q0 := 0) rfl rfl) rfl rfl hl.1 rfl (lv_room (Nat.le_of_ble_eq_true rfl)) dX8_count_100 ⟨Nat.le_of_ble_eq_true rfl, Nat.le_of_ble_eq_true rfl⟩) hS (fun q _ h => hFc q h) hFc (fun xq u t H1 locs ht hvm hw hB hz1 hk1 hS => ?_)
            rw [hw]
            obtain ⟨hP1, hD1⟩ := hB
            rw [ht] at hP1
            obtain ⟨hP, hD⟩ := va_join (wr := []) (w1 := (ws_model cI cC cZ cR mo mo1 mo2 mo3 mo4 mo5 kn le_ s_ past slo isv pad_)) hP hD [0, 1, 2, 3, 4, 5] [] rfl rfl (by decide) (by decide) hk1 hFc hP1 hD1
            generalize H1 = H at hP hS ⊢
            have hP : va_P D vwCl (ws_model cI cC cZ cR mo mo1 mo2 mo3 mo4 mo5 kn le_ s_ past slo isv pad_) H := hP
            have hD : va_D A (ws_model cI cC cZ cR mo mo1 mo2 mo3 mo4 mo5 kn le_ s_ past slo isv pad_) := hD
            have e9 := Option.some.inj h
            subst e9
            rw [hQ]
            exact W.iret (v := r8) hx hb hr (fun t ht hW => ⟨⟨r8, (), rfl, rfl, by rw [ht]; exact hP, hD⟩, hS.F ht⟩) hS.2.2 dX8_count_103
          · replace h := br_n c9 h
            by_cases c11 : a0 = 5
            · replace h := br_p c11 h
              refine lv_tableIn (tgt := 104) hx hb dX8_count_1 (by rw [c11]; decide) (by rw [c11]; decide) (by rw [c11]; rfl) (by decide) ?_
              refine lv_aload_n hx hb dX8_count_104 rfl (lv_at hl 0 rfl) ?_
              obtain ⟨r10, hcr10, h⟩ := bn_sp h
              have hPc := hP.sub (ws' := (ws_model cI cC cZ cR mo mo1 mo2 mo3 mo4 mo5 kn le_ s_ past slo isv pad_)) [0, 1, 2, 3, 4, 5] rfl
              have hDc := hD.sub (ws' := (ws_model cI cC cZ cR mo mo1 mo2 mo3 mo4 mo5 kn le_ s_ past slo isv pad_)) [0, 1, 2, 3, 4, 5] (by decide) rfl
              have hFc := va_free (wc := (ws_model cI cC cZ cR mo mo1 mo2 mo3 mo4 mo5 kn le_ s_ past slo isv pad_)) hD hS hA [0, 1, 2, 3, 4, 5] rfl
              refine va_calli (va_runV (As := []) (rest := []) ⟨hx, hb, hml, hown, hts⟩ (m_X8_bands l D cI cC cZ cR mo mo1 mo2 mo3 mo4 mo5 _ kn le_ s_ past slo isv pad_    r10 hcr10) (cwV 0 hts gX8_count_X8_bands rfl rfl rfl (by decide +kernel) ⟨Nat.le_of_ble_eq_true rfl, Nat.le_of_ble_eq_true rfl⟩) (cPc_pv hPc hK hDc (ci := 8) (q0 := 0) rfl rfl) rfl rfl hl.1 rfl (lv_room (Nat.le_of_ble_eq_true rfl)) dX8_count_105 ⟨Nat.le_of_ble_eq_true rfl, Nat.le_of_ble_eq_true rfl⟩) hS (fun q _ h => hFc q h) hFc (fun xq u t H1 locs ht hvm hw hB hz1 hk1 hS => ?_)
              rw [hw]
              obtain ⟨hP1, hD1⟩ := hB
              rw [ht] at hP1
              obtain ⟨hP, hD⟩ := va_join (wr := []) (w1 := (ws_model cI cC cZ cR mo mo1 mo2 mo3 mo4 mo5 kn le_ s_ past slo isv pad_)) hP hD [0, 1, 2, 3, 4, 5] [] rfl rfl (by decide) (by decide) hk1 hFc hP1 hD1
              generalize H1 = H at hP hS ⊢
              have hP : va_P D vwCl (ws_model cI cC cZ cR mo mo1 mo2 mo3 mo4 mo5 kn le_ s_ past slo isv pad_) H := hP
              have hD : va_D A (ws_model cI cC cZ cR mo mo1 mo2 mo3 mo4 mo5 kn le_ s_ past slo isv pad_) := hD
              have e9 := Option.some.inj h
              subst e9
              rw [hQ]
              exact W.iret (v := r10) hx hb hr (fun t ht hW => ⟨⟨r10, (), rfl, rfl, by rw [ht]; exact hP, hD⟩, hS.F ht⟩) hS.2.2 dX8_count_108
            · replace h := br_n c11 h
              by_cases c13 : a0 = 6
              · replace h := br_p c13 h
                refine lv_tableIn (tgt := 109) hx hb dX8_count_1 (by rw [c13]; decide) (by rw [c13]; decide) (by rw [c13]; rfl) (by decide) ?_
                refine lv_aload_n hx hb dX8_count_109 rfl (lv_at hl 0 rfl) ?_
                refine va_get (D := D) (ci := 8) (v := .ref mo1) (C := RX8) (T := TX8) (N := 7) hx hb hts uX8_count_X8 hown hK.1 hP 0 rfl rfl 0 (by decide) (hts _ kX8_count_1) (fun _ h9 => h9) rfl dX8_count_110 ?_
                refine lv_bipush (v := 7) hx hb dX8_count_113 (by decide) ?_
                obtain ⟨hin, h⟩ := gd_sp h
                refine va_iald (D := D) hx hb hK.1 hP 1 0 rfl rfl hin dX8_count_115 ?_
                refine lv_if_ge (tgt := 124) hx hb dX8_count_116 (by decide) (fun c12 => ?_) (fun c12 => ?_)
                · replace h := br_p c12 h
                  refine lv_aload_n hx hb dX8_count_124 rfl (lv_at hl 0 rfl) ?_
                  refine va_get (D := D) (ci := 8) (v := .ref mo1) (C := RX8) (T := TX8) (N := 7) hx hb hts uX8_count_X8 hown hK.1 hP 0 rfl rfl 0 (by decide) (hts _ kX8_count_1) (fun _ h9 => h9) rfl dX8_count_125 ?_
                  refine lv_bipush (v := 7) hx hb dX8_count_128 (by decide) ?_
                  obtain ⟨hin, h⟩ := gd_sp h
                  refine va_iald (D := D) hx hb hK.1 hP 1 0 rfl rfl hin dX8_count_130 ?_
                  have e9 := Option.some.inj h
                  subst e9
                  rw [hQ]
                  exact W.iret (v := s_ (7 : Int32).toNatClampNeg) hx hb hr (fun t ht hW => ⟨⟨s_ (7 : Int32).toNatClampNeg, (), rfl, rfl, by rw [ht]; exact hP, hD⟩, hS.F ht⟩) hS.2.2 dX8_count_131
                · replace h := br_n c12 h
                  refine lv_bipush (v := (-6)) hx hb dX8_count_119 (by decide) ?_
                  refine lv_goto (tgt := 131) hx hb dX8_count_121 (by decide) ?_
                  have e9 := Option.some.inj h
                  subst e9
                  rw [hQ]
                  exact W.iret (v := (-6)) hx hb hr (fun t ht hW => ⟨⟨(-6), (), rfl, rfl, by rw [ht]; exact hP, hD⟩, hS.F ht⟩) hS.2.2 dX8_count_131
              · replace h := br_n c13 h
                by_cases c14 : a0 = 7
                · replace h := br_p c14 h
                  refine lv_tableIn (tgt := 132) hx hb dX8_count_1 (by rw [c14]; decide) (by rw [c14]; decide) (by rw [c14]; rfl) (by decide) ?_
                  refine lv_aload_n hx hb dX8_count_132 rfl (lv_at hl 0 rfl) ?_
                  refine va_get (D := D) (ci := 8) (v := .ref mo1) (C := RX8) (T := TX8) (N := 7) hx hb hts uX8_count_X8 hown hK.1 hP 0 rfl rfl 0 (by decide) (hts _ kX8_count_1) (fun _ h9 => h9) rfl dX8_count_133 ?_
                  refine lv_bipush (v := 8) hx hb dX8_count_136 (by decide) ?_
                  obtain ⟨hin, h⟩ := gd_sp h
                  refine va_iald (D := D) hx hb hK.1 hP 1 0 rfl rfl hin dX8_count_138 ?_
                  have e9 := Option.some.inj h
                  subst e9
                  rw [hQ]
                  exact W.iret (v := s_ (8 : Int32).toNatClampNeg) hx hb hr (fun t ht hW => ⟨⟨s_ (8 : Int32).toNatClampNeg, (), rfl, rfl, by rw [ht]; exact hP, hD⟩, hS.F ht⟩) hS.2.2 dX8_count_139
                · replace h := br_n c14 h
                  by_cases c15 : a0 = 8
                  · replace h := br_p c15 h
                    refine lv_tableIn (tgt := 150) hx hb dX8_count_1 (by rw [c15]; decide) (by rw [c15]; decide) (by rw [c15]; rfl) (by decide) ?_
                    exact J150 _ _ _ _ h hP hD hS (lv_sub hl [0, 1] rfl)
                  · replace h := br_n c15 h
                    by_cases c16 : a0 = 9
                    · replace h := br_p c16 h
                      refine lv_tableIn (tgt := 150) hx hb dX8_count_1 (by rw [c16]; decide) (by rw [c16]; decide) (by rw [c16]; rfl) (by decide) ?_
                      exact J150 _ _ _ _ h hP hD hS (lv_sub hl [0, 1] rfl)
                    · replace h := br_n c16 h
                      by_cases c17 : a0 = 10
                      · replace h := br_p c17 h
                        refine lv_tableIn (tgt := 150) hx hb dX8_count_1 (by rw [c17]; decide) (by rw [c17]; decide) (by rw [c17]; rfl) (by decide) ?_
                        exact J150 _ _ _ _ h hP hD hS (lv_sub hl [0, 1] rfl)
                      · replace h := br_n c17 h
                        by_cases c18 : a0 = 11
                        · replace h := br_p c18 h
                          refine lv_tableIn (tgt := 150) hx hb dX8_count_1 (by rw [c18]; decide) (by rw [c18]; decide) (by rw [c18]; rfl) (by decide) ?_
                          exact J150 _ _ _ _ h hP hD hS (lv_sub hl [0, 1] rfl)
                        · replace h := br_n c18 h
                          by_cases c19 : a0 = 12
                          · replace h := br_p c19 h
                            refine lv_tableIn (tgt := 140) hx hb dX8_count_1 (by rw [c19]; decide) (by rw [c19]; decide) (by rw [c19]; rfl) (by decide) ?_
                            refine lv_aload_n hx hb dX8_count_140 rfl (lv_at hl 0 rfl) ?_
                            refine va_get (D := D) (ci := 8) (v := .int le_) (C := RX8) (T := TX8) (N := 7) hx hb hts uX8_count_X8 hown hK.1 hP 0 rfl rfl 6 (by decide) (hts _ kX8_count_2) (fun _ h9 => h9) rfl dX8_count_141 ?_
                            have e9 := Option.some.inj h
                            subst e9
                            rw [hQ]
                            exact W.iret (v := le_) hx hb hr (fun t ht hW => ⟨⟨le_, (), rfl, rfl, by rw [ht]; exact hP, hD⟩, hS.F ht⟩) hS.2.2 dX8_count_144
                          · replace h := br_n c19 h
                            by_cases c20 : a0 = 13
                            · replace h := br_p c20 h
                              refine lv_tableIn (tgt := 145) hx hb dX8_count_1 (by rw [c20]; decide) (by rw [c20]; decide) (by rw [c20]; rfl) (by decide) ?_
                              refine lv_aload_n hx hb dX8_count_145 rfl (lv_at hl 0 rfl) ?_
                              refine va_get (D := D) (ci := 8) (v := .int kn) (C := RX8) (T := TX8) (N := 7) hx hb hts uX8_count_X8 hown hK.1 hP 0 rfl rfl 2 (by decide) (hts _ kX8_count_3) (fun _ h9 => h9) rfl dX8_count_146 ?_
                              have e9 := Option.some.inj h
                              subst e9
                              rw [hQ]
                              exact W.iret (v := kn) hx hb hr (fun t ht hW => ⟨⟨kn, (), rfl, rfl, by rw [ht]; exact hP, hD⟩, hS.F ht⟩) hS.2.2 dX8_count_149
                            · replace h := br_n c20 h
                              refine lv_tableOut (tgt := 150) hx hb dX8_count_1 (sw_out14 (fun e => c3 (Int32.toInt_inj.mp (e.trans (by decide)))) (fun e => c4 (Int32.toInt_inj.mp (e.trans (by decide)))) (fun e => c5 (Int32.toInt_inj.mp (e.trans (by decide)))) (fun e => c7 (Int32.toInt_inj.mp (e.trans (by decide)))) (fun e => c9 (Int32.toInt_inj.mp (e.trans (by decide)))) (fun e => c11 (Int32.toInt_inj.mp (e.trans (by decide)))) (fun e => c13 (Int32.toInt_inj.mp (e.trans (by decide)))) (fun e => c14 (Int32.toInt_inj.mp (e.trans (by decide)))) (fun e => c15 (Int32.toInt_inj.mp (e.trans (by decide)))) (fun e => c16 (Int32.toInt_inj.mp (e.trans (by decide)))) (fun e => c17 (Int32.toInt_inj.mp (e.trans (by decide)))) (fun e => c18 (Int32.toInt_inj.mp (e.trans (by decide)))) (fun e => c19 (Int32.toInt_inj.mp (e.trans (by decide)))) (fun e => c20 (Int32.toInt_inj.mp (e.trans (by decide))))) (by decide) ?_
                              exact J150 _ _ _ _ h hP hD hS (lv_sub hl [0, 1] rfl)
