theorem sw_out11 {x : Int} (h0 : ¬ x = 0) (h1 : ¬ x = 1) (h2 : ¬ x = 2) (h3 : ¬ x = 3) (h4 : ¬ x = 4) (h5 : ¬ x = 5) (h6 : ¬ x = 6) (h7 : ¬ x = 7) (h8 : ¬ x = 8) (h9 : ¬ x = 9) (h10 : ¬ x = 10) : x < 0 ∨ 10 < x := by omega
-- the law: does
abbrev OUT_L_does : Type := Int32 × OB
def f_L_does (o : OB) (a1 : Int32) (a2 : Int32) : Option OUT_L_does :=
  bn (F_count o 1) (fun r1 => jn (fun (j2 : Int32) => jn (fun (j3 : Int32) => jn (fun (j4 : Int32) => bn (f_L_low a1 14) (fun r5 => jn (fun (_ : Unit) => bn (f_L_isShot o a2) (fun r6 => gb r6.1 (some (r6.1, r6.2)))) (fun j688 => jn (fun (_ : Unit) => bn (f_L_low a2 (j2 + 1)) (fun r7 => bd (r7 - 1) (fun x8 => jn (fun (j9 : Int32) => (if ¬ r1 = 0 then jn (fun (j10 : Int32) => bn (F_ride o j2 j10) (fun r11 => (if ¬ r11.1 = j9 then none else bn (F_of r11.2 j2 6) (fun r12 => jn (fun (j13 : Int32) => (if ¬ r12 = j13 then none else bn (F_of r11.2 j2 1) (fun r14 => (if ¬ r14 = j3 then none else bn (F_of r11.2 (r1 - 1) 1) (fun r15 => (if ¬ r15 = j4 then none else bn (F_ride r11.2 j2 j2) (fun r16 => (if ¬ r16.1 = (-2) then none else some ((1 : Int32), r16.2))))))))) (fun j459 => (if 0 ≤ x8 then j459 x8 else j459 (-6))))))) (fun j431 => (if 0 ≤ x8 then j431 x8 else j431 (-6))) else bn (F_ride o 0 (-6)) (fun r24 => (if ¬ r24.1 = (-1) then none else some ((1 : Int32), r24.2))))) (fun j391 => (if ¬ r1 = 0 then bn (F_of o j2 6) (fun r27 => j391 r27) else j391 0))))) (fun j363 => jn (fun (_ : Unit) => jn (fun (j29 : Int32) => bn (f_L_low a2 81) (fun r30 => bd (r30 - 40) (fun x31 => (if ¬ r1 = 0 then bn (F_speed o j2 x31) (fun r32 => (if ¬ r32.1 = j29 then none else bn (F_of r32.2 j2 5) (fun r33 => (if ¬ r33 = (x31 + 100) then none else bn (F_of r32.2 j2 1) (fun r34 => (if ¬ r34 = j3 then none else bn (F_of r32.2 (r1 - 1) 1) (fun r35 => (if ¬ r35 = j4 then none else some ((1 : Int32), r32.2))))))))) else bn (F_speed o 0 1) (fun r40 => (if ¬ r40.1 = (-1) then none else some ((1 : Int32), r40.2))))))) (fun j269 => (if ¬ r1 = 0 then bn (F_of o j2 5) (fun r43 => j269 r43) else j269 0))) (fun j254 => jn (fun (_ : Unit) => bn (f_L_low a2 16) (fun r45 => bn (f_L_low (a2 >>> (4 &&& 31)) 24) (fun r46 => bn (f_L_low (a2 >>> (9 &&& 31)) 16) (fun r47 => bn (f_L_low (a2 >>> (13 &&& 31)) 12) (fun r48 => bn (f_L_low (a2 >>> (17 &&& 31)) 9) (fun r49 => bn (F_thing o r45 r46 (1 + r47) (1 + r48) (1 + r49)) (fun r50 => (if ¬ r1 = 8 then (if ¬ r50.1 = r1 then none else bn (F_of r50.2 r1 1) (fun r51 => bn (f_L_low (a2 >>> (4 &&& 31)) 24) (fun r52 => (if ¬ r51 = (1000 + r52) then none else bn (F_of r50.2 r1 5) (fun r53 => (if ¬ r53 = 100 then none else bn (F_of r50.2 r1 6) (fun r54 => (if ¬ r54 = (-6) then none else some ((1 : Int32), r50.2))))))))) else (if ¬ r50.1 = (-4) then none else some ((1 : Int32), r50.2)))))))))) (fun j124 => bd (r5) (fun x61 => (if x61 = 0 then j124 () else (if x61 = 1 then j124 () else (if x61 = 2 then j124 () else (if x61 = 3 then j254 () else (if x61 = 4 then j254 () else (if x61 = 5 then j363 () else (if x61 = 6 then j363 () else (if x61 = 7 then bn (f_L_low a2 100) (fun r69 => bn (f_L_low (a2 >>> (7 &&& 31)) 20) (fun r70 => bd (1 + r70) (fun x71 => bn (F_flash o r69 x71) (fun r72 => bn (F_count r72.2 0) (fun r73 => (if ¬ r72.1 = (r73 + r69) then none else bn (F_count r72.2 6) (fun r74 => bn (F_count r72.2 0) (fun r75 => (if ¬ r74 = (r75 + r69) then none else bn (F_count r72.2 7) (fun r76 => (if ¬ r76 = x71 then none else some ((1 : Int32), r72.2)))))))))))) else (if x61 = 8 then bn (f_L_low (a1 >>> (4 &&& 31)) 4) (fun r81 => jn (fun (j82 : Int32) => bn (F_count o (8 + r81)) (fun r83 => bn (F_set o r81 j82) (fun r84 => (if ¬ r84.1 = r83 then none else bn (F_count r84.2 (8 + r81)) (fun r85 => (if ¬ r85 = j82 then none else some ((1 : Int32), r84.2))))))) (fun j642 => (if ¬ r81 = 0 then (if ¬ r81 = 1 then (if ¬ r81 = 2 then bn (f_L_low a2 4) (fun r88 => j642 (1 + r88)) else bn (f_L_low a2 41) (fun r89 => j642 r89)) else bn (f_L_low a2 20) (fun r91 => j642 (1 + r91))) else bn (f_L_low a2 10) (fun r93 => j642 r93)))) else (if x61 = 9 then j688 () else (if x61 = 10 then j688 () else bn (F_count o 0) (fun r98 => bn (f_L_low a2 30) (fun r99 => bd (1 + r99) (fun x100 => bn (F_pass o x100) (fun r101 => jn (fun (j102 : Int32) => (if ¬ r101.1 = j102 then none else some ((1 : Int32), r101.2))) (fun j738 => (if (r98 + x100) ≤ 9999 then j738 (r98 + x100) else j738 (-5))))))))))))))))))))))))) (fun j56 => (if ¬ r1 = 0 then bn (F_of o (r1 - 1) 1) (fun r105 => j56 r105) else j56 0))) (fun j38 => (if ¬ r1 = 0 then bn (F_of o j2 1) (fun r107 => j38 r107) else j38 0))) (fun j21 => (if ¬ r1 = 0 then bn (f_L_low (a1 >>> (4 &&& 31)) r1) (fun r109 => j21 r109) else j21 0)))
abbrev R_L_does : Room := { frames := 7, cells := 28, slots := 956, locals := 177 }
set_option maxHeartbeats 4000000 in
set_option maxRecDepth 100000 in
theorem m_L_does (l : Launch) (D : va_G) (cI cC cZ cR : ClassId) (b0 : Nat) (a : Nat → Nat) (Y : va_W) (o : OB) (a1 : Int32) (a2 : Int32) (r : OUT_L_does) (hf : f_L_does o a1 a2 = some r) : Met l yL_does wsL_does R_L_does (cPcO D cI cC cZ cR b0 a Y [.ref (a 0), .int a1, .int a2] o) (cQO D cI cC cZ cR b0 a Y r.1 r.2) 28 956 (fun q => b0 ≤ q) := by
  refine Met.ofW (cc := cL_does) (maxL := 19) (ret := (some .boolean)) (by decide) rfl ?_
  intro p e s m args below meth c s₁ B hml hv
  obtain ⟨rfl, hO, hK, hb0, hstt⟩ := hv
  have hx := B.exec
  have hb := B.bytes
  have hr := B.returns
  have hts := atoms_spec (ws := wsL_does) B.pre
  have hown : s.vm.findClass RL = some m.cls := findClass_of_methodNamed B.named
  have hlocks := B.notSynchronized
  have hA : ∀ q : Nat, s.heap.size ≤ q → (fun q : Nat => b0 ≤ q) q := fun q h => Nat.le_trans hb0 h
  have hS : va_S (fun q : Nat => b0 ≤ q) s.heap s.heap [] := va_S.rf
  have hl := lv_entry ([.ref (a 0), .int a1, .int a2]) (n := 19) (Nat.le_of_ble_eq_true rfl)
  rw [lg_entry_eq]
  generalize (lg_sl ([.ref (a 0), .int a1, .int a2]) ++ List.replicate (19 - (lg_sl ([.ref (a 0), .int a1, .int a2])).length) Slot.unset).toArray = ls at hl ⊢
  have hl : lv_has ls 19 [(0, .ref (a 0)), (1, .int a1), (2, .int a2)] := hl
  refine W_absQ (fun Q hQ => ?_)
  refine W.eq (g2 := F0 m 0 ls []) rfl ?_
  have h := hf
  unfold f_L_does at h
  refine lv_aload_n hx hb dL_does_0 rfl (lv_at hl 0 rfl) ?_
  refine lv_iconst (v := 1) hx hb dL_does_1 (by decide) ?_
  obtain ⟨r1, hcr1, h⟩ := bn_sp h
  refine va_calli (va_runV (As := [.int 1]) (rest := []) ⟨hx, hb, hml, hown, hts⟩ (M_count l D cI cC cZ cR b0 a Y o 1 r1 hcr1) (cwV 1 hts gL_does_X7_count rfl rfl rfl (by decide +kernel) ⟨Nat.le_of_ble_eq_true rfl, Nat.le_of_ble_eq_true rfl⟩) (cPcO_pv hO hK hb0 hS hstt) rfl rfl hl.1 rfl (lv_room (Nat.le_of_ble_eq_true rfl)) dL_does_2 ⟨Nat.le_of_ble_eq_true rfl, Nat.le_of_ble_eq_true rfl⟩) hS (fun q _ h => h) (fun q h => h) (fun xq u t H1 locs ht hvm hw hB hz1 hk1 hS => ?_)
  rw [hw]
  have hO : WO D cI cC cZ cR b0 a Y o H1 := by rw [← ht]; exact hB
  generalize H1 = H at hO hS ⊢
  refine lv_istore_n (lv' := [(3, .int r1), (0, .ref (a 0)), (1, .int a1), (2, .int a2)]) hx hb dL_does_5 rfl hl (by decide) rfl (fun ls hl => ?_)
  refine lv_iload_n hx hb dL_does_6 rfl (lv_at hl 0 rfl) ?_
  obtain ⟨j21, hj21, h⟩ := jn_sp h
  have J21 : ∀ (j2 : Int32) (H : Heap) (locs : List Loc) (ls : Array Slot), j21 j2 = some r → WO D cI cC cZ cR b0 a Y o H → va_S (fun q => b0 ≤ q) s.heap H locs → lv_has ls 19 [(0, .ref (a 0)), (1, .int a1), (2, .int a2), (3, .int r1)] → W p l e R_L_does s m ([.ref (a 0), .int a1, .int a2] : List Value).toArray below meth c H locs 0 0 Q (F0 m 21 ls [.int j2]) := by
    intro j2 H locs ls h hO hS hl
    rw [hj21] at h
    refine lv_istore (lv' := [(4, .int j2), (0, .ref (a 0)), (1, .int a1), (2, .int a2), (3, .int r1)]) hx hb dL_does_21 hl (by decide) rfl (fun ls hl => ?_)
    refine lv_iload_n hx hb dL_does_23 rfl (lv_at hl 4 rfl) ?_
    obtain ⟨j38, hj38, h⟩ := jn_sp h
    have J38 : ∀ (j3 : Int32) (H : Heap) (locs : List Loc) (ls : Array Slot), j38 j3 = some r → WO D cI cC cZ cR b0 a Y o H → va_S (fun q => b0 ≤ q) s.heap H locs → lv_has ls 19 [(0, .ref (a 0)), (1, .int a1), (2, .int a2), (3, .int r1), (4, .int j2)] → W p l e R_L_does s m ([.ref (a 0), .int a1, .int a2] : List Value).toArray below meth c H locs 0 0 Q (F0 m 38 ls [.int j3]) := by
      intro j3 H locs ls h hO hS hl
      rw [hj38] at h
      refine lv_istore (lv' := [(5, .int j3), (0, .ref (a 0)), (1, .int a1), (2, .int a2), (3, .int r1), (4, .int j2)]) hx hb dL_does_38 hl (by decide) rfl (fun ls hl => ?_)
      refine lv_iload_n hx hb dL_does_40 rfl (lv_at hl 4 rfl) ?_
      obtain ⟨j56, hj56, h⟩ := jn_sp h
      have J56 : ∀ (j4 : Int32) (H : Heap) (locs : List Loc) (ls : Array Slot), j56 j4 = some r → WO D cI cC cZ cR b0 a Y o H → va_S (fun q => b0 ≤ q) s.heap H locs → lv_has ls 19 [(0, .ref (a 0)), (1, .int a1), (2, .int a2), (3, .int r1), (4, .int j2), (5, .int j3)] → W p l e R_L_does s m ([.ref (a 0), .int a1, .int a2] : List Value).toArray below meth c H locs 0 0 Q (F0 m 56 ls [.int j4]) := by
        intro j4 H locs ls h hO hS hl
        rw [hj56] at h
        refine lv_istore (lv' := [(6, .int j4), (0, .ref (a 0)), (1, .int a1), (2, .int a2), (3, .int r1), (4, .int j2), (5, .int j3)]) hx hb dL_does_56 hl (by decide) rfl (fun ls hl => ?_)
        refine lv_iload_n hx hb dL_does_58 rfl (lv_at hl 2 rfl) ?_
        refine lv_bipush (v := 14) hx hb dL_does_59 (by decide) ?_
        obtain ⟨r5, hcr5, h⟩ := bn_sp h
        have hZ := va_nilD (b0 := b0) hb0 hS
        refine va_calli (va_runS (As := [.int a1, .int 14]) (rest := []) ⟨hx, hb, hml, hown, hts⟩ (m_L_low l D cI cC cZ cR _ a1 14 r5 hcr5) (va_cwS 2 hts gL_does_L_low rfl rfl rfl (by decide +kernel) ⟨Nat.le_of_ble_eq_true rfl, Nat.le_of_ble_eq_true rfl⟩) (cPc_ps (ws := []) (A := fun _ => True) va_nilP hK va_nilDD) rfl rfl hl.1 rfl (lv_room (Nat.le_of_ble_eq_true rfl)) dL_does_61 ⟨Nat.le_of_ble_eq_true rfl, Nat.le_of_ble_eq_true rfl⟩) hS (fun q _ h => hZ q h) hZ (fun xq u t H1 locs ht hvm hw hB hz1 hk1 hS => ?_)
        rw [hw]
        have hO : WO D cI cC cZ cR b0 a Y o H1 := WO_st hk1 hO
        generalize H1 = H at hO hS ⊢
        obtain ⟨j688, hj688, h⟩ := jn_sp h
        have J688 : ∀ (_u : Unit) (H : Heap) (locs : List Loc) (ls : Array Slot), j688 _u = some r → WO D cI cC cZ cR b0 a Y o H → va_S (fun q => b0 ≤ q) s.heap H locs → lv_has ls 19 [(0, .ref (a 0)), (1, .int a1), (2, .int a2), (3, .int r1), (4, .int j2), (5, .int j3), (6, .int j4)] → W p l e R_L_does s m ([.ref (a 0), .int a1, .int a2] : List Value).toArray below meth c H locs 0 0 Q (F0 m 688 ls []) := by
          intro _u H locs ls h hO hS hl
          rw [hj688] at h
          refine lv_aload_n hx hb dL_does_688 rfl (lv_at hl 0 rfl) ?_
          refine lv_iload_n hx hb dL_does_689 rfl (lv_at hl 2 rfl) ?_
          obtain ⟨r6, hcr6, h⟩ := bn_sp h
          refine va_calli (va_runS (As := [.ref (a 0), .int a2]) (rest := []) ⟨hx, hb, hml, hown, hts⟩ (m_L_isShot l D cI cC cZ cR b0 a Y o a2 r6 hcr6) (va_cwS 2 hts gL_does_L_isShot rfl rfl rfl (by decide +kernel) ⟨Nat.le_of_ble_eq_true rfl, Nat.le_of_ble_eq_true rfl⟩) (cPcO_ps hO hK hb0 hS hstt) rfl rfl hl.1 rfl (lv_room (Nat.le_of_ble_eq_true rfl)) dL_does_690 ⟨Nat.le_of_ble_eq_true rfl, Nat.le_of_ble_eq_true rfl⟩) hS (fun q _ h => h) (fun q h => h) (fun xq u t H1 locs ht hvm hw hB hz1 hk1 hS => ?_)
          rw [hw]
          have hO : WO D cI cC cZ cR b0 a Y r6.2 H1 := by rw [← ht]; exact hB
          generalize H1 = H at hO hS ⊢
          obtain ⟨hnr, h⟩ := gb_sp h
          have e9 := Option.some.inj h
          subst e9
          rw [hQ]
          refine W.widen (k := 28) (n := 956) (Nat.le_of_ble_eq_true rfl) (Nat.le_of_ble_eq_true rfl) ?_
          exact W.zret (v := r6.1) hx hb hr (nar_b hnr) (fun t ht hW => ⟨⟨r6.1, (), rfl, rfl, by have h9 := hO; rw [← ht] at h9; exact h9⟩, hS.F ht⟩) hS.2.2 dL_does_693
        obtain ⟨j363, hj363, h⟩ := jn_sp h
        have J363 : ∀ (_u : Unit) (H : Heap) (locs : List Loc) (ls : Array Slot), j363 _u = some r → WO D cI cC cZ cR b0 a Y o H → va_S (fun q => b0 ≤ q) s.heap H locs → lv_has ls 19 [(0, .ref (a 0)), (1, .int a1), (2, .int a2), (3, .int r1), (4, .int j2), (5, .int j3), (6, .int j4)] → W p l e R_L_does s m ([.ref (a 0), .int a1, .int a2] : List Value).toArray below meth c H locs 0 0 Q (F0 m 363 ls []) := by
          intro _u H locs ls h hO hS hl
          rw [hj363] at h
          refine lv_iload_n hx hb dL_does_363 rfl (lv_at hl 2 rfl) ?_
          refine lv_iload hx hb dL_does_364 (lv_at hl 4 rfl) ?_
          refine lv_iconst (v := 1) hx hb dL_does_366 (by decide) ?_
          refine lv_iadd hx hb dL_does_367 ?_
          obtain ⟨r7, hcr7, h⟩ := bn_sp h
          have hZ := va_nilD (b0 := b0) hb0 hS
          refine va_calli (va_runS (As := [.int a2, .int (j2 + 1)]) (rest := []) ⟨hx, hb, hml, hown, hts⟩ (m_L_low l D cI cC cZ cR _ a2 (j2 + 1) r7 hcr7) (va_cwS 2 hts gL_does_L_low rfl rfl rfl (by decide +kernel) ⟨Nat.le_of_ble_eq_true rfl, Nat.le_of_ble_eq_true rfl⟩) (cPc_ps (ws := []) (A := fun _ => True) va_nilP hK va_nilDD) rfl rfl hl.1 rfl (lv_room (Nat.le_of_ble_eq_true rfl)) dL_does_368 ⟨Nat.le_of_ble_eq_true rfl, Nat.le_of_ble_eq_true rfl⟩) hS (fun q _ h => hZ q h) hZ (fun xq u t H1 locs ht hvm hw hB hz1 hk1 hS => ?_)
          rw [hw]
          have hO : WO D cI cC cZ cR b0 a Y o H1 := WO_st hk1 hO
          generalize H1 = H at hO hS ⊢
          refine lv_iconst (v := 1) hx hb dL_does_371 (by decide) ?_
          refine lv_isub hx hb dL_does_372 ?_
          refine lv_topi (fun x8 ex8 => ?_)
          replace h := bd_s2 h ex8
          refine lv_istore (lv' := [(10, .int x8), (0, .ref (a 0)), (1, .int a1), (2, .int a2), (3, .int r1), (4, .int j2), (5, .int j3), (6, .int j4)]) hx hb dL_does_373 hl (by decide) rfl (fun ls hl => ?_)
          refine lv_iload_n hx hb dL_does_375 rfl (lv_at hl 4 rfl) ?_
          obtain ⟨j391, hj391, h⟩ := jn_sp h
          have J391 : ∀ (j9 : Int32) (H : Heap) (locs : List Loc) (ls : Array Slot), j391 j9 = some r → WO D cI cC cZ cR b0 a Y o H → va_S (fun q => b0 ≤ q) s.heap H locs → lv_has ls 19 [(0, .ref (a 0)), (1, .int a1), (2, .int a2), (3, .int r1), (4, .int j2), (5, .int j3), (6, .int j4), (10, .int x8)] → W p l e R_L_does s m ([.ref (a 0), .int a1, .int a2] : List Value).toArray below meth c H locs 0 0 Q (F0 m 391 ls [.int j9]) := by
            intro j9 H locs ls h hO hS hl
            rw [hj391] at h
            refine lv_istore (lv' := [(11, .int j9), (0, .ref (a 0)), (1, .int a1), (2, .int a2), (3, .int r1), (4, .int j2), (5, .int j3), (6, .int j4), (10, .int x8)]) hx hb dL_does_391 hl (by decide) rfl (fun ls hl => ?_)
            refine lv_iload_n hx hb dL_does_393 rfl (lv_at hl 4 rfl) ?_
            refine lv_if_ne (tgt := 416) hx hb dL_does_394 (by decide) (fun c26 => ?_) (fun c26 => ?_)
            · replace h := br_p c26 h
              refine lv_aload_n hx hb dL_does_416 rfl (lv_at hl 1 rfl) ?_
              refine lv_iload hx hb dL_does_417 (lv_at hl 5 rfl) ?_
              refine lv_iload hx hb dL_does_419 (lv_at hl 8 rfl) ?_
              obtain ⟨j431, hj431, h⟩ := jn_sp h
              have J431 : ∀ (j10 : Int32) (H : Heap) (locs : List Loc) (ls : Array Slot), j431 j10 = some r → WO D cI cC cZ cR b0 a Y o H → va_S (fun q => b0 ≤ q) s.heap H locs → lv_has ls 19 [(0, .ref (a 0)), (1, .int a1), (2, .int a2), (3, .int r1), (4, .int j2), (5, .int j3), (6, .int j4), (10, .int x8), (11, .int j9)] → W p l e R_L_does s m ([.ref (a 0), .int a1, .int a2] : List Value).toArray below meth c H locs 0 0 Q (F0 m 431 ls [.int j10, .int j2, .ref (a 0)]) := by
                intro j10 H locs ls h hO hS hl
                rw [hj431] at h
                obtain ⟨r11, hcr11, h⟩ := bn_sp h
                refine va_calli (va_runV (As := [.int j2, .int j10]) (rest := []) ⟨hx, hb, hml, hown, hts⟩ (M_ride l D cI cC cZ cR b0 a Y o j2 j10 r11 hcr11) (cwV 2 hts gL_does_X7_ride rfl rfl rfl (by decide +kernel) ⟨Nat.le_of_ble_eq_true rfl, Nat.le_of_ble_eq_true rfl⟩) (cPcO_pv hO hK hb0 hS hstt) rfl rfl hl.1 rfl (lv_room (Nat.le_of_ble_eq_true rfl)) dL_does_431 ⟨Nat.le_of_ble_eq_true rfl, Nat.le_of_ble_eq_true rfl⟩) hS (fun q _ h => h) (fun q h => h) (fun xq u t H1 locs ht hvm hw hB hz1 hk1 hS => ?_)
                rw [hw]
                have hO : WO D cI cC cZ cR b0 a Y r11.2 H1 := by rw [← ht]; exact hB
                generalize H1 = H at hO hS ⊢
                refine lv_iload hx hb dL_does_434 (lv_at hl 8 rfl) ?_
                refine lv_icmp_ne (tgt := 504) hx hb dL_does_436 (by decide) (fun c22 => ?_) (fun c22 => ?_)
                · replace h := br_p c22 h
                  exact no_sm h
                · replace h := br_n (not_not_intro c22) h
                  refine lv_aload_n hx hb dL_does_439 rfl (lv_at hl 0 rfl) ?_
                  refine lv_iload hx hb dL_does_440 (lv_at hl 4 rfl) ?_
                  refine lv_bipush (v := 6) hx hb dL_does_442 (by decide) ?_
                  obtain ⟨r12, hcr12, h⟩ := bn_sp h
                  refine va_calli (va_runV (As := [.int j2, .int 6]) (rest := []) ⟨hx, hb, hml, hown, hts⟩ (M_of l D cI cC cZ cR b0 a Y r11.2 j2 6 r12 hcr12) (cwV 2 hts gL_does_X7_of rfl rfl rfl (by decide +kernel) ⟨Nat.le_of_ble_eq_true rfl, Nat.le_of_ble_eq_true rfl⟩) (cPcO_pv hO hK hb0 hS hstt) rfl rfl hl.1 rfl (lv_room (Nat.le_of_ble_eq_true rfl)) dL_does_444 ⟨Nat.le_of_ble_eq_true rfl, Nat.le_of_ble_eq_true rfl⟩) hS (fun q _ h => h) (fun q h => h) (fun xq u t H1 locs ht hvm hw hB hz1 hk1 hS => ?_)
                  rw [hw]
                  have hO : WO D cI cC cZ cR b0 a Y r11.2 H1 := by rw [← ht]; exact hB
                  generalize H1 = H at hO hS ⊢
                  refine lv_iload hx hb dL_does_447 (lv_at hl 7 rfl) ?_
                  obtain ⟨j459, hj459, h⟩ := jn_sp h
                  have J459 : ∀ (j13 : Int32) (H : Heap) (locs : List Loc) (ls : Array Slot), j459 j13 = some r → WO D cI cC cZ cR b0 a Y r11.2 H → va_S (fun q => b0 ≤ q) s.heap H locs → lv_has ls 19 [(0, .ref (a 0)), (1, .int a1), (2, .int a2), (3, .int r1), (4, .int j2), (5, .int j3), (6, .int j4), (10, .int x8), (11, .int j9)] → W p l e R_L_does s m ([.ref (a 0), .int a1, .int a2] : List Value).toArray below meth c H locs 14 478 Q (F0 m 459 ls [.int j13, .int r12]) := by
                    intro j13 H locs ls h hO hS hl
                    rw [hj459] at h
                    refine lv_icmp_ne (tgt := 504) hx hb dL_does_459 (by decide) (fun c20 => ?_) (fun c20 => ?_)
                    · replace h := br_p c20 h
                      exact no_sm h
                    · replace h := br_n (not_not_intro c20) h
                      refine lv_aload_n hx hb dL_does_462 rfl (lv_at hl 0 rfl) ?_
                      refine lv_iload hx hb dL_does_463 (lv_at hl 4 rfl) ?_
                      refine lv_iconst (v := 1) hx hb dL_does_465 (by decide) ?_
                      obtain ⟨r14, hcr14, h⟩ := bn_sp h
                      refine va_calli (va_runV (As := [.int j2, .int 1]) (rest := []) ⟨hx, hb, hml, hown, hts⟩ (M_of l D cI cC cZ cR b0 a Y r11.2 j2 1 r14 hcr14) (cwV 2 hts gL_does_X7_of rfl rfl rfl (by decide +kernel) ⟨Nat.le_of_ble_eq_true rfl, Nat.le_of_ble_eq_true rfl⟩) (cPcO_pv hO hK hb0 hS hstt) rfl rfl hl.1 rfl (lv_room (Nat.le_of_ble_eq_true rfl)) dL_does_466 ⟨Nat.le_of_ble_eq_true rfl, Nat.le_of_ble_eq_true rfl⟩) hS (fun q _ h => h) (fun q h => h) (fun xq u t H1 locs ht hvm hw hB hz1 hk1 hS => ?_)
                      rw [hw]
                      have hO : WO D cI cC cZ cR b0 a Y r11.2 H1 := by rw [← ht]; exact hB
                      generalize H1 = H at hO hS ⊢
                      refine lv_iload hx hb dL_does_469 (lv_at hl 5 rfl) ?_
                      refine lv_icmp_ne (tgt := 504) hx hb dL_does_471 (by decide) (fun c19 => ?_) (fun c19 => ?_)
                      · replace h := br_p c19 h
                        exact no_sm h
                      · replace h := br_n (not_not_intro c19) h
                        refine lv_aload_n hx hb dL_does_474 rfl (lv_at hl 0 rfl) ?_
                        refine lv_iload_n hx hb dL_does_475 rfl (lv_at hl 3 rfl) ?_
                        refine lv_iconst (v := 1) hx hb dL_does_476 (by decide) ?_
                        refine lv_isub hx hb dL_does_477 ?_
                        refine lv_iconst (v := 1) hx hb dL_does_478 (by decide) ?_
                        obtain ⟨r15, hcr15, h⟩ := bn_sp h
                        refine va_calli (va_runV (As := [.int (r1 - 1), .int 1]) (rest := []) ⟨hx, hb, hml, hown, hts⟩ (M_of l D cI cC cZ cR b0 a Y r11.2 (r1 - 1) 1 r15 hcr15) (cwV 2 hts gL_does_X7_of rfl rfl rfl (by decide +kernel) ⟨Nat.le_of_ble_eq_true rfl, Nat.le_of_ble_eq_true rfl⟩) (cPcO_pv hO hK hb0 hS hstt) rfl rfl hl.1 rfl (lv_room (Nat.le_of_ble_eq_true rfl)) dL_does_479 ⟨Nat.le_of_ble_eq_true rfl, Nat.le_of_ble_eq_true rfl⟩) hS (fun q _ h => h) (fun q h => h) (fun xq u t H1 locs ht hvm hw hB hz1 hk1 hS => ?_)
                        rw [hw]
                        have hO : WO D cI cC cZ cR b0 a Y r11.2 H1 := by rw [← ht]; exact hB
                        generalize H1 = H at hO hS ⊢
                        refine lv_iload hx hb dL_does_482 (lv_at hl 6 rfl) ?_
                        refine lv_icmp_ne (tgt := 504) hx hb dL_does_484 (by decide) (fun c18 => ?_) (fun c18 => ?_)
                        · replace h := br_p c18 h
                          exact no_sm h
                        · replace h := br_n (not_not_intro c18) h
                          refine lv_aload_n hx hb dL_does_487 rfl (lv_at hl 0 rfl) ?_
                          refine lv_iload hx hb dL_does_488 (lv_at hl 4 rfl) ?_
                          refine lv_iload hx hb dL_does_490 (lv_at hl 4 rfl) ?_
                          obtain ⟨r16, hcr16, h⟩ := bn_sp h
                          refine va_calli (va_runV (As := [.int j2, .int j2]) (rest := []) ⟨hx, hb, hml, hown, hts⟩ (M_ride l D cI cC cZ cR b0 a Y r11.2 j2 j2 r16 hcr16) (cwV 2 hts gL_does_X7_ride rfl rfl rfl (by decide +kernel) ⟨Nat.le_of_ble_eq_true rfl, Nat.le_of_ble_eq_true rfl⟩) (cPcO_pv hO hK hb0 hS hstt) rfl rfl hl.1 rfl (lv_room (Nat.le_of_ble_eq_true rfl)) dL_does_492 ⟨Nat.le_of_ble_eq_true rfl, Nat.le_of_ble_eq_true rfl⟩) hS (fun q _ h => h) (fun q h => h) (fun xq u t H1 locs ht hvm hw hB hz1 hk1 hS => ?_)
                          rw [hw]
                          have hO : WO D cI cC cZ cR b0 a Y r16.2 H1 := by rw [← ht]; exact hB
                          generalize H1 = H at hO hS ⊢
                          refine lv_bipush (v := (-2)) hx hb dL_does_495 (by decide) ?_
                          refine lv_icmp_ne (tgt := 504) hx hb dL_does_497 (by decide) (fun c17 => ?_) (fun c17 => ?_)
                          · replace h := br_p c17 h
                            exact no_sm h
                          · replace h := br_n (not_not_intro c17) h
                            refine lv_iconst (v := 1) hx hb dL_does_500 (by decide) ?_
                            refine lv_goto (tgt := 505) hx hb dL_does_501 (by decide) ?_
                            have e9 := Option.some.inj h
                            subst e9
                            rw [hQ]
                            exact W.zret (v := 1) hx hb hr rfl (fun t ht hW => ⟨⟨1, (), rfl, rfl, by have h9 := hO; rw [← ht] at h9; exact h9⟩, hS.F ht⟩) hS.2.2 dL_does_505
                  refine lv_if_ge (tgt := 457) hx hb dL_does_449 (by decide) (fun c21 => ?_) (fun c21 => ?_)
                  · replace h := br_p c21 h
                    refine lv_iload hx hb dL_does_457 (lv_at hl 7 rfl) ?_
                    exact J459 _ _ _ _ h hO hS (lv_sub hl [0, 1, 2, 3, 4, 5, 6, 7, 8] rfl)
                  · replace h := br_n c21 h
                    refine lv_bipush (v := (-6)) hx hb dL_does_452 (by decide) ?_
                    refine lv_goto (tgt := 459) hx hb dL_does_454 (by decide) ?_
                    exact J459 _ _ _ _ h hO hS (lv_sub hl [0, 1, 2, 3, 4, 5, 6, 7, 8] rfl)
              refine lv_if_ge (tgt := 429) hx hb dL_does_421 (by decide) (fun c23 => ?_) (fun c23 => ?_)
              · replace h := br_p c23 h
                refine lv_iload hx hb dL_does_429 (lv_at hl 8 rfl) ?_
                exact J431 _ _ _ _ h hO hS (lv_sub hl [1, 2, 3, 4, 5, 6, 7, 8, 0] rfl)
              · replace h := br_n c23 h
                refine lv_bipush (v := (-6)) hx hb dL_does_424 (by decide) ?_
                refine lv_goto (tgt := 431) hx hb dL_does_426 (by decide) ?_
                exact J431 _ _ _ _ h hO hS (lv_sub hl [1, 2, 3, 4, 5, 6, 7, 8, 0] rfl)
            · replace h := br_n (not_not_intro c26) h
              refine lv_aload_n hx hb dL_does_397 rfl (lv_at hl 1 rfl) ?_
              refine lv_iconst (v := 0) hx hb dL_does_398 (by decide) ?_
              refine lv_bipush (v := (-6)) hx hb dL_does_399 (by decide) ?_
              obtain ⟨r24, hcr24, h⟩ := bn_sp h
              refine va_calli (va_runV (As := [.int 0, .int (-6)]) (rest := []) ⟨hx, hb, hml, hown, hts⟩ (M_ride l D cI cC cZ cR b0 a Y o 0 (-6) r24 hcr24) (cwV 2 hts gL_does_X7_ride rfl rfl rfl (by decide +kernel) ⟨Nat.le_of_ble_eq_true rfl, Nat.le_of_ble_eq_true rfl⟩) (cPcO_pv hO hK hb0 hS hstt) rfl rfl hl.1 rfl (lv_room (Nat.le_of_ble_eq_true rfl)) dL_does_401 ⟨Nat.le_of_ble_eq_true rfl, Nat.le_of_ble_eq_true rfl⟩) hS (fun q _ h => h) (fun q h => h) (fun xq u t H1 locs ht hvm hw hB hz1 hk1 hS => ?_)
              rw [hw]
              have hO : WO D cI cC cZ cR b0 a Y r24.2 H1 := by rw [← ht]; exact hB
              generalize H1 = H at hO hS ⊢
              refine lv_iconst (v := (-1)) hx hb dL_does_404 (by decide) ?_
              refine lv_icmp_ne (tgt := 412) hx hb dL_does_405 (by decide) (fun c25 => ?_) (fun c25 => ?_)
              · replace h := br_p c25 h
                exact no_sm h
              · replace h := br_n (not_not_intro c25) h
                refine lv_iconst (v := 1) hx hb dL_does_408 (by decide) ?_
                refine lv_goto (tgt := 505) hx hb dL_does_409 (by decide) ?_
                have e9 := Option.some.inj h
                subst e9
                rw [hQ]
                refine W.widen (k := 28) (n := 956) (Nat.le_of_ble_eq_true rfl) (Nat.le_of_ble_eq_true rfl) ?_
                exact W.zret (v := 1) hx hb hr rfl (fun t ht hW => ⟨⟨1, (), rfl, rfl, by have h9 := hO; rw [← ht] at h9; exact h9⟩, hS.F ht⟩) hS.2.2 dL_does_505
          refine lv_if_ne (tgt := 383) hx hb dL_does_376 (by decide) (fun c28 => ?_) (fun c28 => ?_)
          · replace h := br_p c28 h
            refine lv_aload_n hx hb dL_does_383 rfl (lv_at hl 1 rfl) ?_
            refine lv_iload hx hb dL_does_384 (lv_at hl 5 rfl) ?_
            refine lv_bipush (v := 6) hx hb dL_does_386 (by decide) ?_
            obtain ⟨r27, hcr27, h⟩ := bn_sp h
            refine va_calli (va_runV (As := [.int j2, .int 6]) (rest := []) ⟨hx, hb, hml, hown, hts⟩ (M_of l D cI cC cZ cR b0 a Y o j2 6 r27 hcr27) (cwV 2 hts gL_does_X7_of rfl rfl rfl (by decide +kernel) ⟨Nat.le_of_ble_eq_true rfl, Nat.le_of_ble_eq_true rfl⟩) (cPcO_pv hO hK hb0 hS hstt) rfl rfl hl.1 rfl (lv_room (Nat.le_of_ble_eq_true rfl)) dL_does_388 ⟨Nat.le_of_ble_eq_true rfl, Nat.le_of_ble_eq_true rfl⟩) hS (fun q _ h => h) (fun q h => h) (fun xq u t H1 locs ht hvm hw hB hz1 hk1 hS => ?_)
            rw [hw]
            have hO : WO D cI cC cZ cR b0 a Y o H1 := by rw [← ht]; exact hB
            generalize H1 = H at hO hS ⊢
            exact J391 _ _ _ _ h hO hS (lv_sub hl [1, 2, 3, 4, 5, 6, 7, 0] rfl)
          · replace h := br_n (not_not_intro c28) h
            refine lv_iconst (v := 0) hx hb dL_does_379 (by decide) ?_
            refine lv_goto (tgt := 391) hx hb dL_does_380 (by decide) ?_
            exact J391 _ _ _ _ h hO hS (lv_sub hl [1, 2, 3, 4, 5, 6, 7, 0] rfl)
        obtain ⟨j254, hj254, h⟩ := jn_sp h
        have J254 : ∀ (_u : Unit) (H : Heap) (locs : List Loc) (ls : Array Slot), j254 _u = some r → WO D cI cC cZ cR b0 a Y o H → va_S (fun q => b0 ≤ q) s.heap H locs → lv_has ls 19 [(0, .ref (a 0)), (1, .int a1), (2, .int a2), (3, .int r1), (4, .int j2), (5, .int j3), (6, .int j4)] → W p l e R_L_does s m ([.ref (a 0), .int a1, .int a2] : List Value).toArray below meth c H locs 0 0 Q (F0 m 254 ls []) := by
          intro _u H locs ls h hO hS hl
          rw [hj254] at h
          refine lv_iload_n hx hb dL_does_254 rfl (lv_at hl 3 rfl) ?_
          obtain ⟨j269, hj269, h⟩ := jn_sp h
          have J269 : ∀ (j29 : Int32) (H : Heap) (locs : List Loc) (ls : Array Slot), j269 j29 = some r → WO D cI cC cZ cR b0 a Y o H → va_S (fun q => b0 ≤ q) s.heap H locs → lv_has ls 19 [(0, .ref (a 0)), (1, .int a1), (2, .int a2), (3, .int r1), (4, .int j2), (5, .int j3), (6, .int j4)] → W p l e R_L_does s m ([.ref (a 0), .int a1, .int a2] : List Value).toArray below meth c H locs 0 0 Q (F0 m 269 ls [.int j29]) := by
            intro j29 H locs ls h hO hS hl
            rw [hj269] at h
            refine lv_istore (lv' := [(8, .int j29), (0, .ref (a 0)), (1, .int a1), (2, .int a2), (3, .int r1), (4, .int j2), (5, .int j3), (6, .int j4)]) hx hb dL_does_269 hl (by decide) rfl (fun ls hl => ?_)
            refine lv_iload_n hx hb dL_does_271 rfl (lv_at hl 3 rfl) ?_
            refine lv_bipush (v := 81) hx hb dL_does_272 (by decide) ?_
            obtain ⟨r30, hcr30, h⟩ := bn_sp h
            have hZ := va_nilD (b0 := b0) hb0 hS
            refine va_calli (va_runS (As := [.int a2, .int 81]) (rest := []) ⟨hx, hb, hml, hown, hts⟩ (m_L_low l D cI cC cZ cR _ a2 81 r30 hcr30) (va_cwS 2 hts gL_does_L_low rfl rfl rfl (by decide +kernel) ⟨Nat.le_of_ble_eq_true rfl, Nat.le_of_ble_eq_true rfl⟩) (cPc_ps (ws := []) (A := fun _ => True) va_nilP hK va_nilDD) rfl rfl hl.1 rfl (lv_room (Nat.le_of_ble_eq_true rfl)) dL_does_274 ⟨Nat.le_of_ble_eq_true rfl, Nat.le_of_ble_eq_true rfl⟩) hS (fun q _ h => hZ q h) hZ (fun xq u t H1 locs ht hvm hw hB hz1 hk1 hS => ?_)
            rw [hw]
            have hO : WO D cI cC cZ cR b0 a Y o H1 := WO_st hk1 hO
            generalize H1 = H at hO hS ⊢
            refine lv_bipush (v := 40) hx hb dL_does_277 (by decide) ?_
            refine lv_isub hx hb dL_does_279 ?_
            refine lv_topi (fun x31 ex31 => ?_)
            replace h := bd_s2 h ex31
            refine lv_istore (lv' := [(9, .int x31), (8, .int j29), (0, .ref (a 0)), (1, .int a1), (2, .int a2), (3, .int r1), (4, .int j2), (5, .int j3), (6, .int j4)]) hx hb dL_does_280 hl (by decide) rfl (fun ls hl => ?_)
            refine lv_iload_n hx hb dL_does_282 rfl (lv_at hl 5 rfl) ?_
            refine lv_if_ne (tgt := 304) hx hb dL_does_283 (by decide) (fun c42 => ?_) (fun c42 => ?_)
            · replace h := br_p c42 h
              refine lv_aload_n hx hb dL_does_304 rfl (lv_at hl 2 rfl) ?_
              refine lv_iload hx hb dL_does_305 (lv_at hl 6 rfl) ?_
              refine lv_iload hx hb dL_does_307 (lv_at hl 0 rfl) ?_
              obtain ⟨r32, hcr32, h⟩ := bn_sp h
              refine va_calli (va_runV (As := [.int j2, .int x31]) (rest := []) ⟨hx, hb, hml, hown, hts⟩ (M_speed l D cI cC cZ cR b0 a Y o j2 x31 r32 hcr32) (cwV 2 hts gL_does_X7_speed rfl rfl rfl (by decide +kernel) ⟨Nat.le_of_ble_eq_true rfl, Nat.le_of_ble_eq_true rfl⟩) (cPcO_pv hO hK hb0 hS hstt) rfl rfl hl.1 rfl (lv_room (Nat.le_of_ble_eq_true rfl)) dL_does_309 ⟨Nat.le_of_ble_eq_true rfl, Nat.le_of_ble_eq_true rfl⟩) hS (fun q _ h => h) (fun q h => h) (fun xq u t H1 locs ht hvm hw hB hz1 hk1 hS => ?_)
              rw [hw]
              have hO : WO D cI cC cZ cR b0 a Y r32.2 H1 := by rw [← ht]; exact hB
              generalize H1 = H at hO hS ⊢
              refine lv_iload hx hb dL_does_312 (lv_at hl 1 rfl) ?_
              refine lv_icmp_ne (tgt := 361) hx hb dL_does_314 (by decide) (fun c39 => ?_) (fun c39 => ?_)
              · replace h := br_p c39 h
                exact no_sm h
              · replace h := br_n (not_not_intro c39) h
                refine lv_aload_n hx hb dL_does_317 rfl (lv_at hl 2 rfl) ?_
                refine lv_iload hx hb dL_does_318 (lv_at hl 6 rfl) ?_
                refine lv_iconst (v := 5) hx hb dL_does_320 (by decide) ?_
                obtain ⟨r33, hcr33, h⟩ := bn_sp h
                refine va_calli (va_runV (As := [.int j2, .int 5]) (rest := []) ⟨hx, hb, hml, hown, hts⟩ (M_of l D cI cC cZ cR b0 a Y r32.2 j2 5 r33 hcr33) (cwV 2 hts gL_does_X7_of rfl rfl rfl (by decide +kernel) ⟨Nat.le_of_ble_eq_true rfl, Nat.le_of_ble_eq_true rfl⟩) (cPcO_pv hO hK hb0 hS hstt) rfl rfl hl.1 rfl (lv_room (Nat.le_of_ble_eq_true rfl)) dL_does_321 ⟨Nat.le_of_ble_eq_true rfl, Nat.le_of_ble_eq_true rfl⟩) hS (fun q _ h => h) (fun q h => h) (fun xq u t H1 locs ht hvm hw hB hz1 hk1 hS => ?_)
                rw [hw]
                have hO : WO D cI cC cZ cR b0 a Y r32.2 H1 := by rw [← ht]; exact hB
                generalize H1 = H at hO hS ⊢
                refine lv_iload hx hb dL_does_324 (lv_at hl 0 rfl) ?_
                refine lv_bipush (v := 100) hx hb dL_does_326 (by decide) ?_
                refine lv_iadd hx hb dL_does_328 ?_
                refine lv_icmp_ne (tgt := 361) hx hb dL_does_329 (by decide) (fun c38 => ?_) (fun c38 => ?_)
                · replace h := br_p c38 h
                  exact no_sm h
                · replace h := br_n (not_not_intro c38) h
                  refine lv_aload_n hx hb dL_does_332 rfl (lv_at hl 2 rfl) ?_
                  refine lv_iload hx hb dL_does_333 (lv_at hl 6 rfl) ?_
                  refine lv_iconst (v := 1) hx hb dL_does_335 (by decide) ?_
                  obtain ⟨r34, hcr34, h⟩ := bn_sp h
                  refine va_calli (va_runV (As := [.int j2, .int 1]) (rest := []) ⟨hx, hb, hml, hown, hts⟩ (M_of l D cI cC cZ cR b0 a Y r32.2 j2 1 r34 hcr34) (cwV 2 hts gL_does_X7_of rfl rfl rfl (by decide +kernel) ⟨Nat.le_of_ble_eq_true rfl, Nat.le_of_ble_eq_true rfl⟩) (cPcO_pv hO hK hb0 hS hstt) rfl rfl hl.1 rfl (lv_room (Nat.le_of_ble_eq_true rfl)) dL_does_336 ⟨Nat.le_of_ble_eq_true rfl, Nat.le_of_ble_eq_true rfl⟩) hS (fun q _ h => h) (fun q h => h) (fun xq u t H1 locs ht hvm hw hB hz1 hk1 hS => ?_)
                  rw [hw]
                  have hO : WO D cI cC cZ cR b0 a Y r32.2 H1 := by rw [← ht]; exact hB
                  generalize H1 = H at hO hS ⊢
                  refine lv_iload hx hb dL_does_339 (lv_at hl 7 rfl) ?_
                  refine lv_icmp_ne (tgt := 361) hx hb dL_does_341 (by decide) (fun c37 => ?_) (fun c37 => ?_)
                  · replace h := br_p c37 h
                    exact no_sm h
                  · replace h := br_n (not_not_intro c37) h
                    refine lv_aload_n hx hb dL_does_344 rfl (lv_at hl 2 rfl) ?_
                    refine lv_iload_n hx hb dL_does_345 rfl (lv_at hl 5 rfl) ?_
                    refine lv_iconst (v := 1) hx hb dL_does_346 (by decide) ?_
                    refine lv_isub hx hb dL_does_347 ?_
                    refine lv_iconst (v := 1) hx hb dL_does_348 (by decide) ?_
                    obtain ⟨r35, hcr35, h⟩ := bn_sp h
                    refine va_calli (va_runV (As := [.int (r1 - 1), .int 1]) (rest := []) ⟨hx, hb, hml, hown, hts⟩ (M_of l D cI cC cZ cR b0 a Y r32.2 (r1 - 1) 1 r35 hcr35) (cwV 2 hts gL_does_X7_of rfl rfl rfl (by decide +kernel) ⟨Nat.le_of_ble_eq_true rfl, Nat.le_of_ble_eq_true rfl⟩) (cPcO_pv hO hK hb0 hS hstt) rfl rfl hl.1 rfl (lv_room (Nat.le_of_ble_eq_true rfl)) dL_does_349 ⟨Nat.le_of_ble_eq_true rfl, Nat.le_of_ble_eq_true rfl⟩) hS (fun q _ h => h) (fun q h => h) (fun xq u t H1 locs ht hvm hw hB hz1 hk1 hS => ?_)
                    rw [hw]
                    have hO : WO D cI cC cZ cR b0 a Y r32.2 H1 := by rw [← ht]; exact hB
                    generalize H1 = H at hO hS ⊢
                    refine lv_iload hx hb dL_does_352 (lv_at hl 8 rfl) ?_
                    refine lv_icmp_ne (tgt := 361) hx hb dL_does_354 (by decide) (fun c36 => ?_) (fun c36 => ?_)
                    · replace h := br_p c36 h
                      exact no_sm h
                    · replace h := br_n (not_not_intro c36) h
                      refine lv_iconst (v := 1) hx hb dL_does_357 (by decide) ?_
                      refine lv_goto (tgt := 362) hx hb dL_does_358 (by decide) ?_
                      have e9 := Option.some.inj h
                      subst e9
                      rw [hQ]
                      refine W.widen (k := 28) (n := 956) (Nat.le_of_ble_eq_true rfl) (Nat.le_of_ble_eq_true rfl) ?_
                      exact W.zret (v := 1) hx hb hr rfl (fun t ht hW => ⟨⟨1, (), rfl, rfl, by have h9 := hO; rw [← ht] at h9; exact h9⟩, hS.F ht⟩) hS.2.2 dL_does_362
            · replace h := br_n (not_not_intro c42) h
              refine lv_aload_n hx hb dL_does_286 rfl (lv_at hl 2 rfl) ?_
              refine lv_iconst (v := 0) hx hb dL_does_287 (by decide) ?_
              refine lv_iconst (v := 1) hx hb dL_does_288 (by decide) ?_
              obtain ⟨r40, hcr40, h⟩ := bn_sp h
              refine va_calli (va_runV (As := [.int 0, .int 1]) (rest := []) ⟨hx, hb, hml, hown, hts⟩ (M_speed l D cI cC cZ cR b0 a Y o 0 1 r40 hcr40) (cwV 2 hts gL_does_X7_speed rfl rfl rfl (by decide +kernel) ⟨Nat.le_of_ble_eq_true rfl, Nat.le_of_ble_eq_true rfl⟩) (cPcO_pv hO hK hb0 hS hstt) rfl rfl hl.1 rfl (lv_room (Nat.le_of_ble_eq_true rfl)) dL_does_289 ⟨Nat.le_of_ble_eq_true rfl, Nat.le_of_ble_eq_true rfl⟩) hS (fun q _ h => h) (fun q h => h) (fun xq u t H1 locs ht hvm hw hB hz1 hk1 hS => ?_)
              rw [hw]
              have hO : WO D cI cC cZ cR b0 a Y r40.2 H1 := by rw [← ht]; exact hB
              generalize H1 = H at hO hS ⊢
              refine lv_iconst (v := (-1)) hx hb dL_does_292 (by decide) ?_
              refine lv_icmp_ne (tgt := 300) hx hb dL_does_293 (by decide) (fun c41 => ?_) (fun c41 => ?_)
              · replace h := br_p c41 h
                exact no_sm h
              · replace h := br_n (not_not_intro c41) h
                refine lv_iconst (v := 1) hx hb dL_does_296 (by decide) ?_
                refine lv_goto (tgt := 362) hx hb dL_does_297 (by decide) ?_
                have e9 := Option.some.inj h
                subst e9
                rw [hQ]
                refine W.widen (k := 28) (n := 956) (Nat.le_of_ble_eq_true rfl) (Nat.le_of_ble_eq_true rfl) ?_
                exact W.zret (v := 1) hx hb hr rfl (fun t ht hW => ⟨⟨1, (), rfl, rfl, by have h9 := hO; rw [← ht] at h9; exact h9⟩, hS.F ht⟩) hS.2.2 dL_does_362
          refine lv_if_ne (tgt := 262) hx hb dL_does_255 (by decide) (fun c44 => ?_) (fun c44 => ?_)
          · replace h := br_p c44 h
            refine lv_aload_n hx hb dL_does_262 rfl (lv_at hl 0 rfl) ?_
            refine lv_iload hx hb dL_does_263 (lv_at hl 4 rfl) ?_
            refine lv_iconst (v := 5) hx hb dL_does_265 (by decide) ?_
            obtain ⟨r43, hcr43, h⟩ := bn_sp h
            refine va_calli (va_runV (As := [.int j2, .int 5]) (rest := []) ⟨hx, hb, hml, hown, hts⟩ (M_of l D cI cC cZ cR b0 a Y o j2 5 r43 hcr43) (cwV 2 hts gL_does_X7_of rfl rfl rfl (by decide +kernel) ⟨Nat.le_of_ble_eq_true rfl, Nat.le_of_ble_eq_true rfl⟩) (cPcO_pv hO hK hb0 hS hstt) rfl rfl hl.1 rfl (lv_room (Nat.le_of_ble_eq_true rfl)) dL_does_266 ⟨Nat.le_of_ble_eq_true rfl, Nat.le_of_ble_eq_true rfl⟩) hS (fun q _ h => h) (fun q h => h) (fun xq u t H1 locs ht hvm hw hB hz1 hk1 hS => ?_)
            rw [hw]
            have hO : WO D cI cC cZ cR b0 a Y o H1 := by rw [← ht]; exact hB
            generalize H1 = H at hO hS ⊢
            exact J269 _ _ _ _ h hO hS (lv_sub hl [0, 1, 2, 3, 4, 5, 6] rfl)
          · replace h := br_n (not_not_intro c44) h
            refine lv_iconst (v := 0) hx hb dL_does_258 (by decide) ?_
            refine lv_goto (tgt := 269) hx hb dL_does_259 (by decide) ?_
            exact J269 _ _ _ _ h hO hS (lv_sub hl [0, 1, 2, 3, 4, 5, 6] rfl)
        obtain ⟨j124, hj124, h⟩ := jn_sp h
        have J124 : ∀ (_u : Unit) (H : Heap) (locs : List Loc) (ls : Array Slot), j124 _u = some r → WO D cI cC cZ cR b0 a Y o H → va_S (fun q => b0 ≤ q) s.heap H locs → lv_has ls 19 [(0, .ref (a 0)), (1, .int a1), (2, .int a2), (3, .int r1), (4, .int j2), (5, .int j3), (6, .int j4)] → W p l e R_L_does s m ([.ref (a 0), .int a1, .int a2] : List Value).toArray below meth c H locs 0 0 Q (F0 m 124 ls []) := by
          intro _u H locs ls h hO hS hl
          rw [hj124] at h
          refine lv_aload_n hx hb dL_does_124 rfl (lv_at hl 0 rfl) ?_
          refine lv_iload_n hx hb dL_does_125 rfl (lv_at hl 2 rfl) ?_
          refine lv_bipush (v := 16) hx hb dL_does_126 (by decide) ?_
          obtain ⟨r45, hcr45, h⟩ := bn_sp h
          have hZ := va_nilD (b0 := b0) hb0 hS
          refine va_calli (va_runS (As := [.int a2, .int 16]) (rest := [.ref (a 0)]) ⟨hx, hb, hml, hown, hts⟩ (m_L_low l D cI cC cZ cR _ a2 16 r45 hcr45) (va_cwS 2 hts gL_does_L_low rfl rfl rfl (by decide +kernel) ⟨Nat.le_of_ble_eq_true rfl, Nat.le_of_ble_eq_true rfl⟩) (cPc_ps (ws := []) (A := fun _ => True) va_nilP hK va_nilDD) rfl rfl hl.1 rfl (lv_room (Nat.le_of_ble_eq_true rfl)) dL_does_128 ⟨Nat.le_of_ble_eq_true rfl, Nat.le_of_ble_eq_true rfl⟩) hS (fun q _ h => hZ q h) hZ (fun xq u t H1 locs ht hvm hw hB hz1 hk1 hS => ?_)
          rw [hw]
          have hO : WO D cI cC cZ cR b0 a Y o H1 := WO_st hk1 hO
          generalize H1 = H at hO hS ⊢
          refine lv_iload_n hx hb dL_does_131 rfl (lv_at hl 2 rfl) ?_
          refine lv_iconst (v := 4) hx hb dL_does_132 (by decide) ?_
          refine lv_ishr hx hb dL_does_133 ?_
          refine lv_bipush (v := 24) hx hb dL_does_134 (by decide) ?_
          obtain ⟨r46, hcr46, h⟩ := bn_sp h
          have hZ := va_nilD (b0 := b0) hb0 hS
          refine va_calli (va_runS (As := [.int (a2 >>> (4 &&& 31)), .int 24]) (rest := [.int r45, .ref (a 0)]) ⟨hx, hb, hml, hown, hts⟩ (m_L_low l D cI cC cZ cR _ (a2 >>> (4 &&& 31)) 24 r46 hcr46) (va_cwS 2 hts gL_does_L_low rfl rfl rfl (by decide +kernel) ⟨Nat.le_of_ble_eq_true rfl, Nat.le_of_ble_eq_true rfl⟩) (cPc_ps (ws := []) (A := fun _ => True) va_nilP hK va_nilDD) rfl rfl hl.1 rfl (lv_room (Nat.le_of_ble_eq_true rfl)) dL_does_136 ⟨Nat.le_of_ble_eq_true rfl, Nat.le_of_ble_eq_true rfl⟩) hS (fun q _ h => hZ q h) hZ (fun xq u t H1 locs ht hvm hw hB hz1 hk1 hS => ?_)
          rw [hw]
          have hO : WO D cI cC cZ cR b0 a Y o H1 := WO_st hk1 hO
          generalize H1 = H at hO hS ⊢
          refine lv_iconst (v := 1) hx hb dL_does_139 (by decide) ?_
          refine lv_iload_n hx hb dL_does_140 rfl (lv_at hl 2 rfl) ?_
          refine lv_bipush (v := 9) hx hb dL_does_141 (by decide) ?_
          refine lv_ishr hx hb dL_does_143 ?_
          refine lv_bipush (v := 16) hx hb dL_does_144 (by decide) ?_
          obtain ⟨r47, hcr47, h⟩ := bn_sp h
          have hZ := va_nilD (b0 := b0) hb0 hS
          refine va_calli (va_runS (As := [.int (a2 >>> (9 &&& 31)), .int 16]) (rest := [.int 1, .int r46, .int r45, .ref (a 0)]) ⟨hx, hb, hml, hown, hts⟩ (m_L_low l D cI cC cZ cR _ (a2 >>> (9 &&& 31)) 16 r47 hcr47) (va_cwS 2 hts gL_does_L_low rfl rfl rfl (by decide +kernel) ⟨Nat.le_of_ble_eq_true rfl, Nat.le_of_ble_eq_true rfl⟩) (cPc_ps (ws := []) (A := fun _ => True) va_nilP hK va_nilDD) rfl rfl hl.1 rfl (lv_room (Nat.le_of_ble_eq_true rfl)) dL_does_146 ⟨Nat.le_of_ble_eq_true rfl, Nat.le_of_ble_eq_true rfl⟩) hS (fun q _ h => hZ q h) hZ (fun xq u t H1 locs ht hvm hw hB hz1 hk1 hS => ?_)
          rw [hw]
          have hO : WO D cI cC cZ cR b0 a Y o H1 := WO_st hk1 hO
          generalize H1 = H at hO hS ⊢
          refine lv_iadd hx hb dL_does_149 ?_
          refine lv_iconst (v := 1) hx hb dL_does_150 (by decide) ?_
          refine lv_iload_n hx hb dL_does_151 rfl (lv_at hl 2 rfl) ?_
          refine lv_bipush (v := 13) hx hb dL_does_152 (by decide) ?_
          refine lv_ishr hx hb dL_does_154 ?_
          refine lv_bipush (v := 12) hx hb dL_does_155 (by decide) ?_
          obtain ⟨r48, hcr48, h⟩ := bn_sp h
          have hZ := va_nilD (b0 := b0) hb0 hS
          refine va_calli (va_runS (As := [.int (a2 >>> (13 &&& 31)), .int 12]) (rest := [.int 1, .int (1 + r47), .int r46, .int r45, .ref (a 0)]) ⟨hx, hb, hml, hown, hts⟩ (m_L_low l D cI cC cZ cR _ (a2 >>> (13 &&& 31)) 12 r48 hcr48) (va_cwS 2 hts gL_does_L_low rfl rfl rfl (by decide +kernel) ⟨Nat.le_of_ble_eq_true rfl, Nat.le_of_ble_eq_true rfl⟩) (cPc_ps (ws := []) (A := fun _ => True) va_nilP hK va_nilDD) rfl rfl hl.1 rfl (lv_room (Nat.le_of_ble_eq_true rfl)) dL_does_157 ⟨Nat.le_of_ble_eq_true rfl, Nat.le_of_ble_eq_true rfl⟩) hS (fun q _ h => hZ q h) hZ (fun xq u t H1 locs ht hvm hw hB hz1 hk1 hS => ?_)
          rw [hw]
          have hO : WO D cI cC cZ cR b0 a Y o H1 := WO_st hk1 hO
          generalize H1 = H at hO hS ⊢
          refine lv_iadd hx hb dL_does_160 ?_
          refine lv_iconst (v := 1) hx hb dL_does_161 (by decide) ?_
          refine lv_iload_n hx hb dL_does_162 rfl (lv_at hl 2 rfl) ?_
          refine lv_bipush (v := 17) hx hb dL_does_163 (by decide) ?_
          refine lv_ishr hx hb dL_does_165 ?_
          refine lv_bipush (v := 9) hx hb dL_does_166 (by decide) ?_
          obtain ⟨r49, hcr49, h⟩ := bn_sp h
          have hZ := va_nilD (b0 := b0) hb0 hS
          refine va_calli (va_runS (As := [.int (a2 >>> (17 &&& 31)), .int 9]) (rest := [.int 1, .int (1 + r48), .int (1 + r47), .int r46, .int r45, .ref (a 0)]) ⟨hx, hb, hml, hown, hts⟩ (m_L_low l D cI cC cZ cR _ (a2 >>> (17 &&& 31)) 9 r49 hcr49) (va_cwS 2 hts gL_does_L_low rfl rfl rfl (by decide +kernel) ⟨Nat.le_of_ble_eq_true rfl, Nat.le_of_ble_eq_true rfl⟩) (cPc_ps (ws := []) (A := fun _ => True) va_nilP hK va_nilDD) rfl rfl hl.1 rfl (lv_room (Nat.le_of_ble_eq_true rfl)) dL_does_168 ⟨Nat.le_of_ble_eq_true rfl, Nat.le_of_ble_eq_true rfl⟩) hS (fun q _ h => hZ q h) hZ (fun xq u t H1 locs ht hvm hw hB hz1 hk1 hS => ?_)
          rw [hw]
          have hO : WO D cI cC cZ cR b0 a Y o H1 := WO_st hk1 hO
          generalize H1 = H at hO hS ⊢
          refine lv_iadd hx hb dL_does_171 ?_
          obtain ⟨r50, hcr50, h⟩ := bn_sp h
          refine va_calli (va_runV (As := [.int r45, .int r46, .int (1 + r47), .int (1 + r48), .int (1 + r49)]) (rest := []) ⟨hx, hb, hml, hown, hts⟩ (M_thing l D cI cC cZ cR b0 a Y o r45 r46 (1 + r47) (1 + r48) (1 + r49) r50 hcr50) (cwV 5 hts gL_does_X7_thing rfl rfl rfl (by decide +kernel) ⟨Nat.le_of_ble_eq_true rfl, Nat.le_of_ble_eq_true rfl⟩) (cPcO_pv hO hK hb0 hS hstt) rfl rfl hl.1 rfl (lv_room (Nat.le_of_ble_eq_true rfl)) dL_does_172 ⟨Nat.le_of_ble_eq_true rfl, Nat.le_of_ble_eq_true rfl⟩) hS (fun q _ h => h) (fun q h => h) (fun xq u t H1 locs ht hvm hw hB hz1 hk1 hS => ?_)
          rw [hw]
          have hO : WO D cI cC cZ cR b0 a Y r50.2 H1 := by rw [← ht]; exact hB
          generalize H1 = H at hO hS ⊢
          refine lv_istore (lv' := [(7, .int r50.1), (0, .ref (a 0)), (1, .int a1), (2, .int a2), (3, .int r1), (4, .int j2), (5, .int j3), (6, .int j4)]) hx hb dL_does_175 hl (by decide) rfl (fun ls hl => ?_)
          refine lv_iload_n hx hb dL_does_177 rfl (lv_at hl 4 rfl) ?_
          refine lv_bipush (v := 8) hx hb dL_does_178 (by decide) ?_
          refine lv_icmp_ne (tgt := 198) hx hb dL_does_180 (by decide) (fun c60 => ?_) (fun c60 => ?_)
          · replace h := br_p c60 h
            refine lv_iload hx hb dL_does_198 (lv_at hl 0 rfl) ?_
            refine lv_iload_n hx hb dL_does_200 rfl (lv_at hl 4 rfl) ?_
            refine lv_icmp_ne (tgt := 252) hx hb dL_does_201 (by decide) (fun c58 => ?_) (fun c58 => ?_)
            · replace h := br_p c58 h
              exact no_sm h
            · replace h := br_n (not_not_intro c58) h
              refine lv_aload_n hx hb dL_does_204 rfl (lv_at hl 1 rfl) ?_
              refine lv_iload_n hx hb dL_does_205 rfl (lv_at hl 4 rfl) ?_
              refine lv_iconst (v := 1) hx hb dL_does_206 (by decide) ?_
              obtain ⟨r51, hcr51, h⟩ := bn_sp h
              refine va_calli (va_runV (As := [.int r1, .int 1]) (rest := []) ⟨hx, hb, hml, hown, hts⟩ (M_of l D cI cC cZ cR b0 a Y r50.2 r1 1 r51 hcr51) (cwV 2 hts gL_does_X7_of rfl rfl rfl (by decide +kernel) ⟨Nat.le_of_ble_eq_true rfl, Nat.le_of_ble_eq_true rfl⟩) (cPcO_pv hO hK hb0 hS hstt) rfl rfl hl.1 rfl (lv_room (Nat.le_of_ble_eq_true rfl)) dL_does_207 ⟨Nat.le_of_ble_eq_true rfl, Nat.le_of_ble_eq_true rfl⟩) hS (fun q _ h => h) (fun q h => h) (fun xq u t H1 locs ht hvm hw hB hz1 hk1 hS => ?_)
              rw [hw]
              have hO : WO D cI cC cZ cR b0 a Y r50.2 H1 := by rw [← ht]; exact hB
              generalize H1 = H at hO hS ⊢
              refine lv_sipush (v := 1000) hx hb dL_does_210 (by decide) ?_
              refine lv_iload_n hx hb dL_does_213 rfl (lv_at hl 3 rfl) ?_
              refine lv_iconst (v := 4) hx hb dL_does_214 (by decide) ?_
              refine lv_ishr hx hb dL_does_215 ?_
              refine lv_bipush (v := 24) hx hb dL_does_216 (by decide) ?_
              obtain ⟨r52, hcr52, h⟩ := bn_sp h
              have hZ := va_nilD (b0 := b0) hb0 hS
              refine va_calli (va_runS (As := [.int (a2 >>> (4 &&& 31)), .int 24]) (rest := [.int 1000, .int r51]) ⟨hx, hb, hml, hown, hts⟩ (m_L_low l D cI cC cZ cR _ (a2 >>> (4 &&& 31)) 24 r52 hcr52) (va_cwS 2 hts gL_does_L_low rfl rfl rfl (by decide +kernel) ⟨Nat.le_of_ble_eq_true rfl, Nat.le_of_ble_eq_true rfl⟩) (cPc_ps (ws := []) (A := fun _ => True) va_nilP hK va_nilDD) rfl rfl hl.1 rfl (lv_room (Nat.le_of_ble_eq_true rfl)) dL_does_218 ⟨Nat.le_of_ble_eq_true rfl, Nat.le_of_ble_eq_true rfl⟩) hS (fun q _ h => hZ q h) hZ (fun xq u t H1 locs ht hvm hw hB hz1 hk1 hS => ?_)
              rw [hw]
              have hO : WO D cI cC cZ cR b0 a Y r50.2 H1 := WO_st hk1 hO
              generalize H1 = H at hO hS ⊢
              refine lv_iadd hx hb dL_does_221 ?_
              refine lv_icmp_ne (tgt := 252) hx hb dL_does_222 (by decide) (fun c57 => ?_) (fun c57 => ?_)
              · replace h := br_p c57 h
                exact no_sm h
              · replace h := br_n (not_not_intro c57) h
                refine lv_aload_n hx hb dL_does_225 rfl (lv_at hl 1 rfl) ?_
                refine lv_iload_n hx hb dL_does_226 rfl (lv_at hl 4 rfl) ?_
                refine lv_iconst (v := 5) hx hb dL_does_227 (by decide) ?_
                obtain ⟨r53, hcr53, h⟩ := bn_sp h
                refine va_calli (va_runV (As := [.int r1, .int 5]) (rest := []) ⟨hx, hb, hml, hown, hts⟩ (M_of l D cI cC cZ cR b0 a Y r50.2 r1 5 r53 hcr53) (cwV 2 hts gL_does_X7_of rfl rfl rfl (by decide +kernel) ⟨Nat.le_of_ble_eq_true rfl, Nat.le_of_ble_eq_true rfl⟩) (cPcO_pv hO hK hb0 hS hstt) rfl rfl hl.1 rfl (lv_room (Nat.le_of_ble_eq_true rfl)) dL_does_228 ⟨Nat.le_of_ble_eq_true rfl, Nat.le_of_ble_eq_true rfl⟩) hS (fun q _ h => h) (fun q h => h) (fun xq u t H1 locs ht hvm hw hB hz1 hk1 hS => ?_)
                rw [hw]
                have hO : WO D cI cC cZ cR b0 a Y r50.2 H1 := by rw [← ht]; exact hB
                generalize H1 = H at hO hS ⊢
                refine lv_bipush (v := 100) hx hb dL_does_231 (by decide) ?_
                refine lv_icmp_ne (tgt := 252) hx hb dL_does_233 (by decide) (fun c56 => ?_) (fun c56 => ?_)
                · replace h := br_p c56 h
                  exact no_sm h
                · replace h := br_n (not_not_intro c56) h
                  refine lv_aload_n hx hb dL_does_236 rfl (lv_at hl 1 rfl) ?_
                  refine lv_iload_n hx hb dL_does_237 rfl (lv_at hl 4 rfl) ?_
                  refine lv_bipush (v := 6) hx hb dL_does_238 (by decide) ?_
                  obtain ⟨r54, hcr54, h⟩ := bn_sp h
                  refine va_calli (va_runV (As := [.int r1, .int 6]) (rest := []) ⟨hx, hb, hml, hown, hts⟩ (M_of l D cI cC cZ cR b0 a Y r50.2 r1 6 r54 hcr54) (cwV 2 hts gL_does_X7_of rfl rfl rfl (by decide +kernel) ⟨Nat.le_of_ble_eq_true rfl, Nat.le_of_ble_eq_true rfl⟩) (cPcO_pv hO hK hb0 hS hstt) rfl rfl hl.1 rfl (lv_room (Nat.le_of_ble_eq_true rfl)) dL_does_240 ⟨Nat.le_of_ble_eq_true rfl, Nat.le_of_ble_eq_true rfl⟩) hS (fun q _ h => h) (fun q h => h) (fun xq u t H1 locs ht hvm hw hB hz1 hk1 hS => ?_)
                  rw [hw]
                  have hO : WO D cI cC cZ cR b0 a Y r50.2 H1 := by rw [← ht]; exact hB
                  generalize H1 = H at hO hS ⊢
                  refine lv_bipush (v := (-6)) hx hb dL_does_243 (by decide) ?_
                  refine lv_icmp_ne (tgt := 252) hx hb dL_does_245 (by decide) (fun c55 => ?_) (fun c55 => ?_)
                  · replace h := br_p c55 h
                    exact no_sm h
                  · replace h := br_n (not_not_intro c55) h
                    refine lv_iconst (v := 1) hx hb dL_does_248 (by decide) ?_
                    refine lv_goto (tgt := 253) hx hb dL_does_249 (by decide) ?_
                    have e9 := Option.some.inj h
                    subst e9
                    rw [hQ]
                    refine W.widen (k := 28) (n := 956) (Nat.le_of_ble_eq_true rfl) (Nat.le_of_ble_eq_true rfl) ?_
                    exact W.zret (v := 1) hx hb hr rfl (fun t ht hW => ⟨⟨1, (), rfl, rfl, by have h9 := hO; rw [← ht] at h9; exact h9⟩, hS.F ht⟩) hS.2.2 dL_does_253
          · replace h := br_n (not_not_intro c60) h
            refine lv_iload hx hb dL_does_183 (lv_at hl 0 rfl) ?_
            refine lv_bipush (v := (-4)) hx hb dL_does_185 (by decide) ?_
            refine lv_icmp_ne (tgt := 194) hx hb dL_does_187 (by decide) (fun c59 => ?_) (fun c59 => ?_)
            · replace h := br_p c59 h
              exact no_sm h
            · replace h := br_n (not_not_intro c59) h
              refine lv_iconst (v := 1) hx hb dL_does_190 (by decide) ?_
              refine lv_goto (tgt := 253) hx hb dL_does_191 (by decide) ?_
              have e9 := Option.some.inj h
              subst e9
              rw [hQ]
              refine W.widen (k := 28) (n := 956) (Nat.le_of_ble_eq_true rfl) (Nat.le_of_ble_eq_true rfl) ?_
              exact W.zret (v := 1) hx hb hr rfl (fun t ht hW => ⟨⟨1, (), rfl, rfl, by have h9 := hO; rw [← ht] at h9; exact h9⟩, hS.F ht⟩) hS.2.2 dL_does_253
        refine lv_topi (fun x61 ex61 => ?_)
        replace h := bd_s2 h ex61
        by_cases c62 : x61 = 0
        · replace h := br_p c62 h
          refine lv_tableIn (tgt := 124) hx hb dL_does_64 (by rw [c62]; decide) (by rw [c62]; decide) (by rw [c62]; rfl) (by decide) ?_
          exact J124 _ _ _ _ h hO hS (lv_sub hl [1, 2, 3, 4, 5, 6, 0] rfl)
        · replace h := br_n c62 h
          by_cases c63 : x61 = 1
          · replace h := br_p c63 h
            refine lv_tableIn (tgt := 124) hx hb dL_does_64 (by rw [c63]; decide) (by rw [c63]; decide) (by rw [c63]; rfl) (by decide) ?_
            exact J124 _ _ _ _ h hO hS (lv_sub hl [1, 2, 3, 4, 5, 6, 0] rfl)
          · replace h := br_n c63 h
            by_cases c64 : x61 = 2
            · replace h := br_p c64 h
              refine lv_tableIn (tgt := 124) hx hb dL_does_64 (by rw [c64]; decide) (by rw [c64]; decide) (by rw [c64]; rfl) (by decide) ?_
              exact J124 _ _ _ _ h hO hS (lv_sub hl [1, 2, 3, 4, 5, 6, 0] rfl)
            · replace h := br_n c64 h
              by_cases c65 : x61 = 3
              · replace h := br_p c65 h
                refine lv_tableIn (tgt := 254) hx hb dL_does_64 (by rw [c65]; decide) (by rw [c65]; decide) (by rw [c65]; rfl) (by decide) ?_
                exact J254 _ _ _ _ h hO hS (lv_sub hl [1, 2, 3, 4, 5, 6, 0] rfl)
              · replace h := br_n c65 h
                by_cases c66 : x61 = 4
                · replace h := br_p c66 h
                  refine lv_tableIn (tgt := 254) hx hb dL_does_64 (by rw [c66]; decide) (by rw [c66]; decide) (by rw [c66]; rfl) (by decide) ?_
                  exact J254 _ _ _ _ h hO hS (lv_sub hl [1, 2, 3, 4, 5, 6, 0] rfl)
                · replace h := br_n c66 h
                  by_cases c67 : x61 = 5
                  · replace h := br_p c67 h
                    refine lv_tableIn (tgt := 363) hx hb dL_does_64 (by rw [c67]; decide) (by rw [c67]; decide) (by rw [c67]; rfl) (by decide) ?_
                    exact J363 _ _ _ _ h hO hS (lv_sub hl [1, 2, 3, 4, 5, 6, 0] rfl)
                  · replace h := br_n c67 h
                    by_cases c68 : x61 = 6
                    · replace h := br_p c68 h
                      refine lv_tableIn (tgt := 363) hx hb dL_does_64 (by rw [c68]; decide) (by rw [c68]; decide) (by rw [c68]; rfl) (by decide) ?_
                      exact J363 _ _ _ _ h hO hS (lv_sub hl [1, 2, 3, 4, 5, 6, 0] rfl)
                    · replace h := br_n c68 h
                      by_cases c80 : x61 = 7
                      · replace h := br_p c80 h
                        refine lv_tableIn (tgt := 506) hx hb dL_does_64 (by rw [c80]; decide) (by rw [c80]; decide) (by rw [c80]; rfl) (by decide) ?_
                        refine lv_iload_n hx hb dL_does_506 rfl (lv_at hl 3 rfl) ?_
                        refine lv_bipush (v := 100) hx hb dL_does_507 (by decide) ?_
                        obtain ⟨r69, hcr69, h⟩ := bn_sp h
                        have hZ := va_nilD (b0 := b0) hb0 hS
                        refine va_calli (va_runS (As := [.int a2, .int 100]) (rest := []) ⟨hx, hb, hml, hown, hts⟩ (m_L_low l D cI cC cZ cR _ a2 100 r69 hcr69) (va_cwS 2 hts gL_does_L_low rfl rfl rfl (by decide +kernel) ⟨Nat.le_of_ble_eq_true rfl, Nat.le_of_ble_eq_true rfl⟩) (cPc_ps (ws := []) (A := fun _ => True) va_nilP hK va_nilDD) rfl rfl hl.1 rfl (lv_room (Nat.le_of_ble_eq_true rfl)) dL_does_509 ⟨Nat.le_of_ble_eq_true rfl, Nat.le_of_ble_eq_true rfl⟩) hS (fun q _ h => hZ q h) hZ (fun xq u t H1 locs ht hvm hw hB hz1 hk1 hS => ?_)
                        rw [hw]
                        have hO : WO D cI cC cZ cR b0 a Y o H1 := WO_st hk1 hO
                        generalize H1 = H at hO hS ⊢
                        refine lv_istore (lv' := [(12, .int r69), (6, .int j4), (0, .ref (a 0)), (1, .int a1), (2, .int a2), (3, .int r1), (4, .int j2), (5, .int j3)]) hx hb dL_does_512 hl (by decide) rfl (fun ls hl => ?_)
                        refine lv_iconst (v := 1) hx hb dL_does_514 (by decide) ?_
                        refine lv_iload_n hx hb dL_does_515 rfl (lv_at hl 4 rfl) ?_
                        refine lv_bipush (v := 7) hx hb dL_does_516 (by decide) ?_
                        refine lv_ishr hx hb dL_does_518 ?_
                        refine lv_bipush (v := 20) hx hb dL_does_519 (by decide) ?_
                        obtain ⟨r70, hcr70, h⟩ := bn_sp h
                        have hZ := va_nilD (b0 := b0) hb0 hS
                        refine va_calli (va_runS (As := [.int (a2 >>> (7 &&& 31)), .int 20]) (rest := [.int 1]) ⟨hx, hb, hml, hown, hts⟩ (m_L_low l D cI cC cZ cR _ (a2 >>> (7 &&& 31)) 20 r70 hcr70) (va_cwS 2 hts gL_does_L_low rfl rfl rfl (by decide +kernel) ⟨Nat.le_of_ble_eq_true rfl, Nat.le_of_ble_eq_true rfl⟩) (cPc_ps (ws := []) (A := fun _ => True) va_nilP hK va_nilDD) rfl rfl hl.1 rfl (lv_room (Nat.le_of_ble_eq_true rfl)) dL_does_521 ⟨Nat.le_of_ble_eq_true rfl, Nat.le_of_ble_eq_true rfl⟩) hS (fun q _ h => hZ q h) hZ (fun xq u t H1 locs ht hvm hw hB hz1 hk1 hS => ?_)
                        rw [hw]
                        have hO : WO D cI cC cZ cR b0 a Y o H1 := WO_st hk1 hO
                        generalize H1 = H at hO hS ⊢
                        refine lv_iadd hx hb dL_does_524 ?_
                        refine lv_topi (fun x71 ex71 => ?_)
                        replace h := bd_s2 h ex71
                        refine lv_istore (lv' := [(13, .int x71), (12, .int r69), (6, .int j4), (0, .ref (a 0)), (1, .int a1), (2, .int a2), (3, .int r1), (4, .int j2), (5, .int j3)]) hx hb dL_does_525 hl (by decide) rfl (fun ls hl => ?_)
                        refine lv_aload_n hx hb dL_does_527 rfl (lv_at hl 3 rfl) ?_
                        refine lv_iload hx hb dL_does_528 (lv_at hl 1 rfl) ?_
                        refine lv_iload hx hb dL_does_530 (lv_at hl 0 rfl) ?_
                        obtain ⟨r72, hcr72, h⟩ := bn_sp h
                        refine va_calli (va_runV (As := [.int r69, .int x71]) (rest := []) ⟨hx, hb, hml, hown, hts⟩ (M_flash l D cI cC cZ cR b0 a Y o r69 x71 r72 hcr72) (cwV 2 hts gL_does_X7_flash rfl rfl rfl (by decide +kernel) ⟨Nat.le_of_ble_eq_true rfl, Nat.le_of_ble_eq_true rfl⟩) (cPcO_pv hO hK hb0 hS hstt) rfl rfl hl.1 rfl (lv_room (Nat.le_of_ble_eq_true rfl)) dL_does_532 ⟨Nat.le_of_ble_eq_true rfl, Nat.le_of_ble_eq_true rfl⟩) hS (fun q _ h => h) (fun q h => h) (fun xq u t H1 locs ht hvm hw hB hz1 hk1 hS => ?_)
                        rw [hw]
                        have hO : WO D cI cC cZ cR b0 a Y r72.2 H1 := by rw [← ht]; exact hB
                        generalize H1 = H at hO hS ⊢
                        refine lv_aload_n hx hb dL_does_535 rfl (lv_at hl 3 rfl) ?_
                        refine lv_iconst (v := 0) hx hb dL_does_536 (by decide) ?_
                        obtain ⟨r73, hcr73, h⟩ := bn_sp h
                        refine va_calli (va_runV (As := [.int 0]) (rest := [.int r72.1]) ⟨hx, hb, hml, hown, hts⟩ (M_count l D cI cC cZ cR b0 a Y r72.2 0 r73 hcr73) (cwV 1 hts gL_does_X7_count rfl rfl rfl (by decide +kernel) ⟨Nat.le_of_ble_eq_true rfl, Nat.le_of_ble_eq_true rfl⟩) (cPcO_pv hO hK hb0 hS hstt) rfl rfl hl.1 rfl (lv_room (Nat.le_of_ble_eq_true rfl)) dL_does_537 ⟨Nat.le_of_ble_eq_true rfl, Nat.le_of_ble_eq_true rfl⟩) hS (fun q _ h => h) (fun q h => h) (fun xq u t H1 locs ht hvm hw hB hz1 hk1 hS => ?_)
                        rw [hw]
                        have hO : WO D cI cC cZ cR b0 a Y r72.2 H1 := by rw [← ht]; exact hB
                        generalize H1 = H at hO hS ⊢
                        refine lv_iload hx hb dL_does_540 (lv_at hl 1 rfl) ?_
                        refine lv_iadd hx hb dL_does_542 ?_
                        refine lv_icmp_ne (tgt := 578) hx hb dL_does_543 (by decide) (fun c79 => ?_) (fun c79 => ?_)
                        · replace h := br_p c79 h
                          exact no_sm h
                        · replace h := br_n (not_not_intro c79) h
                          refine lv_aload_n hx hb dL_does_546 rfl (lv_at hl 3 rfl) ?_
                          refine lv_bipush (v := 6) hx hb dL_does_547 (by decide) ?_
                          obtain ⟨r74, hcr74, h⟩ := bn_sp h
                          refine va_calli (va_runV (As := [.int 6]) (rest := []) ⟨hx, hb, hml, hown, hts⟩ (M_count l D cI cC cZ cR b0 a Y r72.2 6 r74 hcr74) (cwV 1 hts gL_does_X7_count rfl rfl rfl (by decide +kernel) ⟨Nat.le_of_ble_eq_true rfl, Nat.le_of_ble_eq_true rfl⟩) (cPcO_pv hO hK hb0 hS hstt) rfl rfl hl.1 rfl (lv_room (Nat.le_of_ble_eq_true rfl)) dL_does_549 ⟨Nat.le_of_ble_eq_true rfl, Nat.le_of_ble_eq_true rfl⟩) hS (fun q _ h => h) (fun q h => h) (fun xq u t H1 locs ht hvm hw hB hz1 hk1 hS => ?_)
                          rw [hw]
                          have hO : WO D cI cC cZ cR b0 a Y r72.2 H1 := by rw [← ht]; exact hB
                          generalize H1 = H at hO hS ⊢
                          refine lv_aload_n hx hb dL_does_552 rfl (lv_at hl 3 rfl) ?_
                          refine lv_iconst (v := 0) hx hb dL_does_553 (by decide) ?_
                          obtain ⟨r75, hcr75, h⟩ := bn_sp h
                          refine va_calli (va_runV (As := [.int 0]) (rest := [.int r74]) ⟨hx, hb, hml, hown, hts⟩ (M_count l D cI cC cZ cR b0 a Y r72.2 0 r75 hcr75) (cwV 1 hts gL_does_X7_count rfl rfl rfl (by decide +kernel) ⟨Nat.le_of_ble_eq_true rfl, Nat.le_of_ble_eq_true rfl⟩) (cPcO_pv hO hK hb0 hS hstt) rfl rfl hl.1 rfl (lv_room (Nat.le_of_ble_eq_true rfl)) dL_does_554 ⟨Nat.le_of_ble_eq_true rfl, Nat.le_of_ble_eq_true rfl⟩) hS (fun q _ h => h) (fun q h => h) (fun xq u t H1 locs ht hvm hw hB hz1 hk1 hS => ?_)
                          rw [hw]
                          have hO : WO D cI cC cZ cR b0 a Y r72.2 H1 := by rw [← ht]; exact hB
                          generalize H1 = H at hO hS ⊢
                          refine lv_iload hx hb dL_does_557 (lv_at hl 1 rfl) ?_
                          refine lv_iadd hx hb dL_does_559 ?_
                          refine lv_icmp_ne (tgt := 578) hx hb dL_does_560 (by decide) (fun c78 => ?_) (fun c78 => ?_)
                          · replace h := br_p c78 h
                            exact no_sm h
                          · replace h := br_n (not_not_intro c78) h
                            refine lv_aload_n hx hb dL_does_563 rfl (lv_at hl 3 rfl) ?_
                            refine lv_bipush (v := 7) hx hb dL_does_564 (by decide) ?_
                            obtain ⟨r76, hcr76, h⟩ := bn_sp h
                            refine va_calli (va_runV (As := [.int 7]) (rest := []) ⟨hx, hb, hml, hown, hts⟩ (M_count l D cI cC cZ cR b0 a Y r72.2 7 r76 hcr76) (cwV 1 hts gL_does_X7_count rfl rfl rfl (by decide +kernel) ⟨Nat.le_of_ble_eq_true rfl, Nat.le_of_ble_eq_true rfl⟩) (cPcO_pv hO hK hb0 hS hstt) rfl rfl hl.1 rfl (lv_room (Nat.le_of_ble_eq_true rfl)) dL_does_566 ⟨Nat.le_of_ble_eq_true rfl, Nat.le_of_ble_eq_true rfl⟩) hS (fun q _ h => h) (fun q h => h) (fun xq u t H1 locs ht hvm hw hB hz1 hk1 hS => ?_)
                            rw [hw]
                            have hO : WO D cI cC cZ cR b0 a Y r72.2 H1 := by rw [← ht]; exact hB
                            generalize H1 = H at hO hS ⊢
                            refine lv_iload hx hb dL_does_569 (lv_at hl 0 rfl) ?_
                            refine lv_icmp_ne (tgt := 578) hx hb dL_does_571 (by decide) (fun c77 => ?_) (fun c77 => ?_)
                            · replace h := br_p c77 h
                              exact no_sm h
                            · replace h := br_n (not_not_intro c77) h
                              refine lv_iconst (v := 1) hx hb dL_does_574 (by decide) ?_
                              refine lv_goto (tgt := 579) hx hb dL_does_575 (by decide) ?_
                              have e9 := Option.some.inj h
                              subst e9
                              rw [hQ]
                              refine W.widen (k := 28) (n := 956) (Nat.le_of_ble_eq_true rfl) (Nat.le_of_ble_eq_true rfl) ?_
                              exact W.zret (v := 1) hx hb hr rfl (fun t ht hW => ⟨⟨1, (), rfl, rfl, by have h9 := hO; rw [← ht] at h9; exact h9⟩, hS.F ht⟩) hS.2.2 dL_does_579
                      · replace h := br_n c80 h
                        by_cases c95 : x61 = 8
                        · replace h := br_p c95 h
                          refine lv_tableIn (tgt := 580) hx hb dL_does_64 (by rw [c95]; decide) (by rw [c95]; decide) (by rw [c95]; rfl) (by decide) ?_
                          refine lv_iload_n hx hb dL_does_580 rfl (lv_at hl 2 rfl) ?_
                          refine lv_iconst (v := 4) hx hb dL_does_581 (by decide) ?_
                          refine lv_ishr hx hb dL_does_582 ?_
                          refine lv_iconst (v := 4) hx hb dL_does_583 (by decide) ?_
                          obtain ⟨r81, hcr81, h⟩ := bn_sp h
                          have hZ := va_nilD (b0 := b0) hb0 hS
                          refine va_calli (va_runS (As := [.int (a1 >>> (4 &&& 31)), .int 4]) (rest := []) ⟨hx, hb, hml, hown, hts⟩ (m_L_low l D cI cC cZ cR _ (a1 >>> (4 &&& 31)) 4 r81 hcr81) (va_cwS 2 hts gL_does_L_low rfl rfl rfl (by decide +kernel) ⟨Nat.le_of_ble_eq_true rfl, Nat.le_of_ble_eq_true rfl⟩) (cPc_ps (ws := []) (A := fun _ => True) va_nilP hK va_nilDD) rfl rfl hl.1 rfl (lv_room (Nat.le_of_ble_eq_true rfl)) dL_does_584 ⟨Nat.le_of_ble_eq_true rfl, Nat.le_of_ble_eq_true rfl⟩) hS (fun q _ h => hZ q h) hZ (fun xq u t H1 locs ht hvm hw hB hz1 hk1 hS => ?_)
                          rw [hw]
                          have hO : WO D cI cC cZ cR b0 a Y o H1 := WO_st hk1 hO
                          generalize H1 = H at hO hS ⊢
                          refine lv_istore (lv' := [(14, .int r81), (6, .int j4), (0, .ref (a 0)), (1, .int a1), (2, .int a2), (3, .int r1), (4, .int j2), (5, .int j3)]) hx hb dL_does_587 hl (by decide) rfl (fun ls hl => ?_)
                          refine lv_iload hx hb dL_does_589 (lv_at hl 0 rfl) ?_
                          obtain ⟨j642, hj642, h⟩ := jn_sp h
                          have J642 : ∀ (j82 : Int32) (H : Heap) (locs : List Loc) (ls : Array Slot), j642 j82 = some r → WO D cI cC cZ cR b0 a Y o H → va_S (fun q => b0 ≤ q) s.heap H locs → lv_has ls 19 [(0, .ref (a 0)), (1, .int a1), (2, .int a2), (3, .int r1), (4, .int j2), (5, .int j3), (6, .int j4), (14, .int r81)] → W p l e R_L_does s m ([.ref (a 0), .int a1, .int a2] : List Value).toArray below meth c H locs 0 0 Q (F0 m 642 ls [.int j82]) := by
                            intro j82 H locs ls h hO hS hl
                            rw [hj642] at h
                            refine lv_istore (lv' := [(15, .int j82), (0, .ref (a 0)), (1, .int a1), (2, .int a2), (3, .int r1), (4, .int j2), (5, .int j3), (6, .int j4), (14, .int r81)]) hx hb dL_does_642 hl (by decide) rfl (fun ls hl => ?_)
                            refine lv_aload_n hx hb dL_does_644 rfl (lv_at hl 1 rfl) ?_
                            refine lv_bipush (v := 8) hx hb dL_does_645 (by decide) ?_
                            refine lv_iload hx hb dL_does_647 (lv_at hl 8 rfl) ?_
                            refine lv_iadd hx hb dL_does_649 ?_
                            obtain ⟨r83, hcr83, h⟩ := bn_sp h
                            refine va_calli (va_runV (As := [.int (8 + r81)]) (rest := []) ⟨hx, hb, hml, hown, hts⟩ (M_count l D cI cC cZ cR b0 a Y o (8 + r81) r83 hcr83) (cwV 1 hts gL_does_X7_count rfl rfl rfl (by decide +kernel) ⟨Nat.le_of_ble_eq_true rfl, Nat.le_of_ble_eq_true rfl⟩) (cPcO_pv hO hK hb0 hS hstt) rfl rfl hl.1 rfl (lv_room (Nat.le_of_ble_eq_true rfl)) dL_does_650 ⟨Nat.le_of_ble_eq_true rfl, Nat.le_of_ble_eq_true rfl⟩) hS (fun q _ h => h) (fun q h => h) (fun xq u t H1 locs ht hvm hw hB hz1 hk1 hS => ?_)
                            rw [hw]
                            have hO : WO D cI cC cZ cR b0 a Y o H1 := by rw [← ht]; exact hB
                            generalize H1 = H at hO hS ⊢
                            refine lv_istore (lv' := [(16, .int r83), (15, .int j82), (0, .ref (a 0)), (1, .int a1), (2, .int a2), (3, .int r1), (4, .int j2), (5, .int j3), (6, .int j4), (14, .int r81)]) hx hb dL_does_653 hl (by decide) rfl (fun ls hl => ?_)
                            refine lv_aload_n hx hb dL_does_655 rfl (lv_at hl 2 rfl) ?_
                            refine lv_iload hx hb dL_does_656 (lv_at hl 9 rfl) ?_
                            refine lv_iload hx hb dL_does_658 (lv_at hl 1 rfl) ?_
                            obtain ⟨r84, hcr84, h⟩ := bn_sp h
                            refine va_calli (va_runV (As := [.int r81, .int j82]) (rest := []) ⟨hx, hb, hml, hown, hts⟩ (M_set l D cI cC cZ cR b0 a Y o r81 j82 r84 hcr84) (cwV 2 hts gL_does_X7_set rfl rfl rfl (by decide +kernel) ⟨Nat.le_of_ble_eq_true rfl, Nat.le_of_ble_eq_true rfl⟩) (cPcO_pv hO hK hb0 hS hstt) rfl rfl hl.1 rfl (lv_room (Nat.le_of_ble_eq_true rfl)) dL_does_660 ⟨Nat.le_of_ble_eq_true rfl, Nat.le_of_ble_eq_true rfl⟩) hS (fun q _ h => h) (fun q h => h) (fun xq u t H1 locs ht hvm hw hB hz1 hk1 hS => ?_)
                            rw [hw]
                            have hO : WO D cI cC cZ cR b0 a Y r84.2 H1 := by rw [← ht]; exact hB
                            generalize H1 = H at hO hS ⊢
                            refine lv_iload hx hb dL_does_663 (lv_at hl 0 rfl) ?_
                            refine lv_icmp_ne (tgt := 686) hx hb dL_does_665 (by decide) (fun c87 => ?_) (fun c87 => ?_)
                            · replace h := br_p c87 h
                              exact no_sm h
                            · replace h := br_n (not_not_intro c87) h
                              refine lv_aload_n hx hb dL_does_668 rfl (lv_at hl 2 rfl) ?_
                              refine lv_bipush (v := 8) hx hb dL_does_669 (by decide) ?_
                              refine lv_iload hx hb dL_does_671 (lv_at hl 9 rfl) ?_
                              refine lv_iadd hx hb dL_does_673 ?_
                              obtain ⟨r85, hcr85, h⟩ := bn_sp h
                              refine va_calli (va_runV (As := [.int (8 + r81)]) (rest := []) ⟨hx, hb, hml, hown, hts⟩ (M_count l D cI cC cZ cR b0 a Y r84.2 (8 + r81) r85 hcr85) (cwV 1 hts gL_does_X7_count rfl rfl rfl (by decide +kernel) ⟨Nat.le_of_ble_eq_true rfl, Nat.le_of_ble_eq_true rfl⟩) (cPcO_pv hO hK hb0 hS hstt) rfl rfl hl.1 rfl (lv_room (Nat.le_of_ble_eq_true rfl)) dL_does_674 ⟨Nat.le_of_ble_eq_true rfl, Nat.le_of_ble_eq_true rfl⟩) hS (fun q _ h => h) (fun q h => h) (fun xq u t H1 locs ht hvm hw hB hz1 hk1 hS => ?_)
                              rw [hw]
                              have hO : WO D cI cC cZ cR b0 a Y r84.2 H1 := by rw [← ht]; exact hB
                              generalize H1 = H at hO hS ⊢
                              refine lv_iload hx hb dL_does_677 (lv_at hl 1 rfl) ?_
                              refine lv_icmp_ne (tgt := 686) hx hb dL_does_679 (by decide) (fun c86 => ?_) (fun c86 => ?_)
                              · replace h := br_p c86 h
                                exact no_sm h
                              · replace h := br_n (not_not_intro c86) h
                                refine lv_iconst (v := 1) hx hb dL_does_682 (by decide) ?_
                                refine lv_goto (tgt := 687) hx hb dL_does_683 (by decide) ?_
                                have e9 := Option.some.inj h
                                subst e9
                                rw [hQ]
                                refine W.widen (k := 28) (n := 956) (Nat.le_of_ble_eq_true rfl) (Nat.le_of_ble_eq_true rfl) ?_
                                exact W.zret (v := 1) hx hb hr rfl (fun t ht hW => ⟨⟨1, (), rfl, rfl, by have h9 := hO; rw [← ht] at h9; exact h9⟩, hS.F ht⟩) hS.2.2 dL_does_687
                          refine lv_if_ne (tgt := 603) hx hb dL_does_591 (by decide) (fun c94 => ?_) (fun c94 => ?_)
                          · replace h := br_p c94 h
                            refine lv_iload hx hb dL_does_603 (lv_at hl 0 rfl) ?_
                            refine lv_iconst (v := 1) hx hb dL_does_605 (by decide) ?_
                            refine lv_icmp_ne (tgt := 620) hx hb dL_does_606 (by decide) (fun c92 => ?_) (fun c92 => ?_)
                            · replace h := br_p c92 h
                              refine lv_iload hx hb dL_does_620 (lv_at hl 0 rfl) ?_
                              refine lv_iconst (v := 2) hx hb dL_does_622 (by decide) ?_
                              refine lv_icmp_ne (tgt := 635) hx hb dL_does_623 (by decide) (fun c90 => ?_) (fun c90 => ?_)
                              · replace h := br_p c90 h
                                refine lv_iconst (v := 1) hx hb dL_does_635 (by decide) ?_
                                refine lv_iload_n hx hb dL_does_636 rfl (lv_at hl 4 rfl) ?_
                                refine lv_iconst (v := 4) hx hb dL_does_637 (by decide) ?_
                                obtain ⟨r88, hcr88, h⟩ := bn_sp h
                                have hZ := va_nilD (b0 := b0) hb0 hS
                                refine va_calli (va_runS (As := [.int a2, .int 4]) (rest := [.int 1]) ⟨hx, hb, hml, hown, hts⟩ (m_L_low l D cI cC cZ cR _ a2 4 r88 hcr88) (va_cwS 2 hts gL_does_L_low rfl rfl rfl (by decide +kernel) ⟨Nat.le_of_ble_eq_true rfl, Nat.le_of_ble_eq_true rfl⟩) (cPc_ps (ws := []) (A := fun _ => True) va_nilP hK va_nilDD) rfl rfl hl.1 rfl (lv_room (Nat.le_of_ble_eq_true rfl)) dL_does_638 ⟨Nat.le_of_ble_eq_true rfl, Nat.le_of_ble_eq_true rfl⟩) hS (fun q _ h => hZ q h) hZ (fun xq u t H1 locs ht hvm hw hB hz1 hk1 hS => ?_)
                                rw [hw]
                                have hO : WO D cI cC cZ cR b0 a Y o H1 := WO_st hk1 hO
                                generalize H1 = H at hO hS ⊢
                                refine lv_iadd hx hb dL_does_641 ?_
                                exact J642 _ _ _ _ h hO hS (lv_sub hl [2, 3, 4, 5, 6, 7, 1, 0] rfl)
                              · replace h := br_n (not_not_intro c90) h
                                refine lv_iload_n hx hb dL_does_626 rfl (lv_at hl 4 rfl) ?_
                                refine lv_bipush (v := 41) hx hb dL_does_627 (by decide) ?_
                                obtain ⟨r89, hcr89, h⟩ := bn_sp h
                                have hZ := va_nilD (b0 := b0) hb0 hS
                                refine va_calli (va_runS (As := [.int a2, .int 41]) (rest := []) ⟨hx, hb, hml, hown, hts⟩ (m_L_low l D cI cC cZ cR _ a2 41 r89 hcr89) (va_cwS 2 hts gL_does_L_low rfl rfl rfl (by decide +kernel) ⟨Nat.le_of_ble_eq_true rfl, Nat.le_of_ble_eq_true rfl⟩) (cPc_ps (ws := []) (A := fun _ => True) va_nilP hK va_nilDD) rfl rfl hl.1 rfl (lv_room (Nat.le_of_ble_eq_true rfl)) dL_does_629 ⟨Nat.le_of_ble_eq_true rfl, Nat.le_of_ble_eq_true rfl⟩) hS (fun q _ h => hZ q h) hZ (fun xq u t H1 locs ht hvm hw hB hz1 hk1 hS => ?_)
                                rw [hw]
                                have hO : WO D cI cC cZ cR b0 a Y o H1 := WO_st hk1 hO
                                generalize H1 = H at hO hS ⊢
                                refine lv_goto (tgt := 642) hx hb dL_does_632 (by decide) ?_
                                exact J642 _ _ _ _ h hO hS (lv_sub hl [2, 3, 4, 5, 6, 7, 1, 0] rfl)
                            · replace h := br_n (not_not_intro c92) h
                              refine lv_iconst (v := 1) hx hb dL_does_609 (by decide) ?_
                              refine lv_iload_n hx hb dL_does_610 rfl (lv_at hl 4 rfl) ?_
                              refine lv_bipush (v := 20) hx hb dL_does_611 (by decide) ?_
                              obtain ⟨r91, hcr91, h⟩ := bn_sp h
                              have hZ := va_nilD (b0 := b0) hb0 hS
                              refine va_calli (va_runS (As := [.int a2, .int 20]) (rest := [.int 1]) ⟨hx, hb, hml, hown, hts⟩ (m_L_low l D cI cC cZ cR _ a2 20 r91 hcr91) (va_cwS 2 hts gL_does_L_low rfl rfl rfl (by decide +kernel) ⟨Nat.le_of_ble_eq_true rfl, Nat.le_of_ble_eq_true rfl⟩) (cPc_ps (ws := []) (A := fun _ => True) va_nilP hK va_nilDD) rfl rfl hl.1 rfl (lv_room (Nat.le_of_ble_eq_true rfl)) dL_does_613 ⟨Nat.le_of_ble_eq_true rfl, Nat.le_of_ble_eq_true rfl⟩) hS (fun q _ h => hZ q h) hZ (fun xq u t H1 locs ht hvm hw hB hz1 hk1 hS => ?_)
                              rw [hw]
                              have hO : WO D cI cC cZ cR b0 a Y o H1 := WO_st hk1 hO
                              generalize H1 = H at hO hS ⊢
                              refine lv_iadd hx hb dL_does_616 ?_
                              refine lv_goto (tgt := 642) hx hb dL_does_617 (by decide) ?_
                              exact J642 _ _ _ _ h hO hS (lv_sub hl [2, 3, 4, 5, 6, 7, 1, 0] rfl)
                          · replace h := br_n (not_not_intro c94) h
                            refine lv_iload_n hx hb dL_does_594 rfl (lv_at hl 4 rfl) ?_
                            refine lv_bipush (v := 10) hx hb dL_does_595 (by decide) ?_
                            obtain ⟨r93, hcr93, h⟩ := bn_sp h
                            have hZ := va_nilD (b0 := b0) hb0 hS
                            refine va_calli (va_runS (As := [.int a2, .int 10]) (rest := []) ⟨hx, hb, hml, hown, hts⟩ (m_L_low l D cI cC cZ cR _ a2 10 r93 hcr93) (va_cwS 2 hts gL_does_L_low rfl rfl rfl (by decide +kernel) ⟨Nat.le_of_ble_eq_true rfl, Nat.le_of_ble_eq_true rfl⟩) (cPc_ps (ws := []) (A := fun _ => True) va_nilP hK va_nilDD) rfl rfl hl.1 rfl (lv_room (Nat.le_of_ble_eq_true rfl)) dL_does_597 ⟨Nat.le_of_ble_eq_true rfl, Nat.le_of_ble_eq_true rfl⟩) hS (fun q _ h => hZ q h) hZ (fun xq u t H1 locs ht hvm hw hB hz1 hk1 hS => ?_)
                            rw [hw]
                            have hO : WO D cI cC cZ cR b0 a Y o H1 := WO_st hk1 hO
                            generalize H1 = H at hO hS ⊢
                            refine lv_goto (tgt := 642) hx hb dL_does_600 (by decide) ?_
                            exact J642 _ _ _ _ h hO hS (lv_sub hl [2, 3, 4, 5, 6, 7, 1, 0] rfl)
                        · replace h := br_n c95 h
                          by_cases c96 : x61 = 9
                          · replace h := br_p c96 h
                            refine lv_tableIn (tgt := 688) hx hb dL_does_64 (by rw [c96]; decide) (by rw [c96]; decide) (by rw [c96]; rfl) (by decide) ?_
                            exact J688 _ _ _ _ h hO hS (lv_sub hl [1, 2, 3, 4, 5, 6, 0] rfl)
                          · replace h := br_n c96 h
                            by_cases c97 : x61 = 10
                            · replace h := br_p c97 h
                              refine lv_tableIn (tgt := 688) hx hb dL_does_64 (by rw [c97]; decide) (by rw [c97]; decide) (by rw [c97]; rfl) (by decide) ?_
                              exact J688 _ _ _ _ h hO hS (lv_sub hl [1, 2, 3, 4, 5, 6, 0] rfl)
                            · replace h := br_n c97 h
                              refine lv_tableOut (tgt := 694) hx hb dL_does_64 (sw_out11 (fun e => c62 (Int32.toInt_inj.mp (e.trans (by decide)))) (fun e => c63 (Int32.toInt_inj.mp (e.trans (by decide)))) (fun e => c64 (Int32.toInt_inj.mp (e.trans (by decide)))) (fun e => c65 (Int32.toInt_inj.mp (e.trans (by decide)))) (fun e => c66 (Int32.toInt_inj.mp (e.trans (by decide)))) (fun e => c67 (Int32.toInt_inj.mp (e.trans (by decide)))) (fun e => c68 (Int32.toInt_inj.mp (e.trans (by decide)))) (fun e => c80 (Int32.toInt_inj.mp (e.trans (by decide)))) (fun e => c95 (Int32.toInt_inj.mp (e.trans (by decide)))) (fun e => c96 (Int32.toInt_inj.mp (e.trans (by decide)))) (fun e => c97 (Int32.toInt_inj.mp (e.trans (by decide))))) (by decide) ?_
                              refine lv_aload_n hx hb dL_does_694 rfl (lv_at hl 1 rfl) ?_
                              refine lv_iconst (v := 0) hx hb dL_does_695 (by decide) ?_
                              obtain ⟨r98, hcr98, h⟩ := bn_sp h
                              refine va_calli (va_runV (As := [.int 0]) (rest := []) ⟨hx, hb, hml, hown, hts⟩ (M_count l D cI cC cZ cR b0 a Y o 0 r98 hcr98) (cwV 1 hts gL_does_X7_count rfl rfl rfl (by decide +kernel) ⟨Nat.le_of_ble_eq_true rfl, Nat.le_of_ble_eq_true rfl⟩) (cPcO_pv hO hK hb0 hS hstt) rfl rfl hl.1 rfl (lv_room (Nat.le_of_ble_eq_true rfl)) dL_does_696 ⟨Nat.le_of_ble_eq_true rfl, Nat.le_of_ble_eq_true rfl⟩) hS (fun q _ h => h) (fun q h => h) (fun xq u t H1 locs ht hvm hw hB hz1 hk1 hS => ?_)
                              rw [hw]
                              have hO : WO D cI cC cZ cR b0 a Y o H1 := by rw [← ht]; exact hB
                              generalize H1 = H at hO hS ⊢
                              refine lv_istore (lv' := [(17, .int r98), (6, .int j4), (0, .ref (a 0)), (1, .int a1), (2, .int a2), (3, .int r1), (4, .int j2), (5, .int j3)]) hx hb dL_does_699 hl (by decide) rfl (fun ls hl => ?_)
                              refine lv_iconst (v := 1) hx hb dL_does_701 (by decide) ?_
                              refine lv_iload_n hx hb dL_does_702 rfl (lv_at hl 4 rfl) ?_
                              refine lv_bipush (v := 30) hx hb dL_does_703 (by decide) ?_
                              obtain ⟨r99, hcr99, h⟩ := bn_sp h
                              have hZ := va_nilD (b0 := b0) hb0 hS
                              refine va_calli (va_runS (As := [.int a2, .int 30]) (rest := [.int 1]) ⟨hx, hb, hml, hown, hts⟩ (m_L_low l D cI cC cZ cR _ a2 30 r99 hcr99) (va_cwS 2 hts gL_does_L_low rfl rfl rfl (by decide +kernel) ⟨Nat.le_of_ble_eq_true rfl, Nat.le_of_ble_eq_true rfl⟩) (cPc_ps (ws := []) (A := fun _ => True) va_nilP hK va_nilDD) rfl rfl hl.1 rfl (lv_room (Nat.le_of_ble_eq_true rfl)) dL_does_705 ⟨Nat.le_of_ble_eq_true rfl, Nat.le_of_ble_eq_true rfl⟩) hS (fun q _ h => hZ q h) hZ (fun xq u t H1 locs ht hvm hw hB hz1 hk1 hS => ?_)
                              rw [hw]
                              have hO : WO D cI cC cZ cR b0 a Y o H1 := WO_st hk1 hO
                              generalize H1 = H at hO hS ⊢
                              refine lv_iadd hx hb dL_does_708 ?_
                              refine lv_topi (fun x100 ex100 => ?_)
                              replace h := bd_s2 h ex100
                              refine lv_istore (lv' := [(18, .int x100), (17, .int r98), (6, .int j4), (0, .ref (a 0)), (1, .int a1), (2, .int a2), (3, .int r1), (4, .int j2), (5, .int j3)]) hx hb dL_does_709 hl (by decide) rfl (fun ls hl => ?_)
                              refine lv_aload_n hx hb dL_does_711 rfl (lv_at hl 3 rfl) ?_
                              refine lv_iload hx hb dL_does_712 (lv_at hl 0 rfl) ?_
                              obtain ⟨r101, hcr101, h⟩ := bn_sp h
                              refine va_calli (va_runV (As := [.int x100]) (rest := []) ⟨hx, hb, hml, hown, hts⟩ (M_pass l D cI cC cZ cR b0 a Y o x100 r101 hcr101) (cwV 1 hts gL_does_X7_pass rfl rfl rfl (by decide +kernel) ⟨Nat.le_of_ble_eq_true rfl, Nat.le_of_ble_eq_true rfl⟩) (cPcO_pv hO hK hb0 hS hstt) rfl rfl hl.1 rfl (lv_room (Nat.le_of_ble_eq_true rfl)) dL_does_714 ⟨Nat.le_of_ble_eq_true rfl, Nat.le_of_ble_eq_true rfl⟩) hS (fun q _ h => h) (fun q h => h) (fun xq u t H1 locs ht hvm hw hB hz1 hk1 hS => ?_)
                              rw [hw]
                              have hO : WO D cI cC cZ cR b0 a Y r101.2 H1 := by rw [← ht]; exact hB
                              generalize H1 = H at hO hS ⊢
                              refine lv_iload hx hb dL_does_717 (lv_at hl 1 rfl) ?_
                              refine lv_iload hx hb dL_does_719 (lv_at hl 0 rfl) ?_
                              refine lv_iadd hx hb dL_does_721 ?_
                              refine lv_sipush (v := 9999) hx hb dL_does_722 (by decide) ?_
                              obtain ⟨j738, hj738, h⟩ := jn_sp h
                              have J738 : ∀ (j102 : Int32) (H : Heap) (locs : List Loc) (ls : Array Slot), j738 j102 = some r → WO D cI cC cZ cR b0 a Y r101.2 H → va_S (fun q => b0 ≤ q) s.heap H locs → lv_has ls 19 [(0, .ref (a 0)), (1, .int a1), (2, .int a2), (3, .int r1), (4, .int j2), (5, .int j3), (6, .int j4), (17, .int r98), (18, .int x100)] → W p l e R_L_does s m ([.ref (a 0), .int a1, .int a2] : List Value).toArray below meth c H locs 14 478 Q (F0 m 738 ls [.int j102, .int r101.1]) := by
                                intro j102 H locs ls h hO hS hl
                                rw [hj738] at h
                                refine lv_icmp_ne (tgt := 745) hx hb dL_does_738 (by decide) (fun c103 => ?_) (fun c103 => ?_)
                                · replace h := br_p c103 h
                                  exact no_sm h
                                · replace h := br_n (not_not_intro c103) h
                                  refine lv_iconst (v := 1) hx hb dL_does_741 (by decide) ?_
                                  refine lv_goto (tgt := 746) hx hb dL_does_742 (by decide) ?_
                                  have e9 := Option.some.inj h
                                  subst e9
                                  rw [hQ]
                                  refine W.widen (k := 28) (n := 956) (Nat.le_of_ble_eq_true rfl) (Nat.le_of_ble_eq_true rfl) ?_
                                  exact W.zret (v := 1) hx hb hr rfl (fun t ht hW => ⟨⟨1, (), rfl, rfl, by have h9 := hO; rw [← ht] at h9; exact h9⟩, hS.F ht⟩) hS.2.2 dL_does_746
                              refine lv_icmp_le (tgt := 733) hx hb dL_does_725 (by decide) (fun c104 => ?_) (fun c104 => ?_)
                              · replace h := br_p c104 h
                                refine lv_iload hx hb dL_does_733 (lv_at hl 1 rfl) ?_
                                refine lv_iload hx hb dL_does_735 (lv_at hl 0 rfl) ?_
                                refine lv_iadd hx hb dL_does_737 ?_
                                exact J738 _ _ _ _ h hO hS (lv_sub hl [3, 4, 5, 6, 7, 8, 2, 1, 0] rfl)
                              · replace h := br_n c104 h
                                refine lv_bipush (v := (-5)) hx hb dL_does_728 (by decide) ?_
                                refine lv_goto (tgt := 738) hx hb dL_does_730 (by decide) ?_
                                exact J738 _ _ _ _ h hO hS (lv_sub hl [3, 4, 5, 6, 7, 8, 2, 1, 0] rfl)
      refine lv_if_ne (tgt := 48) hx hb dL_does_41 (by decide) (fun c106 => ?_) (fun c106 => ?_)
      · replace h := br_p c106 h
        refine lv_aload_n hx hb dL_does_48 rfl (lv_at hl 1 rfl) ?_
        refine lv_iload_n hx hb dL_does_49 rfl (lv_at hl 4 rfl) ?_
        refine lv_iconst (v := 1) hx hb dL_does_50 (by decide) ?_
        refine lv_isub hx hb dL_does_51 ?_
        refine lv_iconst (v := 1) hx hb dL_does_52 (by decide) ?_
        obtain ⟨r105, hcr105, h⟩ := bn_sp h
        refine va_calli (va_runV (As := [.int (r1 - 1), .int 1]) (rest := []) ⟨hx, hb, hml, hown, hts⟩ (M_of l D cI cC cZ cR b0 a Y o (r1 - 1) 1 r105 hcr105) (cwV 2 hts gL_does_X7_of rfl rfl rfl (by decide +kernel) ⟨Nat.le_of_ble_eq_true rfl, Nat.le_of_ble_eq_true rfl⟩) (cPcO_pv hO hK hb0 hS hstt) rfl rfl hl.1 rfl (lv_room (Nat.le_of_ble_eq_true rfl)) dL_does_53 ⟨Nat.le_of_ble_eq_true rfl, Nat.le_of_ble_eq_true rfl⟩) hS (fun q _ h => h) (fun q h => h) (fun xq u t H1 locs ht hvm hw hB hz1 hk1 hS => ?_)
        rw [hw]
        have hO : WO D cI cC cZ cR b0 a Y o H1 := by rw [← ht]; exact hB
        generalize H1 = H at hO hS ⊢
        exact J56 _ _ _ _ h hO hS (lv_sub hl [1, 2, 3, 4, 5, 0] rfl)
      · replace h := br_n (not_not_intro c106) h
        refine lv_iconst (v := 0) hx hb dL_does_44 (by decide) ?_
        refine lv_goto (tgt := 56) hx hb dL_does_45 (by decide) ?_
        exact J56 _ _ _ _ h hO hS (lv_sub hl [1, 2, 3, 4, 5, 0] rfl)
    refine lv_if_ne (tgt := 31) hx hb dL_does_24 (by decide) (fun c108 => ?_) (fun c108 => ?_)
    · replace h := br_p c108 h
      refine lv_aload_n hx hb dL_does_31 rfl (lv_at hl 1 rfl) ?_
      refine lv_iload hx hb dL_does_32 (lv_at hl 0 rfl) ?_
      refine lv_iconst (v := 1) hx hb dL_does_34 (by decide) ?_
      obtain ⟨r107, hcr107, h⟩ := bn_sp h
      refine va_calli (va_runV (As := [.int j2, .int 1]) (rest := []) ⟨hx, hb, hml, hown, hts⟩ (M_of l D cI cC cZ cR b0 a Y o j2 1 r107 hcr107) (cwV 2 hts gL_does_X7_of rfl rfl rfl (by decide +kernel) ⟨Nat.le_of_ble_eq_true rfl, Nat.le_of_ble_eq_true rfl⟩) (cPcO_pv hO hK hb0 hS hstt) rfl rfl hl.1 rfl (lv_room (Nat.le_of_ble_eq_true rfl)) dL_does_35 ⟨Nat.le_of_ble_eq_true rfl, Nat.le_of_ble_eq_true rfl⟩) hS (fun q _ h => h) (fun q h => h) (fun xq u t H1 locs ht hvm hw hB hz1 hk1 hS => ?_)
      rw [hw]
      have hO : WO D cI cC cZ cR b0 a Y o H1 := by rw [← ht]; exact hB
      generalize H1 = H at hO hS ⊢
      exact J38 _ _ _ _ h hO hS (lv_sub hl [1, 2, 3, 4, 0] rfl)
    · replace h := br_n (not_not_intro c108) h
      refine lv_iconst (v := 0) hx hb dL_does_27 (by decide) ?_
      refine lv_goto (tgt := 38) hx hb dL_does_28 (by decide) ?_
      exact J38 _ _ _ _ h hO hS (lv_sub hl [1, 2, 3, 4, 0] rfl)
  refine lv_if_ne (tgt := 14) hx hb dL_does_7 (by decide) (fun c110 => ?_) (fun c110 => ?_)
  · replace h := br_p c110 h
    refine lv_iload_n hx hb dL_does_14 rfl (lv_at hl 2 rfl) ?_
    refine lv_iconst (v := 4) hx hb dL_does_15 (by decide) ?_
    refine lv_ishr hx hb dL_does_16 ?_
    refine lv_iload_n hx hb dL_does_17 rfl (lv_at hl 0 rfl) ?_
    obtain ⟨r109, hcr109, h⟩ := bn_sp h
    have hZ := va_nilD (b0 := b0) hb0 hS
    refine va_calli (va_runS (As := [.int (a1 >>> (4 &&& 31)), .int r1]) (rest := []) ⟨hx, hb, hml, hown, hts⟩ (m_L_low l D cI cC cZ cR _ (a1 >>> (4 &&& 31)) r1 r109 hcr109) (va_cwS 2 hts gL_does_L_low rfl rfl rfl (by decide +kernel) ⟨Nat.le_of_ble_eq_true rfl, Nat.le_of_ble_eq_true rfl⟩) (cPc_ps (ws := []) (A := fun _ => True) va_nilP hK va_nilDD) rfl rfl hl.1 rfl (lv_room (Nat.le_of_ble_eq_true rfl)) dL_does_18 ⟨Nat.le_of_ble_eq_true rfl, Nat.le_of_ble_eq_true rfl⟩) hS (fun q _ h => hZ q h) hZ (fun xq u t H1 locs ht hvm hw hB hz1 hk1 hS => ?_)
    rw [hw]
    have hO : WO D cI cC cZ cR b0 a Y o H1 := WO_st hk1 hO
    generalize H1 = H at hO hS ⊢
    exact J21 _ _ _ _ h hO hS (lv_sub hl [1, 2, 3, 0] rfl)
  · replace h := br_n (not_not_intro c110) h
    refine lv_iconst (v := 0) hx hb dL_does_10 (by decide) ?_
    refine lv_goto (tgt := 21) hx hb dL_does_11 (by decide) ?_
    exact J21 _ _ _ _ h hO hS (lv_sub hl [1, 2, 3, 0] rfl)
