set_option maxHeartbeats 40000000 in
set_option maxRecDepth 100000 in
theorem law_go {p : Program} {l : Launch} {e : Env} {s : State} {m : MethodId} {below : List Frame} {meth : Method} {c : Code} {D : va_G} {cI cC cZ cR : ClassId} {b L : Nat} {xs : Nat → Int32} (C0 : lw_At p s m meth c b L xs) (hK : kk D cI cC cZ cR s) (hstt : stt cI (fun q => s.heap.size ≤ q) s s.heap) (a : Nat → Nat) (o : OB) (H : Heap) (locs : List Loc) (ls : Array Slot) (cc ss : Nat) (h : f_L_law L xs o = some ()) (hcc : cc ≤ 100) (hss : ss ≤ 2000) (hO : WO D cI cC cZ cR s.heap.size a [] o H) (hS : va_S (fun q => s.heap.size ≤ q) s.heap H locs) (hl : lv_has ls 6 [(0, .ref b), (1, .ref (a 0))]) : W p l e room_1 s m #[Value.ref b] below meth c H locs cc ss (lw_Z below #[Value.ref b] s) (F0 m 8 ls []) := by
  obtain ⟨hx, hb, hr, hml, hown, hts0, hX, hbl, hlocks, hgv⟩ := id C0
  have hts := fun w h => hts0 w (wsL_law_in w h)
  have hb0 := Nat.le_refl s.heap.size
  have hA : ∀ q : Nat, s.heap.size ≤ q → (fun q : Nat => s.heap.size ≤ q) q := fun _ h => h
  unfold f_L_law at h
  refine lv_aload_n hx hb dL_law_8 rfl (lv_at hl 1 rfl) ?_
  obtain ⟨r1, hcr1, h⟩ := bn_sp h
  refine va_calli (va_runS (As := [.ref (a 0)]) (rest := []) ⟨hx, hb, hml, hown, hts⟩ (m_L_isPicture l D cI cC cZ cR s.heap.size a [] o r1 hcr1) (va_cwS 1 hts gL_law_L_isPicture rfl rfl rfl (by decide +kernel) ⟨Nat.le_of_ble_eq_true rfl, Nat.le_of_ble_eq_true rfl⟩) (cPcO_ps hO hK hb0 hS hstt) rfl rfl hl.1 rfl (lv_room (Nat.le_of_ble_eq_true rfl)) dL_law_9 ⟨by show _ ≤ 600000; omega, by show _ ≤ 7302250; omega⟩) hS (fun q _ h => h) (fun q h => h) (fun xq u t H1 locs ht hvm hw hB hz1 hk1 hS => ?_)
  rw [hw]
  have hO : WO D cI cC cZ cR s.heap.size a [] o H1 := by rw [← ht]; exact hB
  generalize H1 = H at hO hS ⊢
  refine lv_if_eq (tgt := 62) hx hb dL_law_12 (by decide) (fun c30 => ?_) (fun c30 => ?_)
  · replace h := br_p c30 h
    exact no_sm h
  · replace h := br_n c30 h
    refine lv_aload_n hx hb dL_law_15 rfl (lv_at hl 1 rfl) ?_
    refine lv_iconst (v := 3) hx hb dL_law_16 (by decide) ?_
    obtain ⟨r2, hcr2, h⟩ := bn_sp h
    refine va_calli (va_runV (As := [.int 3]) (rest := []) ⟨hx, hb, hml, hown, hts⟩ (M_count l D cI cC cZ cR s.heap.size a [] o 3 r2 hcr2) (cwV 1 hts gL_law_X7_count rfl rfl rfl (by decide +kernel) ⟨Nat.le_of_ble_eq_true rfl, Nat.le_of_ble_eq_true rfl⟩) (cPcO_pv hO hK hb0 hS hstt) rfl rfl hl.1 rfl (lv_room (Nat.le_of_ble_eq_true rfl)) dL_law_17 ⟨by show _ ≤ 600000; omega, by show _ ≤ 7302250; omega⟩) hS (fun q _ h => h) (fun q h => h) (fun xq u t H1 locs ht hvm hw hB hz1 hk1 hS => ?_)
    rw [hw]
    have hO : WO D cI cC cZ cR s.heap.size a [] o H1 := by rw [← ht]; exact hB
    generalize H1 = H at hO hS ⊢
    refine lv_ldc (v := 65535) hx hb hown (hts _ kL_law_0) dL_law_20 ?_
    refine lv_icmp_ne (tgt := 62) hx hb dL_law_22 (by decide) (fun c29 => ?_) (fun c29 => ?_)
    · replace h := br_p c29 h
      exact no_sm h
    · replace h := br_n (not_not_intro c29) h
      refine lv_aload_n hx hb dL_law_25 rfl (lv_at hl 1 rfl) ?_
      refine lv_bipush (v := 6) hx hb dL_law_26 (by decide) ?_
      obtain ⟨r3, hcr3, h⟩ := bn_sp h
      refine va_calli (va_runV (As := [.int 6]) (rest := []) ⟨hx, hb, hml, hown, hts⟩ (M_count l D cI cC cZ cR s.heap.size a [] o 6 r3 hcr3) (cwV 1 hts gL_law_X7_count rfl rfl rfl (by decide +kernel) ⟨Nat.le_of_ble_eq_true rfl, Nat.le_of_ble_eq_true rfl⟩) (cPcO_pv hO hK hb0 hS hstt) rfl rfl hl.1 rfl (lv_room (Nat.le_of_ble_eq_true rfl)) dL_law_28 ⟨by show _ ≤ 600000; omega, by show _ ≤ 7302250; omega⟩) hS (fun q _ h => h) (fun q h => h) (fun xq u t H1 locs ht hvm hw hB hz1 hk1 hS => ?_)
      rw [hw]
      have hO : WO D cI cC cZ cR s.heap.size a [] o H1 := by rw [← ht]; exact hB
      generalize H1 = H at hO hS ⊢
      refine lv_bipush (v := (-6)) hx hb dL_law_31 (by decide) ?_
      refine lv_icmp_ne (tgt := 62) hx hb dL_law_33 (by decide) (fun c28 => ?_) (fun c28 => ?_)
      · replace h := br_p c28 h
        exact no_sm h
      · replace h := br_n (not_not_intro c28) h
        refine lv_aload_n hx hb dL_law_36 rfl (lv_at hl 1 rfl) ?_
        obtain ⟨r4, hcr4, h⟩ := bn_sp h
        refine va_calli (va_runV (As := []) (rest := []) ⟨hx, hb, hml, hown, hts⟩ (M_flashed l D cI cC cZ cR s.heap.size a [] o  r4 hcr4) (cwV 0 hts gL_law_X7_flashed rfl rfl rfl (by decide +kernel) ⟨Nat.le_of_ble_eq_true rfl, Nat.le_of_ble_eq_true rfl⟩) (cPcO_pv hO hK hb0 hS hstt) rfl rfl hl.1 rfl (lv_room (Nat.le_of_ble_eq_true rfl)) dL_law_37 ⟨by show _ ≤ 600000; omega, by show _ ≤ 7302250; omega⟩) hS (fun q _ h => h) (fun q h => h) (fun xq u t H1 locs ht hvm hw hB hz1 hk1 hS => ?_)
        rw [hw]
        have hO : WO D cI cC cZ cR s.heap.size a [] o H1 := by rw [← ht]; exact hB
        generalize H1 = H at hO hS ⊢
        refine lv_if_ne (tgt := 62) hx hb dL_law_40 (by decide) (fun c27 => ?_) (fun c27 => ?_)
        · replace h := br_p c27 h
          exact no_sm h
        · replace h := br_n (not_not_intro c27) h
          refine lv_aload_n hx hb dL_law_43 rfl (lv_at hl 1 rfl) ?_
          obtain ⟨r5, hcr5, h⟩ := bn_sp h
          refine va_calli (va_runV (As := []) (rest := []) ⟨hx, hb, hml, hown, hts⟩ (M_undo l D cI cC cZ cR s.heap.size a [] o  r5 hcr5) (cwV 0 hts gL_law_X7_undo rfl rfl rfl (by decide +kernel) ⟨Nat.le_of_ble_eq_true rfl, Nat.le_of_ble_eq_true rfl⟩) (cPcO_pv hO hK hb0 hS hstt) rfl rfl hl.1 rfl (lv_room (Nat.le_of_ble_eq_true rfl)) dL_law_44 ⟨by show _ ≤ 600000; omega, by show _ ≤ 7302250; omega⟩) hS (fun q _ h => h) (fun q h => h) (fun xq u t H1 locs ht hvm hw hB hz1 hk1 hS => ?_)
          rw [hw]
          have hO : WO D cI cC cZ cR s.heap.size a [] r5.2 H1 := by rw [← ht]; exact hB
          generalize H1 = H at hO hS ⊢
          refine lv_bipush (v := (-5)) hx hb dL_law_47 (by decide) ?_
          refine lv_icmp_ne (tgt := 62) hx hb dL_law_49 (by decide) (fun c26 => ?_) (fun c26 => ?_)
          · replace h := br_p c26 h
            exact no_sm h
          · replace h := br_n (not_not_intro c26) h
            refine lv_aload_n hx hb dL_law_52 rfl (lv_at hl 1 rfl) ?_
            refine lv_iconst (v := 0) hx hb dL_law_53 (by decide) ?_
            refine lv_iconst (v := 0) hx hb dL_law_54 (by decide) ?_
            refine lv_iconst (v := 0) hx hb dL_law_55 (by decide) ?_
            obtain ⟨r6, hcr6, h⟩ := bn_sp h
            refine va_calli (va_runV (As := [.int 0, .int 0, .int 0]) (rest := []) ⟨hx, hb, hml, hown, hts⟩ (M_seen l D cI cC cZ cR s.heap.size a [] r5.2 0 0 0 r6 hcr6) (cwV 3 hts gL_law_X7_seen rfl rfl rfl (by decide +kernel) ⟨Nat.le_of_ble_eq_true rfl, Nat.le_of_ble_eq_true rfl⟩) (cPcO_pv hO hK hb0 hS hstt) rfl rfl hl.1 rfl (lv_room (Nat.le_of_ble_eq_true rfl)) dL_law_56 ⟨by show _ ≤ 600000; omega, by show _ ≤ 7302250; omega⟩) hS (fun q _ h => h) (fun q h => h) (fun xq u t H1 locs ht hvm hw hB hz1 hk1 hS => ?_)
            rw [hw]
            have hO : WO D cI cC cZ cR s.heap.size a [] r6.2 H1 := by rw [← ht]; exact hB
            generalize H1 = H at hO hS ⊢
            refine lv_if_eq (tgt := 64) hx hb dL_law_59 (by decide) (fun c25 => ?_) (fun c25 => ?_)
            · replace h := br_p c25 h
              refine lv_iconst (v := 0) hx hb dL_law_64 (by decide) ?_
              refine lv_istore_n (lv' := [(2, .int 0), (0, .ref b), (1, .ref (a 0))]) hx hb dL_law_65 rfl hl (by decide) rfl (fun ls hl => ?_)
              have hE : ∀ (o9 : OB) (H : Heap) (locs : List Loc) (ls : Array Slot) (cc ss : Nat), cc ≤ Bc 45 → ss ≤ Bs 45 → f_L_law_end o9 = some () → WO D cI cC cZ cR s.heap.size a [] o9 H → va_S (fun q => s.heap.size ≤ q) s.heap H locs → lv_has ls 6 [(0, .ref b), (1, .ref (a 0))] → W p l e room_1 s m #[Value.ref b] below meth c H locs cc ss (lw_Z below #[Value.ref b] s) (F0 m 220 ls []) := by
                intro o9 H locs ls cc ss hcc hss h hO hS hl
                have hcap := B_cap 45 (by decide)
                unfold f_L_law_end at h
                refine lv_aload_n hx hb dL_law_220 rfl (lv_at hl 1 rfl) ?_
                refine lv_bipush (v := 16) hx hb dL_law_221 (by decide) ?_
                refine lv_iconst (v := 0) hx hb dL_law_223 (by decide) ?_
                refine lv_iconst (v := 1) hx hb dL_law_224 (by decide) ?_
                refine lv_iconst (v := 1) hx hb dL_law_225 (by decide) ?_
                refine lv_iconst (v := 1) hx hb dL_law_226 (by decide) ?_
                obtain ⟨r7, hcr7, h⟩ := bn_sp h
                refine va_calli (va_runV (As := [.int 16, .int 0, .int 1, .int 1, .int 1]) (rest := []) ⟨hx, hb, hml, hown, hts⟩ (M_thing l D cI cC cZ cR s.heap.size a [] o9 16 0 1 1 1 r7 hcr7) (cwV 5 hts gL_law_X7_thing rfl rfl rfl (by decide +kernel) ⟨Nat.le_of_ble_eq_true rfl, Nat.le_of_ble_eq_true rfl⟩) (cPcO_pv hO hK hb0 hS hstt) rfl rfl hl.1 rfl (lv_room (Nat.le_of_ble_eq_true rfl)) dL_law_227 ⟨by show _ ≤ 600000; omega, by show _ ≤ 7302250; omega⟩) hS (fun q _ h => h) (fun q h => h) (fun xq u t H1 locs ht hvm hw hB hz1 hk1 hS => ?_)
                rw [hw]
                have hO : WO D cI cC cZ cR s.heap.size a [] r7.2 H1 := by rw [← ht]; exact hB
                generalize H1 = H at hO hS ⊢
                refine lv_bipush (v := (-2)) hx hb dL_law_230 (by decide) ?_
                refine lv_icmp_ne (tgt := 332) hx hb dL_law_232 (by decide) (fun c24 => ?_) (fun c24 => ?_)
                · replace h := br_p c24 h
                  exact no_sm h
                · replace h := br_n (not_not_intro c24) h
                  refine lv_aload_n hx hb dL_law_235 rfl (lv_at hl 1 rfl) ?_
                  refine lv_bipush (v := 100) hx hb dL_law_236 (by decide) ?_
                  refine lv_iconst (v := 1) hx hb dL_law_238 (by decide) ?_
                  obtain ⟨r8, hcr8, h⟩ := bn_sp h
                  refine va_calli (va_runV (As := [.int 100, .int 1]) (rest := []) ⟨hx, hb, hml, hown, hts⟩ (M_flash l D cI cC cZ cR s.heap.size a [] r7.2 100 1 r8 hcr8) (cwV 2 hts gL_law_X7_flash rfl rfl rfl (by decide +kernel) ⟨Nat.le_of_ble_eq_true rfl, Nat.le_of_ble_eq_true rfl⟩) (cPcO_pv hO hK hb0 hS hstt) rfl rfl hl.1 rfl (lv_room (Nat.le_of_ble_eq_true rfl)) dL_law_239 ⟨by show _ ≤ 600000; omega, by show _ ≤ 7302250; omega⟩) hS (fun q _ h => h) (fun q h => h) (fun xq u t H1 locs ht hvm hw hB hz1 hk1 hS => ?_)
                  rw [hw]
                  have hO : WO D cI cC cZ cR s.heap.size a [] r8.2 H1 := by rw [← ht]; exact hB
                  generalize H1 = H at hO hS ⊢
                  refine lv_bipush (v := (-2)) hx hb dL_law_242 (by decide) ?_
                  refine lv_icmp_ne (tgt := 332) hx hb dL_law_244 (by decide) (fun c23 => ?_) (fun c23 => ?_)
                  · replace h := br_p c23 h
                    exact no_sm h
                  · replace h := br_n (not_not_intro c23) h
                    refine lv_aload_n hx hb dL_law_247 rfl (lv_at hl 1 rfl) ?_
                    refine lv_iconst (v := 0) hx hb dL_law_248 (by decide) ?_
                    obtain ⟨r9, hcr9, h⟩ := bn_sp h
                    refine va_calli (va_runV (As := [.int 0]) (rest := []) ⟨hx, hb, hml, hown, hts⟩ (M_pass l D cI cC cZ cR s.heap.size a [] r8.2 0 r9 hcr9) (cwV 1 hts gL_law_X7_pass rfl rfl rfl (by decide +kernel) ⟨Nat.le_of_ble_eq_true rfl, Nat.le_of_ble_eq_true rfl⟩) (cPcO_pv hO hK hb0 hS hstt) rfl rfl hl.1 rfl (lv_room (Nat.le_of_ble_eq_true rfl)) dL_law_249 ⟨by show _ ≤ 600000; omega, by show _ ≤ 7302250; omega⟩) hS (fun q _ h => h) (fun q h => h) (fun xq u t H1 locs ht hvm hw hB hz1 hk1 hS => ?_)
                    rw [hw]
                    have hO : WO D cI cC cZ cR s.heap.size a [] r9.2 H1 := by rw [← ht]; exact hB
                    generalize H1 = H at hO hS ⊢
                    refine lv_bipush (v := (-2)) hx hb dL_law_252 (by decide) ?_
                    refine lv_icmp_ne (tgt := 332) hx hb dL_law_254 (by decide) (fun c22 => ?_) (fun c22 => ?_)
                    · replace h := br_p c22 h
                      exact no_sm h
                    · replace h := br_n (not_not_intro c22) h
                      refine lv_aload_n hx hb dL_law_257 rfl (lv_at hl 1 rfl) ?_
                      refine lv_iconst (v := 0) hx hb dL_law_258 (by decide) ?_
                      refine lv_bipush (v := 10) hx hb dL_law_259 (by decide) ?_
                      obtain ⟨r10, hcr10, h⟩ := bn_sp h
                      refine va_calli (va_runV (As := [.int 0, .int 10]) (rest := []) ⟨hx, hb, hml, hown, hts⟩ (M_set l D cI cC cZ cR s.heap.size a [] r9.2 0 10 r10 hcr10) (cwV 2 hts gL_law_X7_set rfl rfl rfl (by decide +kernel) ⟨Nat.le_of_ble_eq_true rfl, Nat.le_of_ble_eq_true rfl⟩) (cPcO_pv hO hK hb0 hS hstt) rfl rfl hl.1 rfl (lv_room (Nat.le_of_ble_eq_true rfl)) dL_law_261 ⟨by show _ ≤ 600000; omega, by show _ ≤ 7302250; omega⟩) hS (fun q _ h => h) (fun q h => h) (fun xq u t H1 locs ht hvm hw hB hz1 hk1 hS => ?_)
                      rw [hw]
                      have hO : WO D cI cC cZ cR s.heap.size a [] r10.2 H1 := by rw [← ht]; exact hB
                      generalize H1 = H at hO hS ⊢
                      refine lv_bipush (v := (-2)) hx hb dL_law_264 (by decide) ?_
                      refine lv_icmp_ne (tgt := 332) hx hb dL_law_266 (by decide) (fun c21 => ?_) (fun c21 => ?_)
                      · replace h := br_p c21 h
                        exact no_sm h
                      · replace h := br_n (not_not_intro c21) h
                        refine lv_aload_n hx hb dL_law_269 rfl (lv_at hl 1 rfl) ?_
                        refine lv_iconst (v := 4) hx hb dL_law_270 (by decide) ?_
                        refine lv_iconst (v := 1) hx hb dL_law_271 (by decide) ?_
                        obtain ⟨r11, hcr11, h⟩ := bn_sp h
                        refine va_calli (va_runV (As := [.int 4, .int 1]) (rest := []) ⟨hx, hb, hml, hown, hts⟩ (M_set l D cI cC cZ cR s.heap.size a [] r10.2 4 1 r11 hcr11) (cwV 2 hts gL_law_X7_set rfl rfl rfl (by decide +kernel) ⟨Nat.le_of_ble_eq_true rfl, Nat.le_of_ble_eq_true rfl⟩) (cPcO_pv hO hK hb0 hS hstt) rfl rfl hl.1 rfl (lv_room (Nat.le_of_ble_eq_true rfl)) dL_law_272 ⟨by show _ ≤ 600000; omega, by show _ ≤ 7302250; omega⟩) hS (fun q _ h => h) (fun q h => h) (fun xq u t H1 locs ht hvm hw hB hz1 hk1 hS => ?_)
                        rw [hw]
                        have hO : WO D cI cC cZ cR s.heap.size a [] r11.2 H1 := by rw [← ht]; exact hB
                        generalize H1 = H at hO hS ⊢
                        refine lv_bipush (v := (-2)) hx hb dL_law_275 (by decide) ?_
                        refine lv_icmp_ne (tgt := 332) hx hb dL_law_277 (by decide) (fun c20 => ?_) (fun c20 => ?_)
                        · replace h := br_p c20 h
                          exact no_sm h
                        · replace h := br_n (not_not_intro c20) h
                          refine lv_aload_n hx hb dL_law_280 rfl (lv_at hl 1 rfl) ?_
                          refine lv_iconst (v := 0) hx hb dL_law_281 (by decide) ?_
                          refine lv_iconst (v := 0) hx hb dL_law_282 (by decide) ?_
                          refine lv_bipush (v := 100) hx hb dL_law_283 (by decide) ?_
                          obtain ⟨r12, hcr12, h⟩ := bn_sp h
                          refine va_calli (va_runV (As := [.int 0, .int 0, .int 100]) (rest := []) ⟨hx, hb, hml, hown, hts⟩ (M_seen l D cI cC cZ cR s.heap.size a [] r11.2 0 0 100 r12 hcr12) (cwV 3 hts gL_law_X7_seen rfl rfl rfl (by decide +kernel) ⟨Nat.le_of_ble_eq_true rfl, Nat.le_of_ble_eq_true rfl⟩) (cPcO_pv hO hK hb0 hS hstt) rfl rfl hl.1 rfl (lv_room (Nat.le_of_ble_eq_true rfl)) dL_law_285 ⟨by show _ ≤ 600000; omega, by show _ ≤ 7302250; omega⟩) hS (fun q _ h => h) (fun q h => h) (fun xq u t H1 locs ht hvm hw hB hz1 hk1 hS => ?_)
                          rw [hw]
                          have hO : WO D cI cC cZ cR s.heap.size a [] r12.2 H1 := by rw [← ht]; exact hB
                          generalize H1 = H at hO hS ⊢
                          refine lv_bipush (v := (-2)) hx hb dL_law_288 (by decide) ?_
                          refine lv_icmp_ne (tgt := 332) hx hb dL_law_290 (by decide) (fun c19 => ?_) (fun c19 => ?_)
                          · replace h := br_p c19 h
                            exact no_sm h
                          · replace h := br_n (not_not_intro c19) h
                            refine lv_aload_n hx hb dL_law_293 rfl (lv_at hl 1 rfl) ?_
                            refine lv_iconst (v := 0) hx hb dL_law_294 (by decide) ?_
                            refine lv_bipush (v := 24) hx hb dL_law_295 (by decide) ?_
                            refine lv_iconst (v := 0) hx hb dL_law_297 (by decide) ?_
                            obtain ⟨r13, hcr13, h⟩ := bn_sp h
                            refine va_calli (va_runV (As := [.int 0, .int 24, .int 0]) (rest := []) ⟨hx, hb, hml, hown, hts⟩ (M_seen l D cI cC cZ cR s.heap.size a [] r12.2 0 24 0 r13 hcr13) (cwV 3 hts gL_law_X7_seen rfl rfl rfl (by decide +kernel) ⟨Nat.le_of_ble_eq_true rfl, Nat.le_of_ble_eq_true rfl⟩) (cPcO_pv hO hK hb0 hS hstt) rfl rfl hl.1 rfl (lv_room (Nat.le_of_ble_eq_true rfl)) dL_law_298 ⟨by show _ ≤ 600000; omega, by show _ ≤ 7302250; omega⟩) hS (fun q _ h => h) (fun q h => h) (fun xq u t H1 locs ht hvm hw hB hz1 hk1 hS => ?_)
                            rw [hw]
                            have hO : WO D cI cC cZ cR s.heap.size a [] r13.2 H1 := by rw [← ht]; exact hB
                            generalize H1 = H at hO hS ⊢
                            refine lv_iconst (v := (-1)) hx hb dL_law_301 (by decide) ?_
                            refine lv_icmp_ne (tgt := 332) hx hb dL_law_302 (by decide) (fun c18 => ?_) (fun c18 => ?_)
                            · replace h := br_p c18 h
                              exact no_sm h
                            · replace h := br_n (not_not_intro c18) h
                              refine lv_aload_n hx hb dL_law_305 rfl (lv_at hl 1 rfl) ?_
                              refine lv_bipush (v := 21) hx hb dL_law_306 (by decide) ?_
                              refine lv_iconst (v := 0) hx hb dL_law_308 (by decide) ?_
                              obtain ⟨r14, hcr14, h⟩ := bn_sp h
                              refine va_calli (va_runV (As := [.int 21, .int 0]) (rest := []) ⟨hx, hb, hml, hown, hts⟩ (M_bestFlash l D cI cC cZ cR s.heap.size a [] r13.2 21 0 r14 hcr14) (cwV 2 hts gL_law_X7_bestFlash rfl rfl rfl (by decide +kernel) ⟨Nat.le_of_ble_eq_true rfl, Nat.le_of_ble_eq_true rfl⟩) (cPcO_pv hO hK hb0 hS hstt) rfl rfl hl.1 rfl (lv_room (Nat.le_of_ble_eq_true rfl)) dL_law_309 ⟨by show _ ≤ 600000; omega, by show _ ≤ 7302250; omega⟩) hS (fun q _ h => h) (fun q h => h) (fun xq u t H1 locs ht hvm hw hB hz1 hk1 hS => ?_)
                              rw [hw]
                              have hO : WO D cI cC cZ cR s.heap.size a [] r13.2 H1 := by rw [← ht]; exact hB
                              generalize H1 = H at hO hS ⊢
                              refine lv_bipush (v := (-2)) hx hb dL_law_312 (by decide) ?_
                              refine lv_icmp_ne (tgt := 332) hx hb dL_law_314 (by decide) (fun c17 => ?_) (fun c17 => ?_)
                              · replace h := br_p c17 h
                                exact no_sm h
                              · replace h := br_n (not_not_intro c17) h
                                refine lv_aload_n hx hb dL_law_317 rfl (lv_at hl 1 rfl) ?_
                                refine lv_bipush (v := 14) hx hb dL_law_318 (by decide) ?_
                                obtain ⟨r15, hcr15, h⟩ := bn_sp h
                                refine va_calli (va_runV (As := [.int 14]) (rest := []) ⟨hx, hb, hml, hown, hts⟩ (M_count l D cI cC cZ cR s.heap.size a [] r13.2 14 r15 hcr15) (cwV 1 hts gL_law_X7_count rfl rfl rfl (by decide +kernel) ⟨Nat.le_of_ble_eq_true rfl, Nat.le_of_ble_eq_true rfl⟩) (cPcO_pv hO hK hb0 hS hstt) rfl rfl hl.1 rfl (lv_room (Nat.le_of_ble_eq_true rfl)) dL_law_320 ⟨by show _ ≤ 600000; omega, by show _ ≤ 7302250; omega⟩) hS (fun q _ h => h) (fun q h => h) (fun xq u t H1 locs ht hvm hw hB hz1 hk1 hS => ?_)
                                rw [hw]
                                have hO : WO D cI cC cZ cR s.heap.size a [] r13.2 H1 := by rw [← ht]; exact hB
                                generalize H1 = H at hO hS ⊢
                                refine lv_bipush (v := (-2)) hx hb dL_law_323 (by decide) ?_
                                refine lv_icmp_ne (tgt := 332) hx hb dL_law_325 (by decide) (fun c16 => ?_) (fun c16 => ?_)
                                · replace h := br_p c16 h
                                  exact no_sm h
                                · replace h := br_n (not_not_intro c16) h
                                  refine lv_iconst (v := 1) hx hb dL_law_328 (by decide) ?_
                                  refine lv_goto (tgt := 333) hx hb dL_law_329 (by decide) ?_
                                  refine va_forget (fun q hq => hS.2.2 q hq) ?_
                                  refine W.widen (k := 600000) (n := 7302250) (by omega) (by omega) ?_
                                  exact lw_ret hx hb hr hlocks dL_law_333
              have hL66 : ∀ (k : OB → Option Unit), (∀ (o9 : OB) (H : Heap) (locs : List Loc) (ls : Array Slot) (cc ss : Nat), cc ≤ Bc 45 → ss ≤ Bs 45 → k o9 = some () → WO D cI cC cZ cR s.heap.size a [] o9 H → va_S (fun q => s.heap.size ≤ q) s.heap H locs → lv_has ls 6 [(0, .ref b), (1, .ref (a 0))] → W p l e room_1 s m #[Value.ref b] below meth c H locs cc ss (lw_Z below #[Value.ref b] s) (F0 m 220 ls [])) → ∀ (n i : Nat) (v : Int32) (o : OB) (H : Heap) (locs : List Loc) (ls : Array Slot) (cc ss : Nat), v = nI i → i + n = 46 → cc ≤ Bc i → ss ≤ Bs i → f_L_law_L66 L xs k n v o = some () → WO D cI cC cZ cR s.heap.size a [] o H → va_S (fun q => s.heap.size ≤ q) s.heap H locs → lv_has ls 6 [(0, .ref b), (1, .ref (a 0)), (2, .int v)] → W p l e room_1 s m #[Value.ref b] below meth c H locs cc ss (lw_Z below #[Value.ref b] s) (F0 m 66 ls []) := by
                intro k K n
                induction n with
                | zero => intro i v o H locs ls cc ss _ _ _ _ h; exact no_sm h
                | succ n ih =>
                  intro i v o H locs ls cc ss hv hin9 hcc hss h hO hS hl
                  subst hv
                  have hcap := B_cap i (by omega)
                  rw [f_L_law_L66_s] at h
                  refine lv_iload_n hx hb dL_law_66 rfl (lv_at hl 2 rfl) ?_
                  refine lv_bipush (v := 45) hx hb dL_law_67 (by decide) ?_
                  refine lv_icmp_ge (tgt := 220) hx hb dL_law_69 (by decide) (fun cpc69 => ?_) (fun cpc69 => ?_)
                  · replace h := br_p cpc69 h
                    obtain rfl : i = 45 := by
                      rcases Nat.lt_or_ge i 45 with h9 | h9
                      · exact absurd cpc69 (nI_ge h9 (by decide))
                      · omega
                    exact K _ _ _ _ _ _ hcc hss h hO hS (lv_sub hl [0, 1] rfl)
                  · replace h := br_n cpc69 h
                    refine lv_aload_n hx hb dL_law_72 rfl (lv_at hl 0 rfl) ?_
                    refine lv_iconst (v := 2) hx hb dL_law_73 (by decide) ?_
                    refine lv_iload_n hx hb dL_law_74 rfl (lv_at hl 2 rfl) ?_
                    refine lv_imul hx hb dL_law_75 ?_
                    obtain ⟨r501, hcr501, h⟩ := bn_sp h
                    refine va_calli (va_runS (As := [.ref b, .int (2 * (nI i))]) (rest := []) ⟨hx, hb, hml, hown, hts⟩ (m_L_cell l b L xs H.size (2 * (nI i)) r501 hcr501) (va_cwS 2 hts gL_law_L_cell rfl rfl rfl (by decide +kernel) ⟨Nat.le_of_ble_eq_true rfl, Nat.le_of_ble_eq_true rfl⟩) (cell_ps hX hbl hS) rfl rfl hl.1 rfl (lv_room (Nat.le_of_ble_eq_true rfl)) dL_law_76 ⟨by show _ ≤ 600000; omega, by show _ ≤ 7302250; omega⟩) hS (fun q _ h => Nat.le_trans hS.1 h) (fun q h => Nat.le_trans hS.1 h) (fun xq u t H1 locs ht hvm hw hB hz1 hk1 hS => ?_)
                    rw [hw]
                    have hO : WO D cI cC cZ cR s.heap.size a [] o H1 := WO_st2 hk1 hO
                    generalize H1 = H at hO hS ⊢
                    refine lv_istore_n (lv' := [(3, .int r501), (0, .ref b), (1, .ref (a 0)), (2, .int (nI i))]) hx hb dL_law_79 rfl hl (by decide) rfl (fun ls hl => ?_)
                    refine lv_aload_n hx hb dL_law_80 rfl (lv_at hl 1 rfl) ?_
                    refine lv_iconst (v := 2) hx hb dL_law_81 (by decide) ?_
                    refine lv_iload_n hx hb dL_law_82 rfl (lv_at hl 3 rfl) ?_
                    refine lv_imul hx hb dL_law_83 ?_
                    refine lv_iconst (v := 1) hx hb dL_law_84 (by decide) ?_
                    refine lv_iadd hx hb dL_law_85 ?_
                    obtain ⟨r502, hcr502, h⟩ := bn_sp h
                    refine va_calli (va_runS (As := [.ref b, .int ((2 * (nI i)) + 1)]) (rest := []) ⟨hx, hb, hml, hown, hts⟩ (m_L_cell l b L xs H.size ((2 * (nI i)) + 1) r502 hcr502) (va_cwS 2 hts gL_law_L_cell rfl rfl rfl (by decide +kernel) ⟨Nat.le_of_ble_eq_true rfl, Nat.le_of_ble_eq_true rfl⟩) (cell_ps hX hbl hS) rfl rfl hl.1 rfl (lv_room (Nat.le_of_ble_eq_true rfl)) dL_law_86 ⟨by show _ ≤ 600000; omega, by show _ ≤ 7302250; omega⟩) hS (fun q _ h => Nat.le_trans hS.1 h) (fun q h => Nat.le_trans hS.1 h) (fun xq u t H1 locs ht hvm hw hB hz1 hk1 hS => ?_)
                    rw [hw]
                    have hO : WO D cI cC cZ cR s.heap.size a [] o H1 := WO_st2 hk1 hO
                    generalize H1 = H at hO hS ⊢
                    refine lv_istore (lv' := [(4, .int r502), (3, .int r501), (0, .ref b), (1, .ref (a 0)), (2, .int (nI i))]) hx hb dL_law_89 hl (by decide) rfl (fun ls hl => ?_)
                    refine lv_aload_n hx hb dL_law_91 rfl (lv_at hl 3 rfl) ?_
                    refine lv_iload_n hx hb dL_law_92 rfl (lv_at hl 1 rfl) ?_
                    refine lv_iload hx hb dL_law_93 (lv_at hl 0 rfl) ?_
                    obtain ⟨r503, hcr503, h⟩ := bn_sp h
                    refine va_calli (va_runS (As := [.ref (a 0), .int r501, .int r502]) (rest := []) ⟨hx, hb, hml, hown, hts⟩ (m_L_does l D cI cC cZ cR s.heap.size a [] o r501 r502 r503 hcr503) (va_cwS 3 hts gL_law_L_does rfl rfl rfl (by decide +kernel) ⟨Nat.le_of_ble_eq_true rfl, Nat.le_of_ble_eq_true rfl⟩) (cPcO_ps hO hK hb0 hS hstt) rfl rfl hl.1 rfl (lv_room (Nat.le_of_ble_eq_true rfl)) dL_law_95 ⟨by show _ ≤ 600000; omega, by show _ ≤ 7302250; omega⟩) hS (fun q _ h => h) (fun q h => h) (fun xq u t H1 locs ht hvm hw hB hz1 hk1 hS => ?_)
                    rw [hw]
                    have hO : WO D cI cC cZ cR s.heap.size a [] r503.2 H1 := by rw [← ht]; exact hB
                    generalize H1 = H at hO hS ⊢
                    refine lv_if_eq (tgt := 127) hx hb dL_law_98 (by decide) (fun c551 => ?_) (fun c551 => ?_)
                    · replace h := br_p c551 h
                      exact no_sm h
                    · replace h := br_n c551 h
                      refine lv_aload_n hx hb dL_law_101 rfl (lv_at hl 3 rfl) ?_
                      refine lv_iload hx hb dL_law_102 (lv_at hl 0 rfl) ?_
                      refine lv_iconst (v := 3) hx hb dL_law_104 (by decide) ?_
                      refine lv_ishr hx hb dL_law_105 ?_
                      refine lv_bipush (v := 16) hx hb dL_law_106 (by decide) ?_
                      obtain ⟨r504, hcr504, h⟩ := bn_sp h
                      have hZ := va_nilD (b0 := s.heap.size) hb0 hS
                      refine va_calli (va_runS (As := [.int (r502 >>> (3 &&& 31)), .int 16]) (rest := [.ref (a 0)]) ⟨hx, hb, hml, hown, hts⟩ (m_L_low l D cI cC cZ cR _ (r502 >>> (3 &&& 31)) 16 r504 hcr504) (va_cwS 2 hts gL_law_L_low rfl rfl rfl (by decide +kernel) ⟨Nat.le_of_ble_eq_true rfl, Nat.le_of_ble_eq_true rfl⟩) (cPc_ps (ws := []) (A := fun _ => True) va_nilP hK va_nilDD) rfl rfl hl.1 rfl (lv_room (Nat.le_of_ble_eq_true rfl)) dL_law_108 ⟨by show _ ≤ 600000; omega, by show _ ≤ 7302250; omega⟩) hS (fun q _ h => hZ q h) hZ (fun xq u t H1 locs ht hvm hw hB hz1 hk1 hS => ?_)
                      rw [hw]
                      have hO : WO D cI cC cZ cR s.heap.size a [] r503.2 H1 := WO_st hk1 hO
                      generalize H1 = H at hO hS ⊢
                      refine lv_iload hx hb dL_law_111 (lv_at hl 0 rfl) ?_
                      refine lv_bipush (v := 8) hx hb dL_law_113 (by decide) ?_
                      refine lv_ishr hx hb dL_law_115 ?_
                      refine lv_bipush (v := 24) hx hb dL_law_116 (by decide) ?_
                      obtain ⟨r505, hcr505, h⟩ := bn_sp h
                      have hZ := va_nilD (b0 := s.heap.size) hb0 hS
                      refine va_calli (va_runS (As := [.int (r502 >>> (8 &&& 31)), .int 24]) (rest := [.int r504, .ref (a 0)]) ⟨hx, hb, hml, hown, hts⟩ (m_L_low l D cI cC cZ cR _ (r502 >>> (8 &&& 31)) 24 r505 hcr505) (va_cwS 2 hts gL_law_L_low rfl rfl rfl (by decide +kernel) ⟨Nat.le_of_ble_eq_true rfl, Nat.le_of_ble_eq_true rfl⟩) (cPc_ps (ws := []) (A := fun _ => True) va_nilP hK va_nilDD) rfl rfl hl.1 rfl (lv_room (Nat.le_of_ble_eq_true rfl)) dL_law_118 ⟨by show _ ≤ 600000; omega, by show _ ≤ 7302250; omega⟩) hS (fun q _ h => hZ q h) hZ (fun xq u t H1 locs ht hvm hw hB hz1 hk1 hS => ?_)
                      rw [hw]
                      have hO : WO D cI cC cZ cR s.heap.size a [] r503.2 H1 := WO_st hk1 hO
                      generalize H1 = H at hO hS ⊢
                      obtain ⟨r506, hcr506, h⟩ := bn_sp h
                      refine va_calli (va_runS (As := [.ref (a 0), .int r504, .int r505]) (rest := []) ⟨hx, hb, hml, hown, hts⟩ (m_L_isSeen l D cI cC cZ cR s.heap.size a [] r503.2 r504 r505 r506 hcr506) (va_cwS 3 hts gL_law_L_isSeen rfl rfl rfl (by decide +kernel) ⟨Nat.le_of_ble_eq_true rfl, Nat.le_of_ble_eq_true rfl⟩) (cPcO_ps hO hK hb0 hS hstt) rfl rfl hl.1 rfl (lv_room (Nat.le_of_ble_eq_true rfl)) dL_law_121 ⟨by show _ ≤ 600000; omega, by show _ ≤ 7302250; omega⟩) hS (fun q _ h => h) (fun q h => h) (fun xq u t H1 locs ht hvm hw hB hz1 hk1 hS => ?_)
                      rw [hw]
                      have hO : WO D cI cC cZ cR s.heap.size a [] r506.2 H1 := by rw [← ht]; exact hB
                      generalize H1 = H at hO hS ⊢
                      refine lv_if_ne (tgt := 129) hx hb dL_law_124 (by decide) (fun c550 => ?_) (fun c550 => ?_)
                      · replace h := br_p c550 h
                        refine lv_aload_n hx hb dL_law_129 rfl (lv_at hl 3 rfl) ?_
                        refine lv_iconst (v := 1) hx hb dL_law_130 (by decide) ?_
                        obtain ⟨r507, hcr507, h⟩ := bn_sp h
                        refine va_calli (va_runV (As := [.int 1]) (rest := []) ⟨hx, hb, hml, hown, hts⟩ (M_count l D cI cC cZ cR s.heap.size a [] r506.2 1 r507 hcr507) (cwV 1 hts gL_law_X7_count rfl rfl rfl (by decide +kernel) ⟨Nat.le_of_ble_eq_true rfl, Nat.le_of_ble_eq_true rfl⟩) (cPcO_pv hO hK hb0 hS hstt) rfl rfl hl.1 rfl (lv_room (Nat.le_of_ble_eq_true rfl)) dL_law_131 ⟨by show _ ≤ 600000; omega, by show _ ≤ 7302250; omega⟩) hS (fun q _ h => h) (fun q h => h) (fun xq u t H1 locs ht hvm hw hB hz1 hk1 hS => ?_)
                        rw [hw]
                        have hO : WO D cI cC cZ cR s.heap.size a [] r506.2 H1 := by rw [← ht]; exact hB
                        generalize H1 = H at hO hS ⊢
                        refine lv_istore (lv' := [(5, .int r507), (4, .int r502), (3, .int r501), (0, .ref b), (1, .ref (a 0)), (2, .int (nI i))]) hx hb dL_law_134 hl (by decide) rfl (fun ls hl => ?_)
                        refine lv_iload hx hb dL_law_136 (lv_at hl 0 rfl) ?_
                        refine lv_if_le (tgt := 157) hx hb dL_law_138 (by decide) (fun c549 => ?_) (fun c549 => ?_)
                        · replace h := br_p c549 h
                          refine lv_iload hx hb dL_law_157 (lv_at hl 0 rfl) ?_
                          refine lv_if_le (tgt := 185) hx hb dL_law_159 (by decide) (fun c526 => ?_) (fun c526 => ?_)
                          · replace h := br_p c526 h
                            refine lv_iload_n hx hb dL_law_185 rfl (lv_at hl 5 rfl) ?_
                            refine lv_bipush (v := 20) hx hb dL_law_186 (by decide) ?_
                            refine lv_irem hx hb dL_law_188 (by decide) ?_
                            refine lv_bipush (v := 11) hx hb dL_law_189 (by decide) ?_
                            refine lv_icmp_ne (tgt := 214) hx hb dL_law_191 (by decide) (fun c191 => ?_) (fun c191 => ?_)
                            · replace h := br_p c191 h
                              obtain ⟨x508, ex508, h⟩ := bd_sp h
                              refine lv_iinc (v := x508) (lv' := [(2, .int x508), (5, .int r507), (4, .int r502), (3, .int r501), (0, .ref b), (1, .ref (a 0))]) hx hb dL_law_214 hl (k := 5) rfl (by rw [ex508]; rfl) (by decide) rfl (fun ls hl => ?_)
                              refine lv_goto (tgt := 66) hx hb dL_law_217 (by decide) ?_
                              have hBB := B_00 i
                              exact ih (i + 1) x508 _ _ _ _ _ _ (by rw [ex508]; exact nI_1 i) (by omega) (by omega) (by omega) h hO hS (lv_sub hl [4, 5, 0] rfl)
                            · replace h := br_n (not_not_intro c191) h
                              refine lv_aload_n hx hb dL_law_194 rfl (lv_at hl 4 rfl) ?_
                              refine lv_iconst (v := 1) hx hb dL_law_195 (by decide) ?_
                              refine lv_iload hx hb dL_law_196 (lv_at hl 1 rfl) ?_
                              refine lv_iconst (v := 5) hx hb dL_law_198 (by decide) ?_
                              refine lv_ishr hx hb dL_law_199 ?_
                              refine lv_bipush (v := 20) hx hb dL_law_200 (by decide) ?_
                              obtain ⟨r509, hcr509, h⟩ := bn_sp h
                              have hZ := va_nilD (b0 := s.heap.size) hb0 hS
                              refine va_calli (va_runS (As := [.int (r502 >>> (5 &&& 31)), .int 20]) (rest := [.int 1, .ref (a 0)]) ⟨hx, hb, hml, hown, hts⟩ (m_L_low l D cI cC cZ cR _ (r502 >>> (5 &&& 31)) 20 r509 hcr509) (va_cwS 2 hts gL_law_L_low rfl rfl rfl (by decide +kernel) ⟨Nat.le_of_ble_eq_true rfl, Nat.le_of_ble_eq_true rfl⟩) (cPc_ps (ws := []) (A := fun _ => True) va_nilP hK va_nilDD) rfl rfl hl.1 rfl (lv_room (Nat.le_of_ble_eq_true rfl)) dL_law_202 ⟨by show _ ≤ 600000; omega, by show _ ≤ 7302250; omega⟩) hS (fun q _ h => hZ q h) hZ (fun xq u t H1 locs ht hvm hw hB hz1 hk1 hS => ?_)
                              rw [hw]
                              have hO : WO D cI cC cZ cR s.heap.size a [] r506.2 H1 := WO_st hk1 hO
                              generalize H1 = H at hO hS ⊢
                              refine lv_iadd hx hb dL_law_205 ?_
                              obtain ⟨r510, hcr510, h⟩ := bn_sp h
                              refine va_calli (va_runS (As := [.ref (a 0), .int (1 + r509)]) (rest := []) ⟨hx, hb, hml, hown, hts⟩ (m_L_isBestFlash l D cI cC cZ cR s.heap.size a [] r506.2 (1 + r509) r510 hcr510) (va_cwS 2 hts gL_law_L_isBestFlash rfl rfl rfl (by decide +kernel) ⟨Nat.le_of_ble_eq_true rfl, Nat.le_of_ble_eq_true rfl⟩) (cPcO_ps hO hK hb0 hS hstt) rfl rfl hl.1 rfl (lv_room (Nat.le_of_ble_eq_true rfl)) dL_law_206 ⟨by show _ ≤ 600000; omega, by show _ ≤ 7302250; omega⟩) hS (fun q _ h => h) (fun q h => h) (fun xq u t H1 locs ht hvm hw hB hz1 hk1 hS => ?_)
                              rw [hw]
                              have hO : WO D cI cC cZ cR s.heap.size a [] r510.2 H1 := by rw [← ht]; exact hB
                              generalize H1 = H at hO hS ⊢
                              refine lv_if_ne (tgt := 214) hx hb dL_law_209 (by decide) (fun c512 => ?_) (fun c512 => ?_)
                              · replace h := br_p c512 h
                                obtain ⟨x511, ex511, h⟩ := bd_sp h
                                refine lv_iinc (v := x511) (lv' := [(2, .int x511), (5, .int r507), (4, .int r502), (3, .int r501), (0, .ref b), (1, .ref (a 0))]) hx hb dL_law_214 hl (k := 5) rfl (by rw [ex511]; rfl) (by decide) rfl (fun ls hl => ?_)
                                refine lv_goto (tgt := 66) hx hb dL_law_217 (by decide) ?_
                                have hBB := B_01 c191
                                exact ih (i + 1) x511 _ _ _ _ _ _ (by rw [ex511]; exact nI_1 i) (by omega) (by omega) (by omega) h hO hS (lv_sub hl [4, 5, 0] rfl)
                              · replace h := br_n (not_not_intro c512) h
                                exact no_sm h
                          · replace h := br_n c526 h
                            refine lv_iload_n hx hb dL_law_162 rfl (lv_at hl 5 rfl) ?_
                            refine lv_bipush (v := 9) hx hb dL_law_163 (by decide) ?_
                            refine lv_irem hx hb dL_law_165 (by decide) ?_
                            refine lv_iconst (v := 5) hx hb dL_law_166 (by decide) ?_
                            refine lv_icmp_ne (tgt := 185) hx hb dL_law_167 (by decide) (fun c167 => ?_) (fun c167 => ?_)
                            · replace h := br_p c167 h
                              refine lv_iload_n hx hb dL_law_185 rfl (lv_at hl 5 rfl) ?_
                              refine lv_bipush (v := 20) hx hb dL_law_186 (by decide) ?_
                              refine lv_irem hx hb dL_law_188 (by decide) ?_
                              refine lv_bipush (v := 11) hx hb dL_law_189 (by decide) ?_
                              refine lv_icmp_ne (tgt := 214) hx hb dL_law_191 (by decide) (fun c191 => ?_) (fun c191 => ?_)
                              · replace h := br_p c191 h
                                obtain ⟨x513, ex513, h⟩ := bd_sp h
                                refine lv_iinc (v := x513) (lv' := [(2, .int x513), (5, .int r507), (4, .int r502), (3, .int r501), (0, .ref b), (1, .ref (a 0))]) hx hb dL_law_214 hl (k := 5) rfl (by rw [ex513]; rfl) (by decide) rfl (fun ls hl => ?_)
                                refine lv_goto (tgt := 66) hx hb dL_law_217 (by decide) ?_
                                have hBB := B_00 i
                                exact ih (i + 1) x513 _ _ _ _ _ _ (by rw [ex513]; exact nI_1 i) (by omega) (by omega) (by omega) h hO hS (lv_sub hl [4, 5, 0] rfl)
                              · replace h := br_n (not_not_intro c191) h
                                refine lv_aload_n hx hb dL_law_194 rfl (lv_at hl 4 rfl) ?_
                                refine lv_iconst (v := 1) hx hb dL_law_195 (by decide) ?_
                                refine lv_iload hx hb dL_law_196 (lv_at hl 1 rfl) ?_
                                refine lv_iconst (v := 5) hx hb dL_law_198 (by decide) ?_
                                refine lv_ishr hx hb dL_law_199 ?_
                                refine lv_bipush (v := 20) hx hb dL_law_200 (by decide) ?_
                                obtain ⟨r514, hcr514, h⟩ := bn_sp h
                                have hZ := va_nilD (b0 := s.heap.size) hb0 hS
                                refine va_calli (va_runS (As := [.int (r502 >>> (5 &&& 31)), .int 20]) (rest := [.int 1, .ref (a 0)]) ⟨hx, hb, hml, hown, hts⟩ (m_L_low l D cI cC cZ cR _ (r502 >>> (5 &&& 31)) 20 r514 hcr514) (va_cwS 2 hts gL_law_L_low rfl rfl rfl (by decide +kernel) ⟨Nat.le_of_ble_eq_true rfl, Nat.le_of_ble_eq_true rfl⟩) (cPc_ps (ws := []) (A := fun _ => True) va_nilP hK va_nilDD) rfl rfl hl.1 rfl (lv_room (Nat.le_of_ble_eq_true rfl)) dL_law_202 ⟨by show _ ≤ 600000; omega, by show _ ≤ 7302250; omega⟩) hS (fun q _ h => hZ q h) hZ (fun xq u t H1 locs ht hvm hw hB hz1 hk1 hS => ?_)
                                rw [hw]
                                have hO : WO D cI cC cZ cR s.heap.size a [] r506.2 H1 := WO_st hk1 hO
                                generalize H1 = H at hO hS ⊢
                                refine lv_iadd hx hb dL_law_205 ?_
                                obtain ⟨r515, hcr515, h⟩ := bn_sp h
                                refine va_calli (va_runS (As := [.ref (a 0), .int (1 + r514)]) (rest := []) ⟨hx, hb, hml, hown, hts⟩ (m_L_isBestFlash l D cI cC cZ cR s.heap.size a [] r506.2 (1 + r514) r515 hcr515) (va_cwS 2 hts gL_law_L_isBestFlash rfl rfl rfl (by decide +kernel) ⟨Nat.le_of_ble_eq_true rfl, Nat.le_of_ble_eq_true rfl⟩) (cPcO_ps hO hK hb0 hS hstt) rfl rfl hl.1 rfl (lv_room (Nat.le_of_ble_eq_true rfl)) dL_law_206 ⟨by show _ ≤ 600000; omega, by show _ ≤ 7302250; omega⟩) hS (fun q _ h => h) (fun q h => h) (fun xq u t H1 locs ht hvm hw hB hz1 hk1 hS => ?_)
                                rw [hw]
                                have hO : WO D cI cC cZ cR s.heap.size a [] r515.2 H1 := by rw [← ht]; exact hB
                                generalize H1 = H at hO hS ⊢
                                refine lv_if_ne (tgt := 214) hx hb dL_law_209 (by decide) (fun c517 => ?_) (fun c517 => ?_)
                                · replace h := br_p c517 h
                                  obtain ⟨x516, ex516, h⟩ := bd_sp h
                                  refine lv_iinc (v := x516) (lv' := [(2, .int x516), (5, .int r507), (4, .int r502), (3, .int r501), (0, .ref b), (1, .ref (a 0))]) hx hb dL_law_214 hl (k := 5) rfl (by rw [ex516]; rfl) (by decide) rfl (fun ls hl => ?_)
                                  refine lv_goto (tgt := 66) hx hb dL_law_217 (by decide) ?_
                                  have hBB := B_01 c191
                                  exact ih (i + 1) x516 _ _ _ _ _ _ (by rw [ex516]; exact nI_1 i) (by omega) (by omega) (by omega) h hO hS (lv_sub hl [4, 5, 0] rfl)
                                · replace h := br_n (not_not_intro c517) h
                                  exact no_sm h
                            · replace h := br_n (not_not_intro c167) h
                              refine lv_aload_n hx hb dL_law_170 rfl (lv_at hl 4 rfl) ?_
                              refine lv_iload_n hx hb dL_law_171 rfl (lv_at hl 2 rfl) ?_
                              refine lv_iconst (v := 5) hx hb dL_law_172 (by decide) ?_
                              refine lv_ishr hx hb dL_law_173 ?_
                              refine lv_iload hx hb dL_law_174 (lv_at hl 0 rfl) ?_
                              obtain ⟨r518, hcr518, h⟩ := bn_sp h
                              have hZ := va_nilD (b0 := s.heap.size) hb0 hS
                              refine va_calli (va_runS (As := [.int (r501 >>> (5 &&& 31)), .int r507]) (rest := [.ref (a 0)]) ⟨hx, hb, hml, hown, hts⟩ (m_L_low l D cI cC cZ cR _ (r501 >>> (5 &&& 31)) r507 r518 hcr518) (va_cwS 2 hts gL_law_L_low rfl rfl rfl (by decide +kernel) ⟨Nat.le_of_ble_eq_true rfl, Nat.le_of_ble_eq_true rfl⟩) (cPc_ps (ws := []) (A := fun _ => True) va_nilP hK va_nilDD) rfl rfl hl.1 rfl (lv_room (Nat.le_of_ble_eq_true rfl)) dL_law_176 ⟨by show _ ≤ 600000; omega, by show _ ≤ 7302250; omega⟩) hS (fun q _ h => hZ q h) hZ (fun xq u t H1 locs ht hvm hw hB hz1 hk1 hS => ?_)
                              rw [hw]
                              have hO : WO D cI cC cZ cR s.heap.size a [] r506.2 H1 := WO_st hk1 hO
                              generalize H1 = H at hO hS ⊢
                              obtain ⟨r519, hcr519, h⟩ := bn_sp h
                              refine va_calli (va_runS (As := [.ref (a 0), .int r518]) (rest := []) ⟨hx, hb, hml, hown, hts⟩ (m_L_leans l D cI cC cZ cR s.heap.size a [] r506.2 r518 r519 hcr519) (va_cwS 2 hts gL_law_L_leans rfl rfl rfl (by decide +kernel) ⟨Nat.le_of_ble_eq_true rfl, Nat.le_of_ble_eq_true rfl⟩) (cPcO_ps hO hK hb0 hS hstt) rfl rfl hl.1 rfl (lv_room (Nat.le_of_ble_eq_true rfl)) dL_law_179 ⟨by show _ ≤ 600000; omega, by show _ ≤ 7302250; omega⟩) hS (fun q _ h => h) (fun q h => h) (fun xq u t H1 locs ht hvm hw hB hz1 hk1 hS => ?_)
                              rw [hw]
                              have hO : WO D cI cC cZ cR s.heap.size a [] r519.2 H1 := by rw [← ht]; exact hB
                              generalize H1 = H at hO hS ⊢
                              refine lv_if_eq (tgt := 212) hx hb dL_law_182 (by decide) (fun c525 => ?_) (fun c525 => ?_)
                              · replace h := br_p c525 h
                                exact no_sm h
                              · replace h := br_n c525 h
                                refine lv_iload_n hx hb dL_law_185 rfl (lv_at hl 5 rfl) ?_
                                refine lv_bipush (v := 20) hx hb dL_law_186 (by decide) ?_
                                refine lv_irem hx hb dL_law_188 (by decide) ?_
                                refine lv_bipush (v := 11) hx hb dL_law_189 (by decide) ?_
                                refine lv_icmp_ne (tgt := 214) hx hb dL_law_191 (by decide) (fun c191 => ?_) (fun c191 => ?_)
                                · replace h := br_p c191 h
                                  obtain ⟨x520, ex520, h⟩ := bd_sp h
                                  refine lv_iinc (v := x520) (lv' := [(2, .int x520), (5, .int r507), (4, .int r502), (3, .int r501), (0, .ref b), (1, .ref (a 0))]) hx hb dL_law_214 hl (k := 5) rfl (by rw [ex520]; rfl) (by decide) rfl (fun ls hl => ?_)
                                  refine lv_goto (tgt := 66) hx hb dL_law_217 (by decide) ?_
                                  have hBB := B_10 c167
                                  exact ih (i + 1) x520 _ _ _ _ _ _ (by rw [ex520]; exact nI_1 i) (by omega) (by omega) (by omega) h hO hS (lv_sub hl [4, 5, 0] rfl)
                                · replace h := br_n (not_not_intro c191) h
                                  refine lv_aload_n hx hb dL_law_194 rfl (lv_at hl 4 rfl) ?_
                                  refine lv_iconst (v := 1) hx hb dL_law_195 (by decide) ?_
                                  refine lv_iload hx hb dL_law_196 (lv_at hl 1 rfl) ?_
                                  refine lv_iconst (v := 5) hx hb dL_law_198 (by decide) ?_
                                  refine lv_ishr hx hb dL_law_199 ?_
                                  refine lv_bipush (v := 20) hx hb dL_law_200 (by decide) ?_
                                  obtain ⟨r521, hcr521, h⟩ := bn_sp h
                                  have hZ := va_nilD (b0 := s.heap.size) hb0 hS
                                  refine va_calli (va_runS (As := [.int (r502 >>> (5 &&& 31)), .int 20]) (rest := [.int 1, .ref (a 0)]) ⟨hx, hb, hml, hown, hts⟩ (m_L_low l D cI cC cZ cR _ (r502 >>> (5 &&& 31)) 20 r521 hcr521) (va_cwS 2 hts gL_law_L_low rfl rfl rfl (by decide +kernel) ⟨Nat.le_of_ble_eq_true rfl, Nat.le_of_ble_eq_true rfl⟩) (cPc_ps (ws := []) (A := fun _ => True) va_nilP hK va_nilDD) rfl rfl hl.1 rfl (lv_room (Nat.le_of_ble_eq_true rfl)) dL_law_202 ⟨by show _ ≤ 600000; omega, by show _ ≤ 7302250; omega⟩) hS (fun q _ h => hZ q h) hZ (fun xq u t H1 locs ht hvm hw hB hz1 hk1 hS => ?_)
                                  rw [hw]
                                  have hO : WO D cI cC cZ cR s.heap.size a [] r519.2 H1 := WO_st hk1 hO
                                  generalize H1 = H at hO hS ⊢
                                  refine lv_iadd hx hb dL_law_205 ?_
                                  obtain ⟨r522, hcr522, h⟩ := bn_sp h
                                  refine va_calli (va_runS (As := [.ref (a 0), .int (1 + r521)]) (rest := []) ⟨hx, hb, hml, hown, hts⟩ (m_L_isBestFlash l D cI cC cZ cR s.heap.size a [] r519.2 (1 + r521) r522 hcr522) (va_cwS 2 hts gL_law_L_isBestFlash rfl rfl rfl (by decide +kernel) ⟨Nat.le_of_ble_eq_true rfl, Nat.le_of_ble_eq_true rfl⟩) (cPcO_ps hO hK hb0 hS hstt) rfl rfl hl.1 rfl (lv_room (Nat.le_of_ble_eq_true rfl)) dL_law_206 ⟨by show _ ≤ 600000; omega, by show _ ≤ 7302250; omega⟩) hS (fun q _ h => h) (fun q h => h) (fun xq u t H1 locs ht hvm hw hB hz1 hk1 hS => ?_)
                                  rw [hw]
                                  have hO : WO D cI cC cZ cR s.heap.size a [] r522.2 H1 := by rw [← ht]; exact hB
                                  generalize H1 = H at hO hS ⊢
                                  refine lv_if_ne (tgt := 214) hx hb dL_law_209 (by decide) (fun c524 => ?_) (fun c524 => ?_)
                                  · replace h := br_p c524 h
                                    obtain ⟨x523, ex523, h⟩ := bd_sp h
                                    refine lv_iinc (v := x523) (lv' := [(2, .int x523), (5, .int r507), (4, .int r502), (3, .int r501), (0, .ref b), (1, .ref (a 0))]) hx hb dL_law_214 hl (k := 5) rfl (by rw [ex523]; rfl) (by decide) rfl (fun ls hl => ?_)
                                    refine lv_goto (tgt := 66) hx hb dL_law_217 (by decide) ?_
                                    have hBB := B_11 c167 c191
                                    exact ih (i + 1) x523 _ _ _ _ _ _ (by rw [ex523]; exact nI_1 i) (by omega) (by omega) (by omega) h hO hS (lv_sub hl [4, 5, 0] rfl)
                                  · replace h := br_n (not_not_intro c524) h
                                    exact no_sm h
                        · replace h := br_n c549 h
                          refine lv_aload_n hx hb dL_law_141 rfl (lv_at hl 4 rfl) ?_
                          refine lv_iload_n hx hb dL_law_142 rfl (lv_at hl 2 rfl) ?_
                          refine lv_bipush (v := 6) hx hb dL_law_143 (by decide) ?_
                          refine lv_ishr hx hb dL_law_145 ?_
                          refine lv_iload hx hb dL_law_146 (lv_at hl 0 rfl) ?_
                          obtain ⟨r527, hcr527, h⟩ := bn_sp h
                          have hZ := va_nilD (b0 := s.heap.size) hb0 hS
                          refine va_calli (va_runS (As := [.int (r501 >>> (6 &&& 31)), .int r507]) (rest := [.ref (a 0)]) ⟨hx, hb, hml, hown, hts⟩ (m_L_low l D cI cC cZ cR _ (r501 >>> (6 &&& 31)) r507 r527 hcr527) (va_cwS 2 hts gL_law_L_low rfl rfl rfl (by decide +kernel) ⟨Nat.le_of_ble_eq_true rfl, Nat.le_of_ble_eq_true rfl⟩) (cPc_ps (ws := []) (A := fun _ => True) va_nilP hK va_nilDD) rfl rfl hl.1 rfl (lv_room (Nat.le_of_ble_eq_true rfl)) dL_law_148 ⟨by show _ ≤ 600000; omega, by show _ ≤ 7302250; omega⟩) hS (fun q _ h => hZ q h) hZ (fun xq u t H1 locs ht hvm hw hB hz1 hk1 hS => ?_)
                          rw [hw]
                          have hO : WO D cI cC cZ cR s.heap.size a [] r506.2 H1 := WO_st hk1 hO
                          generalize H1 = H at hO hS ⊢
                          obtain ⟨r528, hcr528, h⟩ := bn_sp h
                          refine va_calli (va_runS (As := [.ref (a 0), .int r527]) (rest := []) ⟨hx, hb, hml, hown, hts⟩ (m_L_isThing l D cI cC cZ cR s.heap.size a [] r506.2 r527 r528 hcr528) (va_cwS 2 hts gL_law_L_isThing rfl rfl rfl (by decide +kernel) ⟨Nat.le_of_ble_eq_true rfl, Nat.le_of_ble_eq_true rfl⟩) (cPcO_ps hO hK hb0 hS hstt) rfl rfl hl.1 rfl (lv_room (Nat.le_of_ble_eq_true rfl)) dL_law_151 ⟨by show _ ≤ 600000; omega, by show _ ≤ 7302250; omega⟩) hS (fun q _ h => h) (fun q h => h) (fun xq u t H1 locs ht hvm hw hB hz1 hk1 hS => ?_)
                          rw [hw]
                          have hO : WO D cI cC cZ cR s.heap.size a [] r506.2 H1 := by rw [← ht]; exact hB
                          generalize H1 = H at hO hS ⊢
                          refine lv_if_eq (tgt := 212) hx hb dL_law_154 (by decide) (fun c548 => ?_) (fun c548 => ?_)
                          · replace h := br_p c548 h
                            exact no_sm h
                          · replace h := br_n c548 h
                            refine lv_iload hx hb dL_law_157 (lv_at hl 0 rfl) ?_
                            refine lv_if_le (tgt := 185) hx hb dL_law_159 (by decide) (fun c547 => ?_) (fun c547 => ?_)
                            · replace h := br_p c547 h
                              refine lv_iload_n hx hb dL_law_185 rfl (lv_at hl 5 rfl) ?_
                              refine lv_bipush (v := 20) hx hb dL_law_186 (by decide) ?_
                              refine lv_irem hx hb dL_law_188 (by decide) ?_
                              refine lv_bipush (v := 11) hx hb dL_law_189 (by decide) ?_
                              refine lv_icmp_ne (tgt := 214) hx hb dL_law_191 (by decide) (fun c191 => ?_) (fun c191 => ?_)
                              · replace h := br_p c191 h
                                obtain ⟨x529, ex529, h⟩ := bd_sp h
                                refine lv_iinc (v := x529) (lv' := [(2, .int x529), (5, .int r507), (4, .int r502), (3, .int r501), (0, .ref b), (1, .ref (a 0))]) hx hb dL_law_214 hl (k := 5) rfl (by rw [ex529]; rfl) (by decide) rfl (fun ls hl => ?_)
                                refine lv_goto (tgt := 66) hx hb dL_law_217 (by decide) ?_
                                have hBB := B_00 i
                                exact ih (i + 1) x529 _ _ _ _ _ _ (by rw [ex529]; exact nI_1 i) (by omega) (by omega) (by omega) h hO hS (lv_sub hl [4, 5, 0] rfl)
                              · replace h := br_n (not_not_intro c191) h
                                refine lv_aload_n hx hb dL_law_194 rfl (lv_at hl 4 rfl) ?_
                                refine lv_iconst (v := 1) hx hb dL_law_195 (by decide) ?_
                                refine lv_iload hx hb dL_law_196 (lv_at hl 1 rfl) ?_
                                refine lv_iconst (v := 5) hx hb dL_law_198 (by decide) ?_
                                refine lv_ishr hx hb dL_law_199 ?_
                                refine lv_bipush (v := 20) hx hb dL_law_200 (by decide) ?_
                                obtain ⟨r530, hcr530, h⟩ := bn_sp h
                                have hZ := va_nilD (b0 := s.heap.size) hb0 hS
                                refine va_calli (va_runS (As := [.int (r502 >>> (5 &&& 31)), .int 20]) (rest := [.int 1, .ref (a 0)]) ⟨hx, hb, hml, hown, hts⟩ (m_L_low l D cI cC cZ cR _ (r502 >>> (5 &&& 31)) 20 r530 hcr530) (va_cwS 2 hts gL_law_L_low rfl rfl rfl (by decide +kernel) ⟨Nat.le_of_ble_eq_true rfl, Nat.le_of_ble_eq_true rfl⟩) (cPc_ps (ws := []) (A := fun _ => True) va_nilP hK va_nilDD) rfl rfl hl.1 rfl (lv_room (Nat.le_of_ble_eq_true rfl)) dL_law_202 ⟨by show _ ≤ 600000; omega, by show _ ≤ 7302250; omega⟩) hS (fun q _ h => hZ q h) hZ (fun xq u t H1 locs ht hvm hw hB hz1 hk1 hS => ?_)
                                rw [hw]
                                have hO : WO D cI cC cZ cR s.heap.size a [] r506.2 H1 := WO_st hk1 hO
                                generalize H1 = H at hO hS ⊢
                                refine lv_iadd hx hb dL_law_205 ?_
                                obtain ⟨r531, hcr531, h⟩ := bn_sp h
                                refine va_calli (va_runS (As := [.ref (a 0), .int (1 + r530)]) (rest := []) ⟨hx, hb, hml, hown, hts⟩ (m_L_isBestFlash l D cI cC cZ cR s.heap.size a [] r506.2 (1 + r530) r531 hcr531) (va_cwS 2 hts gL_law_L_isBestFlash rfl rfl rfl (by decide +kernel) ⟨Nat.le_of_ble_eq_true rfl, Nat.le_of_ble_eq_true rfl⟩) (cPcO_ps hO hK hb0 hS hstt) rfl rfl hl.1 rfl (lv_room (Nat.le_of_ble_eq_true rfl)) dL_law_206 ⟨by show _ ≤ 600000; omega, by show _ ≤ 7302250; omega⟩) hS (fun q _ h => h) (fun q h => h) (fun xq u t H1 locs ht hvm hw hB hz1 hk1 hS => ?_)
                                rw [hw]
                                have hO : WO D cI cC cZ cR s.heap.size a [] r531.2 H1 := by rw [← ht]; exact hB
                                generalize H1 = H at hO hS ⊢
                                refine lv_if_ne (tgt := 214) hx hb dL_law_209 (by decide) (fun c533 => ?_) (fun c533 => ?_)
                                · replace h := br_p c533 h
                                  obtain ⟨x532, ex532, h⟩ := bd_sp h
                                  refine lv_iinc (v := x532) (lv' := [(2, .int x532), (5, .int r507), (4, .int r502), (3, .int r501), (0, .ref b), (1, .ref (a 0))]) hx hb dL_law_214 hl (k := 5) rfl (by rw [ex532]; rfl) (by decide) rfl (fun ls hl => ?_)
                                  refine lv_goto (tgt := 66) hx hb dL_law_217 (by decide) ?_
                                  have hBB := B_01 c191
                                  exact ih (i + 1) x532 _ _ _ _ _ _ (by rw [ex532]; exact nI_1 i) (by omega) (by omega) (by omega) h hO hS (lv_sub hl [4, 5, 0] rfl)
                                · replace h := br_n (not_not_intro c533) h
                                  exact no_sm h
                            · replace h := br_n c547 h
                              refine lv_iload_n hx hb dL_law_162 rfl (lv_at hl 5 rfl) ?_
                              refine lv_bipush (v := 9) hx hb dL_law_163 (by decide) ?_
                              refine lv_irem hx hb dL_law_165 (by decide) ?_
                              refine lv_iconst (v := 5) hx hb dL_law_166 (by decide) ?_
                              refine lv_icmp_ne (tgt := 185) hx hb dL_law_167 (by decide) (fun c167 => ?_) (fun c167 => ?_)
                              · replace h := br_p c167 h
                                refine lv_iload_n hx hb dL_law_185 rfl (lv_at hl 5 rfl) ?_
                                refine lv_bipush (v := 20) hx hb dL_law_186 (by decide) ?_
                                refine lv_irem hx hb dL_law_188 (by decide) ?_
                                refine lv_bipush (v := 11) hx hb dL_law_189 (by decide) ?_
                                refine lv_icmp_ne (tgt := 214) hx hb dL_law_191 (by decide) (fun c191 => ?_) (fun c191 => ?_)
                                · replace h := br_p c191 h
                                  obtain ⟨x534, ex534, h⟩ := bd_sp h
                                  refine lv_iinc (v := x534) (lv' := [(2, .int x534), (5, .int r507), (4, .int r502), (3, .int r501), (0, .ref b), (1, .ref (a 0))]) hx hb dL_law_214 hl (k := 5) rfl (by rw [ex534]; rfl) (by decide) rfl (fun ls hl => ?_)
                                  refine lv_goto (tgt := 66) hx hb dL_law_217 (by decide) ?_
                                  have hBB := B_00 i
                                  exact ih (i + 1) x534 _ _ _ _ _ _ (by rw [ex534]; exact nI_1 i) (by omega) (by omega) (by omega) h hO hS (lv_sub hl [4, 5, 0] rfl)
                                · replace h := br_n (not_not_intro c191) h
                                  refine lv_aload_n hx hb dL_law_194 rfl (lv_at hl 4 rfl) ?_
                                  refine lv_iconst (v := 1) hx hb dL_law_195 (by decide) ?_
                                  refine lv_iload hx hb dL_law_196 (lv_at hl 1 rfl) ?_
                                  refine lv_iconst (v := 5) hx hb dL_law_198 (by decide) ?_
                                  refine lv_ishr hx hb dL_law_199 ?_
                                  refine lv_bipush (v := 20) hx hb dL_law_200 (by decide) ?_
                                  obtain ⟨r535, hcr535, h⟩ := bn_sp h
                                  have hZ := va_nilD (b0 := s.heap.size) hb0 hS
                                  refine va_calli (va_runS (As := [.int (r502 >>> (5 &&& 31)), .int 20]) (rest := [.int 1, .ref (a 0)]) ⟨hx, hb, hml, hown, hts⟩ (m_L_low l D cI cC cZ cR _ (r502 >>> (5 &&& 31)) 20 r535 hcr535) (va_cwS 2 hts gL_law_L_low rfl rfl rfl (by decide +kernel) ⟨Nat.le_of_ble_eq_true rfl, Nat.le_of_ble_eq_true rfl⟩) (cPc_ps (ws := []) (A := fun _ => True) va_nilP hK va_nilDD) rfl rfl hl.1 rfl (lv_room (Nat.le_of_ble_eq_true rfl)) dL_law_202 ⟨by show _ ≤ 600000; omega, by show _ ≤ 7302250; omega⟩) hS (fun q _ h => hZ q h) hZ (fun xq u t H1 locs ht hvm hw hB hz1 hk1 hS => ?_)
                                  rw [hw]
                                  have hO : WO D cI cC cZ cR s.heap.size a [] r506.2 H1 := WO_st hk1 hO
                                  generalize H1 = H at hO hS ⊢
                                  refine lv_iadd hx hb dL_law_205 ?_
                                  obtain ⟨r536, hcr536, h⟩ := bn_sp h
                                  refine va_calli (va_runS (As := [.ref (a 0), .int (1 + r535)]) (rest := []) ⟨hx, hb, hml, hown, hts⟩ (m_L_isBestFlash l D cI cC cZ cR s.heap.size a [] r506.2 (1 + r535) r536 hcr536) (va_cwS 2 hts gL_law_L_isBestFlash rfl rfl rfl (by decide +kernel) ⟨Nat.le_of_ble_eq_true rfl, Nat.le_of_ble_eq_true rfl⟩) (cPcO_ps hO hK hb0 hS hstt) rfl rfl hl.1 rfl (lv_room (Nat.le_of_ble_eq_true rfl)) dL_law_206 ⟨by show _ ≤ 600000; omega, by show _ ≤ 7302250; omega⟩) hS (fun q _ h => h) (fun q h => h) (fun xq u t H1 locs ht hvm hw hB hz1 hk1 hS => ?_)
                                  rw [hw]
                                  have hO : WO D cI cC cZ cR s.heap.size a [] r536.2 H1 := by rw [← ht]; exact hB
                                  generalize H1 = H at hO hS ⊢
                                  refine lv_if_ne (tgt := 214) hx hb dL_law_209 (by decide) (fun c538 => ?_) (fun c538 => ?_)
                                  · replace h := br_p c538 h
                                    obtain ⟨x537, ex537, h⟩ := bd_sp h
                                    refine lv_iinc (v := x537) (lv' := [(2, .int x537), (5, .int r507), (4, .int r502), (3, .int r501), (0, .ref b), (1, .ref (a 0))]) hx hb dL_law_214 hl (k := 5) rfl (by rw [ex537]; rfl) (by decide) rfl (fun ls hl => ?_)
                                    refine lv_goto (tgt := 66) hx hb dL_law_217 (by decide) ?_
                                    have hBB := B_01 c191
                                    exact ih (i + 1) x537 _ _ _ _ _ _ (by rw [ex537]; exact nI_1 i) (by omega) (by omega) (by omega) h hO hS (lv_sub hl [4, 5, 0] rfl)
                                  · replace h := br_n (not_not_intro c538) h
                                    exact no_sm h
                              · replace h := br_n (not_not_intro c167) h
                                refine lv_aload_n hx hb dL_law_170 rfl (lv_at hl 4 rfl) ?_
                                refine lv_iload_n hx hb dL_law_171 rfl (lv_at hl 2 rfl) ?_
                                refine lv_iconst (v := 5) hx hb dL_law_172 (by decide) ?_
                                refine lv_ishr hx hb dL_law_173 ?_
                                refine lv_iload hx hb dL_law_174 (lv_at hl 0 rfl) ?_
                                obtain ⟨r539, hcr539, h⟩ := bn_sp h
                                have hZ := va_nilD (b0 := s.heap.size) hb0 hS
                                refine va_calli (va_runS (As := [.int (r501 >>> (5 &&& 31)), .int r507]) (rest := [.ref (a 0)]) ⟨hx, hb, hml, hown, hts⟩ (m_L_low l D cI cC cZ cR _ (r501 >>> (5 &&& 31)) r507 r539 hcr539) (va_cwS 2 hts gL_law_L_low rfl rfl rfl (by decide +kernel) ⟨Nat.le_of_ble_eq_true rfl, Nat.le_of_ble_eq_true rfl⟩) (cPc_ps (ws := []) (A := fun _ => True) va_nilP hK va_nilDD) rfl rfl hl.1 rfl (lv_room (Nat.le_of_ble_eq_true rfl)) dL_law_176 ⟨by show _ ≤ 600000; omega, by show _ ≤ 7302250; omega⟩) hS (fun q _ h => hZ q h) hZ (fun xq u t H1 locs ht hvm hw hB hz1 hk1 hS => ?_)
                                rw [hw]
                                have hO : WO D cI cC cZ cR s.heap.size a [] r506.2 H1 := WO_st hk1 hO
                                generalize H1 = H at hO hS ⊢
                                obtain ⟨r540, hcr540, h⟩ := bn_sp h
                                refine va_calli (va_runS (As := [.ref (a 0), .int r539]) (rest := []) ⟨hx, hb, hml, hown, hts⟩ (m_L_leans l D cI cC cZ cR s.heap.size a [] r506.2 r539 r540 hcr540) (va_cwS 2 hts gL_law_L_leans rfl rfl rfl (by decide +kernel) ⟨Nat.le_of_ble_eq_true rfl, Nat.le_of_ble_eq_true rfl⟩) (cPcO_ps hO hK hb0 hS hstt) rfl rfl hl.1 rfl (lv_room (Nat.le_of_ble_eq_true rfl)) dL_law_179 ⟨by show _ ≤ 600000; omega, by show _ ≤ 7302250; omega⟩) hS (fun q _ h => h) (fun q h => h) (fun xq u t H1 locs ht hvm hw hB hz1 hk1 hS => ?_)
                                rw [hw]
                                have hO : WO D cI cC cZ cR s.heap.size a [] r540.2 H1 := by rw [← ht]; exact hB
                                generalize H1 = H at hO hS ⊢
                                refine lv_if_eq (tgt := 212) hx hb dL_law_182 (by decide) (fun c546 => ?_) (fun c546 => ?_)
                                · replace h := br_p c546 h
                                  exact no_sm h
                                · replace h := br_n c546 h
                                  refine lv_iload_n hx hb dL_law_185 rfl (lv_at hl 5 rfl) ?_
                                  refine lv_bipush (v := 20) hx hb dL_law_186 (by decide) ?_
                                  refine lv_irem hx hb dL_law_188 (by decide) ?_
                                  refine lv_bipush (v := 11) hx hb dL_law_189 (by decide) ?_
                                  refine lv_icmp_ne (tgt := 214) hx hb dL_law_191 (by decide) (fun c191 => ?_) (fun c191 => ?_)
                                  · replace h := br_p c191 h
                                    obtain ⟨x541, ex541, h⟩ := bd_sp h
                                    refine lv_iinc (v := x541) (lv' := [(2, .int x541), (5, .int r507), (4, .int r502), (3, .int r501), (0, .ref b), (1, .ref (a 0))]) hx hb dL_law_214 hl (k := 5) rfl (by rw [ex541]; rfl) (by decide) rfl (fun ls hl => ?_)
                                    refine lv_goto (tgt := 66) hx hb dL_law_217 (by decide) ?_
                                    have hBB := B_10 c167
                                    exact ih (i + 1) x541 _ _ _ _ _ _ (by rw [ex541]; exact nI_1 i) (by omega) (by omega) (by omega) h hO hS (lv_sub hl [4, 5, 0] rfl)
                                  · replace h := br_n (not_not_intro c191) h
                                    refine lv_aload_n hx hb dL_law_194 rfl (lv_at hl 4 rfl) ?_
                                    refine lv_iconst (v := 1) hx hb dL_law_195 (by decide) ?_
                                    refine lv_iload hx hb dL_law_196 (lv_at hl 1 rfl) ?_
                                    refine lv_iconst (v := 5) hx hb dL_law_198 (by decide) ?_
                                    refine lv_ishr hx hb dL_law_199 ?_
                                    refine lv_bipush (v := 20) hx hb dL_law_200 (by decide) ?_
                                    obtain ⟨r542, hcr542, h⟩ := bn_sp h
                                    have hZ := va_nilD (b0 := s.heap.size) hb0 hS
                                    refine va_calli (va_runS (As := [.int (r502 >>> (5 &&& 31)), .int 20]) (rest := [.int 1, .ref (a 0)]) ⟨hx, hb, hml, hown, hts⟩ (m_L_low l D cI cC cZ cR _ (r502 >>> (5 &&& 31)) 20 r542 hcr542) (va_cwS 2 hts gL_law_L_low rfl rfl rfl (by decide +kernel) ⟨Nat.le_of_ble_eq_true rfl, Nat.le_of_ble_eq_true rfl⟩) (cPc_ps (ws := []) (A := fun _ => True) va_nilP hK va_nilDD) rfl rfl hl.1 rfl (lv_room (Nat.le_of_ble_eq_true rfl)) dL_law_202 ⟨by show _ ≤ 600000; omega, by show _ ≤ 7302250; omega⟩) hS (fun q _ h => hZ q h) hZ (fun xq u t H1 locs ht hvm hw hB hz1 hk1 hS => ?_)
                                    rw [hw]
                                    have hO : WO D cI cC cZ cR s.heap.size a [] r540.2 H1 := WO_st hk1 hO
                                    generalize H1 = H at hO hS ⊢
                                    refine lv_iadd hx hb dL_law_205 ?_
                                    obtain ⟨r543, hcr543, h⟩ := bn_sp h
                                    refine va_calli (va_runS (As := [.ref (a 0), .int (1 + r542)]) (rest := []) ⟨hx, hb, hml, hown, hts⟩ (m_L_isBestFlash l D cI cC cZ cR s.heap.size a [] r540.2 (1 + r542) r543 hcr543) (va_cwS 2 hts gL_law_L_isBestFlash rfl rfl rfl (by decide +kernel) ⟨Nat.le_of_ble_eq_true rfl, Nat.le_of_ble_eq_true rfl⟩) (cPcO_ps hO hK hb0 hS hstt) rfl rfl hl.1 rfl (lv_room (Nat.le_of_ble_eq_true rfl)) dL_law_206 ⟨by show _ ≤ 600000; omega, by show _ ≤ 7302250; omega⟩) hS (fun q _ h => h) (fun q h => h) (fun xq u t H1 locs ht hvm hw hB hz1 hk1 hS => ?_)
                                    rw [hw]
                                    have hO : WO D cI cC cZ cR s.heap.size a [] r543.2 H1 := by rw [← ht]; exact hB
                                    generalize H1 = H at hO hS ⊢
                                    refine lv_if_ne (tgt := 214) hx hb dL_law_209 (by decide) (fun c545 => ?_) (fun c545 => ?_)
                                    · replace h := br_p c545 h
                                      obtain ⟨x544, ex544, h⟩ := bd_sp h
                                      refine lv_iinc (v := x544) (lv' := [(2, .int x544), (5, .int r507), (4, .int r502), (3, .int r501), (0, .ref b), (1, .ref (a 0))]) hx hb dL_law_214 hl (k := 5) rfl (by rw [ex544]; rfl) (by decide) rfl (fun ls hl => ?_)
                                      refine lv_goto (tgt := 66) hx hb dL_law_217 (by decide) ?_
                                      have hBB := B_11 c167 c191
                                      exact ih (i + 1) x544 _ _ _ _ _ _ (by rw [ex544]; exact nI_1 i) (by omega) (by omega) (by omega) h hO hS (lv_sub hl [4, 5, 0] rfl)
                                    · replace h := br_n (not_not_intro c545) h
                                      exact no_sm h
                      · replace h := br_n (not_not_intro c550) h
                        exact no_sm h
              refine hL66 f_L_law_end hE 46 0 _ _ _ _ _ _ _ rfl rfl (by show _ ≤ 100; omega) (by show _ ≤ 2000; omega) h hO hS (lv_sub hl [1, 2, 0] rfl)
            · replace h := br_n c25 h
              exact no_sm h
