set_option maxHeartbeats 40000000 in
set_option maxRecDepth 100000 in
theorem law_loop {p : Program} {l : Launch} {e : Env} {s : State} {m : MethodId} {below : List Frame} {meth : Method} {c : Code} {D : va_G} {cI cC cZ cR : ClassId} {b L : Nat} {xs : Nat → Int32} (C0 : lw_At p s m meth c b L xs) (hK : kk D cI cC cZ cR s) (hstt : stt cI (fun q => s.heap.size ≤ q) s s.heap) (mm sc sea th th1 th2 th3 th4 th5 th6 th7 th8 th9 pi pia cm cm1 cm2 cm3 pd pda rd rda hh hst sla mo mo1 mo2 mo3 mo4 mo5 : Nat) : ∀ (n : Nat) (v3 : Int32) (se : Nat → Int32) (mn : Int32) (ln : Nat → Int32) (hi : Nat → Int32) (wi : Nat → Int32) (br : Nat → Int32) (sp : Nat → Int32) (si : Nat → Int32) (le : Nat → Int32) (un : Nat → Int32) (ul : Nat → Int32) (px : Nat → Int32) (tm : Int32) (ps : Int32) (ft : Int32) (fk : Int32) (lea : Nat → Int32) (upr : Nat → Int32) (ris : Nat → Int32) (pl : Int32) (tx : Nat → Int32) (at_ : Int32) (kd : Int32) (va : Nat → Int32) (nx : Int32) (hm : Int32) (pr : Nat → Bool) (sv : Nat → SCV) (prs : Nat → Bool) (svs : Nat → SCV) (kn : Int32) (le_ : Int32) (s_ : Nat → Int32) (past : Nat → Int32) (slo : Nat → Int32) (isv : Nat → Int32) (pad_ : Nat → Int32) (ad ads : Nat → Nat → Nat) (H : Heap) (locs : List Loc) (ls : Array Slot) (cells slots : Nat), f_law L xs n v3 se mn ln hi wi br sp si le un ul px tm ps ft fk lea upr ris pl tx at_ kd va nx hm pr sv prs svs kn le_ s_ past slo isv pad_ = some () → cells + 14 * n ≤ 600000 → slots + 478 * n ≤ 7302250 → va_P D vwCl ((ws_law cI cC cZ cR mm sc sea th th1 th2 th3 th4 th5 th6 th7 th8 th9 pi pia cm cm1 cm2 cm3 pd pda rd rda hh hst sla mo mo1 mo2 mo3 mo4 mo5 se mn ln hi wi br sp si le un ul px tm ps ft fk lea upr ris pl tx at_ kd va nx hm kn le_ s_ past slo isv pad_ pr ad prs ads) ++ (hwB cI cC cZ cR pr ad sv ++ hwB' cI cC cZ cR prs ads svs 2)) H → va_D (fun q : Nat => s.heap.size ≤ q) ((ws_law cI cC cZ cR mm sc sea th th1 th2 th3 th4 th5 th6 th7 th8 th9 pi pia cm cm1 cm2 cm3 pd pda rd rda hh hst sla mo mo1 mo2 mo3 mo4 mo5 se mn ln hi wi br sp si le un ul px tm ps ft fk lea upr ris pl tx at_ kd va nx hm kn le_ s_ past slo isv pad_ pr ad prs ads) ++ (hwB cI cC cZ cR pr ad sv ++ hwB' cI cC cZ cR prs ads svs 2)) → va_S (fun q : Nat => s.heap.size ≤ q) s.heap H locs → lv_has ls 4 [(0, .ref b), (1, .ref mm), (2, .ref mo), (3, .int v3)] → W p l e room_1 s m #[Value.ref b] below meth c H locs cells slots (lw_Z below #[Value.ref b] s) (F0 m 18 ls []) := by
  obtain ⟨hx, hb, hr, hml, hown, hts0, hX, hbl, hlocks, hgv⟩ := id C0
  have hts := fun w h => hts0 w (wsL_law_in w h)
  have hA : ∀ q : Nat, s.heap.size ≤ q → (fun q : Nat => s.heap.size ≤ q) q := fun _ h => h
  have hAb : ∀ q : Nat, (fun q : Nat => s.heap.size ≤ q) q → s.heap.size ≤ q := fun _ h => h
  have hbA : ¬ (fun q : Nat => s.heap.size ≤ q) b := Nat.not_le.mpr hbl
  intro n
  induction n with
  | zero => intro v3 se mn ln hi wi br sp si le un ul px tm ps ft fk lea upr ris pl tx at_ kd va nx hm pr sv prs svs kn le_ s_ past slo isv pad_ ad ads H locs ls cells slots h; exact no_sm h
  | succ n ih =>
    intro v3 se mn ln hi wi br sp si le un ul px tm ps ft fk lea upr ris pl tx at_ kd va nx hm pr sv prs svs kn le_ s_ past slo isv pad_ ad ads H locs ls cells slots h hcc hcs hP hD hS hl
    rw [f_law_s] at h
    refine lv_iload_n hx hb dL_law_18 rfl (lv_at hl 3 rfl) ?_
    refine lv_aload_n hx hb dL_law_19 rfl (lv_at hl 0 rfl) ?_
    refine va_slen hx hb hX hbl hbA hS dL_law_20 ?_
    refine lv_bipush (v := 6) hx hb dL_law_21 (by decide) ?_
    refine lv_isub hx hb dL_law_23 ?_
    refine lv_icmp_gt (tgt := 812) hx hb dL_law_24 (by decide) (fun cg => ?_) (fun cg => ?_)
    · replace h := br_p cg h
      refine lv_iconst (v := 1) hx hb dL_law_812 (by decide) ?_
      refine va_forget (fun q hq => hS.2.2 q hq) ?_
      refine W.widen (k := 600000) (n := 7302250) (by omega) (by omega) ?_
      exact lw_ret hx hb hr hlocks dL_law_813
    · replace h := br_n cg h
      refine lv_aload_n hx hb dL_law_27 rfl (lv_at hl 0 rfl) ?_
      refine lv_iload_n hx hb dL_law_28 rfl (lv_at hl 3 rfl) ?_
      obtain ⟨hin, h⟩ := gd_sp h
      refine va_sld hx hb hX hbl hbA hS hin dL_law_29 ?_
      refine lv_bipush (v := 31) hx hb dL_law_30 (by decide) ?_
      refine lv_iand hx hb dL_law_32 ?_
      refine lv_topi (fun z1 ez1 => ?_)
      replace h := bd_s2 h ez1
      by_cases c7 : z1 = 0
      · replace h := br_p c7 h
        refine lv_tableIn (tgt := 144) hx hb dL_law_33 (by rw [c7]; decide) (by rw [c7]; decide) (by rw [c7]; rfl) (by decide) ?_
        refine lv_aload_n hx hb dL_law_144 rfl (lv_at hl 1 rfl) ?_
        refine lv_aload_n hx hb dL_law_145 rfl (lv_at hl 0 rfl) ?_
        refine lv_iload_n hx hb dL_law_146 rfl (lv_at hl 3 rfl) ?_
        refine lv_iconst (v := 1) hx hb dL_law_147 (by decide) ?_
        refine lv_iadd hx hb dL_law_148 ?_
        obtain ⟨hin, h⟩ := gd_sp h
        refine va_sld hx hb hX hbl hbA hS hin dL_law_149 ?_
        refine lv_aload_n hx hb dL_law_150 rfl (lv_at hl 0 rfl) ?_
        refine lv_iload_n hx hb dL_law_151 rfl (lv_at hl 3 rfl) ?_
        refine lv_iconst (v := 2) hx hb dL_law_152 (by decide) ?_
        refine lv_iadd hx hb dL_law_153 ?_
        obtain ⟨hin, h⟩ := gd_sp h
        refine va_sld hx hb hX hbl hbA hS hin dL_law_154 ?_
        obtain ⟨r2, hcr2, h⟩ := bn_sp h
        have hPc := va_P_3 (X' := (ws_mainT cI cC cZ cR mm sc sea th th1 th2 th3 th4 th5 th6 th7 th8 th9 pi pia cm cm1 cm2 cm3 pd pda rd rda hh hst sla se mn ln hi wi br sp si le un ul px tm ps ft fk lea upr ris pl tx at_ kd va nx hm pr ad)) hP [0, 1, 2, 3, 4, 5, 6, 7, 8, 9, 10, 11, 12, 13, 14, 15, 16, 17, 18, 19, 20, 21, 22, 23, 24] rfl
        have hDc := va_D_3 (X' := (ws_mainT cI cC cZ cR mm sc sea th th1 th2 th3 th4 th5 th6 th7 th8 th9 pi pia cm cm1 cm2 cm3 pd pda rd rda hh hst sla se mn ln hi wi br sp si le un ul px tm ps ft fk lea upr ris pl tx at_ kd va nx hm pr ad)) hD [0, 1, 2, 3, 4, 5, 6, 7, 8, 9, 10, 11, 12, 13, 14, 15, 16, 17, 18, 19, 20, 21, 22, 23, 24] (by decide) rfl
        have hFc := va_free3 (wc := (ws_mainT cI cC cZ cR mm sc sea th th1 th2 th3 th4 th5 th6 th7 th8 th9 pi pia cm cm1 cm2 cm3 pd pda rd rda hh hst sla se mn ln hi wi br sp si le un ul px tm ps ft fk lea upr ris pl tx at_ kd va nx hm pr ad)) hD hS hA [0, 1, 2, 3, 4, 5, 6, 7, 8, 9, 10, 11, 12, 13, 14, 15, 16, 17, 18, 19, 20, 21, 22, 23, 24] rfl
        refine va_calli (va_runV (As := [.int (xs (v3 + 1 : Int32).toNatClampNeg), .int (xs (v3 + 2 : Int32).toNatClampNeg)]) (rest := []) ⟨hx, hb, hml, hown, hts⟩ (m_X7_set l D cI cC cZ cR mm sc sea th th1 th2 th3 th4 th5 th6 th7 th8 th9 pi pia cm cm1 cm2 cm3 pd pda rd rda hh hst sla _ se mn ln hi wi br sp si le un ul px tm ps ft fk lea upr ris pl tx at_ kd va nx hm pr ad sv (xs (v3 + 1 : Int32).toNatClampNeg) (xs (v3 + 2 : Int32).toNatClampNeg) s.heap.size r2 hcr2) (cwV 2 hts gL_law_X7_set rfl rfl rfl (by decide +kernel) ⟨Nat.le_of_ble_eq_true rfl, Nat.le_of_ble_eq_true rfl⟩) (cPcS_pv hPc hK hDc hAb (Nat.le_refl _) hS hstt (ci := 7) (q0 := 0) rfl rfl) rfl rfl hl.1 rfl (lv_room (Nat.le_of_ble_eq_true rfl)) dL_law_155 ⟨by show _ ≤ 600000; omega, by show _ ≤ 7302250; omega⟩) hS (fun q _ h => hFc q h) hFc (fun xq u3 t H1 locs ht hvm hw hB hz1 hk1 hS => ?_)
        rw [hw]
        obtain ⟨hP1, hD1⟩ := hB
        rw [ht] at hP1
        obtain ⟨hP, hD⟩ := jT3 (R := [(sla, .inl (cR, 2, .inr (.inr (.inr (.inr (hfn prs ads)))))), (mo, .inr (8, [.ref mo1, .ref mo2, .int kn, .ref mo3, .ref mo4, .ref mo5, .int le_])), (mo1, .inl (cI, 465, .inl s_)), (mo2, .inl (cI, 2790, .inl past)), (mo3, .inl (cI, 930, .inl slo)), (mo4, .inl (cZ, 2, .inl isv)), (mo5, .inl (cI, 80, .inl pad_))]) (w1 := (ws_mainT cI cC cZ cR mm sc sea th th1 th2 th3 th4 th5 th6 th7 th8 th9 pi pia cm cm1 cm2 cm3 pd pda rd rda hh hst sla r2.2.2.2.1 mn ln hi wi br sp si le un ul px tm ps ft fk lea upr ris pl tx at_ kd va r2.2.2.2.2.1 r2.2.2.2.2.2 r2.2.1 u3)) hP hD [0, 1, 2, 3, 4, 5, 6, 7, 8, 9, 10, 11, 12, 13, 14, 15, 16, 17, 18, 19, 20, 21, 22, 23, 24] [25, 26, 27, 28, 29, 30, 31] rfl rfl (by decide) (by decide) hk1 hFc hP1 hD1
        have hP := va_P_subT (X' := (ws_law cI cC cZ cR mm sc sea th th1 th2 th3 th4 th5 th6 th7 th8 th9 pi pia cm cm1 cm2 cm3 pd pda rd rda hh hst sla mo mo1 mo2 mo3 mo4 mo5 r2.2.2.2.1 mn ln hi wi br sp si le un ul px tm ps ft fk lea upr ris pl tx at_ kd va r2.2.2.2.2.1 r2.2.2.2.2.2 kn le_ s_ past slo isv pad_ r2.2.1 u3 prs ads)) hP [7, 8, 9, 10, 11, 12, 13, 14, 15, 16, 17, 18, 19, 20, 21, 22, 23, 24, 25, 26, 27, 28, 29, 30, 31, 0, 1, 2, 3, 4, 5, 6] rfl
        have hD := va_D_subT (X' := (ws_law cI cC cZ cR mm sc sea th th1 th2 th3 th4 th5 th6 th7 th8 th9 pi pia cm cm1 cm2 cm3 pd pda rd rda hh hst sla mo mo1 mo2 mo3 mo4 mo5 r2.2.2.2.1 mn ln hi wi br sp si le un ul px tm ps ft fk lea upr ris pl tx at_ kd va r2.2.2.2.2.1 r2.2.2.2.2.2 kn le_ s_ past slo isv pad_ r2.2.1 u3 prs ads)) hD [7, 8, 9, 10, 11, 12, 13, 14, 15, 16, 17, 18, 19, 20, 21, 22, 23, 24, 25, 26, 27, 28, 29, 30, 31, 0, 1, 2, 3, 4, 5, 6] (by decide) rfl
        generalize H1 = H at hP hS ⊢
        refine lv_aload_n hx hb dL_law_158 rfl (lv_at hl 2 rfl) ?_
        refine lv_aload_n hx hb dL_law_159 rfl (lv_at hl 0 rfl) ?_
        refine lv_iload_n hx hb dL_law_160 rfl (lv_at hl 3 rfl) ?_
        refine lv_iconst (v := 1) hx hb dL_law_161 (by decide) ?_
        refine lv_iadd hx hb dL_law_162 ?_
        obtain ⟨hin, h⟩ := gd_sp h
        refine va_sld hx hb hX hbl hbA hS hin dL_law_163 ?_
        refine lv_aload_n hx hb dL_law_164 rfl (lv_at hl 0 rfl) ?_
        refine lv_iload_n hx hb dL_law_165 rfl (lv_at hl 3 rfl) ?_
        refine lv_iconst (v := 2) hx hb dL_law_166 (by decide) ?_
        refine lv_iadd hx hb dL_law_167 ?_
        obtain ⟨hin, h⟩ := gd_sp h
        refine va_sld hx hb hX hbl hbA hS hin dL_law_168 ?_
        obtain ⟨r4, hcr4, h⟩ := bn_sp h
        have hPc := hP.sub (ws' := (ws_model cI cC cZ cR mo mo1 mo2 mo3 mo4 mo5 kn le_ s_ past slo isv pad_)) [26, 27, 28, 29, 30, 31] rfl
        have hDc := hD.sub (ws' := (ws_model cI cC cZ cR mo mo1 mo2 mo3 mo4 mo5 kn le_ s_ past slo isv pad_)) [26, 27, 28, 29, 30, 31] (by decide) rfl
        have hFc := va_free (wc := (ws_model cI cC cZ cR mo mo1 mo2 mo3 mo4 mo5 kn le_ s_ past slo isv pad_)) hD hS hA [26, 27, 28, 29, 30, 31] rfl
        refine va_calli (va_runV (As := [.int (xs (v3 + 1 : Int32).toNatClampNeg), .int (xs (v3 + 2 : Int32).toNatClampNeg)]) (rest := [.int r2.1]) ⟨hx, hb, hml, hown, hts⟩ (m_X8_set l D cI cC cZ cR mo mo1 mo2 mo3 mo4 mo5 _ kn le_ s_ past slo isv pad_ (xs (v3 + 1 : Int32).toNatClampNeg) (xs (v3 + 2 : Int32).toNatClampNeg) r4 hcr4) (cwV 2 hts gL_law_X8_set rfl rfl rfl (by decide +kernel) ⟨Nat.le_of_ble_eq_true rfl, Nat.le_of_ble_eq_true rfl⟩) (cPc_pv hPc hK hDc (ci := 8) (q0 := 0) rfl rfl) rfl rfl hl.1 rfl (lv_room (Nat.le_of_ble_eq_true rfl)) dL_law_169 ⟨by show _ ≤ 600000; omega, by show _ ≤ 7302250; omega⟩) hS (fun q _ h => hFc q h) hFc (fun xq u t H1 locs ht hvm hw hB hz1 hk1 hS => ?_)
        rw [hw]
        obtain ⟨hP1, hD1⟩ := hB
        rw [ht] at hP1
        obtain ⟨hP, hD⟩ := jT1 (R := [(mm, .inr (7, [.ref sc, .ref cm, .ref hh, .ref sla, .ref pd, .ref rd])), (sc, .inr (5, [.ref sea, .ref th, .ref pi, .int tm, .int ps, .int ft, .int fk])), (sea, .inl (cI, 4, .inl r2.2.2.2.1)), (th, .inr (6, [.int mn, .ref th1, .ref th2, .ref th3, .ref th4, .ref th5, .ref th6, .ref th7, .ref th8, .ref th9])), (th1, .inl (cI, 8, .inl ln)), (th2, .inl (cI, 8, .inl hi)), (th3, .inl (cI, 8, .inl wi)), (th4, .inl (cI, 8, .inl br)), (th5, .inl (cI, 8, .inl sp)), (th6, .inl (cI, 8, .inl si)), (th7, .inl (cI, 8, .inl le)), (th8, .inl (cI, 8, .inl un)), (th9, .inl (cI, 8, .inl ul)), (pi, .inr (3, [.ref pia])), (pia, .inl (cI, 384, .inl px)), (cm, .inr (0, [.ref cm1, .ref cm2, .ref cm3])), (cm1, .inl (cI, 24, .inl lea)), (cm2, .inl (cI, 24, .inl upr)), (cm3, .inl (cI, 25, .inl ris)), (pd, .inr (2, [.ref pda, .int pl])), (pda, .inl (cC, 80, .inl tx)), (rd, .inr (4, [.ref pd, .int at_, .int kd, .ref rda])), (rda, .inl (cI, 7, .inl va)), (hh, .inr (1, [.ref hst, .int r2.2.2.2.2.1, .int r2.2.2.2.2.2])), (hst, .inl (cR, 6, .inr (.inr (.inr (.inr (hfn r2.2.1 u3)))))), (sla, .inl (cR, 2, .inr (.inr (.inr (.inr (hfn prs ads))))))]) (w1 := (ws_model cI cC cZ cR mo mo1 mo2 mo3 mo4 mo5 r4.2.1 le_ r4.2.2.1 r4.2.2.2 slo isv pad_)) hP hD [26, 27, 28, 29, 30, 31] [0, 1, 2, 3, 4, 5, 6, 7, 8, 9, 10, 11, 12, 13, 14, 15, 16, 17, 18, 19, 20, 21, 22, 23, 24, 25] rfl rfl (by decide) (by decide) hk1 hFc hP1 hD1
        have hP := va_P_subT (X' := (ws_law cI cC cZ cR mm sc sea th th1 th2 th3 th4 th5 th6 th7 th8 th9 pi pia cm cm1 cm2 cm3 pd pda rd rda hh hst sla mo mo1 mo2 mo3 mo4 mo5 r2.2.2.2.1 mn ln hi wi br sp si le un ul px tm ps ft fk lea upr ris pl tx at_ kd va r2.2.2.2.2.1 r2.2.2.2.2.2 r4.2.1 le_ r4.2.2.1 r4.2.2.2 slo isv pad_ r2.2.1 u3 prs ads)) hP [0, 1, 2, 3, 4, 5, 6, 7, 8, 9, 10, 11, 12, 13, 14, 15, 16, 17, 18, 19, 20, 21, 22, 23, 24, 25, 26, 27, 28, 29, 30, 31] rfl
        have hD := va_D_subT (X' := (ws_law cI cC cZ cR mm sc sea th th1 th2 th3 th4 th5 th6 th7 th8 th9 pi pia cm cm1 cm2 cm3 pd pda rd rda hh hst sla mo mo1 mo2 mo3 mo4 mo5 r2.2.2.2.1 mn ln hi wi br sp si le un ul px tm ps ft fk lea upr ris pl tx at_ kd va r2.2.2.2.2.1 r2.2.2.2.2.2 r4.2.1 le_ r4.2.2.1 r4.2.2.2 slo isv pad_ r2.2.1 u3 prs ads)) hD [0, 1, 2, 3, 4, 5, 6, 7, 8, 9, 10, 11, 12, 13, 14, 15, 16, 17, 18, 19, 20, 21, 22, 23, 24, 25, 26, 27, 28, 29, 30, 31] (by decide) rfl
        generalize H1 = H at hP hS ⊢
        refine lv_icmp_eq (tgt := 806) hx hb dL_law_172 (by decide) (fun c5 => ?_) (fun c5 => ?_)
        · replace h := br_p c5 h
          obtain ⟨x6, ex6, h⟩ := bd_sp h
          refine lv_iinc (v := x6) (lv' := [(3, .int x6), (0, .ref b), (1, .ref mm), (2, .ref mo)]) hx hb dL_law_806 hl (k := 3) rfl (by rw [ex6]; rfl) (by decide) rfl (fun ls hl => ?_)
          refine lv_goto (tgt := 18) hx hb dL_law_809 (by decide) ?_
          exact ih x6 r2.2.2.2.1 mn ln hi wi br sp si le un ul px tm ps ft fk lea upr ris pl tx at_ kd va r2.2.2.2.2.1 r2.2.2.2.2.2 r2.2.1 r2.2.2.1 prs svs r4.2.1 le_ r4.2.2.1 r4.2.2.2 slo isv pad_ u3 ads _ _ _ _ _ h (by omega) (by omega) hP hD hS (lv_sub hl [1, 2, 3, 0] rfl)
        · replace h := br_n c5 h
          exact no_sm h
      · replace h := br_n c7 h
        by_cases c13 : z1 = 1
        · replace h := br_p c13 h
          refine lv_tableIn (tgt := 177) hx hb dL_law_33 (by rw [c13]; decide) (by rw [c13]; decide) (by rw [c13]; rfl) (by decide) ?_
          refine lv_aload_n hx hb dL_law_177 rfl (lv_at hl 1 rfl) ?_
          refine lv_aload_n hx hb dL_law_178 rfl (lv_at hl 0 rfl) ?_
          refine lv_iload_n hx hb dL_law_179 rfl (lv_at hl 3 rfl) ?_
          refine lv_iconst (v := 1) hx hb dL_law_180 (by decide) ?_
          refine lv_iadd hx hb dL_law_181 ?_
          obtain ⟨hin, h⟩ := gd_sp h
          refine va_sld hx hb hX hbl hbA hS hin dL_law_182 ?_
          refine lv_aload_n hx hb dL_law_183 rfl (lv_at hl 0 rfl) ?_
          refine lv_iload_n hx hb dL_law_184 rfl (lv_at hl 3 rfl) ?_
          refine lv_iconst (v := 2) hx hb dL_law_185 (by decide) ?_
          refine lv_iadd hx hb dL_law_186 ?_
          obtain ⟨hin, h⟩ := gd_sp h
          refine va_sld hx hb hX hbl hbA hS hin dL_law_187 ?_
          refine lv_aload_n hx hb dL_law_188 rfl (lv_at hl 0 rfl) ?_
          refine lv_iload_n hx hb dL_law_189 rfl (lv_at hl 3 rfl) ?_
          refine lv_iconst (v := 3) hx hb dL_law_190 (by decide) ?_
          refine lv_iadd hx hb dL_law_191 ?_
          obtain ⟨hin, h⟩ := gd_sp h
          refine va_sld hx hb hX hbl hbA hS hin dL_law_192 ?_
          refine lv_aload_n hx hb dL_law_193 rfl (lv_at hl 0 rfl) ?_
          refine lv_iload_n hx hb dL_law_194 rfl (lv_at hl 3 rfl) ?_
          refine lv_iconst (v := 4) hx hb dL_law_195 (by decide) ?_
          refine lv_iadd hx hb dL_law_196 ?_
          obtain ⟨hin, h⟩ := gd_sp h
          refine va_sld hx hb hX hbl hbA hS hin dL_law_197 ?_
          refine lv_aload_n hx hb dL_law_198 rfl (lv_at hl 0 rfl) ?_
          refine lv_iload_n hx hb dL_law_199 rfl (lv_at hl 3 rfl) ?_
          refine lv_iconst (v := 5) hx hb dL_law_200 (by decide) ?_
          refine lv_iadd hx hb dL_law_201 ?_
          obtain ⟨hin, h⟩ := gd_sp h
          refine va_sld hx hb hX hbl hbA hS hin dL_law_202 ?_
          obtain ⟨r8, hcr8, h⟩ := bn_sp h
          have hPc := va_P_3 (X' := (ws_mainT cI cC cZ cR mm sc sea th th1 th2 th3 th4 th5 th6 th7 th8 th9 pi pia cm cm1 cm2 cm3 pd pda rd rda hh hst sla se mn ln hi wi br sp si le un ul px tm ps ft fk lea upr ris pl tx at_ kd va nx hm pr ad)) hP [0, 1, 2, 3, 4, 5, 6, 7, 8, 9, 10, 11, 12, 13, 14, 15, 16, 17, 18, 19, 20, 21, 22, 23, 24] rfl
          have hDc := va_D_3 (X' := (ws_mainT cI cC cZ cR mm sc sea th th1 th2 th3 th4 th5 th6 th7 th8 th9 pi pia cm cm1 cm2 cm3 pd pda rd rda hh hst sla se mn ln hi wi br sp si le un ul px tm ps ft fk lea upr ris pl tx at_ kd va nx hm pr ad)) hD [0, 1, 2, 3, 4, 5, 6, 7, 8, 9, 10, 11, 12, 13, 14, 15, 16, 17, 18, 19, 20, 21, 22, 23, 24] (by decide) rfl
          have hFc := va_free3 (wc := (ws_mainT cI cC cZ cR mm sc sea th th1 th2 th3 th4 th5 th6 th7 th8 th9 pi pia cm cm1 cm2 cm3 pd pda rd rda hh hst sla se mn ln hi wi br sp si le un ul px tm ps ft fk lea upr ris pl tx at_ kd va nx hm pr ad)) hD hS hA [0, 1, 2, 3, 4, 5, 6, 7, 8, 9, 10, 11, 12, 13, 14, 15, 16, 17, 18, 19, 20, 21, 22, 23, 24] rfl
          refine va_calli (va_runV (As := [.int (xs (v3 + 1 : Int32).toNatClampNeg), .int (xs (v3 + 2 : Int32).toNatClampNeg), .int (xs (v3 + 3 : Int32).toNatClampNeg), .int (xs (v3 + 4 : Int32).toNatClampNeg), .int (xs (v3 + 5 : Int32).toNatClampNeg)]) (rest := []) ⟨hx, hb, hml, hown, hts⟩ (m_X7_thing l D cI cC cZ cR mm sc sea th th1 th2 th3 th4 th5 th6 th7 th8 th9 pi pia cm cm1 cm2 cm3 pd pda rd rda hh hst sla _ se mn ln hi wi br sp si le un ul px tm ps ft fk lea upr ris pl tx at_ kd va nx hm pr ad sv (xs (v3 + 1 : Int32).toNatClampNeg) (xs (v3 + 2 : Int32).toNatClampNeg) (xs (v3 + 3 : Int32).toNatClampNeg) (xs (v3 + 4 : Int32).toNatClampNeg) (xs (v3 + 5 : Int32).toNatClampNeg) s.heap.size r8 hcr8) (cwV 5 hts gL_law_X7_thing rfl rfl rfl (by decide +kernel) ⟨Nat.le_of_ble_eq_true rfl, Nat.le_of_ble_eq_true rfl⟩) (cPcS_pv hPc hK hDc hAb (Nat.le_refl _) hS hstt (ci := 7) (q0 := 0) rfl rfl) rfl rfl hl.1 rfl (lv_room (Nat.le_of_ble_eq_true rfl)) dL_law_203 ⟨by show _ ≤ 600000; omega, by show _ ≤ 7302250; omega⟩) hS (fun q _ h => hFc q h) hFc (fun xq u9 t H1 locs ht hvm hw hB hz1 hk1 hS => ?_)
          rw [hw]
          obtain ⟨hP1, hD1⟩ := hB
          rw [ht] at hP1
          obtain ⟨hP, hD⟩ := jT3 (R := [(sla, .inl (cR, 2, .inr (.inr (.inr (.inr (hfn prs ads)))))), (mo, .inr (8, [.ref mo1, .ref mo2, .int kn, .ref mo3, .ref mo4, .ref mo5, .int le_])), (mo1, .inl (cI, 465, .inl s_)), (mo2, .inl (cI, 2790, .inl past)), (mo3, .inl (cI, 930, .inl slo)), (mo4, .inl (cZ, 2, .inl isv)), (mo5, .inl (cI, 80, .inl pad_))]) (w1 := (ws_mainT cI cC cZ cR mm sc sea th th1 th2 th3 th4 th5 th6 th7 th8 th9 pi pia cm cm1 cm2 cm3 pd pda rd rda hh hst sla se r8.2.2.2.1 r8.2.2.2.2.1 r8.2.2.2.2.2.1 r8.2.2.2.2.2.2.1 r8.2.2.2.2.2.2.2.1 r8.2.2.2.2.2.2.2.2.1 r8.2.2.2.2.2.2.2.2.2.1 r8.2.2.2.2.2.2.2.2.2.2.1 r8.2.2.2.2.2.2.2.2.2.2.2.1 r8.2.2.2.2.2.2.2.2.2.2.2.2.1 px tm ps ft fk lea upr ris pl tx at_ kd va r8.2.2.2.2.2.2.2.2.2.2.2.2.2.1 r8.2.2.2.2.2.2.2.2.2.2.2.2.2.2 r8.2.1 u9)) hP hD [0, 1, 2, 3, 4, 5, 6, 7, 8, 9, 10, 11, 12, 13, 14, 15, 16, 17, 18, 19, 20, 21, 22, 23, 24] [25, 26, 27, 28, 29, 30, 31] rfl rfl (by decide) (by decide) hk1 hFc hP1 hD1
          have hP := va_P_subT (X' := (ws_law cI cC cZ cR mm sc sea th th1 th2 th3 th4 th5 th6 th7 th8 th9 pi pia cm cm1 cm2 cm3 pd pda rd rda hh hst sla mo mo1 mo2 mo3 mo4 mo5 se r8.2.2.2.1 r8.2.2.2.2.1 r8.2.2.2.2.2.1 r8.2.2.2.2.2.2.1 r8.2.2.2.2.2.2.2.1 r8.2.2.2.2.2.2.2.2.1 r8.2.2.2.2.2.2.2.2.2.1 r8.2.2.2.2.2.2.2.2.2.2.1 r8.2.2.2.2.2.2.2.2.2.2.2.1 r8.2.2.2.2.2.2.2.2.2.2.2.2.1 px tm ps ft fk lea upr ris pl tx at_ kd va r8.2.2.2.2.2.2.2.2.2.2.2.2.2.1 r8.2.2.2.2.2.2.2.2.2.2.2.2.2.2 kn le_ s_ past slo isv pad_ r8.2.1 u9 prs ads)) hP [7, 8, 9, 10, 11, 12, 13, 14, 15, 16, 17, 18, 19, 20, 21, 22, 23, 24, 25, 26, 27, 28, 29, 30, 31, 0, 1, 2, 3, 4, 5, 6] rfl
          have hD := va_D_subT (X' := (ws_law cI cC cZ cR mm sc sea th th1 th2 th3 th4 th5 th6 th7 th8 th9 pi pia cm cm1 cm2 cm3 pd pda rd rda hh hst sla mo mo1 mo2 mo3 mo4 mo5 se r8.2.2.2.1 r8.2.2.2.2.1 r8.2.2.2.2.2.1 r8.2.2.2.2.2.2.1 r8.2.2.2.2.2.2.2.1 r8.2.2.2.2.2.2.2.2.1 r8.2.2.2.2.2.2.2.2.2.1 r8.2.2.2.2.2.2.2.2.2.2.1 r8.2.2.2.2.2.2.2.2.2.2.2.1 r8.2.2.2.2.2.2.2.2.2.2.2.2.1 px tm ps ft fk lea upr ris pl tx at_ kd va r8.2.2.2.2.2.2.2.2.2.2.2.2.2.1 r8.2.2.2.2.2.2.2.2.2.2.2.2.2.2 kn le_ s_ past slo isv pad_ r8.2.1 u9 prs ads)) hD [7, 8, 9, 10, 11, 12, 13, 14, 15, 16, 17, 18, 19, 20, 21, 22, 23, 24, 25, 26, 27, 28, 29, 30, 31, 0, 1, 2, 3, 4, 5, 6] (by decide) rfl
          generalize H1 = H at hP hS ⊢
          refine lv_aload_n hx hb dL_law_206 rfl (lv_at hl 2 rfl) ?_
          refine lv_aload_n hx hb dL_law_207 rfl (lv_at hl 0 rfl) ?_
          refine lv_iload_n hx hb dL_law_208 rfl (lv_at hl 3 rfl) ?_
          refine lv_iconst (v := 1) hx hb dL_law_209 (by decide) ?_
          refine lv_iadd hx hb dL_law_210 ?_
          obtain ⟨hin, h⟩ := gd_sp h
          refine va_sld hx hb hX hbl hbA hS hin dL_law_211 ?_
          refine lv_aload_n hx hb dL_law_212 rfl (lv_at hl 0 rfl) ?_
          refine lv_iload_n hx hb dL_law_213 rfl (lv_at hl 3 rfl) ?_
          refine lv_iconst (v := 2) hx hb dL_law_214 (by decide) ?_
          refine lv_iadd hx hb dL_law_215 ?_
          obtain ⟨hin, h⟩ := gd_sp h
          refine va_sld hx hb hX hbl hbA hS hin dL_law_216 ?_
          refine lv_aload_n hx hb dL_law_217 rfl (lv_at hl 0 rfl) ?_
          refine lv_iload_n hx hb dL_law_218 rfl (lv_at hl 3 rfl) ?_
          refine lv_iconst (v := 3) hx hb dL_law_219 (by decide) ?_
          refine lv_iadd hx hb dL_law_220 ?_
          obtain ⟨hin, h⟩ := gd_sp h
          refine va_sld hx hb hX hbl hbA hS hin dL_law_221 ?_
          refine lv_aload_n hx hb dL_law_222 rfl (lv_at hl 0 rfl) ?_
          refine lv_iload_n hx hb dL_law_223 rfl (lv_at hl 3 rfl) ?_
          refine lv_iconst (v := 4) hx hb dL_law_224 (by decide) ?_
          refine lv_iadd hx hb dL_law_225 ?_
          obtain ⟨hin, h⟩ := gd_sp h
          refine va_sld hx hb hX hbl hbA hS hin dL_law_226 ?_
          refine lv_aload_n hx hb dL_law_227 rfl (lv_at hl 0 rfl) ?_
          refine lv_iload_n hx hb dL_law_228 rfl (lv_at hl 3 rfl) ?_
          refine lv_iconst (v := 5) hx hb dL_law_229 (by decide) ?_
          refine lv_iadd hx hb dL_law_230 ?_
          obtain ⟨hin, h⟩ := gd_sp h
          refine va_sld hx hb hX hbl hbA hS hin dL_law_231 ?_
          obtain ⟨r10, hcr10, h⟩ := bn_sp h
          have hPc := hP.sub (ws' := (ws_model cI cC cZ cR mo mo1 mo2 mo3 mo4 mo5 kn le_ s_ past slo isv pad_)) [26, 27, 28, 29, 30, 31] rfl
          have hDc := hD.sub (ws' := (ws_model cI cC cZ cR mo mo1 mo2 mo3 mo4 mo5 kn le_ s_ past slo isv pad_)) [26, 27, 28, 29, 30, 31] (by decide) rfl
          have hFc := va_free (wc := (ws_model cI cC cZ cR mo mo1 mo2 mo3 mo4 mo5 kn le_ s_ past slo isv pad_)) hD hS hA [26, 27, 28, 29, 30, 31] rfl
          refine va_calli (va_runV (As := [.int (xs (v3 + 1 : Int32).toNatClampNeg), .int (xs (v3 + 2 : Int32).toNatClampNeg), .int (xs (v3 + 3 : Int32).toNatClampNeg), .int (xs (v3 + 4 : Int32).toNatClampNeg), .int (xs (v3 + 5 : Int32).toNatClampNeg)]) (rest := [.int r8.1]) ⟨hx, hb, hml, hown, hts⟩ (m_X8_thing l D cI cC cZ cR mo mo1 mo2 mo3 mo4 mo5 _ kn le_ s_ past slo isv pad_ (xs (v3 + 1 : Int32).toNatClampNeg) (xs (v3 + 2 : Int32).toNatClampNeg) (xs (v3 + 3 : Int32).toNatClampNeg) (xs (v3 + 4 : Int32).toNatClampNeg) (xs (v3 + 5 : Int32).toNatClampNeg) r10 hcr10) (cwV 5 hts gL_law_X8_thing rfl rfl rfl (by decide +kernel) ⟨Nat.le_of_ble_eq_true rfl, Nat.le_of_ble_eq_true rfl⟩) (cPc_pv hPc hK hDc (ci := 8) (q0 := 0) rfl rfl) rfl rfl hl.1 rfl (lv_room (Nat.le_of_ble_eq_true rfl)) dL_law_232 ⟨by show _ ≤ 600000; omega, by show _ ≤ 7302250; omega⟩) hS (fun q _ h => hFc q h) hFc (fun xq u t H1 locs ht hvm hw hB hz1 hk1 hS => ?_)
          rw [hw]
          obtain ⟨hP1, hD1⟩ := hB
          rw [ht] at hP1
          obtain ⟨hP, hD⟩ := jT1 (R := [(mm, .inr (7, [.ref sc, .ref cm, .ref hh, .ref sla, .ref pd, .ref rd])), (sc, .inr (5, [.ref sea, .ref th, .ref pi, .int tm, .int ps, .int ft, .int fk])), (sea, .inl (cI, 4, .inl se)), (th, .inr (6, [.int r8.2.2.2.1, .ref th1, .ref th2, .ref th3, .ref th4, .ref th5, .ref th6, .ref th7, .ref th8, .ref th9])), (th1, .inl (cI, 8, .inl r8.2.2.2.2.1)), (th2, .inl (cI, 8, .inl r8.2.2.2.2.2.1)), (th3, .inl (cI, 8, .inl r8.2.2.2.2.2.2.1)), (th4, .inl (cI, 8, .inl r8.2.2.2.2.2.2.2.1)), (th5, .inl (cI, 8, .inl r8.2.2.2.2.2.2.2.2.1)), (th6, .inl (cI, 8, .inl r8.2.2.2.2.2.2.2.2.2.1)), (th7, .inl (cI, 8, .inl r8.2.2.2.2.2.2.2.2.2.2.1)), (th8, .inl (cI, 8, .inl r8.2.2.2.2.2.2.2.2.2.2.2.1)), (th9, .inl (cI, 8, .inl r8.2.2.2.2.2.2.2.2.2.2.2.2.1)), (pi, .inr (3, [.ref pia])), (pia, .inl (cI, 384, .inl px)), (cm, .inr (0, [.ref cm1, .ref cm2, .ref cm3])), (cm1, .inl (cI, 24, .inl lea)), (cm2, .inl (cI, 24, .inl upr)), (cm3, .inl (cI, 25, .inl ris)), (pd, .inr (2, [.ref pda, .int pl])), (pda, .inl (cC, 80, .inl tx)), (rd, .inr (4, [.ref pd, .int at_, .int kd, .ref rda])), (rda, .inl (cI, 7, .inl va)), (hh, .inr (1, [.ref hst, .int r8.2.2.2.2.2.2.2.2.2.2.2.2.2.1, .int r8.2.2.2.2.2.2.2.2.2.2.2.2.2.2])), (hst, .inl (cR, 6, .inr (.inr (.inr (.inr (hfn r8.2.1 u9)))))), (sla, .inl (cR, 2, .inr (.inr (.inr (.inr (hfn prs ads))))))]) (w1 := (ws_model cI cC cZ cR mo mo1 mo2 mo3 mo4 mo5 r10.2.1 le_ r10.2.2.1 r10.2.2.2 slo isv pad_)) hP hD [26, 27, 28, 29, 30, 31] [0, 1, 2, 3, 4, 5, 6, 7, 8, 9, 10, 11, 12, 13, 14, 15, 16, 17, 18, 19, 20, 21, 22, 23, 24, 25] rfl rfl (by decide) (by decide) hk1 hFc hP1 hD1
          have hP := va_P_subT (X' := (ws_law cI cC cZ cR mm sc sea th th1 th2 th3 th4 th5 th6 th7 th8 th9 pi pia cm cm1 cm2 cm3 pd pda rd rda hh hst sla mo mo1 mo2 mo3 mo4 mo5 se r8.2.2.2.1 r8.2.2.2.2.1 r8.2.2.2.2.2.1 r8.2.2.2.2.2.2.1 r8.2.2.2.2.2.2.2.1 r8.2.2.2.2.2.2.2.2.1 r8.2.2.2.2.2.2.2.2.2.1 r8.2.2.2.2.2.2.2.2.2.2.1 r8.2.2.2.2.2.2.2.2.2.2.2.1 r8.2.2.2.2.2.2.2.2.2.2.2.2.1 px tm ps ft fk lea upr ris pl tx at_ kd va r8.2.2.2.2.2.2.2.2.2.2.2.2.2.1 r8.2.2.2.2.2.2.2.2.2.2.2.2.2.2 r10.2.1 le_ r10.2.2.1 r10.2.2.2 slo isv pad_ r8.2.1 u9 prs ads)) hP [0, 1, 2, 3, 4, 5, 6, 7, 8, 9, 10, 11, 12, 13, 14, 15, 16, 17, 18, 19, 20, 21, 22, 23, 24, 25, 26, 27, 28, 29, 30, 31] rfl
          have hD := va_D_subT (X' := (ws_law cI cC cZ cR mm sc sea th th1 th2 th3 th4 th5 th6 th7 th8 th9 pi pia cm cm1 cm2 cm3 pd pda rd rda hh hst sla mo mo1 mo2 mo3 mo4 mo5 se r8.2.2.2.1 r8.2.2.2.2.1 r8.2.2.2.2.2.1 r8.2.2.2.2.2.2.1 r8.2.2.2.2.2.2.2.1 r8.2.2.2.2.2.2.2.2.1 r8.2.2.2.2.2.2.2.2.2.1 r8.2.2.2.2.2.2.2.2.2.2.1 r8.2.2.2.2.2.2.2.2.2.2.2.1 r8.2.2.2.2.2.2.2.2.2.2.2.2.1 px tm ps ft fk lea upr ris pl tx at_ kd va r8.2.2.2.2.2.2.2.2.2.2.2.2.2.1 r8.2.2.2.2.2.2.2.2.2.2.2.2.2.2 r10.2.1 le_ r10.2.2.1 r10.2.2.2 slo isv pad_ r8.2.1 u9 prs ads)) hD [0, 1, 2, 3, 4, 5, 6, 7, 8, 9, 10, 11, 12, 13, 14, 15, 16, 17, 18, 19, 20, 21, 22, 23, 24, 25, 26, 27, 28, 29, 30, 31] (by decide) rfl
          generalize H1 = H at hP hS ⊢
          refine lv_icmp_eq (tgt := 806) hx hb dL_law_235 (by decide) (fun c11 => ?_) (fun c11 => ?_)
          · replace h := br_p c11 h
            obtain ⟨x12, ex12, h⟩ := bd_sp h
            refine lv_iinc (v := x12) (lv' := [(3, .int x12), (0, .ref b), (1, .ref mm), (2, .ref mo)]) hx hb dL_law_806 hl (k := 3) rfl (by rw [ex12]; rfl) (by decide) rfl (fun ls hl => ?_)
            refine lv_goto (tgt := 18) hx hb dL_law_809 (by decide) ?_
            exact ih x12 se r8.2.2.2.1 r8.2.2.2.2.1 r8.2.2.2.2.2.1 r8.2.2.2.2.2.2.1 r8.2.2.2.2.2.2.2.1 r8.2.2.2.2.2.2.2.2.1 r8.2.2.2.2.2.2.2.2.2.1 r8.2.2.2.2.2.2.2.2.2.2.1 r8.2.2.2.2.2.2.2.2.2.2.2.1 r8.2.2.2.2.2.2.2.2.2.2.2.2.1 px tm ps ft fk lea upr ris pl tx at_ kd va r8.2.2.2.2.2.2.2.2.2.2.2.2.2.1 r8.2.2.2.2.2.2.2.2.2.2.2.2.2.2 r8.2.1 r8.2.2.1 prs svs r10.2.1 le_ r10.2.2.1 r10.2.2.2 slo isv pad_ u9 ads _ _ _ _ _ h (by omega) (by omega) hP hD hS (lv_sub hl [1, 2, 3, 0] rfl)
          · replace h := br_n c11 h
            exact no_sm h
        · replace h := br_n c13 h
          by_cases c19 : z1 = 2
          · replace h := br_p c19 h
            refine lv_tableIn (tgt := 240) hx hb dL_law_33 (by rw [c19]; decide) (by rw [c19]; decide) (by rw [c19]; rfl) (by decide) ?_
            refine lv_aload_n hx hb dL_law_240 rfl (lv_at hl 1 rfl) ?_
            refine lv_aload_n hx hb dL_law_241 rfl (lv_at hl 0 rfl) ?_
            refine lv_iload_n hx hb dL_law_242 rfl (lv_at hl 3 rfl) ?_
            refine lv_iconst (v := 1) hx hb dL_law_243 (by decide) ?_
            refine lv_iadd hx hb dL_law_244 ?_
            obtain ⟨hin, h⟩ := gd_sp h
            refine va_sld hx hb hX hbl hbA hS hin dL_law_245 ?_
            refine lv_aload_n hx hb dL_law_246 rfl (lv_at hl 0 rfl) ?_
            refine lv_iload_n hx hb dL_law_247 rfl (lv_at hl 3 rfl) ?_
            refine lv_iconst (v := 2) hx hb dL_law_248 (by decide) ?_
            refine lv_iadd hx hb dL_law_249 ?_
            obtain ⟨hin, h⟩ := gd_sp h
            refine va_sld hx hb hX hbl hbA hS hin dL_law_250 ?_
            obtain ⟨r14, hcr14, h⟩ := bn_sp h
            have hPc := va_P_3 (X' := (ws_mainT cI cC cZ cR mm sc sea th th1 th2 th3 th4 th5 th6 th7 th8 th9 pi pia cm cm1 cm2 cm3 pd pda rd rda hh hst sla se mn ln hi wi br sp si le un ul px tm ps ft fk lea upr ris pl tx at_ kd va nx hm pr ad)) hP [0, 1, 2, 3, 4, 5, 6, 7, 8, 9, 10, 11, 12, 13, 14, 15, 16, 17, 18, 19, 20, 21, 22, 23, 24] rfl
            have hDc := va_D_3 (X' := (ws_mainT cI cC cZ cR mm sc sea th th1 th2 th3 th4 th5 th6 th7 th8 th9 pi pia cm cm1 cm2 cm3 pd pda rd rda hh hst sla se mn ln hi wi br sp si le un ul px tm ps ft fk lea upr ris pl tx at_ kd va nx hm pr ad)) hD [0, 1, 2, 3, 4, 5, 6, 7, 8, 9, 10, 11, 12, 13, 14, 15, 16, 17, 18, 19, 20, 21, 22, 23, 24] (by decide) rfl
            have hFc := va_free3 (wc := (ws_mainT cI cC cZ cR mm sc sea th th1 th2 th3 th4 th5 th6 th7 th8 th9 pi pia cm cm1 cm2 cm3 pd pda rd rda hh hst sla se mn ln hi wi br sp si le un ul px tm ps ft fk lea upr ris pl tx at_ kd va nx hm pr ad)) hD hS hA [0, 1, 2, 3, 4, 5, 6, 7, 8, 9, 10, 11, 12, 13, 14, 15, 16, 17, 18, 19, 20, 21, 22, 23, 24] rfl
            refine va_calli (va_runV (As := [.int (xs (v3 + 1 : Int32).toNatClampNeg), .int (xs (v3 + 2 : Int32).toNatClampNeg)]) (rest := []) ⟨hx, hb, hml, hown, hts⟩ (m_X7_speed l D cI cC cZ cR mm sc sea th th1 th2 th3 th4 th5 th6 th7 th8 th9 pi pia cm cm1 cm2 cm3 pd pda rd rda hh hst sla _ se mn ln hi wi br sp si le un ul px tm ps ft fk lea upr ris pl tx at_ kd va nx hm pr ad sv (xs (v3 + 1 : Int32).toNatClampNeg) (xs (v3 + 2 : Int32).toNatClampNeg) s.heap.size r14 hcr14) (cwV 2 hts gL_law_X7_speed rfl rfl rfl (by decide +kernel) ⟨Nat.le_of_ble_eq_true rfl, Nat.le_of_ble_eq_true rfl⟩) (cPcS_pv hPc hK hDc hAb (Nat.le_refl _) hS hstt (ci := 7) (q0 := 0) rfl rfl) rfl rfl hl.1 rfl (lv_room (Nat.le_of_ble_eq_true rfl)) dL_law_251 ⟨by show _ ≤ 600000; omega, by show _ ≤ 7302250; omega⟩) hS (fun q _ h => hFc q h) hFc (fun xq u15 t H1 locs ht hvm hw hB hz1 hk1 hS => ?_)
            rw [hw]
            obtain ⟨hP1, hD1⟩ := hB
            rw [ht] at hP1
            obtain ⟨hP, hD⟩ := jT3 (R := [(sla, .inl (cR, 2, .inr (.inr (.inr (.inr (hfn prs ads)))))), (mo, .inr (8, [.ref mo1, .ref mo2, .int kn, .ref mo3, .ref mo4, .ref mo5, .int le_])), (mo1, .inl (cI, 465, .inl s_)), (mo2, .inl (cI, 2790, .inl past)), (mo3, .inl (cI, 930, .inl slo)), (mo4, .inl (cZ, 2, .inl isv)), (mo5, .inl (cI, 80, .inl pad_))]) (w1 := (ws_mainT cI cC cZ cR mm sc sea th th1 th2 th3 th4 th5 th6 th7 th8 th9 pi pia cm cm1 cm2 cm3 pd pda rd rda hh hst sla se mn ln hi wi br r14.2.2.2.1 r14.2.2.2.2.1 r14.2.2.2.2.2.1 r14.2.2.2.2.2.2.1 r14.2.2.2.2.2.2.2.1 px tm ps ft fk lea upr ris pl tx at_ kd va r14.2.2.2.2.2.2.2.2.1 r14.2.2.2.2.2.2.2.2.2 r14.2.1 u15)) hP hD [0, 1, 2, 3, 4, 5, 6, 7, 8, 9, 10, 11, 12, 13, 14, 15, 16, 17, 18, 19, 20, 21, 22, 23, 24] [25, 26, 27, 28, 29, 30, 31] rfl rfl (by decide) (by decide) hk1 hFc hP1 hD1
            have hP := va_P_subT (X' := (ws_law cI cC cZ cR mm sc sea th th1 th2 th3 th4 th5 th6 th7 th8 th9 pi pia cm cm1 cm2 cm3 pd pda rd rda hh hst sla mo mo1 mo2 mo3 mo4 mo5 se mn ln hi wi br r14.2.2.2.1 r14.2.2.2.2.1 r14.2.2.2.2.2.1 r14.2.2.2.2.2.2.1 r14.2.2.2.2.2.2.2.1 px tm ps ft fk lea upr ris pl tx at_ kd va r14.2.2.2.2.2.2.2.2.1 r14.2.2.2.2.2.2.2.2.2 kn le_ s_ past slo isv pad_ r14.2.1 u15 prs ads)) hP [7, 8, 9, 10, 11, 12, 13, 14, 15, 16, 17, 18, 19, 20, 21, 22, 23, 24, 25, 26, 27, 28, 29, 30, 31, 0, 1, 2, 3, 4, 5, 6] rfl
            have hD := va_D_subT (X' := (ws_law cI cC cZ cR mm sc sea th th1 th2 th3 th4 th5 th6 th7 th8 th9 pi pia cm cm1 cm2 cm3 pd pda rd rda hh hst sla mo mo1 mo2 mo3 mo4 mo5 se mn ln hi wi br r14.2.2.2.1 r14.2.2.2.2.1 r14.2.2.2.2.2.1 r14.2.2.2.2.2.2.1 r14.2.2.2.2.2.2.2.1 px tm ps ft fk lea upr ris pl tx at_ kd va r14.2.2.2.2.2.2.2.2.1 r14.2.2.2.2.2.2.2.2.2 kn le_ s_ past slo isv pad_ r14.2.1 u15 prs ads)) hD [7, 8, 9, 10, 11, 12, 13, 14, 15, 16, 17, 18, 19, 20, 21, 22, 23, 24, 25, 26, 27, 28, 29, 30, 31, 0, 1, 2, 3, 4, 5, 6] (by decide) rfl
            generalize H1 = H at hP hS ⊢
            refine lv_aload_n hx hb dL_law_254 rfl (lv_at hl 2 rfl) ?_
            refine lv_aload_n hx hb dL_law_255 rfl (lv_at hl 0 rfl) ?_
            refine lv_iload_n hx hb dL_law_256 rfl (lv_at hl 3 rfl) ?_
            refine lv_iconst (v := 1) hx hb dL_law_257 (by decide) ?_
            refine lv_iadd hx hb dL_law_258 ?_
            obtain ⟨hin, h⟩ := gd_sp h
            refine va_sld hx hb hX hbl hbA hS hin dL_law_259 ?_
            refine lv_aload_n hx hb dL_law_260 rfl (lv_at hl 0 rfl) ?_
            refine lv_iload_n hx hb dL_law_261 rfl (lv_at hl 3 rfl) ?_
            refine lv_iconst (v := 2) hx hb dL_law_262 (by decide) ?_
            refine lv_iadd hx hb dL_law_263 ?_
            obtain ⟨hin, h⟩ := gd_sp h
            refine va_sld hx hb hX hbl hbA hS hin dL_law_264 ?_
            obtain ⟨r16, hcr16, h⟩ := bn_sp h
            have hPc := hP.sub (ws' := (ws_model cI cC cZ cR mo mo1 mo2 mo3 mo4 mo5 kn le_ s_ past slo isv pad_)) [26, 27, 28, 29, 30, 31] rfl
            have hDc := hD.sub (ws' := (ws_model cI cC cZ cR mo mo1 mo2 mo3 mo4 mo5 kn le_ s_ past slo isv pad_)) [26, 27, 28, 29, 30, 31] (by decide) rfl
            have hFc := va_free (wc := (ws_model cI cC cZ cR mo mo1 mo2 mo3 mo4 mo5 kn le_ s_ past slo isv pad_)) hD hS hA [26, 27, 28, 29, 30, 31] rfl
            refine va_calli (va_runV (As := [.int (xs (v3 + 1 : Int32).toNatClampNeg), .int (xs (v3 + 2 : Int32).toNatClampNeg)]) (rest := [.int r14.1]) ⟨hx, hb, hml, hown, hts⟩ (m_X8_speed l D cI cC cZ cR mo mo1 mo2 mo3 mo4 mo5 _ kn le_ s_ past slo isv pad_ (xs (v3 + 1 : Int32).toNatClampNeg) (xs (v3 + 2 : Int32).toNatClampNeg) r16 hcr16) (cwV 2 hts gL_law_X8_speed rfl rfl rfl (by decide +kernel) ⟨Nat.le_of_ble_eq_true rfl, Nat.le_of_ble_eq_true rfl⟩) (cPc_pv hPc hK hDc (ci := 8) (q0 := 0) rfl rfl) rfl rfl hl.1 rfl (lv_room (Nat.le_of_ble_eq_true rfl)) dL_law_265 ⟨by show _ ≤ 600000; omega, by show _ ≤ 7302250; omega⟩) hS (fun q _ h => hFc q h) hFc (fun xq u t H1 locs ht hvm hw hB hz1 hk1 hS => ?_)
            rw [hw]
            obtain ⟨hP1, hD1⟩ := hB
            rw [ht] at hP1
            obtain ⟨hP, hD⟩ := jT1 (R := [(mm, .inr (7, [.ref sc, .ref cm, .ref hh, .ref sla, .ref pd, .ref rd])), (sc, .inr (5, [.ref sea, .ref th, .ref pi, .int tm, .int ps, .int ft, .int fk])), (sea, .inl (cI, 4, .inl se)), (th, .inr (6, [.int mn, .ref th1, .ref th2, .ref th3, .ref th4, .ref th5, .ref th6, .ref th7, .ref th8, .ref th9])), (th1, .inl (cI, 8, .inl ln)), (th2, .inl (cI, 8, .inl hi)), (th3, .inl (cI, 8, .inl wi)), (th4, .inl (cI, 8, .inl br)), (th5, .inl (cI, 8, .inl r14.2.2.2.1)), (th6, .inl (cI, 8, .inl r14.2.2.2.2.1)), (th7, .inl (cI, 8, .inl r14.2.2.2.2.2.1)), (th8, .inl (cI, 8, .inl r14.2.2.2.2.2.2.1)), (th9, .inl (cI, 8, .inl r14.2.2.2.2.2.2.2.1)), (pi, .inr (3, [.ref pia])), (pia, .inl (cI, 384, .inl px)), (cm, .inr (0, [.ref cm1, .ref cm2, .ref cm3])), (cm1, .inl (cI, 24, .inl lea)), (cm2, .inl (cI, 24, .inl upr)), (cm3, .inl (cI, 25, .inl ris)), (pd, .inr (2, [.ref pda, .int pl])), (pda, .inl (cC, 80, .inl tx)), (rd, .inr (4, [.ref pd, .int at_, .int kd, .ref rda])), (rda, .inl (cI, 7, .inl va)), (hh, .inr (1, [.ref hst, .int r14.2.2.2.2.2.2.2.2.1, .int r14.2.2.2.2.2.2.2.2.2])), (hst, .inl (cR, 6, .inr (.inr (.inr (.inr (hfn r14.2.1 u15)))))), (sla, .inl (cR, 2, .inr (.inr (.inr (.inr (hfn prs ads))))))]) (w1 := (ws_model cI cC cZ cR mo mo1 mo2 mo3 mo4 mo5 r16.2.1 le_ r16.2.2.1 r16.2.2.2 slo isv pad_)) hP hD [26, 27, 28, 29, 30, 31] [0, 1, 2, 3, 4, 5, 6, 7, 8, 9, 10, 11, 12, 13, 14, 15, 16, 17, 18, 19, 20, 21, 22, 23, 24, 25] rfl rfl (by decide) (by decide) hk1 hFc hP1 hD1
            have hP := va_P_subT (X' := (ws_law cI cC cZ cR mm sc sea th th1 th2 th3 th4 th5 th6 th7 th8 th9 pi pia cm cm1 cm2 cm3 pd pda rd rda hh hst sla mo mo1 mo2 mo3 mo4 mo5 se mn ln hi wi br r14.2.2.2.1 r14.2.2.2.2.1 r14.2.2.2.2.2.1 r14.2.2.2.2.2.2.1 r14.2.2.2.2.2.2.2.1 px tm ps ft fk lea upr ris pl tx at_ kd va r14.2.2.2.2.2.2.2.2.1 r14.2.2.2.2.2.2.2.2.2 r16.2.1 le_ r16.2.2.1 r16.2.2.2 slo isv pad_ r14.2.1 u15 prs ads)) hP [0, 1, 2, 3, 4, 5, 6, 7, 8, 9, 10, 11, 12, 13, 14, 15, 16, 17, 18, 19, 20, 21, 22, 23, 24, 25, 26, 27, 28, 29, 30, 31] rfl
            have hD := va_D_subT (X' := (ws_law cI cC cZ cR mm sc sea th th1 th2 th3 th4 th5 th6 th7 th8 th9 pi pia cm cm1 cm2 cm3 pd pda rd rda hh hst sla mo mo1 mo2 mo3 mo4 mo5 se mn ln hi wi br r14.2.2.2.1 r14.2.2.2.2.1 r14.2.2.2.2.2.1 r14.2.2.2.2.2.2.1 r14.2.2.2.2.2.2.2.1 px tm ps ft fk lea upr ris pl tx at_ kd va r14.2.2.2.2.2.2.2.2.1 r14.2.2.2.2.2.2.2.2.2 r16.2.1 le_ r16.2.2.1 r16.2.2.2 slo isv pad_ r14.2.1 u15 prs ads)) hD [0, 1, 2, 3, 4, 5, 6, 7, 8, 9, 10, 11, 12, 13, 14, 15, 16, 17, 18, 19, 20, 21, 22, 23, 24, 25, 26, 27, 28, 29, 30, 31] (by decide) rfl
            generalize H1 = H at hP hS ⊢
            refine lv_icmp_eq (tgt := 806) hx hb dL_law_268 (by decide) (fun c17 => ?_) (fun c17 => ?_)
            · replace h := br_p c17 h
              obtain ⟨x18, ex18, h⟩ := bd_sp h
              refine lv_iinc (v := x18) (lv' := [(3, .int x18), (0, .ref b), (1, .ref mm), (2, .ref mo)]) hx hb dL_law_806 hl (k := 3) rfl (by rw [ex18]; rfl) (by decide) rfl (fun ls hl => ?_)
              refine lv_goto (tgt := 18) hx hb dL_law_809 (by decide) ?_
              exact ih x18 se mn ln hi wi br r14.2.2.2.1 r14.2.2.2.2.1 r14.2.2.2.2.2.1 r14.2.2.2.2.2.2.1 r14.2.2.2.2.2.2.2.1 px tm ps ft fk lea upr ris pl tx at_ kd va r14.2.2.2.2.2.2.2.2.1 r14.2.2.2.2.2.2.2.2.2 r14.2.1 r14.2.2.1 prs svs r16.2.1 le_ r16.2.2.1 r16.2.2.2 slo isv pad_ u15 ads _ _ _ _ _ h (by omega) (by omega) hP hD hS (lv_sub hl [1, 2, 3, 0] rfl)
            · replace h := br_n c17 h
              exact no_sm h
          · replace h := br_n c19 h
            by_cases c25 : z1 = 3
            · replace h := br_p c25 h
              refine lv_tableIn (tgt := 273) hx hb dL_law_33 (by rw [c25]; decide) (by rw [c25]; decide) (by rw [c25]; rfl) (by decide) ?_
              refine lv_aload_n hx hb dL_law_273 rfl (lv_at hl 1 rfl) ?_
              refine lv_aload_n hx hb dL_law_274 rfl (lv_at hl 0 rfl) ?_
              refine lv_iload_n hx hb dL_law_275 rfl (lv_at hl 3 rfl) ?_
              refine lv_iconst (v := 1) hx hb dL_law_276 (by decide) ?_
              refine lv_iadd hx hb dL_law_277 ?_
              obtain ⟨hin, h⟩ := gd_sp h
              refine va_sld hx hb hX hbl hbA hS hin dL_law_278 ?_
              refine lv_aload_n hx hb dL_law_279 rfl (lv_at hl 0 rfl) ?_
              refine lv_iload_n hx hb dL_law_280 rfl (lv_at hl 3 rfl) ?_
              refine lv_iconst (v := 2) hx hb dL_law_281 (by decide) ?_
              refine lv_iadd hx hb dL_law_282 ?_
              obtain ⟨hin, h⟩ := gd_sp h
              refine va_sld hx hb hX hbl hbA hS hin dL_law_283 ?_
              obtain ⟨r20, hcr20, h⟩ := bn_sp h
              have hPc := va_P_3 (X' := (ws_mainT cI cC cZ cR mm sc sea th th1 th2 th3 th4 th5 th6 th7 th8 th9 pi pia cm cm1 cm2 cm3 pd pda rd rda hh hst sla se mn ln hi wi br sp si le un ul px tm ps ft fk lea upr ris pl tx at_ kd va nx hm pr ad)) hP [0, 1, 2, 3, 4, 5, 6, 7, 8, 9, 10, 11, 12, 13, 14, 15, 16, 17, 18, 19, 20, 21, 22, 23, 24] rfl
              have hDc := va_D_3 (X' := (ws_mainT cI cC cZ cR mm sc sea th th1 th2 th3 th4 th5 th6 th7 th8 th9 pi pia cm cm1 cm2 cm3 pd pda rd rda hh hst sla se mn ln hi wi br sp si le un ul px tm ps ft fk lea upr ris pl tx at_ kd va nx hm pr ad)) hD [0, 1, 2, 3, 4, 5, 6, 7, 8, 9, 10, 11, 12, 13, 14, 15, 16, 17, 18, 19, 20, 21, 22, 23, 24] (by decide) rfl
              have hFc := va_free3 (wc := (ws_mainT cI cC cZ cR mm sc sea th th1 th2 th3 th4 th5 th6 th7 th8 th9 pi pia cm cm1 cm2 cm3 pd pda rd rda hh hst sla se mn ln hi wi br sp si le un ul px tm ps ft fk lea upr ris pl tx at_ kd va nx hm pr ad)) hD hS hA [0, 1, 2, 3, 4, 5, 6, 7, 8, 9, 10, 11, 12, 13, 14, 15, 16, 17, 18, 19, 20, 21, 22, 23, 24] rfl
              refine va_calli (va_runV (As := [.int (xs (v3 + 1 : Int32).toNatClampNeg), .int (xs (v3 + 2 : Int32).toNatClampNeg)]) (rest := []) ⟨hx, hb, hml, hown, hts⟩ (m_X7_ride l D cI cC cZ cR mm sc sea th th1 th2 th3 th4 th5 th6 th7 th8 th9 pi pia cm cm1 cm2 cm3 pd pda rd rda hh hst sla _ se mn ln hi wi br sp si le un ul px tm ps ft fk lea upr ris pl tx at_ kd va nx hm pr ad sv (xs (v3 + 1 : Int32).toNatClampNeg) (xs (v3 + 2 : Int32).toNatClampNeg) s.heap.size r20 hcr20) (cwV 2 hts gL_law_X7_ride rfl rfl rfl (by decide +kernel) ⟨Nat.le_of_ble_eq_true rfl, Nat.le_of_ble_eq_true rfl⟩) (cPcS_pv hPc hK hDc hAb (Nat.le_refl _) hS hstt (ci := 7) (q0 := 0) rfl rfl) rfl rfl hl.1 rfl (lv_room (Nat.le_of_ble_eq_true rfl)) dL_law_284 ⟨by show _ ≤ 600000; omega, by show _ ≤ 7302250; omega⟩) hS (fun q _ h => hFc q h) hFc (fun xq u21 t H1 locs ht hvm hw hB hz1 hk1 hS => ?_)
              rw [hw]
              obtain ⟨hP1, hD1⟩ := hB
              rw [ht] at hP1
              obtain ⟨hP, hD⟩ := jT3 (R := [(sla, .inl (cR, 2, .inr (.inr (.inr (.inr (hfn prs ads)))))), (mo, .inr (8, [.ref mo1, .ref mo2, .int kn, .ref mo3, .ref mo4, .ref mo5, .int le_])), (mo1, .inl (cI, 465, .inl s_)), (mo2, .inl (cI, 2790, .inl past)), (mo3, .inl (cI, 930, .inl slo)), (mo4, .inl (cZ, 2, .inl isv)), (mo5, .inl (cI, 80, .inl pad_))]) (w1 := (ws_mainT cI cC cZ cR mm sc sea th th1 th2 th3 th4 th5 th6 th7 th8 th9 pi pia cm cm1 cm2 cm3 pd pda rd rda hh hst sla se mn ln hi wi br r20.2.2.2.1 r20.2.2.2.2.1 r20.2.2.2.2.2.1 r20.2.2.2.2.2.2.1 r20.2.2.2.2.2.2.2.1 px tm ps ft fk lea upr ris pl tx at_ kd va r20.2.2.2.2.2.2.2.2.1 r20.2.2.2.2.2.2.2.2.2 r20.2.1 u21)) hP hD [0, 1, 2, 3, 4, 5, 6, 7, 8, 9, 10, 11, 12, 13, 14, 15, 16, 17, 18, 19, 20, 21, 22, 23, 24] [25, 26, 27, 28, 29, 30, 31] rfl rfl (by decide) (by decide) hk1 hFc hP1 hD1
              have hP := va_P_subT (X' := (ws_law cI cC cZ cR mm sc sea th th1 th2 th3 th4 th5 th6 th7 th8 th9 pi pia cm cm1 cm2 cm3 pd pda rd rda hh hst sla mo mo1 mo2 mo3 mo4 mo5 se mn ln hi wi br r20.2.2.2.1 r20.2.2.2.2.1 r20.2.2.2.2.2.1 r20.2.2.2.2.2.2.1 r20.2.2.2.2.2.2.2.1 px tm ps ft fk lea upr ris pl tx at_ kd va r20.2.2.2.2.2.2.2.2.1 r20.2.2.2.2.2.2.2.2.2 kn le_ s_ past slo isv pad_ r20.2.1 u21 prs ads)) hP [7, 8, 9, 10, 11, 12, 13, 14, 15, 16, 17, 18, 19, 20, 21, 22, 23, 24, 25, 26, 27, 28, 29, 30, 31, 0, 1, 2, 3, 4, 5, 6] rfl
              have hD := va_D_subT (X' := (ws_law cI cC cZ cR mm sc sea th th1 th2 th3 th4 th5 th6 th7 th8 th9 pi pia cm cm1 cm2 cm3 pd pda rd rda hh hst sla mo mo1 mo2 mo3 mo4 mo5 se mn ln hi wi br r20.2.2.2.1 r20.2.2.2.2.1 r20.2.2.2.2.2.1 r20.2.2.2.2.2.2.1 r20.2.2.2.2.2.2.2.1 px tm ps ft fk lea upr ris pl tx at_ kd va r20.2.2.2.2.2.2.2.2.1 r20.2.2.2.2.2.2.2.2.2 kn le_ s_ past slo isv pad_ r20.2.1 u21 prs ads)) hD [7, 8, 9, 10, 11, 12, 13, 14, 15, 16, 17, 18, 19, 20, 21, 22, 23, 24, 25, 26, 27, 28, 29, 30, 31, 0, 1, 2, 3, 4, 5, 6] (by decide) rfl
              generalize H1 = H at hP hS ⊢
              refine lv_aload_n hx hb dL_law_287 rfl (lv_at hl 2 rfl) ?_
              refine lv_aload_n hx hb dL_law_288 rfl (lv_at hl 0 rfl) ?_
              refine lv_iload_n hx hb dL_law_289 rfl (lv_at hl 3 rfl) ?_
              refine lv_iconst (v := 1) hx hb dL_law_290 (by decide) ?_
              refine lv_iadd hx hb dL_law_291 ?_
              obtain ⟨hin, h⟩ := gd_sp h
              refine va_sld hx hb hX hbl hbA hS hin dL_law_292 ?_
              refine lv_aload_n hx hb dL_law_293 rfl (lv_at hl 0 rfl) ?_
              refine lv_iload_n hx hb dL_law_294 rfl (lv_at hl 3 rfl) ?_
              refine lv_iconst (v := 2) hx hb dL_law_295 (by decide) ?_
              refine lv_iadd hx hb dL_law_296 ?_
              obtain ⟨hin, h⟩ := gd_sp h
              refine va_sld hx hb hX hbl hbA hS hin dL_law_297 ?_
              obtain ⟨r22, hcr22, h⟩ := bn_sp h
              have hPc := hP.sub (ws' := (ws_model cI cC cZ cR mo mo1 mo2 mo3 mo4 mo5 kn le_ s_ past slo isv pad_)) [26, 27, 28, 29, 30, 31] rfl
              have hDc := hD.sub (ws' := (ws_model cI cC cZ cR mo mo1 mo2 mo3 mo4 mo5 kn le_ s_ past slo isv pad_)) [26, 27, 28, 29, 30, 31] (by decide) rfl
              have hFc := va_free (wc := (ws_model cI cC cZ cR mo mo1 mo2 mo3 mo4 mo5 kn le_ s_ past slo isv pad_)) hD hS hA [26, 27, 28, 29, 30, 31] rfl
              refine va_calli (va_runV (As := [.int (xs (v3 + 1 : Int32).toNatClampNeg), .int (xs (v3 + 2 : Int32).toNatClampNeg)]) (rest := [.int r20.1]) ⟨hx, hb, hml, hown, hts⟩ (m_X8_ride l D cI cC cZ cR mo mo1 mo2 mo3 mo4 mo5 _ kn le_ s_ past slo isv pad_ (xs (v3 + 1 : Int32).toNatClampNeg) (xs (v3 + 2 : Int32).toNatClampNeg) r22 hcr22) (cwV 2 hts gL_law_X8_ride rfl rfl rfl (by decide +kernel) ⟨Nat.le_of_ble_eq_true rfl, Nat.le_of_ble_eq_true rfl⟩) (cPc_pv hPc hK hDc (ci := 8) (q0 := 0) rfl rfl) rfl rfl hl.1 rfl (lv_room (Nat.le_of_ble_eq_true rfl)) dL_law_298 ⟨by show _ ≤ 600000; omega, by show _ ≤ 7302250; omega⟩) hS (fun q _ h => hFc q h) hFc (fun xq u t H1 locs ht hvm hw hB hz1 hk1 hS => ?_)
              rw [hw]
              obtain ⟨hP1, hD1⟩ := hB
              rw [ht] at hP1
              obtain ⟨hP, hD⟩ := jT1 (R := [(mm, .inr (7, [.ref sc, .ref cm, .ref hh, .ref sla, .ref pd, .ref rd])), (sc, .inr (5, [.ref sea, .ref th, .ref pi, .int tm, .int ps, .int ft, .int fk])), (sea, .inl (cI, 4, .inl se)), (th, .inr (6, [.int mn, .ref th1, .ref th2, .ref th3, .ref th4, .ref th5, .ref th6, .ref th7, .ref th8, .ref th9])), (th1, .inl (cI, 8, .inl ln)), (th2, .inl (cI, 8, .inl hi)), (th3, .inl (cI, 8, .inl wi)), (th4, .inl (cI, 8, .inl br)), (th5, .inl (cI, 8, .inl r20.2.2.2.1)), (th6, .inl (cI, 8, .inl r20.2.2.2.2.1)), (th7, .inl (cI, 8, .inl r20.2.2.2.2.2.1)), (th8, .inl (cI, 8, .inl r20.2.2.2.2.2.2.1)), (th9, .inl (cI, 8, .inl r20.2.2.2.2.2.2.2.1)), (pi, .inr (3, [.ref pia])), (pia, .inl (cI, 384, .inl px)), (cm, .inr (0, [.ref cm1, .ref cm2, .ref cm3])), (cm1, .inl (cI, 24, .inl lea)), (cm2, .inl (cI, 24, .inl upr)), (cm3, .inl (cI, 25, .inl ris)), (pd, .inr (2, [.ref pda, .int pl])), (pda, .inl (cC, 80, .inl tx)), (rd, .inr (4, [.ref pd, .int at_, .int kd, .ref rda])), (rda, .inl (cI, 7, .inl va)), (hh, .inr (1, [.ref hst, .int r20.2.2.2.2.2.2.2.2.1, .int r20.2.2.2.2.2.2.2.2.2])), (hst, .inl (cR, 6, .inr (.inr (.inr (.inr (hfn r20.2.1 u21)))))), (sla, .inl (cR, 2, .inr (.inr (.inr (.inr (hfn prs ads))))))]) (w1 := (ws_model cI cC cZ cR mo mo1 mo2 mo3 mo4 mo5 r22.2.1 le_ r22.2.2.1 r22.2.2.2 slo isv pad_)) hP hD [26, 27, 28, 29, 30, 31] [0, 1, 2, 3, 4, 5, 6, 7, 8, 9, 10, 11, 12, 13, 14, 15, 16, 17, 18, 19, 20, 21, 22, 23, 24, 25] rfl rfl (by decide) (by decide) hk1 hFc hP1 hD1
              have hP := va_P_subT (X' := (ws_law cI cC cZ cR mm sc sea th th1 th2 th3 th4 th5 th6 th7 th8 th9 pi pia cm cm1 cm2 cm3 pd pda rd rda hh hst sla mo mo1 mo2 mo3 mo4 mo5 se mn ln hi wi br r20.2.2.2.1 r20.2.2.2.2.1 r20.2.2.2.2.2.1 r20.2.2.2.2.2.2.1 r20.2.2.2.2.2.2.2.1 px tm ps ft fk lea upr ris pl tx at_ kd va r20.2.2.2.2.2.2.2.2.1 r20.2.2.2.2.2.2.2.2.2 r22.2.1 le_ r22.2.2.1 r22.2.2.2 slo isv pad_ r20.2.1 u21 prs ads)) hP [0, 1, 2, 3, 4, 5, 6, 7, 8, 9, 10, 11, 12, 13, 14, 15, 16, 17, 18, 19, 20, 21, 22, 23, 24, 25, 26, 27, 28, 29, 30, 31] rfl
              have hD := va_D_subT (X' := (ws_law cI cC cZ cR mm sc sea th th1 th2 th3 th4 th5 th6 th7 th8 th9 pi pia cm cm1 cm2 cm3 pd pda rd rda hh hst sla mo mo1 mo2 mo3 mo4 mo5 se mn ln hi wi br r20.2.2.2.1 r20.2.2.2.2.1 r20.2.2.2.2.2.1 r20.2.2.2.2.2.2.1 r20.2.2.2.2.2.2.2.1 px tm ps ft fk lea upr ris pl tx at_ kd va r20.2.2.2.2.2.2.2.2.1 r20.2.2.2.2.2.2.2.2.2 r22.2.1 le_ r22.2.2.1 r22.2.2.2 slo isv pad_ r20.2.1 u21 prs ads)) hD [0, 1, 2, 3, 4, 5, 6, 7, 8, 9, 10, 11, 12, 13, 14, 15, 16, 17, 18, 19, 20, 21, 22, 23, 24, 25, 26, 27, 28, 29, 30, 31] (by decide) rfl
              generalize H1 = H at hP hS ⊢
              refine lv_icmp_eq (tgt := 806) hx hb dL_law_301 (by decide) (fun c23 => ?_) (fun c23 => ?_)
              · replace h := br_p c23 h
                obtain ⟨x24, ex24, h⟩ := bd_sp h
                refine lv_iinc (v := x24) (lv' := [(3, .int x24), (0, .ref b), (1, .ref mm), (2, .ref mo)]) hx hb dL_law_806 hl (k := 3) rfl (by rw [ex24]; rfl) (by decide) rfl (fun ls hl => ?_)
                refine lv_goto (tgt := 18) hx hb dL_law_809 (by decide) ?_
                exact ih x24 se mn ln hi wi br r20.2.2.2.1 r20.2.2.2.2.1 r20.2.2.2.2.2.1 r20.2.2.2.2.2.2.1 r20.2.2.2.2.2.2.2.1 px tm ps ft fk lea upr ris pl tx at_ kd va r20.2.2.2.2.2.2.2.2.1 r20.2.2.2.2.2.2.2.2.2 r20.2.1 r20.2.2.1 prs svs r22.2.1 le_ r22.2.2.1 r22.2.2.2 slo isv pad_ u21 ads _ _ _ _ _ h (by omega) (by omega) hP hD hS (lv_sub hl [1, 2, 3, 0] rfl)
              · replace h := br_n c23 h
                exact no_sm h
            · replace h := br_n c25 h
              by_cases c31 : z1 = 4
              · replace h := br_p c31 h
                refine lv_tableIn (tgt := 306) hx hb dL_law_33 (by rw [c31]; decide) (by rw [c31]; decide) (by rw [c31]; rfl) (by decide) ?_
                refine lv_aload_n hx hb dL_law_306 rfl (lv_at hl 1 rfl) ?_
                refine lv_aload_n hx hb dL_law_307 rfl (lv_at hl 0 rfl) ?_
                refine lv_iload_n hx hb dL_law_308 rfl (lv_at hl 3 rfl) ?_
                refine lv_iconst (v := 1) hx hb dL_law_309 (by decide) ?_
                refine lv_iadd hx hb dL_law_310 ?_
                obtain ⟨hin, h⟩ := gd_sp h
                refine va_sld hx hb hX hbl hbA hS hin dL_law_311 ?_
                refine lv_aload_n hx hb dL_law_312 rfl (lv_at hl 0 rfl) ?_
                refine lv_iload_n hx hb dL_law_313 rfl (lv_at hl 3 rfl) ?_
                refine lv_iconst (v := 2) hx hb dL_law_314 (by decide) ?_
                refine lv_iadd hx hb dL_law_315 ?_
                obtain ⟨hin, h⟩ := gd_sp h
                refine va_sld hx hb hX hbl hbA hS hin dL_law_316 ?_
                obtain ⟨r26, hcr26, h⟩ := bn_sp h
                have hPc := va_P_3 (X' := (ws_mainT cI cC cZ cR mm sc sea th th1 th2 th3 th4 th5 th6 th7 th8 th9 pi pia cm cm1 cm2 cm3 pd pda rd rda hh hst sla se mn ln hi wi br sp si le un ul px tm ps ft fk lea upr ris pl tx at_ kd va nx hm pr ad)) hP [0, 1, 2, 3, 4, 5, 6, 7, 8, 9, 10, 11, 12, 13, 14, 15, 16, 17, 18, 19, 20, 21, 22, 23, 24] rfl
                have hDc := va_D_3 (X' := (ws_mainT cI cC cZ cR mm sc sea th th1 th2 th3 th4 th5 th6 th7 th8 th9 pi pia cm cm1 cm2 cm3 pd pda rd rda hh hst sla se mn ln hi wi br sp si le un ul px tm ps ft fk lea upr ris pl tx at_ kd va nx hm pr ad)) hD [0, 1, 2, 3, 4, 5, 6, 7, 8, 9, 10, 11, 12, 13, 14, 15, 16, 17, 18, 19, 20, 21, 22, 23, 24] (by decide) rfl
                have hFc := va_free3 (wc := (ws_mainT cI cC cZ cR mm sc sea th th1 th2 th3 th4 th5 th6 th7 th8 th9 pi pia cm cm1 cm2 cm3 pd pda rd rda hh hst sla se mn ln hi wi br sp si le un ul px tm ps ft fk lea upr ris pl tx at_ kd va nx hm pr ad)) hD hS hA [0, 1, 2, 3, 4, 5, 6, 7, 8, 9, 10, 11, 12, 13, 14, 15, 16, 17, 18, 19, 20, 21, 22, 23, 24] rfl
                refine va_calli (va_runV (As := [.int (xs (v3 + 1 : Int32).toNatClampNeg), .int (xs (v3 + 2 : Int32).toNatClampNeg)]) (rest := []) ⟨hx, hb, hml, hown, hts⟩ (m_X7_flash l D cI cC cZ cR mm sc sea th th1 th2 th3 th4 th5 th6 th7 th8 th9 pi pia cm cm1 cm2 cm3 pd pda rd rda hh hst sla _ se mn ln hi wi br sp si le un ul px tm ps ft fk lea upr ris pl tx at_ kd va nx hm pr ad sv (xs (v3 + 1 : Int32).toNatClampNeg) (xs (v3 + 2 : Int32).toNatClampNeg) s.heap.size r26 hcr26) (cwV 2 hts gL_law_X7_flash rfl rfl rfl (by decide +kernel) ⟨Nat.le_of_ble_eq_true rfl, Nat.le_of_ble_eq_true rfl⟩) (cPcS_pv hPc hK hDc hAb (Nat.le_refl _) hS hstt (ci := 7) (q0 := 0) rfl rfl) rfl rfl hl.1 rfl (lv_room (Nat.le_of_ble_eq_true rfl)) dL_law_317 ⟨by show _ ≤ 600000; omega, by show _ ≤ 7302250; omega⟩) hS (fun q _ h => hFc q h) hFc (fun xq u27 t H1 locs ht hvm hw hB hz1 hk1 hS => ?_)
                rw [hw]
                obtain ⟨hP1, hD1⟩ := hB
                rw [ht] at hP1
                obtain ⟨hP, hD⟩ := jT3 (R := [(sla, .inl (cR, 2, .inr (.inr (.inr (.inr (hfn prs ads)))))), (mo, .inr (8, [.ref mo1, .ref mo2, .int kn, .ref mo3, .ref mo4, .ref mo5, .int le_])), (mo1, .inl (cI, 465, .inl s_)), (mo2, .inl (cI, 2790, .inl past)), (mo3, .inl (cI, 930, .inl slo)), (mo4, .inl (cZ, 2, .inl isv)), (mo5, .inl (cI, 80, .inl pad_))]) (w1 := (ws_mainT cI cC cZ cR mm sc sea th th1 th2 th3 th4 th5 th6 th7 th8 th9 pi pia cm cm1 cm2 cm3 pd pda rd rda hh hst sla se mn ln hi wi br sp si le un ul px tm ps r26.2.2.2.1 r26.2.2.2.2.1 lea upr ris pl tx at_ kd va r26.2.2.2.2.2.1 r26.2.2.2.2.2.2 r26.2.1 u27)) hP hD [0, 1, 2, 3, 4, 5, 6, 7, 8, 9, 10, 11, 12, 13, 14, 15, 16, 17, 18, 19, 20, 21, 22, 23, 24] [25, 26, 27, 28, 29, 30, 31] rfl rfl (by decide) (by decide) hk1 hFc hP1 hD1
                have hP := va_P_subT (X' := (ws_law cI cC cZ cR mm sc sea th th1 th2 th3 th4 th5 th6 th7 th8 th9 pi pia cm cm1 cm2 cm3 pd pda rd rda hh hst sla mo mo1 mo2 mo3 mo4 mo5 se mn ln hi wi br sp si le un ul px tm ps r26.2.2.2.1 r26.2.2.2.2.1 lea upr ris pl tx at_ kd va r26.2.2.2.2.2.1 r26.2.2.2.2.2.2 kn le_ s_ past slo isv pad_ r26.2.1 u27 prs ads)) hP [7, 8, 9, 10, 11, 12, 13, 14, 15, 16, 17, 18, 19, 20, 21, 22, 23, 24, 25, 26, 27, 28, 29, 30, 31, 0, 1, 2, 3, 4, 5, 6] rfl
                have hD := va_D_subT (X' := (ws_law cI cC cZ cR mm sc sea th th1 th2 th3 th4 th5 th6 th7 th8 th9 pi pia cm cm1 cm2 cm3 pd pda rd rda hh hst sla mo mo1 mo2 mo3 mo4 mo5 se mn ln hi wi br sp si le un ul px tm ps r26.2.2.2.1 r26.2.2.2.2.1 lea upr ris pl tx at_ kd va r26.2.2.2.2.2.1 r26.2.2.2.2.2.2 kn le_ s_ past slo isv pad_ r26.2.1 u27 prs ads)) hD [7, 8, 9, 10, 11, 12, 13, 14, 15, 16, 17, 18, 19, 20, 21, 22, 23, 24, 25, 26, 27, 28, 29, 30, 31, 0, 1, 2, 3, 4, 5, 6] (by decide) rfl
                generalize H1 = H at hP hS ⊢
                refine lv_aload_n hx hb dL_law_320 rfl (lv_at hl 2 rfl) ?_
                refine lv_aload_n hx hb dL_law_321 rfl (lv_at hl 0 rfl) ?_
                refine lv_iload_n hx hb dL_law_322 rfl (lv_at hl 3 rfl) ?_
                refine lv_iconst (v := 1) hx hb dL_law_323 (by decide) ?_
                refine lv_iadd hx hb dL_law_324 ?_
                obtain ⟨hin, h⟩ := gd_sp h
                refine va_sld hx hb hX hbl hbA hS hin dL_law_325 ?_
                refine lv_aload_n hx hb dL_law_326 rfl (lv_at hl 0 rfl) ?_
                refine lv_iload_n hx hb dL_law_327 rfl (lv_at hl 3 rfl) ?_
                refine lv_iconst (v := 2) hx hb dL_law_328 (by decide) ?_
                refine lv_iadd hx hb dL_law_329 ?_
                obtain ⟨hin, h⟩ := gd_sp h
                refine va_sld hx hb hX hbl hbA hS hin dL_law_330 ?_
                obtain ⟨r28, hcr28, h⟩ := bn_sp h
                have hPc := hP.sub (ws' := (ws_model cI cC cZ cR mo mo1 mo2 mo3 mo4 mo5 kn le_ s_ past slo isv pad_)) [26, 27, 28, 29, 30, 31] rfl
                have hDc := hD.sub (ws' := (ws_model cI cC cZ cR mo mo1 mo2 mo3 mo4 mo5 kn le_ s_ past slo isv pad_)) [26, 27, 28, 29, 30, 31] (by decide) rfl
                have hFc := va_free (wc := (ws_model cI cC cZ cR mo mo1 mo2 mo3 mo4 mo5 kn le_ s_ past slo isv pad_)) hD hS hA [26, 27, 28, 29, 30, 31] rfl
                refine va_calli (va_runV (As := [.int (xs (v3 + 1 : Int32).toNatClampNeg), .int (xs (v3 + 2 : Int32).toNatClampNeg)]) (rest := [.int r26.1]) ⟨hx, hb, hml, hown, hts⟩ (m_X8_flash l D cI cC cZ cR mo mo1 mo2 mo3 mo4 mo5 _ kn le_ s_ past slo isv pad_ (xs (v3 + 1 : Int32).toNatClampNeg) (xs (v3 + 2 : Int32).toNatClampNeg) r28 hcr28) (cwV 2 hts gL_law_X8_flash rfl rfl rfl (by decide +kernel) ⟨Nat.le_of_ble_eq_true rfl, Nat.le_of_ble_eq_true rfl⟩) (cPc_pv hPc hK hDc (ci := 8) (q0 := 0) rfl rfl) rfl rfl hl.1 rfl (lv_room (Nat.le_of_ble_eq_true rfl)) dL_law_331 ⟨by show _ ≤ 600000; omega, by show _ ≤ 7302250; omega⟩) hS (fun q _ h => hFc q h) hFc (fun xq u t H1 locs ht hvm hw hB hz1 hk1 hS => ?_)
                rw [hw]
                obtain ⟨hP1, hD1⟩ := hB
                rw [ht] at hP1
                obtain ⟨hP, hD⟩ := jT1 (R := [(mm, .inr (7, [.ref sc, .ref cm, .ref hh, .ref sla, .ref pd, .ref rd])), (sc, .inr (5, [.ref sea, .ref th, .ref pi, .int tm, .int ps, .int r26.2.2.2.1, .int r26.2.2.2.2.1])), (sea, .inl (cI, 4, .inl se)), (th, .inr (6, [.int mn, .ref th1, .ref th2, .ref th3, .ref th4, .ref th5, .ref th6, .ref th7, .ref th8, .ref th9])), (th1, .inl (cI, 8, .inl ln)), (th2, .inl (cI, 8, .inl hi)), (th3, .inl (cI, 8, .inl wi)), (th4, .inl (cI, 8, .inl br)), (th5, .inl (cI, 8, .inl sp)), (th6, .inl (cI, 8, .inl si)), (th7, .inl (cI, 8, .inl le)), (th8, .inl (cI, 8, .inl un)), (th9, .inl (cI, 8, .inl ul)), (pi, .inr (3, [.ref pia])), (pia, .inl (cI, 384, .inl px)), (cm, .inr (0, [.ref cm1, .ref cm2, .ref cm3])), (cm1, .inl (cI, 24, .inl lea)), (cm2, .inl (cI, 24, .inl upr)), (cm3, .inl (cI, 25, .inl ris)), (pd, .inr (2, [.ref pda, .int pl])), (pda, .inl (cC, 80, .inl tx)), (rd, .inr (4, [.ref pd, .int at_, .int kd, .ref rda])), (rda, .inl (cI, 7, .inl va)), (hh, .inr (1, [.ref hst, .int r26.2.2.2.2.2.1, .int r26.2.2.2.2.2.2])), (hst, .inl (cR, 6, .inr (.inr (.inr (.inr (hfn r26.2.1 u27)))))), (sla, .inl (cR, 2, .inr (.inr (.inr (.inr (hfn prs ads))))))]) (w1 := (ws_model cI cC cZ cR mo mo1 mo2 mo3 mo4 mo5 r28.2.1 le_ r28.2.2.1 r28.2.2.2 slo isv pad_)) hP hD [26, 27, 28, 29, 30, 31] [0, 1, 2, 3, 4, 5, 6, 7, 8, 9, 10, 11, 12, 13, 14, 15, 16, 17, 18, 19, 20, 21, 22, 23, 24, 25] rfl rfl (by decide) (by decide) hk1 hFc hP1 hD1
                have hP := va_P_subT (X' := (ws_law cI cC cZ cR mm sc sea th th1 th2 th3 th4 th5 th6 th7 th8 th9 pi pia cm cm1 cm2 cm3 pd pda rd rda hh hst sla mo mo1 mo2 mo3 mo4 mo5 se mn ln hi wi br sp si le un ul px tm ps r26.2.2.2.1 r26.2.2.2.2.1 lea upr ris pl tx at_ kd va r26.2.2.2.2.2.1 r26.2.2.2.2.2.2 r28.2.1 le_ r28.2.2.1 r28.2.2.2 slo isv pad_ r26.2.1 u27 prs ads)) hP [0, 1, 2, 3, 4, 5, 6, 7, 8, 9, 10, 11, 12, 13, 14, 15, 16, 17, 18, 19, 20, 21, 22, 23, 24, 25, 26, 27, 28, 29, 30, 31] rfl
                have hD := va_D_subT (X' := (ws_law cI cC cZ cR mm sc sea th th1 th2 th3 th4 th5 th6 th7 th8 th9 pi pia cm cm1 cm2 cm3 pd pda rd rda hh hst sla mo mo1 mo2 mo3 mo4 mo5 se mn ln hi wi br sp si le un ul px tm ps r26.2.2.2.1 r26.2.2.2.2.1 lea upr ris pl tx at_ kd va r26.2.2.2.2.2.1 r26.2.2.2.2.2.2 r28.2.1 le_ r28.2.2.1 r28.2.2.2 slo isv pad_ r26.2.1 u27 prs ads)) hD [0, 1, 2, 3, 4, 5, 6, 7, 8, 9, 10, 11, 12, 13, 14, 15, 16, 17, 18, 19, 20, 21, 22, 23, 24, 25, 26, 27, 28, 29, 30, 31] (by decide) rfl
                generalize H1 = H at hP hS ⊢
                refine lv_icmp_eq (tgt := 806) hx hb dL_law_334 (by decide) (fun c29 => ?_) (fun c29 => ?_)
                · replace h := br_p c29 h
                  obtain ⟨x30, ex30, h⟩ := bd_sp h
                  refine lv_iinc (v := x30) (lv' := [(3, .int x30), (0, .ref b), (1, .ref mm), (2, .ref mo)]) hx hb dL_law_806 hl (k := 3) rfl (by rw [ex30]; rfl) (by decide) rfl (fun ls hl => ?_)
                  refine lv_goto (tgt := 18) hx hb dL_law_809 (by decide) ?_
                  exact ih x30 se mn ln hi wi br sp si le un ul px tm ps r26.2.2.2.1 r26.2.2.2.2.1 lea upr ris pl tx at_ kd va r26.2.2.2.2.2.1 r26.2.2.2.2.2.2 r26.2.1 r26.2.2.1 prs svs r28.2.1 le_ r28.2.2.1 r28.2.2.2 slo isv pad_ u27 ads _ _ _ _ _ h (by omega) (by omega) hP hD hS (lv_sub hl [1, 2, 3, 0] rfl)
                · replace h := br_n c29 h
                  exact no_sm h
              · replace h := br_n c31 h
                by_cases c37 : z1 = 5
                · replace h := br_p c37 h
                  refine lv_tableIn (tgt := 339) hx hb dL_law_33 (by rw [c37]; decide) (by rw [c37]; decide) (by rw [c37]; rfl) (by decide) ?_
                  refine lv_aload_n hx hb dL_law_339 rfl (lv_at hl 1 rfl) ?_
                  refine lv_aload_n hx hb dL_law_340 rfl (lv_at hl 0 rfl) ?_
                  refine lv_iload_n hx hb dL_law_341 rfl (lv_at hl 3 rfl) ?_
                  refine lv_iconst (v := 1) hx hb dL_law_342 (by decide) ?_
                  refine lv_iadd hx hb dL_law_343 ?_
                  obtain ⟨hin, h⟩ := gd_sp h
                  refine va_sld hx hb hX hbl hbA hS hin dL_law_344 ?_
                  obtain ⟨r32, hcr32, h⟩ := bn_sp h
                  have hPc := va_P_3 (X' := (ws_mainT cI cC cZ cR mm sc sea th th1 th2 th3 th4 th5 th6 th7 th8 th9 pi pia cm cm1 cm2 cm3 pd pda rd rda hh hst sla se mn ln hi wi br sp si le un ul px tm ps ft fk lea upr ris pl tx at_ kd va nx hm pr ad)) hP [0, 1, 2, 3, 4, 5, 6, 7, 8, 9, 10, 11, 12, 13, 14, 15, 16, 17, 18, 19, 20, 21, 22, 23, 24] rfl
                  have hDc := va_D_3 (X' := (ws_mainT cI cC cZ cR mm sc sea th th1 th2 th3 th4 th5 th6 th7 th8 th9 pi pia cm cm1 cm2 cm3 pd pda rd rda hh hst sla se mn ln hi wi br sp si le un ul px tm ps ft fk lea upr ris pl tx at_ kd va nx hm pr ad)) hD [0, 1, 2, 3, 4, 5, 6, 7, 8, 9, 10, 11, 12, 13, 14, 15, 16, 17, 18, 19, 20, 21, 22, 23, 24] (by decide) rfl
                  have hFc := va_free3 (wc := (ws_mainT cI cC cZ cR mm sc sea th th1 th2 th3 th4 th5 th6 th7 th8 th9 pi pia cm cm1 cm2 cm3 pd pda rd rda hh hst sla se mn ln hi wi br sp si le un ul px tm ps ft fk lea upr ris pl tx at_ kd va nx hm pr ad)) hD hS hA [0, 1, 2, 3, 4, 5, 6, 7, 8, 9, 10, 11, 12, 13, 14, 15, 16, 17, 18, 19, 20, 21, 22, 23, 24] rfl
                  refine va_calli (va_runV (As := [.int (xs (v3 + 1 : Int32).toNatClampNeg)]) (rest := []) ⟨hx, hb, hml, hown, hts⟩ (m_X7_pass l D cI cC cZ cR mm sc sea th th1 th2 th3 th4 th5 th6 th7 th8 th9 pi pia cm cm1 cm2 cm3 pd pda rd rda hh hst sla _ se mn ln hi wi br sp si le un ul px tm ps ft fk lea upr ris pl tx at_ kd va nx hm pr ad sv (xs (v3 + 1 : Int32).toNatClampNeg) s.heap.size r32 hcr32) (cwV 1 hts gL_law_X7_pass rfl rfl rfl (by decide +kernel) ⟨Nat.le_of_ble_eq_true rfl, Nat.le_of_ble_eq_true rfl⟩) (cPcS_pv hPc hK hDc hAb (Nat.le_refl _) hS hstt (ci := 7) (q0 := 0) rfl rfl) rfl rfl hl.1 rfl (lv_room (Nat.le_of_ble_eq_true rfl)) dL_law_345 ⟨by show _ ≤ 600000; omega, by show _ ≤ 7302250; omega⟩) hS (fun q _ h => hFc q h) hFc (fun xq u33 t H1 locs ht hvm hw hB hz1 hk1 hS => ?_)
                  rw [hw]
                  obtain ⟨hP1, hD1⟩ := hB
                  rw [ht] at hP1
                  obtain ⟨hP, hD⟩ := jT3 (R := [(sla, .inl (cR, 2, .inr (.inr (.inr (.inr (hfn prs ads)))))), (mo, .inr (8, [.ref mo1, .ref mo2, .int kn, .ref mo3, .ref mo4, .ref mo5, .int le_])), (mo1, .inl (cI, 465, .inl s_)), (mo2, .inl (cI, 2790, .inl past)), (mo3, .inl (cI, 930, .inl slo)), (mo4, .inl (cZ, 2, .inl isv)), (mo5, .inl (cI, 80, .inl pad_))]) (w1 := (ws_mainT cI cC cZ cR mm sc sea th th1 th2 th3 th4 th5 th6 th7 th8 th9 pi pia cm cm1 cm2 cm3 pd pda rd rda hh hst sla se mn ln hi wi br sp si le un ul px r32.2.2.2.1 ps ft fk lea upr ris pl tx at_ kd va r32.2.2.2.2.1 r32.2.2.2.2.2 r32.2.1 u33)) hP hD [0, 1, 2, 3, 4, 5, 6, 7, 8, 9, 10, 11, 12, 13, 14, 15, 16, 17, 18, 19, 20, 21, 22, 23, 24] [25, 26, 27, 28, 29, 30, 31] rfl rfl (by decide) (by decide) hk1 hFc hP1 hD1
                  have hP := va_P_subT (X' := (ws_law cI cC cZ cR mm sc sea th th1 th2 th3 th4 th5 th6 th7 th8 th9 pi pia cm cm1 cm2 cm3 pd pda rd rda hh hst sla mo mo1 mo2 mo3 mo4 mo5 se mn ln hi wi br sp si le un ul px r32.2.2.2.1 ps ft fk lea upr ris pl tx at_ kd va r32.2.2.2.2.1 r32.2.2.2.2.2 kn le_ s_ past slo isv pad_ r32.2.1 u33 prs ads)) hP [7, 8, 9, 10, 11, 12, 13, 14, 15, 16, 17, 18, 19, 20, 21, 22, 23, 24, 25, 26, 27, 28, 29, 30, 31, 0, 1, 2, 3, 4, 5, 6] rfl
                  have hD := va_D_subT (X' := (ws_law cI cC cZ cR mm sc sea th th1 th2 th3 th4 th5 th6 th7 th8 th9 pi pia cm cm1 cm2 cm3 pd pda rd rda hh hst sla mo mo1 mo2 mo3 mo4 mo5 se mn ln hi wi br sp si le un ul px r32.2.2.2.1 ps ft fk lea upr ris pl tx at_ kd va r32.2.2.2.2.1 r32.2.2.2.2.2 kn le_ s_ past slo isv pad_ r32.2.1 u33 prs ads)) hD [7, 8, 9, 10, 11, 12, 13, 14, 15, 16, 17, 18, 19, 20, 21, 22, 23, 24, 25, 26, 27, 28, 29, 30, 31, 0, 1, 2, 3, 4, 5, 6] (by decide) rfl
                  generalize H1 = H at hP hS ⊢
                  refine lv_aload_n hx hb dL_law_348 rfl (lv_at hl 2 rfl) ?_
                  refine lv_aload_n hx hb dL_law_349 rfl (lv_at hl 0 rfl) ?_
                  refine lv_iload_n hx hb dL_law_350 rfl (lv_at hl 3 rfl) ?_
                  refine lv_iconst (v := 1) hx hb dL_law_351 (by decide) ?_
                  refine lv_iadd hx hb dL_law_352 ?_
                  obtain ⟨hin, h⟩ := gd_sp h
                  refine va_sld hx hb hX hbl hbA hS hin dL_law_353 ?_
                  obtain ⟨r34, hcr34, h⟩ := bn_sp h
                  have hPc := hP.sub (ws' := (ws_model cI cC cZ cR mo mo1 mo2 mo3 mo4 mo5 kn le_ s_ past slo isv pad_)) [26, 27, 28, 29, 30, 31] rfl
                  have hDc := hD.sub (ws' := (ws_model cI cC cZ cR mo mo1 mo2 mo3 mo4 mo5 kn le_ s_ past slo isv pad_)) [26, 27, 28, 29, 30, 31] (by decide) rfl
                  have hFc := va_free (wc := (ws_model cI cC cZ cR mo mo1 mo2 mo3 mo4 mo5 kn le_ s_ past slo isv pad_)) hD hS hA [26, 27, 28, 29, 30, 31] rfl
                  refine va_calli (va_runV (As := [.int (xs (v3 + 1 : Int32).toNatClampNeg)]) (rest := [.int r32.1]) ⟨hx, hb, hml, hown, hts⟩ (m_X8_pass l D cI cC cZ cR mo mo1 mo2 mo3 mo4 mo5 _ kn le_ s_ past slo isv pad_ (xs (v3 + 1 : Int32).toNatClampNeg) r34 hcr34) (cwV 1 hts gL_law_X8_pass rfl rfl rfl (by decide +kernel) ⟨Nat.le_of_ble_eq_true rfl, Nat.le_of_ble_eq_true rfl⟩) (cPc_pv hPc hK hDc (ci := 8) (q0 := 0) rfl rfl) rfl rfl hl.1 rfl (lv_room (Nat.le_of_ble_eq_true rfl)) dL_law_354 ⟨by show _ ≤ 600000; omega, by show _ ≤ 7302250; omega⟩) hS (fun q _ h => hFc q h) hFc (fun xq u t H1 locs ht hvm hw hB hz1 hk1 hS => ?_)
                  rw [hw]
                  obtain ⟨hP1, hD1⟩ := hB
                  rw [ht] at hP1
                  obtain ⟨hP, hD⟩ := jT1 (R := [(mm, .inr (7, [.ref sc, .ref cm, .ref hh, .ref sla, .ref pd, .ref rd])), (sc, .inr (5, [.ref sea, .ref th, .ref pi, .int r32.2.2.2.1, .int ps, .int ft, .int fk])), (sea, .inl (cI, 4, .inl se)), (th, .inr (6, [.int mn, .ref th1, .ref th2, .ref th3, .ref th4, .ref th5, .ref th6, .ref th7, .ref th8, .ref th9])), (th1, .inl (cI, 8, .inl ln)), (th2, .inl (cI, 8, .inl hi)), (th3, .inl (cI, 8, .inl wi)), (th4, .inl (cI, 8, .inl br)), (th5, .inl (cI, 8, .inl sp)), (th6, .inl (cI, 8, .inl si)), (th7, .inl (cI, 8, .inl le)), (th8, .inl (cI, 8, .inl un)), (th9, .inl (cI, 8, .inl ul)), (pi, .inr (3, [.ref pia])), (pia, .inl (cI, 384, .inl px)), (cm, .inr (0, [.ref cm1, .ref cm2, .ref cm3])), (cm1, .inl (cI, 24, .inl lea)), (cm2, .inl (cI, 24, .inl upr)), (cm3, .inl (cI, 25, .inl ris)), (pd, .inr (2, [.ref pda, .int pl])), (pda, .inl (cC, 80, .inl tx)), (rd, .inr (4, [.ref pd, .int at_, .int kd, .ref rda])), (rda, .inl (cI, 7, .inl va)), (hh, .inr (1, [.ref hst, .int r32.2.2.2.2.1, .int r32.2.2.2.2.2])), (hst, .inl (cR, 6, .inr (.inr (.inr (.inr (hfn r32.2.1 u33)))))), (sla, .inl (cR, 2, .inr (.inr (.inr (.inr (hfn prs ads))))))]) (w1 := (ws_model cI cC cZ cR mo mo1 mo2 mo3 mo4 mo5 r34.2.1 le_ r34.2.2.1 r34.2.2.2 slo isv pad_)) hP hD [26, 27, 28, 29, 30, 31] [0, 1, 2, 3, 4, 5, 6, 7, 8, 9, 10, 11, 12, 13, 14, 15, 16, 17, 18, 19, 20, 21, 22, 23, 24, 25] rfl rfl (by decide) (by decide) hk1 hFc hP1 hD1
                  have hP := va_P_subT (X' := (ws_law cI cC cZ cR mm sc sea th th1 th2 th3 th4 th5 th6 th7 th8 th9 pi pia cm cm1 cm2 cm3 pd pda rd rda hh hst sla mo mo1 mo2 mo3 mo4 mo5 se mn ln hi wi br sp si le un ul px r32.2.2.2.1 ps ft fk lea upr ris pl tx at_ kd va r32.2.2.2.2.1 r32.2.2.2.2.2 r34.2.1 le_ r34.2.2.1 r34.2.2.2 slo isv pad_ r32.2.1 u33 prs ads)) hP [0, 1, 2, 3, 4, 5, 6, 7, 8, 9, 10, 11, 12, 13, 14, 15, 16, 17, 18, 19, 20, 21, 22, 23, 24, 25, 26, 27, 28, 29, 30, 31] rfl
                  have hD := va_D_subT (X' := (ws_law cI cC cZ cR mm sc sea th th1 th2 th3 th4 th5 th6 th7 th8 th9 pi pia cm cm1 cm2 cm3 pd pda rd rda hh hst sla mo mo1 mo2 mo3 mo4 mo5 se mn ln hi wi br sp si le un ul px r32.2.2.2.1 ps ft fk lea upr ris pl tx at_ kd va r32.2.2.2.2.1 r32.2.2.2.2.2 r34.2.1 le_ r34.2.2.1 r34.2.2.2 slo isv pad_ r32.2.1 u33 prs ads)) hD [0, 1, 2, 3, 4, 5, 6, 7, 8, 9, 10, 11, 12, 13, 14, 15, 16, 17, 18, 19, 20, 21, 22, 23, 24, 25, 26, 27, 28, 29, 30, 31] (by decide) rfl
                  generalize H1 = H at hP hS ⊢
                  refine lv_icmp_eq (tgt := 806) hx hb dL_law_357 (by decide) (fun c35 => ?_) (fun c35 => ?_)
                  · replace h := br_p c35 h
                    obtain ⟨x36, ex36, h⟩ := bd_sp h
                    refine lv_iinc (v := x36) (lv' := [(3, .int x36), (0, .ref b), (1, .ref mm), (2, .ref mo)]) hx hb dL_law_806 hl (k := 3) rfl (by rw [ex36]; rfl) (by decide) rfl (fun ls hl => ?_)
                    refine lv_goto (tgt := 18) hx hb dL_law_809 (by decide) ?_
                    exact ih x36 se mn ln hi wi br sp si le un ul px r32.2.2.2.1 ps ft fk lea upr ris pl tx at_ kd va r32.2.2.2.2.1 r32.2.2.2.2.2 r32.2.1 r32.2.2.1 prs svs r34.2.1 le_ r34.2.2.1 r34.2.2.2 slo isv pad_ u33 ads _ _ _ _ _ h (by omega) (by omega) hP hD hS (lv_sub hl [1, 2, 3, 0] rfl)
                  · replace h := br_n c35 h
                    exact no_sm h
                · replace h := br_n c37 h
                  by_cases c43 : z1 = 6
                  · replace h := br_p c43 h
                    refine lv_tableIn (tgt := 362) hx hb dL_law_33 (by rw [c43]; decide) (by rw [c43]; decide) (by rw [c43]; rfl) (by decide) ?_
                    refine lv_aload_n hx hb dL_law_362 rfl (lv_at hl 1 rfl) ?_
                    obtain ⟨r38, hcr38, h⟩ := bn_sp h
                    have hPc := va_P_3 (X' := (ws_mainT cI cC cZ cR mm sc sea th th1 th2 th3 th4 th5 th6 th7 th8 th9 pi pia cm cm1 cm2 cm3 pd pda rd rda hh hst sla se mn ln hi wi br sp si le un ul px tm ps ft fk lea upr ris pl tx at_ kd va nx hm pr ad)) hP [0, 1, 2, 3, 4, 5, 6, 7, 8, 9, 10, 11, 12, 13, 14, 15, 16, 17, 18, 19, 20, 21, 22, 23, 24] rfl
                    have hDc := va_D_3 (X' := (ws_mainT cI cC cZ cR mm sc sea th th1 th2 th3 th4 th5 th6 th7 th8 th9 pi pia cm cm1 cm2 cm3 pd pda rd rda hh hst sla se mn ln hi wi br sp si le un ul px tm ps ft fk lea upr ris pl tx at_ kd va nx hm pr ad)) hD [0, 1, 2, 3, 4, 5, 6, 7, 8, 9, 10, 11, 12, 13, 14, 15, 16, 17, 18, 19, 20, 21, 22, 23, 24] (by decide) rfl
                    have hFc := va_free3 (wc := (ws_mainT cI cC cZ cR mm sc sea th th1 th2 th3 th4 th5 th6 th7 th8 th9 pi pia cm cm1 cm2 cm3 pd pda rd rda hh hst sla se mn ln hi wi br sp si le un ul px tm ps ft fk lea upr ris pl tx at_ kd va nx hm pr ad)) hD hS hA [0, 1, 2, 3, 4, 5, 6, 7, 8, 9, 10, 11, 12, 13, 14, 15, 16, 17, 18, 19, 20, 21, 22, 23, 24] rfl
                    refine va_calli (va_runV (As := []) (rest := []) ⟨hx, hb, hml, hown, hts⟩ (m_X7_shoot l D cI cC cZ cR mm sc sea th th1 th2 th3 th4 th5 th6 th7 th8 th9 pi pia cm cm1 cm2 cm3 pd pda rd rda hh hst sla _ se mn ln hi wi br sp si le un ul px tm ps ft fk lea upr ris pl tx at_ kd va nx hm pr ad sv  s.heap.size r38 hcr38) (cwV 0 hts gL_law_X7_shoot rfl rfl rfl (by decide +kernel) ⟨Nat.le_of_ble_eq_true rfl, Nat.le_of_ble_eq_true rfl⟩) (cPcS_pv hPc hK hDc hAb (Nat.le_refl _) hS hstt (ci := 7) (q0 := 0) rfl rfl) rfl rfl hl.1 rfl (lv_room (Nat.le_of_ble_eq_true rfl)) dL_law_363 ⟨by show _ ≤ 600000; omega, by show _ ≤ 7302250; omega⟩) hS (fun q _ h => hFc q h) hFc (fun xq u39 t H1 locs ht hvm hw hB hz1 hk1 hS => ?_)
                    rw [hw]
                    obtain ⟨hP1, hD1⟩ := hB
                    rw [ht] at hP1
                    obtain ⟨hP, hD⟩ := jT3 (R := [(sla, .inl (cR, 2, .inr (.inr (.inr (.inr (hfn prs ads)))))), (mo, .inr (8, [.ref mo1, .ref mo2, .int kn, .ref mo3, .ref mo4, .ref mo5, .int le_])), (mo1, .inl (cI, 465, .inl s_)), (mo2, .inl (cI, 2790, .inl past)), (mo3, .inl (cI, 930, .inl slo)), (mo4, .inl (cZ, 2, .inl isv)), (mo5, .inl (cI, 80, .inl pad_))]) (w1 := (ws_mainT cI cC cZ cR mm sc sea th th1 th2 th3 th4 th5 th6 th7 th8 th9 pi pia cm cm1 cm2 cm3 pd pda rd rda hh hst sla se mn ln hi wi br sp si le un ul r38.2.2.2.2.2.1 r38.2.2.2.1 r38.2.2.2.2.1 ft fk r38.2.2.2.2.2.2.1 upr r38.2.2.2.2.2.2.2.1 pl tx at_ kd va r38.2.2.2.2.2.2.2.2.1 r38.2.2.2.2.2.2.2.2.2 r38.2.1 u39)) hP hD [0, 1, 2, 3, 4, 5, 6, 7, 8, 9, 10, 11, 12, 13, 14, 15, 16, 17, 18, 19, 20, 21, 22, 23, 24] [25, 26, 27, 28, 29, 30, 31] rfl rfl (by decide) (by decide) hk1 hFc hP1 hD1
                    have hP := va_P_subT (X' := (ws_law cI cC cZ cR mm sc sea th th1 th2 th3 th4 th5 th6 th7 th8 th9 pi pia cm cm1 cm2 cm3 pd pda rd rda hh hst sla mo mo1 mo2 mo3 mo4 mo5 se mn ln hi wi br sp si le un ul r38.2.2.2.2.2.1 r38.2.2.2.1 r38.2.2.2.2.1 ft fk r38.2.2.2.2.2.2.1 upr r38.2.2.2.2.2.2.2.1 pl tx at_ kd va r38.2.2.2.2.2.2.2.2.1 r38.2.2.2.2.2.2.2.2.2 kn le_ s_ past slo isv pad_ r38.2.1 u39 prs ads)) hP [7, 8, 9, 10, 11, 12, 13, 14, 15, 16, 17, 18, 19, 20, 21, 22, 23, 24, 25, 26, 27, 28, 29, 30, 31, 0, 1, 2, 3, 4, 5, 6] rfl
                    have hD := va_D_subT (X' := (ws_law cI cC cZ cR mm sc sea th th1 th2 th3 th4 th5 th6 th7 th8 th9 pi pia cm cm1 cm2 cm3 pd pda rd rda hh hst sla mo mo1 mo2 mo3 mo4 mo5 se mn ln hi wi br sp si le un ul r38.2.2.2.2.2.1 r38.2.2.2.1 r38.2.2.2.2.1 ft fk r38.2.2.2.2.2.2.1 upr r38.2.2.2.2.2.2.2.1 pl tx at_ kd va r38.2.2.2.2.2.2.2.2.1 r38.2.2.2.2.2.2.2.2.2 kn le_ s_ past slo isv pad_ r38.2.1 u39 prs ads)) hD [7, 8, 9, 10, 11, 12, 13, 14, 15, 16, 17, 18, 19, 20, 21, 22, 23, 24, 25, 26, 27, 28, 29, 30, 31, 0, 1, 2, 3, 4, 5, 6] (by decide) rfl
                    generalize H1 = H at hP hS ⊢
                    refine lv_aload_n hx hb dL_law_366 rfl (lv_at hl 2 rfl) ?_
                    obtain ⟨r40, hcr40, h⟩ := bn_sp h
                    have hPc := hP.sub (ws' := (ws_model cI cC cZ cR mo mo1 mo2 mo3 mo4 mo5 kn le_ s_ past slo isv pad_)) [26, 27, 28, 29, 30, 31] rfl
                    have hDc := hD.sub (ws' := (ws_model cI cC cZ cR mo mo1 mo2 mo3 mo4 mo5 kn le_ s_ past slo isv pad_)) [26, 27, 28, 29, 30, 31] (by decide) rfl
                    have hFc := va_free (wc := (ws_model cI cC cZ cR mo mo1 mo2 mo3 mo4 mo5 kn le_ s_ past slo isv pad_)) hD hS hA [26, 27, 28, 29, 30, 31] rfl
                    refine va_calli (va_runV (As := []) (rest := [.int r38.1]) ⟨hx, hb, hml, hown, hts⟩ (m_X8_shoot l D cI cC cZ cR mo mo1 mo2 mo3 mo4 mo5 _ kn le_ s_ past slo isv pad_  r40 hcr40) (cwV 0 hts gL_law_X8_shoot rfl rfl rfl (by decide +kernel) ⟨Nat.le_of_ble_eq_true rfl, Nat.le_of_ble_eq_true rfl⟩) (cPc_pv hPc hK hDc (ci := 8) (q0 := 0) rfl rfl) rfl rfl hl.1 rfl (lv_room (Nat.le_of_ble_eq_true rfl)) dL_law_367 ⟨by show _ ≤ 600000; omega, by show _ ≤ 7302250; omega⟩) hS (fun q _ h => hFc q h) hFc (fun xq u t H1 locs ht hvm hw hB hz1 hk1 hS => ?_)
                    rw [hw]
                    obtain ⟨hP1, hD1⟩ := hB
                    rw [ht] at hP1
                    obtain ⟨hP, hD⟩ := jT1 (R := [(mm, .inr (7, [.ref sc, .ref cm, .ref hh, .ref sla, .ref pd, .ref rd])), (sc, .inr (5, [.ref sea, .ref th, .ref pi, .int r38.2.2.2.1, .int r38.2.2.2.2.1, .int ft, .int fk])), (sea, .inl (cI, 4, .inl se)), (th, .inr (6, [.int mn, .ref th1, .ref th2, .ref th3, .ref th4, .ref th5, .ref th6, .ref th7, .ref th8, .ref th9])), (th1, .inl (cI, 8, .inl ln)), (th2, .inl (cI, 8, .inl hi)), (th3, .inl (cI, 8, .inl wi)), (th4, .inl (cI, 8, .inl br)), (th5, .inl (cI, 8, .inl sp)), (th6, .inl (cI, 8, .inl si)), (th7, .inl (cI, 8, .inl le)), (th8, .inl (cI, 8, .inl un)), (th9, .inl (cI, 8, .inl ul)), (pi, .inr (3, [.ref pia])), (pia, .inl (cI, 384, .inl r38.2.2.2.2.2.1)), (cm, .inr (0, [.ref cm1, .ref cm2, .ref cm3])), (cm1, .inl (cI, 24, .inl r38.2.2.2.2.2.2.1)), (cm2, .inl (cI, 24, .inl upr)), (cm3, .inl (cI, 25, .inl r38.2.2.2.2.2.2.2.1)), (pd, .inr (2, [.ref pda, .int pl])), (pda, .inl (cC, 80, .inl tx)), (rd, .inr (4, [.ref pd, .int at_, .int kd, .ref rda])), (rda, .inl (cI, 7, .inl va)), (hh, .inr (1, [.ref hst, .int r38.2.2.2.2.2.2.2.2.1, .int r38.2.2.2.2.2.2.2.2.2])), (hst, .inl (cR, 6, .inr (.inr (.inr (.inr (hfn r38.2.1 u39)))))), (sla, .inl (cR, 2, .inr (.inr (.inr (.inr (hfn prs ads))))))]) (w1 := (ws_model cI cC cZ cR mo mo1 mo2 mo3 mo4 mo5 r40.2.1 le_ r40.2.2.1 r40.2.2.2 slo isv pad_)) hP hD [26, 27, 28, 29, 30, 31] [0, 1, 2, 3, 4, 5, 6, 7, 8, 9, 10, 11, 12, 13, 14, 15, 16, 17, 18, 19, 20, 21, 22, 23, 24, 25] rfl rfl (by decide) (by decide) hk1 hFc hP1 hD1
                    have hP := va_P_subT (X' := (ws_law cI cC cZ cR mm sc sea th th1 th2 th3 th4 th5 th6 th7 th8 th9 pi pia cm cm1 cm2 cm3 pd pda rd rda hh hst sla mo mo1 mo2 mo3 mo4 mo5 se mn ln hi wi br sp si le un ul r38.2.2.2.2.2.1 r38.2.2.2.1 r38.2.2.2.2.1 ft fk r38.2.2.2.2.2.2.1 upr r38.2.2.2.2.2.2.2.1 pl tx at_ kd va r38.2.2.2.2.2.2.2.2.1 r38.2.2.2.2.2.2.2.2.2 r40.2.1 le_ r40.2.2.1 r40.2.2.2 slo isv pad_ r38.2.1 u39 prs ads)) hP [0, 1, 2, 3, 4, 5, 6, 7, 8, 9, 10, 11, 12, 13, 14, 15, 16, 17, 18, 19, 20, 21, 22, 23, 24, 25, 26, 27, 28, 29, 30, 31] rfl
                    have hD := va_D_subT (X' := (ws_law cI cC cZ cR mm sc sea th th1 th2 th3 th4 th5 th6 th7 th8 th9 pi pia cm cm1 cm2 cm3 pd pda rd rda hh hst sla mo mo1 mo2 mo3 mo4 mo5 se mn ln hi wi br sp si le un ul r38.2.2.2.2.2.1 r38.2.2.2.1 r38.2.2.2.2.1 ft fk r38.2.2.2.2.2.2.1 upr r38.2.2.2.2.2.2.2.1 pl tx at_ kd va r38.2.2.2.2.2.2.2.2.1 r38.2.2.2.2.2.2.2.2.2 r40.2.1 le_ r40.2.2.1 r40.2.2.2 slo isv pad_ r38.2.1 u39 prs ads)) hD [0, 1, 2, 3, 4, 5, 6, 7, 8, 9, 10, 11, 12, 13, 14, 15, 16, 17, 18, 19, 20, 21, 22, 23, 24, 25, 26, 27, 28, 29, 30, 31] (by decide) rfl
                    generalize H1 = H at hP hS ⊢
                    refine lv_icmp_eq (tgt := 806) hx hb dL_law_370 (by decide) (fun c41 => ?_) (fun c41 => ?_)
                    · replace h := br_p c41 h
                      obtain ⟨x42, ex42, h⟩ := bd_sp h
                      refine lv_iinc (v := x42) (lv' := [(3, .int x42), (0, .ref b), (1, .ref mm), (2, .ref mo)]) hx hb dL_law_806 hl (k := 3) rfl (by rw [ex42]; rfl) (by decide) rfl (fun ls hl => ?_)
                      refine lv_goto (tgt := 18) hx hb dL_law_809 (by decide) ?_
                      exact ih x42 se mn ln hi wi br sp si le un ul r38.2.2.2.2.2.1 r38.2.2.2.1 r38.2.2.2.2.1 ft fk r38.2.2.2.2.2.2.1 upr r38.2.2.2.2.2.2.2.1 pl tx at_ kd va r38.2.2.2.2.2.2.2.2.1 r38.2.2.2.2.2.2.2.2.2 r38.2.1 r38.2.2.1 prs svs r40.2.1 le_ r40.2.2.1 r40.2.2.2 slo isv pad_ u39 ads _ _ _ _ _ h (by omega) (by omega) hP hD hS (lv_sub hl [1, 2, 3, 0] rfl)
                    · replace h := br_n c41 h
                      exact no_sm h
                  · replace h := br_n c43 h
                    by_cases c48 : z1 = 7
                    · replace h := br_p c48 h
                      refine lv_tableIn (tgt := 375) hx hb dL_law_33 (by rw [c48]; decide) (by rw [c48]; decide) (by rw [c48]; rfl) (by decide) ?_
                      refine lv_aload_n hx hb dL_law_375 rfl (lv_at hl 1 rfl) ?_
                      refine lv_aload_n hx hb dL_law_376 rfl (lv_at hl 0 rfl) ?_
                      refine lv_iload_n hx hb dL_law_377 rfl (lv_at hl 3 rfl) ?_
                      refine lv_iconst (v := 1) hx hb dL_law_378 (by decide) ?_
                      refine lv_iadd hx hb dL_law_379 ?_
                      obtain ⟨hin, h⟩ := gd_sp h
                      refine va_sld hx hb hX hbl hbA hS hin dL_law_380 ?_
                      refine lv_aload_n hx hb dL_law_381 rfl (lv_at hl 0 rfl) ?_
                      refine lv_iload_n hx hb dL_law_382 rfl (lv_at hl 3 rfl) ?_
                      refine lv_iconst (v := 2) hx hb dL_law_383 (by decide) ?_
                      refine lv_iadd hx hb dL_law_384 ?_
                      obtain ⟨hin, h⟩ := gd_sp h
                      refine va_sld hx hb hX hbl hbA hS hin dL_law_385 ?_
                      obtain ⟨r44, hcr44, h⟩ := bn_sp h
                      have hPc := hP.sub (ws' := (ws_main cI cC cZ cR mm sc sea th th1 th2 th3 th4 th5 th6 th7 th8 th9 pi pia cm cm1 cm2 cm3 pd pda rd rda hh sla se mn ln hi wi br sp si le un ul px tm ps ft fk lea upr ris pl tx at_ kd va)) [0, 1, 2, 3, 4, 5, 6, 7, 8, 9, 10, 11, 12, 13, 14, 15, 16, 17, 18, 19, 20, 21, 22] rfl
                      have hDc := hD.sub (ws' := (ws_main cI cC cZ cR mm sc sea th th1 th2 th3 th4 th5 th6 th7 th8 th9 pi pia cm cm1 cm2 cm3 pd pda rd rda hh sla se mn ln hi wi br sp si le un ul px tm ps ft fk lea upr ris pl tx at_ kd va)) [0, 1, 2, 3, 4, 5, 6, 7, 8, 9, 10, 11, 12, 13, 14, 15, 16, 17, 18, 19, 20, 21, 22] (by decide) rfl
                      have hFc := va_free (wc := (ws_main cI cC cZ cR mm sc sea th th1 th2 th3 th4 th5 th6 th7 th8 th9 pi pia cm cm1 cm2 cm3 pd pda rd rda hh sla se mn ln hi wi br sp si le un ul px tm ps ft fk lea upr ris pl tx at_ kd va)) hD hS hA [0, 1, 2, 3, 4, 5, 6, 7, 8, 9, 10, 11, 12, 13, 14, 15, 16, 17, 18, 19, 20, 21, 22] rfl
                      refine va_calli (va_runV (As := [.int (xs (v3 + 1 : Int32).toNatClampNeg), .int (xs (v3 + 2 : Int32).toNatClampNeg)]) (rest := []) ⟨hx, hb, hml, hown, hts⟩ (m_X7_of l D cI cC cZ cR mm sc sea th th1 th2 th3 th4 th5 th6 th7 th8 th9 pi pia cm cm1 cm2 cm3 pd pda rd rda hh sla _ se mn ln hi wi br sp si le un ul px tm ps ft fk lea upr ris pl tx at_ kd va (xs (v3 + 1 : Int32).toNatClampNeg) (xs (v3 + 2 : Int32).toNatClampNeg) r44 hcr44) (cwV 2 hts gL_law_X7_of rfl rfl rfl (by decide +kernel) ⟨Nat.le_of_ble_eq_true rfl, Nat.le_of_ble_eq_true rfl⟩) (cPc_pv hPc hK hDc (ci := 7) (q0 := 0) rfl rfl) rfl rfl hl.1 rfl (lv_room (Nat.le_of_ble_eq_true rfl)) dL_law_386 ⟨by show _ ≤ 600000; omega, by show _ ≤ 7302250; omega⟩) hS (fun q _ h => hFc q h) hFc (fun xq u t H1 locs ht hvm hw hB hz1 hk1 hS => ?_)
                      rw [hw]
                      obtain ⟨hP1, hD1⟩ := hB
                      rw [ht] at hP1
                      obtain ⟨hP, hD⟩ := jT1 (R := [(hh, .inr (1, [.ref hst, .int nx, .int hm])), (hst, .inl (cR, 6, .inr (.inr (.inr (.inr (hfn pr ad)))))), (sla, .inl (cR, 2, .inr (.inr (.inr (.inr (hfn prs ads)))))), (mo, .inr (8, [.ref mo1, .ref mo2, .int kn, .ref mo3, .ref mo4, .ref mo5, .int le_])), (mo1, .inl (cI, 465, .inl s_)), (mo2, .inl (cI, 2790, .inl past)), (mo3, .inl (cI, 930, .inl slo)), (mo4, .inl (cZ, 2, .inl isv)), (mo5, .inl (cI, 80, .inl pad_))]) (w1 := (ws_main cI cC cZ cR mm sc sea th th1 th2 th3 th4 th5 th6 th7 th8 th9 pi pia cm cm1 cm2 cm3 pd pda rd rda hh sla se mn ln hi wi br sp si le un ul px tm ps ft fk lea upr ris pl tx at_ kd va)) hP hD [0, 1, 2, 3, 4, 5, 6, 7, 8, 9, 10, 11, 12, 13, 14, 15, 16, 17, 18, 19, 20, 21, 22] [23, 24, 25, 26, 27, 28, 29, 30, 31] rfl rfl (by decide) (by decide) hk1 hFc hP1 hD1
                      have hP := va_P_subT (X' := (ws_law cI cC cZ cR mm sc sea th th1 th2 th3 th4 th5 th6 th7 th8 th9 pi pia cm cm1 cm2 cm3 pd pda rd rda hh hst sla mo mo1 mo2 mo3 mo4 mo5 se mn ln hi wi br sp si le un ul px tm ps ft fk lea upr ris pl tx at_ kd va nx hm kn le_ s_ past slo isv pad_ pr ad prs ads)) hP [9, 10, 11, 12, 13, 14, 15, 16, 17, 18, 19, 20, 21, 22, 23, 24, 25, 26, 27, 28, 29, 30, 31, 0, 1, 2, 3, 4, 5, 6, 7, 8] rfl
                      have hD := va_D_subT (X' := (ws_law cI cC cZ cR mm sc sea th th1 th2 th3 th4 th5 th6 th7 th8 th9 pi pia cm cm1 cm2 cm3 pd pda rd rda hh hst sla mo mo1 mo2 mo3 mo4 mo5 se mn ln hi wi br sp si le un ul px tm ps ft fk lea upr ris pl tx at_ kd va nx hm kn le_ s_ past slo isv pad_ pr ad prs ads)) hD [9, 10, 11, 12, 13, 14, 15, 16, 17, 18, 19, 20, 21, 22, 23, 24, 25, 26, 27, 28, 29, 30, 31, 0, 1, 2, 3, 4, 5, 6, 7, 8] (by decide) rfl
                      generalize H1 = H at hP hS ⊢
                      refine lv_aload_n hx hb dL_law_389 rfl (lv_at hl 2 rfl) ?_
                      refine lv_aload_n hx hb dL_law_390 rfl (lv_at hl 0 rfl) ?_
                      refine lv_iload_n hx hb dL_law_391 rfl (lv_at hl 3 rfl) ?_
                      refine lv_iconst (v := 1) hx hb dL_law_392 (by decide) ?_
                      refine lv_iadd hx hb dL_law_393 ?_
                      obtain ⟨hin, h⟩ := gd_sp h
                      refine va_sld hx hb hX hbl hbA hS hin dL_law_394 ?_
                      refine lv_aload_n hx hb dL_law_395 rfl (lv_at hl 0 rfl) ?_
                      refine lv_iload_n hx hb dL_law_396 rfl (lv_at hl 3 rfl) ?_
                      refine lv_iconst (v := 2) hx hb dL_law_397 (by decide) ?_
                      refine lv_iadd hx hb dL_law_398 ?_
                      obtain ⟨hin, h⟩ := gd_sp h
                      refine va_sld hx hb hX hbl hbA hS hin dL_law_399 ?_
                      obtain ⟨r45, hcr45, h⟩ := bn_sp h
                      have hPc := hP.sub (ws' := (ws_model cI cC cZ cR mo mo1 mo2 mo3 mo4 mo5 kn le_ s_ past slo isv pad_)) [26, 27, 28, 29, 30, 31] rfl
                      have hDc := hD.sub (ws' := (ws_model cI cC cZ cR mo mo1 mo2 mo3 mo4 mo5 kn le_ s_ past slo isv pad_)) [26, 27, 28, 29, 30, 31] (by decide) rfl
                      have hFc := va_free (wc := (ws_model cI cC cZ cR mo mo1 mo2 mo3 mo4 mo5 kn le_ s_ past slo isv pad_)) hD hS hA [26, 27, 28, 29, 30, 31] rfl
                      refine va_calli (va_runV (As := [.int (xs (v3 + 1 : Int32).toNatClampNeg), .int (xs (v3 + 2 : Int32).toNatClampNeg)]) (rest := [.int r44]) ⟨hx, hb, hml, hown, hts⟩ (m_X8_of l D cI cC cZ cR mo mo1 mo2 mo3 mo4 mo5 _ kn le_ s_ past slo isv pad_ (xs (v3 + 1 : Int32).toNatClampNeg) (xs (v3 + 2 : Int32).toNatClampNeg) r45 hcr45) (cwV 2 hts gL_law_X8_of rfl rfl rfl (by decide +kernel) ⟨Nat.le_of_ble_eq_true rfl, Nat.le_of_ble_eq_true rfl⟩) (cPc_pv hPc hK hDc (ci := 8) (q0 := 0) rfl rfl) rfl rfl hl.1 rfl (lv_room (Nat.le_of_ble_eq_true rfl)) dL_law_400 ⟨by show _ ≤ 600000; omega, by show _ ≤ 7302250; omega⟩) hS (fun q _ h => hFc q h) hFc (fun xq u t H1 locs ht hvm hw hB hz1 hk1 hS => ?_)
                      rw [hw]
                      obtain ⟨hP1, hD1⟩ := hB
                      rw [ht] at hP1
                      obtain ⟨hP, hD⟩ := jT1 (R := [(mm, .inr (7, [.ref sc, .ref cm, .ref hh, .ref sla, .ref pd, .ref rd])), (sc, .inr (5, [.ref sea, .ref th, .ref pi, .int tm, .int ps, .int ft, .int fk])), (sea, .inl (cI, 4, .inl se)), (th, .inr (6, [.int mn, .ref th1, .ref th2, .ref th3, .ref th4, .ref th5, .ref th6, .ref th7, .ref th8, .ref th9])), (th1, .inl (cI, 8, .inl ln)), (th2, .inl (cI, 8, .inl hi)), (th3, .inl (cI, 8, .inl wi)), (th4, .inl (cI, 8, .inl br)), (th5, .inl (cI, 8, .inl sp)), (th6, .inl (cI, 8, .inl si)), (th7, .inl (cI, 8, .inl le)), (th8, .inl (cI, 8, .inl un)), (th9, .inl (cI, 8, .inl ul)), (pi, .inr (3, [.ref pia])), (pia, .inl (cI, 384, .inl px)), (cm, .inr (0, [.ref cm1, .ref cm2, .ref cm3])), (cm1, .inl (cI, 24, .inl lea)), (cm2, .inl (cI, 24, .inl upr)), (cm3, .inl (cI, 25, .inl ris)), (pd, .inr (2, [.ref pda, .int pl])), (pda, .inl (cC, 80, .inl tx)), (rd, .inr (4, [.ref pd, .int at_, .int kd, .ref rda])), (rda, .inl (cI, 7, .inl va)), (hh, .inr (1, [.ref hst, .int nx, .int hm])), (hst, .inl (cR, 6, .inr (.inr (.inr (.inr (hfn pr ad)))))), (sla, .inl (cR, 2, .inr (.inr (.inr (.inr (hfn prs ads))))))]) (w1 := (ws_model cI cC cZ cR mo mo1 mo2 mo3 mo4 mo5 kn le_ s_ past slo isv pad_)) hP hD [26, 27, 28, 29, 30, 31] [0, 1, 2, 3, 4, 5, 6, 7, 8, 9, 10, 11, 12, 13, 14, 15, 16, 17, 18, 19, 20, 21, 22, 23, 24, 25] rfl rfl (by decide) (by decide) hk1 hFc hP1 hD1
                      have hP := va_P_subT (X' := (ws_law cI cC cZ cR mm sc sea th th1 th2 th3 th4 th5 th6 th7 th8 th9 pi pia cm cm1 cm2 cm3 pd pda rd rda hh hst sla mo mo1 mo2 mo3 mo4 mo5 se mn ln hi wi br sp si le un ul px tm ps ft fk lea upr ris pl tx at_ kd va nx hm kn le_ s_ past slo isv pad_ pr ad prs ads)) hP [0, 1, 2, 3, 4, 5, 6, 7, 8, 9, 10, 11, 12, 13, 14, 15, 16, 17, 18, 19, 20, 21, 22, 23, 24, 25, 26, 27, 28, 29, 30, 31] rfl
                      have hD := va_D_subT (X' := (ws_law cI cC cZ cR mm sc sea th th1 th2 th3 th4 th5 th6 th7 th8 th9 pi pia cm cm1 cm2 cm3 pd pda rd rda hh hst sla mo mo1 mo2 mo3 mo4 mo5 se mn ln hi wi br sp si le un ul px tm ps ft fk lea upr ris pl tx at_ kd va nx hm kn le_ s_ past slo isv pad_ pr ad prs ads)) hD [0, 1, 2, 3, 4, 5, 6, 7, 8, 9, 10, 11, 12, 13, 14, 15, 16, 17, 18, 19, 20, 21, 22, 23, 24, 25, 26, 27, 28, 29, 30, 31] (by decide) rfl
                      generalize H1 = H at hP hS ⊢
                      refine lv_icmp_eq (tgt := 806) hx hb dL_law_403 (by decide) (fun c46 => ?_) (fun c46 => ?_)
                      · replace h := br_p c46 h
                        obtain ⟨x47, ex47, h⟩ := bd_sp h
                        refine lv_iinc (v := x47) (lv' := [(3, .int x47), (0, .ref b), (1, .ref mm), (2, .ref mo)]) hx hb dL_law_806 hl (k := 3) rfl (by rw [ex47]; rfl) (by decide) rfl (fun ls hl => ?_)
                        refine lv_goto (tgt := 18) hx hb dL_law_809 (by decide) ?_
                        exact ih x47 se mn ln hi wi br sp si le un ul px tm ps ft fk lea upr ris pl tx at_ kd va nx hm pr sv prs svs kn le_ s_ past slo isv pad_ ad ads _ _ _ _ _ h (by omega) (by omega) hP hD hS (lv_sub hl [1, 2, 3, 0] rfl)
                      · replace h := br_n c46 h
                        exact no_sm h
                    · replace h := br_n c48 h
                      by_cases c53 : z1 = 8
                      · replace h := br_p c53 h
                        refine lv_tableIn (tgt := 408) hx hb dL_law_33 (by rw [c53]; decide) (by rw [c53]; decide) (by rw [c53]; rfl) (by decide) ?_
                        refine lv_aload_n hx hb dL_law_408 rfl (lv_at hl 1 rfl) ?_
                        refine lv_aload_n hx hb dL_law_409 rfl (lv_at hl 0 rfl) ?_
                        refine lv_iload_n hx hb dL_law_410 rfl (lv_at hl 3 rfl) ?_
                        refine lv_iconst (v := 1) hx hb dL_law_411 (by decide) ?_
                        refine lv_iadd hx hb dL_law_412 ?_
                        obtain ⟨hin, h⟩ := gd_sp h
                        refine va_sld hx hb hX hbl hbA hS hin dL_law_413 ?_
                        refine lv_aload_n hx hb dL_law_414 rfl (lv_at hl 0 rfl) ?_
                        refine lv_iload_n hx hb dL_law_415 rfl (lv_at hl 3 rfl) ?_
                        refine lv_iconst (v := 2) hx hb dL_law_416 (by decide) ?_
                        refine lv_iadd hx hb dL_law_417 ?_
                        obtain ⟨hin, h⟩ := gd_sp h
                        refine va_sld hx hb hX hbl hbA hS hin dL_law_418 ?_
                        obtain ⟨r49, hcr49, h⟩ := bn_sp h
                        have hPc := hP.sub (ws' := (ws_main cI cC cZ cR mm sc sea th th1 th2 th3 th4 th5 th6 th7 th8 th9 pi pia cm cm1 cm2 cm3 pd pda rd rda hh sla se mn ln hi wi br sp si le un ul px tm ps ft fk lea upr ris pl tx at_ kd va)) [0, 1, 2, 3, 4, 5, 6, 7, 8, 9, 10, 11, 12, 13, 14, 15, 16, 17, 18, 19, 20, 21, 22] rfl
                        have hDc := hD.sub (ws' := (ws_main cI cC cZ cR mm sc sea th th1 th2 th3 th4 th5 th6 th7 th8 th9 pi pia cm cm1 cm2 cm3 pd pda rd rda hh sla se mn ln hi wi br sp si le un ul px tm ps ft fk lea upr ris pl tx at_ kd va)) [0, 1, 2, 3, 4, 5, 6, 7, 8, 9, 10, 11, 12, 13, 14, 15, 16, 17, 18, 19, 20, 21, 22] (by decide) rfl
                        have hFc := va_free (wc := (ws_main cI cC cZ cR mm sc sea th th1 th2 th3 th4 th5 th6 th7 th8 th9 pi pia cm cm1 cm2 cm3 pd pda rd rda hh sla se mn ln hi wi br sp si le un ul px tm ps ft fk lea upr ris pl tx at_ kd va)) hD hS hA [0, 1, 2, 3, 4, 5, 6, 7, 8, 9, 10, 11, 12, 13, 14, 15, 16, 17, 18, 19, 20, 21, 22] rfl
                        refine va_calli (va_runV (As := [.int (xs (v3 + 1 : Int32).toNatClampNeg), .int (xs (v3 + 2 : Int32).toNatClampNeg)]) (rest := []) ⟨hx, hb, hml, hown, hts⟩ (m_X7_pixel l D cI cC cZ cR mm sc sea th th1 th2 th3 th4 th5 th6 th7 th8 th9 pi pia cm cm1 cm2 cm3 pd pda rd rda hh sla _ se mn ln hi wi br sp si le un ul px tm ps ft fk lea upr ris pl tx at_ kd va (xs (v3 + 1 : Int32).toNatClampNeg) (xs (v3 + 2 : Int32).toNatClampNeg) r49 hcr49) (cwV 2 hts gL_law_X7_pixel rfl rfl rfl (by decide +kernel) ⟨Nat.le_of_ble_eq_true rfl, Nat.le_of_ble_eq_true rfl⟩) (cPc_pv hPc hK hDc (ci := 7) (q0 := 0) rfl rfl) rfl rfl hl.1 rfl (lv_room (Nat.le_of_ble_eq_true rfl)) dL_law_419 ⟨by show _ ≤ 600000; omega, by show _ ≤ 7302250; omega⟩) hS (fun q _ h => hFc q h) hFc (fun xq u t H1 locs ht hvm hw hB hz1 hk1 hS => ?_)
                        rw [hw]
                        obtain ⟨hP1, hD1⟩ := hB
                        rw [ht] at hP1
                        obtain ⟨hP, hD⟩ := jT1 (R := [(hh, .inr (1, [.ref hst, .int nx, .int hm])), (hst, .inl (cR, 6, .inr (.inr (.inr (.inr (hfn pr ad)))))), (sla, .inl (cR, 2, .inr (.inr (.inr (.inr (hfn prs ads)))))), (mo, .inr (8, [.ref mo1, .ref mo2, .int kn, .ref mo3, .ref mo4, .ref mo5, .int le_])), (mo1, .inl (cI, 465, .inl s_)), (mo2, .inl (cI, 2790, .inl past)), (mo3, .inl (cI, 930, .inl slo)), (mo4, .inl (cZ, 2, .inl isv)), (mo5, .inl (cI, 80, .inl pad_))]) (w1 := (ws_main cI cC cZ cR mm sc sea th th1 th2 th3 th4 th5 th6 th7 th8 th9 pi pia cm cm1 cm2 cm3 pd pda rd rda hh sla se mn ln hi wi br sp si le un ul px tm ps ft fk lea upr ris pl tx at_ kd va)) hP hD [0, 1, 2, 3, 4, 5, 6, 7, 8, 9, 10, 11, 12, 13, 14, 15, 16, 17, 18, 19, 20, 21, 22] [23, 24, 25, 26, 27, 28, 29, 30, 31] rfl rfl (by decide) (by decide) hk1 hFc hP1 hD1
                        have hP := va_P_subT (X' := (ws_law cI cC cZ cR mm sc sea th th1 th2 th3 th4 th5 th6 th7 th8 th9 pi pia cm cm1 cm2 cm3 pd pda rd rda hh hst sla mo mo1 mo2 mo3 mo4 mo5 se mn ln hi wi br sp si le un ul px tm ps ft fk lea upr ris pl tx at_ kd va nx hm kn le_ s_ past slo isv pad_ pr ad prs ads)) hP [9, 10, 11, 12, 13, 14, 15, 16, 17, 18, 19, 20, 21, 22, 23, 24, 25, 26, 27, 28, 29, 30, 31, 0, 1, 2, 3, 4, 5, 6, 7, 8] rfl
                        have hD := va_D_subT (X' := (ws_law cI cC cZ cR mm sc sea th th1 th2 th3 th4 th5 th6 th7 th8 th9 pi pia cm cm1 cm2 cm3 pd pda rd rda hh hst sla mo mo1 mo2 mo3 mo4 mo5 se mn ln hi wi br sp si le un ul px tm ps ft fk lea upr ris pl tx at_ kd va nx hm kn le_ s_ past slo isv pad_ pr ad prs ads)) hD [9, 10, 11, 12, 13, 14, 15, 16, 17, 18, 19, 20, 21, 22, 23, 24, 25, 26, 27, 28, 29, 30, 31, 0, 1, 2, 3, 4, 5, 6, 7, 8] (by decide) rfl
                        generalize H1 = H at hP hS ⊢
                        refine lv_aload_n hx hb dL_law_422 rfl (lv_at hl 2 rfl) ?_
                        refine lv_aload_n hx hb dL_law_423 rfl (lv_at hl 0 rfl) ?_
                        refine lv_iload_n hx hb dL_law_424 rfl (lv_at hl 3 rfl) ?_
                        refine lv_iconst (v := 1) hx hb dL_law_425 (by decide) ?_
                        refine lv_iadd hx hb dL_law_426 ?_
                        obtain ⟨hin, h⟩ := gd_sp h
                        refine va_sld hx hb hX hbl hbA hS hin dL_law_427 ?_
                        refine lv_aload_n hx hb dL_law_428 rfl (lv_at hl 0 rfl) ?_
                        refine lv_iload_n hx hb dL_law_429 rfl (lv_at hl 3 rfl) ?_
                        refine lv_iconst (v := 2) hx hb dL_law_430 (by decide) ?_
                        refine lv_iadd hx hb dL_law_431 ?_
                        obtain ⟨hin, h⟩ := gd_sp h
                        refine va_sld hx hb hX hbl hbA hS hin dL_law_432 ?_
                        obtain ⟨r50, hcr50, h⟩ := bn_sp h
                        have hPc := hP.sub (ws' := (ws_model cI cC cZ cR mo mo1 mo2 mo3 mo4 mo5 kn le_ s_ past slo isv pad_)) [26, 27, 28, 29, 30, 31] rfl
                        have hDc := hD.sub (ws' := (ws_model cI cC cZ cR mo mo1 mo2 mo3 mo4 mo5 kn le_ s_ past slo isv pad_)) [26, 27, 28, 29, 30, 31] (by decide) rfl
                        have hFc := va_free (wc := (ws_model cI cC cZ cR mo mo1 mo2 mo3 mo4 mo5 kn le_ s_ past slo isv pad_)) hD hS hA [26, 27, 28, 29, 30, 31] rfl
                        refine va_calli (va_runV (As := [.int (xs (v3 + 1 : Int32).toNatClampNeg), .int (xs (v3 + 2 : Int32).toNatClampNeg)]) (rest := [.int r49]) ⟨hx, hb, hml, hown, hts⟩ (m_X8_pixel l D cI cC cZ cR mo mo1 mo2 mo3 mo4 mo5 _ kn le_ s_ past slo isv pad_ (xs (v3 + 1 : Int32).toNatClampNeg) (xs (v3 + 2 : Int32).toNatClampNeg) r50 hcr50) (cwV 2 hts gL_law_X8_pixel rfl rfl rfl (by decide +kernel) ⟨Nat.le_of_ble_eq_true rfl, Nat.le_of_ble_eq_true rfl⟩) (cPc_pv hPc hK hDc (ci := 8) (q0 := 0) rfl rfl) rfl rfl hl.1 rfl (lv_room (Nat.le_of_ble_eq_true rfl)) dL_law_433 ⟨by show _ ≤ 600000; omega, by show _ ≤ 7302250; omega⟩) hS (fun q _ h => hFc q h) hFc (fun xq u t H1 locs ht hvm hw hB hz1 hk1 hS => ?_)
                        rw [hw]
                        obtain ⟨hP1, hD1⟩ := hB
                        rw [ht] at hP1
                        obtain ⟨hP, hD⟩ := jT1 (R := [(mm, .inr (7, [.ref sc, .ref cm, .ref hh, .ref sla, .ref pd, .ref rd])), (sc, .inr (5, [.ref sea, .ref th, .ref pi, .int tm, .int ps, .int ft, .int fk])), (sea, .inl (cI, 4, .inl se)), (th, .inr (6, [.int mn, .ref th1, .ref th2, .ref th3, .ref th4, .ref th5, .ref th6, .ref th7, .ref th8, .ref th9])), (th1, .inl (cI, 8, .inl ln)), (th2, .inl (cI, 8, .inl hi)), (th3, .inl (cI, 8, .inl wi)), (th4, .inl (cI, 8, .inl br)), (th5, .inl (cI, 8, .inl sp)), (th6, .inl (cI, 8, .inl si)), (th7, .inl (cI, 8, .inl le)), (th8, .inl (cI, 8, .inl un)), (th9, .inl (cI, 8, .inl ul)), (pi, .inr (3, [.ref pia])), (pia, .inl (cI, 384, .inl px)), (cm, .inr (0, [.ref cm1, .ref cm2, .ref cm3])), (cm1, .inl (cI, 24, .inl lea)), (cm2, .inl (cI, 24, .inl upr)), (cm3, .inl (cI, 25, .inl ris)), (pd, .inr (2, [.ref pda, .int pl])), (pda, .inl (cC, 80, .inl tx)), (rd, .inr (4, [.ref pd, .int at_, .int kd, .ref rda])), (rda, .inl (cI, 7, .inl va)), (hh, .inr (1, [.ref hst, .int nx, .int hm])), (hst, .inl (cR, 6, .inr (.inr (.inr (.inr (hfn pr ad)))))), (sla, .inl (cR, 2, .inr (.inr (.inr (.inr (hfn prs ads))))))]) (w1 := (ws_model cI cC cZ cR mo mo1 mo2 mo3 mo4 mo5 kn le_ s_ past slo isv pad_)) hP hD [26, 27, 28, 29, 30, 31] [0, 1, 2, 3, 4, 5, 6, 7, 8, 9, 10, 11, 12, 13, 14, 15, 16, 17, 18, 19, 20, 21, 22, 23, 24, 25] rfl rfl (by decide) (by decide) hk1 hFc hP1 hD1
                        have hP := va_P_subT (X' := (ws_law cI cC cZ cR mm sc sea th th1 th2 th3 th4 th5 th6 th7 th8 th9 pi pia cm cm1 cm2 cm3 pd pda rd rda hh hst sla mo mo1 mo2 mo3 mo4 mo5 se mn ln hi wi br sp si le un ul px tm ps ft fk lea upr ris pl tx at_ kd va nx hm kn le_ s_ past slo isv pad_ pr ad prs ads)) hP [0, 1, 2, 3, 4, 5, 6, 7, 8, 9, 10, 11, 12, 13, 14, 15, 16, 17, 18, 19, 20, 21, 22, 23, 24, 25, 26, 27, 28, 29, 30, 31] rfl
                        have hD := va_D_subT (X' := (ws_law cI cC cZ cR mm sc sea th th1 th2 th3 th4 th5 th6 th7 th8 th9 pi pia cm cm1 cm2 cm3 pd pda rd rda hh hst sla mo mo1 mo2 mo3 mo4 mo5 se mn ln hi wi br sp si le un ul px tm ps ft fk lea upr ris pl tx at_ kd va nx hm kn le_ s_ past slo isv pad_ pr ad prs ads)) hD [0, 1, 2, 3, 4, 5, 6, 7, 8, 9, 10, 11, 12, 13, 14, 15, 16, 17, 18, 19, 20, 21, 22, 23, 24, 25, 26, 27, 28, 29, 30, 31] (by decide) rfl
                        generalize H1 = H at hP hS ⊢
                        refine lv_icmp_eq (tgt := 806) hx hb dL_law_436 (by decide) (fun c51 => ?_) (fun c51 => ?_)
                        · replace h := br_p c51 h
                          obtain ⟨x52, ex52, h⟩ := bd_sp h
                          refine lv_iinc (v := x52) (lv' := [(3, .int x52), (0, .ref b), (1, .ref mm), (2, .ref mo)]) hx hb dL_law_806 hl (k := 3) rfl (by rw [ex52]; rfl) (by decide) rfl (fun ls hl => ?_)
                          refine lv_goto (tgt := 18) hx hb dL_law_809 (by decide) ?_
                          exact ih x52 se mn ln hi wi br sp si le un ul px tm ps ft fk lea upr ris pl tx at_ kd va nx hm pr sv prs svs kn le_ s_ past slo isv pad_ ad ads _ _ _ _ _ h (by omega) (by omega) hP hD hS (lv_sub hl [1, 2, 3, 0] rfl)
                        · replace h := br_n c51 h
                          exact no_sm h
                      · replace h := br_n c53 h
                        by_cases c58 : z1 = 9
                        · replace h := br_p c58 h
                          refine lv_tableIn (tgt := 441) hx hb dL_law_33 (by rw [c58]; decide) (by rw [c58]; decide) (by rw [c58]; rfl) (by decide) ?_
                          refine lv_aload_n hx hb dL_law_441 rfl (lv_at hl 1 rfl) ?_
                          refine lv_aload_n hx hb dL_law_442 rfl (lv_at hl 0 rfl) ?_
                          refine lv_iload_n hx hb dL_law_443 rfl (lv_at hl 3 rfl) ?_
                          refine lv_iconst (v := 1) hx hb dL_law_444 (by decide) ?_
                          refine lv_iadd hx hb dL_law_445 ?_
                          obtain ⟨hin, h⟩ := gd_sp h
                          refine va_sld hx hb hX hbl hbA hS hin dL_law_446 ?_
                          refine lv_aload_n hx hb dL_law_447 rfl (lv_at hl 0 rfl) ?_
                          refine lv_iload_n hx hb dL_law_448 rfl (lv_at hl 3 rfl) ?_
                          refine lv_iconst (v := 2) hx hb dL_law_449 (by decide) ?_
                          refine lv_iadd hx hb dL_law_450 ?_
                          obtain ⟨hin, h⟩ := gd_sp h
                          refine va_sld hx hb hX hbl hbA hS hin dL_law_451 ?_
                          obtain ⟨r54, hcr54, h⟩ := bn_sp h
                          have hPc := hP.sub (ws' := (ws_main cI cC cZ cR mm sc sea th th1 th2 th3 th4 th5 th6 th7 th8 th9 pi pia cm cm1 cm2 cm3 pd pda rd rda hh sla se mn ln hi wi br sp si le un ul px tm ps ft fk lea upr ris pl tx at_ kd va)) [0, 1, 2, 3, 4, 5, 6, 7, 8, 9, 10, 11, 12, 13, 14, 15, 16, 17, 18, 19, 20, 21, 22] rfl
                          have hDc := hD.sub (ws' := (ws_main cI cC cZ cR mm sc sea th th1 th2 th3 th4 th5 th6 th7 th8 th9 pi pia cm cm1 cm2 cm3 pd pda rd rda hh sla se mn ln hi wi br sp si le un ul px tm ps ft fk lea upr ris pl tx at_ kd va)) [0, 1, 2, 3, 4, 5, 6, 7, 8, 9, 10, 11, 12, 13, 14, 15, 16, 17, 18, 19, 20, 21, 22] (by decide) rfl
                          have hFc := va_free (wc := (ws_main cI cC cZ cR mm sc sea th th1 th2 th3 th4 th5 th6 th7 th8 th9 pi pia cm cm1 cm2 cm3 pd pda rd rda hh sla se mn ln hi wi br sp si le un ul px tm ps ft fk lea upr ris pl tx at_ kd va)) hD hS hA [0, 1, 2, 3, 4, 5, 6, 7, 8, 9, 10, 11, 12, 13, 14, 15, 16, 17, 18, 19, 20, 21, 22] rfl
                          refine va_calli (va_runV (As := [.int (xs (v3 + 1 : Int32).toNatClampNeg), .int (xs (v3 + 2 : Int32).toNatClampNeg)]) (rest := []) ⟨hx, hb, hml, hown, hts⟩ (m_X7_joined l D cI cC cZ cR mm sc sea th th1 th2 th3 th4 th5 th6 th7 th8 th9 pi pia cm cm1 cm2 cm3 pd pda rd rda hh sla _ se mn ln hi wi br sp si le un ul px tm ps ft fk lea upr ris pl tx at_ kd va (xs (v3 + 1 : Int32).toNatClampNeg) (xs (v3 + 2 : Int32).toNatClampNeg) r54 hcr54) (cwV 2 hts gL_law_X7_joined rfl rfl rfl (by decide +kernel) ⟨Nat.le_of_ble_eq_true rfl, Nat.le_of_ble_eq_true rfl⟩) (cPc_pv hPc hK hDc (ci := 7) (q0 := 0) rfl rfl) rfl rfl hl.1 rfl (lv_room (Nat.le_of_ble_eq_true rfl)) dL_law_452 ⟨by show _ ≤ 600000; omega, by show _ ≤ 7302250; omega⟩) hS (fun q _ h => hFc q h) hFc (fun xq u t H1 locs ht hvm hw hB hz1 hk1 hS => ?_)
                          rw [hw]
                          obtain ⟨hP1, hD1⟩ := hB
                          rw [ht] at hP1
                          obtain ⟨hP, hD⟩ := jT1 (R := [(hh, .inr (1, [.ref hst, .int nx, .int hm])), (hst, .inl (cR, 6, .inr (.inr (.inr (.inr (hfn pr ad)))))), (sla, .inl (cR, 2, .inr (.inr (.inr (.inr (hfn prs ads)))))), (mo, .inr (8, [.ref mo1, .ref mo2, .int kn, .ref mo3, .ref mo4, .ref mo5, .int le_])), (mo1, .inl (cI, 465, .inl s_)), (mo2, .inl (cI, 2790, .inl past)), (mo3, .inl (cI, 930, .inl slo)), (mo4, .inl (cZ, 2, .inl isv)), (mo5, .inl (cI, 80, .inl pad_))]) (w1 := (ws_main cI cC cZ cR mm sc sea th th1 th2 th3 th4 th5 th6 th7 th8 th9 pi pia cm cm1 cm2 cm3 pd pda rd rda hh sla se mn ln hi wi br sp si le un ul px tm ps ft fk lea upr ris pl tx at_ kd va)) hP hD [0, 1, 2, 3, 4, 5, 6, 7, 8, 9, 10, 11, 12, 13, 14, 15, 16, 17, 18, 19, 20, 21, 22] [23, 24, 25, 26, 27, 28, 29, 30, 31] rfl rfl (by decide) (by decide) hk1 hFc hP1 hD1
                          have hP := va_P_subT (X' := (ws_law cI cC cZ cR mm sc sea th th1 th2 th3 th4 th5 th6 th7 th8 th9 pi pia cm cm1 cm2 cm3 pd pda rd rda hh hst sla mo mo1 mo2 mo3 mo4 mo5 se mn ln hi wi br sp si le un ul px tm ps ft fk lea upr ris pl tx at_ kd va nx hm kn le_ s_ past slo isv pad_ pr ad prs ads)) hP [9, 10, 11, 12, 13, 14, 15, 16, 17, 18, 19, 20, 21, 22, 23, 24, 25, 26, 27, 28, 29, 30, 31, 0, 1, 2, 3, 4, 5, 6, 7, 8] rfl
                          have hD := va_D_subT (X' := (ws_law cI cC cZ cR mm sc sea th th1 th2 th3 th4 th5 th6 th7 th8 th9 pi pia cm cm1 cm2 cm3 pd pda rd rda hh hst sla mo mo1 mo2 mo3 mo4 mo5 se mn ln hi wi br sp si le un ul px tm ps ft fk lea upr ris pl tx at_ kd va nx hm kn le_ s_ past slo isv pad_ pr ad prs ads)) hD [9, 10, 11, 12, 13, 14, 15, 16, 17, 18, 19, 20, 21, 22, 23, 24, 25, 26, 27, 28, 29, 30, 31, 0, 1, 2, 3, 4, 5, 6, 7, 8] (by decide) rfl
                          generalize H1 = H at hP hS ⊢
                          refine lv_aload_n hx hb dL_law_455 rfl (lv_at hl 2 rfl) ?_
                          refine lv_aload_n hx hb dL_law_456 rfl (lv_at hl 0 rfl) ?_
                          refine lv_iload_n hx hb dL_law_457 rfl (lv_at hl 3 rfl) ?_
                          refine lv_iconst (v := 1) hx hb dL_law_458 (by decide) ?_
                          refine lv_iadd hx hb dL_law_459 ?_
                          obtain ⟨hin, h⟩ := gd_sp h
                          refine va_sld hx hb hX hbl hbA hS hin dL_law_460 ?_
                          refine lv_aload_n hx hb dL_law_461 rfl (lv_at hl 0 rfl) ?_
                          refine lv_iload_n hx hb dL_law_462 rfl (lv_at hl 3 rfl) ?_
                          refine lv_iconst (v := 2) hx hb dL_law_463 (by decide) ?_
                          refine lv_iadd hx hb dL_law_464 ?_
                          obtain ⟨hin, h⟩ := gd_sp h
                          refine va_sld hx hb hX hbl hbA hS hin dL_law_465 ?_
                          obtain ⟨r55, hcr55, h⟩ := bn_sp h
                          have hPc := hP.sub (ws' := (ws_model cI cC cZ cR mo mo1 mo2 mo3 mo4 mo5 kn le_ s_ past slo isv pad_)) [26, 27, 28, 29, 30, 31] rfl
                          have hDc := hD.sub (ws' := (ws_model cI cC cZ cR mo mo1 mo2 mo3 mo4 mo5 kn le_ s_ past slo isv pad_)) [26, 27, 28, 29, 30, 31] (by decide) rfl
                          have hFc := va_free (wc := (ws_model cI cC cZ cR mo mo1 mo2 mo3 mo4 mo5 kn le_ s_ past slo isv pad_)) hD hS hA [26, 27, 28, 29, 30, 31] rfl
                          refine va_calli (va_runV (As := [.int (xs (v3 + 1 : Int32).toNatClampNeg), .int (xs (v3 + 2 : Int32).toNatClampNeg)]) (rest := [.int r54]) ⟨hx, hb, hml, hown, hts⟩ (m_X8_joined l D cI cC cZ cR mo mo1 mo2 mo3 mo4 mo5 _ kn le_ s_ past slo isv pad_ (xs (v3 + 1 : Int32).toNatClampNeg) (xs (v3 + 2 : Int32).toNatClampNeg) r55 hcr55) (cwV 2 hts gL_law_X8_joined rfl rfl rfl (by decide +kernel) ⟨Nat.le_of_ble_eq_true rfl, Nat.le_of_ble_eq_true rfl⟩) (cPc_pv hPc hK hDc (ci := 8) (q0 := 0) rfl rfl) rfl rfl hl.1 rfl (lv_room (Nat.le_of_ble_eq_true rfl)) dL_law_466 ⟨by show _ ≤ 600000; omega, by show _ ≤ 7302250; omega⟩) hS (fun q _ h => hFc q h) hFc (fun xq u t H1 locs ht hvm hw hB hz1 hk1 hS => ?_)
                          rw [hw]
                          obtain ⟨hP1, hD1⟩ := hB
                          rw [ht] at hP1
                          obtain ⟨hP, hD⟩ := jT1 (R := [(mm, .inr (7, [.ref sc, .ref cm, .ref hh, .ref sla, .ref pd, .ref rd])), (sc, .inr (5, [.ref sea, .ref th, .ref pi, .int tm, .int ps, .int ft, .int fk])), (sea, .inl (cI, 4, .inl se)), (th, .inr (6, [.int mn, .ref th1, .ref th2, .ref th3, .ref th4, .ref th5, .ref th6, .ref th7, .ref th8, .ref th9])), (th1, .inl (cI, 8, .inl ln)), (th2, .inl (cI, 8, .inl hi)), (th3, .inl (cI, 8, .inl wi)), (th4, .inl (cI, 8, .inl br)), (th5, .inl (cI, 8, .inl sp)), (th6, .inl (cI, 8, .inl si)), (th7, .inl (cI, 8, .inl le)), (th8, .inl (cI, 8, .inl un)), (th9, .inl (cI, 8, .inl ul)), (pi, .inr (3, [.ref pia])), (pia, .inl (cI, 384, .inl px)), (cm, .inr (0, [.ref cm1, .ref cm2, .ref cm3])), (cm1, .inl (cI, 24, .inl lea)), (cm2, .inl (cI, 24, .inl upr)), (cm3, .inl (cI, 25, .inl ris)), (pd, .inr (2, [.ref pda, .int pl])), (pda, .inl (cC, 80, .inl tx)), (rd, .inr (4, [.ref pd, .int at_, .int kd, .ref rda])), (rda, .inl (cI, 7, .inl va)), (hh, .inr (1, [.ref hst, .int nx, .int hm])), (hst, .inl (cR, 6, .inr (.inr (.inr (.inr (hfn pr ad)))))), (sla, .inl (cR, 2, .inr (.inr (.inr (.inr (hfn prs ads))))))]) (w1 := (ws_model cI cC cZ cR mo mo1 mo2 mo3 mo4 mo5 kn le_ s_ past slo isv pad_)) hP hD [26, 27, 28, 29, 30, 31] [0, 1, 2, 3, 4, 5, 6, 7, 8, 9, 10, 11, 12, 13, 14, 15, 16, 17, 18, 19, 20, 21, 22, 23, 24, 25] rfl rfl (by decide) (by decide) hk1 hFc hP1 hD1
                          have hP := va_P_subT (X' := (ws_law cI cC cZ cR mm sc sea th th1 th2 th3 th4 th5 th6 th7 th8 th9 pi pia cm cm1 cm2 cm3 pd pda rd rda hh hst sla mo mo1 mo2 mo3 mo4 mo5 se mn ln hi wi br sp si le un ul px tm ps ft fk lea upr ris pl tx at_ kd va nx hm kn le_ s_ past slo isv pad_ pr ad prs ads)) hP [0, 1, 2, 3, 4, 5, 6, 7, 8, 9, 10, 11, 12, 13, 14, 15, 16, 17, 18, 19, 20, 21, 22, 23, 24, 25, 26, 27, 28, 29, 30, 31] rfl
                          have hD := va_D_subT (X' := (ws_law cI cC cZ cR mm sc sea th th1 th2 th3 th4 th5 th6 th7 th8 th9 pi pia cm cm1 cm2 cm3 pd pda rd rda hh hst sla mo mo1 mo2 mo3 mo4 mo5 se mn ln hi wi br sp si le un ul px tm ps ft fk lea upr ris pl tx at_ kd va nx hm kn le_ s_ past slo isv pad_ pr ad prs ads)) hD [0, 1, 2, 3, 4, 5, 6, 7, 8, 9, 10, 11, 12, 13, 14, 15, 16, 17, 18, 19, 20, 21, 22, 23, 24, 25, 26, 27, 28, 29, 30, 31] (by decide) rfl
                          generalize H1 = H at hP hS ⊢
                          refine lv_icmp_eq (tgt := 806) hx hb dL_law_469 (by decide) (fun c56 => ?_) (fun c56 => ?_)
                          · replace h := br_p c56 h
                            obtain ⟨x57, ex57, h⟩ := bd_sp h
                            refine lv_iinc (v := x57) (lv' := [(3, .int x57), (0, .ref b), (1, .ref mm), (2, .ref mo)]) hx hb dL_law_806 hl (k := 3) rfl (by rw [ex57]; rfl) (by decide) rfl (fun ls hl => ?_)
                            refine lv_goto (tgt := 18) hx hb dL_law_809 (by decide) ?_
                            exact ih x57 se mn ln hi wi br sp si le un ul px tm ps ft fk lea upr ris pl tx at_ kd va nx hm pr sv prs svs kn le_ s_ past slo isv pad_ ad ads _ _ _ _ _ h (by omega) (by omega) hP hD hS (lv_sub hl [1, 2, 3, 0] rfl)
                          · replace h := br_n c56 h
                            exact no_sm h
                        · replace h := br_n c58 h
                          by_cases c63 : z1 = 10
                          · replace h := br_p c63 h
                            refine lv_tableIn (tgt := 474) hx hb dL_law_33 (by rw [c63]; decide) (by rw [c63]; decide) (by rw [c63]; rfl) (by decide) ?_
                            refine lv_aload_n hx hb dL_law_474 rfl (lv_at hl 1 rfl) ?_
                            refine lv_aload_n hx hb dL_law_475 rfl (lv_at hl 0 rfl) ?_
                            refine lv_iload_n hx hb dL_law_476 rfl (lv_at hl 3 rfl) ?_
                            refine lv_iconst (v := 1) hx hb dL_law_477 (by decide) ?_
                            refine lv_iadd hx hb dL_law_478 ?_
                            obtain ⟨hin, h⟩ := gd_sp h
                            refine va_sld hx hb hX hbl hbA hS hin dL_law_479 ?_
                            refine lv_aload_n hx hb dL_law_480 rfl (lv_at hl 0 rfl) ?_
                            refine lv_iload_n hx hb dL_law_481 rfl (lv_at hl 3 rfl) ?_
                            refine lv_iconst (v := 2) hx hb dL_law_482 (by decide) ?_
                            refine lv_iadd hx hb dL_law_483 ?_
                            obtain ⟨hin, h⟩ := gd_sp h
                            refine va_sld hx hb hX hbl hbA hS hin dL_law_484 ?_
                            obtain ⟨r59, hcr59, h⟩ := bn_sp h
                            have hPc := hP.sub (ws' := (ws_main cI cC cZ cR mm sc sea th th1 th2 th3 th4 th5 th6 th7 th8 th9 pi pia cm cm1 cm2 cm3 pd pda rd rda hh sla se mn ln hi wi br sp si le un ul px tm ps ft fk lea upr ris pl tx at_ kd va)) [0, 1, 2, 3, 4, 5, 6, 7, 8, 9, 10, 11, 12, 13, 14, 15, 16, 17, 18, 19, 20, 21, 22] rfl
                            have hDc := hD.sub (ws' := (ws_main cI cC cZ cR mm sc sea th th1 th2 th3 th4 th5 th6 th7 th8 th9 pi pia cm cm1 cm2 cm3 pd pda rd rda hh sla se mn ln hi wi br sp si le un ul px tm ps ft fk lea upr ris pl tx at_ kd va)) [0, 1, 2, 3, 4, 5, 6, 7, 8, 9, 10, 11, 12, 13, 14, 15, 16, 17, 18, 19, 20, 21, 22] (by decide) rfl
                            have hFc := va_free (wc := (ws_main cI cC cZ cR mm sc sea th th1 th2 th3 th4 th5 th6 th7 th8 th9 pi pia cm cm1 cm2 cm3 pd pda rd rda hh sla se mn ln hi wi br sp si le un ul px tm ps ft fk lea upr ris pl tx at_ kd va)) hD hS hA [0, 1, 2, 3, 4, 5, 6, 7, 8, 9, 10, 11, 12, 13, 14, 15, 16, 17, 18, 19, 20, 21, 22] rfl
                            refine va_calli (va_runV (As := [.int (xs (v3 + 1 : Int32).toNatClampNeg), .int (xs (v3 + 2 : Int32).toNatClampNeg)]) (rest := []) ⟨hx, hb, hml, hown, hts⟩ (m_X7_ofLine l D cI cC cZ cR mm sc sea th th1 th2 th3 th4 th5 th6 th7 th8 th9 pi pia cm cm1 cm2 cm3 pd pda rd rda hh sla _ se mn ln hi wi br sp si le un ul px tm ps ft fk lea upr ris pl tx at_ kd va (xs (v3 + 1 : Int32).toNatClampNeg) (xs (v3 + 2 : Int32).toNatClampNeg) r59 hcr59) (cwV 2 hts gL_law_X7_ofLine rfl rfl rfl (by decide +kernel) ⟨Nat.le_of_ble_eq_true rfl, Nat.le_of_ble_eq_true rfl⟩) (cPc_pv hPc hK hDc (ci := 7) (q0 := 0) rfl rfl) rfl rfl hl.1 rfl (lv_room (Nat.le_of_ble_eq_true rfl)) dL_law_485 ⟨by show _ ≤ 600000; omega, by show _ ≤ 7302250; omega⟩) hS (fun q _ h => hFc q h) hFc (fun xq u t H1 locs ht hvm hw hB hz1 hk1 hS => ?_)
                            rw [hw]
                            obtain ⟨hP1, hD1⟩ := hB
                            rw [ht] at hP1
                            obtain ⟨hP, hD⟩ := jT1 (R := [(hh, .inr (1, [.ref hst, .int nx, .int hm])), (hst, .inl (cR, 6, .inr (.inr (.inr (.inr (hfn pr ad)))))), (sla, .inl (cR, 2, .inr (.inr (.inr (.inr (hfn prs ads)))))), (mo, .inr (8, [.ref mo1, .ref mo2, .int kn, .ref mo3, .ref mo4, .ref mo5, .int le_])), (mo1, .inl (cI, 465, .inl s_)), (mo2, .inl (cI, 2790, .inl past)), (mo3, .inl (cI, 930, .inl slo)), (mo4, .inl (cZ, 2, .inl isv)), (mo5, .inl (cI, 80, .inl pad_))]) (w1 := (ws_main cI cC cZ cR mm sc sea th th1 th2 th3 th4 th5 th6 th7 th8 th9 pi pia cm cm1 cm2 cm3 pd pda rd rda hh sla se mn ln hi wi br sp si le un ul px tm ps ft fk lea upr ris pl tx at_ kd va)) hP hD [0, 1, 2, 3, 4, 5, 6, 7, 8, 9, 10, 11, 12, 13, 14, 15, 16, 17, 18, 19, 20, 21, 22] [23, 24, 25, 26, 27, 28, 29, 30, 31] rfl rfl (by decide) (by decide) hk1 hFc hP1 hD1
                            have hP := va_P_subT (X' := (ws_law cI cC cZ cR mm sc sea th th1 th2 th3 th4 th5 th6 th7 th8 th9 pi pia cm cm1 cm2 cm3 pd pda rd rda hh hst sla mo mo1 mo2 mo3 mo4 mo5 se mn ln hi wi br sp si le un ul px tm ps ft fk lea upr ris pl tx at_ kd va nx hm kn le_ s_ past slo isv pad_ pr ad prs ads)) hP [9, 10, 11, 12, 13, 14, 15, 16, 17, 18, 19, 20, 21, 22, 23, 24, 25, 26, 27, 28, 29, 30, 31, 0, 1, 2, 3, 4, 5, 6, 7, 8] rfl
                            have hD := va_D_subT (X' := (ws_law cI cC cZ cR mm sc sea th th1 th2 th3 th4 th5 th6 th7 th8 th9 pi pia cm cm1 cm2 cm3 pd pda rd rda hh hst sla mo mo1 mo2 mo3 mo4 mo5 se mn ln hi wi br sp si le un ul px tm ps ft fk lea upr ris pl tx at_ kd va nx hm kn le_ s_ past slo isv pad_ pr ad prs ads)) hD [9, 10, 11, 12, 13, 14, 15, 16, 17, 18, 19, 20, 21, 22, 23, 24, 25, 26, 27, 28, 29, 30, 31, 0, 1, 2, 3, 4, 5, 6, 7, 8] (by decide) rfl
                            generalize H1 = H at hP hS ⊢
                            refine lv_aload_n hx hb dL_law_488 rfl (lv_at hl 2 rfl) ?_
                            refine lv_aload_n hx hb dL_law_489 rfl (lv_at hl 0 rfl) ?_
                            refine lv_iload_n hx hb dL_law_490 rfl (lv_at hl 3 rfl) ?_
                            refine lv_iconst (v := 1) hx hb dL_law_491 (by decide) ?_
                            refine lv_iadd hx hb dL_law_492 ?_
                            obtain ⟨hin, h⟩ := gd_sp h
                            refine va_sld hx hb hX hbl hbA hS hin dL_law_493 ?_
                            refine lv_aload_n hx hb dL_law_494 rfl (lv_at hl 0 rfl) ?_
                            refine lv_iload_n hx hb dL_law_495 rfl (lv_at hl 3 rfl) ?_
                            refine lv_iconst (v := 2) hx hb dL_law_496 (by decide) ?_
                            refine lv_iadd hx hb dL_law_497 ?_
                            obtain ⟨hin, h⟩ := gd_sp h
                            refine va_sld hx hb hX hbl hbA hS hin dL_law_498 ?_
                            obtain ⟨r60, hcr60, h⟩ := bn_sp h
                            have hPc := hP.sub (ws' := (ws_model cI cC cZ cR mo mo1 mo2 mo3 mo4 mo5 kn le_ s_ past slo isv pad_)) [26, 27, 28, 29, 30, 31] rfl
                            have hDc := hD.sub (ws' := (ws_model cI cC cZ cR mo mo1 mo2 mo3 mo4 mo5 kn le_ s_ past slo isv pad_)) [26, 27, 28, 29, 30, 31] (by decide) rfl
                            have hFc := va_free (wc := (ws_model cI cC cZ cR mo mo1 mo2 mo3 mo4 mo5 kn le_ s_ past slo isv pad_)) hD hS hA [26, 27, 28, 29, 30, 31] rfl
                            refine va_calli (va_runV (As := [.int (xs (v3 + 1 : Int32).toNatClampNeg), .int (xs (v3 + 2 : Int32).toNatClampNeg)]) (rest := [.int r59]) ⟨hx, hb, hml, hown, hts⟩ (m_X8_ofLine l D cI cC cZ cR mo mo1 mo2 mo3 mo4 mo5 _ kn le_ s_ past slo isv pad_ (xs (v3 + 1 : Int32).toNatClampNeg) (xs (v3 + 2 : Int32).toNatClampNeg) r60 hcr60) (cwV 2 hts gL_law_X8_ofLine rfl rfl rfl (by decide +kernel) ⟨Nat.le_of_ble_eq_true rfl, Nat.le_of_ble_eq_true rfl⟩) (cPc_pv hPc hK hDc (ci := 8) (q0 := 0) rfl rfl) rfl rfl hl.1 rfl (lv_room (Nat.le_of_ble_eq_true rfl)) dL_law_499 ⟨by show _ ≤ 600000; omega, by show _ ≤ 7302250; omega⟩) hS (fun q _ h => hFc q h) hFc (fun xq u t H1 locs ht hvm hw hB hz1 hk1 hS => ?_)
                            rw [hw]
                            obtain ⟨hP1, hD1⟩ := hB
                            rw [ht] at hP1
                            obtain ⟨hP, hD⟩ := jT1 (R := [(mm, .inr (7, [.ref sc, .ref cm, .ref hh, .ref sla, .ref pd, .ref rd])), (sc, .inr (5, [.ref sea, .ref th, .ref pi, .int tm, .int ps, .int ft, .int fk])), (sea, .inl (cI, 4, .inl se)), (th, .inr (6, [.int mn, .ref th1, .ref th2, .ref th3, .ref th4, .ref th5, .ref th6, .ref th7, .ref th8, .ref th9])), (th1, .inl (cI, 8, .inl ln)), (th2, .inl (cI, 8, .inl hi)), (th3, .inl (cI, 8, .inl wi)), (th4, .inl (cI, 8, .inl br)), (th5, .inl (cI, 8, .inl sp)), (th6, .inl (cI, 8, .inl si)), (th7, .inl (cI, 8, .inl le)), (th8, .inl (cI, 8, .inl un)), (th9, .inl (cI, 8, .inl ul)), (pi, .inr (3, [.ref pia])), (pia, .inl (cI, 384, .inl px)), (cm, .inr (0, [.ref cm1, .ref cm2, .ref cm3])), (cm1, .inl (cI, 24, .inl lea)), (cm2, .inl (cI, 24, .inl upr)), (cm3, .inl (cI, 25, .inl ris)), (pd, .inr (2, [.ref pda, .int pl])), (pda, .inl (cC, 80, .inl tx)), (rd, .inr (4, [.ref pd, .int at_, .int kd, .ref rda])), (rda, .inl (cI, 7, .inl va)), (hh, .inr (1, [.ref hst, .int nx, .int hm])), (hst, .inl (cR, 6, .inr (.inr (.inr (.inr (hfn pr ad)))))), (sla, .inl (cR, 2, .inr (.inr (.inr (.inr (hfn prs ads))))))]) (w1 := (ws_model cI cC cZ cR mo mo1 mo2 mo3 mo4 mo5 kn le_ s_ past slo isv pad_)) hP hD [26, 27, 28, 29, 30, 31] [0, 1, 2, 3, 4, 5, 6, 7, 8, 9, 10, 11, 12, 13, 14, 15, 16, 17, 18, 19, 20, 21, 22, 23, 24, 25] rfl rfl (by decide) (by decide) hk1 hFc hP1 hD1
                            have hP := va_P_subT (X' := (ws_law cI cC cZ cR mm sc sea th th1 th2 th3 th4 th5 th6 th7 th8 th9 pi pia cm cm1 cm2 cm3 pd pda rd rda hh hst sla mo mo1 mo2 mo3 mo4 mo5 se mn ln hi wi br sp si le un ul px tm ps ft fk lea upr ris pl tx at_ kd va nx hm kn le_ s_ past slo isv pad_ pr ad prs ads)) hP [0, 1, 2, 3, 4, 5, 6, 7, 8, 9, 10, 11, 12, 13, 14, 15, 16, 17, 18, 19, 20, 21, 22, 23, 24, 25, 26, 27, 28, 29, 30, 31] rfl
                            have hD := va_D_subT (X' := (ws_law cI cC cZ cR mm sc sea th th1 th2 th3 th4 th5 th6 th7 th8 th9 pi pia cm cm1 cm2 cm3 pd pda rd rda hh hst sla mo mo1 mo2 mo3 mo4 mo5 se mn ln hi wi br sp si le un ul px tm ps ft fk lea upr ris pl tx at_ kd va nx hm kn le_ s_ past slo isv pad_ pr ad prs ads)) hD [0, 1, 2, 3, 4, 5, 6, 7, 8, 9, 10, 11, 12, 13, 14, 15, 16, 17, 18, 19, 20, 21, 22, 23, 24, 25, 26, 27, 28, 29, 30, 31] (by decide) rfl
                            generalize H1 = H at hP hS ⊢
                            refine lv_icmp_eq (tgt := 806) hx hb dL_law_502 (by decide) (fun c61 => ?_) (fun c61 => ?_)
                            · replace h := br_p c61 h
                              obtain ⟨x62, ex62, h⟩ := bd_sp h
                              refine lv_iinc (v := x62) (lv' := [(3, .int x62), (0, .ref b), (1, .ref mm), (2, .ref mo)]) hx hb dL_law_806 hl (k := 3) rfl (by rw [ex62]; rfl) (by decide) rfl (fun ls hl => ?_)
                              refine lv_goto (tgt := 18) hx hb dL_law_809 (by decide) ?_
                              exact ih x62 se mn ln hi wi br sp si le un ul px tm ps ft fk lea upr ris pl tx at_ kd va nx hm pr sv prs svs kn le_ s_ past slo isv pad_ ad ads _ _ _ _ _ h (by omega) (by omega) hP hD hS (lv_sub hl [1, 2, 3, 0] rfl)
                            · replace h := br_n c61 h
                              exact no_sm h
                          · replace h := br_n c63 h
                            by_cases c68 : z1 = 11
                            · replace h := br_p c68 h
                              refine lv_tableIn (tgt := 507) hx hb dL_law_33 (by rw [c68]; decide) (by rw [c68]; decide) (by rw [c68]; rfl) (by decide) ?_
                              refine lv_aload_n hx hb dL_law_507 rfl (lv_at hl 1 rfl) ?_
                              refine lv_aload_n hx hb dL_law_508 rfl (lv_at hl 0 rfl) ?_
                              refine lv_iload_n hx hb dL_law_509 rfl (lv_at hl 3 rfl) ?_
                              refine lv_iconst (v := 1) hx hb dL_law_510 (by decide) ?_
                              refine lv_iadd hx hb dL_law_511 ?_
                              obtain ⟨hin, h⟩ := gd_sp h
                              refine va_sld hx hb hX hbl hbA hS hin dL_law_512 ?_
                              obtain ⟨r64, hcr64, h⟩ := bn_sp h
                              have hPc := hP.sub (ws' := (ws_mainH cI cC cZ cR mm sc sea th th1 th2 th3 th4 th5 th6 th7 th8 th9 pi pia cm cm1 cm2 cm3 pd pda rd rda hh hst sla se mn ln hi wi br sp si le un ul px tm ps ft fk lea upr ris pl tx at_ kd va nx hm (hfn pr ad))) [0, 1, 2, 3, 4, 5, 6, 7, 8, 9, 10, 11, 12, 13, 14, 15, 16, 17, 18, 19, 20, 21, 22, 23, 24] rfl
                              have hDc := hD.sub (ws' := (ws_mainH cI cC cZ cR mm sc sea th th1 th2 th3 th4 th5 th6 th7 th8 th9 pi pia cm cm1 cm2 cm3 pd pda rd rda hh hst sla se mn ln hi wi br sp si le un ul px tm ps ft fk lea upr ris pl tx at_ kd va nx hm (hfn pr ad))) [0, 1, 2, 3, 4, 5, 6, 7, 8, 9, 10, 11, 12, 13, 14, 15, 16, 17, 18, 19, 20, 21, 22, 23, 24] (by decide) rfl
                              have hFc := va_free (wc := (ws_mainH cI cC cZ cR mm sc sea th th1 th2 th3 th4 th5 th6 th7 th8 th9 pi pia cm cm1 cm2 cm3 pd pda rd rda hh hst sla se mn ln hi wi br sp si le un ul px tm ps ft fk lea upr ris pl tx at_ kd va nx hm (hfn pr ad))) hD hS hA [0, 1, 2, 3, 4, 5, 6, 7, 8, 9, 10, 11, 12, 13, 14, 15, 16, 17, 18, 19, 20, 21, 22, 23, 24] rfl
                              refine va_calli (va_runV (As := [.int (xs (v3 + 1 : Int32).toNatClampNeg)]) (rest := []) ⟨hx, hb, hml, hown, hts⟩ (m_X7_count l D cI cC cZ cR mm sc sea th th1 th2 th3 th4 th5 th6 th7 th8 th9 pi pia cm cm1 cm2 cm3 pd pda rd rda hh hst sla _ se mn ln hi wi br sp si le un ul px tm ps ft fk lea upr ris pl tx at_ kd va nx hm (hfn pr ad) (xs (v3 + 1 : Int32).toNatClampNeg) r64 hcr64) (cwV 1 hts gL_law_X7_count rfl rfl rfl (by decide +kernel) ⟨Nat.le_of_ble_eq_true rfl, Nat.le_of_ble_eq_true rfl⟩) (cPc_pv hPc hK hDc (ci := 7) (q0 := 0) rfl rfl) rfl rfl hl.1 rfl (lv_room (Nat.le_of_ble_eq_true rfl)) dL_law_513 ⟨by show _ ≤ 600000; omega, by show _ ≤ 7302250; omega⟩) hS (fun q _ h => hFc q h) hFc (fun xq u t H1 locs ht hvm hw hB hz1 hk1 hS => ?_)
                              rw [hw]
                              obtain ⟨hP1, hD1⟩ := hB
                              rw [ht] at hP1
                              obtain ⟨hP, hD⟩ := jT1 (R := [(sla, .inl (cR, 2, .inr (.inr (.inr (.inr (hfn prs ads)))))), (mo, .inr (8, [.ref mo1, .ref mo2, .int kn, .ref mo3, .ref mo4, .ref mo5, .int le_])), (mo1, .inl (cI, 465, .inl s_)), (mo2, .inl (cI, 2790, .inl past)), (mo3, .inl (cI, 930, .inl slo)), (mo4, .inl (cZ, 2, .inl isv)), (mo5, .inl (cI, 80, .inl pad_))]) (w1 := (ws_mainH cI cC cZ cR mm sc sea th th1 th2 th3 th4 th5 th6 th7 th8 th9 pi pia cm cm1 cm2 cm3 pd pda rd rda hh hst sla se mn ln hi wi br sp si le un ul px tm ps ft fk lea upr ris pl tx at_ kd va nx hm (hfn pr ad))) hP hD [0, 1, 2, 3, 4, 5, 6, 7, 8, 9, 10, 11, 12, 13, 14, 15, 16, 17, 18, 19, 20, 21, 22, 23, 24] [25, 26, 27, 28, 29, 30, 31] rfl rfl (by decide) (by decide) hk1 hFc hP1 hD1
                              have hP := va_P_subT (X' := (ws_law cI cC cZ cR mm sc sea th th1 th2 th3 th4 th5 th6 th7 th8 th9 pi pia cm cm1 cm2 cm3 pd pda rd rda hh hst sla mo mo1 mo2 mo3 mo4 mo5 se mn ln hi wi br sp si le un ul px tm ps ft fk lea upr ris pl tx at_ kd va nx hm kn le_ s_ past slo isv pad_ pr ad prs ads)) hP [7, 8, 9, 10, 11, 12, 13, 14, 15, 16, 17, 18, 19, 20, 21, 22, 23, 24, 25, 26, 27, 28, 29, 30, 31, 0, 1, 2, 3, 4, 5, 6] rfl
                              have hD := va_D_subT (X' := (ws_law cI cC cZ cR mm sc sea th th1 th2 th3 th4 th5 th6 th7 th8 th9 pi pia cm cm1 cm2 cm3 pd pda rd rda hh hst sla mo mo1 mo2 mo3 mo4 mo5 se mn ln hi wi br sp si le un ul px tm ps ft fk lea upr ris pl tx at_ kd va nx hm kn le_ s_ past slo isv pad_ pr ad prs ads)) hD [7, 8, 9, 10, 11, 12, 13, 14, 15, 16, 17, 18, 19, 20, 21, 22, 23, 24, 25, 26, 27, 28, 29, 30, 31, 0, 1, 2, 3, 4, 5, 6] (by decide) rfl
                              generalize H1 = H at hP hS ⊢
                              refine lv_aload_n hx hb dL_law_516 rfl (lv_at hl 2 rfl) ?_
                              refine lv_aload_n hx hb dL_law_517 rfl (lv_at hl 0 rfl) ?_
                              refine lv_iload_n hx hb dL_law_518 rfl (lv_at hl 3 rfl) ?_
                              refine lv_iconst (v := 1) hx hb dL_law_519 (by decide) ?_
                              refine lv_iadd hx hb dL_law_520 ?_
                              obtain ⟨hin, h⟩ := gd_sp h
                              refine va_sld hx hb hX hbl hbA hS hin dL_law_521 ?_
                              obtain ⟨r65, hcr65, h⟩ := bn_sp h
                              have hPc := hP.sub (ws' := (ws_model cI cC cZ cR mo mo1 mo2 mo3 mo4 mo5 kn le_ s_ past slo isv pad_)) [26, 27, 28, 29, 30, 31] rfl
                              have hDc := hD.sub (ws' := (ws_model cI cC cZ cR mo mo1 mo2 mo3 mo4 mo5 kn le_ s_ past slo isv pad_)) [26, 27, 28, 29, 30, 31] (by decide) rfl
                              have hFc := va_free (wc := (ws_model cI cC cZ cR mo mo1 mo2 mo3 mo4 mo5 kn le_ s_ past slo isv pad_)) hD hS hA [26, 27, 28, 29, 30, 31] rfl
                              refine va_calli (va_runV (As := [.int (xs (v3 + 1 : Int32).toNatClampNeg)]) (rest := [.int r64]) ⟨hx, hb, hml, hown, hts⟩ (m_X8_count l D cI cC cZ cR mo mo1 mo2 mo3 mo4 mo5 _ kn le_ s_ past slo isv pad_ (xs (v3 + 1 : Int32).toNatClampNeg) r65 hcr65) (cwV 1 hts gL_law_X8_count rfl rfl rfl (by decide +kernel) ⟨Nat.le_of_ble_eq_true rfl, Nat.le_of_ble_eq_true rfl⟩) (cPc_pv hPc hK hDc (ci := 8) (q0 := 0) rfl rfl) rfl rfl hl.1 rfl (lv_room (Nat.le_of_ble_eq_true rfl)) dL_law_522 ⟨by show _ ≤ 600000; omega, by show _ ≤ 7302250; omega⟩) hS (fun q _ h => hFc q h) hFc (fun xq u t H1 locs ht hvm hw hB hz1 hk1 hS => ?_)
                              rw [hw]
                              obtain ⟨hP1, hD1⟩ := hB
                              rw [ht] at hP1
                              obtain ⟨hP, hD⟩ := jT1 (R := [(mm, .inr (7, [.ref sc, .ref cm, .ref hh, .ref sla, .ref pd, .ref rd])), (sc, .inr (5, [.ref sea, .ref th, .ref pi, .int tm, .int ps, .int ft, .int fk])), (sea, .inl (cI, 4, .inl se)), (th, .inr (6, [.int mn, .ref th1, .ref th2, .ref th3, .ref th4, .ref th5, .ref th6, .ref th7, .ref th8, .ref th9])), (th1, .inl (cI, 8, .inl ln)), (th2, .inl (cI, 8, .inl hi)), (th3, .inl (cI, 8, .inl wi)), (th4, .inl (cI, 8, .inl br)), (th5, .inl (cI, 8, .inl sp)), (th6, .inl (cI, 8, .inl si)), (th7, .inl (cI, 8, .inl le)), (th8, .inl (cI, 8, .inl un)), (th9, .inl (cI, 8, .inl ul)), (pi, .inr (3, [.ref pia])), (pia, .inl (cI, 384, .inl px)), (cm, .inr (0, [.ref cm1, .ref cm2, .ref cm3])), (cm1, .inl (cI, 24, .inl lea)), (cm2, .inl (cI, 24, .inl upr)), (cm3, .inl (cI, 25, .inl ris)), (pd, .inr (2, [.ref pda, .int pl])), (pda, .inl (cC, 80, .inl tx)), (rd, .inr (4, [.ref pd, .int at_, .int kd, .ref rda])), (rda, .inl (cI, 7, .inl va)), (hh, .inr (1, [.ref hst, .int nx, .int hm])), (hst, .inl (cR, 6, .inr (.inr (.inr (.inr (hfn pr ad)))))), (sla, .inl (cR, 2, .inr (.inr (.inr (.inr (hfn prs ads))))))]) (w1 := (ws_model cI cC cZ cR mo mo1 mo2 mo3 mo4 mo5 kn le_ s_ past slo isv pad_)) hP hD [26, 27, 28, 29, 30, 31] [0, 1, 2, 3, 4, 5, 6, 7, 8, 9, 10, 11, 12, 13, 14, 15, 16, 17, 18, 19, 20, 21, 22, 23, 24, 25] rfl rfl (by decide) (by decide) hk1 hFc hP1 hD1
                              have hP := va_P_subT (X' := (ws_law cI cC cZ cR mm sc sea th th1 th2 th3 th4 th5 th6 th7 th8 th9 pi pia cm cm1 cm2 cm3 pd pda rd rda hh hst sla mo mo1 mo2 mo3 mo4 mo5 se mn ln hi wi br sp si le un ul px tm ps ft fk lea upr ris pl tx at_ kd va nx hm kn le_ s_ past slo isv pad_ pr ad prs ads)) hP [0, 1, 2, 3, 4, 5, 6, 7, 8, 9, 10, 11, 12, 13, 14, 15, 16, 17, 18, 19, 20, 21, 22, 23, 24, 25, 26, 27, 28, 29, 30, 31] rfl
                              have hD := va_D_subT (X' := (ws_law cI cC cZ cR mm sc sea th th1 th2 th3 th4 th5 th6 th7 th8 th9 pi pia cm cm1 cm2 cm3 pd pda rd rda hh hst sla mo mo1 mo2 mo3 mo4 mo5 se mn ln hi wi br sp si le un ul px tm ps ft fk lea upr ris pl tx at_ kd va nx hm kn le_ s_ past slo isv pad_ pr ad prs ads)) hD [0, 1, 2, 3, 4, 5, 6, 7, 8, 9, 10, 11, 12, 13, 14, 15, 16, 17, 18, 19, 20, 21, 22, 23, 24, 25, 26, 27, 28, 29, 30, 31] (by decide) rfl
                              generalize H1 = H at hP hS ⊢
                              refine lv_icmp_eq (tgt := 806) hx hb dL_law_525 (by decide) (fun c66 => ?_) (fun c66 => ?_)
                              · replace h := br_p c66 h
                                obtain ⟨x67, ex67, h⟩ := bd_sp h
                                refine lv_iinc (v := x67) (lv' := [(3, .int x67), (0, .ref b), (1, .ref mm), (2, .ref mo)]) hx hb dL_law_806 hl (k := 3) rfl (by rw [ex67]; rfl) (by decide) rfl (fun ls hl => ?_)
                                refine lv_goto (tgt := 18) hx hb dL_law_809 (by decide) ?_
                                exact ih x67 se mn ln hi wi br sp si le un ul px tm ps ft fk lea upr ris pl tx at_ kd va nx hm pr sv prs svs kn le_ s_ past slo isv pad_ ad ads _ _ _ _ _ h (by omega) (by omega) hP hD hS (lv_sub hl [1, 2, 3, 0] rfl)
                              · replace h := br_n c66 h
                                exact no_sm h
                            · replace h := br_n c68 h
                              by_cases c73 : z1 = 12
                              · replace h := br_p c73 h
                                refine lv_tableIn (tgt := 530) hx hb dL_law_33 (by rw [c73]; decide) (by rw [c73]; decide) (by rw [c73]; rfl) (by decide) ?_
                                refine lv_aload_n hx hb dL_law_530 rfl (lv_at hl 1 rfl) ?_
                                refine lv_aload_n hx hb dL_law_531 rfl (lv_at hl 0 rfl) ?_
                                refine lv_iload_n hx hb dL_law_532 rfl (lv_at hl 3 rfl) ?_
                                refine lv_iconst (v := 1) hx hb dL_law_533 (by decide) ?_
                                refine lv_iadd hx hb dL_law_534 ?_
                                obtain ⟨hin, h⟩ := gd_sp h
                                refine va_sld hx hb hX hbl hbA hS hin dL_law_535 ?_
                                refine lv_aload_n hx hb dL_law_536 rfl (lv_at hl 0 rfl) ?_
                                refine lv_iload_n hx hb dL_law_537 rfl (lv_at hl 3 rfl) ?_
                                refine lv_iconst (v := 2) hx hb dL_law_538 (by decide) ?_
                                refine lv_iadd hx hb dL_law_539 ?_
                                obtain ⟨hin, h⟩ := gd_sp h
                                refine va_sld hx hb hX hbl hbA hS hin dL_law_540 ?_
                                refine lv_aload_n hx hb dL_law_541 rfl (lv_at hl 0 rfl) ?_
                                refine lv_iload_n hx hb dL_law_542 rfl (lv_at hl 3 rfl) ?_
                                refine lv_iconst (v := 3) hx hb dL_law_543 (by decide) ?_
                                refine lv_iadd hx hb dL_law_544 ?_
                                obtain ⟨hin, h⟩ := gd_sp h
                                refine va_sld hx hb hX hbl hbA hS hin dL_law_545 ?_
                                obtain ⟨r69, hcr69, h⟩ := bn_sp h
                                have hPc := hP.sub (ws' := (ws_main cI cC cZ cR mm sc sea th th1 th2 th3 th4 th5 th6 th7 th8 th9 pi pia cm cm1 cm2 cm3 pd pda rd rda hh sla se mn ln hi wi br sp si le un ul px tm ps ft fk lea upr ris pl tx at_ kd va)) [0, 1, 2, 3, 4, 5, 6, 7, 8, 9, 10, 11, 12, 13, 14, 15, 16, 17, 18, 19, 20, 21, 22] rfl
                                have hDc := hD.sub (ws' := (ws_main cI cC cZ cR mm sc sea th th1 th2 th3 th4 th5 th6 th7 th8 th9 pi pia cm cm1 cm2 cm3 pd pda rd rda hh sla se mn ln hi wi br sp si le un ul px tm ps ft fk lea upr ris pl tx at_ kd va)) [0, 1, 2, 3, 4, 5, 6, 7, 8, 9, 10, 11, 12, 13, 14, 15, 16, 17, 18, 19, 20, 21, 22] (by decide) rfl
                                have hFc := va_free (wc := (ws_main cI cC cZ cR mm sc sea th th1 th2 th3 th4 th5 th6 th7 th8 th9 pi pia cm cm1 cm2 cm3 pd pda rd rda hh sla se mn ln hi wi br sp si le un ul px tm ps ft fk lea upr ris pl tx at_ kd va)) hD hS hA [0, 1, 2, 3, 4, 5, 6, 7, 8, 9, 10, 11, 12, 13, 14, 15, 16, 17, 18, 19, 20, 21, 22] rfl
                                refine va_calli (va_runV (As := [.int (xs (v3 + 1 : Int32).toNatClampNeg), .int (xs (v3 + 2 : Int32).toNatClampNeg), .int (xs (v3 + 3 : Int32).toNatClampNeg)]) (rest := []) ⟨hx, hb, hml, hown, hts⟩ (m_X7_seen l D cI cC cZ cR mm sc sea th th1 th2 th3 th4 th5 th6 th7 th8 th9 pi pia cm cm1 cm2 cm3 pd pda rd rda hh sla _ se mn ln hi wi br sp si le un ul px tm ps ft fk lea upr ris pl tx at_ kd va (xs (v3 + 1 : Int32).toNatClampNeg) (xs (v3 + 2 : Int32).toNatClampNeg) (xs (v3 + 3 : Int32).toNatClampNeg) r69 hcr69) (cwV 3 hts gL_law_X7_seen rfl rfl rfl (by decide +kernel) ⟨Nat.le_of_ble_eq_true rfl, Nat.le_of_ble_eq_true rfl⟩) (cPc_pv hPc hK hDc (ci := 7) (q0 := 0) rfl rfl) rfl rfl hl.1 rfl (lv_room (Nat.le_of_ble_eq_true rfl)) dL_law_546 ⟨by show _ ≤ 600000; omega, by show _ ≤ 7302250; omega⟩) hS (fun q _ h => hFc q h) hFc (fun xq u t H1 locs ht hvm hw hB hz1 hk1 hS => ?_)
                                rw [hw]
                                obtain ⟨hP1, hD1⟩ := hB
                                rw [ht] at hP1
                                obtain ⟨hP, hD⟩ := jT1 (R := [(hh, .inr (1, [.ref hst, .int nx, .int hm])), (hst, .inl (cR, 6, .inr (.inr (.inr (.inr (hfn pr ad)))))), (sla, .inl (cR, 2, .inr (.inr (.inr (.inr (hfn prs ads)))))), (mo, .inr (8, [.ref mo1, .ref mo2, .int kn, .ref mo3, .ref mo4, .ref mo5, .int le_])), (mo1, .inl (cI, 465, .inl s_)), (mo2, .inl (cI, 2790, .inl past)), (mo3, .inl (cI, 930, .inl slo)), (mo4, .inl (cZ, 2, .inl isv)), (mo5, .inl (cI, 80, .inl pad_))]) (w1 := (ws_main cI cC cZ cR mm sc sea th th1 th2 th3 th4 th5 th6 th7 th8 th9 pi pia cm cm1 cm2 cm3 pd pda rd rda hh sla se mn ln hi wi br sp si le un ul px tm ps ft fk lea r69.2.1 r69.2.2 pl tx at_ kd va)) hP hD [0, 1, 2, 3, 4, 5, 6, 7, 8, 9, 10, 11, 12, 13, 14, 15, 16, 17, 18, 19, 20, 21, 22] [23, 24, 25, 26, 27, 28, 29, 30, 31] rfl rfl (by decide) (by decide) hk1 hFc hP1 hD1
                                have hP := va_P_subT (X' := (ws_law cI cC cZ cR mm sc sea th th1 th2 th3 th4 th5 th6 th7 th8 th9 pi pia cm cm1 cm2 cm3 pd pda rd rda hh hst sla mo mo1 mo2 mo3 mo4 mo5 se mn ln hi wi br sp si le un ul px tm ps ft fk lea r69.2.1 r69.2.2 pl tx at_ kd va nx hm kn le_ s_ past slo isv pad_ pr ad prs ads)) hP [9, 10, 11, 12, 13, 14, 15, 16, 17, 18, 19, 20, 21, 22, 23, 24, 25, 26, 27, 28, 29, 30, 31, 0, 1, 2, 3, 4, 5, 6, 7, 8] rfl
                                have hD := va_D_subT (X' := (ws_law cI cC cZ cR mm sc sea th th1 th2 th3 th4 th5 th6 th7 th8 th9 pi pia cm cm1 cm2 cm3 pd pda rd rda hh hst sla mo mo1 mo2 mo3 mo4 mo5 se mn ln hi wi br sp si le un ul px tm ps ft fk lea r69.2.1 r69.2.2 pl tx at_ kd va nx hm kn le_ s_ past slo isv pad_ pr ad prs ads)) hD [9, 10, 11, 12, 13, 14, 15, 16, 17, 18, 19, 20, 21, 22, 23, 24, 25, 26, 27, 28, 29, 30, 31, 0, 1, 2, 3, 4, 5, 6, 7, 8] (by decide) rfl
                                generalize H1 = H at hP hS ⊢
                                refine lv_aload_n hx hb dL_law_549 rfl (lv_at hl 2 rfl) ?_
                                refine lv_aload_n hx hb dL_law_550 rfl (lv_at hl 0 rfl) ?_
                                refine lv_iload_n hx hb dL_law_551 rfl (lv_at hl 3 rfl) ?_
                                refine lv_iconst (v := 1) hx hb dL_law_552 (by decide) ?_
                                refine lv_iadd hx hb dL_law_553 ?_
                                obtain ⟨hin, h⟩ := gd_sp h
                                refine va_sld hx hb hX hbl hbA hS hin dL_law_554 ?_
                                refine lv_aload_n hx hb dL_law_555 rfl (lv_at hl 0 rfl) ?_
                                refine lv_iload_n hx hb dL_law_556 rfl (lv_at hl 3 rfl) ?_
                                refine lv_iconst (v := 2) hx hb dL_law_557 (by decide) ?_
                                refine lv_iadd hx hb dL_law_558 ?_
                                obtain ⟨hin, h⟩ := gd_sp h
                                refine va_sld hx hb hX hbl hbA hS hin dL_law_559 ?_
                                refine lv_aload_n hx hb dL_law_560 rfl (lv_at hl 0 rfl) ?_
                                refine lv_iload_n hx hb dL_law_561 rfl (lv_at hl 3 rfl) ?_
                                refine lv_iconst (v := 3) hx hb dL_law_562 (by decide) ?_
                                refine lv_iadd hx hb dL_law_563 ?_
                                obtain ⟨hin, h⟩ := gd_sp h
                                refine va_sld hx hb hX hbl hbA hS hin dL_law_564 ?_
                                obtain ⟨r70, hcr70, h⟩ := bn_sp h
                                have hPc := hP.sub (ws' := (ws_model cI cC cZ cR mo mo1 mo2 mo3 mo4 mo5 kn le_ s_ past slo isv pad_)) [26, 27, 28, 29, 30, 31] rfl
                                have hDc := hD.sub (ws' := (ws_model cI cC cZ cR mo mo1 mo2 mo3 mo4 mo5 kn le_ s_ past slo isv pad_)) [26, 27, 28, 29, 30, 31] (by decide) rfl
                                have hFc := va_free (wc := (ws_model cI cC cZ cR mo mo1 mo2 mo3 mo4 mo5 kn le_ s_ past slo isv pad_)) hD hS hA [26, 27, 28, 29, 30, 31] rfl
                                refine va_calli (va_runV (As := [.int (xs (v3 + 1 : Int32).toNatClampNeg), .int (xs (v3 + 2 : Int32).toNatClampNeg), .int (xs (v3 + 3 : Int32).toNatClampNeg)]) (rest := [.int r69.1]) ⟨hx, hb, hml, hown, hts⟩ (m_X8_seen l D cI cC cZ cR mo mo1 mo2 mo3 mo4 mo5 _ kn le_ s_ past slo isv pad_ (xs (v3 + 1 : Int32).toNatClampNeg) (xs (v3 + 2 : Int32).toNatClampNeg) (xs (v3 + 3 : Int32).toNatClampNeg) r70 hcr70) (cwV 3 hts gL_law_X8_seen rfl rfl rfl (by decide +kernel) ⟨Nat.le_of_ble_eq_true rfl, Nat.le_of_ble_eq_true rfl⟩) (cPc_pv hPc hK hDc (ci := 8) (q0 := 0) rfl rfl) rfl rfl hl.1 rfl (lv_room (Nat.le_of_ble_eq_true rfl)) dL_law_565 ⟨by show _ ≤ 600000; omega, by show _ ≤ 7302250; omega⟩) hS (fun q _ h => hFc q h) hFc (fun xq u t H1 locs ht hvm hw hB hz1 hk1 hS => ?_)
                                rw [hw]
                                obtain ⟨hP1, hD1⟩ := hB
                                rw [ht] at hP1
                                obtain ⟨hP, hD⟩ := jT1 (R := [(mm, .inr (7, [.ref sc, .ref cm, .ref hh, .ref sla, .ref pd, .ref rd])), (sc, .inr (5, [.ref sea, .ref th, .ref pi, .int tm, .int ps, .int ft, .int fk])), (sea, .inl (cI, 4, .inl se)), (th, .inr (6, [.int mn, .ref th1, .ref th2, .ref th3, .ref th4, .ref th5, .ref th6, .ref th7, .ref th8, .ref th9])), (th1, .inl (cI, 8, .inl ln)), (th2, .inl (cI, 8, .inl hi)), (th3, .inl (cI, 8, .inl wi)), (th4, .inl (cI, 8, .inl br)), (th5, .inl (cI, 8, .inl sp)), (th6, .inl (cI, 8, .inl si)), (th7, .inl (cI, 8, .inl le)), (th8, .inl (cI, 8, .inl un)), (th9, .inl (cI, 8, .inl ul)), (pi, .inr (3, [.ref pia])), (pia, .inl (cI, 384, .inl px)), (cm, .inr (0, [.ref cm1, .ref cm2, .ref cm3])), (cm1, .inl (cI, 24, .inl lea)), (cm2, .inl (cI, 24, .inl r69.2.1)), (cm3, .inl (cI, 25, .inl r69.2.2)), (pd, .inr (2, [.ref pda, .int pl])), (pda, .inl (cC, 80, .inl tx)), (rd, .inr (4, [.ref pd, .int at_, .int kd, .ref rda])), (rda, .inl (cI, 7, .inl va)), (hh, .inr (1, [.ref hst, .int nx, .int hm])), (hst, .inl (cR, 6, .inr (.inr (.inr (.inr (hfn pr ad)))))), (sla, .inl (cR, 2, .inr (.inr (.inr (.inr (hfn prs ads))))))]) (w1 := (ws_model cI cC cZ cR mo mo1 mo2 mo3 mo4 mo5 kn le_ s_ past slo isv pad_)) hP hD [26, 27, 28, 29, 30, 31] [0, 1, 2, 3, 4, 5, 6, 7, 8, 9, 10, 11, 12, 13, 14, 15, 16, 17, 18, 19, 20, 21, 22, 23, 24, 25] rfl rfl (by decide) (by decide) hk1 hFc hP1 hD1
                                have hP := va_P_subT (X' := (ws_law cI cC cZ cR mm sc sea th th1 th2 th3 th4 th5 th6 th7 th8 th9 pi pia cm cm1 cm2 cm3 pd pda rd rda hh hst sla mo mo1 mo2 mo3 mo4 mo5 se mn ln hi wi br sp si le un ul px tm ps ft fk lea r69.2.1 r69.2.2 pl tx at_ kd va nx hm kn le_ s_ past slo isv pad_ pr ad prs ads)) hP [0, 1, 2, 3, 4, 5, 6, 7, 8, 9, 10, 11, 12, 13, 14, 15, 16, 17, 18, 19, 20, 21, 22, 23, 24, 25, 26, 27, 28, 29, 30, 31] rfl
                                have hD := va_D_subT (X' := (ws_law cI cC cZ cR mm sc sea th th1 th2 th3 th4 th5 th6 th7 th8 th9 pi pia cm cm1 cm2 cm3 pd pda rd rda hh hst sla mo mo1 mo2 mo3 mo4 mo5 se mn ln hi wi br sp si le un ul px tm ps ft fk lea r69.2.1 r69.2.2 pl tx at_ kd va nx hm kn le_ s_ past slo isv pad_ pr ad prs ads)) hD [0, 1, 2, 3, 4, 5, 6, 7, 8, 9, 10, 11, 12, 13, 14, 15, 16, 17, 18, 19, 20, 21, 22, 23, 24, 25, 26, 27, 28, 29, 30, 31] (by decide) rfl
                                generalize H1 = H at hP hS ⊢
                                refine lv_icmp_eq (tgt := 806) hx hb dL_law_568 (by decide) (fun c71 => ?_) (fun c71 => ?_)
                                · replace h := br_p c71 h
                                  obtain ⟨x72, ex72, h⟩ := bd_sp h
                                  refine lv_iinc (v := x72) (lv' := [(3, .int x72), (0, .ref b), (1, .ref mm), (2, .ref mo)]) hx hb dL_law_806 hl (k := 3) rfl (by rw [ex72]; rfl) (by decide) rfl (fun ls hl => ?_)
                                  refine lv_goto (tgt := 18) hx hb dL_law_809 (by decide) ?_
                                  exact ih x72 se mn ln hi wi br sp si le un ul px tm ps ft fk lea r69.2.1 r69.2.2 pl tx at_ kd va nx hm pr sv prs svs kn le_ s_ past slo isv pad_ ad ads _ _ _ _ _ h (by omega) (by omega) hP hD hS (lv_sub hl [1, 2, 3, 0] rfl)
                                · replace h := br_n c71 h
                                  exact no_sm h
                              · replace h := br_n c73 h
                                by_cases c78 : z1 = 13
                                · replace h := br_p c78 h
                                  refine lv_tableIn (tgt := 573) hx hb dL_law_33 (by rw [c78]; decide) (by rw [c78]; decide) (by rw [c78]; rfl) (by decide) ?_
                                  refine lv_aload_n hx hb dL_law_573 rfl (lv_at hl 1 rfl) ?_
                                  refine lv_aload_n hx hb dL_law_574 rfl (lv_at hl 0 rfl) ?_
                                  refine lv_iload_n hx hb dL_law_575 rfl (lv_at hl 3 rfl) ?_
                                  refine lv_iconst (v := 1) hx hb dL_law_576 (by decide) ?_
                                  refine lv_iadd hx hb dL_law_577 ?_
                                  obtain ⟨hin, h⟩ := gd_sp h
                                  refine va_sld hx hb hX hbl hbA hS hin dL_law_578 ?_
                                  obtain ⟨r74, hcr74, h⟩ := bn_sp h
                                  have hPc := hP.sub (ws' := (ws_main cI cC cZ cR mm sc sea th th1 th2 th3 th4 th5 th6 th7 th8 th9 pi pia cm cm1 cm2 cm3 pd pda rd rda hh sla se mn ln hi wi br sp si le un ul px tm ps ft fk lea upr ris pl tx at_ kd va)) [0, 1, 2, 3, 4, 5, 6, 7, 8, 9, 10, 11, 12, 13, 14, 15, 16, 17, 18, 19, 20, 21, 22] rfl
                                  have hDc := hD.sub (ws' := (ws_main cI cC cZ cR mm sc sea th th1 th2 th3 th4 th5 th6 th7 th8 th9 pi pia cm cm1 cm2 cm3 pd pda rd rda hh sla se mn ln hi wi br sp si le un ul px tm ps ft fk lea upr ris pl tx at_ kd va)) [0, 1, 2, 3, 4, 5, 6, 7, 8, 9, 10, 11, 12, 13, 14, 15, 16, 17, 18, 19, 20, 21, 22] (by decide) rfl
                                  have hFc := va_free (wc := (ws_main cI cC cZ cR mm sc sea th th1 th2 th3 th4 th5 th6 th7 th8 th9 pi pia cm cm1 cm2 cm3 pd pda rd rda hh sla se mn ln hi wi br sp si le un ul px tm ps ft fk lea upr ris pl tx at_ kd va)) hD hS hA [0, 1, 2, 3, 4, 5, 6, 7, 8, 9, 10, 11, 12, 13, 14, 15, 16, 17, 18, 19, 20, 21, 22] rfl
                                  refine va_calli (va_runV (As := [.int (xs (v3 + 1 : Int32).toNatClampNeg)]) (rest := []) ⟨hx, hb, hml, hown, hts⟩ (m_X7_leans l D cI cC cZ cR mm sc sea th th1 th2 th3 th4 th5 th6 th7 th8 th9 pi pia cm cm1 cm2 cm3 pd pda rd rda hh sla _ se mn ln hi wi br sp si le un ul px tm ps ft fk lea upr ris pl tx at_ kd va (xs (v3 + 1 : Int32).toNatClampNeg) r74 hcr74) (cwV 1 hts gL_law_X7_leans rfl rfl rfl (by decide +kernel) ⟨Nat.le_of_ble_eq_true rfl, Nat.le_of_ble_eq_true rfl⟩) (cPc_pv hPc hK hDc (ci := 7) (q0 := 0) rfl rfl) rfl rfl hl.1 rfl (lv_room (Nat.le_of_ble_eq_true rfl)) dL_law_579 ⟨by show _ ≤ 600000; omega, by show _ ≤ 7302250; omega⟩) hS (fun q _ h => hFc q h) hFc (fun xq u t H1 locs ht hvm hw hB hz1 hk1 hS => ?_)
                                  rw [hw]
                                  obtain ⟨hP1, hD1⟩ := hB
                                  rw [ht] at hP1
                                  obtain ⟨hP, hD⟩ := jT1 (R := [(hh, .inr (1, [.ref hst, .int nx, .int hm])), (hst, .inl (cR, 6, .inr (.inr (.inr (.inr (hfn pr ad)))))), (sla, .inl (cR, 2, .inr (.inr (.inr (.inr (hfn prs ads)))))), (mo, .inr (8, [.ref mo1, .ref mo2, .int kn, .ref mo3, .ref mo4, .ref mo5, .int le_])), (mo1, .inl (cI, 465, .inl s_)), (mo2, .inl (cI, 2790, .inl past)), (mo3, .inl (cI, 930, .inl slo)), (mo4, .inl (cZ, 2, .inl isv)), (mo5, .inl (cI, 80, .inl pad_))]) (w1 := (ws_main cI cC cZ cR mm sc sea th th1 th2 th3 th4 th5 th6 th7 th8 th9 pi pia cm cm1 cm2 cm3 pd pda rd rda hh sla se mn ln hi wi br sp si le un ul px tm ps ft fk lea upr ris pl tx at_ kd va)) hP hD [0, 1, 2, 3, 4, 5, 6, 7, 8, 9, 10, 11, 12, 13, 14, 15, 16, 17, 18, 19, 20, 21, 22] [23, 24, 25, 26, 27, 28, 29, 30, 31] rfl rfl (by decide) (by decide) hk1 hFc hP1 hD1
                                  have hP := va_P_subT (X' := (ws_law cI cC cZ cR mm sc sea th th1 th2 th3 th4 th5 th6 th7 th8 th9 pi pia cm cm1 cm2 cm3 pd pda rd rda hh hst sla mo mo1 mo2 mo3 mo4 mo5 se mn ln hi wi br sp si le un ul px tm ps ft fk lea upr ris pl tx at_ kd va nx hm kn le_ s_ past slo isv pad_ pr ad prs ads)) hP [9, 10, 11, 12, 13, 14, 15, 16, 17, 18, 19, 20, 21, 22, 23, 24, 25, 26, 27, 28, 29, 30, 31, 0, 1, 2, 3, 4, 5, 6, 7, 8] rfl
                                  have hD := va_D_subT (X' := (ws_law cI cC cZ cR mm sc sea th th1 th2 th3 th4 th5 th6 th7 th8 th9 pi pia cm cm1 cm2 cm3 pd pda rd rda hh hst sla mo mo1 mo2 mo3 mo4 mo5 se mn ln hi wi br sp si le un ul px tm ps ft fk lea upr ris pl tx at_ kd va nx hm kn le_ s_ past slo isv pad_ pr ad prs ads)) hD [9, 10, 11, 12, 13, 14, 15, 16, 17, 18, 19, 20, 21, 22, 23, 24, 25, 26, 27, 28, 29, 30, 31, 0, 1, 2, 3, 4, 5, 6, 7, 8] (by decide) rfl
                                  generalize H1 = H at hP hS ⊢
                                  refine lv_aload_n hx hb dL_law_582 rfl (lv_at hl 2 rfl) ?_
                                  refine lv_aload_n hx hb dL_law_583 rfl (lv_at hl 0 rfl) ?_
                                  refine lv_iload_n hx hb dL_law_584 rfl (lv_at hl 3 rfl) ?_
                                  refine lv_iconst (v := 1) hx hb dL_law_585 (by decide) ?_
                                  refine lv_iadd hx hb dL_law_586 ?_
                                  obtain ⟨hin, h⟩ := gd_sp h
                                  refine va_sld hx hb hX hbl hbA hS hin dL_law_587 ?_
                                  obtain ⟨r75, hcr75, h⟩ := bn_sp h
                                  have hPc := hP.sub (ws' := (ws_model cI cC cZ cR mo mo1 mo2 mo3 mo4 mo5 kn le_ s_ past slo isv pad_)) [26, 27, 28, 29, 30, 31] rfl
                                  have hDc := hD.sub (ws' := (ws_model cI cC cZ cR mo mo1 mo2 mo3 mo4 mo5 kn le_ s_ past slo isv pad_)) [26, 27, 28, 29, 30, 31] (by decide) rfl
                                  have hFc := va_free (wc := (ws_model cI cC cZ cR mo mo1 mo2 mo3 mo4 mo5 kn le_ s_ past slo isv pad_)) hD hS hA [26, 27, 28, 29, 30, 31] rfl
                                  refine va_calli (va_runV (As := [.int (xs (v3 + 1 : Int32).toNatClampNeg)]) (rest := [.int r74]) ⟨hx, hb, hml, hown, hts⟩ (m_X8_leans l D cI cC cZ cR mo mo1 mo2 mo3 mo4 mo5 _ kn le_ s_ past slo isv pad_ (xs (v3 + 1 : Int32).toNatClampNeg) r75 hcr75) (cwV 1 hts gL_law_X8_leans rfl rfl rfl (by decide +kernel) ⟨Nat.le_of_ble_eq_true rfl, Nat.le_of_ble_eq_true rfl⟩) (cPc_pv hPc hK hDc (ci := 8) (q0 := 0) rfl rfl) rfl rfl hl.1 rfl (lv_room (Nat.le_of_ble_eq_true rfl)) dL_law_588 ⟨by show _ ≤ 600000; omega, by show _ ≤ 7302250; omega⟩) hS (fun q _ h => hFc q h) hFc (fun xq u t H1 locs ht hvm hw hB hz1 hk1 hS => ?_)
                                  rw [hw]
                                  obtain ⟨hP1, hD1⟩ := hB
                                  rw [ht] at hP1
                                  obtain ⟨hP, hD⟩ := jT1 (R := [(mm, .inr (7, [.ref sc, .ref cm, .ref hh, .ref sla, .ref pd, .ref rd])), (sc, .inr (5, [.ref sea, .ref th, .ref pi, .int tm, .int ps, .int ft, .int fk])), (sea, .inl (cI, 4, .inl se)), (th, .inr (6, [.int mn, .ref th1, .ref th2, .ref th3, .ref th4, .ref th5, .ref th6, .ref th7, .ref th8, .ref th9])), (th1, .inl (cI, 8, .inl ln)), (th2, .inl (cI, 8, .inl hi)), (th3, .inl (cI, 8, .inl wi)), (th4, .inl (cI, 8, .inl br)), (th5, .inl (cI, 8, .inl sp)), (th6, .inl (cI, 8, .inl si)), (th7, .inl (cI, 8, .inl le)), (th8, .inl (cI, 8, .inl un)), (th9, .inl (cI, 8, .inl ul)), (pi, .inr (3, [.ref pia])), (pia, .inl (cI, 384, .inl px)), (cm, .inr (0, [.ref cm1, .ref cm2, .ref cm3])), (cm1, .inl (cI, 24, .inl lea)), (cm2, .inl (cI, 24, .inl upr)), (cm3, .inl (cI, 25, .inl ris)), (pd, .inr (2, [.ref pda, .int pl])), (pda, .inl (cC, 80, .inl tx)), (rd, .inr (4, [.ref pd, .int at_, .int kd, .ref rda])), (rda, .inl (cI, 7, .inl va)), (hh, .inr (1, [.ref hst, .int nx, .int hm])), (hst, .inl (cR, 6, .inr (.inr (.inr (.inr (hfn pr ad)))))), (sla, .inl (cR, 2, .inr (.inr (.inr (.inr (hfn prs ads))))))]) (w1 := (ws_model cI cC cZ cR mo mo1 mo2 mo3 mo4 mo5 kn le_ s_ past slo isv pad_)) hP hD [26, 27, 28, 29, 30, 31] [0, 1, 2, 3, 4, 5, 6, 7, 8, 9, 10, 11, 12, 13, 14, 15, 16, 17, 18, 19, 20, 21, 22, 23, 24, 25] rfl rfl (by decide) (by decide) hk1 hFc hP1 hD1
                                  have hP := va_P_subT (X' := (ws_law cI cC cZ cR mm sc sea th th1 th2 th3 th4 th5 th6 th7 th8 th9 pi pia cm cm1 cm2 cm3 pd pda rd rda hh hst sla mo mo1 mo2 mo3 mo4 mo5 se mn ln hi wi br sp si le un ul px tm ps ft fk lea upr ris pl tx at_ kd va nx hm kn le_ s_ past slo isv pad_ pr ad prs ads)) hP [0, 1, 2, 3, 4, 5, 6, 7, 8, 9, 10, 11, 12, 13, 14, 15, 16, 17, 18, 19, 20, 21, 22, 23, 24, 25, 26, 27, 28, 29, 30, 31] rfl
                                  have hD := va_D_subT (X' := (ws_law cI cC cZ cR mm sc sea th th1 th2 th3 th4 th5 th6 th7 th8 th9 pi pia cm cm1 cm2 cm3 pd pda rd rda hh hst sla mo mo1 mo2 mo3 mo4 mo5 se mn ln hi wi br sp si le un ul px tm ps ft fk lea upr ris pl tx at_ kd va nx hm kn le_ s_ past slo isv pad_ pr ad prs ads)) hD [0, 1, 2, 3, 4, 5, 6, 7, 8, 9, 10, 11, 12, 13, 14, 15, 16, 17, 18, 19, 20, 21, 22, 23, 24, 25, 26, 27, 28, 29, 30, 31] (by decide) rfl
                                  generalize H1 = H at hP hS ⊢
                                  refine lv_icmp_eq (tgt := 806) hx hb dL_law_591 (by decide) (fun c76 => ?_) (fun c76 => ?_)
                                  · replace h := br_p c76 h
                                    obtain ⟨x77, ex77, h⟩ := bd_sp h
                                    refine lv_iinc (v := x77) (lv' := [(3, .int x77), (0, .ref b), (1, .ref mm), (2, .ref mo)]) hx hb dL_law_806 hl (k := 3) rfl (by rw [ex77]; rfl) (by decide) rfl (fun ls hl => ?_)
                                    refine lv_goto (tgt := 18) hx hb dL_law_809 (by decide) ?_
                                    exact ih x77 se mn ln hi wi br sp si le un ul px tm ps ft fk lea upr ris pl tx at_ kd va nx hm pr sv prs svs kn le_ s_ past slo isv pad_ ad ads _ _ _ _ _ h (by omega) (by omega) hP hD hS (lv_sub hl [1, 2, 3, 0] rfl)
                                  · replace h := br_n c76 h
                                    exact no_sm h
                                · replace h := br_n c78 h
                                  by_cases c83 : z1 = 14
                                  · replace h := br_p c83 h
                                    refine lv_tableIn (tgt := 596) hx hb dL_law_33 (by rw [c83]; decide) (by rw [c83]; decide) (by rw [c83]; rfl) (by decide) ?_
                                    refine lv_aload_n hx hb dL_law_596 rfl (lv_at hl 1 rfl) ?_
                                    obtain ⟨r79, hcr79, h⟩ := bn_sp h
                                    have hPc := hP.sub (ws' := (ws_main cI cC cZ cR mm sc sea th th1 th2 th3 th4 th5 th6 th7 th8 th9 pi pia cm cm1 cm2 cm3 pd pda rd rda hh sla se mn ln hi wi br sp si le un ul px tm ps ft fk lea upr ris pl tx at_ kd va)) [0, 1, 2, 3, 4, 5, 6, 7, 8, 9, 10, 11, 12, 13, 14, 15, 16, 17, 18, 19, 20, 21, 22] rfl
                                    have hDc := hD.sub (ws' := (ws_main cI cC cZ cR mm sc sea th th1 th2 th3 th4 th5 th6 th7 th8 th9 pi pia cm cm1 cm2 cm3 pd pda rd rda hh sla se mn ln hi wi br sp si le un ul px tm ps ft fk lea upr ris pl tx at_ kd va)) [0, 1, 2, 3, 4, 5, 6, 7, 8, 9, 10, 11, 12, 13, 14, 15, 16, 17, 18, 19, 20, 21, 22] (by decide) rfl
                                    have hFc := va_free (wc := (ws_main cI cC cZ cR mm sc sea th th1 th2 th3 th4 th5 th6 th7 th8 th9 pi pia cm cm1 cm2 cm3 pd pda rd rda hh sla se mn ln hi wi br sp si le un ul px tm ps ft fk lea upr ris pl tx at_ kd va)) hD hS hA [0, 1, 2, 3, 4, 5, 6, 7, 8, 9, 10, 11, 12, 13, 14, 15, 16, 17, 18, 19, 20, 21, 22] rfl
                                    refine va_calli (va_runV (As := []) (rest := []) ⟨hx, hb, hml, hown, hts⟩ (m_X7_bent l D cI cC cZ cR mm sc sea th th1 th2 th3 th4 th5 th6 th7 th8 th9 pi pia cm cm1 cm2 cm3 pd pda rd rda hh sla _ se mn ln hi wi br sp si le un ul px tm ps ft fk lea upr ris pl tx at_ kd va  r79 hcr79) (cwV 0 hts gL_law_X7_bent rfl rfl rfl (by decide +kernel) ⟨Nat.le_of_ble_eq_true rfl, Nat.le_of_ble_eq_true rfl⟩) (cPc_pv hPc hK hDc (ci := 7) (q0 := 0) rfl rfl) rfl rfl hl.1 rfl (lv_room (Nat.le_of_ble_eq_true rfl)) dL_law_597 ⟨by show _ ≤ 600000; omega, by show _ ≤ 7302250; omega⟩) hS (fun q _ h => hFc q h) hFc (fun xq u t H1 locs ht hvm hw hB hz1 hk1 hS => ?_)
                                    rw [hw]
                                    obtain ⟨hP1, hD1⟩ := hB
                                    rw [ht] at hP1
                                    obtain ⟨hP, hD⟩ := jT1 (R := [(hh, .inr (1, [.ref hst, .int nx, .int hm])), (hst, .inl (cR, 6, .inr (.inr (.inr (.inr (hfn pr ad)))))), (sla, .inl (cR, 2, .inr (.inr (.inr (.inr (hfn prs ads)))))), (mo, .inr (8, [.ref mo1, .ref mo2, .int kn, .ref mo3, .ref mo4, .ref mo5, .int le_])), (mo1, .inl (cI, 465, .inl s_)), (mo2, .inl (cI, 2790, .inl past)), (mo3, .inl (cI, 930, .inl slo)), (mo4, .inl (cZ, 2, .inl isv)), (mo5, .inl (cI, 80, .inl pad_))]) (w1 := (ws_main cI cC cZ cR mm sc sea th th1 th2 th3 th4 th5 th6 th7 th8 th9 pi pia cm cm1 cm2 cm3 pd pda rd rda hh sla se mn ln hi wi br sp si le un ul px tm ps ft fk r79.2.1 r79.2.2.1 r79.2.2.2 pl tx at_ kd va)) hP hD [0, 1, 2, 3, 4, 5, 6, 7, 8, 9, 10, 11, 12, 13, 14, 15, 16, 17, 18, 19, 20, 21, 22] [23, 24, 25, 26, 27, 28, 29, 30, 31] rfl rfl (by decide) (by decide) hk1 hFc hP1 hD1
                                    have hP := va_P_subT (X' := (ws_law cI cC cZ cR mm sc sea th th1 th2 th3 th4 th5 th6 th7 th8 th9 pi pia cm cm1 cm2 cm3 pd pda rd rda hh hst sla mo mo1 mo2 mo3 mo4 mo5 se mn ln hi wi br sp si le un ul px tm ps ft fk r79.2.1 r79.2.2.1 r79.2.2.2 pl tx at_ kd va nx hm kn le_ s_ past slo isv pad_ pr ad prs ads)) hP [9, 10, 11, 12, 13, 14, 15, 16, 17, 18, 19, 20, 21, 22, 23, 24, 25, 26, 27, 28, 29, 30, 31, 0, 1, 2, 3, 4, 5, 6, 7, 8] rfl
                                    have hD := va_D_subT (X' := (ws_law cI cC cZ cR mm sc sea th th1 th2 th3 th4 th5 th6 th7 th8 th9 pi pia cm cm1 cm2 cm3 pd pda rd rda hh hst sla mo mo1 mo2 mo3 mo4 mo5 se mn ln hi wi br sp si le un ul px tm ps ft fk r79.2.1 r79.2.2.1 r79.2.2.2 pl tx at_ kd va nx hm kn le_ s_ past slo isv pad_ pr ad prs ads)) hD [9, 10, 11, 12, 13, 14, 15, 16, 17, 18, 19, 20, 21, 22, 23, 24, 25, 26, 27, 28, 29, 30, 31, 0, 1, 2, 3, 4, 5, 6, 7, 8] (by decide) rfl
                                    generalize H1 = H at hP hS ⊢
                                    refine lv_aload_n hx hb dL_law_600 rfl (lv_at hl 2 rfl) ?_
                                    obtain ⟨r80, hcr80, h⟩ := bn_sp h
                                    have hPc := hP.sub (ws' := (ws_model cI cC cZ cR mo mo1 mo2 mo3 mo4 mo5 kn le_ s_ past slo isv pad_)) [26, 27, 28, 29, 30, 31] rfl
                                    have hDc := hD.sub (ws' := (ws_model cI cC cZ cR mo mo1 mo2 mo3 mo4 mo5 kn le_ s_ past slo isv pad_)) [26, 27, 28, 29, 30, 31] (by decide) rfl
                                    have hFc := va_free (wc := (ws_model cI cC cZ cR mo mo1 mo2 mo3 mo4 mo5 kn le_ s_ past slo isv pad_)) hD hS hA [26, 27, 28, 29, 30, 31] rfl
                                    refine va_calli (va_runV (As := []) (rest := [.int r79.1]) ⟨hx, hb, hml, hown, hts⟩ (m_X8_bent l D cI cC cZ cR mo mo1 mo2 mo3 mo4 mo5 _ kn le_ s_ past slo isv pad_  r80 hcr80) (cwV 0 hts gL_law_X8_bent rfl rfl rfl (by decide +kernel) ⟨Nat.le_of_ble_eq_true rfl, Nat.le_of_ble_eq_true rfl⟩) (cPc_pv hPc hK hDc (ci := 8) (q0 := 0) rfl rfl) rfl rfl hl.1 rfl (lv_room (Nat.le_of_ble_eq_true rfl)) dL_law_601 ⟨by show _ ≤ 600000; omega, by show _ ≤ 7302250; omega⟩) hS (fun q _ h => hFc q h) hFc (fun xq u t H1 locs ht hvm hw hB hz1 hk1 hS => ?_)
                                    rw [hw]
                                    obtain ⟨hP1, hD1⟩ := hB
                                    rw [ht] at hP1
                                    obtain ⟨hP, hD⟩ := jT1 (R := [(mm, .inr (7, [.ref sc, .ref cm, .ref hh, .ref sla, .ref pd, .ref rd])), (sc, .inr (5, [.ref sea, .ref th, .ref pi, .int tm, .int ps, .int ft, .int fk])), (sea, .inl (cI, 4, .inl se)), (th, .inr (6, [.int mn, .ref th1, .ref th2, .ref th3, .ref th4, .ref th5, .ref th6, .ref th7, .ref th8, .ref th9])), (th1, .inl (cI, 8, .inl ln)), (th2, .inl (cI, 8, .inl hi)), (th3, .inl (cI, 8, .inl wi)), (th4, .inl (cI, 8, .inl br)), (th5, .inl (cI, 8, .inl sp)), (th6, .inl (cI, 8, .inl si)), (th7, .inl (cI, 8, .inl le)), (th8, .inl (cI, 8, .inl un)), (th9, .inl (cI, 8, .inl ul)), (pi, .inr (3, [.ref pia])), (pia, .inl (cI, 384, .inl px)), (cm, .inr (0, [.ref cm1, .ref cm2, .ref cm3])), (cm1, .inl (cI, 24, .inl r79.2.1)), (cm2, .inl (cI, 24, .inl r79.2.2.1)), (cm3, .inl (cI, 25, .inl r79.2.2.2)), (pd, .inr (2, [.ref pda, .int pl])), (pda, .inl (cC, 80, .inl tx)), (rd, .inr (4, [.ref pd, .int at_, .int kd, .ref rda])), (rda, .inl (cI, 7, .inl va)), (hh, .inr (1, [.ref hst, .int nx, .int hm])), (hst, .inl (cR, 6, .inr (.inr (.inr (.inr (hfn pr ad)))))), (sla, .inl (cR, 2, .inr (.inr (.inr (.inr (hfn prs ads))))))]) (w1 := (ws_model cI cC cZ cR mo mo1 mo2 mo3 mo4 mo5 kn le_ s_ past slo isv pad_)) hP hD [26, 27, 28, 29, 30, 31] [0, 1, 2, 3, 4, 5, 6, 7, 8, 9, 10, 11, 12, 13, 14, 15, 16, 17, 18, 19, 20, 21, 22, 23, 24, 25] rfl rfl (by decide) (by decide) hk1 hFc hP1 hD1
                                    have hP := va_P_subT (X' := (ws_law cI cC cZ cR mm sc sea th th1 th2 th3 th4 th5 th6 th7 th8 th9 pi pia cm cm1 cm2 cm3 pd pda rd rda hh hst sla mo mo1 mo2 mo3 mo4 mo5 se mn ln hi wi br sp si le un ul px tm ps ft fk r79.2.1 r79.2.2.1 r79.2.2.2 pl tx at_ kd va nx hm kn le_ s_ past slo isv pad_ pr ad prs ads)) hP [0, 1, 2, 3, 4, 5, 6, 7, 8, 9, 10, 11, 12, 13, 14, 15, 16, 17, 18, 19, 20, 21, 22, 23, 24, 25, 26, 27, 28, 29, 30, 31] rfl
                                    have hD := va_D_subT (X' := (ws_law cI cC cZ cR mm sc sea th th1 th2 th3 th4 th5 th6 th7 th8 th9 pi pia cm cm1 cm2 cm3 pd pda rd rda hh hst sla mo mo1 mo2 mo3 mo4 mo5 se mn ln hi wi br sp si le un ul px tm ps ft fk r79.2.1 r79.2.2.1 r79.2.2.2 pl tx at_ kd va nx hm kn le_ s_ past slo isv pad_ pr ad prs ads)) hD [0, 1, 2, 3, 4, 5, 6, 7, 8, 9, 10, 11, 12, 13, 14, 15, 16, 17, 18, 19, 20, 21, 22, 23, 24, 25, 26, 27, 28, 29, 30, 31] (by decide) rfl
                                    generalize H1 = H at hP hS ⊢
                                    refine lv_icmp_eq (tgt := 806) hx hb dL_law_604 (by decide) (fun c81 => ?_) (fun c81 => ?_)
                                    · replace h := br_p c81 h
                                      obtain ⟨x82, ex82, h⟩ := bd_sp h
                                      refine lv_iinc (v := x82) (lv' := [(3, .int x82), (0, .ref b), (1, .ref mm), (2, .ref mo)]) hx hb dL_law_806 hl (k := 3) rfl (by rw [ex82]; rfl) (by decide) rfl (fun ls hl => ?_)
                                      refine lv_goto (tgt := 18) hx hb dL_law_809 (by decide) ?_
                                      exact ih x82 se mn ln hi wi br sp si le un ul px tm ps ft fk r79.2.1 r79.2.2.1 r79.2.2.2 pl tx at_ kd va nx hm pr sv prs svs kn le_ s_ past slo isv pad_ ad ads _ _ _ _ _ h (by omega) (by omega) hP hD hS (lv_sub hl [1, 2, 3, 0] rfl)
                                    · replace h := br_n c81 h
                                      exact no_sm h
                                  · replace h := br_n c83 h
                                    by_cases c88 : z1 = 15
                                    · replace h := br_p c88 h
                                      refine lv_tableIn (tgt := 609) hx hb dL_law_33 (by rw [c88]; decide) (by rw [c88]; decide) (by rw [c88]; rfl) (by decide) ?_
                                      refine lv_aload_n hx hb dL_law_609 rfl (lv_at hl 1 rfl) ?_
                                      obtain ⟨r84, hcr84, h⟩ := bn_sp h
                                      have hPc := hP.sub (ws' := (ws_main cI cC cZ cR mm sc sea th th1 th2 th3 th4 th5 th6 th7 th8 th9 pi pia cm cm1 cm2 cm3 pd pda rd rda hh sla se mn ln hi wi br sp si le un ul px tm ps ft fk lea upr ris pl tx at_ kd va)) [0, 1, 2, 3, 4, 5, 6, 7, 8, 9, 10, 11, 12, 13, 14, 15, 16, 17, 18, 19, 20, 21, 22] rfl
                                      have hDc := hD.sub (ws' := (ws_main cI cC cZ cR mm sc sea th th1 th2 th3 th4 th5 th6 th7 th8 th9 pi pia cm cm1 cm2 cm3 pd pda rd rda hh sla se mn ln hi wi br sp si le un ul px tm ps ft fk lea upr ris pl tx at_ kd va)) [0, 1, 2, 3, 4, 5, 6, 7, 8, 9, 10, 11, 12, 13, 14, 15, 16, 17, 18, 19, 20, 21, 22] (by decide) rfl
                                      have hFc := va_free (wc := (ws_main cI cC cZ cR mm sc sea th th1 th2 th3 th4 th5 th6 th7 th8 th9 pi pia cm cm1 cm2 cm3 pd pda rd rda hh sla se mn ln hi wi br sp si le un ul px tm ps ft fk lea upr ris pl tx at_ kd va)) hD hS hA [0, 1, 2, 3, 4, 5, 6, 7, 8, 9, 10, 11, 12, 13, 14, 15, 16, 17, 18, 19, 20, 21, 22] rfl
                                      refine va_calli (va_runV (As := []) (rest := []) ⟨hx, hb, hml, hown, hts⟩ (m_X7_flashed l D cI cC cZ cR mm sc sea th th1 th2 th3 th4 th5 th6 th7 th8 th9 pi pia cm cm1 cm2 cm3 pd pda rd rda hh sla _ se mn ln hi wi br sp si le un ul px tm ps ft fk lea upr ris pl tx at_ kd va  r84 hcr84) (cwV 0 hts gL_law_X7_flashed rfl rfl rfl (by decide +kernel) ⟨Nat.le_of_ble_eq_true rfl, Nat.le_of_ble_eq_true rfl⟩) (cPc_pv hPc hK hDc (ci := 7) (q0 := 0) rfl rfl) rfl rfl hl.1 rfl (lv_room (Nat.le_of_ble_eq_true rfl)) dL_law_610 ⟨by show _ ≤ 600000; omega, by show _ ≤ 7302250; omega⟩) hS (fun q _ h => hFc q h) hFc (fun xq u t H1 locs ht hvm hw hB hz1 hk1 hS => ?_)
                                      rw [hw]
                                      obtain ⟨hP1, hD1⟩ := hB
                                      rw [ht] at hP1
                                      obtain ⟨hP, hD⟩ := jT1 (R := [(hh, .inr (1, [.ref hst, .int nx, .int hm])), (hst, .inl (cR, 6, .inr (.inr (.inr (.inr (hfn pr ad)))))), (sla, .inl (cR, 2, .inr (.inr (.inr (.inr (hfn prs ads)))))), (mo, .inr (8, [.ref mo1, .ref mo2, .int kn, .ref mo3, .ref mo4, .ref mo5, .int le_])), (mo1, .inl (cI, 465, .inl s_)), (mo2, .inl (cI, 2790, .inl past)), (mo3, .inl (cI, 930, .inl slo)), (mo4, .inl (cZ, 2, .inl isv)), (mo5, .inl (cI, 80, .inl pad_))]) (w1 := (ws_main cI cC cZ cR mm sc sea th th1 th2 th3 th4 th5 th6 th7 th8 th9 pi pia cm cm1 cm2 cm3 pd pda rd rda hh sla se mn ln hi wi br sp si le un ul px tm ps ft fk lea upr ris pl tx at_ kd va)) hP hD [0, 1, 2, 3, 4, 5, 6, 7, 8, 9, 10, 11, 12, 13, 14, 15, 16, 17, 18, 19, 20, 21, 22] [23, 24, 25, 26, 27, 28, 29, 30, 31] rfl rfl (by decide) (by decide) hk1 hFc hP1 hD1
                                      have hP := va_P_subT (X' := (ws_law cI cC cZ cR mm sc sea th th1 th2 th3 th4 th5 th6 th7 th8 th9 pi pia cm cm1 cm2 cm3 pd pda rd rda hh hst sla mo mo1 mo2 mo3 mo4 mo5 se mn ln hi wi br sp si le un ul px tm ps ft fk lea upr ris pl tx at_ kd va nx hm kn le_ s_ past slo isv pad_ pr ad prs ads)) hP [9, 10, 11, 12, 13, 14, 15, 16, 17, 18, 19, 20, 21, 22, 23, 24, 25, 26, 27, 28, 29, 30, 31, 0, 1, 2, 3, 4, 5, 6, 7, 8] rfl
                                      have hD := va_D_subT (X' := (ws_law cI cC cZ cR mm sc sea th th1 th2 th3 th4 th5 th6 th7 th8 th9 pi pia cm cm1 cm2 cm3 pd pda rd rda hh hst sla mo mo1 mo2 mo3 mo4 mo5 se mn ln hi wi br sp si le un ul px tm ps ft fk lea upr ris pl tx at_ kd va nx hm kn le_ s_ past slo isv pad_ pr ad prs ads)) hD [9, 10, 11, 12, 13, 14, 15, 16, 17, 18, 19, 20, 21, 22, 23, 24, 25, 26, 27, 28, 29, 30, 31, 0, 1, 2, 3, 4, 5, 6, 7, 8] (by decide) rfl
                                      generalize H1 = H at hP hS ⊢
                                      refine lv_aload_n hx hb dL_law_613 rfl (lv_at hl 2 rfl) ?_
                                      obtain ⟨r85, hcr85, h⟩ := bn_sp h
                                      have hPc := hP.sub (ws' := (ws_model cI cC cZ cR mo mo1 mo2 mo3 mo4 mo5 kn le_ s_ past slo isv pad_)) [26, 27, 28, 29, 30, 31] rfl
                                      have hDc := hD.sub (ws' := (ws_model cI cC cZ cR mo mo1 mo2 mo3 mo4 mo5 kn le_ s_ past slo isv pad_)) [26, 27, 28, 29, 30, 31] (by decide) rfl
                                      have hFc := va_free (wc := (ws_model cI cC cZ cR mo mo1 mo2 mo3 mo4 mo5 kn le_ s_ past slo isv pad_)) hD hS hA [26, 27, 28, 29, 30, 31] rfl
                                      refine va_calli (va_runV (As := []) (rest := [.int r84]) ⟨hx, hb, hml, hown, hts⟩ (m_X8_flashed l D cI cC cZ cR mo mo1 mo2 mo3 mo4 mo5 _ kn le_ s_ past slo isv pad_  r85 hcr85) (cwV 0 hts gL_law_X8_flashed rfl rfl rfl (by decide +kernel) ⟨Nat.le_of_ble_eq_true rfl, Nat.le_of_ble_eq_true rfl⟩) (cPc_pv hPc hK hDc (ci := 8) (q0 := 0) rfl rfl) rfl rfl hl.1 rfl (lv_room (Nat.le_of_ble_eq_true rfl)) dL_law_614 ⟨by show _ ≤ 600000; omega, by show _ ≤ 7302250; omega⟩) hS (fun q _ h => hFc q h) hFc (fun xq u t H1 locs ht hvm hw hB hz1 hk1 hS => ?_)
                                      rw [hw]
                                      obtain ⟨hP1, hD1⟩ := hB
                                      rw [ht] at hP1
                                      obtain ⟨hP, hD⟩ := jT1 (R := [(mm, .inr (7, [.ref sc, .ref cm, .ref hh, .ref sla, .ref pd, .ref rd])), (sc, .inr (5, [.ref sea, .ref th, .ref pi, .int tm, .int ps, .int ft, .int fk])), (sea, .inl (cI, 4, .inl se)), (th, .inr (6, [.int mn, .ref th1, .ref th2, .ref th3, .ref th4, .ref th5, .ref th6, .ref th7, .ref th8, .ref th9])), (th1, .inl (cI, 8, .inl ln)), (th2, .inl (cI, 8, .inl hi)), (th3, .inl (cI, 8, .inl wi)), (th4, .inl (cI, 8, .inl br)), (th5, .inl (cI, 8, .inl sp)), (th6, .inl (cI, 8, .inl si)), (th7, .inl (cI, 8, .inl le)), (th8, .inl (cI, 8, .inl un)), (th9, .inl (cI, 8, .inl ul)), (pi, .inr (3, [.ref pia])), (pia, .inl (cI, 384, .inl px)), (cm, .inr (0, [.ref cm1, .ref cm2, .ref cm3])), (cm1, .inl (cI, 24, .inl lea)), (cm2, .inl (cI, 24, .inl upr)), (cm3, .inl (cI, 25, .inl ris)), (pd, .inr (2, [.ref pda, .int pl])), (pda, .inl (cC, 80, .inl tx)), (rd, .inr (4, [.ref pd, .int at_, .int kd, .ref rda])), (rda, .inl (cI, 7, .inl va)), (hh, .inr (1, [.ref hst, .int nx, .int hm])), (hst, .inl (cR, 6, .inr (.inr (.inr (.inr (hfn pr ad)))))), (sla, .inl (cR, 2, .inr (.inr (.inr (.inr (hfn prs ads))))))]) (w1 := (ws_model cI cC cZ cR mo mo1 mo2 mo3 mo4 mo5 kn le_ s_ past slo isv pad_)) hP hD [26, 27, 28, 29, 30, 31] [0, 1, 2, 3, 4, 5, 6, 7, 8, 9, 10, 11, 12, 13, 14, 15, 16, 17, 18, 19, 20, 21, 22, 23, 24, 25] rfl rfl (by decide) (by decide) hk1 hFc hP1 hD1
                                      have hP := va_P_subT (X' := (ws_law cI cC cZ cR mm sc sea th th1 th2 th3 th4 th5 th6 th7 th8 th9 pi pia cm cm1 cm2 cm3 pd pda rd rda hh hst sla mo mo1 mo2 mo3 mo4 mo5 se mn ln hi wi br sp si le un ul px tm ps ft fk lea upr ris pl tx at_ kd va nx hm kn le_ s_ past slo isv pad_ pr ad prs ads)) hP [0, 1, 2, 3, 4, 5, 6, 7, 8, 9, 10, 11, 12, 13, 14, 15, 16, 17, 18, 19, 20, 21, 22, 23, 24, 25, 26, 27, 28, 29, 30, 31] rfl
                                      have hD := va_D_subT (X' := (ws_law cI cC cZ cR mm sc sea th th1 th2 th3 th4 th5 th6 th7 th8 th9 pi pia cm cm1 cm2 cm3 pd pda rd rda hh hst sla mo mo1 mo2 mo3 mo4 mo5 se mn ln hi wi br sp si le un ul px tm ps ft fk lea upr ris pl tx at_ kd va nx hm kn le_ s_ past slo isv pad_ pr ad prs ads)) hD [0, 1, 2, 3, 4, 5, 6, 7, 8, 9, 10, 11, 12, 13, 14, 15, 16, 17, 18, 19, 20, 21, 22, 23, 24, 25, 26, 27, 28, 29, 30, 31] (by decide) rfl
                                      generalize H1 = H at hP hS ⊢
                                      refine lv_icmp_eq (tgt := 806) hx hb dL_law_617 (by decide) (fun c86 => ?_) (fun c86 => ?_)
                                      · replace h := br_p c86 h
                                        obtain ⟨x87, ex87, h⟩ := bd_sp h
                                        refine lv_iinc (v := x87) (lv' := [(3, .int x87), (0, .ref b), (1, .ref mm), (2, .ref mo)]) hx hb dL_law_806 hl (k := 3) rfl (by rw [ex87]; rfl) (by decide) rfl (fun ls hl => ?_)
                                        refine lv_goto (tgt := 18) hx hb dL_law_809 (by decide) ?_
                                        exact ih x87 se mn ln hi wi br sp si le un ul px tm ps ft fk lea upr ris pl tx at_ kd va nx hm pr sv prs svs kn le_ s_ past slo isv pad_ ad ads _ _ _ _ _ h (by omega) (by omega) hP hD hS (lv_sub hl [1, 2, 3, 0] rfl)
                                      · replace h := br_n c86 h
                                        exact no_sm h
                                    · replace h := br_n c88 h
                                      by_cases c93 : z1 = 16
                                      · replace h := br_p c93 h
                                        refine lv_tableIn (tgt := 622) hx hb dL_law_33 (by rw [c93]; decide) (by rw [c93]; decide) (by rw [c93]; rfl) (by decide) ?_
                                        refine lv_aload_n hx hb dL_law_622 rfl (lv_at hl 1 rfl) ?_
                                        refine lv_aload_n hx hb dL_law_623 rfl (lv_at hl 0 rfl) ?_
                                        refine lv_iload_n hx hb dL_law_624 rfl (lv_at hl 3 rfl) ?_
                                        refine lv_iconst (v := 1) hx hb dL_law_625 (by decide) ?_
                                        refine lv_iadd hx hb dL_law_626 ?_
                                        obtain ⟨hin, h⟩ := gd_sp h
                                        refine va_sld hx hb hX hbl hbA hS hin dL_law_627 ?_
                                        refine lv_aload_n hx hb dL_law_628 rfl (lv_at hl 0 rfl) ?_
                                        refine lv_iload_n hx hb dL_law_629 rfl (lv_at hl 3 rfl) ?_
                                        refine lv_iconst (v := 2) hx hb dL_law_630 (by decide) ?_
                                        refine lv_iadd hx hb dL_law_631 ?_
                                        obtain ⟨hin, h⟩ := gd_sp h
                                        refine va_sld hx hb hX hbl hbA hS hin dL_law_632 ?_
                                        obtain ⟨r89, hcr89, h⟩ := bn_sp h
                                        have hPc := hP.sub (ws' := (ws_main cI cC cZ cR mm sc sea th th1 th2 th3 th4 th5 th6 th7 th8 th9 pi pia cm cm1 cm2 cm3 pd pda rd rda hh sla se mn ln hi wi br sp si le un ul px tm ps ft fk lea upr ris pl tx at_ kd va)) [0, 1, 2, 3, 4, 5, 6, 7, 8, 9, 10, 11, 12, 13, 14, 15, 16, 17, 18, 19, 20, 21, 22] rfl
                                        have hDc := hD.sub (ws' := (ws_main cI cC cZ cR mm sc sea th th1 th2 th3 th4 th5 th6 th7 th8 th9 pi pia cm cm1 cm2 cm3 pd pda rd rda hh sla se mn ln hi wi br sp si le un ul px tm ps ft fk lea upr ris pl tx at_ kd va)) [0, 1, 2, 3, 4, 5, 6, 7, 8, 9, 10, 11, 12, 13, 14, 15, 16, 17, 18, 19, 20, 21, 22] (by decide) rfl
                                        have hFc := va_free (wc := (ws_main cI cC cZ cR mm sc sea th th1 th2 th3 th4 th5 th6 th7 th8 th9 pi pia cm cm1 cm2 cm3 pd pda rd rda hh sla se mn ln hi wi br sp si le un ul px tm ps ft fk lea upr ris pl tx at_ kd va)) hD hS hA [0, 1, 2, 3, 4, 5, 6, 7, 8, 9, 10, 11, 12, 13, 14, 15, 16, 17, 18, 19, 20, 21, 22] rfl
                                        refine va_calli (va_runV (As := [.int (xs (v3 + 1 : Int32).toNatClampNeg), .int (xs (v3 + 2 : Int32).toNatClampNeg)]) (rest := []) ⟨hx, hb, hml, hown, hts⟩ (m_X7_bestFlash l D cI cC cZ cR mm sc sea th th1 th2 th3 th4 th5 th6 th7 th8 th9 pi pia cm cm1 cm2 cm3 pd pda rd rda hh sla _ se mn ln hi wi br sp si le un ul px tm ps ft fk lea upr ris pl tx at_ kd va (xs (v3 + 1 : Int32).toNatClampNeg) (xs (v3 + 2 : Int32).toNatClampNeg) r89 hcr89) (cwV 2 hts gL_law_X7_bestFlash rfl rfl rfl (by decide +kernel) ⟨Nat.le_of_ble_eq_true rfl, Nat.le_of_ble_eq_true rfl⟩) (cPc_pv hPc hK hDc (ci := 7) (q0 := 0) rfl rfl) rfl rfl hl.1 rfl (lv_room (Nat.le_of_ble_eq_true rfl)) dL_law_633 ⟨by show _ ≤ 600000; omega, by show _ ≤ 7302250; omega⟩) hS (fun q _ h => hFc q h) hFc (fun xq u t H1 locs ht hvm hw hB hz1 hk1 hS => ?_)
                                        rw [hw]
                                        obtain ⟨hP1, hD1⟩ := hB
                                        rw [ht] at hP1
                                        obtain ⟨hP, hD⟩ := jT1 (R := [(hh, .inr (1, [.ref hst, .int nx, .int hm])), (hst, .inl (cR, 6, .inr (.inr (.inr (.inr (hfn pr ad)))))), (sla, .inl (cR, 2, .inr (.inr (.inr (.inr (hfn prs ads)))))), (mo, .inr (8, [.ref mo1, .ref mo2, .int kn, .ref mo3, .ref mo4, .ref mo5, .int le_])), (mo1, .inl (cI, 465, .inl s_)), (mo2, .inl (cI, 2790, .inl past)), (mo3, .inl (cI, 930, .inl slo)), (mo4, .inl (cZ, 2, .inl isv)), (mo5, .inl (cI, 80, .inl pad_))]) (w1 := (ws_main cI cC cZ cR mm sc sea th th1 th2 th3 th4 th5 th6 th7 th8 th9 pi pia cm cm1 cm2 cm3 pd pda rd rda hh sla se mn ln hi wi br sp si le un ul px tm ps ft fk lea upr ris pl tx at_ kd va)) hP hD [0, 1, 2, 3, 4, 5, 6, 7, 8, 9, 10, 11, 12, 13, 14, 15, 16, 17, 18, 19, 20, 21, 22] [23, 24, 25, 26, 27, 28, 29, 30, 31] rfl rfl (by decide) (by decide) hk1 hFc hP1 hD1
                                        have hP := va_P_subT (X' := (ws_law cI cC cZ cR mm sc sea th th1 th2 th3 th4 th5 th6 th7 th8 th9 pi pia cm cm1 cm2 cm3 pd pda rd rda hh hst sla mo mo1 mo2 mo3 mo4 mo5 se mn ln hi wi br sp si le un ul px tm ps ft fk lea upr ris pl tx at_ kd va nx hm kn le_ s_ past slo isv pad_ pr ad prs ads)) hP [9, 10, 11, 12, 13, 14, 15, 16, 17, 18, 19, 20, 21, 22, 23, 24, 25, 26, 27, 28, 29, 30, 31, 0, 1, 2, 3, 4, 5, 6, 7, 8] rfl
                                        have hD := va_D_subT (X' := (ws_law cI cC cZ cR mm sc sea th th1 th2 th3 th4 th5 th6 th7 th8 th9 pi pia cm cm1 cm2 cm3 pd pda rd rda hh hst sla mo mo1 mo2 mo3 mo4 mo5 se mn ln hi wi br sp si le un ul px tm ps ft fk lea upr ris pl tx at_ kd va nx hm kn le_ s_ past slo isv pad_ pr ad prs ads)) hD [9, 10, 11, 12, 13, 14, 15, 16, 17, 18, 19, 20, 21, 22, 23, 24, 25, 26, 27, 28, 29, 30, 31, 0, 1, 2, 3, 4, 5, 6, 7, 8] (by decide) rfl
                                        generalize H1 = H at hP hS ⊢
                                        refine lv_aload_n hx hb dL_law_636 rfl (lv_at hl 2 rfl) ?_
                                        refine lv_aload_n hx hb dL_law_637 rfl (lv_at hl 0 rfl) ?_
                                        refine lv_iload_n hx hb dL_law_638 rfl (lv_at hl 3 rfl) ?_
                                        refine lv_iconst (v := 1) hx hb dL_law_639 (by decide) ?_
                                        refine lv_iadd hx hb dL_law_640 ?_
                                        obtain ⟨hin, h⟩ := gd_sp h
                                        refine va_sld hx hb hX hbl hbA hS hin dL_law_641 ?_
                                        refine lv_aload_n hx hb dL_law_642 rfl (lv_at hl 0 rfl) ?_
                                        refine lv_iload_n hx hb dL_law_643 rfl (lv_at hl 3 rfl) ?_
                                        refine lv_iconst (v := 2) hx hb dL_law_644 (by decide) ?_
                                        refine lv_iadd hx hb dL_law_645 ?_
                                        obtain ⟨hin, h⟩ := gd_sp h
                                        refine va_sld hx hb hX hbl hbA hS hin dL_law_646 ?_
                                        obtain ⟨r90, hcr90, h⟩ := bn_sp h
                                        have hPc := hP.sub (ws' := (ws_model cI cC cZ cR mo mo1 mo2 mo3 mo4 mo5 kn le_ s_ past slo isv pad_)) [26, 27, 28, 29, 30, 31] rfl
                                        have hDc := hD.sub (ws' := (ws_model cI cC cZ cR mo mo1 mo2 mo3 mo4 mo5 kn le_ s_ past slo isv pad_)) [26, 27, 28, 29, 30, 31] (by decide) rfl
                                        have hFc := va_free (wc := (ws_model cI cC cZ cR mo mo1 mo2 mo3 mo4 mo5 kn le_ s_ past slo isv pad_)) hD hS hA [26, 27, 28, 29, 30, 31] rfl
                                        refine va_calli (va_runV (As := [.int (xs (v3 + 1 : Int32).toNatClampNeg), .int (xs (v3 + 2 : Int32).toNatClampNeg)]) (rest := [.int r89]) ⟨hx, hb, hml, hown, hts⟩ (m_X8_bestFlash l D cI cC cZ cR mo mo1 mo2 mo3 mo4 mo5 _ kn le_ s_ past slo isv pad_ (xs (v3 + 1 : Int32).toNatClampNeg) (xs (v3 + 2 : Int32).toNatClampNeg) r90 hcr90) (cwV 2 hts gL_law_X8_bestFlash rfl rfl rfl (by decide +kernel) ⟨Nat.le_of_ble_eq_true rfl, Nat.le_of_ble_eq_true rfl⟩) (cPc_pv hPc hK hDc (ci := 8) (q0 := 0) rfl rfl) rfl rfl hl.1 rfl (lv_room (Nat.le_of_ble_eq_true rfl)) dL_law_647 ⟨by show _ ≤ 600000; omega, by show _ ≤ 7302250; omega⟩) hS (fun q _ h => hFc q h) hFc (fun xq u t H1 locs ht hvm hw hB hz1 hk1 hS => ?_)
                                        rw [hw]
                                        obtain ⟨hP1, hD1⟩ := hB
                                        rw [ht] at hP1
                                        obtain ⟨hP, hD⟩ := jT1 (R := [(mm, .inr (7, [.ref sc, .ref cm, .ref hh, .ref sla, .ref pd, .ref rd])), (sc, .inr (5, [.ref sea, .ref th, .ref pi, .int tm, .int ps, .int ft, .int fk])), (sea, .inl (cI, 4, .inl se)), (th, .inr (6, [.int mn, .ref th1, .ref th2, .ref th3, .ref th4, .ref th5, .ref th6, .ref th7, .ref th8, .ref th9])), (th1, .inl (cI, 8, .inl ln)), (th2, .inl (cI, 8, .inl hi)), (th3, .inl (cI, 8, .inl wi)), (th4, .inl (cI, 8, .inl br)), (th5, .inl (cI, 8, .inl sp)), (th6, .inl (cI, 8, .inl si)), (th7, .inl (cI, 8, .inl le)), (th8, .inl (cI, 8, .inl un)), (th9, .inl (cI, 8, .inl ul)), (pi, .inr (3, [.ref pia])), (pia, .inl (cI, 384, .inl px)), (cm, .inr (0, [.ref cm1, .ref cm2, .ref cm3])), (cm1, .inl (cI, 24, .inl lea)), (cm2, .inl (cI, 24, .inl upr)), (cm3, .inl (cI, 25, .inl ris)), (pd, .inr (2, [.ref pda, .int pl])), (pda, .inl (cC, 80, .inl tx)), (rd, .inr (4, [.ref pd, .int at_, .int kd, .ref rda])), (rda, .inl (cI, 7, .inl va)), (hh, .inr (1, [.ref hst, .int nx, .int hm])), (hst, .inl (cR, 6, .inr (.inr (.inr (.inr (hfn pr ad)))))), (sla, .inl (cR, 2, .inr (.inr (.inr (.inr (hfn prs ads))))))]) (w1 := (ws_model cI cC cZ cR mo mo1 mo2 mo3 mo4 mo5 kn le_ s_ past slo isv pad_)) hP hD [26, 27, 28, 29, 30, 31] [0, 1, 2, 3, 4, 5, 6, 7, 8, 9, 10, 11, 12, 13, 14, 15, 16, 17, 18, 19, 20, 21, 22, 23, 24, 25] rfl rfl (by decide) (by decide) hk1 hFc hP1 hD1
                                        have hP := va_P_subT (X' := (ws_law cI cC cZ cR mm sc sea th th1 th2 th3 th4 th5 th6 th7 th8 th9 pi pia cm cm1 cm2 cm3 pd pda rd rda hh hst sla mo mo1 mo2 mo3 mo4 mo5 se mn ln hi wi br sp si le un ul px tm ps ft fk lea upr ris pl tx at_ kd va nx hm kn le_ s_ past slo isv pad_ pr ad prs ads)) hP [0, 1, 2, 3, 4, 5, 6, 7, 8, 9, 10, 11, 12, 13, 14, 15, 16, 17, 18, 19, 20, 21, 22, 23, 24, 25, 26, 27, 28, 29, 30, 31] rfl
                                        have hD := va_D_subT (X' := (ws_law cI cC cZ cR mm sc sea th th1 th2 th3 th4 th5 th6 th7 th8 th9 pi pia cm cm1 cm2 cm3 pd pda rd rda hh hst sla mo mo1 mo2 mo3 mo4 mo5 se mn ln hi wi br sp si le un ul px tm ps ft fk lea upr ris pl tx at_ kd va nx hm kn le_ s_ past slo isv pad_ pr ad prs ads)) hD [0, 1, 2, 3, 4, 5, 6, 7, 8, 9, 10, 11, 12, 13, 14, 15, 16, 17, 18, 19, 20, 21, 22, 23, 24, 25, 26, 27, 28, 29, 30, 31] (by decide) rfl
                                        generalize H1 = H at hP hS ⊢
                                        refine lv_icmp_eq (tgt := 806) hx hb dL_law_650 (by decide) (fun c91 => ?_) (fun c91 => ?_)
                                        · replace h := br_p c91 h
                                          obtain ⟨x92, ex92, h⟩ := bd_sp h
                                          refine lv_iinc (v := x92) (lv' := [(3, .int x92), (0, .ref b), (1, .ref mm), (2, .ref mo)]) hx hb dL_law_806 hl (k := 3) rfl (by rw [ex92]; rfl) (by decide) rfl (fun ls hl => ?_)
                                          refine lv_goto (tgt := 18) hx hb dL_law_809 (by decide) ?_
                                          exact ih x92 se mn ln hi wi br sp si le un ul px tm ps ft fk lea upr ris pl tx at_ kd va nx hm pr sv prs svs kn le_ s_ past slo isv pad_ ad ads _ _ _ _ _ h (by omega) (by omega) hP hD hS (lv_sub hl [1, 2, 3, 0] rfl)
                                        · replace h := br_n c91 h
                                          exact no_sm h
                                      · replace h := br_n c93 h
                                        by_cases c98 : z1 = 17
                                        · replace h := br_p c98 h
                                          refine lv_tableIn (tgt := 655) hx hb dL_law_33 (by rw [c98]; decide) (by rw [c98]; decide) (by rw [c98]; rfl) (by decide) ?_
                                          refine lv_aload_n hx hb dL_law_655 rfl (lv_at hl 1 rfl) ?_
                                          refine lv_aload_n hx hb dL_law_656 rfl (lv_at hl 0 rfl) ?_
                                          refine lv_iload_n hx hb dL_law_657 rfl (lv_at hl 3 rfl) ?_
                                          refine lv_iconst (v := 1) hx hb dL_law_658 (by decide) ?_
                                          refine lv_iadd hx hb dL_law_659 ?_
                                          obtain ⟨hin, h⟩ := gd_sp h
                                          refine va_sld hx hb hX hbl hbA hS hin dL_law_660 ?_
                                          refine lv_i2l (v := ((xs (v3 + 1 : Int32).toNatClampNeg) : Int32).toInt64) hx hb dL_law_661 rfl ?_
                                          refine lv_bipush (v := 32) hx hb dL_law_662 (by decide) ?_
                                          refine lv_lshl (v := (((xs (v3 + 1 : Int32).toNatClampNeg) : Int32).toInt64) <<< ((32 : Int32).toInt64 &&& 63)) hx hb dL_law_664 rfl ?_
                                          refine lv_aload_n hx hb dL_law_665 rfl (lv_at hl 0 rfl) ?_
                                          refine lv_iload_n hx hb dL_law_666 rfl (lv_at hl 3 rfl) ?_
                                          refine lv_iconst (v := 2) hx hb dL_law_667 (by decide) ?_
                                          refine lv_iadd hx hb dL_law_668 ?_
                                          obtain ⟨hin, h⟩ := gd_sp h
                                          refine va_sld hx hb hX hbl hbA hS hin dL_law_669 ?_
                                          refine lv_i2l (v := ((xs (v3 + 2 : Int32).toNatClampNeg) : Int32).toInt64) hx hb dL_law_670 rfl ?_
                                          refine lv_ldc2 (v := 4294967295) hx hb hown (hts _ kL_law_0) dL_law_671 ?_
                                          refine lv_land hx hb dL_law_674 ?_
                                          refine lv_lor hx hb dL_law_675 ?_
                                          obtain ⟨r94, hcr94, h⟩ := bn_sp h
                                          have hPc := hP.sub (ws' := (ws_main cI cC cZ cR mm sc sea th th1 th2 th3 th4 th5 th6 th7 th8 th9 pi pia cm cm1 cm2 cm3 pd pda rd rda hh sla se mn ln hi wi br sp si le un ul px tm ps ft fk lea upr ris pl tx at_ kd va)) [0, 1, 2, 3, 4, 5, 6, 7, 8, 9, 10, 11, 12, 13, 14, 15, 16, 17, 18, 19, 20, 21, 22] rfl
                                          have hDc := hD.sub (ws' := (ws_main cI cC cZ cR mm sc sea th th1 th2 th3 th4 th5 th6 th7 th8 th9 pi pia cm cm1 cm2 cm3 pd pda rd rda hh sla se mn ln hi wi br sp si le un ul px tm ps ft fk lea upr ris pl tx at_ kd va)) [0, 1, 2, 3, 4, 5, 6, 7, 8, 9, 10, 11, 12, 13, 14, 15, 16, 17, 18, 19, 20, 21, 22] (by decide) rfl
                                          have hFc := va_free (wc := (ws_main cI cC cZ cR mm sc sea th th1 th2 th3 th4 th5 th6 th7 th8 th9 pi pia cm cm1 cm2 cm3 pd pda rd rda hh sla se mn ln hi wi br sp si le un ul px tm ps ft fk lea upr ris pl tx at_ kd va)) hD hS hA [0, 1, 2, 3, 4, 5, 6, 7, 8, 9, 10, 11, 12, 13, 14, 15, 16, 17, 18, 19, 20, 21, 22] rfl
                                          refine va_calli (va_runV (As := [.long (((((xs (v3 + 1 : Int32).toNatClampNeg) : Int32).toInt64) <<< ((32 : Int32).toInt64 &&& 63)) ||| ((((xs (v3 + 2 : Int32).toNatClampNeg) : Int32).toInt64) &&& 4294967295))]) (rest := []) ⟨hx, hb, hml, hown, hts⟩ (m_X7_put l D cI cC cZ cR mm sc sea th th1 th2 th3 th4 th5 th6 th7 th8 th9 pi pia cm cm1 cm2 cm3 pd pda rd rda hh sla _ se mn ln hi wi br sp si le un ul px tm ps ft fk lea upr ris pl tx at_ kd va (((((xs (v3 + 1 : Int32).toNatClampNeg) : Int32).toInt64) <<< ((32 : Int32).toInt64 &&& 63)) ||| ((((xs (v3 + 2 : Int32).toNatClampNeg) : Int32).toInt64) &&& 4294967295)) r94 hcr94) (cwV 1 hts gL_law_X7_put rfl rfl rfl (by decide +kernel) ⟨Nat.le_of_ble_eq_true rfl, Nat.le_of_ble_eq_true rfl⟩) (cPc_pv hPc hK hDc (ci := 7) (q0 := 0) rfl rfl) rfl rfl hl.1 rfl (lv_room (Nat.le_of_ble_eq_true rfl)) dL_law_676 ⟨by show _ ≤ 600000; omega, by show _ ≤ 7302250; omega⟩) hS (fun q _ h => hFc q h) hFc (fun xq u t H1 locs ht hvm hw hB hz1 hk1 hS => ?_)
                                          rw [hw]
                                          obtain ⟨hP1, hD1⟩ := hB
                                          rw [ht] at hP1
                                          obtain ⟨hP, hD⟩ := jT1 (R := [(hh, .inr (1, [.ref hst, .int nx, .int hm])), (hst, .inl (cR, 6, .inr (.inr (.inr (.inr (hfn pr ad)))))), (sla, .inl (cR, 2, .inr (.inr (.inr (.inr (hfn prs ads)))))), (mo, .inr (8, [.ref mo1, .ref mo2, .int kn, .ref mo3, .ref mo4, .ref mo5, .int le_])), (mo1, .inl (cI, 465, .inl s_)), (mo2, .inl (cI, 2790, .inl past)), (mo3, .inl (cI, 930, .inl slo)), (mo4, .inl (cZ, 2, .inl isv)), (mo5, .inl (cI, 80, .inl pad_))]) (w1 := (ws_main cI cC cZ cR mm sc sea th th1 th2 th3 th4 th5 th6 th7 th8 th9 pi pia cm cm1 cm2 cm3 pd pda rd rda hh sla se mn ln hi wi br sp si le un ul px tm ps ft fk lea upr ris r94.2.1 r94.2.2 at_ kd va)) hP hD [0, 1, 2, 3, 4, 5, 6, 7, 8, 9, 10, 11, 12, 13, 14, 15, 16, 17, 18, 19, 20, 21, 22] [23, 24, 25, 26, 27, 28, 29, 30, 31] rfl rfl (by decide) (by decide) hk1 hFc hP1 hD1
                                          have hP := va_P_subT (X' := (ws_law cI cC cZ cR mm sc sea th th1 th2 th3 th4 th5 th6 th7 th8 th9 pi pia cm cm1 cm2 cm3 pd pda rd rda hh hst sla mo mo1 mo2 mo3 mo4 mo5 se mn ln hi wi br sp si le un ul px tm ps ft fk lea upr ris r94.2.1 r94.2.2 at_ kd va nx hm kn le_ s_ past slo isv pad_ pr ad prs ads)) hP [9, 10, 11, 12, 13, 14, 15, 16, 17, 18, 19, 20, 21, 22, 23, 24, 25, 26, 27, 28, 29, 30, 31, 0, 1, 2, 3, 4, 5, 6, 7, 8] rfl
                                          have hD := va_D_subT (X' := (ws_law cI cC cZ cR mm sc sea th th1 th2 th3 th4 th5 th6 th7 th8 th9 pi pia cm cm1 cm2 cm3 pd pda rd rda hh hst sla mo mo1 mo2 mo3 mo4 mo5 se mn ln hi wi br sp si le un ul px tm ps ft fk lea upr ris r94.2.1 r94.2.2 at_ kd va nx hm kn le_ s_ past slo isv pad_ pr ad prs ads)) hD [9, 10, 11, 12, 13, 14, 15, 16, 17, 18, 19, 20, 21, 22, 23, 24, 25, 26, 27, 28, 29, 30, 31, 0, 1, 2, 3, 4, 5, 6, 7, 8] (by decide) rfl
                                          generalize H1 = H at hP hS ⊢
                                          refine lv_aload_n hx hb dL_law_679 rfl (lv_at hl 2 rfl) ?_
                                          refine lv_aload_n hx hb dL_law_680 rfl (lv_at hl 0 rfl) ?_
                                          refine lv_iload_n hx hb dL_law_681 rfl (lv_at hl 3 rfl) ?_
                                          refine lv_iconst (v := 1) hx hb dL_law_682 (by decide) ?_
                                          refine lv_iadd hx hb dL_law_683 ?_
                                          obtain ⟨hin, h⟩ := gd_sp h
                                          refine va_sld hx hb hX hbl hbA hS hin dL_law_684 ?_
                                          refine lv_i2l (v := ((xs (v3 + 1 : Int32).toNatClampNeg) : Int32).toInt64) hx hb dL_law_685 rfl ?_
                                          refine lv_bipush (v := 32) hx hb dL_law_686 (by decide) ?_
                                          refine lv_lshl (v := (((xs (v3 + 1 : Int32).toNatClampNeg) : Int32).toInt64) <<< ((32 : Int32).toInt64 &&& 63)) hx hb dL_law_688 rfl ?_
                                          refine lv_aload_n hx hb dL_law_689 rfl (lv_at hl 0 rfl) ?_
                                          refine lv_iload_n hx hb dL_law_690 rfl (lv_at hl 3 rfl) ?_
                                          refine lv_iconst (v := 2) hx hb dL_law_691 (by decide) ?_
                                          refine lv_iadd hx hb dL_law_692 ?_
                                          obtain ⟨hin, h⟩ := gd_sp h
                                          refine va_sld hx hb hX hbl hbA hS hin dL_law_693 ?_
                                          refine lv_i2l (v := ((xs (v3 + 2 : Int32).toNatClampNeg) : Int32).toInt64) hx hb dL_law_694 rfl ?_
                                          refine lv_ldc2 (v := 4294967295) hx hb hown (hts _ kL_law_0) dL_law_695 ?_
                                          refine lv_land hx hb dL_law_698 ?_
                                          refine lv_lor hx hb dL_law_699 ?_
                                          obtain ⟨r95, hcr95, h⟩ := bn_sp h
                                          have hPc := hP.sub (ws' := (ws_model cI cC cZ cR mo mo1 mo2 mo3 mo4 mo5 kn le_ s_ past slo isv pad_)) [26, 27, 28, 29, 30, 31] rfl
                                          have hDc := hD.sub (ws' := (ws_model cI cC cZ cR mo mo1 mo2 mo3 mo4 mo5 kn le_ s_ past slo isv pad_)) [26, 27, 28, 29, 30, 31] (by decide) rfl
                                          have hFc := va_free (wc := (ws_model cI cC cZ cR mo mo1 mo2 mo3 mo4 mo5 kn le_ s_ past slo isv pad_)) hD hS hA [26, 27, 28, 29, 30, 31] rfl
                                          refine va_calli (va_runV (As := [.long (((((xs (v3 + 1 : Int32).toNatClampNeg) : Int32).toInt64) <<< ((32 : Int32).toInt64 &&& 63)) ||| ((((xs (v3 + 2 : Int32).toNatClampNeg) : Int32).toInt64) &&& 4294967295))]) (rest := [.int r94.1]) ⟨hx, hb, hml, hown, hts⟩ (m_X8_put l D cI cC cZ cR mo mo1 mo2 mo3 mo4 mo5 _ kn le_ s_ past slo isv pad_ (((((xs (v3 + 1 : Int32).toNatClampNeg) : Int32).toInt64) <<< ((32 : Int32).toInt64 &&& 63)) ||| ((((xs (v3 + 2 : Int32).toNatClampNeg) : Int32).toInt64) &&& 4294967295)) r95 hcr95) (cwV 1 hts gL_law_X8_put rfl rfl rfl (by decide +kernel) ⟨Nat.le_of_ble_eq_true rfl, Nat.le_of_ble_eq_true rfl⟩) (cPc_pv hPc hK hDc (ci := 8) (q0 := 0) rfl rfl) rfl rfl hl.1 rfl (lv_room (Nat.le_of_ble_eq_true rfl)) dL_law_700 ⟨by show _ ≤ 600000; omega, by show _ ≤ 7302250; omega⟩) hS (fun q _ h => hFc q h) hFc (fun xq u t H1 locs ht hvm hw hB hz1 hk1 hS => ?_)
                                          rw [hw]
                                          obtain ⟨hP1, hD1⟩ := hB
                                          rw [ht] at hP1
                                          obtain ⟨hP, hD⟩ := jT1 (R := [(mm, .inr (7, [.ref sc, .ref cm, .ref hh, .ref sla, .ref pd, .ref rd])), (sc, .inr (5, [.ref sea, .ref th, .ref pi, .int tm, .int ps, .int ft, .int fk])), (sea, .inl (cI, 4, .inl se)), (th, .inr (6, [.int mn, .ref th1, .ref th2, .ref th3, .ref th4, .ref th5, .ref th6, .ref th7, .ref th8, .ref th9])), (th1, .inl (cI, 8, .inl ln)), (th2, .inl (cI, 8, .inl hi)), (th3, .inl (cI, 8, .inl wi)), (th4, .inl (cI, 8, .inl br)), (th5, .inl (cI, 8, .inl sp)), (th6, .inl (cI, 8, .inl si)), (th7, .inl (cI, 8, .inl le)), (th8, .inl (cI, 8, .inl un)), (th9, .inl (cI, 8, .inl ul)), (pi, .inr (3, [.ref pia])), (pia, .inl (cI, 384, .inl px)), (cm, .inr (0, [.ref cm1, .ref cm2, .ref cm3])), (cm1, .inl (cI, 24, .inl lea)), (cm2, .inl (cI, 24, .inl upr)), (cm3, .inl (cI, 25, .inl ris)), (pd, .inr (2, [.ref pda, .int r94.2.1])), (pda, .inl (cC, 80, .inl r94.2.2)), (rd, .inr (4, [.ref pd, .int at_, .int kd, .ref rda])), (rda, .inl (cI, 7, .inl va)), (hh, .inr (1, [.ref hst, .int nx, .int hm])), (hst, .inl (cR, 6, .inr (.inr (.inr (.inr (hfn pr ad)))))), (sla, .inl (cR, 2, .inr (.inr (.inr (.inr (hfn prs ads))))))]) (w1 := (ws_model cI cC cZ cR mo mo1 mo2 mo3 mo4 mo5 kn r95.2.1 s_ past slo isv r95.2.2)) hP hD [26, 27, 28, 29, 30, 31] [0, 1, 2, 3, 4, 5, 6, 7, 8, 9, 10, 11, 12, 13, 14, 15, 16, 17, 18, 19, 20, 21, 22, 23, 24, 25] rfl rfl (by decide) (by decide) hk1 hFc hP1 hD1
                                          have hP := va_P_subT (X' := (ws_law cI cC cZ cR mm sc sea th th1 th2 th3 th4 th5 th6 th7 th8 th9 pi pia cm cm1 cm2 cm3 pd pda rd rda hh hst sla mo mo1 mo2 mo3 mo4 mo5 se mn ln hi wi br sp si le un ul px tm ps ft fk lea upr ris r94.2.1 r94.2.2 at_ kd va nx hm kn r95.2.1 s_ past slo isv r95.2.2 pr ad prs ads)) hP [0, 1, 2, 3, 4, 5, 6, 7, 8, 9, 10, 11, 12, 13, 14, 15, 16, 17, 18, 19, 20, 21, 22, 23, 24, 25, 26, 27, 28, 29, 30, 31] rfl
                                          have hD := va_D_subT (X' := (ws_law cI cC cZ cR mm sc sea th th1 th2 th3 th4 th5 th6 th7 th8 th9 pi pia cm cm1 cm2 cm3 pd pda rd rda hh hst sla mo mo1 mo2 mo3 mo4 mo5 se mn ln hi wi br sp si le un ul px tm ps ft fk lea upr ris r94.2.1 r94.2.2 at_ kd va nx hm kn r95.2.1 s_ past slo isv r95.2.2 pr ad prs ads)) hD [0, 1, 2, 3, 4, 5, 6, 7, 8, 9, 10, 11, 12, 13, 14, 15, 16, 17, 18, 19, 20, 21, 22, 23, 24, 25, 26, 27, 28, 29, 30, 31] (by decide) rfl
                                          generalize H1 = H at hP hS ⊢
                                          refine lv_icmp_eq (tgt := 806) hx hb dL_law_703 (by decide) (fun c96 => ?_) (fun c96 => ?_)
                                          · replace h := br_p c96 h
                                            obtain ⟨x97, ex97, h⟩ := bd_sp h
                                            refine lv_iinc (v := x97) (lv' := [(3, .int x97), (0, .ref b), (1, .ref mm), (2, .ref mo)]) hx hb dL_law_806 hl (k := 3) rfl (by rw [ex97]; rfl) (by decide) rfl (fun ls hl => ?_)
                                            refine lv_goto (tgt := 18) hx hb dL_law_809 (by decide) ?_
                                            exact ih x97 se mn ln hi wi br sp si le un ul px tm ps ft fk lea upr ris r94.2.1 r94.2.2 at_ kd va nx hm pr sv prs svs kn r95.2.1 s_ past slo isv r95.2.2 ad ads _ _ _ _ _ h (by omega) (by omega) hP hD hS (lv_sub hl [1, 2, 3, 0] rfl)
                                          · replace h := br_n c96 h
                                            exact no_sm h
                                        · replace h := br_n c98 h
                                          by_cases c103 : z1 = 18
                                          · replace h := br_p c103 h
                                            refine lv_tableIn (tgt := 708) hx hb dL_law_33 (by rw [c103]; decide) (by rw [c103]; decide) (by rw [c103]; rfl) (by decide) ?_
                                            refine lv_aload_n hx hb dL_law_708 rfl (lv_at hl 1 rfl) ?_
                                            obtain ⟨r99, hcr99, h⟩ := bn_sp h
                                            have hPc := hP.sub (ws' := (ws_main cI cC cZ cR mm sc sea th th1 th2 th3 th4 th5 th6 th7 th8 th9 pi pia cm cm1 cm2 cm3 pd pda rd rda hh sla se mn ln hi wi br sp si le un ul px tm ps ft fk lea upr ris pl tx at_ kd va)) [0, 1, 2, 3, 4, 5, 6, 7, 8, 9, 10, 11, 12, 13, 14, 15, 16, 17, 18, 19, 20, 21, 22] rfl
                                            have hDc := hD.sub (ws' := (ws_main cI cC cZ cR mm sc sea th th1 th2 th3 th4 th5 th6 th7 th8 th9 pi pia cm cm1 cm2 cm3 pd pda rd rda hh sla se mn ln hi wi br sp si le un ul px tm ps ft fk lea upr ris pl tx at_ kd va)) [0, 1, 2, 3, 4, 5, 6, 7, 8, 9, 10, 11, 12, 13, 14, 15, 16, 17, 18, 19, 20, 21, 22] (by decide) rfl
                                            have hFc := va_free (wc := (ws_main cI cC cZ cR mm sc sea th th1 th2 th3 th4 th5 th6 th7 th8 th9 pi pia cm cm1 cm2 cm3 pd pda rd rda hh sla se mn ln hi wi br sp si le un ul px tm ps ft fk lea upr ris pl tx at_ kd va)) hD hS hA [0, 1, 2, 3, 4, 5, 6, 7, 8, 9, 10, 11, 12, 13, 14, 15, 16, 17, 18, 19, 20, 21, 22] rfl
                                            refine va_calli (va_runV (As := []) (rest := []) ⟨hx, hb, hml, hown, hts⟩ (m_X7_wipe l D cI cC cZ cR mm sc sea th th1 th2 th3 th4 th5 th6 th7 th8 th9 pi pia cm cm1 cm2 cm3 pd pda rd rda hh sla _ se mn ln hi wi br sp si le un ul px tm ps ft fk lea upr ris pl tx at_ kd va  r99 hcr99) (cwV 0 hts gL_law_X7_wipe rfl rfl rfl (by decide +kernel) ⟨Nat.le_of_ble_eq_true rfl, Nat.le_of_ble_eq_true rfl⟩) (cPc_pv hPc hK hDc (ci := 7) (q0 := 0) rfl rfl) rfl rfl hl.1 rfl (lv_room (Nat.le_of_ble_eq_true rfl)) dL_law_709 ⟨by show _ ≤ 600000; omega, by show _ ≤ 7302250; omega⟩) hS (fun q _ h => hFc q h) hFc (fun xq u t H1 locs ht hvm hw hB hz1 hk1 hS => ?_)
                                            rw [hw]
                                            obtain ⟨hP1, hD1⟩ := hB
                                            rw [ht] at hP1
                                            obtain ⟨hP, hD⟩ := jT1 (R := [(hh, .inr (1, [.ref hst, .int nx, .int hm])), (hst, .inl (cR, 6, .inr (.inr (.inr (.inr (hfn pr ad)))))), (sla, .inl (cR, 2, .inr (.inr (.inr (.inr (hfn prs ads)))))), (mo, .inr (8, [.ref mo1, .ref mo2, .int kn, .ref mo3, .ref mo4, .ref mo5, .int le_])), (mo1, .inl (cI, 465, .inl s_)), (mo2, .inl (cI, 2790, .inl past)), (mo3, .inl (cI, 930, .inl slo)), (mo4, .inl (cZ, 2, .inl isv)), (mo5, .inl (cI, 80, .inl pad_))]) (w1 := (ws_main cI cC cZ cR mm sc sea th th1 th2 th3 th4 th5 th6 th7 th8 th9 pi pia cm cm1 cm2 cm3 pd pda rd rda hh sla se mn ln hi wi br sp si le un ul px tm ps ft fk lea upr ris r99.2 tx at_ kd va)) hP hD [0, 1, 2, 3, 4, 5, 6, 7, 8, 9, 10, 11, 12, 13, 14, 15, 16, 17, 18, 19, 20, 21, 22] [23, 24, 25, 26, 27, 28, 29, 30, 31] rfl rfl (by decide) (by decide) hk1 hFc hP1 hD1
                                            have hP := va_P_subT (X' := (ws_law cI cC cZ cR mm sc sea th th1 th2 th3 th4 th5 th6 th7 th8 th9 pi pia cm cm1 cm2 cm3 pd pda rd rda hh hst sla mo mo1 mo2 mo3 mo4 mo5 se mn ln hi wi br sp si le un ul px tm ps ft fk lea upr ris r99.2 tx at_ kd va nx hm kn le_ s_ past slo isv pad_ pr ad prs ads)) hP [9, 10, 11, 12, 13, 14, 15, 16, 17, 18, 19, 20, 21, 22, 23, 24, 25, 26, 27, 28, 29, 30, 31, 0, 1, 2, 3, 4, 5, 6, 7, 8] rfl
                                            have hD := va_D_subT (X' := (ws_law cI cC cZ cR mm sc sea th th1 th2 th3 th4 th5 th6 th7 th8 th9 pi pia cm cm1 cm2 cm3 pd pda rd rda hh hst sla mo mo1 mo2 mo3 mo4 mo5 se mn ln hi wi br sp si le un ul px tm ps ft fk lea upr ris r99.2 tx at_ kd va nx hm kn le_ s_ past slo isv pad_ pr ad prs ads)) hD [9, 10, 11, 12, 13, 14, 15, 16, 17, 18, 19, 20, 21, 22, 23, 24, 25, 26, 27, 28, 29, 30, 31, 0, 1, 2, 3, 4, 5, 6, 7, 8] (by decide) rfl
                                            generalize H1 = H at hP hS ⊢
                                            refine lv_aload_n hx hb dL_law_712 rfl (lv_at hl 2 rfl) ?_
                                            obtain ⟨r100, hcr100, h⟩ := bn_sp h
                                            have hPc := hP.sub (ws' := (ws_model cI cC cZ cR mo mo1 mo2 mo3 mo4 mo5 kn le_ s_ past slo isv pad_)) [26, 27, 28, 29, 30, 31] rfl
                                            have hDc := hD.sub (ws' := (ws_model cI cC cZ cR mo mo1 mo2 mo3 mo4 mo5 kn le_ s_ past slo isv pad_)) [26, 27, 28, 29, 30, 31] (by decide) rfl
                                            have hFc := va_free (wc := (ws_model cI cC cZ cR mo mo1 mo2 mo3 mo4 mo5 kn le_ s_ past slo isv pad_)) hD hS hA [26, 27, 28, 29, 30, 31] rfl
                                            refine va_calli (va_runV (As := []) (rest := [.int r99.1]) ⟨hx, hb, hml, hown, hts⟩ (m_X8_wipe l D cI cC cZ cR mo mo1 mo2 mo3 mo4 mo5 _ kn le_ s_ past slo isv pad_  r100 hcr100) (cwV 0 hts gL_law_X8_wipe rfl rfl rfl (by decide +kernel) ⟨Nat.le_of_ble_eq_true rfl, Nat.le_of_ble_eq_true rfl⟩) (cPc_pv hPc hK hDc (ci := 8) (q0 := 0) rfl rfl) rfl rfl hl.1 rfl (lv_room (Nat.le_of_ble_eq_true rfl)) dL_law_713 ⟨by show _ ≤ 600000; omega, by show _ ≤ 7302250; omega⟩) hS (fun q _ h => hFc q h) hFc (fun xq u t H1 locs ht hvm hw hB hz1 hk1 hS => ?_)
                                            rw [hw]
                                            obtain ⟨hP1, hD1⟩ := hB
                                            rw [ht] at hP1
                                            obtain ⟨hP, hD⟩ := jT1 (R := [(mm, .inr (7, [.ref sc, .ref cm, .ref hh, .ref sla, .ref pd, .ref rd])), (sc, .inr (5, [.ref sea, .ref th, .ref pi, .int tm, .int ps, .int ft, .int fk])), (sea, .inl (cI, 4, .inl se)), (th, .inr (6, [.int mn, .ref th1, .ref th2, .ref th3, .ref th4, .ref th5, .ref th6, .ref th7, .ref th8, .ref th9])), (th1, .inl (cI, 8, .inl ln)), (th2, .inl (cI, 8, .inl hi)), (th3, .inl (cI, 8, .inl wi)), (th4, .inl (cI, 8, .inl br)), (th5, .inl (cI, 8, .inl sp)), (th6, .inl (cI, 8, .inl si)), (th7, .inl (cI, 8, .inl le)), (th8, .inl (cI, 8, .inl un)), (th9, .inl (cI, 8, .inl ul)), (pi, .inr (3, [.ref pia])), (pia, .inl (cI, 384, .inl px)), (cm, .inr (0, [.ref cm1, .ref cm2, .ref cm3])), (cm1, .inl (cI, 24, .inl lea)), (cm2, .inl (cI, 24, .inl upr)), (cm3, .inl (cI, 25, .inl ris)), (pd, .inr (2, [.ref pda, .int r99.2])), (pda, .inl (cC, 80, .inl tx)), (rd, .inr (4, [.ref pd, .int at_, .int kd, .ref rda])), (rda, .inl (cI, 7, .inl va)), (hh, .inr (1, [.ref hst, .int nx, .int hm])), (hst, .inl (cR, 6, .inr (.inr (.inr (.inr (hfn pr ad)))))), (sla, .inl (cR, 2, .inr (.inr (.inr (.inr (hfn prs ads))))))]) (w1 := (ws_model cI cC cZ cR mo mo1 mo2 mo3 mo4 mo5 kn r100.2 s_ past slo isv pad_)) hP hD [26, 27, 28, 29, 30, 31] [0, 1, 2, 3, 4, 5, 6, 7, 8, 9, 10, 11, 12, 13, 14, 15, 16, 17, 18, 19, 20, 21, 22, 23, 24, 25] rfl rfl (by decide) (by decide) hk1 hFc hP1 hD1
                                            have hP := va_P_subT (X' := (ws_law cI cC cZ cR mm sc sea th th1 th2 th3 th4 th5 th6 th7 th8 th9 pi pia cm cm1 cm2 cm3 pd pda rd rda hh hst sla mo mo1 mo2 mo3 mo4 mo5 se mn ln hi wi br sp si le un ul px tm ps ft fk lea upr ris r99.2 tx at_ kd va nx hm kn r100.2 s_ past slo isv pad_ pr ad prs ads)) hP [0, 1, 2, 3, 4, 5, 6, 7, 8, 9, 10, 11, 12, 13, 14, 15, 16, 17, 18, 19, 20, 21, 22, 23, 24, 25, 26, 27, 28, 29, 30, 31] rfl
                                            have hD := va_D_subT (X' := (ws_law cI cC cZ cR mm sc sea th th1 th2 th3 th4 th5 th6 th7 th8 th9 pi pia cm cm1 cm2 cm3 pd pda rd rda hh hst sla mo mo1 mo2 mo3 mo4 mo5 se mn ln hi wi br sp si le un ul px tm ps ft fk lea upr ris r99.2 tx at_ kd va nx hm kn r100.2 s_ past slo isv pad_ pr ad prs ads)) hD [0, 1, 2, 3, 4, 5, 6, 7, 8, 9, 10, 11, 12, 13, 14, 15, 16, 17, 18, 19, 20, 21, 22, 23, 24, 25, 26, 27, 28, 29, 30, 31] (by decide) rfl
                                            generalize H1 = H at hP hS ⊢
                                            refine lv_icmp_eq (tgt := 806) hx hb dL_law_716 (by decide) (fun c101 => ?_) (fun c101 => ?_)
                                            · replace h := br_p c101 h
                                              obtain ⟨x102, ex102, h⟩ := bd_sp h
                                              refine lv_iinc (v := x102) (lv' := [(3, .int x102), (0, .ref b), (1, .ref mm), (2, .ref mo)]) hx hb dL_law_806 hl (k := 3) rfl (by rw [ex102]; rfl) (by decide) rfl (fun ls hl => ?_)
                                              refine lv_goto (tgt := 18) hx hb dL_law_809 (by decide) ?_
                                              exact ih x102 se mn ln hi wi br sp si le un ul px tm ps ft fk lea upr ris r99.2 tx at_ kd va nx hm pr sv prs svs kn r100.2 s_ past slo isv pad_ ad ads _ _ _ _ _ h (by omega) (by omega) hP hD hS (lv_sub hl [1, 2, 3, 0] rfl)
                                            · replace h := br_n c101 h
                                              exact no_sm h
                                          · replace h := br_n c103 h
                                            by_cases c108 : z1 = 19
                                            · replace h := br_p c108 h
                                              refine lv_tableIn (tgt := 721) hx hb dL_law_33 (by rw [c108]; decide) (by rw [c108]; decide) (by rw [c108]; rfl) (by decide) ?_
                                              refine lv_aload_n hx hb dL_law_721 rfl (lv_at hl 1 rfl) ?_
                                              obtain ⟨r104, hcr104, h⟩ := bn_sp h
                                              have hPc := hP.sub (ws' := (ws_main cI cC cZ cR mm sc sea th th1 th2 th3 th4 th5 th6 th7 th8 th9 pi pia cm cm1 cm2 cm3 pd pda rd rda hh sla se mn ln hi wi br sp si le un ul px tm ps ft fk lea upr ris pl tx at_ kd va)) [0, 1, 2, 3, 4, 5, 6, 7, 8, 9, 10, 11, 12, 13, 14, 15, 16, 17, 18, 19, 20, 21, 22] rfl
                                              have hDc := hD.sub (ws' := (ws_main cI cC cZ cR mm sc sea th th1 th2 th3 th4 th5 th6 th7 th8 th9 pi pia cm cm1 cm2 cm3 pd pda rd rda hh sla se mn ln hi wi br sp si le un ul px tm ps ft fk lea upr ris pl tx at_ kd va)) [0, 1, 2, 3, 4, 5, 6, 7, 8, 9, 10, 11, 12, 13, 14, 15, 16, 17, 18, 19, 20, 21, 22] (by decide) rfl
                                              have hFc := va_free (wc := (ws_main cI cC cZ cR mm sc sea th th1 th2 th3 th4 th5 th6 th7 th8 th9 pi pia cm cm1 cm2 cm3 pd pda rd rda hh sla se mn ln hi wi br sp si le un ul px tm ps ft fk lea upr ris pl tx at_ kd va)) hD hS hA [0, 1, 2, 3, 4, 5, 6, 7, 8, 9, 10, 11, 12, 13, 14, 15, 16, 17, 18, 19, 20, 21, 22] rfl
                                              refine va_calli (va_runV (As := []) (rest := []) ⟨hx, hb, hml, hown, hts⟩ (m_X7_fault l D cI cC cZ cR mm sc sea th th1 th2 th3 th4 th5 th6 th7 th8 th9 pi pia cm cm1 cm2 cm3 pd pda rd rda hh sla _ se mn ln hi wi br sp si le un ul px tm ps ft fk lea upr ris pl tx at_ kd va  r104 hcr104) (cwV 0 hts gL_law_X7_fault rfl rfl rfl (by decide +kernel) ⟨Nat.le_of_ble_eq_true rfl, Nat.le_of_ble_eq_true rfl⟩) (cPc_pv hPc hK hDc (ci := 7) (q0 := 0) rfl rfl) rfl rfl hl.1 rfl (lv_room (Nat.le_of_ble_eq_true rfl)) dL_law_722 ⟨by show _ ≤ 600000; omega, by show _ ≤ 7302250; omega⟩) hS (fun q _ h => hFc q h) hFc (fun xq u t H1 locs ht hvm hw hB hz1 hk1 hS => ?_)
                                              rw [hw]
                                              obtain ⟨hP1, hD1⟩ := hB
                                              rw [ht] at hP1
                                              obtain ⟨hP, hD⟩ := jT1 (R := [(hh, .inr (1, [.ref hst, .int nx, .int hm])), (hst, .inl (cR, 6, .inr (.inr (.inr (.inr (hfn pr ad)))))), (sla, .inl (cR, 2, .inr (.inr (.inr (.inr (hfn prs ads)))))), (mo, .inr (8, [.ref mo1, .ref mo2, .int kn, .ref mo3, .ref mo4, .ref mo5, .int le_])), (mo1, .inl (cI, 465, .inl s_)), (mo2, .inl (cI, 2790, .inl past)), (mo3, .inl (cI, 930, .inl slo)), (mo4, .inl (cZ, 2, .inl isv)), (mo5, .inl (cI, 80, .inl pad_))]) (w1 := (ws_main cI cC cZ cR mm sc sea th th1 th2 th3 th4 th5 th6 th7 th8 th9 pi pia cm cm1 cm2 cm3 pd pda rd rda hh sla se mn ln hi wi br sp si le un ul px tm ps ft fk lea upr ris pl tx r104.2.1 r104.2.2.1 r104.2.2.2)) hP hD [0, 1, 2, 3, 4, 5, 6, 7, 8, 9, 10, 11, 12, 13, 14, 15, 16, 17, 18, 19, 20, 21, 22] [23, 24, 25, 26, 27, 28, 29, 30, 31] rfl rfl (by decide) (by decide) hk1 hFc hP1 hD1
                                              have hP := va_P_subT (X' := (ws_law cI cC cZ cR mm sc sea th th1 th2 th3 th4 th5 th6 th7 th8 th9 pi pia cm cm1 cm2 cm3 pd pda rd rda hh hst sla mo mo1 mo2 mo3 mo4 mo5 se mn ln hi wi br sp si le un ul px tm ps ft fk lea upr ris pl tx r104.2.1 r104.2.2.1 r104.2.2.2 nx hm kn le_ s_ past slo isv pad_ pr ad prs ads)) hP [9, 10, 11, 12, 13, 14, 15, 16, 17, 18, 19, 20, 21, 22, 23, 24, 25, 26, 27, 28, 29, 30, 31, 0, 1, 2, 3, 4, 5, 6, 7, 8] rfl
                                              have hD := va_D_subT (X' := (ws_law cI cC cZ cR mm sc sea th th1 th2 th3 th4 th5 th6 th7 th8 th9 pi pia cm cm1 cm2 cm3 pd pda rd rda hh hst sla mo mo1 mo2 mo3 mo4 mo5 se mn ln hi wi br sp si le un ul px tm ps ft fk lea upr ris pl tx r104.2.1 r104.2.2.1 r104.2.2.2 nx hm kn le_ s_ past slo isv pad_ pr ad prs ads)) hD [9, 10, 11, 12, 13, 14, 15, 16, 17, 18, 19, 20, 21, 22, 23, 24, 25, 26, 27, 28, 29, 30, 31, 0, 1, 2, 3, 4, 5, 6, 7, 8] (by decide) rfl
                                              generalize H1 = H at hP hS ⊢
                                              refine lv_aload_n hx hb dL_law_725 rfl (lv_at hl 2 rfl) ?_
                                              obtain ⟨r105, hcr105, h⟩ := bn_sp h
                                              have hPc := hP.sub (ws' := (ws_model cI cC cZ cR mo mo1 mo2 mo3 mo4 mo5 kn le_ s_ past slo isv pad_)) [26, 27, 28, 29, 30, 31] rfl
                                              have hDc := hD.sub (ws' := (ws_model cI cC cZ cR mo mo1 mo2 mo3 mo4 mo5 kn le_ s_ past slo isv pad_)) [26, 27, 28, 29, 30, 31] (by decide) rfl
                                              have hFc := va_free (wc := (ws_model cI cC cZ cR mo mo1 mo2 mo3 mo4 mo5 kn le_ s_ past slo isv pad_)) hD hS hA [26, 27, 28, 29, 30, 31] rfl
                                              refine va_calli (va_runV (As := []) (rest := [.int r104.1]) ⟨hx, hb, hml, hown, hts⟩ (m_X8_fault l D cI cC cZ cR mo mo1 mo2 mo3 mo4 mo5 _ kn le_ s_ past slo isv pad_  r105 hcr105) (cwV 0 hts gL_law_X8_fault rfl rfl rfl (by decide +kernel) ⟨Nat.le_of_ble_eq_true rfl, Nat.le_of_ble_eq_true rfl⟩) (cPc_pv hPc hK hDc (ci := 8) (q0 := 0) rfl rfl) rfl rfl hl.1 rfl (lv_room (Nat.le_of_ble_eq_true rfl)) dL_law_726 ⟨by show _ ≤ 600000; omega, by show _ ≤ 7302250; omega⟩) hS (fun q _ h => hFc q h) hFc (fun xq u t H1 locs ht hvm hw hB hz1 hk1 hS => ?_)
                                              rw [hw]
                                              obtain ⟨hP1, hD1⟩ := hB
                                              rw [ht] at hP1
                                              obtain ⟨hP, hD⟩ := jT1 (R := [(mm, .inr (7, [.ref sc, .ref cm, .ref hh, .ref sla, .ref pd, .ref rd])), (sc, .inr (5, [.ref sea, .ref th, .ref pi, .int tm, .int ps, .int ft, .int fk])), (sea, .inl (cI, 4, .inl se)), (th, .inr (6, [.int mn, .ref th1, .ref th2, .ref th3, .ref th4, .ref th5, .ref th6, .ref th7, .ref th8, .ref th9])), (th1, .inl (cI, 8, .inl ln)), (th2, .inl (cI, 8, .inl hi)), (th3, .inl (cI, 8, .inl wi)), (th4, .inl (cI, 8, .inl br)), (th5, .inl (cI, 8, .inl sp)), (th6, .inl (cI, 8, .inl si)), (th7, .inl (cI, 8, .inl le)), (th8, .inl (cI, 8, .inl un)), (th9, .inl (cI, 8, .inl ul)), (pi, .inr (3, [.ref pia])), (pia, .inl (cI, 384, .inl px)), (cm, .inr (0, [.ref cm1, .ref cm2, .ref cm3])), (cm1, .inl (cI, 24, .inl lea)), (cm2, .inl (cI, 24, .inl upr)), (cm3, .inl (cI, 25, .inl ris)), (pd, .inr (2, [.ref pda, .int pl])), (pda, .inl (cC, 80, .inl tx)), (rd, .inr (4, [.ref pd, .int r104.2.1, .int r104.2.2.1, .ref rda])), (rda, .inl (cI, 7, .inl r104.2.2.2)), (hh, .inr (1, [.ref hst, .int nx, .int hm])), (hst, .inl (cR, 6, .inr (.inr (.inr (.inr (hfn pr ad)))))), (sla, .inl (cR, 2, .inr (.inr (.inr (.inr (hfn prs ads))))))]) (w1 := (ws_model cI cC cZ cR mo mo1 mo2 mo3 mo4 mo5 kn le_ s_ past slo isv pad_)) hP hD [26, 27, 28, 29, 30, 31] [0, 1, 2, 3, 4, 5, 6, 7, 8, 9, 10, 11, 12, 13, 14, 15, 16, 17, 18, 19, 20, 21, 22, 23, 24, 25] rfl rfl (by decide) (by decide) hk1 hFc hP1 hD1
                                              have hP := va_P_subT (X' := (ws_law cI cC cZ cR mm sc sea th th1 th2 th3 th4 th5 th6 th7 th8 th9 pi pia cm cm1 cm2 cm3 pd pda rd rda hh hst sla mo mo1 mo2 mo3 mo4 mo5 se mn ln hi wi br sp si le un ul px tm ps ft fk lea upr ris pl tx r104.2.1 r104.2.2.1 r104.2.2.2 nx hm kn le_ s_ past slo isv pad_ pr ad prs ads)) hP [0, 1, 2, 3, 4, 5, 6, 7, 8, 9, 10, 11, 12, 13, 14, 15, 16, 17, 18, 19, 20, 21, 22, 23, 24, 25, 26, 27, 28, 29, 30, 31] rfl
                                              have hD := va_D_subT (X' := (ws_law cI cC cZ cR mm sc sea th th1 th2 th3 th4 th5 th6 th7 th8 th9 pi pia cm cm1 cm2 cm3 pd pda rd rda hh hst sla mo mo1 mo2 mo3 mo4 mo5 se mn ln hi wi br sp si le un ul px tm ps ft fk lea upr ris pl tx r104.2.1 r104.2.2.1 r104.2.2.2 nx hm kn le_ s_ past slo isv pad_ pr ad prs ads)) hD [0, 1, 2, 3, 4, 5, 6, 7, 8, 9, 10, 11, 12, 13, 14, 15, 16, 17, 18, 19, 20, 21, 22, 23, 24, 25, 26, 27, 28, 29, 30, 31] (by decide) rfl
                                              generalize H1 = H at hP hS ⊢
                                              refine lv_icmp_eq (tgt := 806) hx hb dL_law_729 (by decide) (fun c106 => ?_) (fun c106 => ?_)
                                              · replace h := br_p c106 h
                                                obtain ⟨x107, ex107, h⟩ := bd_sp h
                                                refine lv_iinc (v := x107) (lv' := [(3, .int x107), (0, .ref b), (1, .ref mm), (2, .ref mo)]) hx hb dL_law_806 hl (k := 3) rfl (by rw [ex107]; rfl) (by decide) rfl (fun ls hl => ?_)
                                                refine lv_goto (tgt := 18) hx hb dL_law_809 (by decide) ?_
                                                exact ih x107 se mn ln hi wi br sp si le un ul px tm ps ft fk lea upr ris pl tx r104.2.1 r104.2.2.1 r104.2.2.2 nx hm pr sv prs svs kn le_ s_ past slo isv pad_ ad ads _ _ _ _ _ h (by omega) (by omega) hP hD hS (lv_sub hl [1, 2, 3, 0] rfl)
                                              · replace h := br_n c106 h
                                                exact no_sm h
                                            · replace h := br_n c108 h
                                              by_cases c114 : z1 = 20
                                              · replace h := br_p c114 h
                                                refine lv_tableIn (tgt := 734) hx hb dL_law_33 (by rw [c114]; decide) (by rw [c114]; decide) (by rw [c114]; rfl) (by decide) ?_
                                                refine lv_aload_n hx hb dL_law_734 rfl (lv_at hl 1 rfl) ?_
                                                obtain ⟨r109, hcr109, h⟩ := bn_sp h
                                                have hPc := va_P_3 (X' := (ws_mainT cI cC cZ cR mm sc sea th th1 th2 th3 th4 th5 th6 th7 th8 th9 pi pia cm cm1 cm2 cm3 pd pda rd rda hh hst sla se mn ln hi wi br sp si le un ul px tm ps ft fk lea upr ris pl tx at_ kd va nx hm pr ad)) hP [0, 1, 2, 3, 4, 5, 6, 7, 8, 9, 10, 11, 12, 13, 14, 15, 16, 17, 18, 19, 20, 21, 22, 23, 24] rfl
                                                have hDc := va_D_3 (X' := (ws_mainT cI cC cZ cR mm sc sea th th1 th2 th3 th4 th5 th6 th7 th8 th9 pi pia cm cm1 cm2 cm3 pd pda rd rda hh hst sla se mn ln hi wi br sp si le un ul px tm ps ft fk lea upr ris pl tx at_ kd va nx hm pr ad)) hD [0, 1, 2, 3, 4, 5, 6, 7, 8, 9, 10, 11, 12, 13, 14, 15, 16, 17, 18, 19, 20, 21, 22, 23, 24] (by decide) rfl
                                                have hFc := va_free3 (wc := (ws_mainT cI cC cZ cR mm sc sea th th1 th2 th3 th4 th5 th6 th7 th8 th9 pi pia cm cm1 cm2 cm3 pd pda rd rda hh hst sla se mn ln hi wi br sp si le un ul px tm ps ft fk lea upr ris pl tx at_ kd va nx hm pr ad)) hD hS hA [0, 1, 2, 3, 4, 5, 6, 7, 8, 9, 10, 11, 12, 13, 14, 15, 16, 17, 18, 19, 20, 21, 22, 23, 24] rfl
                                                refine va_calli (va_runV (As := []) (rest := []) ⟨hx, hb, hml, hown, hts⟩ (m_X7_carryOut l D cI cC cZ cR mm sc sea th th1 th2 th3 th4 th5 th6 th7 th8 th9 pi pia cm cm1 cm2 cm3 pd pda rd rda hh hst sla _ se mn ln hi wi br sp si le un ul px tm ps ft fk lea upr ris pl tx at_ kd va nx hm pr ad sv  s.heap.size r109 hcr109) (cwV 0 hts gL_law_X7_carryOut rfl rfl rfl (by decide +kernel) ⟨Nat.le_of_ble_eq_true rfl, Nat.le_of_ble_eq_true rfl⟩) (cPcS_pv hPc hK hDc hAb (Nat.le_refl _) hS hstt (ci := 7) (q0 := 0) rfl rfl) rfl rfl hl.1 rfl (lv_room (Nat.le_of_ble_eq_true rfl)) dL_law_735 ⟨by show _ ≤ 600000; omega, by show _ ≤ 7302250; omega⟩) hS (fun q _ h => hFc q h) hFc (fun xq u110 t H1 locs ht hvm hw hB hz1 hk1 hS => ?_)
                                                rw [hw]
                                                obtain ⟨hP1, hD1⟩ := hB
                                                rw [ht] at hP1
                                                obtain ⟨hP, hD⟩ := jT3 (R := [(sla, .inl (cR, 2, .inr (.inr (.inr (.inr (hfn prs ads)))))), (mo, .inr (8, [.ref mo1, .ref mo2, .int kn, .ref mo3, .ref mo4, .ref mo5, .int le_])), (mo1, .inl (cI, 465, .inl s_)), (mo2, .inl (cI, 2790, .inl past)), (mo3, .inl (cI, 930, .inl slo)), (mo4, .inl (cZ, 2, .inl isv)), (mo5, .inl (cI, 80, .inl pad_))]) (w1 := (ws_mainT cI cC cZ cR mm sc sea th th1 th2 th3 th4 th5 th6 th7 th8 th9 pi pia cm cm1 cm2 cm3 pd pda rd rda hh hst sla se r109.2.2.2.2.2.2.2.1 r109.2.2.2.2.2.2.2.2.1 r109.2.2.2.2.2.2.2.2.2.1 r109.2.2.2.2.2.2.2.2.2.2.1 r109.2.2.2.2.2.2.2.2.2.2.2.1 r109.2.2.2.2.2.2.2.2.2.2.2.2.1 r109.2.2.2.2.2.2.2.2.2.2.2.2.2.1 r109.2.2.2.2.2.2.2.2.2.2.2.2.2.2.1 r109.2.2.2.2.2.2.2.2.2.2.2.2.2.2.2.1 r109.2.2.2.2.2.2.2.2.2.2.2.2.2.2.2.2.1 r109.2.2.2.2.2.2.2.2.2.2.2.2.2.2.2.2.2.1 r109.2.2.2.1 r109.2.2.2.2.1 r109.2.2.2.2.2.1 r109.2.2.2.2.2.2.1 r109.2.2.2.2.2.2.2.2.2.2.2.2.2.2.2.2.2.2.1 upr r109.2.2.2.2.2.2.2.2.2.2.2.2.2.2.2.2.2.2.2.1 r109.2.2.2.2.2.2.2.2.2.2.2.2.2.2.2.2.2.2.2.2.1 tx r109.2.2.2.2.2.2.2.2.2.2.2.2.2.2.2.2.2.2.2.2.2.1 r109.2.2.2.2.2.2.2.2.2.2.2.2.2.2.2.2.2.2.2.2.2.2.1 r109.2.2.2.2.2.2.2.2.2.2.2.2.2.2.2.2.2.2.2.2.2.2.2.1 r109.2.2.2.2.2.2.2.2.2.2.2.2.2.2.2.2.2.2.2.2.2.2.2.2.1 r109.2.2.2.2.2.2.2.2.2.2.2.2.2.2.2.2.2.2.2.2.2.2.2.2.2 r109.2.1 u110)) hP hD [0, 1, 2, 3, 4, 5, 6, 7, 8, 9, 10, 11, 12, 13, 14, 15, 16, 17, 18, 19, 20, 21, 22, 23, 24] [25, 26, 27, 28, 29, 30, 31] rfl rfl (by decide) (by decide) hk1 hFc hP1 hD1
                                                have hP := va_P_subT (X' := (ws_law cI cC cZ cR mm sc sea th th1 th2 th3 th4 th5 th6 th7 th8 th9 pi pia cm cm1 cm2 cm3 pd pda rd rda hh hst sla mo mo1 mo2 mo3 mo4 mo5 se r109.2.2.2.2.2.2.2.1 r109.2.2.2.2.2.2.2.2.1 r109.2.2.2.2.2.2.2.2.2.1 r109.2.2.2.2.2.2.2.2.2.2.1 r109.2.2.2.2.2.2.2.2.2.2.2.1 r109.2.2.2.2.2.2.2.2.2.2.2.2.1 r109.2.2.2.2.2.2.2.2.2.2.2.2.2.1 r109.2.2.2.2.2.2.2.2.2.2.2.2.2.2.1 r109.2.2.2.2.2.2.2.2.2.2.2.2.2.2.2.1 r109.2.2.2.2.2.2.2.2.2.2.2.2.2.2.2.2.1 r109.2.2.2.2.2.2.2.2.2.2.2.2.2.2.2.2.2.1 r109.2.2.2.1 r109.2.2.2.2.1 r109.2.2.2.2.2.1 r109.2.2.2.2.2.2.1 r109.2.2.2.2.2.2.2.2.2.2.2.2.2.2.2.2.2.2.1 upr r109.2.2.2.2.2.2.2.2.2.2.2.2.2.2.2.2.2.2.2.1 r109.2.2.2.2.2.2.2.2.2.2.2.2.2.2.2.2.2.2.2.2.1 tx r109.2.2.2.2.2.2.2.2.2.2.2.2.2.2.2.2.2.2.2.2.2.1 r109.2.2.2.2.2.2.2.2.2.2.2.2.2.2.2.2.2.2.2.2.2.2.1 r109.2.2.2.2.2.2.2.2.2.2.2.2.2.2.2.2.2.2.2.2.2.2.2.1 r109.2.2.2.2.2.2.2.2.2.2.2.2.2.2.2.2.2.2.2.2.2.2.2.2.1 r109.2.2.2.2.2.2.2.2.2.2.2.2.2.2.2.2.2.2.2.2.2.2.2.2.2 kn le_ s_ past slo isv pad_ r109.2.1 u110 prs ads)) hP [7, 8, 9, 10, 11, 12, 13, 14, 15, 16, 17, 18, 19, 20, 21, 22, 23, 24, 25, 26, 27, 28, 29, 30, 31, 0, 1, 2, 3, 4, 5, 6] rfl
                                                have hD := va_D_subT (X' := (ws_law cI cC cZ cR mm sc sea th th1 th2 th3 th4 th5 th6 th7 th8 th9 pi pia cm cm1 cm2 cm3 pd pda rd rda hh hst sla mo mo1 mo2 mo3 mo4 mo5 se r109.2.2.2.2.2.2.2.1 r109.2.2.2.2.2.2.2.2.1 r109.2.2.2.2.2.2.2.2.2.1 r109.2.2.2.2.2.2.2.2.2.2.1 r109.2.2.2.2.2.2.2.2.2.2.2.1 r109.2.2.2.2.2.2.2.2.2.2.2.2.1 r109.2.2.2.2.2.2.2.2.2.2.2.2.2.1 r109.2.2.2.2.2.2.2.2.2.2.2.2.2.2.1 r109.2.2.2.2.2.2.2.2.2.2.2.2.2.2.2.1 r109.2.2.2.2.2.2.2.2.2.2.2.2.2.2.2.2.1 r109.2.2.2.2.2.2.2.2.2.2.2.2.2.2.2.2.2.1 r109.2.2.2.1 r109.2.2.2.2.1 r109.2.2.2.2.2.1 r109.2.2.2.2.2.2.1 r109.2.2.2.2.2.2.2.2.2.2.2.2.2.2.2.2.2.2.1 upr r109.2.2.2.2.2.2.2.2.2.2.2.2.2.2.2.2.2.2.2.1 r109.2.2.2.2.2.2.2.2.2.2.2.2.2.2.2.2.2.2.2.2.1 tx r109.2.2.2.2.2.2.2.2.2.2.2.2.2.2.2.2.2.2.2.2.2.1 r109.2.2.2.2.2.2.2.2.2.2.2.2.2.2.2.2.2.2.2.2.2.2.1 r109.2.2.2.2.2.2.2.2.2.2.2.2.2.2.2.2.2.2.2.2.2.2.2.1 r109.2.2.2.2.2.2.2.2.2.2.2.2.2.2.2.2.2.2.2.2.2.2.2.2.1 r109.2.2.2.2.2.2.2.2.2.2.2.2.2.2.2.2.2.2.2.2.2.2.2.2.2 kn le_ s_ past slo isv pad_ r109.2.1 u110 prs ads)) hD [7, 8, 9, 10, 11, 12, 13, 14, 15, 16, 17, 18, 19, 20, 21, 22, 23, 24, 25, 26, 27, 28, 29, 30, 31, 0, 1, 2, 3, 4, 5, 6] (by decide) rfl
                                                generalize H1 = H at hP hS ⊢
                                                refine lv_aload_n hx hb dL_law_738 rfl (lv_at hl 2 rfl) ?_
                                                obtain ⟨r111, hcr111, h⟩ := bn_sp h
                                                have hPc := hP.sub (ws' := (ws_model cI cC cZ cR mo mo1 mo2 mo3 mo4 mo5 kn le_ s_ past slo isv pad_)) [26, 27, 28, 29, 30, 31] rfl
                                                have hDc := hD.sub (ws' := (ws_model cI cC cZ cR mo mo1 mo2 mo3 mo4 mo5 kn le_ s_ past slo isv pad_)) [26, 27, 28, 29, 30, 31] (by decide) rfl
                                                have hFc := va_free (wc := (ws_model cI cC cZ cR mo mo1 mo2 mo3 mo4 mo5 kn le_ s_ past slo isv pad_)) hD hS hA [26, 27, 28, 29, 30, 31] rfl
                                                refine va_calli (va_runV (As := []) (rest := [.int r109.1]) ⟨hx, hb, hml, hown, hts⟩ (m_X8_carryOut l D cI cC cZ cR mo mo1 mo2 mo3 mo4 mo5 _ kn le_ s_ past slo isv pad_  r111 hcr111) (cwV 0 hts gL_law_X8_carryOut rfl rfl rfl (by decide +kernel) ⟨Nat.le_of_ble_eq_true rfl, Nat.le_of_ble_eq_true rfl⟩) (cPc_pv hPc hK hDc (ci := 8) (q0 := 0) rfl rfl) rfl rfl hl.1 rfl (lv_room (Nat.le_of_ble_eq_true rfl)) dL_law_739 ⟨by show _ ≤ 600000; omega, by show _ ≤ 7302250; omega⟩) hS (fun q _ h => hFc q h) hFc (fun xq u t H1 locs ht hvm hw hB hz1 hk1 hS => ?_)
                                                rw [hw]
                                                obtain ⟨hP1, hD1⟩ := hB
                                                rw [ht] at hP1
                                                obtain ⟨hP, hD⟩ := jT1 (R := [(mm, .inr (7, [.ref sc, .ref cm, .ref hh, .ref sla, .ref pd, .ref rd])), (sc, .inr (5, [.ref sea, .ref th, .ref pi, .int r109.2.2.2.1, .int r109.2.2.2.2.1, .int r109.2.2.2.2.2.1, .int r109.2.2.2.2.2.2.1])), (sea, .inl (cI, 4, .inl se)), (th, .inr (6, [.int r109.2.2.2.2.2.2.2.1, .ref th1, .ref th2, .ref th3, .ref th4, .ref th5, .ref th6, .ref th7, .ref th8, .ref th9])), (th1, .inl (cI, 8, .inl r109.2.2.2.2.2.2.2.2.1)), (th2, .inl (cI, 8, .inl r109.2.2.2.2.2.2.2.2.2.1)), (th3, .inl (cI, 8, .inl r109.2.2.2.2.2.2.2.2.2.2.1)), (th4, .inl (cI, 8, .inl r109.2.2.2.2.2.2.2.2.2.2.2.1)), (th5, .inl (cI, 8, .inl r109.2.2.2.2.2.2.2.2.2.2.2.2.1)), (th6, .inl (cI, 8, .inl r109.2.2.2.2.2.2.2.2.2.2.2.2.2.1)), (th7, .inl (cI, 8, .inl r109.2.2.2.2.2.2.2.2.2.2.2.2.2.2.1)), (th8, .inl (cI, 8, .inl r109.2.2.2.2.2.2.2.2.2.2.2.2.2.2.2.1)), (th9, .inl (cI, 8, .inl r109.2.2.2.2.2.2.2.2.2.2.2.2.2.2.2.2.1)), (pi, .inr (3, [.ref pia])), (pia, .inl (cI, 384, .inl r109.2.2.2.2.2.2.2.2.2.2.2.2.2.2.2.2.2.1)), (cm, .inr (0, [.ref cm1, .ref cm2, .ref cm3])), (cm1, .inl (cI, 24, .inl r109.2.2.2.2.2.2.2.2.2.2.2.2.2.2.2.2.2.2.1)), (cm2, .inl (cI, 24, .inl upr)), (cm3, .inl (cI, 25, .inl r109.2.2.2.2.2.2.2.2.2.2.2.2.2.2.2.2.2.2.2.1)), (pd, .inr (2, [.ref pda, .int r109.2.2.2.2.2.2.2.2.2.2.2.2.2.2.2.2.2.2.2.2.1])), (pda, .inl (cC, 80, .inl tx)), (rd, .inr (4, [.ref pd, .int r109.2.2.2.2.2.2.2.2.2.2.2.2.2.2.2.2.2.2.2.2.2.1, .int r109.2.2.2.2.2.2.2.2.2.2.2.2.2.2.2.2.2.2.2.2.2.2.1, .ref rda])), (rda, .inl (cI, 7, .inl r109.2.2.2.2.2.2.2.2.2.2.2.2.2.2.2.2.2.2.2.2.2.2.2.1)), (hh, .inr (1, [.ref hst, .int r109.2.2.2.2.2.2.2.2.2.2.2.2.2.2.2.2.2.2.2.2.2.2.2.2.1, .int r109.2.2.2.2.2.2.2.2.2.2.2.2.2.2.2.2.2.2.2.2.2.2.2.2.2])), (hst, .inl (cR, 6, .inr (.inr (.inr (.inr (hfn r109.2.1 u110)))))), (sla, .inl (cR, 2, .inr (.inr (.inr (.inr (hfn prs ads))))))]) (w1 := (ws_model cI cC cZ cR mo mo1 mo2 mo3 mo4 mo5 r111.2.1 r111.2.2.1 r111.2.2.2.1 r111.2.2.2.2 slo isv pad_)) hP hD [26, 27, 28, 29, 30, 31] [0, 1, 2, 3, 4, 5, 6, 7, 8, 9, 10, 11, 12, 13, 14, 15, 16, 17, 18, 19, 20, 21, 22, 23, 24, 25] rfl rfl (by decide) (by decide) hk1 hFc hP1 hD1
                                                have hP := va_P_subT (X' := (ws_law cI cC cZ cR mm sc sea th th1 th2 th3 th4 th5 th6 th7 th8 th9 pi pia cm cm1 cm2 cm3 pd pda rd rda hh hst sla mo mo1 mo2 mo3 mo4 mo5 se r109.2.2.2.2.2.2.2.1 r109.2.2.2.2.2.2.2.2.1 r109.2.2.2.2.2.2.2.2.2.1 r109.2.2.2.2.2.2.2.2.2.2.1 r109.2.2.2.2.2.2.2.2.2.2.2.1 r109.2.2.2.2.2.2.2.2.2.2.2.2.1 r109.2.2.2.2.2.2.2.2.2.2.2.2.2.1 r109.2.2.2.2.2.2.2.2.2.2.2.2.2.2.1 r109.2.2.2.2.2.2.2.2.2.2.2.2.2.2.2.1 r109.2.2.2.2.2.2.2.2.2.2.2.2.2.2.2.2.1 r109.2.2.2.2.2.2.2.2.2.2.2.2.2.2.2.2.2.1 r109.2.2.2.1 r109.2.2.2.2.1 r109.2.2.2.2.2.1 r109.2.2.2.2.2.2.1 r109.2.2.2.2.2.2.2.2.2.2.2.2.2.2.2.2.2.2.1 upr r109.2.2.2.2.2.2.2.2.2.2.2.2.2.2.2.2.2.2.2.1 r109.2.2.2.2.2.2.2.2.2.2.2.2.2.2.2.2.2.2.2.2.1 tx r109.2.2.2.2.2.2.2.2.2.2.2.2.2.2.2.2.2.2.2.2.2.1 r109.2.2.2.2.2.2.2.2.2.2.2.2.2.2.2.2.2.2.2.2.2.2.1 r109.2.2.2.2.2.2.2.2.2.2.2.2.2.2.2.2.2.2.2.2.2.2.2.1 r109.2.2.2.2.2.2.2.2.2.2.2.2.2.2.2.2.2.2.2.2.2.2.2.2.1 r109.2.2.2.2.2.2.2.2.2.2.2.2.2.2.2.2.2.2.2.2.2.2.2.2.2 r111.2.1 r111.2.2.1 r111.2.2.2.1 r111.2.2.2.2 slo isv pad_ r109.2.1 u110 prs ads)) hP [0, 1, 2, 3, 4, 5, 6, 7, 8, 9, 10, 11, 12, 13, 14, 15, 16, 17, 18, 19, 20, 21, 22, 23, 24, 25, 26, 27, 28, 29, 30, 31] rfl
                                                have hD := va_D_subT (X' := (ws_law cI cC cZ cR mm sc sea th th1 th2 th3 th4 th5 th6 th7 th8 th9 pi pia cm cm1 cm2 cm3 pd pda rd rda hh hst sla mo mo1 mo2 mo3 mo4 mo5 se r109.2.2.2.2.2.2.2.1 r109.2.2.2.2.2.2.2.2.1 r109.2.2.2.2.2.2.2.2.2.1 r109.2.2.2.2.2.2.2.2.2.2.1 r109.2.2.2.2.2.2.2.2.2.2.2.1 r109.2.2.2.2.2.2.2.2.2.2.2.2.1 r109.2.2.2.2.2.2.2.2.2.2.2.2.2.1 r109.2.2.2.2.2.2.2.2.2.2.2.2.2.2.1 r109.2.2.2.2.2.2.2.2.2.2.2.2.2.2.2.1 r109.2.2.2.2.2.2.2.2.2.2.2.2.2.2.2.2.1 r109.2.2.2.2.2.2.2.2.2.2.2.2.2.2.2.2.2.1 r109.2.2.2.1 r109.2.2.2.2.1 r109.2.2.2.2.2.1 r109.2.2.2.2.2.2.1 r109.2.2.2.2.2.2.2.2.2.2.2.2.2.2.2.2.2.2.1 upr r109.2.2.2.2.2.2.2.2.2.2.2.2.2.2.2.2.2.2.2.1 r109.2.2.2.2.2.2.2.2.2.2.2.2.2.2.2.2.2.2.2.2.1 tx r109.2.2.2.2.2.2.2.2.2.2.2.2.2.2.2.2.2.2.2.2.2.1 r109.2.2.2.2.2.2.2.2.2.2.2.2.2.2.2.2.2.2.2.2.2.2.1 r109.2.2.2.2.2.2.2.2.2.2.2.2.2.2.2.2.2.2.2.2.2.2.2.1 r109.2.2.2.2.2.2.2.2.2.2.2.2.2.2.2.2.2.2.2.2.2.2.2.2.1 r109.2.2.2.2.2.2.2.2.2.2.2.2.2.2.2.2.2.2.2.2.2.2.2.2.2 r111.2.1 r111.2.2.1 r111.2.2.2.1 r111.2.2.2.2 slo isv pad_ r109.2.1 u110 prs ads)) hD [0, 1, 2, 3, 4, 5, 6, 7, 8, 9, 10, 11, 12, 13, 14, 15, 16, 17, 18, 19, 20, 21, 22, 23, 24, 25, 26, 27, 28, 29, 30, 31] (by decide) rfl
                                                generalize H1 = H at hP hS ⊢
                                                refine lv_icmp_eq (tgt := 806) hx hb dL_law_742 (by decide) (fun c112 => ?_) (fun c112 => ?_)
                                                · replace h := br_p c112 h
                                                  obtain ⟨x113, ex113, h⟩ := bd_sp h
                                                  refine lv_iinc (v := x113) (lv' := [(3, .int x113), (0, .ref b), (1, .ref mm), (2, .ref mo)]) hx hb dL_law_806 hl (k := 3) rfl (by rw [ex113]; rfl) (by decide) rfl (fun ls hl => ?_)
                                                  refine lv_goto (tgt := 18) hx hb dL_law_809 (by decide) ?_
                                                  exact ih x113 se r109.2.2.2.2.2.2.2.1 r109.2.2.2.2.2.2.2.2.1 r109.2.2.2.2.2.2.2.2.2.1 r109.2.2.2.2.2.2.2.2.2.2.1 r109.2.2.2.2.2.2.2.2.2.2.2.1 r109.2.2.2.2.2.2.2.2.2.2.2.2.1 r109.2.2.2.2.2.2.2.2.2.2.2.2.2.1 r109.2.2.2.2.2.2.2.2.2.2.2.2.2.2.1 r109.2.2.2.2.2.2.2.2.2.2.2.2.2.2.2.1 r109.2.2.2.2.2.2.2.2.2.2.2.2.2.2.2.2.1 r109.2.2.2.2.2.2.2.2.2.2.2.2.2.2.2.2.2.1 r109.2.2.2.1 r109.2.2.2.2.1 r109.2.2.2.2.2.1 r109.2.2.2.2.2.2.1 r109.2.2.2.2.2.2.2.2.2.2.2.2.2.2.2.2.2.2.1 upr r109.2.2.2.2.2.2.2.2.2.2.2.2.2.2.2.2.2.2.2.1 r109.2.2.2.2.2.2.2.2.2.2.2.2.2.2.2.2.2.2.2.2.1 tx r109.2.2.2.2.2.2.2.2.2.2.2.2.2.2.2.2.2.2.2.2.2.1 r109.2.2.2.2.2.2.2.2.2.2.2.2.2.2.2.2.2.2.2.2.2.2.1 r109.2.2.2.2.2.2.2.2.2.2.2.2.2.2.2.2.2.2.2.2.2.2.2.1 r109.2.2.2.2.2.2.2.2.2.2.2.2.2.2.2.2.2.2.2.2.2.2.2.2.1 r109.2.2.2.2.2.2.2.2.2.2.2.2.2.2.2.2.2.2.2.2.2.2.2.2.2 r109.2.1 r109.2.2.1 prs svs r111.2.1 r111.2.2.1 r111.2.2.2.1 r111.2.2.2.2 slo isv pad_ u110 ads _ _ _ _ _ h (by omega) (by omega) hP hD hS (lv_sub hl [1, 2, 3, 0] rfl)
                                                · replace h := br_n c112 h
                                                  exact no_sm h
                                              · replace h := br_n c114 h
                                                by_cases c120 : z1 = 21
                                                · replace h := br_p c120 h
                                                  refine lv_tableIn (tgt := 747) hx hb dL_law_33 (by rw [c120]; decide) (by rw [c120]; decide) (by rw [c120]; rfl) (by decide) ?_
                                                  refine lv_aload_n hx hb dL_law_747 rfl (lv_at hl 1 rfl) ?_
                                                  obtain ⟨r115, hcr115, h⟩ := bn_sp h
                                                  have hPc := va_P_3 (X' := (ws_mainT cI cC cZ cR mm sc sea th th1 th2 th3 th4 th5 th6 th7 th8 th9 pi pia cm cm1 cm2 cm3 pd pda rd rda hh hst sla se mn ln hi wi br sp si le un ul px tm ps ft fk lea upr ris pl tx at_ kd va nx hm pr ad)) hP [0, 1, 2, 3, 4, 5, 6, 7, 8, 9, 10, 11, 12, 13, 14, 15, 16, 17, 18, 19, 20, 21, 22, 23, 24] rfl
                                                  have hDc := va_D_3 (X' := (ws_mainT cI cC cZ cR mm sc sea th th1 th2 th3 th4 th5 th6 th7 th8 th9 pi pia cm cm1 cm2 cm3 pd pda rd rda hh hst sla se mn ln hi wi br sp si le un ul px tm ps ft fk lea upr ris pl tx at_ kd va nx hm pr ad)) hD [0, 1, 2, 3, 4, 5, 6, 7, 8, 9, 10, 11, 12, 13, 14, 15, 16, 17, 18, 19, 20, 21, 22, 23, 24] (by decide) rfl
                                                  have hFc := va_free3 (wc := (ws_mainT cI cC cZ cR mm sc sea th th1 th2 th3 th4 th5 th6 th7 th8 th9 pi pia cm cm1 cm2 cm3 pd pda rd rda hh hst sla se mn ln hi wi br sp si le un ul px tm ps ft fk lea upr ris pl tx at_ kd va nx hm pr ad)) hD hS hA [0, 1, 2, 3, 4, 5, 6, 7, 8, 9, 10, 11, 12, 13, 14, 15, 16, 17, 18, 19, 20, 21, 22, 23, 24] rfl
                                                  refine va_calli (va_runV (As := []) (rest := []) ⟨hx, hb, hml, hown, hts⟩ (m_X7_undo l D cI cC cZ cR mm sc sea th th1 th2 th3 th4 th5 th6 th7 th8 th9 pi pia cm cm1 cm2 cm3 pd pda rd rda hh hst sla _ se mn ln hi wi br sp si le un ul px tm ps ft fk lea upr ris pl tx at_ kd va nx hm pr ad sv  r115 hcr115) (cwV 0 hts gL_law_X7_undo rfl rfl rfl (by decide +kernel) ⟨Nat.le_of_ble_eq_true rfl, Nat.le_of_ble_eq_true rfl⟩) (cPc_pv hPc hK hDc (ci := 7) (q0 := 0) rfl rfl) rfl rfl hl.1 rfl (lv_room (Nat.le_of_ble_eq_true rfl)) dL_law_748 ⟨by show _ ≤ 600000; omega, by show _ ≤ 7302250; omega⟩) hS (fun q _ h => hFc q h) hFc (fun xq u116 t H1 locs ht hvm hw hB hz1 hk1 hS => ?_)
                                                  rw [hw]
                                                  obtain ⟨hP1, hD1⟩ := hB
                                                  rw [ht] at hP1
                                                  obtain ⟨hP, hD⟩ := jT3 (R := [(sla, .inl (cR, 2, .inr (.inr (.inr (.inr (hfn prs ads)))))), (mo, .inr (8, [.ref mo1, .ref mo2, .int kn, .ref mo3, .ref mo4, .ref mo5, .int le_])), (mo1, .inl (cI, 465, .inl s_)), (mo2, .inl (cI, 2790, .inl past)), (mo3, .inl (cI, 930, .inl slo)), (mo4, .inl (cZ, 2, .inl isv)), (mo5, .inl (cI, 80, .inl pad_))]) (w1 := (ws_mainT cI cC cZ cR mm sc sea th th1 th2 th3 th4 th5 th6 th7 th8 th9 pi pia cm cm1 cm2 cm3 pd pda rd rda hh hst sla r115.2.2.2.2.2.1 r115.2.2.2.2.2.2.1 r115.2.2.2.2.2.2.2.1 r115.2.2.2.2.2.2.2.2.1 r115.2.2.2.2.2.2.2.2.2.1 r115.2.2.2.2.2.2.2.2.2.2.1 r115.2.2.2.2.2.2.2.2.2.2.2.1 r115.2.2.2.2.2.2.2.2.2.2.2.2.1 r115.2.2.2.2.2.2.2.2.2.2.2.2.2.1 r115.2.2.2.2.2.2.2.2.2.2.2.2.2.2.1 r115.2.2.2.2.2.2.2.2.2.2.2.2.2.2.2.1 r115.2.2.2.2.2.2.2.2.2.2.2.2.2.2.2.2.1 r115.2.1 r115.2.2.1 r115.2.2.2.1 r115.2.2.2.2.1 lea upr ris pl tx at_ kd va r115.2.2.2.2.2.2.2.2.2.2.2.2.2.2.2.2.2.1 r115.2.2.2.2.2.2.2.2.2.2.2.2.2.2.2.2.2.2 pr u116)) hP hD [0, 1, 2, 3, 4, 5, 6, 7, 8, 9, 10, 11, 12, 13, 14, 15, 16, 17, 18, 19, 20, 21, 22, 23, 24] [25, 26, 27, 28, 29, 30, 31] rfl rfl (by decide) (by decide) hk1 hFc hP1 hD1
                                                  have hP := va_P_subT (X' := (ws_law cI cC cZ cR mm sc sea th th1 th2 th3 th4 th5 th6 th7 th8 th9 pi pia cm cm1 cm2 cm3 pd pda rd rda hh hst sla mo mo1 mo2 mo3 mo4 mo5 r115.2.2.2.2.2.1 r115.2.2.2.2.2.2.1 r115.2.2.2.2.2.2.2.1 r115.2.2.2.2.2.2.2.2.1 r115.2.2.2.2.2.2.2.2.2.1 r115.2.2.2.2.2.2.2.2.2.2.1 r115.2.2.2.2.2.2.2.2.2.2.2.1 r115.2.2.2.2.2.2.2.2.2.2.2.2.1 r115.2.2.2.2.2.2.2.2.2.2.2.2.2.1 r115.2.2.2.2.2.2.2.2.2.2.2.2.2.2.1 r115.2.2.2.2.2.2.2.2.2.2.2.2.2.2.2.1 r115.2.2.2.2.2.2.2.2.2.2.2.2.2.2.2.2.1 r115.2.1 r115.2.2.1 r115.2.2.2.1 r115.2.2.2.2.1 lea upr ris pl tx at_ kd va r115.2.2.2.2.2.2.2.2.2.2.2.2.2.2.2.2.2.1 r115.2.2.2.2.2.2.2.2.2.2.2.2.2.2.2.2.2.2 kn le_ s_ past slo isv pad_ pr u116 prs ads)) hP [7, 8, 9, 10, 11, 12, 13, 14, 15, 16, 17, 18, 19, 20, 21, 22, 23, 24, 25, 26, 27, 28, 29, 30, 31, 0, 1, 2, 3, 4, 5, 6] rfl
                                                  have hD := va_D_subT (X' := (ws_law cI cC cZ cR mm sc sea th th1 th2 th3 th4 th5 th6 th7 th8 th9 pi pia cm cm1 cm2 cm3 pd pda rd rda hh hst sla mo mo1 mo2 mo3 mo4 mo5 r115.2.2.2.2.2.1 r115.2.2.2.2.2.2.1 r115.2.2.2.2.2.2.2.1 r115.2.2.2.2.2.2.2.2.1 r115.2.2.2.2.2.2.2.2.2.1 r115.2.2.2.2.2.2.2.2.2.2.1 r115.2.2.2.2.2.2.2.2.2.2.2.1 r115.2.2.2.2.2.2.2.2.2.2.2.2.1 r115.2.2.2.2.2.2.2.2.2.2.2.2.2.1 r115.2.2.2.2.2.2.2.2.2.2.2.2.2.2.1 r115.2.2.2.2.2.2.2.2.2.2.2.2.2.2.2.1 r115.2.2.2.2.2.2.2.2.2.2.2.2.2.2.2.2.1 r115.2.1 r115.2.2.1 r115.2.2.2.1 r115.2.2.2.2.1 lea upr ris pl tx at_ kd va r115.2.2.2.2.2.2.2.2.2.2.2.2.2.2.2.2.2.1 r115.2.2.2.2.2.2.2.2.2.2.2.2.2.2.2.2.2.2 kn le_ s_ past slo isv pad_ pr u116 prs ads)) hD [7, 8, 9, 10, 11, 12, 13, 14, 15, 16, 17, 18, 19, 20, 21, 22, 23, 24, 25, 26, 27, 28, 29, 30, 31, 0, 1, 2, 3, 4, 5, 6] (by decide) rfl
                                                  generalize H1 = H at hP hS ⊢
                                                  refine lv_aload_n hx hb dL_law_751 rfl (lv_at hl 2 rfl) ?_
                                                  obtain ⟨r117, hcr117, h⟩ := bn_sp h
                                                  have hPc := hP.sub (ws' := (ws_model cI cC cZ cR mo mo1 mo2 mo3 mo4 mo5 kn le_ s_ past slo isv pad_)) [26, 27, 28, 29, 30, 31] rfl
                                                  have hDc := hD.sub (ws' := (ws_model cI cC cZ cR mo mo1 mo2 mo3 mo4 mo5 kn le_ s_ past slo isv pad_)) [26, 27, 28, 29, 30, 31] (by decide) rfl
                                                  have hFc := va_free (wc := (ws_model cI cC cZ cR mo mo1 mo2 mo3 mo4 mo5 kn le_ s_ past slo isv pad_)) hD hS hA [26, 27, 28, 29, 30, 31] rfl
                                                  refine va_calli (va_runV (As := []) (rest := [.int r115.1]) ⟨hx, hb, hml, hown, hts⟩ (m_X8_undo l D cI cC cZ cR mo mo1 mo2 mo3 mo4 mo5 _ kn le_ s_ past slo isv pad_  r117 hcr117) (cwV 0 hts gL_law_X8_undo rfl rfl rfl (by decide +kernel) ⟨Nat.le_of_ble_eq_true rfl, Nat.le_of_ble_eq_true rfl⟩) (cPc_pv hPc hK hDc (ci := 8) (q0 := 0) rfl rfl) rfl rfl hl.1 rfl (lv_room (Nat.le_of_ble_eq_true rfl)) dL_law_752 ⟨by show _ ≤ 600000; omega, by show _ ≤ 7302250; omega⟩) hS (fun q _ h => hFc q h) hFc (fun xq u t H1 locs ht hvm hw hB hz1 hk1 hS => ?_)
                                                  rw [hw]
                                                  obtain ⟨hP1, hD1⟩ := hB
                                                  rw [ht] at hP1
                                                  obtain ⟨hP, hD⟩ := jT1 (R := [(mm, .inr (7, [.ref sc, .ref cm, .ref hh, .ref sla, .ref pd, .ref rd])), (sc, .inr (5, [.ref sea, .ref th, .ref pi, .int r115.2.1, .int r115.2.2.1, .int r115.2.2.2.1, .int r115.2.2.2.2.1])), (sea, .inl (cI, 4, .inl r115.2.2.2.2.2.1)), (th, .inr (6, [.int r115.2.2.2.2.2.2.1, .ref th1, .ref th2, .ref th3, .ref th4, .ref th5, .ref th6, .ref th7, .ref th8, .ref th9])), (th1, .inl (cI, 8, .inl r115.2.2.2.2.2.2.2.1)), (th2, .inl (cI, 8, .inl r115.2.2.2.2.2.2.2.2.1)), (th3, .inl (cI, 8, .inl r115.2.2.2.2.2.2.2.2.2.1)), (th4, .inl (cI, 8, .inl r115.2.2.2.2.2.2.2.2.2.2.1)), (th5, .inl (cI, 8, .inl r115.2.2.2.2.2.2.2.2.2.2.2.1)), (th6, .inl (cI, 8, .inl r115.2.2.2.2.2.2.2.2.2.2.2.2.1)), (th7, .inl (cI, 8, .inl r115.2.2.2.2.2.2.2.2.2.2.2.2.2.1)), (th8, .inl (cI, 8, .inl r115.2.2.2.2.2.2.2.2.2.2.2.2.2.2.1)), (th9, .inl (cI, 8, .inl r115.2.2.2.2.2.2.2.2.2.2.2.2.2.2.2.1)), (pi, .inr (3, [.ref pia])), (pia, .inl (cI, 384, .inl r115.2.2.2.2.2.2.2.2.2.2.2.2.2.2.2.2.1)), (cm, .inr (0, [.ref cm1, .ref cm2, .ref cm3])), (cm1, .inl (cI, 24, .inl lea)), (cm2, .inl (cI, 24, .inl upr)), (cm3, .inl (cI, 25, .inl ris)), (pd, .inr (2, [.ref pda, .int pl])), (pda, .inl (cC, 80, .inl tx)), (rd, .inr (4, [.ref pd, .int at_, .int kd, .ref rda])), (rda, .inl (cI, 7, .inl va)), (hh, .inr (1, [.ref hst, .int r115.2.2.2.2.2.2.2.2.2.2.2.2.2.2.2.2.2.1, .int r115.2.2.2.2.2.2.2.2.2.2.2.2.2.2.2.2.2.2])), (hst, .inl (cR, 6, .inr (.inr (.inr (.inr (hfn pr u116)))))), (sla, .inl (cR, 2, .inr (.inr (.inr (.inr (hfn prs ads))))))]) (w1 := (ws_model cI cC cZ cR mo mo1 mo2 mo3 mo4 mo5 r117.2.1 le_ r117.2.2 past slo isv pad_)) hP hD [26, 27, 28, 29, 30, 31] [0, 1, 2, 3, 4, 5, 6, 7, 8, 9, 10, 11, 12, 13, 14, 15, 16, 17, 18, 19, 20, 21, 22, 23, 24, 25] rfl rfl (by decide) (by decide) hk1 hFc hP1 hD1
                                                  have hP := va_P_subT (X' := (ws_law cI cC cZ cR mm sc sea th th1 th2 th3 th4 th5 th6 th7 th8 th9 pi pia cm cm1 cm2 cm3 pd pda rd rda hh hst sla mo mo1 mo2 mo3 mo4 mo5 r115.2.2.2.2.2.1 r115.2.2.2.2.2.2.1 r115.2.2.2.2.2.2.2.1 r115.2.2.2.2.2.2.2.2.1 r115.2.2.2.2.2.2.2.2.2.1 r115.2.2.2.2.2.2.2.2.2.2.1 r115.2.2.2.2.2.2.2.2.2.2.2.1 r115.2.2.2.2.2.2.2.2.2.2.2.2.1 r115.2.2.2.2.2.2.2.2.2.2.2.2.2.1 r115.2.2.2.2.2.2.2.2.2.2.2.2.2.2.1 r115.2.2.2.2.2.2.2.2.2.2.2.2.2.2.2.1 r115.2.2.2.2.2.2.2.2.2.2.2.2.2.2.2.2.1 r115.2.1 r115.2.2.1 r115.2.2.2.1 r115.2.2.2.2.1 lea upr ris pl tx at_ kd va r115.2.2.2.2.2.2.2.2.2.2.2.2.2.2.2.2.2.1 r115.2.2.2.2.2.2.2.2.2.2.2.2.2.2.2.2.2.2 r117.2.1 le_ r117.2.2 past slo isv pad_ pr u116 prs ads)) hP [0, 1, 2, 3, 4, 5, 6, 7, 8, 9, 10, 11, 12, 13, 14, 15, 16, 17, 18, 19, 20, 21, 22, 23, 24, 25, 26, 27, 28, 29, 30, 31] rfl
                                                  have hD := va_D_subT (X' := (ws_law cI cC cZ cR mm sc sea th th1 th2 th3 th4 th5 th6 th7 th8 th9 pi pia cm cm1 cm2 cm3 pd pda rd rda hh hst sla mo mo1 mo2 mo3 mo4 mo5 r115.2.2.2.2.2.1 r115.2.2.2.2.2.2.1 r115.2.2.2.2.2.2.2.1 r115.2.2.2.2.2.2.2.2.1 r115.2.2.2.2.2.2.2.2.2.1 r115.2.2.2.2.2.2.2.2.2.2.1 r115.2.2.2.2.2.2.2.2.2.2.2.1 r115.2.2.2.2.2.2.2.2.2.2.2.2.1 r115.2.2.2.2.2.2.2.2.2.2.2.2.2.1 r115.2.2.2.2.2.2.2.2.2.2.2.2.2.2.1 r115.2.2.2.2.2.2.2.2.2.2.2.2.2.2.2.1 r115.2.2.2.2.2.2.2.2.2.2.2.2.2.2.2.2.1 r115.2.1 r115.2.2.1 r115.2.2.2.1 r115.2.2.2.2.1 lea upr ris pl tx at_ kd va r115.2.2.2.2.2.2.2.2.2.2.2.2.2.2.2.2.2.1 r115.2.2.2.2.2.2.2.2.2.2.2.2.2.2.2.2.2.2 r117.2.1 le_ r117.2.2 past slo isv pad_ pr u116 prs ads)) hD [0, 1, 2, 3, 4, 5, 6, 7, 8, 9, 10, 11, 12, 13, 14, 15, 16, 17, 18, 19, 20, 21, 22, 23, 24, 25, 26, 27, 28, 29, 30, 31] (by decide) rfl
                                                  generalize H1 = H at hP hS ⊢
                                                  refine lv_icmp_eq (tgt := 806) hx hb dL_law_755 (by decide) (fun c118 => ?_) (fun c118 => ?_)
                                                  · replace h := br_p c118 h
                                                    obtain ⟨x119, ex119, h⟩ := bd_sp h
                                                    refine lv_iinc (v := x119) (lv' := [(3, .int x119), (0, .ref b), (1, .ref mm), (2, .ref mo)]) hx hb dL_law_806 hl (k := 3) rfl (by rw [ex119]; rfl) (by decide) rfl (fun ls hl => ?_)
                                                    refine lv_goto (tgt := 18) hx hb dL_law_809 (by decide) ?_
                                                    exact ih x119 r115.2.2.2.2.2.1 r115.2.2.2.2.2.2.1 r115.2.2.2.2.2.2.2.1 r115.2.2.2.2.2.2.2.2.1 r115.2.2.2.2.2.2.2.2.2.1 r115.2.2.2.2.2.2.2.2.2.2.1 r115.2.2.2.2.2.2.2.2.2.2.2.1 r115.2.2.2.2.2.2.2.2.2.2.2.2.1 r115.2.2.2.2.2.2.2.2.2.2.2.2.2.1 r115.2.2.2.2.2.2.2.2.2.2.2.2.2.2.1 r115.2.2.2.2.2.2.2.2.2.2.2.2.2.2.2.1 r115.2.2.2.2.2.2.2.2.2.2.2.2.2.2.2.2.1 r115.2.1 r115.2.2.1 r115.2.2.2.1 r115.2.2.2.2.1 lea upr ris pl tx at_ kd va r115.2.2.2.2.2.2.2.2.2.2.2.2.2.2.2.2.2.1 r115.2.2.2.2.2.2.2.2.2.2.2.2.2.2.2.2.2.2 pr sv prs svs r117.2.1 le_ r117.2.2 past slo isv pad_ u116 ads _ _ _ _ _ h (by omega) (by omega) hP hD hS (lv_sub hl [1, 2, 3, 0] rfl)
                                                  · replace h := br_n c118 h
                                                    exact no_sm h
                                                · replace h := br_n c120 h
                                                  by_cases c126 : z1 = 22
                                                  · replace h := br_p c126 h
                                                    refine lv_tableIn (tgt := 760) hx hb dL_law_33 (by rw [c126]; decide) (by rw [c126]; decide) (by rw [c126]; rfl) (by decide) ?_
                                                    refine lv_aload_n hx hb dL_law_760 rfl (lv_at hl 1 rfl) ?_
                                                    refine lv_aload_n hx hb dL_law_761 rfl (lv_at hl 0 rfl) ?_
                                                    refine lv_iload_n hx hb dL_law_762 rfl (lv_at hl 3 rfl) ?_
                                                    refine lv_iconst (v := 1) hx hb dL_law_763 (by decide) ?_
                                                    refine lv_iadd hx hb dL_law_764 ?_
                                                    obtain ⟨hin, h⟩ := gd_sp h
                                                    refine va_sld hx hb hX hbl hbA hS hin dL_law_765 ?_
                                                    obtain ⟨r121, hcr121, h⟩ := bn_sp h
                                                    have hP := va_P_perm (List.Perm.append_left _ List.perm_append_comm) hP
                                                    have hD := va_D_perm (List.Perm.append_left _ List.perm_append_comm) hD
                                                    have hPc := va_P_3 (X' := (ws_mainS cI cC cZ cR mm sc sea th th1 th2 th3 th4 th5 th6 th7 th8 th9 pi pia cm cm1 cm2 cm3 pd pda rd rda hh sla se mn ln hi wi br sp si le un ul px tm ps ft fk lea upr ris pl tx at_ kd va (hfn prs ads))) hP [0, 1, 2, 3, 4, 5, 6, 7, 8, 9, 10, 11, 12, 13, 14, 15, 16, 17, 18, 19, 20, 21, 22, 25] rfl
                                                    have hDc := va_D_3 (X' := (ws_mainS cI cC cZ cR mm sc sea th th1 th2 th3 th4 th5 th6 th7 th8 th9 pi pia cm cm1 cm2 cm3 pd pda rd rda hh sla se mn ln hi wi br sp si le un ul px tm ps ft fk lea upr ris pl tx at_ kd va (hfn prs ads))) hD [0, 1, 2, 3, 4, 5, 6, 7, 8, 9, 10, 11, 12, 13, 14, 15, 16, 17, 18, 19, 20, 21, 22, 25] (by decide) rfl
                                                    have hFc := va_free3 (wc := (ws_mainS cI cC cZ cR mm sc sea th th1 th2 th3 th4 th5 th6 th7 th8 th9 pi pia cm cm1 cm2 cm3 pd pda rd rda hh sla se mn ln hi wi br sp si le un ul px tm ps ft fk lea upr ris pl tx at_ kd va (hfn prs ads))) hD hS hA [0, 1, 2, 3, 4, 5, 6, 7, 8, 9, 10, 11, 12, 13, 14, 15, 16, 17, 18, 19, 20, 21, 22, 25] rfl
                                                    refine va_calli (va_runV (As := [.int (xs (v3 + 1 : Int32).toNatClampNeg)]) (rest := []) ⟨hx, hb, hml, hown, hts⟩ (m_X7_save l D cI cC cZ cR mm sc sea th th1 th2 th3 th4 th5 th6 th7 th8 th9 pi pia cm cm1 cm2 cm3 pd pda rd rda hh sla _ se mn ln hi wi br sp si le un ul px tm ps ft fk lea upr ris pl tx at_ kd va prs ads svs (xs (v3 + 1 : Int32).toNatClampNeg) s.heap.size r121 hcr121) (cwV 1 hts gL_law_X7_save rfl rfl rfl (by decide +kernel) ⟨Nat.le_of_ble_eq_true rfl, Nat.le_of_ble_eq_true rfl⟩) (cPcS_pv hPc hK hDc hAb (Nat.le_refl _) hS hstt (ci := 7) (q0 := 0) rfl rfl) rfl rfl hl.1 rfl (lv_room (Nat.le_of_ble_eq_true rfl)) dL_law_766 ⟨by show _ ≤ 600000; omega, by show _ ≤ 7302250; omega⟩) hS (fun q _ h => hFc q h) hFc (fun xq u122 t H1 locs ht hvm hw hB hz1 hk1 hS => ?_)
                                                    rw [hw]
                                                    obtain ⟨hP1, hD1⟩ := hB
                                                    rw [ht] at hP1
                                                    obtain ⟨hP, hD⟩ := jT3 (R := [(hh, .inr (1, [.ref hst, .int nx, .int hm])), (hst, .inl (cR, 6, .inr (.inr (.inr (.inr (hfn pr ad)))))), (mo, .inr (8, [.ref mo1, .ref mo2, .int kn, .ref mo3, .ref mo4, .ref mo5, .int le_])), (mo1, .inl (cI, 465, .inl s_)), (mo2, .inl (cI, 2790, .inl past)), (mo3, .inl (cI, 930, .inl slo)), (mo4, .inl (cZ, 2, .inl isv)), (mo5, .inl (cI, 80, .inl pad_))]) (w1 := (ws_mainS cI cC cZ cR mm sc sea th th1 th2 th3 th4 th5 th6 th7 th8 th9 pi pia cm cm1 cm2 cm3 pd pda rd rda hh sla se mn ln hi wi br sp si le un ul px tm ps ft fk lea upr ris pl tx at_ kd va (hfn r121.2.1 u122))) hP hD [0, 1, 2, 3, 4, 5, 6, 7, 8, 9, 10, 11, 12, 13, 14, 15, 16, 17, 18, 19, 20, 21, 22, 25] [23, 24, 26, 27, 28, 29, 30, 31] rfl rfl (by decide) (by decide) hk1 hFc hP1 hD1
                                                    have hP := va_P_subT (X' := (ws_law cI cC cZ cR mm sc sea th th1 th2 th3 th4 th5 th6 th7 th8 th9 pi pia cm cm1 cm2 cm3 pd pda rd rda hh hst sla mo mo1 mo2 mo3 mo4 mo5 se mn ln hi wi br sp si le un ul px tm ps ft fk lea upr ris pl tx at_ kd va nx hm kn le_ s_ past slo isv pad_ pr ad r121.2.1 u122)) hP [8, 9, 10, 11, 12, 13, 14, 15, 16, 17, 18, 19, 20, 21, 22, 23, 24, 25, 26, 27, 28, 29, 30, 0, 1, 31, 2, 3, 4, 5, 6, 7] rfl
                                                    have hD := va_D_subT (X' := (ws_law cI cC cZ cR mm sc sea th th1 th2 th3 th4 th5 th6 th7 th8 th9 pi pia cm cm1 cm2 cm3 pd pda rd rda hh hst sla mo mo1 mo2 mo3 mo4 mo5 se mn ln hi wi br sp si le un ul px tm ps ft fk lea upr ris pl tx at_ kd va nx hm kn le_ s_ past slo isv pad_ pr ad r121.2.1 u122)) hD [8, 9, 10, 11, 12, 13, 14, 15, 16, 17, 18, 19, 20, 21, 22, 23, 24, 25, 26, 27, 28, 29, 30, 0, 1, 31, 2, 3, 4, 5, 6, 7] (by decide) rfl
                                                    have hP := va_P_perm (List.Perm.append_left _ List.perm_append_comm) hP
                                                    have hD := va_D_perm (List.Perm.append_left _ List.perm_append_comm) hD
                                                    generalize H1 = H at hP hS ⊢
                                                    refine lv_aload_n hx hb dL_law_769 rfl (lv_at hl 2 rfl) ?_
                                                    refine lv_aload_n hx hb dL_law_770 rfl (lv_at hl 0 rfl) ?_
                                                    refine lv_iload_n hx hb dL_law_771 rfl (lv_at hl 3 rfl) ?_
                                                    refine lv_iconst (v := 1) hx hb dL_law_772 (by decide) ?_
                                                    refine lv_iadd hx hb dL_law_773 ?_
                                                    obtain ⟨hin, h⟩ := gd_sp h
                                                    refine va_sld hx hb hX hbl hbA hS hin dL_law_774 ?_
                                                    obtain ⟨r123, hcr123, h⟩ := bn_sp h
                                                    have hPc := hP.sub (ws' := (ws_model cI cC cZ cR mo mo1 mo2 mo3 mo4 mo5 kn le_ s_ past slo isv pad_)) [26, 27, 28, 29, 30, 31] rfl
                                                    have hDc := hD.sub (ws' := (ws_model cI cC cZ cR mo mo1 mo2 mo3 mo4 mo5 kn le_ s_ past slo isv pad_)) [26, 27, 28, 29, 30, 31] (by decide) rfl
                                                    have hFc := va_free (wc := (ws_model cI cC cZ cR mo mo1 mo2 mo3 mo4 mo5 kn le_ s_ past slo isv pad_)) hD hS hA [26, 27, 28, 29, 30, 31] rfl
                                                    refine va_calli (va_runV (As := [.int (xs (v3 + 1 : Int32).toNatClampNeg)]) (rest := [.int r121.1]) ⟨hx, hb, hml, hown, hts⟩ (m_X8_save l D cI cC cZ cR mo mo1 mo2 mo3 mo4 mo5 _ kn le_ s_ past slo isv pad_ (xs (v3 + 1 : Int32).toNatClampNeg) r123 hcr123) (cwV 1 hts gL_law_X8_save rfl rfl rfl (by decide +kernel) ⟨Nat.le_of_ble_eq_true rfl, Nat.le_of_ble_eq_true rfl⟩) (cPc_pv hPc hK hDc (ci := 8) (q0 := 0) rfl rfl) rfl rfl hl.1 rfl (lv_room (Nat.le_of_ble_eq_true rfl)) dL_law_775 ⟨by show _ ≤ 600000; omega, by show _ ≤ 7302250; omega⟩) hS (fun q _ h => hFc q h) hFc (fun xq u t H1 locs ht hvm hw hB hz1 hk1 hS => ?_)
                                                    rw [hw]
                                                    obtain ⟨hP1, hD1⟩ := hB
                                                    rw [ht] at hP1
                                                    obtain ⟨hP, hD⟩ := jT1 (R := [(mm, .inr (7, [.ref sc, .ref cm, .ref hh, .ref sla, .ref pd, .ref rd])), (sc, .inr (5, [.ref sea, .ref th, .ref pi, .int tm, .int ps, .int ft, .int fk])), (sea, .inl (cI, 4, .inl se)), (th, .inr (6, [.int mn, .ref th1, .ref th2, .ref th3, .ref th4, .ref th5, .ref th6, .ref th7, .ref th8, .ref th9])), (th1, .inl (cI, 8, .inl ln)), (th2, .inl (cI, 8, .inl hi)), (th3, .inl (cI, 8, .inl wi)), (th4, .inl (cI, 8, .inl br)), (th5, .inl (cI, 8, .inl sp)), (th6, .inl (cI, 8, .inl si)), (th7, .inl (cI, 8, .inl le)), (th8, .inl (cI, 8, .inl un)), (th9, .inl (cI, 8, .inl ul)), (pi, .inr (3, [.ref pia])), (pia, .inl (cI, 384, .inl px)), (cm, .inr (0, [.ref cm1, .ref cm2, .ref cm3])), (cm1, .inl (cI, 24, .inl lea)), (cm2, .inl (cI, 24, .inl upr)), (cm3, .inl (cI, 25, .inl ris)), (pd, .inr (2, [.ref pda, .int pl])), (pda, .inl (cC, 80, .inl tx)), (rd, .inr (4, [.ref pd, .int at_, .int kd, .ref rda])), (rda, .inl (cI, 7, .inl va)), (hh, .inr (1, [.ref hst, .int nx, .int hm])), (hst, .inl (cR, 6, .inr (.inr (.inr (.inr (hfn pr ad)))))), (sla, .inl (cR, 2, .inr (.inr (.inr (.inr (hfn r121.2.1 u122))))))]) (w1 := (ws_model cI cC cZ cR mo mo1 mo2 mo3 mo4 mo5 kn le_ s_ past r123.2.1 r123.2.2 pad_)) hP hD [26, 27, 28, 29, 30, 31] [0, 1, 2, 3, 4, 5, 6, 7, 8, 9, 10, 11, 12, 13, 14, 15, 16, 17, 18, 19, 20, 21, 22, 23, 24, 25] rfl rfl (by decide) (by decide) hk1 hFc hP1 hD1
                                                    have hP := va_P_subT (X' := (ws_law cI cC cZ cR mm sc sea th th1 th2 th3 th4 th5 th6 th7 th8 th9 pi pia cm cm1 cm2 cm3 pd pda rd rda hh hst sla mo mo1 mo2 mo3 mo4 mo5 se mn ln hi wi br sp si le un ul px tm ps ft fk lea upr ris pl tx at_ kd va nx hm kn le_ s_ past r123.2.1 r123.2.2 pad_ pr ad r121.2.1 u122)) hP [0, 1, 2, 3, 4, 5, 6, 7, 8, 9, 10, 11, 12, 13, 14, 15, 16, 17, 18, 19, 20, 21, 22, 23, 24, 25, 26, 27, 28, 29, 30, 31] rfl
                                                    have hD := va_D_subT (X' := (ws_law cI cC cZ cR mm sc sea th th1 th2 th3 th4 th5 th6 th7 th8 th9 pi pia cm cm1 cm2 cm3 pd pda rd rda hh hst sla mo mo1 mo2 mo3 mo4 mo5 se mn ln hi wi br sp si le un ul px tm ps ft fk lea upr ris pl tx at_ kd va nx hm kn le_ s_ past r123.2.1 r123.2.2 pad_ pr ad r121.2.1 u122)) hD [0, 1, 2, 3, 4, 5, 6, 7, 8, 9, 10, 11, 12, 13, 14, 15, 16, 17, 18, 19, 20, 21, 22, 23, 24, 25, 26, 27, 28, 29, 30, 31] (by decide) rfl
                                                    generalize H1 = H at hP hS ⊢
                                                    refine lv_icmp_eq (tgt := 806) hx hb dL_law_778 (by decide) (fun c124 => ?_) (fun c124 => ?_)
                                                    · replace h := br_p c124 h
                                                      obtain ⟨x125, ex125, h⟩ := bd_sp h
                                                      refine lv_iinc (v := x125) (lv' := [(3, .int x125), (0, .ref b), (1, .ref mm), (2, .ref mo)]) hx hb dL_law_806 hl (k := 3) rfl (by rw [ex125]; rfl) (by decide) rfl (fun ls hl => ?_)
                                                      refine lv_goto (tgt := 18) hx hb dL_law_809 (by decide) ?_
                                                      exact ih x125 se mn ln hi wi br sp si le un ul px tm ps ft fk lea upr ris pl tx at_ kd va nx hm pr sv r121.2.1 r121.2.2 kn le_ s_ past r123.2.1 r123.2.2 pad_ ad u122 _ _ _ _ _ h (by omega) (by omega) hP hD hS (lv_sub hl [1, 2, 3, 0] rfl)
                                                    · replace h := br_n c124 h
                                                      exact no_sm h
                                                  · replace h := br_n c126 h
                                                    by_cases c132 : z1 = 23
                                                    · replace h := br_p c132 h
                                                      refine lv_tableIn (tgt := 783) hx hb dL_law_33 (by rw [c132]; decide) (by rw [c132]; decide) (by rw [c132]; rfl) (by decide) ?_
                                                      refine lv_aload_n hx hb dL_law_783 rfl (lv_at hl 1 rfl) ?_
                                                      refine lv_aload_n hx hb dL_law_784 rfl (lv_at hl 0 rfl) ?_
                                                      refine lv_iload_n hx hb dL_law_785 rfl (lv_at hl 3 rfl) ?_
                                                      refine lv_iconst (v := 1) hx hb dL_law_786 (by decide) ?_
                                                      refine lv_iadd hx hb dL_law_787 ?_
                                                      obtain ⟨hin, h⟩ := gd_sp h
                                                      refine va_sld hx hb hX hbl hbA hS hin dL_law_788 ?_
                                                      obtain ⟨r127, hcr127, h⟩ := bn_sp h
                                                      have hPc := va_P_subT (X' := (ws_mainTS cI cC cZ cR mm sc sea th th1 th2 th3 th4 th5 th6 th7 th8 th9 pi pia cm cm1 cm2 cm3 pd pda rd rda hh hst sla se mn ln hi wi br sp si le un ul px tm ps ft fk lea upr ris pl tx at_ kd va nx hm (hfn prs ads) pr ad)) hP [0, 1, 2, 3, 4, 5, 6, 7, 8, 9, 10, 11, 12, 13, 14, 15, 16, 17, 18, 19, 20, 21, 22, 23, 24, 25] rfl
                                                      have hDc := va_D_subT (X' := (ws_mainTS cI cC cZ cR mm sc sea th th1 th2 th3 th4 th5 th6 th7 th8 th9 pi pia cm cm1 cm2 cm3 pd pda rd rda hh hst sla se mn ln hi wi br sp si le un ul px tm ps ft fk lea upr ris pl tx at_ kd va nx hm (hfn prs ads) pr ad)) hD [0, 1, 2, 3, 4, 5, 6, 7, 8, 9, 10, 11, 12, 13, 14, 15, 16, 17, 18, 19, 20, 21, 22, 23, 24, 25] (by decide) rfl
                                                      have hFc := va_freeT (wc := (ws_mainTS cI cC cZ cR mm sc sea th th1 th2 th3 th4 th5 th6 th7 th8 th9 pi pia cm cm1 cm2 cm3 pd pda rd rda hh hst sla se mn ln hi wi br sp si le un ul px tm ps ft fk lea upr ris pl tx at_ kd va nx hm (hfn prs ads) pr ad)) hD hS hA [0, 1, 2, 3, 4, 5, 6, 7, 8, 9, 10, 11, 12, 13, 14, 15, 16, 17, 18, 19, 20, 21, 22, 23, 24, 25] rfl
                                                      refine va_calli (va_runV (As := [.int (xs (v3 + 1 : Int32).toNatClampNeg)]) (rest := []) ⟨hx, hb, hml, hown, hts⟩ (m_X7_restore l D cI cC cZ cR mm sc sea th th1 th2 th3 th4 th5 th6 th7 th8 th9 pi pia cm cm1 cm2 cm3 pd pda rd rda hh hst sla _ se mn ln hi wi br sp si le un ul px tm ps ft fk lea upr ris pl tx at_ kd va nx hm pr ad sv prs ads svs (xs (v3 + 1 : Int32).toNatClampNeg) s.heap.size r127 hcr127) (cwV 1 hts gL_law_X7_restore rfl rfl rfl (by decide +kernel) ⟨Nat.le_of_ble_eq_true rfl, Nat.le_of_ble_eq_true rfl⟩) (cPcS_pv hPc hK hDc hAb (Nat.le_refl _) hS hstt (ci := 7) (q0 := 0) rfl rfl) rfl rfl hl.1 rfl (lv_room (Nat.le_of_ble_eq_true rfl)) dL_law_789 ⟨by show _ ≤ 600000; omega, by show _ ≤ 7302250; omega⟩) hS (fun q _ h => hFc q h) hFc (fun xq u128 t H1 locs ht hvm hw hB hz1 hk1 hS => ?_)
                                                      rw [hw]
                                                      obtain ⟨hP1, hD1⟩ := hB
                                                      rw [ht] at hP1
                                                      obtain ⟨hP, hD⟩ := jT2 (R := [(mo, .inr (8, [.ref mo1, .ref mo2, .int kn, .ref mo3, .ref mo4, .ref mo5, .int le_])), (mo1, .inl (cI, 465, .inl s_)), (mo2, .inl (cI, 2790, .inl past)), (mo3, .inl (cI, 930, .inl slo)), (mo4, .inl (cZ, 2, .inl isv)), (mo5, .inl (cI, 80, .inl pad_))]) (w1 := (ws_mainTS cI cC cZ cR mm sc sea th th1 th2 th3 th4 th5 th6 th7 th8 th9 pi pia cm cm1 cm2 cm3 pd pda rd rda hh hst sla r127.2.2.2.2.2.2.2.1 r127.2.2.2.2.2.2.2.2.1 r127.2.2.2.2.2.2.2.2.2.1 r127.2.2.2.2.2.2.2.2.2.2.1 r127.2.2.2.2.2.2.2.2.2.2.2.1 r127.2.2.2.2.2.2.2.2.2.2.2.2.1 r127.2.2.2.2.2.2.2.2.2.2.2.2.2.1 r127.2.2.2.2.2.2.2.2.2.2.2.2.2.2.1 r127.2.2.2.2.2.2.2.2.2.2.2.2.2.2.2.1 r127.2.2.2.2.2.2.2.2.2.2.2.2.2.2.2.2.1 r127.2.2.2.2.2.2.2.2.2.2.2.2.2.2.2.2.2.1 r127.2.2.2.2.2.2.2.2.2.2.2.2.2.2.2.2.2.2.1 r127.2.2.2.1 r127.2.2.2.2.1 r127.2.2.2.2.2.1 r127.2.2.2.2.2.2.1 lea upr ris pl tx at_ kd va r127.2.2.2.2.2.2.2.2.2.2.2.2.2.2.2.2.2.2.2.1 r127.2.2.2.2.2.2.2.2.2.2.2.2.2.2.2.2.2.2.2.2 (hfn prs ads) r127.2.1 u128)) hP hD [0, 1, 2, 3, 4, 5, 6, 7, 8, 9, 10, 11, 12, 13, 14, 15, 16, 17, 18, 19, 20, 21, 22, 23, 24, 25] [26, 27, 28, 29, 30, 31] rfl rfl (by decide) (by decide) hk1 hFc hP1 hD1
                                                      have hP := va_P_subT (X' := (ws_law cI cC cZ cR mm sc sea th th1 th2 th3 th4 th5 th6 th7 th8 th9 pi pia cm cm1 cm2 cm3 pd pda rd rda hh hst sla mo mo1 mo2 mo3 mo4 mo5 r127.2.2.2.2.2.2.2.1 r127.2.2.2.2.2.2.2.2.1 r127.2.2.2.2.2.2.2.2.2.1 r127.2.2.2.2.2.2.2.2.2.2.1 r127.2.2.2.2.2.2.2.2.2.2.2.1 r127.2.2.2.2.2.2.2.2.2.2.2.2.1 r127.2.2.2.2.2.2.2.2.2.2.2.2.2.1 r127.2.2.2.2.2.2.2.2.2.2.2.2.2.2.1 r127.2.2.2.2.2.2.2.2.2.2.2.2.2.2.2.1 r127.2.2.2.2.2.2.2.2.2.2.2.2.2.2.2.2.1 r127.2.2.2.2.2.2.2.2.2.2.2.2.2.2.2.2.2.1 r127.2.2.2.2.2.2.2.2.2.2.2.2.2.2.2.2.2.2.1 r127.2.2.2.1 r127.2.2.2.2.1 r127.2.2.2.2.2.1 r127.2.2.2.2.2.2.1 lea upr ris pl tx at_ kd va r127.2.2.2.2.2.2.2.2.2.2.2.2.2.2.2.2.2.2.2.1 r127.2.2.2.2.2.2.2.2.2.2.2.2.2.2.2.2.2.2.2.2 kn le_ s_ past slo isv pad_ r127.2.1 u128 prs ads)) hP [6, 7, 8, 9, 10, 11, 12, 13, 14, 15, 16, 17, 18, 19, 20, 21, 22, 23, 24, 25, 26, 27, 28, 29, 30, 31, 0, 1, 2, 3, 4, 5] rfl
                                                      have hD := va_D_subT (X' := (ws_law cI cC cZ cR mm sc sea th th1 th2 th3 th4 th5 th6 th7 th8 th9 pi pia cm cm1 cm2 cm3 pd pda rd rda hh hst sla mo mo1 mo2 mo3 mo4 mo5 r127.2.2.2.2.2.2.2.1 r127.2.2.2.2.2.2.2.2.1 r127.2.2.2.2.2.2.2.2.2.1 r127.2.2.2.2.2.2.2.2.2.2.1 r127.2.2.2.2.2.2.2.2.2.2.2.1 r127.2.2.2.2.2.2.2.2.2.2.2.2.1 r127.2.2.2.2.2.2.2.2.2.2.2.2.2.1 r127.2.2.2.2.2.2.2.2.2.2.2.2.2.2.1 r127.2.2.2.2.2.2.2.2.2.2.2.2.2.2.2.1 r127.2.2.2.2.2.2.2.2.2.2.2.2.2.2.2.2.1 r127.2.2.2.2.2.2.2.2.2.2.2.2.2.2.2.2.2.1 r127.2.2.2.2.2.2.2.2.2.2.2.2.2.2.2.2.2.2.1 r127.2.2.2.1 r127.2.2.2.2.1 r127.2.2.2.2.2.1 r127.2.2.2.2.2.2.1 lea upr ris pl tx at_ kd va r127.2.2.2.2.2.2.2.2.2.2.2.2.2.2.2.2.2.2.2.1 r127.2.2.2.2.2.2.2.2.2.2.2.2.2.2.2.2.2.2.2.2 kn le_ s_ past slo isv pad_ r127.2.1 u128 prs ads)) hD [6, 7, 8, 9, 10, 11, 12, 13, 14, 15, 16, 17, 18, 19, 20, 21, 22, 23, 24, 25, 26, 27, 28, 29, 30, 31, 0, 1, 2, 3, 4, 5] (by decide) rfl
                                                      generalize H1 = H at hP hS ⊢
                                                      refine lv_aload_n hx hb dL_law_792 rfl (lv_at hl 2 rfl) ?_
                                                      refine lv_aload_n hx hb dL_law_793 rfl (lv_at hl 0 rfl) ?_
                                                      refine lv_iload_n hx hb dL_law_794 rfl (lv_at hl 3 rfl) ?_
                                                      refine lv_iconst (v := 1) hx hb dL_law_795 (by decide) ?_
                                                      refine lv_iadd hx hb dL_law_796 ?_
                                                      obtain ⟨hin, h⟩ := gd_sp h
                                                      refine va_sld hx hb hX hbl hbA hS hin dL_law_797 ?_
                                                      obtain ⟨r129, hcr129, h⟩ := bn_sp h
                                                      have hPc := hP.sub (ws' := (ws_model cI cC cZ cR mo mo1 mo2 mo3 mo4 mo5 kn le_ s_ past slo isv pad_)) [26, 27, 28, 29, 30, 31] rfl
                                                      have hDc := hD.sub (ws' := (ws_model cI cC cZ cR mo mo1 mo2 mo3 mo4 mo5 kn le_ s_ past slo isv pad_)) [26, 27, 28, 29, 30, 31] (by decide) rfl
                                                      have hFc := va_free (wc := (ws_model cI cC cZ cR mo mo1 mo2 mo3 mo4 mo5 kn le_ s_ past slo isv pad_)) hD hS hA [26, 27, 28, 29, 30, 31] rfl
                                                      refine va_calli (va_runV (As := [.int (xs (v3 + 1 : Int32).toNatClampNeg)]) (rest := [.int r127.1]) ⟨hx, hb, hml, hown, hts⟩ (m_X8_restore l D cI cC cZ cR mo mo1 mo2 mo3 mo4 mo5 _ kn le_ s_ past slo isv pad_ (xs (v3 + 1 : Int32).toNatClampNeg) r129 hcr129) (cwV 1 hts gL_law_X8_restore rfl rfl rfl (by decide +kernel) ⟨Nat.le_of_ble_eq_true rfl, Nat.le_of_ble_eq_true rfl⟩) (cPc_pv hPc hK hDc (ci := 8) (q0 := 0) rfl rfl) rfl rfl hl.1 rfl (lv_room (Nat.le_of_ble_eq_true rfl)) dL_law_798 ⟨by show _ ≤ 600000; omega, by show _ ≤ 7302250; omega⟩) hS (fun q _ h => hFc q h) hFc (fun xq u t H1 locs ht hvm hw hB hz1 hk1 hS => ?_)
                                                      rw [hw]
                                                      obtain ⟨hP1, hD1⟩ := hB
                                                      rw [ht] at hP1
                                                      obtain ⟨hP, hD⟩ := jT1 (R := [(mm, .inr (7, [.ref sc, .ref cm, .ref hh, .ref sla, .ref pd, .ref rd])), (sc, .inr (5, [.ref sea, .ref th, .ref pi, .int r127.2.2.2.1, .int r127.2.2.2.2.1, .int r127.2.2.2.2.2.1, .int r127.2.2.2.2.2.2.1])), (sea, .inl (cI, 4, .inl r127.2.2.2.2.2.2.2.1)), (th, .inr (6, [.int r127.2.2.2.2.2.2.2.2.1, .ref th1, .ref th2, .ref th3, .ref th4, .ref th5, .ref th6, .ref th7, .ref th8, .ref th9])), (th1, .inl (cI, 8, .inl r127.2.2.2.2.2.2.2.2.2.1)), (th2, .inl (cI, 8, .inl r127.2.2.2.2.2.2.2.2.2.2.1)), (th3, .inl (cI, 8, .inl r127.2.2.2.2.2.2.2.2.2.2.2.1)), (th4, .inl (cI, 8, .inl r127.2.2.2.2.2.2.2.2.2.2.2.2.1)), (th5, .inl (cI, 8, .inl r127.2.2.2.2.2.2.2.2.2.2.2.2.2.1)), (th6, .inl (cI, 8, .inl r127.2.2.2.2.2.2.2.2.2.2.2.2.2.2.1)), (th7, .inl (cI, 8, .inl r127.2.2.2.2.2.2.2.2.2.2.2.2.2.2.2.1)), (th8, .inl (cI, 8, .inl r127.2.2.2.2.2.2.2.2.2.2.2.2.2.2.2.2.1)), (th9, .inl (cI, 8, .inl r127.2.2.2.2.2.2.2.2.2.2.2.2.2.2.2.2.2.1)), (pi, .inr (3, [.ref pia])), (pia, .inl (cI, 384, .inl r127.2.2.2.2.2.2.2.2.2.2.2.2.2.2.2.2.2.2.1)), (cm, .inr (0, [.ref cm1, .ref cm2, .ref cm3])), (cm1, .inl (cI, 24, .inl lea)), (cm2, .inl (cI, 24, .inl upr)), (cm3, .inl (cI, 25, .inl ris)), (pd, .inr (2, [.ref pda, .int pl])), (pda, .inl (cC, 80, .inl tx)), (rd, .inr (4, [.ref pd, .int at_, .int kd, .ref rda])), (rda, .inl (cI, 7, .inl va)), (hh, .inr (1, [.ref hst, .int r127.2.2.2.2.2.2.2.2.2.2.2.2.2.2.2.2.2.2.2.1, .int r127.2.2.2.2.2.2.2.2.2.2.2.2.2.2.2.2.2.2.2.2])), (hst, .inl (cR, 6, .inr (.inr (.inr (.inr (hfn r127.2.1 u128)))))), (sla, .inl (cR, 2, .inr (.inr (.inr (.inr (hfn prs ads))))))]) (w1 := (ws_model cI cC cZ cR mo mo1 mo2 mo3 mo4 mo5 r129.2.1 le_ r129.2.2.1 r129.2.2.2 slo isv pad_)) hP hD [26, 27, 28, 29, 30, 31] [0, 1, 2, 3, 4, 5, 6, 7, 8, 9, 10, 11, 12, 13, 14, 15, 16, 17, 18, 19, 20, 21, 22, 23, 24, 25] rfl rfl (by decide) (by decide) hk1 hFc hP1 hD1
                                                      have hP := va_P_subT (X' := (ws_law cI cC cZ cR mm sc sea th th1 th2 th3 th4 th5 th6 th7 th8 th9 pi pia cm cm1 cm2 cm3 pd pda rd rda hh hst sla mo mo1 mo2 mo3 mo4 mo5 r127.2.2.2.2.2.2.2.1 r127.2.2.2.2.2.2.2.2.1 r127.2.2.2.2.2.2.2.2.2.1 r127.2.2.2.2.2.2.2.2.2.2.1 r127.2.2.2.2.2.2.2.2.2.2.2.1 r127.2.2.2.2.2.2.2.2.2.2.2.2.1 r127.2.2.2.2.2.2.2.2.2.2.2.2.2.1 r127.2.2.2.2.2.2.2.2.2.2.2.2.2.2.1 r127.2.2.2.2.2.2.2.2.2.2.2.2.2.2.2.1 r127.2.2.2.2.2.2.2.2.2.2.2.2.2.2.2.2.1 r127.2.2.2.2.2.2.2.2.2.2.2.2.2.2.2.2.2.1 r127.2.2.2.2.2.2.2.2.2.2.2.2.2.2.2.2.2.2.1 r127.2.2.2.1 r127.2.2.2.2.1 r127.2.2.2.2.2.1 r127.2.2.2.2.2.2.1 lea upr ris pl tx at_ kd va r127.2.2.2.2.2.2.2.2.2.2.2.2.2.2.2.2.2.2.2.1 r127.2.2.2.2.2.2.2.2.2.2.2.2.2.2.2.2.2.2.2.2 r129.2.1 le_ r129.2.2.1 r129.2.2.2 slo isv pad_ r127.2.1 u128 prs ads)) hP [0, 1, 2, 3, 4, 5, 6, 7, 8, 9, 10, 11, 12, 13, 14, 15, 16, 17, 18, 19, 20, 21, 22, 23, 24, 25, 26, 27, 28, 29, 30, 31] rfl
                                                      have hD := va_D_subT (X' := (ws_law cI cC cZ cR mm sc sea th th1 th2 th3 th4 th5 th6 th7 th8 th9 pi pia cm cm1 cm2 cm3 pd pda rd rda hh hst sla mo mo1 mo2 mo3 mo4 mo5 r127.2.2.2.2.2.2.2.1 r127.2.2.2.2.2.2.2.2.1 r127.2.2.2.2.2.2.2.2.2.1 r127.2.2.2.2.2.2.2.2.2.2.1 r127.2.2.2.2.2.2.2.2.2.2.2.1 r127.2.2.2.2.2.2.2.2.2.2.2.2.1 r127.2.2.2.2.2.2.2.2.2.2.2.2.2.1 r127.2.2.2.2.2.2.2.2.2.2.2.2.2.2.1 r127.2.2.2.2.2.2.2.2.2.2.2.2.2.2.2.1 r127.2.2.2.2.2.2.2.2.2.2.2.2.2.2.2.2.1 r127.2.2.2.2.2.2.2.2.2.2.2.2.2.2.2.2.2.1 r127.2.2.2.2.2.2.2.2.2.2.2.2.2.2.2.2.2.2.1 r127.2.2.2.1 r127.2.2.2.2.1 r127.2.2.2.2.2.1 r127.2.2.2.2.2.2.1 lea upr ris pl tx at_ kd va r127.2.2.2.2.2.2.2.2.2.2.2.2.2.2.2.2.2.2.2.1 r127.2.2.2.2.2.2.2.2.2.2.2.2.2.2.2.2.2.2.2.2 r129.2.1 le_ r129.2.2.1 r129.2.2.2 slo isv pad_ r127.2.1 u128 prs ads)) hD [0, 1, 2, 3, 4, 5, 6, 7, 8, 9, 10, 11, 12, 13, 14, 15, 16, 17, 18, 19, 20, 21, 22, 23, 24, 25, 26, 27, 28, 29, 30, 31] (by decide) rfl
                                                      generalize H1 = H at hP hS ⊢
                                                      refine lv_icmp_eq (tgt := 806) hx hb dL_law_801 (by decide) (fun c130 => ?_) (fun c130 => ?_)
                                                      · replace h := br_p c130 h
                                                        obtain ⟨x131, ex131, h⟩ := bd_sp h
                                                        refine lv_iinc (v := x131) (lv' := [(3, .int x131), (0, .ref b), (1, .ref mm), (2, .ref mo)]) hx hb dL_law_806 hl (k := 3) rfl (by rw [ex131]; rfl) (by decide) rfl (fun ls hl => ?_)
                                                        refine lv_goto (tgt := 18) hx hb dL_law_809 (by decide) ?_
                                                        exact ih x131 r127.2.2.2.2.2.2.2.1 r127.2.2.2.2.2.2.2.2.1 r127.2.2.2.2.2.2.2.2.2.1 r127.2.2.2.2.2.2.2.2.2.2.1 r127.2.2.2.2.2.2.2.2.2.2.2.1 r127.2.2.2.2.2.2.2.2.2.2.2.2.1 r127.2.2.2.2.2.2.2.2.2.2.2.2.2.1 r127.2.2.2.2.2.2.2.2.2.2.2.2.2.2.1 r127.2.2.2.2.2.2.2.2.2.2.2.2.2.2.2.1 r127.2.2.2.2.2.2.2.2.2.2.2.2.2.2.2.2.1 r127.2.2.2.2.2.2.2.2.2.2.2.2.2.2.2.2.2.1 r127.2.2.2.2.2.2.2.2.2.2.2.2.2.2.2.2.2.2.1 r127.2.2.2.1 r127.2.2.2.2.1 r127.2.2.2.2.2.1 r127.2.2.2.2.2.2.1 lea upr ris pl tx at_ kd va r127.2.2.2.2.2.2.2.2.2.2.2.2.2.2.2.2.2.2.2.1 r127.2.2.2.2.2.2.2.2.2.2.2.2.2.2.2.2.2.2.2.2 r127.2.1 r127.2.2.1 prs svs r129.2.1 le_ r129.2.2.1 r129.2.2.2 slo isv pad_ u128 ads _ _ _ _ _ h (by omega) (by omega) hP hD hS (lv_sub hl [1, 2, 3, 0] rfl)
                                                      · replace h := br_n c130 h
                                                        exact no_sm h
                                                    · replace h := br_n c132 h
                                                      refine lv_tableOut (tgt := 806) hx hb dL_law_33 (sw_out24 (fun e => c7 (Int32.toInt_inj.mp (e.trans (by decide)))) (fun e => c13 (Int32.toInt_inj.mp (e.trans (by decide)))) (fun e => c19 (Int32.toInt_inj.mp (e.trans (by decide)))) (fun e => c25 (Int32.toInt_inj.mp (e.trans (by decide)))) (fun e => c31 (Int32.toInt_inj.mp (e.trans (by decide)))) (fun e => c37 (Int32.toInt_inj.mp (e.trans (by decide)))) (fun e => c43 (Int32.toInt_inj.mp (e.trans (by decide)))) (fun e => c48 (Int32.toInt_inj.mp (e.trans (by decide)))) (fun e => c53 (Int32.toInt_inj.mp (e.trans (by decide)))) (fun e => c58 (Int32.toInt_inj.mp (e.trans (by decide)))) (fun e => c63 (Int32.toInt_inj.mp (e.trans (by decide)))) (fun e => c68 (Int32.toInt_inj.mp (e.trans (by decide)))) (fun e => c73 (Int32.toInt_inj.mp (e.trans (by decide)))) (fun e => c78 (Int32.toInt_inj.mp (e.trans (by decide)))) (fun e => c83 (Int32.toInt_inj.mp (e.trans (by decide)))) (fun e => c88 (Int32.toInt_inj.mp (e.trans (by decide)))) (fun e => c93 (Int32.toInt_inj.mp (e.trans (by decide)))) (fun e => c98 (Int32.toInt_inj.mp (e.trans (by decide)))) (fun e => c103 (Int32.toInt_inj.mp (e.trans (by decide)))) (fun e => c108 (Int32.toInt_inj.mp (e.trans (by decide)))) (fun e => c114 (Int32.toInt_inj.mp (e.trans (by decide)))) (fun e => c120 (Int32.toInt_inj.mp (e.trans (by decide)))) (fun e => c126 (Int32.toInt_inj.mp (e.trans (by decide)))) (fun e => c132 (Int32.toInt_inj.mp (e.trans (by decide))))) (by decide) ?_
                                                      obtain ⟨x133, ex133, h⟩ := bd_sp h
                                                      refine lv_iinc (v := x133) (lv' := [(3, .int x133), (0, .ref b), (1, .ref mm), (2, .ref mo)]) hx hb dL_law_806 hl (k := 3) rfl (by rw [ex133]; rfl) (by decide) rfl (fun ls hl => ?_)
                                                      refine lv_goto (tgt := 18) hx hb dL_law_809 (by decide) ?_
                                                      exact ih x133 se mn ln hi wi br sp si le un ul px tm ps ft fk lea upr ris pl tx at_ kd va nx hm pr sv prs svs kn le_ s_ past slo isv pad_ ad ads _ _ _ _ _ h (by omega) (by omega) hP hD hS (lv_sub hl [1, 2, 3, 0] rfl)
