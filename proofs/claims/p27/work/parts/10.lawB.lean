-- the law: isShot
abbrev OUT_L_isShot : Type := Int32 × OB
def f_L_isShot_L73 (r2 : Int32) (r3 : Int32) (r4 : Int32) (r5 : Int32) (v9 : Int32) (k : Int32 → OB → (Nat → Int32) → Option OUT_L_isShot) : Nat → Int32 → OB → (Nat → Int32) → Option OUT_L_isShot
  | 0 => fun _ _ _ => none
  | n + 1 => fun v17 v18 v19 => (if r5 ≤ v17 then k v17 v18 v19 else gd v9 16 ((if (v19 v9.toNatClampNeg) < 0 then k v17 v18 v19 else gd v9 16 (jn (fun (j20 : Int32) => bn (F_seen v18 v9 j20 ((v9 * r4) + v17)) (fun r21 => gd v9 16 (bd (upd v19 v9.toNatClampNeg ((v19 v9.toNatClampNeg) + r21.1)) (fun (y22 : Nat → Int32) => bd (v17 + 1) (fun x23 => f_L_isShot_L73 r2 r3 r4 r5 v9 k n x23 r21.2 y22))))) (fun j108 => (if ¬ (v9 - v9 / 2 * 2) = 0 then j108 r3 else j108 r2))))))
theorem f_L_isShot_L73_s (r2 : Int32) (r3 : Int32) (r4 : Int32) (r5 : Int32) (v9 : Int32) (k : Int32 → OB → (Nat → Int32) → Option OUT_L_isShot) (n : Nat) (v17 : Int32) (v18 : OB) (v19 : Nat → Int32) : f_L_isShot_L73 r2 r3 r4 r5 v9 k (n + 1) v17 v18 v19 = ((if r5 ≤ v17 then k v17 v18 v19 else gd v9 16 ((if (v19 v9.toNatClampNeg) < 0 then k v17 v18 v19 else gd v9 16 (jn (fun (j20 : Int32) => bn (F_seen v18 v9 j20 ((v9 * r4) + v17)) (fun r21 => gd v9 16 (bd (upd v19 v9.toNatClampNeg ((v19 v9.toNatClampNeg) + r21.1)) (fun (y22 : Nat → Int32) => bd (v17 + 1) (fun x23 => f_L_isShot_L73 r2 r3 r4 r5 v9 k n x23 r21.2 y22))))) (fun j108 => (if ¬ (v9 - v9 / 2 * 2) = 0 then j108 r3 else j108 r2))))))) := rfl
def f_L_isShot_L199 (r2 : Int32) (r3 : Int32) (w35 : Nat → Int32) (r38 : Int32 × OB) (k : Int32 → Int32 → Option OUT_L_isShot) : Nat → Int32 → Int32 → Option OUT_L_isShot
  | 0 => fun _ _ => none
  | n + 1 => fun v41 v42 => (if 16 ≤ v42 then k v41 v42 else bn (F_ofLine r38.2 v42 1) (fun r43 => bd (v41 + r43) (fun x44 => gd v42 16 ((if (w35 v42.toNatClampNeg) < 0 then bd (v42 + 1) (fun x45 => f_L_isShot_L199 r2 r3 w35 r38 k n x44 x45) else jn (fun (j46 : Int32) => bn (F_pixel r38.2 v42 j46) (fun r47 => gd v42 16 ((if r47 = (w35 v42.toNatClampNeg) then bd (v42 + 1) (fun x48 => f_L_isShot_L199 r2 r3 w35 r38 k n x44 x48) else none)))) (fun j241 => (if ¬ (v42 - v42 / 2 * 2) = 0 then j241 r3 else j241 r2)))))))
theorem f_L_isShot_L199_s (r2 : Int32) (r3 : Int32) (w35 : Nat → Int32) (r38 : Int32 × OB) (k : Int32 → Int32 → Option OUT_L_isShot) (n : Nat) (v41 : Int32) (v42 : Int32) : f_L_isShot_L199 r2 r3 w35 r38 k (n + 1) v41 v42 = ((if 16 ≤ v42 then k v41 v42 else bn (F_ofLine r38.2 v42 1) (fun r43 => bd (v41 + r43) (fun x44 => gd v42 16 ((if (w35 v42.toNatClampNeg) < 0 then bd (v42 + 1) (fun x45 => f_L_isShot_L199 r2 r3 w35 r38 k n x44 x45) else jn (fun (j46 : Int32) => bn (F_pixel r38.2 v42 j46) (fun r47 => gd v42 16 ((if r47 = (w35 v42.toNatClampNeg) then bd (v42 + 1) (fun x48 => f_L_isShot_L199 r2 r3 w35 r38 k n x44 x48) else none)))) (fun j241 => (if ¬ (v42 - v42 / 2 * 2) = 0 then j241 r3 else j241 r2)))))))) := rfl
def f_L_isShot_L41 (r2 : Int32) (r3 : Int32) (r4 : Int32) (r5 : Int32) (k : Int32 → OB → (Nat → Int32) → Option OUT_L_isShot) : Nat → Int32 → OB → (Nat → Int32) → Option OUT_L_isShot
  | 0 => fun _ _ _ => none
  | n + 1 => fun v9 v10 v11 => (if 16 ≤ v9 then k v9 v10 v11 else jn (fun (j12 : Int32) => gd v9 16 (bd (upd v11 v9.toNatClampNeg j12) (fun (y13 : Nat → Int32) => f_L_isShot_L73 r2 r3 r4 r5 v9 (fun (w27 : Int32) (w28 : OB) (w29 : Nat → Int32) => bd (v9 + 1) (fun x30 => f_L_isShot_L41 r2 r3 r4 r5 k n x30 w28 w29)) 4000 0 v10 y13))) (fun j69 => (if ((v9 * r4) + r5) ≤ 100 then j69 0 else j69 (-1))))
theorem f_L_isShot_L41_s (r2 : Int32) (r3 : Int32) (r4 : Int32) (r5 : Int32) (k : Int32 → OB → (Nat → Int32) → Option OUT_L_isShot) (n : Nat) (v9 : Int32) (v10 : OB) (v11 : Nat → Int32) : f_L_isShot_L41 r2 r3 r4 r5 k (n + 1) v9 v10 v11 = ((if 16 ≤ v9 then k v9 v10 v11 else jn (fun (j12 : Int32) => gd v9 16 (bd (upd v11 v9.toNatClampNeg j12) (fun (y13 : Nat → Int32) => f_L_isShot_L73 r2 r3 r4 r5 v9 (fun (w27 : Int32) (w28 : OB) (w29 : Nat → Int32) => bd (v9 + 1) (fun x30 => f_L_isShot_L41 r2 r3 r4 r5 k n x30 w28 w29)) 4000 0 v10 y13))) (fun j69 => (if ((v9 * r4) + r5) ≤ 100 then j69 0 else j69 (-1))))) := rfl
def f_L_isShot (o : OB) (a1 : Int32) : Option OUT_L_isShot :=
  bn (f_L_low a1 24) (fun r2 => bn (f_L_low (a1 >>> (5 &&& 31)) 24) (fun r3 => bn (F_count o 8) (fun r4 => bn (F_count o 9) (fun r5 => f_L_isShot_L41 r2 r3 r4 r5 (fun (w33 : Int32) (w34 : OB) (w35 : Nat → Int32) => bn (F_count w34 0) (fun r36 => bn (F_count w34 2) (fun r37 => bn (F_shoot w34 ) (fun r38 => (if ¬ r38.1 = (-5) then f_L_isShot_L199 r2 r3 w35 r38 (fun (w53 : Int32) (w54 : Int32) => (if ¬ w53 = r38.1 then none else bn (F_count r38.2 0) (fun r55 => (if ¬ r55 = ((r36 + (15 * r4)) + r5) then none else bn (F_count r38.2 2) (fun r56 => (if ¬ r56 = (r37 + 1) then none else bn (f_L_isPicture r38.2) (fun r57 => (if r57 = 0 then none else some (1, r38.2))))))))) 4000 0 0 else (if ((r36 + (15 * r4)) + r5) ≤ 9999 then none else bn (F_count r38.2 2) (fun r62 => (if ¬ r62 = r37 then none else some (1, r38.2))))))))) 4000 0 o (fun _ => 0)))))
theorem kL_isShot_0 : Cond.arrayClass .int ∈ wsL_isShot := by decide +kernel
abbrev R_L_isShot : Room := { frames := 6, cells := 15, slots := 494, locals := 146 }
set_option maxHeartbeats 4000000 in
set_option maxRecDepth 100000 in
theorem m_L_isShot (l : Launch) (D : va_G) (cI cC cZ cR : ClassId) (b0 : Nat) (a : Nat → Nat) (Y : va_W) (o : OB) (a1 : Int32) (r : OUT_L_isShot) (hf : f_L_isShot o a1 = some r) : Met l yL_isShot wsL_isShot R_L_isShot (cPcO D cI cC cZ cR b0 a Y [.ref (a 0), .int a1] o) (cQO D cI cC cZ cR b0 a Y r.1 r.2) 15 494 (fun q => b0 ≤ q) := by
  refine Met.ofW (cc := cL_isShot) (maxL := 12) (ret := (some .boolean)) (by decide) rfl ?_
  intro p e s m args below meth c s₁ B hml hv
  obtain ⟨rfl, hO, hK, hb0, hstt⟩ := hv
  have hx := B.exec
  have hb := B.bytes
  have hr := B.returns
  have hts := atoms_spec (ws := wsL_isShot) B.pre
  have hown : s.vm.findClass RL = some m.cls := findClass_of_methodNamed B.named
  have hlocks := B.notSynchronized
  have hA : ∀ q : Nat, s.heap.size ≤ q → (fun q : Nat => b0 ≤ q) q := fun q h => Nat.le_trans hb0 h
  have hS : va_S (fun q : Nat => b0 ≤ q) s.heap s.heap [] := va_S.rf
  have hl := lv_entry ([.ref (a 0), .int a1]) (n := 12) (Nat.le_of_ble_eq_true rfl)
  rw [lg_entry_eq]
  generalize (lg_sl ([.ref (a 0), .int a1]) ++ List.replicate (12 - (lg_sl ([.ref (a 0), .int a1])).length) Slot.unset).toArray = ls at hl ⊢
  have hl : lv_has ls 12 [(0, .ref (a 0)), (1, .int a1)] := hl
  refine W_absQ (fun Q hQ => ?_)
  refine W.eq (g2 := F0 m 0 ls []) rfl ?_
  have h := hf
  unfold f_L_isShot at h
  refine lv_bipush (v := 16) hx hb dL_isShot_0 (by decide) ?_
  obtain ⟨ad, ads, hP, hD⟩ := id hO
  refine va_newa (D := D) (atype := .int) (ty := .int) (N' := 16) (a0 := (16, .inl (fun _ => 0))) hx hb (hts _ kL_isShot_0) rfl hK.1 hP hD hS hA (fun _ => rfl) (by decide) (by decide) (by decide) (Nat.le_of_ble_eq_true rfl) (Nat.le_of_ble_eq_true rfl) dL_isShot_2 (fun q1 cA9 H hK9 hP hD hS => ?_)
  have e8 := newa_i hK9
  rw [e8] at hP hD
  have hO : WO D cI cC cZ cR b0 a ((q1, .inl (cI, 16, .inl (fun _ => 0))) :: Y) o H := WO_new hP hD
  refine lv_astore_n (lv' := [(2, .ref q1), (0, .ref (a 0)), (1, .int a1)]) hx hb dL_isShot_4 rfl hl (by decide) rfl (fun ls hl => ?_)
  refine lv_iload_n hx hb dL_isShot_5 rfl (lv_at hl 2 rfl) ?_
  refine lv_bipush (v := 24) hx hb dL_isShot_6 (by decide) ?_
  obtain ⟨r2, hcr2, h⟩ := bn_sp h
  have hZ := va_nilD (b0 := b0) hb0 hS
  refine va_calli (va_runS (As := [.int a1, .int 24]) (rest := []) ⟨hx, hb, hml, hown, hts⟩ (m_L_low l D cI cC cZ cR _ a1 24 r2 hcr2) (va_cwS 2 hts gL_isShot_L_low rfl rfl rfl (by decide +kernel) ⟨Nat.le_of_ble_eq_true rfl, Nat.le_of_ble_eq_true rfl⟩) (cPc_ps (ws := []) (A := fun _ => True) va_nilP hK va_nilDD) rfl rfl hl.1 rfl (lv_room (Nat.le_of_ble_eq_true rfl)) dL_isShot_8 ⟨Nat.le_of_ble_eq_true rfl, Nat.le_of_ble_eq_true rfl⟩) hS (fun q _ h => hZ q h) hZ (fun xq u t H1 locs ht hvm hw hB hz1 hk1 hS => ?_)
  rw [hw]
  have hO : WO D cI cC cZ cR b0 a ((q1, .inl (cI, 16, .inl (fun _ => 0))) :: Y) o H1 := WO_st hk1 hO
  generalize H1 = H at hO hS ⊢
  refine lv_istore_n (lv' := [(3, .int r2), (2, .ref q1), (0, .ref (a 0)), (1, .int a1)]) hx hb dL_isShot_11 rfl hl (by decide) rfl (fun ls hl => ?_)
  refine lv_iload_n hx hb dL_isShot_12 rfl (lv_at hl 3 rfl) ?_
  refine lv_iconst (v := 5) hx hb dL_isShot_13 (by decide) ?_
  refine lv_ishr hx hb dL_isShot_14 ?_
  refine lv_bipush (v := 24) hx hb dL_isShot_15 (by decide) ?_
  obtain ⟨r3, hcr3, h⟩ := bn_sp h
  have hZ := va_nilD (b0 := b0) hb0 hS
  refine va_calli (va_runS (As := [.int (a1 >>> (5 &&& 31)), .int 24]) (rest := []) ⟨hx, hb, hml, hown, hts⟩ (m_L_low l D cI cC cZ cR _ (a1 >>> (5 &&& 31)) 24 r3 hcr3) (va_cwS 2 hts gL_isShot_L_low rfl rfl rfl (by decide +kernel) ⟨Nat.le_of_ble_eq_true rfl, Nat.le_of_ble_eq_true rfl⟩) (cPc_ps (ws := []) (A := fun _ => True) va_nilP hK va_nilDD) rfl rfl hl.1 rfl (lv_room (Nat.le_of_ble_eq_true rfl)) dL_isShot_17 ⟨Nat.le_of_ble_eq_true rfl, Nat.le_of_ble_eq_true rfl⟩) hS (fun q _ h => hZ q h) hZ (fun xq u t H1 locs ht hvm hw hB hz1 hk1 hS => ?_)
  rw [hw]
  have hO : WO D cI cC cZ cR b0 a ((q1, .inl (cI, 16, .inl (fun _ => 0))) :: Y) o H1 := WO_st hk1 hO
  generalize H1 = H at hO hS ⊢
  refine lv_istore (lv' := [(4, .int r3), (3, .int r2), (2, .ref q1), (0, .ref (a 0)), (1, .int a1)]) hx hb dL_isShot_20 hl (by decide) rfl (fun ls hl => ?_)
  refine lv_aload_n hx hb dL_isShot_22 rfl (lv_at hl 3 rfl) ?_
  refine lv_bipush (v := 8) hx hb dL_isShot_23 (by decide) ?_
  obtain ⟨r4, hcr4, h⟩ := bn_sp h
  refine va_calli (va_runV (As := [.int 8]) (rest := []) ⟨hx, hb, hml, hown, hts⟩ (M_count l D cI cC cZ cR b0 a ((q1, .inl (cI, 16, .inl (fun _ => 0))) :: Y) o 8 r4 hcr4) (cwV 1 hts gL_isShot_X7_count rfl rfl rfl (by decide +kernel) ⟨Nat.le_of_ble_eq_true rfl, Nat.le_of_ble_eq_true rfl⟩) (cPcO_pv hO hK hb0 hS hstt) rfl rfl hl.1 rfl (lv_room (Nat.le_of_ble_eq_true rfl)) dL_isShot_25 ⟨Nat.le_of_ble_eq_true rfl, Nat.le_of_ble_eq_true rfl⟩) hS (fun q _ h => h) (fun q h => h) (fun xq u t H1 locs ht hvm hw hB hz1 hk1 hS => ?_)
  rw [hw]
  have hO : WO D cI cC cZ cR b0 a ((q1, .inl (cI, 16, .inl (fun _ => 0))) :: Y) o H1 := by rw [← ht]; exact hB
  generalize H1 = H at hO hS ⊢
  refine lv_istore (lv' := [(5, .int r4), (4, .int r3), (3, .int r2), (2, .ref q1), (0, .ref (a 0)), (1, .int a1)]) hx hb dL_isShot_28 hl (by decide) rfl (fun ls hl => ?_)
  refine lv_aload_n hx hb dL_isShot_30 rfl (lv_at hl 4 rfl) ?_
  refine lv_bipush (v := 9) hx hb dL_isShot_31 (by decide) ?_
  obtain ⟨r5, hcr5, h⟩ := bn_sp h
  refine va_calli (va_runV (As := [.int 9]) (rest := []) ⟨hx, hb, hml, hown, hts⟩ (M_count l D cI cC cZ cR b0 a ((q1, .inl (cI, 16, .inl (fun _ => 0))) :: Y) o 9 r5 hcr5) (cwV 1 hts gL_isShot_X7_count rfl rfl rfl (by decide +kernel) ⟨Nat.le_of_ble_eq_true rfl, Nat.le_of_ble_eq_true rfl⟩) (cPcO_pv hO hK hb0 hS hstt) rfl rfl hl.1 rfl (lv_room (Nat.le_of_ble_eq_true rfl)) dL_isShot_33 ⟨Nat.le_of_ble_eq_true rfl, Nat.le_of_ble_eq_true rfl⟩) hS (fun q _ h => h) (fun q h => h) (fun xq u t H1 locs ht hvm hw hB hz1 hk1 hS => ?_)
  rw [hw]
  have hO : WO D cI cC cZ cR b0 a ((q1, .inl (cI, 16, .inl (fun _ => 0))) :: Y) o H1 := by rw [← ht]; exact hB
  generalize H1 = H at hO hS ⊢
  refine lv_istore (lv' := [(6, .int r5), (5, .int r4), (4, .int r3), (3, .int r2), (2, .ref q1), (0, .ref (a 0)), (1, .int a1)]) hx hb dL_isShot_36 hl (by decide) rfl (fun ls hl => ?_)
  refine lv_iconst (v := 0) hx hb dL_isShot_38 (by decide) ?_
  refine lv_istore (lv' := [(7, .int 0), (6, .int r5), (5, .int r4), (4, .int r3), (3, .int r2), (2, .ref q1), (0, .ref (a 0)), (1, .int a1)]) hx hb dL_isShot_39 hl (by decide) rfl (fun ls hl => ?_)
  have L41 : ∀ (k : Int32 → OB → (Nat → Int32) → Option OUT_L_isShot), (∀ (w33 : Int32) (w34 : OB) (w35 : Nat → Int32) (H : Heap) (locs : List Loc) (ls : Array Slot), k w33 w34 w35 = some r → WO D cI cC cZ cR b0 a ((q1, .inl (cI, 16, .inl w35)) :: Y) w34 H → va_S (fun q => b0 ≤ q) s.heap H locs → lv_has ls 12 [(0, .ref (a 0)), (1, .int a1), (2, .ref q1), (3, .int r2), (4, .int r3), (5, .int r4), (6, .int r5), (7, .int w33)] → W p l e R_L_isShot s m ([.ref (a 0), .int a1] : List Value).toArray below meth c H locs 1 16 Q (F0 m 133 ls [])) → ∀ (n : Nat) (v9 : Int32) (v10 : OB) (v11 : Nat → Int32) (H : Heap) (locs : List Loc) (ls : Array Slot), f_L_isShot_L41 r2 r3 r4 r5 k n v9 v10 v11 = some r → WO D cI cC cZ cR b0 a ((q1, .inl (cI, 16, .inl v11)) :: Y) v10 H → va_S (fun q => b0 ≤ q) s.heap H locs → lv_has ls 12 [(0, .ref (a 0)), (1, .int a1), (2, .ref q1), (3, .int r2), (4, .int r3), (5, .int r4), (6, .int r5), (7, .int v9)] → W p l e R_L_isShot s m ([.ref (a 0), .int a1] : List Value).toArray below meth c H locs 1 16 Q (F0 m 41 ls []) := by
    intro k K n
    induction n with
    | zero => intro v9 v10 v11 H locs ls h; exact no_sm h
    | succ n ih =>
      intro v9 v10 v11 H locs ls h hO hS hl
      rw [f_L_isShot_L41_s] at h
      refine lv_iload hx hb dL_isShot_41 (lv_at hl 7 rfl) ?_
      refine lv_bipush (v := 16) hx hb dL_isShot_43 (by decide) ?_
      refine lv_icmp_ge (tgt := 133) hx hb dL_isShot_45 (by decide) (fun c32 => ?_) (fun c32 => ?_)
      · replace h := br_p c32 h
        exact K _ _ _ _ _ _ h hO hS (lv_sub hl [0, 1, 2, 3, 4, 5, 6, 7] rfl)
      · replace h := br_n c32 h
        refine lv_aload_n hx hb dL_isShot_48 rfl (lv_at hl 2 rfl) ?_
        refine lv_iload hx hb dL_isShot_49 (lv_at hl 7 rfl) ?_
        refine lv_iload hx hb dL_isShot_51 (lv_at hl 7 rfl) ?_
        refine lv_iload hx hb dL_isShot_53 (lv_at hl 5 rfl) ?_
        refine lv_imul hx hb dL_isShot_55 ?_
        refine lv_iload hx hb dL_isShot_56 (lv_at hl 6 rfl) ?_
        refine lv_iadd hx hb dL_isShot_58 ?_
        refine lv_bipush (v := 100) hx hb dL_isShot_59 (by decide) ?_
        obtain ⟨j69, hj69, h⟩ := jn_sp h
        have J69 : ∀ (j12 : Int32) (H : Heap) (locs : List Loc) (ls : Array Slot), j69 j12 = some r → WO D cI cC cZ cR b0 a ((q1, .inl (cI, 16, .inl v11)) :: Y) v10 H → va_S (fun q => b0 ≤ q) s.heap H locs → lv_has ls 12 [(0, .ref (a 0)), (1, .int a1), (2, .ref q1), (3, .int r2), (4, .int r3), (5, .int r4), (6, .int r5), (7, .int v9)] → W p l e R_L_isShot s m ([.ref (a 0), .int a1] : List Value).toArray below meth c H locs 1 16 Q (F0 m 69 ls [.int j12, .int v9, .ref q1]) := by
          intro j12 H locs ls h hO hS hl
          rw [hj69] at h
          obtain ⟨hin, h⟩ := gd_sp h
          obtain ⟨ad, ads, hP, hD⟩ := id hO
          refine va_iast (D := D) hx hb hK.1 hP hD hS 0 0 rfl rfl hin dL_isShot_69 (fun H locs hP hD hS => ?_)
          have hO : WO D cI cC cZ cR b0 a ((q1, .inl (cI, 16, .inl (upd v11 v9.toNatClampNeg j12))) :: Y) v10 H := ⟨ad, ads, hP, hD⟩
          obtain ⟨y13, ey13, h⟩ := bd_sp h
          rw [← ey13] at hO
          refine lv_iconst (v := 0) hx hb dL_isShot_70 (by decide) ?_
          refine lv_istore (lv' := [(8, .int 0), (0, .ref (a 0)), (1, .int a1), (2, .ref q1), (3, .int r2), (4, .int r3), (5, .int r4), (6, .int r5), (7, .int v9)]) hx hb dL_isShot_71 hl (by decide) rfl (fun ls hl => ?_)
          have L73 : ∀ (k : Int32 → OB → (Nat → Int32) → Option OUT_L_isShot), (∀ (w27 : Int32) (w28 : OB) (w29 : Nat → Int32) (H : Heap) (locs : List Loc) (ls : Array Slot), k w27 w28 w29 = some r → WO D cI cC cZ cR b0 a ((q1, .inl (cI, 16, .inl w29)) :: Y) w28 H → va_S (fun q => b0 ≤ q) s.heap H locs → lv_has ls 12 [(0, .ref (a 0)), (1, .int a1), (2, .ref q1), (3, .int r2), (4, .int r3), (5, .int r4), (6, .int r5), (7, .int v9), (8, .int w27)] → W p l e R_L_isShot s m ([.ref (a 0), .int a1] : List Value).toArray below meth c H locs 1 16 Q (F0 m 127 ls [])) → ∀ (n : Nat) (v17 : Int32) (v18 : OB) (v19 : Nat → Int32) (H : Heap) (locs : List Loc) (ls : Array Slot), f_L_isShot_L73 r2 r3 r4 r5 v9 k n v17 v18 v19 = some r → WO D cI cC cZ cR b0 a ((q1, .inl (cI, 16, .inl v19)) :: Y) v18 H → va_S (fun q => b0 ≤ q) s.heap H locs → lv_has ls 12 [(0, .ref (a 0)), (1, .int a1), (2, .ref q1), (3, .int r2), (4, .int r3), (5, .int r4), (6, .int r5), (7, .int v9), (8, .int v17)] → W p l e R_L_isShot s m ([.ref (a 0), .int a1] : List Value).toArray below meth c H locs 1 16 Q (F0 m 73 ls []) := by
            intro k K n
            induction n with
            | zero => intro v17 v18 v19 H locs ls h; exact no_sm h
            | succ n ih =>
              intro v17 v18 v19 H locs ls h hO hS hl
              rw [f_L_isShot_L73_s] at h
              refine lv_iload hx hb dL_isShot_73 (lv_at hl 8 rfl) ?_
              refine lv_iload hx hb dL_isShot_75 (lv_at hl 6 rfl) ?_
              refine lv_icmp_ge (tgt := 127) hx hb dL_isShot_77 (by decide) (fun c26 => ?_) (fun c26 => ?_)
              · replace h := br_p c26 h
                exact K _ _ _ _ _ _ h hO hS (lv_sub hl [0, 1, 2, 3, 4, 5, 6, 7, 8] rfl)
              · replace h := br_n c26 h
                refine lv_aload_n hx hb dL_isShot_80 rfl (lv_at hl 2 rfl) ?_
                refine lv_iload hx hb dL_isShot_81 (lv_at hl 7 rfl) ?_
                obtain ⟨hin, h⟩ := gd_sp h
                obtain ⟨ad, ads, hP, hD⟩ := id hO
                refine va_iald (D := D) hx hb hK.1 hP 0 0 rfl rfl hin dL_isShot_83 ?_
                refine lv_if_lt (tgt := 127) hx hb dL_isShot_84 (by decide) (fun c25 => ?_) (fun c25 => ?_)
                · replace h := br_p c25 h
                  exact K _ _ _ _ _ _ h hO hS (lv_sub hl [0, 1, 2, 3, 4, 5, 6, 7, 8] rfl)
                · replace h := br_n c25 h
                  refine lv_aload_n hx hb dL_isShot_87 rfl (lv_at hl 2 rfl) ?_
                  refine lv_iload hx hb dL_isShot_88 (lv_at hl 7 rfl) ?_
                  refine lv_dup2_11 hx hb dL_isShot_90 rfl rfl ?_
                  obtain ⟨hin, h⟩ := gd_sp h
                  obtain ⟨ad, ads, hP, hD⟩ := id hO
                  refine va_iald (D := D) hx hb hK.1 hP 0 0 rfl rfl hin dL_isShot_91 ?_
                  refine lv_aload_n hx hb dL_isShot_92 rfl (lv_at hl 0 rfl) ?_
                  refine lv_iload hx hb dL_isShot_93 (lv_at hl 7 rfl) ?_
                  refine lv_iload hx hb dL_isShot_95 (lv_at hl 7 rfl) ?_
                  refine lv_iconst (v := 2) hx hb dL_isShot_97 (by decide) ?_
                  refine lv_irem hx hb dL_isShot_98 (by decide) ?_
                  obtain ⟨j108, hj108, h⟩ := jn_sp h
                  have J108 : ∀ (j20 : Int32) (H : Heap) (locs : List Loc) (ls : Array Slot), j108 j20 = some r → WO D cI cC cZ cR b0 a ((q1, .inl (cI, 16, .inl v19)) :: Y) v18 H → va_S (fun q => b0 ≤ q) s.heap H locs → lv_has ls 12 [(0, .ref (a 0)), (1, .int a1), (2, .ref q1), (3, .int r2), (4, .int r3), (5, .int r4), (6, .int r5), (7, .int v9), (8, .int v17)] → W p l e R_L_isShot s m ([.ref (a 0), .int a1] : List Value).toArray below meth c H locs 1 16 Q (F0 m 108 ls [.int j20, .int v9, .ref (a 0), .int (v19 v9.toNatClampNeg), .int v9, .ref q1]) := by
                    intro j20 H locs ls h hO hS hl
                    rw [hj108] at h
                    refine lv_iload hx hb dL_isShot_108 (lv_at hl 7 rfl) ?_
                    refine lv_iload hx hb dL_isShot_110 (lv_at hl 5 rfl) ?_
                    refine lv_imul hx hb dL_isShot_112 ?_
                    refine lv_iload hx hb dL_isShot_113 (lv_at hl 8 rfl) ?_
                    refine lv_iadd hx hb dL_isShot_115 ?_
                    obtain ⟨r21, hcr21, h⟩ := bn_sp h
                    refine va_calli (va_runV (As := [.int v9, .int j20, .int ((v9 * r4) + v17)]) (rest := [.int (v19 v9.toNatClampNeg), .int v9, .ref q1]) ⟨hx, hb, hml, hown, hts⟩ (M_seen l D cI cC cZ cR b0 a ((q1, .inl (cI, 16, .inl v19)) :: Y) v18 v9 j20 ((v9 * r4) + v17) r21 hcr21) (cwV 3 hts gL_isShot_X7_seen rfl rfl rfl (by decide +kernel) ⟨Nat.le_of_ble_eq_true rfl, Nat.le_of_ble_eq_true rfl⟩) (cPcO_pv hO hK hb0 hS hstt) rfl rfl hl.1 rfl (lv_room (Nat.le_of_ble_eq_true rfl)) dL_isShot_116 ⟨Nat.le_of_ble_eq_true rfl, Nat.le_of_ble_eq_true rfl⟩) hS (fun q _ h => h) (fun q h => h) (fun xq u t H1 locs ht hvm hw hB hz1 hk1 hS => ?_)
                    rw [hw]
                    have hO : WO D cI cC cZ cR b0 a ((q1, .inl (cI, 16, .inl v19)) :: Y) r21.2 H1 := by rw [← ht]; exact hB
                    generalize H1 = H at hO hS ⊢
                    refine lv_iadd hx hb dL_isShot_119 ?_
                    obtain ⟨hin, h⟩ := gd_sp h
                    obtain ⟨ad, ads, hP, hD⟩ := id hO
                    refine va_iast (D := D) hx hb hK.1 hP hD hS 0 0 rfl rfl hin dL_isShot_120 (fun H locs hP hD hS => ?_)
                    have hO : WO D cI cC cZ cR b0 a ((q1, .inl (cI, 16, .inl (upd v19 v9.toNatClampNeg ((v19 v9.toNatClampNeg) + r21.1)))) :: Y) r21.2 H := ⟨ad, ads, hP, hD⟩
                    obtain ⟨y22, ey22, h⟩ := bd_sp h
                    rw [← ey22] at hO
                    obtain ⟨x23, ex23, h⟩ := bd_sp h
                    refine lv_iinc (v := x23) (lv' := [(8, .int x23), (0, .ref (a 0)), (1, .int a1), (2, .ref q1), (3, .int r2), (4, .int r3), (5, .int r4), (6, .int r5), (7, .int v9)]) hx hb dL_isShot_121 hl (k := 8) rfl (by rw [ex23]; rfl) (by decide) rfl (fun ls hl => ?_)
                    refine lv_goto (tgt := 73) hx hb dL_isShot_124 (by decide) ?_
                    exact ih _ _ _ _ _ _ h hO hS (lv_sub hl [1, 2, 3, 4, 5, 6, 7, 8, 0] rfl)
                  refine lv_if_ne (tgt := 106) hx hb dL_isShot_99 (by decide) (fun c24 => ?_) (fun c24 => ?_)
                  · replace h := br_p c24 h
                    refine lv_iload hx hb dL_isShot_106 (lv_at hl 4 rfl) ?_
                    exact J108 _ _ _ _ h hO hS (lv_sub hl [0, 1, 2, 3, 4, 5, 6, 7, 8] rfl)
                  · replace h := br_n (not_not_intro c24) h
                    refine lv_iload_n hx hb dL_isShot_102 rfl (lv_at hl 3 rfl) ?_
                    refine lv_goto (tgt := 108) hx hb dL_isShot_103 (by decide) ?_
                    exact J108 _ _ _ _ h hO hS (lv_sub hl [0, 1, 2, 3, 4, 5, 6, 7, 8] rfl)
          refine L73 _ (fun w27 w28 w29 H locs ls h hO hS hl => ?_) 4000 0 v10 y13 _ _ _ h hO hS (lv_sub hl [1, 2, 3, 4, 5, 6, 7, 8, 0] rfl)
          obtain ⟨x30, ex30, h⟩ := bd_sp h
          refine lv_iinc (v := x30) (lv' := [(7, .int x30), (0, .ref (a 0)), (1, .int a1), (2, .ref q1), (3, .int r2), (4, .int r3), (5, .int r4), (6, .int r5), (8, .int w27)]) hx hb dL_isShot_127 hl (k := 7) rfl (by rw [ex30]; rfl) (by decide) rfl (fun ls hl => ?_)
          refine lv_goto (tgt := 41) hx hb dL_isShot_130 (by decide) ?_
          exact ih _ _ _ _ _ _ h hO hS (lv_sub hl [1, 2, 3, 4, 5, 6, 7, 0] rfl)
        refine lv_icmp_le (tgt := 68) hx hb dL_isShot_61 (by decide) (fun c31 => ?_) (fun c31 => ?_)
        · replace h := br_p c31 h
          refine lv_iconst (v := 0) hx hb dL_isShot_68 (by decide) ?_
          exact J69 _ _ _ _ h hO hS (lv_sub hl [0, 1, 2, 3, 4, 5, 6, 7] rfl)
        · replace h := br_n c31 h
          refine lv_iconst (v := (-1)) hx hb dL_isShot_64 (by decide) ?_
          refine lv_goto (tgt := 69) hx hb dL_isShot_65 (by decide) ?_
          exact J69 _ _ _ _ h hO hS (lv_sub hl [0, 1, 2, 3, 4, 5, 6, 7] rfl)
  refine L41 _ (fun w33 w34 w35 H locs ls h hO hS hl => ?_) 4000 0 o (fun _ => 0) _ _ _ h hO hS (lv_sub hl [6, 7, 5, 4, 3, 2, 1, 0] rfl)
  refine lv_aload_n hx hb dL_isShot_133 rfl (lv_at hl 0 rfl) ?_
  refine lv_iconst (v := 0) hx hb dL_isShot_134 (by decide) ?_
  obtain ⟨r36, hcr36, h⟩ := bn_sp h
  refine va_calli (va_runV (As := [.int 0]) (rest := []) ⟨hx, hb, hml, hown, hts⟩ (M_count l D cI cC cZ cR b0 a ((q1, .inl (cI, 16, .inl w35)) :: Y) w34 0 r36 hcr36) (cwV 1 hts gL_isShot_X7_count rfl rfl rfl (by decide +kernel) ⟨Nat.le_of_ble_eq_true rfl, Nat.le_of_ble_eq_true rfl⟩) (cPcO_pv hO hK hb0 hS hstt) rfl rfl hl.1 rfl (lv_room (Nat.le_of_ble_eq_true rfl)) dL_isShot_135 ⟨Nat.le_of_ble_eq_true rfl, Nat.le_of_ble_eq_true rfl⟩) hS (fun q _ h => h) (fun q h => h) (fun xq u t H1 locs ht hvm hw hB hz1 hk1 hS => ?_)
  rw [hw]
  have hO : WO D cI cC cZ cR b0 a ((q1, .inl (cI, 16, .inl w35)) :: Y) w34 H1 := by rw [← ht]; exact hB
  generalize H1 = H at hO hS ⊢
  refine lv_istore (lv' := [(7, .int r36), (0, .ref (a 0)), (1, .int a1), (2, .ref q1), (3, .int r2), (4, .int r3), (5, .int r4), (6, .int r5)]) hx hb dL_isShot_138 hl (by decide) rfl (fun ls hl => ?_)
  refine lv_aload_n hx hb dL_isShot_140 rfl (lv_at hl 1 rfl) ?_
  refine lv_iconst (v := 2) hx hb dL_isShot_141 (by decide) ?_
  obtain ⟨r37, hcr37, h⟩ := bn_sp h
  refine va_calli (va_runV (As := [.int 2]) (rest := []) ⟨hx, hb, hml, hown, hts⟩ (M_count l D cI cC cZ cR b0 a ((q1, .inl (cI, 16, .inl w35)) :: Y) w34 2 r37 hcr37) (cwV 1 hts gL_isShot_X7_count rfl rfl rfl (by decide +kernel) ⟨Nat.le_of_ble_eq_true rfl, Nat.le_of_ble_eq_true rfl⟩) (cPcO_pv hO hK hb0 hS hstt) rfl rfl hl.1 rfl (lv_room (Nat.le_of_ble_eq_true rfl)) dL_isShot_142 ⟨Nat.le_of_ble_eq_true rfl, Nat.le_of_ble_eq_true rfl⟩) hS (fun q _ h => h) (fun q h => h) (fun xq u t H1 locs ht hvm hw hB hz1 hk1 hS => ?_)
  rw [hw]
  have hO : WO D cI cC cZ cR b0 a ((q1, .inl (cI, 16, .inl w35)) :: Y) w34 H1 := by rw [← ht]; exact hB
  generalize H1 = H at hO hS ⊢
  refine lv_istore (lv' := [(8, .int r37), (7, .int r36), (0, .ref (a 0)), (1, .int a1), (2, .ref q1), (3, .int r2), (4, .int r3), (5, .int r4), (6, .int r5)]) hx hb dL_isShot_145 hl (by decide) rfl (fun ls hl => ?_)
  refine lv_aload_n hx hb dL_isShot_147 rfl (lv_at hl 2 rfl) ?_
  obtain ⟨r38, hcr38, h⟩ := bn_sp h
  refine va_calli (va_runV (As := []) (rest := []) ⟨hx, hb, hml, hown, hts⟩ (M_shoot l D cI cC cZ cR b0 a ((q1, .inl (cI, 16, .inl w35)) :: Y) w34  r38 hcr38) (cwV 0 hts gL_isShot_X7_shoot rfl rfl rfl (by decide +kernel) ⟨Nat.le_of_ble_eq_true rfl, Nat.le_of_ble_eq_true rfl⟩) (cPcO_pv hO hK hb0 hS hstt) rfl rfl hl.1 rfl (lv_room (Nat.le_of_ble_eq_true rfl)) dL_isShot_148 ⟨Nat.le_of_ble_eq_true rfl, Nat.le_of_ble_eq_true rfl⟩) hS (fun q _ h => h) (fun q h => h) (fun xq u t H1 locs ht hvm hw hB hz1 hk1 hS => ?_)
  rw [hw]
  have hO : WO D cI cC cZ cR b0 a ((q1, .inl (cI, 16, .inl w35)) :: Y) r38.2 H1 := by rw [← ht]; exact hB
  generalize H1 = H at hO hS ⊢
  refine lv_istore (lv' := [(9, .int r38.1), (8, .int r37), (7, .int r36), (0, .ref (a 0)), (1, .int a1), (2, .ref q1), (3, .int r2), (4, .int r3), (5, .int r4), (6, .int r5)]) hx hb dL_isShot_151 hl (by decide) rfl (fun ls hl => ?_)
  refine lv_iload hx hb dL_isShot_153 (lv_at hl 0 rfl) ?_
  refine lv_bipush (v := (-5)) hx hb dL_isShot_155 (by decide) ?_
  refine lv_icmp_ne (tgt := 193) hx hb dL_isShot_157 (by decide) (fun c65 => ?_) (fun c65 => ?_)
  · replace h := br_p c65 h
    refine lv_iconst (v := 0) hx hb dL_isShot_193 (by decide) ?_
    refine lv_istore (lv' := [(10, .int 0), (9, .int r38.1), (8, .int r37), (7, .int r36), (0, .ref (a 0)), (1, .int a1), (2, .ref q1), (3, .int r2), (4, .int r3), (5, .int r4), (6, .int r5)]) hx hb dL_isShot_194 hl (by decide) rfl (fun ls hl => ?_)
    refine lv_iconst (v := 0) hx hb dL_isShot_196 (by decide) ?_
    refine lv_istore (lv' := [(11, .int 0), (10, .int 0), (9, .int r38.1), (8, .int r37), (7, .int r36), (0, .ref (a 0)), (1, .int a1), (2, .ref q1), (3, .int r2), (4, .int r3), (5, .int r4), (6, .int r5)]) hx hb dL_isShot_197 hl (by decide) rfl (fun ls hl => ?_)
    have L199 : ∀ (k : Int32 → Int32 → Option OUT_L_isShot), (∀ (w53 : Int32) (w54 : Int32) (H : Heap) (locs : List Loc) (ls : Array Slot), k w53 w54 = some r → WO D cI cC cZ cR b0 a ((q1, .inl (cI, 16, .inl w35)) :: Y) r38.2 H → va_S (fun q => b0 ≤ q) s.heap H locs → lv_has ls 12 [(0, .ref (a 0)), (1, .int a1), (2, .ref q1), (3, .int r2), (4, .int r3), (5, .int r4), (6, .int r5), (7, .int r36), (8, .int r37), (9, .int r38.1), (10, .int w53), (11, .int w54)] → W p l e R_L_isShot s m ([.ref (a 0), .int a1] : List Value).toArray below meth c H locs 15 494 Q (F0 m 259 ls [])) → ∀ (n : Nat) (v41 : Int32) (v42 : Int32) (H : Heap) (locs : List Loc) (ls : Array Slot), f_L_isShot_L199 r2 r3 w35 r38 k n v41 v42 = some r → WO D cI cC cZ cR b0 a ((q1, .inl (cI, 16, .inl w35)) :: Y) r38.2 H → va_S (fun q => b0 ≤ q) s.heap H locs → lv_has ls 12 [(0, .ref (a 0)), (1, .int a1), (2, .ref q1), (3, .int r2), (4, .int r3), (5, .int r4), (6, .int r5), (7, .int r36), (8, .int r37), (9, .int r38.1), (10, .int v41), (11, .int v42)] → W p l e R_L_isShot s m ([.ref (a 0), .int a1] : List Value).toArray below meth c H locs 15 494 Q (F0 m 199 ls []) := by
      intro k K n
      induction n with
      | zero => intro v41 v42 H locs ls h; exact no_sm h
      | succ n ih =>
        intro v41 v42 H locs ls h hO hS hl
        rw [f_L_isShot_L199_s] at h
        refine lv_iload hx hb dL_isShot_199 (lv_at hl 11 rfl) ?_
        refine lv_bipush (v := 16) hx hb dL_isShot_201 (by decide) ?_
        refine lv_icmp_ge (tgt := 259) hx hb dL_isShot_203 (by decide) (fun c52 => ?_) (fun c52 => ?_)
        · replace h := br_p c52 h
          exact K _ _ _ _ _ h hO hS (lv_sub hl [0, 1, 2, 3, 4, 5, 6, 7, 8, 9, 10, 11] rfl)
        · replace h := br_n c52 h
          refine lv_iload hx hb dL_isShot_206 (lv_at hl 10 rfl) ?_
          refine lv_aload_n hx hb dL_isShot_208 rfl (lv_at hl 0 rfl) ?_
          refine lv_iload hx hb dL_isShot_209 (lv_at hl 11 rfl) ?_
          refine lv_iconst (v := 1) hx hb dL_isShot_211 (by decide) ?_
          obtain ⟨r43, hcr43, h⟩ := bn_sp h
          refine va_calli (va_runV (As := [.int v42, .int 1]) (rest := [.int v41]) ⟨hx, hb, hml, hown, hts⟩ (M_ofLine l D cI cC cZ cR b0 a ((q1, .inl (cI, 16, .inl w35)) :: Y) r38.2 v42 1 r43 hcr43) (cwV 2 hts gL_isShot_X7_ofLine rfl rfl rfl (by decide +kernel) ⟨Nat.le_of_ble_eq_true rfl, Nat.le_of_ble_eq_true rfl⟩) (cPcO_pv hO hK hb0 hS hstt) rfl rfl hl.1 rfl (lv_room (Nat.le_of_ble_eq_true rfl)) dL_isShot_212 ⟨Nat.le_of_ble_eq_true rfl, Nat.le_of_ble_eq_true rfl⟩) hS (fun q _ h => h) (fun q h => h) (fun xq u t H1 locs ht hvm hw hB hz1 hk1 hS => ?_)
          rw [hw]
          have hO : WO D cI cC cZ cR b0 a ((q1, .inl (cI, 16, .inl w35)) :: Y) r38.2 H1 := by rw [← ht]; exact hB
          generalize H1 = H at hO hS ⊢
          refine lv_iadd hx hb dL_isShot_215 ?_
          refine lv_topi (fun x44 ex44 => ?_)
          replace h := bd_s2 h ex44
          refine lv_istore (lv' := [(10, .int x44), (0, .ref (a 0)), (1, .int a1), (2, .ref q1), (3, .int r2), (4, .int r3), (5, .int r4), (6, .int r5), (7, .int r36), (8, .int r37), (9, .int r38.1), (11, .int v42)]) hx hb dL_isShot_216 hl (by decide) rfl (fun ls hl => ?_)
          refine lv_aload_n hx hb dL_isShot_218 rfl (lv_at hl 3 rfl) ?_
          refine lv_iload hx hb dL_isShot_219 (lv_at hl 11 rfl) ?_
          obtain ⟨hin, h⟩ := gd_sp h
          obtain ⟨ad, ads, hP, hD⟩ := id hO
          refine va_iald (D := D) hx hb hK.1 hP 0 0 rfl rfl hin dL_isShot_221 ?_
          refine lv_if_lt (tgt := 253) hx hb dL_isShot_222 (by decide) (fun c51 => ?_) (fun c51 => ?_)
          · replace h := br_p c51 h
            obtain ⟨x45, ex45, h⟩ := bd_sp h
            refine lv_iinc (v := x45) (lv' := [(11, .int x45), (10, .int x44), (0, .ref (a 0)), (1, .int a1), (2, .ref q1), (3, .int r2), (4, .int r3), (5, .int r4), (6, .int r5), (7, .int r36), (8, .int r37), (9, .int r38.1)]) hx hb dL_isShot_253 hl (k := 11) rfl (by rw [ex45]; rfl) (by decide) rfl (fun ls hl => ?_)
            refine lv_goto (tgt := 199) hx hb dL_isShot_256 (by decide) ?_
            exact ih _ _ _ _ _ h hO hS (lv_sub hl [2, 3, 4, 5, 6, 7, 8, 9, 10, 11, 1, 0] rfl)
          · replace h := br_n c51 h
            refine lv_aload_n hx hb dL_isShot_225 rfl (lv_at hl 1 rfl) ?_
            refine lv_iload hx hb dL_isShot_226 (lv_at hl 11 rfl) ?_
            refine lv_iload hx hb dL_isShot_228 (lv_at hl 11 rfl) ?_
            refine lv_iconst (v := 2) hx hb dL_isShot_230 (by decide) ?_
            refine lv_irem hx hb dL_isShot_231 (by decide) ?_
            obtain ⟨j241, hj241, h⟩ := jn_sp h
            have J241 : ∀ (j46 : Int32) (H : Heap) (locs : List Loc) (ls : Array Slot), j241 j46 = some r → WO D cI cC cZ cR b0 a ((q1, .inl (cI, 16, .inl w35)) :: Y) r38.2 H → va_S (fun q => b0 ≤ q) s.heap H locs → lv_has ls 12 [(0, .ref (a 0)), (1, .int a1), (2, .ref q1), (3, .int r2), (4, .int r3), (5, .int r4), (6, .int r5), (7, .int r36), (8, .int r37), (9, .int r38.1), (10, .int x44), (11, .int v42)] → W p l e R_L_isShot s m ([.ref (a 0), .int a1] : List Value).toArray below meth c H locs 15 494 Q (F0 m 241 ls [.int j46, .int v42, .ref (a 0)]) := by
              intro j46 H locs ls h hO hS hl
              rw [hj241] at h
              obtain ⟨r47, hcr47, h⟩ := bn_sp h
              refine va_calli (va_runV (As := [.int v42, .int j46]) (rest := []) ⟨hx, hb, hml, hown, hts⟩ (M_pixel l D cI cC cZ cR b0 a ((q1, .inl (cI, 16, .inl w35)) :: Y) r38.2 v42 j46 r47 hcr47) (cwV 2 hts gL_isShot_X7_pixel rfl rfl rfl (by decide +kernel) ⟨Nat.le_of_ble_eq_true rfl, Nat.le_of_ble_eq_true rfl⟩) (cPcO_pv hO hK hb0 hS hstt) rfl rfl hl.1 rfl (lv_room (Nat.le_of_ble_eq_true rfl)) dL_isShot_241 ⟨Nat.le_of_ble_eq_true rfl, Nat.le_of_ble_eq_true rfl⟩) hS (fun q _ h => h) (fun q h => h) (fun xq u t H1 locs ht hvm hw hB hz1 hk1 hS => ?_)
              rw [hw]
              have hO : WO D cI cC cZ cR b0 a ((q1, .inl (cI, 16, .inl w35)) :: Y) r38.2 H1 := by rw [← ht]; exact hB
              generalize H1 = H at hO hS ⊢
              refine lv_aload_n hx hb dL_isShot_244 rfl (lv_at hl 2 rfl) ?_
              refine lv_iload hx hb dL_isShot_245 (lv_at hl 11 rfl) ?_
              obtain ⟨hin, h⟩ := gd_sp h
              obtain ⟨ad, ads, hP, hD⟩ := id hO
              refine va_iald (D := D) hx hb hK.1 hP 0 0 rfl rfl hin dL_isShot_247 ?_
              refine lv_icmp_eq (tgt := 253) hx hb dL_isShot_248 (by decide) (fun c49 => ?_) (fun c49 => ?_)
              · replace h := br_p c49 h
                obtain ⟨x48, ex48, h⟩ := bd_sp h
                refine lv_iinc (v := x48) (lv' := [(11, .int x48), (0, .ref (a 0)), (1, .int a1), (2, .ref q1), (3, .int r2), (4, .int r3), (5, .int r4), (6, .int r5), (7, .int r36), (8, .int r37), (9, .int r38.1), (10, .int x44)]) hx hb dL_isShot_253 hl (k := 11) rfl (by rw [ex48]; rfl) (by decide) rfl (fun ls hl => ?_)
                refine lv_goto (tgt := 199) hx hb dL_isShot_256 (by decide) ?_
                exact ih _ _ _ _ _ h hO hS (lv_sub hl [1, 2, 3, 4, 5, 6, 7, 8, 9, 10, 11, 0] rfl)
              · replace h := br_n c49 h
                exact no_sm h
            refine lv_if_ne (tgt := 239) hx hb dL_isShot_232 (by decide) (fun c50 => ?_) (fun c50 => ?_)
            · replace h := br_p c50 h
              refine lv_iload hx hb dL_isShot_239 (lv_at hl 5 rfl) ?_
              exact J241 _ _ _ _ h hO hS (lv_sub hl [1, 2, 3, 4, 5, 6, 7, 8, 9, 10, 0, 11] rfl)
            · replace h := br_n (not_not_intro c50) h
              refine lv_iload_n hx hb dL_isShot_235 rfl (lv_at hl 4 rfl) ?_
              refine lv_goto (tgt := 241) hx hb dL_isShot_236 (by decide) ?_
              exact J241 _ _ _ _ h hO hS (lv_sub hl [1, 2, 3, 4, 5, 6, 7, 8, 9, 10, 0, 11] rfl)
    refine L199 _ (fun w53 w54 H locs ls h hO hS hl => ?_) 4000 0 0 _ _ _ h hO hS (lv_sub hl [5, 6, 7, 8, 9, 10, 11, 4, 3, 2, 1, 0] rfl)
    refine lv_iload hx hb dL_isShot_259 (lv_at hl 10 rfl) ?_
    refine lv_iload hx hb dL_isShot_261 (lv_at hl 9 rfl) ?_
    refine lv_icmp_ne (tgt := 308) hx hb dL_isShot_263 (by decide) (fun c61 => ?_) (fun c61 => ?_)
    · replace h := br_p c61 h
      exact no_sm h
    · replace h := br_n (not_not_intro c61) h
      refine lv_aload_n hx hb dL_isShot_266 rfl (lv_at hl 0 rfl) ?_
      refine lv_iconst (v := 0) hx hb dL_isShot_267 (by decide) ?_
      obtain ⟨r55, hcr55, h⟩ := bn_sp h
      refine va_calli (va_runV (As := [.int 0]) (rest := []) ⟨hx, hb, hml, hown, hts⟩ (M_count l D cI cC cZ cR b0 a ((q1, .inl (cI, 16, .inl w35)) :: Y) r38.2 0 r55 hcr55) (cwV 1 hts gL_isShot_X7_count rfl rfl rfl (by decide +kernel) ⟨Nat.le_of_ble_eq_true rfl, Nat.le_of_ble_eq_true rfl⟩) (cPcO_pv hO hK hb0 hS hstt) rfl rfl hl.1 rfl (lv_room (Nat.le_of_ble_eq_true rfl)) dL_isShot_268 ⟨Nat.le_of_ble_eq_true rfl, Nat.le_of_ble_eq_true rfl⟩) hS (fun q _ h => h) (fun q h => h) (fun xq u t H1 locs ht hvm hw hB hz1 hk1 hS => ?_)
      rw [hw]
      have hO : WO D cI cC cZ cR b0 a ((q1, .inl (cI, 16, .inl w35)) :: Y) r38.2 H1 := by rw [← ht]; exact hB
      generalize H1 = H at hO hS ⊢
      refine lv_iload hx hb dL_isShot_271 (lv_at hl 7 rfl) ?_
      refine lv_bipush (v := 15) hx hb dL_isShot_273 (by decide) ?_
      refine lv_iload hx hb dL_isShot_275 (lv_at hl 5 rfl) ?_
      refine lv_imul hx hb dL_isShot_277 ?_
      refine lv_iadd hx hb dL_isShot_278 ?_
      refine lv_iload hx hb dL_isShot_279 (lv_at hl 6 rfl) ?_
      refine lv_iadd hx hb dL_isShot_281 ?_
      refine lv_icmp_ne (tgt := 308) hx hb dL_isShot_282 (by decide) (fun c60 => ?_) (fun c60 => ?_)
      · replace h := br_p c60 h
        exact no_sm h
      · replace h := br_n (not_not_intro c60) h
        refine lv_aload_n hx hb dL_isShot_285 rfl (lv_at hl 0 rfl) ?_
        refine lv_iconst (v := 2) hx hb dL_isShot_286 (by decide) ?_
        obtain ⟨r56, hcr56, h⟩ := bn_sp h
        refine va_calli (va_runV (As := [.int 2]) (rest := []) ⟨hx, hb, hml, hown, hts⟩ (M_count l D cI cC cZ cR b0 a ((q1, .inl (cI, 16, .inl w35)) :: Y) r38.2 2 r56 hcr56) (cwV 1 hts gL_isShot_X7_count rfl rfl rfl (by decide +kernel) ⟨Nat.le_of_ble_eq_true rfl, Nat.le_of_ble_eq_true rfl⟩) (cPcO_pv hO hK hb0 hS hstt) rfl rfl hl.1 rfl (lv_room (Nat.le_of_ble_eq_true rfl)) dL_isShot_287 ⟨Nat.le_of_ble_eq_true rfl, Nat.le_of_ble_eq_true rfl⟩) hS (fun q _ h => h) (fun q h => h) (fun xq u t H1 locs ht hvm hw hB hz1 hk1 hS => ?_)
        rw [hw]
        have hO : WO D cI cC cZ cR b0 a ((q1, .inl (cI, 16, .inl w35)) :: Y) r38.2 H1 := by rw [← ht]; exact hB
        generalize H1 = H at hO hS ⊢
        refine lv_iload hx hb dL_isShot_290 (lv_at hl 8 rfl) ?_
        refine lv_iconst (v := 1) hx hb dL_isShot_292 (by decide) ?_
        refine lv_iadd hx hb dL_isShot_293 ?_
        refine lv_icmp_ne (tgt := 308) hx hb dL_isShot_294 (by decide) (fun c59 => ?_) (fun c59 => ?_)
        · replace h := br_p c59 h
          exact no_sm h
        · replace h := br_n (not_not_intro c59) h
          refine lv_aload_n hx hb dL_isShot_297 rfl (lv_at hl 0 rfl) ?_
          obtain ⟨r57, hcr57, h⟩ := bn_sp h
          refine va_calli (va_runS (As := [.ref (a 0)]) (rest := []) ⟨hx, hb, hml, hown, hts⟩ (m_L_isPicture l D cI cC cZ cR b0 a ((q1, .inl (cI, 16, .inl w35)) :: Y) r38.2 r57 hcr57) (va_cwS 1 hts gL_isShot_L_isPicture rfl rfl rfl (by decide +kernel) ⟨Nat.le_of_ble_eq_true rfl, Nat.le_of_ble_eq_true rfl⟩) (cPcO_ps hO hK hb0 hS hstt) rfl rfl hl.1 rfl (lv_room (Nat.le_of_ble_eq_true rfl)) dL_isShot_298 ⟨Nat.le_of_ble_eq_true rfl, Nat.le_of_ble_eq_true rfl⟩) hS (fun q _ h => h) (fun q h => h) (fun xq u t H1 locs ht hvm hw hB hz1 hk1 hS => ?_)
          rw [hw]
          have hO : WO D cI cC cZ cR b0 a ((q1, .inl (cI, 16, .inl w35)) :: Y) r38.2 H1 := by rw [← ht]; exact hB
          generalize H1 = H at hO hS ⊢
          refine lv_if_eq (tgt := 308) hx hb dL_isShot_301 (by decide) (fun c58 => ?_) (fun c58 => ?_)
          · replace h := br_p c58 h
            exact no_sm h
          · replace h := br_n c58 h
            refine lv_iconst (v := 1) hx hb dL_isShot_304 (by decide) ?_
            refine lv_goto (tgt := 309) hx hb dL_isShot_305 (by decide) ?_
            have e9 := Option.some.inj h
            subst e9
            rw [hQ]
            have hO := WO_drop hO
            exact W.zret (v := 1) hx hb hr rfl (fun t ht hW => ⟨⟨1, (), rfl, rfl, by have h9 := hO; rw [← ht] at h9; exact h9⟩, hS.F ht⟩) hS.2.2 dL_isShot_309
  · replace h := br_n (not_not_intro c65) h
    refine lv_iload hx hb dL_isShot_160 (lv_at hl 2 rfl) ?_
    refine lv_bipush (v := 15) hx hb dL_isShot_162 (by decide) ?_
    refine lv_iload hx hb dL_isShot_164 (lv_at hl 8 rfl) ?_
    refine lv_imul hx hb dL_isShot_166 ?_
    refine lv_iadd hx hb dL_isShot_167 ?_
    refine lv_iload hx hb dL_isShot_168 (lv_at hl 9 rfl) ?_
    refine lv_iadd hx hb dL_isShot_170 ?_
    refine lv_sipush (v := 9999) hx hb dL_isShot_171 (by decide) ?_
    refine lv_icmp_le (tgt := 191) hx hb dL_isShot_174 (by decide) (fun c64 => ?_) (fun c64 => ?_)
    · replace h := br_p c64 h
      exact no_sm h
    · replace h := br_n c64 h
      refine lv_aload_n hx hb dL_isShot_177 rfl (lv_at hl 3 rfl) ?_
      refine lv_iconst (v := 2) hx hb dL_isShot_178 (by decide) ?_
      obtain ⟨r62, hcr62, h⟩ := bn_sp h
      refine va_calli (va_runV (As := [.int 2]) (rest := []) ⟨hx, hb, hml, hown, hts⟩ (M_count l D cI cC cZ cR b0 a ((q1, .inl (cI, 16, .inl w35)) :: Y) r38.2 2 r62 hcr62) (cwV 1 hts gL_isShot_X7_count rfl rfl rfl (by decide +kernel) ⟨Nat.le_of_ble_eq_true rfl, Nat.le_of_ble_eq_true rfl⟩) (cPcO_pv hO hK hb0 hS hstt) rfl rfl hl.1 rfl (lv_room (Nat.le_of_ble_eq_true rfl)) dL_isShot_179 ⟨Nat.le_of_ble_eq_true rfl, Nat.le_of_ble_eq_true rfl⟩) hS (fun q _ h => h) (fun q h => h) (fun xq u t H1 locs ht hvm hw hB hz1 hk1 hS => ?_)
      rw [hw]
      have hO : WO D cI cC cZ cR b0 a ((q1, .inl (cI, 16, .inl w35)) :: Y) r38.2 H1 := by rw [← ht]; exact hB
      generalize H1 = H at hO hS ⊢
      refine lv_iload hx hb dL_isShot_182 (lv_at hl 1 rfl) ?_
      refine lv_icmp_ne (tgt := 191) hx hb dL_isShot_184 (by decide) (fun c63 => ?_) (fun c63 => ?_)
      · replace h := br_p c63 h
        exact no_sm h
      · replace h := br_n (not_not_intro c63) h
        refine lv_iconst (v := 1) hx hb dL_isShot_187 (by decide) ?_
        refine lv_goto (tgt := 192) hx hb dL_isShot_188 (by decide) ?_
        have e9 := Option.some.inj h
        subst e9
        rw [hQ]
        have hO := WO_drop hO
        exact W.zret (v := 1) hx hb hr rfl (fun t ht hW => ⟨⟨1, (), rfl, rfl, by have h9 := hO; rw [← ht] at h9; exact h9⟩, hS.F ht⟩) hS.2.2 dL_isShot_192
-- the law: leans
abbrev OUT_L_leans : Type := Int32 × OB
def f_L_leans_L133 (x7 : Int32) (k : Int32 → Int32 → OB → Option OUT_L_leans) : Nat → Int32 → Int32 → OB → Option OUT_L_leans
  | 0 => fun _ _ _ => none
  | n + 1 => fun v28 v29 v30 => (if x7 ≤ v29 then k v28 v29 v30 else (if v28 = 0 then none else bn (F_pass v30 1) (fun r31 => (if r31.1 ≤ 0 then none else bd (v29 + 1) (fun x32 => f_L_leans_L133 x7 k n 1 x32 r31.2)))))
theorem f_L_leans_L133_s (x7 : Int32) (k : Int32 → Int32 → OB → Option OUT_L_leans) (n : Nat) (v28 : Int32) (v29 : Int32) (v30 : OB) : f_L_leans_L133 x7 k (n + 1) v28 v29 v30 = ((if x7 ≤ v29 then k v28 v29 v30 else (if v28 = 0 then none else bn (F_pass v30 1) (fun r31 => (if r31.1 ≤ 0 then none else bd (v29 + 1) (fun x32 => f_L_leans_L133 x7 k n 1 x32 r31.2)))))) := rfl
def f_L_leans_L89 (x5 : Int32) (k : Int32 → Int32 → OB → Option OUT_L_leans) : Nat → Int32 → Int32 → OB → Option OUT_L_leans
  | 0 => fun _ _ _ => none
  | n + 1 => fun v13 v14 v15 => (if x5 ≤ v14 then k v13 v14 v15 else (if v13 = 0 then none else bn (F_pass v15 1) (fun r16 => (if r16.1 ≤ 0 then none else bd (v14 + 1) (fun x17 => f_L_leans_L89 x5 k n 1 x17 r16.2)))))
theorem f_L_leans_L89_s (x5 : Int32) (k : Int32 → Int32 → OB → Option OUT_L_leans) (n : Nat) (v13 : Int32) (v14 : Int32) (v15 : OB) : f_L_leans_L89 x5 k (n + 1) v13 v14 v15 = ((if x5 ≤ v14 then k v13 v14 v15 else (if v13 = 0 then none else bn (F_pass v15 1) (fun r16 => (if r16.1 ≤ 0 then none else bd (v14 + 1) (fun x17 => f_L_leans_L89 x5 k n 1 x17 r16.2)))))) := rfl
def f_L_leans (o : OB) (a1 : Int32) : Option OUT_L_leans :=
  bn (F_leans o a1) (fun r1 => bd (r1 - 1000) (fun x2 => bn (F_count o 8) (fun r3 => bn (F_of o a1 0) (fun r4 => bd (r4 * r3) (fun x5 => bn (F_of o a1 2) (fun r6 => bd ((r6 - 1) * r3) (fun x7 => (if ¬ r3 = 0 then bn (F_count o 0) (fun r8 => (if r8 ≤ 9500 then bn (F_save o 0) (fun r9 => f_L_leans_L89 x5 (fun (w21 : Int32) (w22 : Int32) (w23 : OB) => bn (F_of w23 a1 1) (fun r24 => f_L_leans_L133 x7 (fun (w36 : Int32) (w37 : Int32) (w38 : OB) => (if w36 = 0 then none else bn (F_of w38 a1 1) (fun r39 => (if ¬ (r39 - r24) = x2 then none else bn (F_restore w38 0) (fun r40 => (if ¬ r40.1 = r9.1 then none else some (1, r40.2))))))) 136 w21 0 w23)) 136 1 0 r9.2) else some (1, o))) else (if ¬ x2 = 0 then none else bn (F_bent o ) (fun r45 => (if ¬ r45.1 = 0 then none else some (1, r45.2))))))))))))
abbrev R_L_leans : Room := { frames := 6, cells := 3836, slots := 130972, locals := 162 }
set_option maxHeartbeats 4000000 in
set_option maxRecDepth 100000 in
theorem m_L_leans (l : Launch) (D : va_G) (cI cC cZ cR : ClassId) (b0 : Nat) (a : Nat → Nat) (Y : va_W) (o : OB) (a1 : Int32) (r : OUT_L_leans) (hf : f_L_leans o a1 = some r) : Met l yL_leans wsL_leans R_L_leans (cPcO D cI cC cZ cR b0 a Y [.ref (a 0), .int a1] o) (cQO D cI cC cZ cR b0 a Y r.1 r.2) 3836 130972 (fun q => b0 ≤ q) := by
  refine Met.ofW (cc := cL_leans) (maxL := 10) (ret := (some .boolean)) (by decide) rfl ?_
  intro p e s m args below meth c s₁ B hml hv
  obtain ⟨rfl, hO, hK, hb0, hstt⟩ := hv
  have hx := B.exec
  have hb := B.bytes
  have hr := B.returns
  have hts := atoms_spec (ws := wsL_leans) B.pre
  have hown : s.vm.findClass RL = some m.cls := findClass_of_methodNamed B.named
  have hlocks := B.notSynchronized
  have hA : ∀ q : Nat, s.heap.size ≤ q → (fun q : Nat => b0 ≤ q) q := fun q h => Nat.le_trans hb0 h
  have hS : va_S (fun q : Nat => b0 ≤ q) s.heap s.heap [] := va_S.rf
  have hl := lv_entry ([.ref (a 0), .int a1]) (n := 10) (Nat.le_of_ble_eq_true rfl)
  rw [lg_entry_eq]
  generalize (lg_sl ([.ref (a 0), .int a1]) ++ List.replicate (10 - (lg_sl ([.ref (a 0), .int a1])).length) Slot.unset).toArray = ls at hl ⊢
  have hl : lv_has ls 10 [(0, .ref (a 0)), (1, .int a1)] := hl
  refine W_absQ (fun Q hQ => ?_)
  refine W.eq (g2 := F0 m 0 ls []) rfl ?_
  have h := hf
  unfold f_L_leans at h
  refine lv_aload_n hx hb dL_leans_0 rfl (lv_at hl 0 rfl) ?_
  refine lv_iload_n hx hb dL_leans_1 rfl (lv_at hl 1 rfl) ?_
  obtain ⟨r1, hcr1, h⟩ := bn_sp h
  refine va_calli (va_runV (As := [.int a1]) (rest := []) ⟨hx, hb, hml, hown, hts⟩ (M_leans l D cI cC cZ cR b0 a Y o a1 r1 hcr1) (cwV 1 hts gL_leans_X7_leans rfl rfl rfl (by decide +kernel) ⟨Nat.le_of_ble_eq_true rfl, Nat.le_of_ble_eq_true rfl⟩) (cPcO_pv hO hK hb0 hS hstt) rfl rfl hl.1 rfl (lv_room (Nat.le_of_ble_eq_true rfl)) dL_leans_2 ⟨Nat.le_of_ble_eq_true rfl, Nat.le_of_ble_eq_true rfl⟩) hS (fun q _ h => h) (fun q h => h) (fun xq u t H1 locs ht hvm hw hB hz1 hk1 hS => ?_)
  rw [hw]
  have hO : WO D cI cC cZ cR b0 a Y o H1 := by rw [← ht]; exact hB
  generalize H1 = H at hO hS ⊢
  refine lv_sipush (v := 1000) hx hb dL_leans_5 (by decide) ?_
  refine lv_isub hx hb dL_leans_8 ?_
  refine lv_topi (fun x2 ex2 => ?_)
  replace h := bd_s2 h ex2
  refine lv_istore_n (lv' := [(2, .int x2), (0, .ref (a 0)), (1, .int a1)]) hx hb dL_leans_9 rfl hl (by decide) rfl (fun ls hl => ?_)
  refine lv_aload_n hx hb dL_leans_10 rfl (lv_at hl 1 rfl) ?_
  refine lv_bipush (v := 8) hx hb dL_leans_11 (by decide) ?_
  obtain ⟨r3, hcr3, h⟩ := bn_sp h
  refine va_calli (va_runV (As := [.int 8]) (rest := []) ⟨hx, hb, hml, hown, hts⟩ (M_count l D cI cC cZ cR b0 a Y o 8 r3 hcr3) (cwV 1 hts gL_leans_X7_count rfl rfl rfl (by decide +kernel) ⟨Nat.le_of_ble_eq_true rfl, Nat.le_of_ble_eq_true rfl⟩) (cPcO_pv hO hK hb0 hS hstt) rfl rfl hl.1 rfl (lv_room (Nat.le_of_ble_eq_true rfl)) dL_leans_13 ⟨Nat.le_of_ble_eq_true rfl, Nat.le_of_ble_eq_true rfl⟩) hS (fun q _ h => h) (fun q h => h) (fun xq u t H1 locs ht hvm hw hB hz1 hk1 hS => ?_)
  rw [hw]
  have hO : WO D cI cC cZ cR b0 a Y o H1 := by rw [← ht]; exact hB
  generalize H1 = H at hO hS ⊢
  refine lv_istore_n (lv' := [(3, .int r3), (2, .int x2), (0, .ref (a 0)), (1, .int a1)]) hx hb dL_leans_16 rfl hl (by decide) rfl (fun ls hl => ?_)
  refine lv_aload_n hx hb dL_leans_17 rfl (lv_at hl 2 rfl) ?_
  refine lv_iload_n hx hb dL_leans_18 rfl (lv_at hl 3 rfl) ?_
  refine lv_iconst (v := 0) hx hb dL_leans_19 (by decide) ?_
  obtain ⟨r4, hcr4, h⟩ := bn_sp h
  refine va_calli (va_runV (As := [.int a1, .int 0]) (rest := []) ⟨hx, hb, hml, hown, hts⟩ (M_of l D cI cC cZ cR b0 a Y o a1 0 r4 hcr4) (cwV 2 hts gL_leans_X7_of rfl rfl rfl (by decide +kernel) ⟨Nat.le_of_ble_eq_true rfl, Nat.le_of_ble_eq_true rfl⟩) (cPcO_pv hO hK hb0 hS hstt) rfl rfl hl.1 rfl (lv_room (Nat.le_of_ble_eq_true rfl)) dL_leans_20 ⟨Nat.le_of_ble_eq_true rfl, Nat.le_of_ble_eq_true rfl⟩) hS (fun q _ h => h) (fun q h => h) (fun xq u t H1 locs ht hvm hw hB hz1 hk1 hS => ?_)
  rw [hw]
  have hO : WO D cI cC cZ cR b0 a Y o H1 := by rw [← ht]; exact hB
  generalize H1 = H at hO hS ⊢
  refine lv_iload_n hx hb dL_leans_23 rfl (lv_at hl 0 rfl) ?_
  refine lv_imul hx hb dL_leans_24 ?_
  refine lv_topi (fun x5 ex5 => ?_)
  replace h := bd_s2 h ex5
  refine lv_istore (lv' := [(4, .int x5), (3, .int r3), (2, .int x2), (0, .ref (a 0)), (1, .int a1)]) hx hb dL_leans_25 hl (by decide) rfl (fun ls hl => ?_)
  refine lv_aload_n hx hb dL_leans_27 rfl (lv_at hl 3 rfl) ?_
  refine lv_iload_n hx hb dL_leans_28 rfl (lv_at hl 4 rfl) ?_
  refine lv_iconst (v := 2) hx hb dL_leans_29 (by decide) ?_
  obtain ⟨r6, hcr6, h⟩ := bn_sp h
  refine va_calli (va_runV (As := [.int a1, .int 2]) (rest := []) ⟨hx, hb, hml, hown, hts⟩ (M_of l D cI cC cZ cR b0 a Y o a1 2 r6 hcr6) (cwV 2 hts gL_leans_X7_of rfl rfl rfl (by decide +kernel) ⟨Nat.le_of_ble_eq_true rfl, Nat.le_of_ble_eq_true rfl⟩) (cPcO_pv hO hK hb0 hS hstt) rfl rfl hl.1 rfl (lv_room (Nat.le_of_ble_eq_true rfl)) dL_leans_30 ⟨Nat.le_of_ble_eq_true rfl, Nat.le_of_ble_eq_true rfl⟩) hS (fun q _ h => h) (fun q h => h) (fun xq u t H1 locs ht hvm hw hB hz1 hk1 hS => ?_)
  rw [hw]
  have hO : WO D cI cC cZ cR b0 a Y o H1 := by rw [← ht]; exact hB
  generalize H1 = H at hO hS ⊢
  refine lv_iconst (v := 1) hx hb dL_leans_33 (by decide) ?_
  refine lv_isub hx hb dL_leans_34 ?_
  refine lv_iload_n hx hb dL_leans_35 rfl (lv_at hl 1 rfl) ?_
  refine lv_imul hx hb dL_leans_36 ?_
  refine lv_topi (fun x7 ex7 => ?_)
  replace h := bd_s2 h ex7
  refine lv_istore (lv' := [(5, .int x7), (4, .int x5), (3, .int r3), (2, .int x2), (0, .ref (a 0)), (1, .int a1)]) hx hb dL_leans_37 hl (by decide) rfl (fun ls hl => ?_)
  refine lv_iload_n hx hb dL_leans_39 rfl (lv_at hl 2 rfl) ?_
  refine lv_if_ne (tgt := 60) hx hb dL_leans_40 (by decide) (fun c48 => ?_) (fun c48 => ?_)
  · replace h := br_p c48 h
    refine lv_aload_n hx hb dL_leans_60 rfl (lv_at hl 4 rfl) ?_
    refine lv_iconst (v := 0) hx hb dL_leans_61 (by decide) ?_
    obtain ⟨r8, hcr8, h⟩ := bn_sp h
    refine va_calli (va_runV (As := [.int 0]) (rest := []) ⟨hx, hb, hml, hown, hts⟩ (M_count l D cI cC cZ cR b0 a Y o 0 r8 hcr8) (cwV 1 hts gL_leans_X7_count rfl rfl rfl (by decide +kernel) ⟨Nat.le_of_ble_eq_true rfl, Nat.le_of_ble_eq_true rfl⟩) (cPcO_pv hO hK hb0 hS hstt) rfl rfl hl.1 rfl (lv_room (Nat.le_of_ble_eq_true rfl)) dL_leans_62 ⟨Nat.le_of_ble_eq_true rfl, Nat.le_of_ble_eq_true rfl⟩) hS (fun q _ h => h) (fun q h => h) (fun xq u t H1 locs ht hvm hw hB hz1 hk1 hS => ?_)
    rw [hw]
    have hO : WO D cI cC cZ cR b0 a Y o H1 := by rw [← ht]; exact hB
    generalize H1 = H at hO hS ⊢
    refine lv_sipush (v := 9500) hx hb dL_leans_65 (by decide) ?_
    refine lv_icmp_le (tgt := 73) hx hb dL_leans_68 (by decide) (fun c44 => ?_) (fun c44 => ?_)
    · replace h := br_p c44 h
      refine lv_aload_n hx hb dL_leans_73 rfl (lv_at hl 4 rfl) ?_
      refine lv_iconst (v := 0) hx hb dL_leans_74 (by decide) ?_
      obtain ⟨r9, hcr9, h⟩ := bn_sp h
      refine va_calli (va_runV (As := [.int 0]) (rest := []) ⟨hx, hb, hml, hown, hts⟩ (M_save l D cI cC cZ cR b0 a Y o 0 r9 hcr9) (cwV 1 hts gL_leans_X7_save rfl rfl rfl (by decide +kernel) ⟨Nat.le_of_ble_eq_true rfl, Nat.le_of_ble_eq_true rfl⟩) (cPcO_pv hO hK hb0 hS hstt) rfl rfl hl.1 rfl (lv_room (Nat.le_of_ble_eq_true rfl)) dL_leans_75 ⟨Nat.le_of_ble_eq_true rfl, Nat.le_of_ble_eq_true rfl⟩) hS (fun q _ h => h) (fun q h => h) (fun xq u t H1 locs ht hvm hw hB hz1 hk1 hS => ?_)
      rw [hw]
      have hO : WO D cI cC cZ cR b0 a Y r9.2 H1 := by rw [← ht]; exact hB
      generalize H1 = H at hO hS ⊢
      refine lv_istore (lv' := [(6, .int r9.1), (5, .int x7), (4, .int x5), (3, .int r3), (2, .int x2), (0, .ref (a 0)), (1, .int a1)]) hx hb dL_leans_78 hl (by decide) rfl (fun ls hl => ?_)
      refine lv_iconst (v := 0) hx hb dL_leans_80 (by decide) ?_
      refine lv_istore (lv' := [(7, .int 0), (6, .int r9.1), (5, .int x7), (4, .int x5), (3, .int r3), (2, .int x2), (0, .ref (a 0)), (1, .int a1)]) hx hb dL_leans_81 hl (by decide) rfl (fun ls hl => ?_)
      refine lv_iconst (v := 1) hx hb dL_leans_83 (by decide) ?_
      refine lv_istore (lv' := [(8, .int 1), (7, .int 0), (6, .int r9.1), (5, .int x7), (4, .int x5), (3, .int r3), (2, .int x2), (0, .ref (a 0)), (1, .int a1)]) hx hb dL_leans_84 hl (by decide) rfl (fun ls hl => ?_)
      refine lv_iconst (v := 0) hx hb dL_leans_86 (by decide) ?_
      refine lv_istore (lv' := [(9, .int 0), (8, .int 1), (7, .int 0), (6, .int r9.1), (5, .int x7), (4, .int x5), (3, .int r3), (2, .int x2), (0, .ref (a 0)), (1, .int a1)]) hx hb dL_leans_87 hl (by decide) rfl (fun ls hl => ?_)
      have L89 : ∀ (k : Int32 → Int32 → OB → Option OUT_L_leans), (∀ (w21 : Int32) (w22 : Int32) (w23 : OB) (H : Heap) (locs : List Loc) (ls : Array Slot), k w21 w22 w23 = some r → WO D cI cC cZ cR b0 a Y w23 H → va_S (fun q => b0 ≤ q) s.heap H locs → lv_has ls 10 [(0, .ref (a 0)), (1, .int a1), (2, .int x2), (3, .int r3), (4, .int x5), (5, .int x7), (6, .int r9.1), (7, .int 0), (8, .int w21), (9, .int w22)] → W p l e R_L_leans s m ([.ref (a 0), .int a1] : List Value).toArray below meth c H locs 1918 65486 Q (F0 m 122 ls [])) → ∀ (n : Nat) (v13 : Int32) (v14 : Int32) (v15 : OB) (H : Heap) (locs : List Loc) (ls : Array Slot) (cc ss : Nat), cc + n * 14 ≤ 1918 → ss + n * 478 ≤ 65486 → f_L_leans_L89 x5 k n v13 v14 v15 = some r → WO D cI cC cZ cR b0 a Y v15 H → va_S (fun q => b0 ≤ q) s.heap H locs → lv_has ls 10 [(0, .ref (a 0)), (1, .int a1), (2, .int x2), (3, .int r3), (4, .int x5), (5, .int x7), (6, .int r9.1), (7, .int 0), (8, .int v13), (9, .int v14)] → W p l e R_L_leans s m ([.ref (a 0), .int a1] : List Value).toArray below meth c H locs cc ss Q (F0 m 89 ls []) := by
        intro k K n
        induction n with
        | zero => intro v13 v14 v15 H locs ls cc ss hcc hss h; exact no_sm h
        | succ n ih =>
          intro v13 v14 v15 H locs ls cc ss hcc hss h hO hS hl
          rw [f_L_leans_L89_s] at h
          refine lv_iload hx hb dL_leans_89 (lv_at hl 9 rfl) ?_
          refine lv_iload hx hb dL_leans_91 (lv_at hl 4 rfl) ?_
          refine lv_icmp_ge (tgt := 122) hx hb dL_leans_93 (by decide) (fun c20 => ?_) (fun c20 => ?_)
          · replace h := br_p c20 h
            refine W.widen (k := 1918) (n := 65486) (by omega) (by omega) ?_
            exact K _ _ _ _ _ _ h hO hS (lv_sub hl [0, 1, 2, 3, 4, 5, 6, 7, 8, 9] rfl)
          · replace h := br_n c20 h
            refine lv_iload hx hb dL_leans_96 (lv_at hl 8 rfl) ?_
            refine lv_if_eq (tgt := 113) hx hb dL_leans_98 (by decide) (fun c19 => ?_) (fun c19 => ?_)
            · replace h := br_p c19 h
              exact no_sm h
            · replace h := br_n c19 h
              refine lv_aload_n hx hb dL_leans_101 rfl (lv_at hl 0 rfl) ?_
              refine lv_iconst (v := 1) hx hb dL_leans_102 (by decide) ?_
              obtain ⟨r16, hcr16, h⟩ := bn_sp h
              refine va_calli (va_runV (As := [.int 1]) (rest := []) ⟨hx, hb, hml, hown, hts⟩ (M_pass l D cI cC cZ cR b0 a Y v15 1 r16 hcr16) (cwV 1 hts gL_leans_X7_pass rfl rfl rfl (by decide +kernel) ⟨Nat.le_of_ble_eq_true rfl, Nat.le_of_ble_eq_true rfl⟩) (cPcO_pv hO hK hb0 hS hstt) rfl rfl hl.1 rfl (lv_room (Nat.le_of_ble_eq_true rfl)) dL_leans_103 ⟨by show _ ≤ 3836; omega, by show _ ≤ 130972; omega⟩) hS (fun q _ h => h) (fun q h => h) (fun xq u t H1 locs ht hvm hw hB hz1 hk1 hS => ?_)
              rw [hw]
              have hO : WO D cI cC cZ cR b0 a Y r16.2 H1 := by rw [← ht]; exact hB
              generalize H1 = H at hO hS ⊢
              refine lv_if_le (tgt := 113) hx hb dL_leans_106 (by decide) (fun c18 => ?_) (fun c18 => ?_)
              · replace h := br_p c18 h
                exact no_sm h
              · replace h := br_n c18 h
                refine lv_iconst (v := 1) hx hb dL_leans_109 (by decide) ?_
                refine lv_goto (tgt := 114) hx hb dL_leans_110 (by decide) ?_
                refine lv_istore (lv' := [(8, .int 1), (0, .ref (a 0)), (1, .int a1), (2, .int x2), (3, .int r3), (4, .int x5), (5, .int x7), (6, .int r9.1), (7, .int 0), (9, .int v14)]) hx hb dL_leans_114 hl (by decide) rfl (fun ls hl => ?_)
                obtain ⟨x17, ex17, h⟩ := bd_sp h
                refine lv_iinc (v := x17) (lv' := [(9, .int x17), (8, .int 1), (0, .ref (a 0)), (1, .int a1), (2, .int x2), (3, .int r3), (4, .int x5), (5, .int x7), (6, .int r9.1), (7, .int 0)]) hx hb dL_leans_116 hl (k := 9) rfl (by rw [ex17]; rfl) (by decide) rfl (fun ls hl => ?_)
                refine lv_goto (tgt := 89) hx hb dL_leans_119 (by decide) ?_
                exact ih _ _ _ _ _ _ _ _ (by omega) (by omega) h hO hS (lv_sub hl [2, 3, 4, 5, 6, 7, 8, 9, 1, 0] rfl)
      refine L89 _ (fun w21 w22 w23 H locs ls h hO hS hl => ?_) 136 1 0 r9.2 _ _ _ _ _ (Nat.le_of_ble_eq_true rfl) (Nat.le_of_ble_eq_true rfl) h hO hS (lv_sub hl [8, 9, 7, 6, 5, 4, 3, 2, 1, 0] rfl)
      refine lv_aload_n hx hb dL_leans_122 rfl (lv_at hl 0 rfl) ?_
      refine lv_iload_n hx hb dL_leans_123 rfl (lv_at hl 1 rfl) ?_
      refine lv_iconst (v := 1) hx hb dL_leans_124 (by decide) ?_
      obtain ⟨r24, hcr24, h⟩ := bn_sp h
      refine va_calli (va_runV (As := [.int a1, .int 1]) (rest := []) ⟨hx, hb, hml, hown, hts⟩ (M_of l D cI cC cZ cR b0 a Y w23 a1 1 r24 hcr24) (cwV 2 hts gL_leans_X7_of rfl rfl rfl (by decide +kernel) ⟨Nat.le_of_ble_eq_true rfl, Nat.le_of_ble_eq_true rfl⟩) (cPcO_pv hO hK hb0 hS hstt) rfl rfl hl.1 rfl (lv_room (Nat.le_of_ble_eq_true rfl)) dL_leans_125 ⟨Nat.le_of_ble_eq_true rfl, Nat.le_of_ble_eq_true rfl⟩) hS (fun q _ h => h) (fun q h => h) (fun xq u t H1 locs ht hvm hw hB hz1 hk1 hS => ?_)
      rw [hw]
      have hO : WO D cI cC cZ cR b0 a Y w23 H1 := by rw [← ht]; exact hB
      generalize H1 = H at hO hS ⊢
      refine lv_istore (lv' := [(7, .int r24), (0, .ref (a 0)), (1, .int a1), (2, .int x2), (3, .int r3), (4, .int x5), (5, .int x7), (6, .int r9.1), (8, .int w21), (9, .int w22)]) hx hb dL_leans_128 hl (by decide) rfl (fun ls hl => ?_)
      refine lv_iconst (v := 0) hx hb dL_leans_130 (by decide) ?_
      refine lv_istore (lv' := [(9, .int 0), (7, .int r24), (0, .ref (a 0)), (1, .int a1), (2, .int x2), (3, .int r3), (4, .int x5), (5, .int x7), (6, .int r9.1), (8, .int w21)]) hx hb dL_leans_131 hl (by decide) rfl (fun ls hl => ?_)
      have L133 : ∀ (k : Int32 → Int32 → OB → Option OUT_L_leans), (∀ (w36 : Int32) (w37 : Int32) (w38 : OB) (H : Heap) (locs : List Loc) (ls : Array Slot), k w36 w37 w38 = some r → WO D cI cC cZ cR b0 a Y w38 H → va_S (fun q => b0 ≤ q) s.heap H locs → lv_has ls 10 [(0, .ref (a 0)), (1, .int a1), (2, .int x2), (3, .int r3), (4, .int x5), (5, .int x7), (6, .int r9.1), (7, .int r24), (8, .int w36), (9, .int w37)] → W p l e R_L_leans s m ([.ref (a 0), .int a1] : List Value).toArray below meth c H locs 3822 130494 Q (F0 m 166 ls [])) → ∀ (n : Nat) (v28 : Int32) (v29 : Int32) (v30 : OB) (H : Heap) (locs : List Loc) (ls : Array Slot) (cc ss : Nat), cc + n * 14 ≤ 3822 → ss + n * 478 ≤ 130494 → f_L_leans_L133 x7 k n v28 v29 v30 = some r → WO D cI cC cZ cR b0 a Y v30 H → va_S (fun q => b0 ≤ q) s.heap H locs → lv_has ls 10 [(0, .ref (a 0)), (1, .int a1), (2, .int x2), (3, .int r3), (4, .int x5), (5, .int x7), (6, .int r9.1), (7, .int r24), (8, .int v28), (9, .int v29)] → W p l e R_L_leans s m ([.ref (a 0), .int a1] : List Value).toArray below meth c H locs cc ss Q (F0 m 133 ls []) := by
        intro k K n
        induction n with
        | zero => intro v28 v29 v30 H locs ls cc ss hcc hss h; exact no_sm h
        | succ n ih =>
          intro v28 v29 v30 H locs ls cc ss hcc hss h hO hS hl
          rw [f_L_leans_L133_s] at h
          refine lv_iload hx hb dL_leans_133 (lv_at hl 9 rfl) ?_
          refine lv_iload hx hb dL_leans_135 (lv_at hl 5 rfl) ?_
          refine lv_icmp_ge (tgt := 166) hx hb dL_leans_137 (by decide) (fun c35 => ?_) (fun c35 => ?_)
          · replace h := br_p c35 h
            refine W.widen (k := 3822) (n := 130494) (by omega) (by omega) ?_
            exact K _ _ _ _ _ _ h hO hS (lv_sub hl [0, 1, 2, 3, 4, 5, 6, 7, 8, 9] rfl)
          · replace h := br_n c35 h
            refine lv_iload hx hb dL_leans_140 (lv_at hl 8 rfl) ?_
            refine lv_if_eq (tgt := 157) hx hb dL_leans_142 (by decide) (fun c34 => ?_) (fun c34 => ?_)
            · replace h := br_p c34 h
              exact no_sm h
            · replace h := br_n c34 h
              refine lv_aload_n hx hb dL_leans_145 rfl (lv_at hl 0 rfl) ?_
              refine lv_iconst (v := 1) hx hb dL_leans_146 (by decide) ?_
              obtain ⟨r31, hcr31, h⟩ := bn_sp h
              refine va_calli (va_runV (As := [.int 1]) (rest := []) ⟨hx, hb, hml, hown, hts⟩ (M_pass l D cI cC cZ cR b0 a Y v30 1 r31 hcr31) (cwV 1 hts gL_leans_X7_pass rfl rfl rfl (by decide +kernel) ⟨Nat.le_of_ble_eq_true rfl, Nat.le_of_ble_eq_true rfl⟩) (cPcO_pv hO hK hb0 hS hstt) rfl rfl hl.1 rfl (lv_room (Nat.le_of_ble_eq_true rfl)) dL_leans_147 ⟨by show _ ≤ 3836; omega, by show _ ≤ 130972; omega⟩) hS (fun q _ h => h) (fun q h => h) (fun xq u t H1 locs ht hvm hw hB hz1 hk1 hS => ?_)
              rw [hw]
              have hO : WO D cI cC cZ cR b0 a Y r31.2 H1 := by rw [← ht]; exact hB
              generalize H1 = H at hO hS ⊢
              refine lv_if_le (tgt := 157) hx hb dL_leans_150 (by decide) (fun c33 => ?_) (fun c33 => ?_)
              · replace h := br_p c33 h
                exact no_sm h
              · replace h := br_n c33 h
                refine lv_iconst (v := 1) hx hb dL_leans_153 (by decide) ?_
                refine lv_goto (tgt := 158) hx hb dL_leans_154 (by decide) ?_
                refine lv_istore (lv' := [(8, .int 1), (0, .ref (a 0)), (1, .int a1), (2, .int x2), (3, .int r3), (4, .int x5), (5, .int x7), (6, .int r9.1), (7, .int r24), (9, .int v29)]) hx hb dL_leans_158 hl (by decide) rfl (fun ls hl => ?_)
                obtain ⟨x32, ex32, h⟩ := bd_sp h
                refine lv_iinc (v := x32) (lv' := [(9, .int x32), (8, .int 1), (0, .ref (a 0)), (1, .int a1), (2, .int x2), (3, .int r3), (4, .int x5), (5, .int x7), (6, .int r9.1), (7, .int r24)]) hx hb dL_leans_160 hl (k := 9) rfl (by rw [ex32]; rfl) (by decide) rfl (fun ls hl => ?_)
                refine lv_goto (tgt := 133) hx hb dL_leans_163 (by decide) ?_
                exact ih _ _ _ _ _ _ _ _ (by omega) (by omega) h hO hS (lv_sub hl [2, 3, 4, 5, 6, 7, 8, 9, 1, 0] rfl)
      refine L133 _ (fun w36 w37 w38 H locs ls h hO hS hl => ?_) 136 w21 0 w23 _ _ _ _ _ (Nat.le_of_ble_eq_true rfl) (Nat.le_of_ble_eq_true rfl) h hO hS (lv_sub hl [2, 3, 4, 5, 6, 7, 8, 1, 9, 0] rfl)
      refine lv_iload hx hb dL_leans_166 (lv_at hl 8 rfl) ?_
      refine lv_if_eq (tgt := 198) hx hb dL_leans_168 (by decide) (fun c43 => ?_) (fun c43 => ?_)
      · replace h := br_p c43 h
        exact no_sm h
      · replace h := br_n c43 h
        refine lv_aload_n hx hb dL_leans_171 rfl (lv_at hl 0 rfl) ?_
        refine lv_iload_n hx hb dL_leans_172 rfl (lv_at hl 1 rfl) ?_
        refine lv_iconst (v := 1) hx hb dL_leans_173 (by decide) ?_
        obtain ⟨r39, hcr39, h⟩ := bn_sp h
        refine va_calli (va_runV (As := [.int a1, .int 1]) (rest := []) ⟨hx, hb, hml, hown, hts⟩ (M_of l D cI cC cZ cR b0 a Y w38 a1 1 r39 hcr39) (cwV 2 hts gL_leans_X7_of rfl rfl rfl (by decide +kernel) ⟨Nat.le_of_ble_eq_true rfl, Nat.le_of_ble_eq_true rfl⟩) (cPcO_pv hO hK hb0 hS hstt) rfl rfl hl.1 rfl (lv_room (Nat.le_of_ble_eq_true rfl)) dL_leans_174 ⟨Nat.le_of_ble_eq_true rfl, Nat.le_of_ble_eq_true rfl⟩) hS (fun q _ h => h) (fun q h => h) (fun xq u t H1 locs ht hvm hw hB hz1 hk1 hS => ?_)
        rw [hw]
        have hO : WO D cI cC cZ cR b0 a Y w38 H1 := by rw [← ht]; exact hB
        generalize H1 = H at hO hS ⊢
        refine lv_iload hx hb dL_leans_177 (lv_at hl 7 rfl) ?_
        refine lv_isub hx hb dL_leans_179 ?_
        refine lv_iload_n hx hb dL_leans_180 rfl (lv_at hl 2 rfl) ?_
        refine lv_icmp_ne (tgt := 198) hx hb dL_leans_181 (by decide) (fun c42 => ?_) (fun c42 => ?_)
        · replace h := br_p c42 h
          exact no_sm h
        · replace h := br_n (not_not_intro c42) h
          refine lv_aload_n hx hb dL_leans_184 rfl (lv_at hl 0 rfl) ?_
          refine lv_iconst (v := 0) hx hb dL_leans_185 (by decide) ?_
          obtain ⟨r40, hcr40, h⟩ := bn_sp h
          refine va_calli (va_runV (As := [.int 0]) (rest := []) ⟨hx, hb, hml, hown, hts⟩ (M_restore l D cI cC cZ cR b0 a Y w38 0 r40 hcr40) (cwV 1 hts gL_leans_X7_restore rfl rfl rfl (by decide +kernel) ⟨Nat.le_of_ble_eq_true rfl, Nat.le_of_ble_eq_true rfl⟩) (cPcO_pv hO hK hb0 hS hstt) rfl rfl hl.1 rfl (lv_room (Nat.le_of_ble_eq_true rfl)) dL_leans_186 ⟨Nat.le_of_ble_eq_true rfl, Nat.le_of_ble_eq_true rfl⟩) hS (fun q _ h => h) (fun q h => h) (fun xq u t H1 locs ht hvm hw hB hz1 hk1 hS => ?_)
          rw [hw]
          have hO : WO D cI cC cZ cR b0 a Y r40.2 H1 := by rw [← ht]; exact hB
          generalize H1 = H at hO hS ⊢
          refine lv_iload hx hb dL_leans_189 (lv_at hl 6 rfl) ?_
          refine lv_icmp_ne (tgt := 198) hx hb dL_leans_191 (by decide) (fun c41 => ?_) (fun c41 => ?_)
          · replace h := br_p c41 h
            exact no_sm h
          · replace h := br_n (not_not_intro c41) h
            refine lv_iconst (v := 1) hx hb dL_leans_194 (by decide) ?_
            refine lv_goto (tgt := 199) hx hb dL_leans_195 (by decide) ?_
            have e9 := Option.some.inj h
            subst e9
            rw [hQ]
            exact W.zret (v := 1) hx hb hr rfl (fun t ht hW => ⟨⟨1, (), rfl, rfl, by have h9 := hO; rw [← ht] at h9; exact h9⟩, hS.F ht⟩) hS.2.2 dL_leans_199
    · replace h := br_n c44 h
      refine lv_iconst (v := 1) hx hb dL_leans_71 (by decide) ?_
      have e9 := Option.some.inj h
      subst e9
      rw [hQ]
      refine W.widen (k := 3836) (n := 130972) (Nat.le_of_ble_eq_true rfl) (Nat.le_of_ble_eq_true rfl) ?_
      exact W.zret (v := 1) hx hb hr rfl (fun t ht hW => ⟨⟨1, (), rfl, rfl, by have h9 := hO; rw [← ht] at h9; exact h9⟩, hS.F ht⟩) hS.2.2 dL_leans_72
  · replace h := br_n (not_not_intro c48) h
    refine lv_iload_n hx hb dL_leans_43 rfl (lv_at hl 3 rfl) ?_
    refine lv_if_ne (tgt := 58) hx hb dL_leans_44 (by decide) (fun c47 => ?_) (fun c47 => ?_)
    · replace h := br_p c47 h
      exact no_sm h
    · replace h := br_n (not_not_intro c47) h
      refine lv_aload_n hx hb dL_leans_47 rfl (lv_at hl 4 rfl) ?_
      obtain ⟨r45, hcr45, h⟩ := bn_sp h
      refine va_calli (va_runV (As := []) (rest := []) ⟨hx, hb, hml, hown, hts⟩ (M_bent l D cI cC cZ cR b0 a Y o  r45 hcr45) (cwV 0 hts gL_leans_X7_bent rfl rfl rfl (by decide +kernel) ⟨Nat.le_of_ble_eq_true rfl, Nat.le_of_ble_eq_true rfl⟩) (cPcO_pv hO hK hb0 hS hstt) rfl rfl hl.1 rfl (lv_room (Nat.le_of_ble_eq_true rfl)) dL_leans_48 ⟨Nat.le_of_ble_eq_true rfl, Nat.le_of_ble_eq_true rfl⟩) hS (fun q _ h => h) (fun q h => h) (fun xq u t H1 locs ht hvm hw hB hz1 hk1 hS => ?_)
      rw [hw]
      have hO : WO D cI cC cZ cR b0 a Y r45.2 H1 := by rw [← ht]; exact hB
      generalize H1 = H at hO hS ⊢
      refine lv_if_ne (tgt := 58) hx hb dL_leans_51 (by decide) (fun c46 => ?_) (fun c46 => ?_)
      · replace h := br_p c46 h
        exact no_sm h
      · replace h := br_n (not_not_intro c46) h
        refine lv_iconst (v := 1) hx hb dL_leans_54 (by decide) ?_
        refine lv_goto (tgt := 59) hx hb dL_leans_55 (by decide) ?_
        have e9 := Option.some.inj h
        subst e9
        rw [hQ]
        refine W.widen (k := 3836) (n := 130972) (Nat.le_of_ble_eq_true rfl) (Nat.le_of_ble_eq_true rfl) ?_
        exact W.zret (v := 1) hx hb hr rfl (fun t ht hW => ⟨⟨1, (), rfl, rfl, by have h9 := hO; rw [← ht] at h9; exact h9⟩, hS.F ht⟩) hS.2.2 dL_leans_59
-- the law: isBestFlash
abbrev OUT_L_isBestFlash : Type := Int32 × OB
def f_L_isBestFlash_L44 (a1 : Int32) (r1 : Int32) (r2 : Int32) (k : Int32 → Int32 → OB → Option OUT_L_isBestFlash) : Nat → Int32 → Int32 → OB → Option OUT_L_isBestFlash
  | 0 => fun _ _ _ => none
  | n + 1 => fun v6 v7 v8 => (if 100 ≤ v7 then k v6 v7 v8 else (if v6 = 0 then k v6 v7 v8 else bn (F_flash v8 v7 a1) (fun r9 => bn (F_flashed r9.2 ) (fun r10 => bn (f_L_ones r10) (fun r11 => bn (F_count r9.2 0) (fun r12 => (if ¬ r9.1 = (r12 + v7) then none else jn (fun (_ : Unit) => bd (v7 + 1) (fun x13 => f_L_isBestFlash_L44 a1 r1 r2 k n 1 x13 r9.2)) (fun j123 => (if r1 ≤ v7 then (if ¬ v7 = r1 then (if r2 < r11 then none else j123 ()) else (if ¬ r11 = r2 then none else j123 ())) else (if r2 ≤ r11 then none else j123 ()))))))))))
theorem f_L_isBestFlash_L44_s (a1 : Int32) (r1 : Int32) (r2 : Int32) (k : Int32 → Int32 → OB → Option OUT_L_isBestFlash) (n : Nat) (v6 : Int32) (v7 : Int32) (v8 : OB) : f_L_isBestFlash_L44 a1 r1 r2 k (n + 1) v6 v7 v8 = ((if 100 ≤ v7 then k v6 v7 v8 else (if v6 = 0 then k v6 v7 v8 else bn (F_flash v8 v7 a1) (fun r9 => bn (F_flashed r9.2 ) (fun r10 => bn (f_L_ones r10) (fun r11 => bn (F_count r9.2 0) (fun r12 => (if ¬ r9.1 = (r12 + v7) then none else jn (fun (_ : Unit) => bd (v7 + 1) (fun x13 => f_L_isBestFlash_L44 a1 r1 r2 k n 1 x13 r9.2)) (fun j123 => (if r1 ≤ v7 then (if ¬ v7 = r1 then (if r2 < r11 then none else j123 ()) else (if ¬ r11 = r2 then none else j123 ())) else (if r2 ≤ r11 then none else j123 ()))))))))))) := rfl
def f_L_isBestFlash (o : OB) (a1 : Int32) : Option OUT_L_isBestFlash :=
  bn (F_bestFlash o a1 0) (fun r1 => bn (F_bestFlash o a1 1) (fun r2 => (if r1 < 0 then none else (if 100 ≤ r1 then none else (if r2 ≤ 0 then none else (if 16 < r2 then none else f_L_isBestFlash_L44 a1 r1 r2 (fun (w22 : Int32) (w23 : Int32) (w24 : OB) => gb w22 (some (w22, w24))) 101 1 0 o))))))
abbrev R_L_isBestFlash : Room := { frames := 5, cells := 1414, slots := 48278, locals := 127 }
set_option maxHeartbeats 4000000 in
set_option maxRecDepth 100000 in
theorem m_L_isBestFlash (l : Launch) (D : va_G) (cI cC cZ cR : ClassId) (b0 : Nat) (a : Nat → Nat) (Y : va_W) (o : OB) (a1 : Int32) (r : OUT_L_isBestFlash) (hf : f_L_isBestFlash o a1 = some r) : Met l yL_isBestFlash wsL_isBestFlash R_L_isBestFlash (cPcO D cI cC cZ cR b0 a Y [.ref (a 0), .int a1] o) (cQO D cI cC cZ cR b0 a Y r.1 r.2) 1414 48278 (fun q => b0 ≤ q) := by
  refine Met.ofW (cc := cL_isBestFlash) (maxL := 8) (ret := (some .boolean)) (by decide) rfl ?_
  intro p e s m args below meth c s₁ B hml hv
  obtain ⟨rfl, hO, hK, hb0, hstt⟩ := hv
  have hx := B.exec
  have hb := B.bytes
  have hr := B.returns
  have hts := atoms_spec (ws := wsL_isBestFlash) B.pre
  have hown : s.vm.findClass RL = some m.cls := findClass_of_methodNamed B.named
  have hlocks := B.notSynchronized
  have hA : ∀ q : Nat, s.heap.size ≤ q → (fun q : Nat => b0 ≤ q) q := fun q h => Nat.le_trans hb0 h
  have hS : va_S (fun q : Nat => b0 ≤ q) s.heap s.heap [] := va_S.rf
  have hl := lv_entry ([.ref (a 0), .int a1]) (n := 8) (Nat.le_of_ble_eq_true rfl)
  rw [lg_entry_eq]
  generalize (lg_sl ([.ref (a 0), .int a1]) ++ List.replicate (8 - (lg_sl ([.ref (a 0), .int a1])).length) Slot.unset).toArray = ls at hl ⊢
  have hl : lv_has ls 8 [(0, .ref (a 0)), (1, .int a1)] := hl
  refine W_absQ (fun Q hQ => ?_)
  refine W.eq (g2 := F0 m 0 ls []) rfl ?_
  have h := hf
  unfold f_L_isBestFlash at h
  refine lv_aload_n hx hb dL_isBestFlash_0 rfl (lv_at hl 0 rfl) ?_
  refine lv_iload_n hx hb dL_isBestFlash_1 rfl (lv_at hl 1 rfl) ?_
  refine lv_iconst (v := 0) hx hb dL_isBestFlash_2 (by decide) ?_
  obtain ⟨r1, hcr1, h⟩ := bn_sp h
  refine va_calli (va_runV (As := [.int a1, .int 0]) (rest := []) ⟨hx, hb, hml, hown, hts⟩ (M_bestFlash l D cI cC cZ cR b0 a Y o a1 0 r1 hcr1) (cwV 2 hts gL_isBestFlash_X7_bestFlash rfl rfl rfl (by decide +kernel) ⟨Nat.le_of_ble_eq_true rfl, Nat.le_of_ble_eq_true rfl⟩) (cPcO_pv hO hK hb0 hS hstt) rfl rfl hl.1 rfl (lv_room (Nat.le_of_ble_eq_true rfl)) dL_isBestFlash_3 ⟨Nat.le_of_ble_eq_true rfl, Nat.le_of_ble_eq_true rfl⟩) hS (fun q _ h => h) (fun q h => h) (fun xq u t H1 locs ht hvm hw hB hz1 hk1 hS => ?_)
  rw [hw]
  have hO : WO D cI cC cZ cR b0 a Y o H1 := by rw [← ht]; exact hB
  generalize H1 = H at hO hS ⊢
  refine lv_istore_n (lv' := [(2, .int r1), (0, .ref (a 0)), (1, .int a1)]) hx hb dL_isBestFlash_6 rfl hl (by decide) rfl (fun ls hl => ?_)
  refine lv_aload_n hx hb dL_isBestFlash_7 rfl (lv_at hl 1 rfl) ?_
  refine lv_iload_n hx hb dL_isBestFlash_8 rfl (lv_at hl 2 rfl) ?_
  refine lv_iconst (v := 1) hx hb dL_isBestFlash_9 (by decide) ?_
  obtain ⟨r2, hcr2, h⟩ := bn_sp h
  refine va_calli (va_runV (As := [.int a1, .int 1]) (rest := []) ⟨hx, hb, hml, hown, hts⟩ (M_bestFlash l D cI cC cZ cR b0 a Y o a1 1 r2 hcr2) (cwV 2 hts gL_isBestFlash_X7_bestFlash rfl rfl rfl (by decide +kernel) ⟨Nat.le_of_ble_eq_true rfl, Nat.le_of_ble_eq_true rfl⟩) (cPcO_pv hO hK hb0 hS hstt) rfl rfl hl.1 rfl (lv_room (Nat.le_of_ble_eq_true rfl)) dL_isBestFlash_10 ⟨Nat.le_of_ble_eq_true rfl, Nat.le_of_ble_eq_true rfl⟩) hS (fun q _ h => h) (fun q h => h) (fun xq u t H1 locs ht hvm hw hB hz1 hk1 hS => ?_)
  rw [hw]
  have hO : WO D cI cC cZ cR b0 a Y o H1 := by rw [← ht]; exact hB
  generalize H1 = H at hO hS ⊢
  refine lv_istore_n (lv' := [(3, .int r2), (2, .int r1), (0, .ref (a 0)), (1, .int a1)]) hx hb dL_isBestFlash_13 rfl hl (by decide) rfl (fun ls hl => ?_)
  refine lv_iload_n hx hb dL_isBestFlash_14 rfl (lv_at hl 1 rfl) ?_
  refine lv_if_lt (tgt := 38) hx hb dL_isBestFlash_15 (by decide) (fun c28 => ?_) (fun c28 => ?_)
  · replace h := br_p c28 h
    exact no_sm h
  · replace h := br_n c28 h
    refine lv_iload_n hx hb dL_isBestFlash_18 rfl (lv_at hl 1 rfl) ?_
    refine lv_bipush (v := 100) hx hb dL_isBestFlash_19 (by decide) ?_
    refine lv_icmp_ge (tgt := 38) hx hb dL_isBestFlash_21 (by decide) (fun c27 => ?_) (fun c27 => ?_)
    · replace h := br_p c27 h
      exact no_sm h
    · replace h := br_n c27 h
      refine lv_iload_n hx hb dL_isBestFlash_24 rfl (lv_at hl 0 rfl) ?_
      refine lv_if_le (tgt := 38) hx hb dL_isBestFlash_25 (by decide) (fun c26 => ?_) (fun c26 => ?_)
      · replace h := br_p c26 h
        exact no_sm h
      · replace h := br_n c26 h
        refine lv_iload_n hx hb dL_isBestFlash_28 rfl (lv_at hl 0 rfl) ?_
        refine lv_bipush (v := 16) hx hb dL_isBestFlash_29 (by decide) ?_
        refine lv_icmp_gt (tgt := 38) hx hb dL_isBestFlash_31 (by decide) (fun c25 => ?_) (fun c25 => ?_)
        · replace h := br_p c25 h
          exact no_sm h
        · replace h := br_n c25 h
          refine lv_iconst (v := 1) hx hb dL_isBestFlash_34 (by decide) ?_
          refine lv_goto (tgt := 39) hx hb dL_isBestFlash_35 (by decide) ?_
          refine lv_istore (lv' := [(4, .int 1), (3, .int r2), (2, .int r1), (0, .ref (a 0)), (1, .int a1)]) hx hb dL_isBestFlash_39 hl (by decide) rfl (fun ls hl => ?_)
          refine lv_iconst (v := 0) hx hb dL_isBestFlash_41 (by decide) ?_
          refine lv_istore (lv' := [(5, .int 0), (4, .int 1), (3, .int r2), (2, .int r1), (0, .ref (a 0)), (1, .int a1)]) hx hb dL_isBestFlash_42 hl (by decide) rfl (fun ls hl => ?_)
          have L44 : ∀ (k : Int32 → Int32 → OB → Option OUT_L_isBestFlash), (∀ (w22 : Int32) (w23 : Int32) (w24 : OB) (H : Heap) (locs : List Loc) (ls : Array Slot), k w22 w23 w24 = some r → WO D cI cC cZ cR b0 a Y w24 H → va_S (fun q => b0 ≤ q) s.heap H locs → lv_has ls 8 [(0, .ref (a 0)), (1, .int a1), (2, .int r1), (3, .int r2), (4, .int w22), (5, .int w23)] → W p l e R_L_isBestFlash s m ([.ref (a 0), .int a1] : List Value).toArray below meth c H locs 1414 48278 Q (F0 m 136 ls [])) → ∀ (n : Nat) (v6 : Int32) (v7 : Int32) (v8 : OB) (H : Heap) (locs : List Loc) (ls : Array Slot) (cc ss : Nat), cc + n * 14 ≤ 1414 → ss + n * 478 ≤ 48278 → f_L_isBestFlash_L44 a1 r1 r2 k n v6 v7 v8 = some r → WO D cI cC cZ cR b0 a Y v8 H → va_S (fun q => b0 ≤ q) s.heap H locs → lv_has ls 8 [(0, .ref (a 0)), (1, .int a1), (2, .int r1), (3, .int r2), (4, .int v6), (5, .int v7)] → W p l e R_L_isBestFlash s m ([.ref (a 0), .int a1] : List Value).toArray below meth c H locs cc ss Q (F0 m 44 ls []) := by
            intro k K n
            induction n with
            | zero => intro v6 v7 v8 H locs ls cc ss hcc hss h; exact no_sm h
            | succ n ih =>
              intro v6 v7 v8 H locs ls cc ss hcc hss h hO hS hl
              rw [f_L_isBestFlash_L44_s] at h
              refine lv_iload hx hb dL_isBestFlash_44 (lv_at hl 5 rfl) ?_
              refine lv_bipush (v := 100) hx hb dL_isBestFlash_46 (by decide) ?_
              refine lv_icmp_ge (tgt := 136) hx hb dL_isBestFlash_48 (by decide) (fun c21 => ?_) (fun c21 => ?_)
              · replace h := br_p c21 h
                refine W.widen (k := 1414) (n := 48278) (by omega) (by omega) ?_
                exact K _ _ _ _ _ _ h hO hS (lv_sub hl [0, 1, 2, 3, 4, 5] rfl)
              · replace h := br_n c21 h
                refine lv_iload hx hb dL_isBestFlash_51 (lv_at hl 4 rfl) ?_
                refine lv_if_eq (tgt := 136) hx hb dL_isBestFlash_53 (by decide) (fun c20 => ?_) (fun c20 => ?_)
                · replace h := br_p c20 h
                  refine W.widen (k := 1414) (n := 48278) (by omega) (by omega) ?_
                  exact K _ _ _ _ _ _ h hO hS (lv_sub hl [0, 1, 2, 3, 4, 5] rfl)
                · replace h := br_n c20 h
                  refine lv_aload_n hx hb dL_isBestFlash_56 rfl (lv_at hl 0 rfl) ?_
                  refine lv_iload hx hb dL_isBestFlash_57 (lv_at hl 5 rfl) ?_
                  refine lv_iload_n hx hb dL_isBestFlash_59 rfl (lv_at hl 1 rfl) ?_
                  obtain ⟨r9, hcr9, h⟩ := bn_sp h
                  refine va_calli (va_runV (As := [.int v7, .int a1]) (rest := []) ⟨hx, hb, hml, hown, hts⟩ (M_flash l D cI cC cZ cR b0 a Y v8 v7 a1 r9 hcr9) (cwV 2 hts gL_isBestFlash_X7_flash rfl rfl rfl (by decide +kernel) ⟨Nat.le_of_ble_eq_true rfl, Nat.le_of_ble_eq_true rfl⟩) (cPcO_pv hO hK hb0 hS hstt) rfl rfl hl.1 rfl (lv_room (Nat.le_of_ble_eq_true rfl)) dL_isBestFlash_60 ⟨by show _ ≤ 1414; omega, by show _ ≤ 48278; omega⟩) hS (fun q _ h => h) (fun q h => h) (fun xq u t H1 locs ht hvm hw hB hz1 hk1 hS => ?_)
                  rw [hw]
                  have hO : WO D cI cC cZ cR b0 a Y r9.2 H1 := by rw [← ht]; exact hB
                  generalize H1 = H at hO hS ⊢
                  refine lv_istore (lv' := [(6, .int r9.1), (0, .ref (a 0)), (1, .int a1), (2, .int r1), (3, .int r2), (4, .int v6), (5, .int v7)]) hx hb dL_isBestFlash_63 hl (by decide) rfl (fun ls hl => ?_)
                  refine lv_aload_n hx hb dL_isBestFlash_65 rfl (lv_at hl 1 rfl) ?_
                  obtain ⟨r10, hcr10, h⟩ := bn_sp h
                  refine va_calli (va_runV (As := []) (rest := []) ⟨hx, hb, hml, hown, hts⟩ (M_flashed l D cI cC cZ cR b0 a Y r9.2  r10 hcr10) (cwV 0 hts gL_isBestFlash_X7_flashed rfl rfl rfl (by decide +kernel) ⟨Nat.le_of_ble_eq_true rfl, Nat.le_of_ble_eq_true rfl⟩) (cPcO_pv hO hK hb0 hS hstt) rfl rfl hl.1 rfl (lv_room (Nat.le_of_ble_eq_true rfl)) dL_isBestFlash_66 ⟨by show _ ≤ 1414; omega, by show _ ≤ 48278; omega⟩) hS (fun q _ h => h) (fun q h => h) (fun xq u t H1 locs ht hvm hw hB hz1 hk1 hS => ?_)
                  rw [hw]
                  have hO : WO D cI cC cZ cR b0 a Y r9.2 H1 := by rw [← ht]; exact hB
                  generalize H1 = H at hO hS ⊢
                  obtain ⟨r11, hcr11, h⟩ := bn_sp h
                  have hZ := va_nilD (b0 := b0) hb0 hS
                  refine va_calli (va_runS (As := [.int r10]) (rest := []) ⟨hx, hb, hml, hown, hts⟩ (m_L_ones l D cI cC cZ cR _ r10 r11 hcr11) (va_cwS 1 hts gL_isBestFlash_L_ones rfl rfl rfl (by decide +kernel) ⟨Nat.le_of_ble_eq_true rfl, Nat.le_of_ble_eq_true rfl⟩) (cPc_ps (ws := []) (A := fun _ => True) va_nilP hK va_nilDD) rfl rfl hl.1 rfl (lv_room (Nat.le_of_ble_eq_true rfl)) dL_isBestFlash_69 ⟨by show _ ≤ 1414; omega, by show _ ≤ 48278; omega⟩) hS (fun q _ h => hZ q h) hZ (fun xq u t H1 locs ht hvm hw hB hz1 hk1 hS => ?_)
                  rw [hw]
                  have hO : WO D cI cC cZ cR b0 a Y r9.2 H1 := WO_st hk1 hO
                  generalize H1 = H at hO hS ⊢
                  refine lv_istore (lv' := [(7, .int r11), (6, .int r9.1), (0, .ref (a 0)), (1, .int a1), (2, .int r1), (3, .int r2), (4, .int v6), (5, .int v7)]) hx hb dL_isBestFlash_72 hl (by decide) rfl (fun ls hl => ?_)
                  refine lv_iload hx hb dL_isBestFlash_74 (lv_at hl 1 rfl) ?_
                  refine lv_aload_n hx hb dL_isBestFlash_76 rfl (lv_at hl 2 rfl) ?_
                  refine lv_iconst (v := 0) hx hb dL_isBestFlash_77 (by decide) ?_
                  obtain ⟨r12, hcr12, h⟩ := bn_sp h
                  refine va_calli (va_runV (As := [.int 0]) (rest := [.int r9.1]) ⟨hx, hb, hml, hown, hts⟩ (M_count l D cI cC cZ cR b0 a Y r9.2 0 r12 hcr12) (cwV 1 hts gL_isBestFlash_X7_count rfl rfl rfl (by decide +kernel) ⟨Nat.le_of_ble_eq_true rfl, Nat.le_of_ble_eq_true rfl⟩) (cPcO_pv hO hK hb0 hS hstt) rfl rfl hl.1 rfl (lv_room (Nat.le_of_ble_eq_true rfl)) dL_isBestFlash_78 ⟨by show _ ≤ 1414; omega, by show _ ≤ 48278; omega⟩) hS (fun q _ h => h) (fun q h => h) (fun xq u t H1 locs ht hvm hw hB hz1 hk1 hS => ?_)
                  rw [hw]
                  have hO : WO D cI cC cZ cR b0 a Y r9.2 H1 := by rw [← ht]; exact hB
                  generalize H1 = H at hO hS ⊢
                  refine lv_iload hx hb dL_isBestFlash_81 (lv_at hl 7 rfl) ?_
                  refine lv_iadd hx hb dL_isBestFlash_83 ?_
                  refine lv_icmp_ne (tgt := 127) hx hb dL_isBestFlash_84 (by decide) (fun c19 => ?_) (fun c19 => ?_)
                  · replace h := br_p c19 h
                    exact no_sm h
                  · replace h := br_n (not_not_intro c19) h
                    refine lv_iload hx hb dL_isBestFlash_87 (lv_at hl 7 rfl) ?_
                    refine lv_iload_n hx hb dL_isBestFlash_89 rfl (lv_at hl 4 rfl) ?_
                    obtain ⟨j123, hj123, h⟩ := jn_sp h
                    have J123 : ∀ (_u : Unit) (H : Heap) (locs : List Loc) (ls : Array Slot), j123 _u = some r → WO D cI cC cZ cR b0 a Y r9.2 H → va_S (fun q => b0 ≤ q) s.heap H locs → lv_has ls 8 [(0, .ref (a 0)), (1, .int a1), (2, .int r1), (3, .int r2), (4, .int v6), (5, .int v7), (6, .int r9.1), (7, .int r11)] → W p l e R_L_isBestFlash s m ([.ref (a 0), .int a1] : List Value).toArray below meth c H locs (cc + 14) (ss + 478) Q (F0 m 123 ls []) := by
                      intro _u H locs ls h hO hS hl
                      rw [hj123] at h
                      refine lv_iconst (v := 1) hx hb dL_isBestFlash_123 (by decide) ?_
                      refine lv_goto (tgt := 128) hx hb dL_isBestFlash_124 (by decide) ?_
                      refine lv_istore (lv' := [(4, .int 1), (0, .ref (a 0)), (1, .int a1), (2, .int r1), (3, .int r2), (5, .int v7), (6, .int r9.1), (7, .int r11)]) hx hb dL_isBestFlash_128 hl (by decide) rfl (fun ls hl => ?_)
                      obtain ⟨x13, ex13, h⟩ := bd_sp h
                      refine lv_iinc (v := x13) (lv' := [(5, .int x13), (4, .int 1), (0, .ref (a 0)), (1, .int a1), (2, .int r1), (3, .int r2), (6, .int r9.1), (7, .int r11)]) hx hb dL_isBestFlash_130 hl (k := 5) rfl (by rw [ex13]; rfl) (by decide) rfl (fun ls hl => ?_)
                      refine lv_goto (tgt := 44) hx hb dL_isBestFlash_133 (by decide) ?_
                      exact ih _ _ _ _ _ _ _ _ (by omega) (by omega) h hO hS (lv_sub hl [2, 3, 4, 5, 1, 0] rfl)
                    refine lv_icmp_ge (tgt := 102) hx hb dL_isBestFlash_90 (by decide) (fun c18 => ?_) (fun c18 => ?_)
                    · replace h := br_p c18 h
                      refine lv_iload hx hb dL_isBestFlash_102 (lv_at hl 7 rfl) ?_
                      refine lv_iload_n hx hb dL_isBestFlash_104 rfl (lv_at hl 4 rfl) ?_
                      refine lv_icmp_ne (tgt := 117) hx hb dL_isBestFlash_105 (by decide) (fun c16 => ?_) (fun c16 => ?_)
                      · replace h := br_p c16 h
                        refine lv_iload hx hb dL_isBestFlash_117 (lv_at hl 0 rfl) ?_
                        refine lv_iload_n hx hb dL_isBestFlash_119 rfl (lv_at hl 5 rfl) ?_
                        refine lv_icmp_gt (tgt := 127) hx hb dL_isBestFlash_120 (by decide) (fun c14 => ?_) (fun c14 => ?_)
                        · replace h := br_p c14 h
                          exact no_sm h
                        · replace h := br_n c14 h
                          exact J123 _ _ _ _ h hO hS (lv_sub hl [2, 3, 4, 5, 6, 7, 1, 0] rfl)
                      · replace h := br_n (not_not_intro c16) h
                        refine lv_iload hx hb dL_isBestFlash_108 (lv_at hl 0 rfl) ?_
                        refine lv_iload_n hx hb dL_isBestFlash_110 rfl (lv_at hl 5 rfl) ?_
                        refine lv_icmp_ne (tgt := 127) hx hb dL_isBestFlash_111 (by decide) (fun c15 => ?_) (fun c15 => ?_)
                        · replace h := br_p c15 h
                          exact no_sm h
                        · replace h := br_n (not_not_intro c15) h
                          refine lv_goto (tgt := 123) hx hb dL_isBestFlash_114 (by decide) ?_
                          exact J123 _ _ _ _ h hO hS (lv_sub hl [2, 3, 4, 5, 6, 7, 1, 0] rfl)
                    · replace h := br_n c18 h
                      refine lv_iload hx hb dL_isBestFlash_93 (lv_at hl 0 rfl) ?_
                      refine lv_iload_n hx hb dL_isBestFlash_95 rfl (lv_at hl 5 rfl) ?_
                      refine lv_icmp_ge (tgt := 127) hx hb dL_isBestFlash_96 (by decide) (fun c17 => ?_) (fun c17 => ?_)
                      · replace h := br_p c17 h
                        exact no_sm h
                      · replace h := br_n c17 h
                        refine lv_goto (tgt := 123) hx hb dL_isBestFlash_99 (by decide) ?_
                        exact J123 _ _ _ _ h hO hS (lv_sub hl [2, 3, 4, 5, 6, 7, 1, 0] rfl)
          refine L44 _ (fun w22 w23 w24 H locs ls h hO hS hl => ?_) 101 1 0 o _ _ _ _ _ (Nat.le_of_ble_eq_true rfl) (Nat.le_of_ble_eq_true rfl) h hO hS (lv_sub hl [4, 5, 3, 2, 1, 0] rfl)
          refine lv_iload hx hb dL_isBestFlash_136 (lv_at hl 4 rfl) ?_
          obtain ⟨hnr, h⟩ := gb_sp h
          have e9 := Option.some.inj h
          subst e9
          rw [hQ]
          exact W.zret (v := w22) hx hb hr (nar_b hnr) (fun t ht hW => ⟨⟨w22, (), rfl, rfl, by have h9 := hO; rw [← ht] at h9; exact h9⟩, hS.F ht⟩) hS.2.2 dL_isBestFlash_138
