def clF (C0 C1 j : Nat) : Nat := if j % 2 = 0 then C0 else C1
def duF (o : OB) (n T z0 z1 C0 C1 j : Nat) : Int32 := if j * z0 + z1 ≤ 100 then su z1 (fun t => SEE o n j (clF C0 C1 j) (T + (j * z0 + t))) else -1
theorem cl_eq {C0 C1 i : Nat} (hi : i < 16) : (if ¬ (nI i - nI i / 2 * 2) = 0 then nI C1 else nI C0) = nI (clF C0 C1 i) := by
  rw [show (2 : Int32) = nI 2 from rfl, pk_rem (by omega) (by decide) (by decide)]
  unfold clF
  by_cases q : i % 2 = 0
  · rw [q, if_neg (not_not_intro (show nI 0 = 0 from rfl)), if_pos rfl]
  · rw [if_pos (nI_ne0 (by omega) (by omega)), if_neg q]
theorem cl_lt {C0 C1 i : Nat} (h0 : C0 < 24) (h1 : C1 < 24) : clF C0 C1 i < 24 := by
  unfold clF; split <;> omega
theorem see_nn {n T z0 z1 z2 z3 : Nat} {o : OB} (h : SO n T z0 z1 z2 z3 o) {l c t : Nat} : ∃ z : Nat, z ≤ 90 ∧ SEE o n l c t = nI z := by
  obtain ⟨⟨n8, hn⟩, -, -, -, -, -, -, hT, hV, -, -⟩ := h
  exact seI_nn (fun i hi => (hV i hi).2.2.2) n8
theorem su_see {n T z0 z1 z2 z3 : Nat} {o : OB} (h : SO n T z0 z1 z2 z3 o) {l c m : Nat} {f : Nat → Nat} : ∃ z : Nat, z ≤ m * 90 ∧ su m (fun t => SEE o n l c (f t)) = nI z := su_bd (fun i hi => see_nn h)
theorem shot_in {n T z0 z1 z2 z3 : Nat} {o : OB} (h : SO n T z0 z1 z2 z3 o) {C0 C1 i : Nat} (hC0 : C0 < 24) (hC1 : C1 < 24) (hi : i < 16) (cam : CAMV) (D : Nat → Int32) (hD : D i = if i * z0 + z1 ≤ 100 then 0 else -1) (K : Int32 → OB → (Nat → Int32) → Option OUT_L_isShot) : ∃ (cam' : CAMV) (D' : Nat → Int32) (t' : Int32), D' i = duF o n T z0 z1 C0 C1 i ∧ (∀ j, ¬ j = i → D' j = D j) ∧ f_L_isShot_L73 (nI C0) (nI C1) (nI z0) (nI z1) (nI i) K 4000 0 (oc o cam) D = K t' (oc o cam') D' := by
  obtain ⟨-, -, ⟨a0, b0⟩, ⟨a1, a1', b1⟩, -⟩ := id h
  have g16 : vp_in (nI i) 16 := vp_in_nI hi (by decide)
  have hc : (nI i).toNatClampNeg = i := nI_clamp (by omega)
  have hiz : i * z0 ≤ 15 * 9 := Nat.mul_le_mul (by omega) a0
  by_cases q : i * z0 + z1 ≤ 100
  · obtain ⟨w, e, h1, h2⟩ := loopI (fun N (v : CAMV × (Nat → Int32)) t => f_L_isShot_L73 (nI C0) (nI C1) (nI z0) (nI z1) (nI i) K N (nI t) (oc o v.1) v.2) z1 (fun v => K (nI z1) (oc o v.1) v.2) (fun t v => v.2 i = su t (fun t => SEE o n i (clF C0 C1 i) (T + (i * z0 + t))) ∧ ∀ j, ¬ j = i → v.2 j = D j) (fun N v hv => by
      rw [f_L_isShot_L73_s, if_pos (Int32.le_refl _)]) (fun N v t ht hv => by
      obtain ⟨z, q1, q2⟩ := su_see h (l := i) (c := clF C0 C1 i) (m := t) (f := fun t => T + (i * z0 + t))
      have q3 : ¬ v.2 i < 0 := by rw [hv.1, q2]; exact nI_pos (by omega)
      obtain ⟨cam', es⟩ := seen_v (o := oc o v.1) h hi (cl_lt (i := i) hC0 hC1) (t := i * z0 + t) (by omega)
      refine ⟨(cam', upd v.2 i (v.2 i + SEE o n i (clF C0 C1 i) (T + (i * z0 + t)))), ?_, ?_, fun j hj => ?_⟩
      · rw [f_L_isShot_L73_s, if_neg (nI_ge ht (by omega)), gd_ok g16, hc, if_neg q3, gd_ok g16, jn_ite, cl_eq hi, pk_mul, nI_add, es, bn_some, gd_ok g16, bd_eq, bd_eq, nI_1]
      · show upd v.2 i _ i = _
        rw [upd_at, hv.1, su_s]
      · show upd v.2 i _ j = _
        rw [upd_ne _ hj]; exact hv.2 j hj) z1 0 4000 (cam, D) (by omega) (by omega) ⟨by show D i = _; rw [hD, if_pos q]; rfl, fun j _ => rfl⟩
    refine ⟨w.1, w.2, nI z1, ?_, h2, e⟩
    rw [h1, duF, if_pos q]
  · refine ⟨cam, D, 0, ?_, fun j _ => rfl, ?_⟩
    · rw [hD, if_neg q, duF, if_neg q]
    · rw [if_neg q] at hD
      rw [show (4000 : Nat) = 3999 + 1 from rfl, f_L_isShot_L73_s, if_neg (nI_nle0 a1 (by omega)), gd_ok g16, hc, if_pos (by rw [hD]; decide)]
theorem shot_1 {n T z0 z1 z2 z3 : Nat} {o : OB} (h : SO n T z0 z1 z2 z3 o) (hh : HO o) {C0 C1 : Nat} (hC0 : C0 < 24) (hC1 : C1 < 24) (K : Int32 → OB → (Nat → Int32) → Option OUT_L_isShot) : ∃ (o1 : OB) (D : Nat → Int32), SO n T z0 z1 z2 z3 o1 ∧ HO o1 ∧ (∀ j, j < 16 → D j = duF o1 n T z0 z1 C0 C1 j) ∧ f_L_isShot_L41 (nI C0) (nI C1) (nI z0) (nI z1) K 4000 0 o (fun _ => 0) = K (nI 16) o1 D := by
  obtain ⟨w, e, hw⟩ := loopI (fun N (v : CAMV × (Nat → Int32)) i => f_L_isShot_L41 (nI C0) (nI C1) (nI z0) (nI z1) K N (nI i) (oc o v.1) v.2) 16 (fun v => K (nI 16) (oc o v.1) v.2) (fun i v => ∀ j, j < i → v.2 j = duF o n T z0 z1 C0 C1 j) (fun N v hv => by
    rw [f_L_isShot_L41_s, if_pos (by decide)]) (fun N v i hi hv => by
    have g16 : vp_in (nI i) 16 := vp_in_nI hi (by decide)
    have hc : (nI i).toNatClampNeg = i := nI_clamp (by omega)
    obtain ⟨-, -, ⟨a0, b0⟩, ⟨a1, a1', b1⟩, -⟩ := id h
    have hiz : i * z0 ≤ 15 * 9 := Nat.mul_le_mul (by omega) a0
    have e0 : (if nI (i * z0 + z1) ≤ 100 then (0 : Int32) else -1) = if i * z0 + z1 ≤ 100 then 0 else -1 := by
      by_cases q : i * z0 + z1 ≤ 100
      · rw [if_pos q, if_pos (show nI (i * z0 + z1) ≤ 100 from nI_le (b := 100) q (by decide))]
      · rw [if_neg q, if_neg (show ¬ nI (i * z0 + z1) ≤ 100 from nI_ge (a := 100) (by omega) (by omega))]
    obtain ⟨cam', D', t', k1, k2, k3⟩ := shot_in h hC0 hC1 hi v.1 (upd v.2 i (if i * z0 + z1 ≤ 100 then 0 else -1)) (upd_at _ _ _) (fun (w27 : Int32) (w28 : OB) (w29 : Nat → Int32) => bd (nI i + 1) (fun x30 => f_L_isShot_L41 (nI C0) (nI C1) (nI z0) (nI z1) K N x30 w28 w29))
    refine ⟨(cam', D'), ?_, fun j hj => ?_⟩
    · rw [f_L_isShot_L41_s, if_neg (show ¬ (16 : Int32) ≤ nI i from nI_ge hi (by decide)), jn_ite, pk_mul, nI_add, e0, gd_ok g16, hc, bd_eq, k3, bd_eq, nI_1]
    · show D' j = _
      by_cases q : j = i
      · rw [q]; exact k1
      · rw [k2 j q, upd_ne _ q]; exact hv j (by omega)) 16 0 4000 (o.2.1, fun _ => 0) rfl (by decide) (fun j hj => absurd hj (by omega))
  exact ⟨oc o w.1, w.2, h, hh, hw, e⟩
theorem px_ok {n T z0 z1 z2 z3 : Nat} {o : OB} (h : SO n T z0 z1 z2 z3 o) {px' : Nat → Int32} (hp : ∀ k, k < 384 → px' k = pic o.1.1 o.1.2.2.1 o.1.2.2.2.1 o.1.2.2.2.2.1 o.1.2.2.2.2.2.1 (LO o) o.1.2.2.2.2.2.2.2.2.2.2.2.2.2.2.1 o.1.2.2.2.2.2.2.2.2.2.2.2.2.2.2.2 n T z0 z1 k) : PxB px' := by
  intro k hk
  obtain ⟨⟨n8, hn⟩, -, -, ⟨a1, a1', b1⟩, -, -, -, hT, hV, -, -⟩ := id h
  obtain ⟨z, q1, q2⟩ := su_bd (n := z1) (B := 90) (g := fun j => SEE o n (k / 24) (k % 24) (T + k / 24 * z0 + j)) (fun i hi => see_nn h)
  exact ⟨z, by have := Nat.mul_le_mul_right 90 a1'; omega, by rw [hp k hk]; exact q2⟩
theorem shot_2 {n T z0 z1 z2 z3 : Nat} {o : OB} (h : SO n T z0 z1 z2 z3 o) {o2 : OB} {px' : Nat → Int32} {D : Nat → Int32} {C0 C1 : Nat} (hC0 : C0 < 24) (hC1 : C1 < 24) (hpx : o2.1.2.2.2.2.2.2.2.2.2.2.2.1 = px') (hp : ∀ k, k < 384 → px' k = pic o.1.1 o.1.2.2.1 o.1.2.2.2.1 o.1.2.2.2.2.1 o.1.2.2.2.2.2.1 (LO o) o.1.2.2.2.2.2.2.2.2.2.2.2.2.2.2.1 o.1.2.2.2.2.2.2.2.2.2.2.2.2.2.2.2 n T z0 z1 k) (hD : ∀ j, j < 16 → D j = duF o n T z0 z1 C0 C1 j) (s : Int32) (K : Int32 → Int32 → Option OUT_L_isShot) : f_L_isShot_L199 (nI C0) (nI C1) D (s, o2) K 4000 0 0 = K (su 384 px') (nI 16) := by
  obtain ⟨w, e, hw⟩ := loopI (fun N v i => f_L_isShot_L199 (nI C0) (nI C1) D (s, o2) K N v (nI i)) 16 (fun v => K v (nI 16)) (fun i v => v = su i (fun l => su 24 (fun c => px' (24 * l + c)))) (fun N v hv => by
    rw [f_L_isShot_L199_s, if_pos (by decide)]) (fun N v i hi hv => by
    have g16 : vp_in (nI i) 16 := vp_in_nI hi (by decide)
    have hc : (nI i).toNatClampNeg = i := nI_clamp (by omega)
    obtain ⟨-, l1, -⟩ := line_v o2 hi
    rw [hpx] at l1
    have hcl := cl_lt (i := i) hC0 hC1
    have pv := pix_v o2 hi hcl
    rw [hpx, hp _ (by omega)] at pv
    refine ⟨_, ?_, rfl⟩
    rw [f_L_isShot_L199_s, if_neg (show ¬ (16 : Int32) ≤ nI i from nI_ge hi (by decide)), l1, bn_some, bd_eq, gd_ok g16, hc, hv, su_s i]
    by_cases q : D i < 0
    · rw [if_pos q, bd_eq, nI_1]
    · have hd := hD i hi
      unfold duF at hd
      by_cases y : i * z0 + z1 ≤ 100
      · rw [if_pos y] at hd
        have ed : pic o.1.1 o.1.2.2.1 o.1.2.2.2.1 o.1.2.2.2.2.1 o.1.2.2.2.2.2.1 (LO o) o.1.2.2.2.2.2.2.2.2.2.2.2.2.2.2.1 o.1.2.2.2.2.2.2.2.2.2.2.2.2.2.2.2 n T z0 z1 (24 * i + clF C0 C1 i) = D i := by
          rw [hd]
          show su z1 (fun j => SEE o n ((24 * i + clF C0 C1 i) / 24) ((24 * i + clF C0 C1 i) % 24) (T + (24 * i + clF C0 C1 i) / 24 * z0 + j)) = _
          rw [show (24 * i + clF C0 C1 i) / 24 = i by omega, show (24 * i + clF C0 C1 i) % 24 = clF C0 C1 i by omega]
          exact su_cg (fun j hj => by rw [Nat.add_assoc])
        rw [if_neg q, jn_ite, cl_eq hi, pv, bn_some, gd_ok g16, if_pos ed, bd_eq, nI_1]
      · rw [if_neg y] at hd
        exact absurd (show D i < 0 by rw [hd]; decide) q) 16 0 4000 0 rfl (by decide) rfl
  rw [show nI 0 = 0 from rfl] at e
  rw [e, hw, ← su_mul 16 24 px']
theorem isShot_v {n T z0 z1 z2 z3 : Nat} {o : OB} (h : SO n T z0 z1 z2 z3 o) (hh : HO o) (a : Int32) : ∃ o' T', f_L_isShot o a = some (1, o') ∧ SO n T' z0 z1 z2 z3 o' ∧ HO o' := by
  obtain ⟨C0, hC0, c0⟩ := low_v a (m := 24) (M := 24) rfl (by decide) (by decide)
  obtain ⟨C1, hC1, c1⟩ := low_v (a >>> (5 &&& 31)) (m := 24) (M := 24) rfl (by decide) (by decide)
  obtain ⟨-, -, ⟨a0, b0⟩, ⟨a1, a1', b1⟩, -⟩ := id h
  unfold f_L_isShot
  rw [c0, bn_some, c1, bn_some, cnt_8, bn_some, cnt_9, bn_some, b0, b1]
  obtain ⟨o1, D, h1, hh1, hD, e⟩ := shot_1 h hh hC0 hC1 _
  rw [e]
  obtain ⟨-, ⟨T9, ht⟩, -⟩ := id h1
  rw [cnt_0, bn_some, cnt_2, bn_some, ht, show (15 : Int32) = nI 15 from rfl, pk_mul, nI_add, nI_add, Nat.add_assoc]
  have h15 : 15 * z0 ≤ 15 * 9 := Nat.mul_le_mul (Nat.le_refl _) a0
  by_cases q : T + (15 * z0 + z1) ≤ 9999
  · obtain ⟨hv, cam, px', s1, s2, X, hX, s3⟩ := shoot_v h1 hh1 q
    have hP' := px_ok h1 s2
    obtain ⟨z, y1, y2⟩ : ∃ z, z ≤ 384 * 1800 ∧ su 384 px' = nI z := su_bd (fun i hi => hP' i hi)
    have y3 : ¬ su 384 px' = -5 := fun y => absurd (show (-5 : Int32) < 0 by decide) (by rw [← y, y2]; exact nI_pos (by omega))
    have h2 := SI.retime h1 (T' := T + (15 * z0 + z1)) (by omega) q hP'
    obtain ⟨o2, ho2⟩ : ∃ o2 : OB, o2 = ((o1.1.1, o1.1.2.1, o1.1.2.2.1, o1.1.2.2.2.1, o1.1.2.2.2.2.1, o1.1.2.2.2.2.2.1, o1.1.2.2.2.2.2.2.1, o1.1.2.2.2.2.2.2.2.1, o1.1.2.2.2.2.2.2.2.2.1, o1.1.2.2.2.2.2.2.2.2.2.1, o1.1.2.2.2.2.2.2.2.2.2.2.1, px', nI (T + (15 * z0 + z1)), o1.1.2.2.2.2.2.2.2.2.2.2.2.2.2.1 + 1, o1.1.2.2.2.2.2.2.2.2.2.2.2.2.2.2.1, o1.1.2.2.2.2.2.2.2.2.2.2.2.2.2.2.2), cam, o1.2.2.1, hv, o1.2.2.2.2) := ⟨_, rfl⟩
    have e1 : o2.1.2.2.2.2.2.2.2.2.2.2.2.1 = px' := by rw [ho2]
    have e2 : o2.1.2.2.2.2.2.2.2.2.2.2.2.2.1 = nI (T + (15 * z0 + z1)) := by rw [ho2]
    have e3 : o2.1.2.2.2.2.2.2.2.2.2.2.2.2.2.1 = o1.1.2.2.2.2.2.2.2.2.2.2.2.2.2.1 + 1 := by rw [ho2]
    have h2' : SO n (T + (15 * z0 + z1)) z0 z1 z2 z3 o2 := by rw [ho2]; exact h2
    have hh2 : HO o2 := by rw [ho2]; exact ⟨X, hX, s3⟩
    rw [s1, ← ho2, bn_some, if_pos y3]
    rw [shot_2 h1 hC0 hC1 e1 s2 hD, if_neg (not_not_intro rfl), cnt_0, bn_some, e2, if_neg (not_not_intro rfl), cnt_2, bn_some, e3, if_neg (not_not_intro rfl), isPicture_v h2', bn_some, if_neg n10]
    exact ⟨o2, T + (15 * z0 + z1), rfl, h2', hh2⟩
  · rw [shoot_5 h1 (by omega), bn_some, if_neg (not_not_intro rfl), if_neg (show ¬ nI (T + (15 * z0 + z1)) ≤ 9999 from nI_ge (a := 9999) (by omega) (by omega)), cnt_2, bn_some, if_neg (not_not_intro rfl)]
    exact ⟨o1, T, rfl, h1, hh1⟩
