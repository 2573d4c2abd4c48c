theorem end_x (o : OB) : f_L_law_end o = some () := by
  have s1 : F_seen o 0 0 100 = some (-2, o) := by
    unfold F_seen f_X7_seen
    rw [show f_X7_isPlace 0 0 = some 1 from rfl, bn_some, if_pos n10, show f_X7_within 100 0 99 = some 0 from rfl, bn_some, if_neg nn0, bn_some]
  have s2 : F_seen o 0 24 0 = some (-1, o) := by
    unfold F_seen f_X7_seen
    rw [show f_X7_isPlace 0 24 = some 0 from rfl, bn_some, if_neg nn0, bn_some]
  have s3 : F_bestFlash o 21 0 = some (-2) := by
    unfold F_bestFlash f_X7_bestFlash
    rw [show f_X7_within 21 1 20 = some 0 from rfl, bn_some, if_pos e00]
  unfold f_L_law_end
  rw [thing_x, bn_some, if_neg (not_not_intro rfl), flash_x, bn_some, if_neg (not_not_intro rfl), pass_x, bn_some, if_neg (not_not_intro rfl), (set_x o).1, bn_some, if_neg (not_not_intro rfl), (set_x o).2, bn_some, if_neg (not_not_intro rfl), s1, bn_some, if_neg (not_not_intro rfl), s2, bn_some, if_neg (not_not_intro rfl), s3, bn_some, if_neg (not_not_intro rfl), cnt_14, bn_some, if_neg (not_not_intro rfl)]
theorem cell_v {L : Nat} (hL : L ≤ 260) (xs : Nat → Int32) {m : Nat} (hm : m < 2 ^ 31) {M : Int32} (hM : M = nI m) : ∃ r, f_L_cell L xs M = some r := by
  unfold f_L_cell
  by_cases q : Int32.ofNat L ≤ M
  · rw [if_pos q]; exact ⟨_, rfl⟩
  · have hl : m < L := Nat.lt_of_not_le (fun z => q (by rw [hM]; exact nI_le (a := L) z hm))
    rw [if_neg q, hM, gd_ok (vp_in_nI hl (by omega))]
    exact ⟨_, rfl⟩
theorem tail_v {L : Nat} {xs : Nat → Int32} {n i : Nat} {o : OB} (hI : INV o) (w : Int32) (ih : ∀ (v : Int32) (o : OB), v = nI (i + 1) → INV o → f_L_law_L66 L xs f_L_law_end n v o = some ()) : (if ¬ (nI i - nI i / 20 * 20) = 11 then bd (nI i + 1) (fun x508 => f_L_law_L66 L xs f_L_law_end n x508 o) else bn (f_L_low (w >>> (5 &&& 31)) 20) (fun r509 => bn (f_L_isBestFlash o (1 + r509)) (fun r510 => (if ¬ r510.1 = 0 then bd (nI i + 1) (fun x511 => f_L_law_L66 L xs f_L_law_end n x511 r510.2) else none)))) = some () := by
  by_cases q : nI i - nI i / 20 * 20 = 11
  · obtain ⟨d, hd, e1⟩ := low_v (w >>> (5 &&& 31)) (m := 20) (M := 20) rfl (by decide) (by decide)
    obtain ⟨n', T, z0, z1, z2, z3, h, hh⟩ := hI
    obtain ⟨o', e2, h2, hh2⟩ := isBest_v h hh (d := 1 + d) (by omega) (by omega)
    rw [if_neg (not_not_intro q), e1, bn_some, show (1 : Int32) + nI d = nI (1 + d) from nI_add 1 d, e2, bn_some, if_pos n10, bd_eq]
    exact ih _ _ (nI_1 i) ⟨_, _, _, _, _, _, h2, hh2⟩
  · rw [if_pos q, bd_eq]
    exact ih _ _ (nI_1 i) hI
theorem law_run {L : Nat} (hL : L ≤ 260) (xs : Nat → Int32) : ∀ (n i : Nat) (v : Int32) (o : OB), v = nI i → i + n = 46 → 1 ≤ n → INV o → f_L_law_L66 L xs f_L_law_end n v o = some () := by
  intro n
  induction n with
  | zero => intro i v o _ _ h; exact absurd h (by decide)
  | succ n ih0 =>
    intro i v o hv hin _ hI
    subst hv
    rw [f_L_law_L66_s]
    by_cases q : i = 45
    · rw [if_pos (show (45 : Int32) ≤ nI i by rw [q]; exact Int32.le_refl _)]
      exact end_x o
    · have ih : ∀ (v : Int32) (o : OB), v = nI (i + 1) → INV o → f_L_law_L66 L xs f_L_law_end n v o = some () := fun v o hv hI => ih0 (i + 1) v o hv (by omega) (by omega) hI
      obtain ⟨c1, e1⟩ := cell_v hL xs (m := 2 * i) (by omega) (M := 2 * nI i) (pk_mul 2 i)
      obtain ⟨c2, e2⟩ := cell_v hL xs (m := 2 * i + 1) (by omega) (M := 2 * nI i + 1) (by rw [← nI_1, ← pk_mul]; rfl)
      obtain ⟨n', T, z0, z1, z2, z3, h, hh⟩ := hI
      obtain ⟨o1, e3, n1, T1, y0, y1, y2, y3, h1, hh1⟩ := does_v h hh c1 c2
      obtain ⟨l, hl, e4⟩ := low_v (c2 >>> (3 &&& 31)) (m := 16) (M := 16) rfl (by decide) (by decide)
      obtain ⟨c, hc, e5⟩ := low_v (c2 >>> (8 &&& 31)) (m := 24) (M := 24) rfl (by decide) (by decide)
      obtain ⟨cam, e6⟩ := isSeen_v h1 hl hc
      have h2 : SO n1 T1 y0 y1 y2 y3 (oc o1 cam) := h1
      have hh2 : HO (oc o1 cam) := hh1
      have hI2 : INV (oc o1 cam) := ⟨_, _, _, _, _, _, h2, hh2⟩
      rw [if_neg (show ¬ (45 : Int32) ≤ nI i from nI_ge (b := 45) (by omega) (by decide)), e1, bn_some, e2, bn_some, e3, bn_some, if_neg n10, e4, bn_some, e5, bn_some, e6, bn_some, if_pos n10]
      generalize oc o1 cam = o2 at h2 hh2 hI2
      rw [cnt_1, bn_some, h2.1.2]
      by_cases n0 : n1 = 0
      · rw [if_pos (show nI n1 ≤ 0 by rw [n0]; exact Int32.le_refl _), if_pos (show nI n1 ≤ 0 by rw [n0]; exact Int32.le_refl _)]
        exact tail_v hI2 c2 ih
      · have n8 := h2.1.1
        have c0 : ¬ nI n1 ≤ 0 := nI_nle0 (by omega) (by omega)
        obtain ⟨t, ht, e7⟩ := low_v (c1 >>> (6 &&& 31)) (m := n1) (M := nI n1) rfl (by omega) (by omega)
        rw [if_neg c0, e7, bn_some, isThing_v h2 ht, bn_some, if_neg n10, if_neg c0]
        by_cases q5 : nI i - nI i / 9 * 9 = 5
        · obtain ⟨u, hu, e8⟩ := low_v (c1 >>> (5 &&& 31)) (m := n1) (M := nI n1) rfl (by omega) (by omega)
          obtain ⟨o3, T3, e9, h3, hh3⟩ := leansL_v h2 hh2 hu
          rw [if_neg (not_not_intro q5), e8, bn_some, e9, bn_some, if_neg n10]
          exact tail_v ⟨_, _, _, _, _, _, h3, hh3⟩ c2 ih
        · rw [if_pos q5]
          exact tail_v hI2 c2 ih
theorem ob0_SO : SO 0 0 2 4 0 1 ob0 := by
  refine ⟨⟨by decide, rfl⟩, ⟨by decide, rfl⟩, ⟨by decide, rfl⟩, ⟨by decide, by decide, rfl⟩, ⟨by decide, rfl⟩, ⟨by decide, by decide, rfl⟩, Or.inl ⟨rfl, rfl⟩, ⟨by decide, fun i hi => absurd hi (by omega)⟩, fun i hi => absurd hi (by omega), fun i hi => absurd hi (by omega), fun k hk => ⟨0, by decide, rfl⟩⟩
theorem ob0_HO : HO ob0 := ⟨0, by decide, rfl⟩
theorem ors_z {n : Nat} {g : Nat → Int32} (h : ∀ i, i < n → g i = 0) : ors n g = 0 := by
  induction n with
  | zero => rfl
  | succ n ih => rw [ors_s, ih (fun i hi => h i (by omega)), h n (by omega)]; rfl
theorem ob0_dark : F_count ob0 3 = some 65535 := by
  rw [cnt_3]
  have e0 : ∀ l : Nat, ors 24 (litb (fun _ => (0 : Int32)) l) = 0 := fun l => ors_z (fun i _ => if_pos rfl)
  have e1 : ors 16 (fun l => if ors 24 (litb (fun _ => (0 : Int32)) l) = 0 then 1 <<< (nI l &&& 31) else 0) = ors 16 (fun l => 1 <<< (nI l &&& 31)) := ors_cg (fun i hi => if_pos (e0 i))
  exact congrArg some (e1.trans (by decide))
theorem ob0_fl : F_flashed ob0 = some 0 := by
  have hb : ∀ l : Nat, f_X5_beginOf fF 0 (nI l) = some (nI (l * 2)) := fun l => by
    unfold f_X5_beginOf
    rw [g04, c_0, show fF 0 = nI 2 from rfl, pk_mul, Int32.zero_add]
  have e0 : f_X5_linesFlashed fF 0 (-6) 0 = some 0 := by
    unfold f_X5_linesFlashed
    obtain ⟨w, e, hw⟩ := loopI (fun N v i => f_X5_linesFlashed_L5 fF 0 (-6) 0 (fun (w13 : Int32) (w14 : Int32) => some (w13)) N v (nI i)) 16 (fun v => some v) (fun i v => v = 0) (fun N v h => by
      rw [f_X5_linesFlashed_L5_s, if_pos (by decide)]) (fun N v i hi h => by
      refine ⟨_, ?_, h⟩
      rw [f_X5_linesFlashed_L5_s, if_neg (show ¬ (16 : Int32) ≤ nI i from nI_ge hi (by decide)), hb, bn_some, if_pos (Int32.le_trans (show (-6 : Int32) + 0 ≤ 0 by decide) (nI_pos' (by omega))), bd_eq, nI_1]) 16 0 4000 0 rfl (by decide) rfl
    rw [hw] at e
    exact e
  unfold F_flashed f_X7_flashed
  show bn (f_X5_linesFlashed fF 0 (-6) 0) _ = _
  rw [e0, bn_some]
theorem ob0_un : F_undo ob0 = some (-5, ob0) := by
  unfold F_undo f_X7_undo
  rw [if_neg (show ¬ (ob0.2.2.2.1.2.2.1 (latI ob0.2.2.2.1.1) = true) from fun z => by cases z)]
  have en : f_X7_undo_n ob0.2.2.2.1.1 ob0.2.2.2.1.2.1 = some (-5) := by
    show f_X7_undo_n 0 0 = some (-5)
    unfold f_X7_undo_n f_X1_takeBack_n
    rw [if_neg nn0, gd_ok (show vp_in 5 6 from vp_in_nI (n := 5) (by decide) (by decide)), if_pos e00]; rfl
  rw [en, bn_some, bn_some]
theorem law_pure {L : Nat} (hL : L ≤ 260) (xs : Nat → Int32) : f_L_law L xs ob0 = some () := by
  obtain ⟨cam, es⟩ := seen_v ob0_SO (l := 0) (c := 0) (t := 0) (by decide) (by decide) (by decide)
  have e0 : SEE ob0 0 0 0 (0 + 0) = 0 := by
    show m30 (su 0 _) * _ = 0
    rw [su, show m30 0 = 0 from rfl, Int32.zero_mul]
  rw [e0, show nI 0 = 0 from rfl] at es
  unfold f_L_law
  rw [isPicture_v ob0_SO, bn_some, if_neg n10, ob0_dark, bn_some, if_neg (not_not_intro rfl), cnt_6, bn_some, if_neg (not_not_intro (show ob0.1.2.2.2.2.2.2.2.2.2.2.2.2.2.2.1 = -6 from rfl)), ob0_fl, bn_some, if_neg nn0, ob0_un, bn_some, if_neg (not_not_intro rfl), es, bn_some, if_pos e00]
  exact law_run hL xs 46 0 0 (oc ob0 cam) rfl rfl (by decide) ⟨_, _, _, _, _, _, ob0_SO, ob0_HO⟩
