/-! the history and the slots: a ring here, a row there -/
def ScV (v : SCV) (S : Nat → Int32) : Prop := ∃ n T, ScR n T (v.1) (v.2.1) (v.2.2.1) (v.2.2.2.1) (v.2.2.2.2.1) (v.2.2.2.2.2.1) (v.2.2.2.2.2.2.1) (v.2.2.2.2.2.2.2.1) (v.2.2.2.2.2.2.2.2.1) (v.2.2.2.2.2.2.2.2.2.1) (v.2.2.2.2.2.2.2.2.2.2.1) (v.2.2.2.2.2.2.2.2.2.2.2.1) (v.2.2.2.2.2.2.2.2.2.2.2.2.1) (v.2.2.2.2.2.2.2.2.2.2.2.2.2.1) (v.2.2.2.2.2.2.2.2.2.2.2.2.2.2.1) (v.2.2.2.2.2.2.2.2.2.2.2.2.2.2.2) S
theorem ScV.cgS {v : SCV} {S S' : Nat → Int32} (h : ScV v S) (e : ∀ k, k < 465 → S' k = S k) : ScV v S' := by
  obtain ⟨n, T, h⟩ := h
  exact ⟨n, T, h.cgS e⟩
def HiR (nx hm : Int32) (pr : Nat → Bool) (sv : Nat → SCV) (kn : Int32) (past : Nat → Int32) : Prop := ∃ X K : Nat, X < 6 ∧ nx = nI X ∧ K ≤ 6 ∧ hm = nI K ∧ kn = nI K ∧ ∀ j : Nat, j < K → pr ((X + 6 - K + j) % 6) = true ∧ ScV (sv ((X + 6 - K + j) % 6)) (fun k => past (465 * j + k))
theorem rem_m {S past : Nat → Int32} {kn : Int32} {K : Nat} (hK : K ≤ 6) (hk : kn = nI K) : ∃ past', f_X8_remembers kn S past = some (nI (if K = 6 then 6 else K + 1), past') ∧ (∀ k, k < 465 → past' (465 * (if K = 6 then 5 else K) + k) = S k) ∧ ∀ j k, j < (if K = 6 then 5 else K) → k < 465 → past' (465 * j + k) = past (465 * (if K = 6 then j + 1 else j) + k) := by
  unfold f_X8_remembers
  have put : ∀ (J : Nat) (p0 : Nat → Int32), J ≤ 5 → ∃ p, f_X8_remembers_L52 S (nI J) (fun (w9 : Int32) (w10 : Nat → Int32) => some (nI J + 1, w10)) 4000 0 p0 = some (nI (J + 1), p) ∧ (∀ k, k < 465 → p (465 * J + k) = S k) ∧ ∀ m, m < 465 * J → p m = p0 m := by
    intro J p0 hJ
    obtain ⟨w, e, h1, h2⟩ := loopI (fun N v i => f_X8_remembers_L52 S (nI J) (fun (w9 : Int32) (w10 : Nat → Int32) => some (nI J + 1, w10)) N (nI i) v) 465 (fun v => some (nI (J + 1), v)) (fun i v => (∀ k, k < i → v (465 * J + k) = S k) ∧ ∀ m, m < 465 * J → v m = p0 m) (fun N v h => by
      rw [f_X8_remembers_L52_s, if_pos (by decide), nI_1]) (fun N v i hi h => by
      refine ⟨upd v (465 * J + i) (S i), ?_, fun k hk => ?_, fun m hm => ?_⟩
      · rw [f_X8_remembers_L52_s, if_neg (show ¬ (465 : Int32) ≤ nI i from nI_ge hi (by decide)), gd_ok (vp_in_nI hi (by decide)), show (465 : Int32) = nI 465 from rfl, pk_mul, nI_add, gd_ok (vp_in_nI (by omega) (by decide)), nI_clamp (by omega), nI_clamp (by omega), bd_eq, nI_1 i]
      · by_cases q : k = i
        · rw [q, upd_at]
        · rw [upd_ne _ (by omega)]; exact h.1 k (by omega)
      · rw [upd_ne _ (by omega)]; exact h.2 m hm) 465 0 4000 p0 rfl (by decide) ⟨fun k hk => absurd hk (by omega), fun m hm => rfl⟩
    exact ⟨w, e, h1, h2⟩
  by_cases h6 : K = 6
  · obtain ⟨w, e, hw⟩ := loopI (fun N v i => f_X8_remembers_L11 (fun (w17 : Int32) (w18 : Nat → Int32) => (fun (j1 : Int32) (j2 : Nat → Int32) => f_X8_remembers_L52 S j1 (fun (w9 : Int32) (w10 : Nat → Int32) => some (j1 + 1, w10)) 4000 0 j2) (kn - 1) w18) N (nI i) v) 2325 (fun v => f_X8_remembers_L52 S (nI 5) (fun (w9 : Int32) (w10 : Nat → Int32) => some (nI 5 + 1, w10)) 4000 0 v) (fun i v => (∀ k, k < i → v k = past (465 + k)) ∧ ∀ m, i ≤ m → v m = past m) (fun N v h => by
      rw [f_X8_remembers_L11_s, if_pos (by decide), hk, h6]; rfl) (fun N v i hi h => by
      refine ⟨upd v i (v (465 + i)), ?_, fun k hk => ?_, fun m hm => ?_⟩
      · rw [f_X8_remembers_L11_s, if_neg (show ¬ (2325 : Int32) ≤ nI i from nI_ge hi (by decide)), show (465 : Int32) = nI 465 from rfl, nI_add, gd_ok (vp_in_nI (by omega) (by decide)), gd_ok (vp_in_nI (by omega) (by decide)), nI_clamp (by omega), nI_clamp (by omega), bd_eq, nI_1]
      · by_cases q : k = i
        · rw [q, upd_at, h.2 _ (by omega)]
        · rw [upd_ne _ q]; exact h.1 k (by omega)
      · rw [upd_ne _ (by omega)]; exact h.2 m (by omega)) 2325 0 4000 past rfl (by decide) ⟨fun k hk => absurd hk (by omega), fun m hm => rfl⟩
    obtain ⟨p, p1, p2, p3⟩ := put 5 w (by decide)
    refine ⟨p, ?_, ?_, ?_⟩
    · simp only [jn_eq]
      rw [if_neg (not_not_intro (show kn = 6 by rw [hk, h6]; rfl)), if_pos h6]
      rw [p1] at e
      exact e
    · rw [if_pos h6]; exact p2
    · rw [if_pos h6]
      intro j k hj hk'
      rw [if_pos h6, p3 _ (by omega), hw.1 _ (by omega)]
      exact congrArg past (by omega)
  · obtain ⟨p, p1, p2, p3⟩ := put K past (by omega)
    refine ⟨p, ?_, ?_, ?_⟩
    · simp only [jn_eq]
      rw [if_pos (show ¬ kn = 6 from fun z => h6 ((nI_eq (b := 6) (by omega) (by decide)).mp (hk.symm.trans z))), if_neg h6, hk]
      exact p1
    · rw [if_neg h6]; exact p2
    · rw [if_neg h6]
      intro j k hj hk'
      rw [if_neg h6, p3 _ (by omega)]
theorem sim_record {n T : Nat} {se : Nat → Int32} {mn : Int32} {ln hi wi br sp si le un ul px : Nat → Int32} {tm ps ft fk : Int32} {S : Nat → Int32} (h : ScR n T se mn ln hi wi br sp si le un ul px tm ps ft fk S) {nx hm : Int32} {pr : Nat → Bool} {sv : Nat → SCV} {kn : Int32} {past : Nat → Int32} (hH : HiR nx hm pr sv kn past) : ∃ r r', f_X1_record nx hm se mn ln hi wi br sp si le un ul px tm ps ft fk pr sv = some r ∧ f_X8_remembers kn S past = some r' ∧ HiR r.2.2.1 r.2.2.2 r.1 r.2.1 r'.1 r'.2 := by
  obtain ⟨X, K, hX, e1, hK, e2, e3, hJ⟩ := hH
  obtain ⟨p, p1, p2, p3⟩ := rem_m (S := S) (past := past) hK e3
  have hc : nx.toNatClampNeg = X := by rw [e1]; exact nI_clamp (by omega)
  refine ⟨_, _, by unfold f_X1_record; rw [e1, gd_ok (vp_in_nI hX (by decide))], p1, ?_⟩
  refine ⟨(X + 1) % 6, if K = 6 then 6 else K + 1, by omega, ?_, by split <;> omega, ?_, rfl, fun j hj => ?_⟩
  · show (if nI X = 5 then (0 : Int32) else nI X + 1) = _
    by_cases q : X = 5
    · rw [q]; rfl
    · rw [if_neg (show ¬ nI X = (5 : Int32) from fun z => q ((nI_eq (b := 5) (by omega) (by decide)).mp z)), nI_1, show (X + 1) % 6 = X + 1 by omega]
  · show (if hm + 1 < 6 then hm + 1 else 6) = _
    rw [e2, nI_1]
    by_cases q : K + 1 < 6
    · rw [if_pos (show nI (K + 1) < 6 from (nI_ltI (b := 6) (by omega) (by decide)).mpr q), if_neg (by omega)]
    · rw [if_neg (show ¬ nI (K + 1) < 6 from fun z => q ((nI_ltI (b := 6) (by omega) (by decide)).mp z))]
      by_cases q2 : K = 6
      · rw [if_pos q2]; rfl
      · rw [if_neg q2, show K + 1 = 6 by omega]; rfl
  · show (if _ = (nI X).toNatClampNeg then true else pr _) = true ∧ ScV (if _ = (nI X).toNatClampNeg then _ else sv _) (fun k => p (465 * j + k))
    rw [nI_clamp (show X < 2 ^ 31 by omega)]
    by_cases h6 : K = 6
    · rw [if_pos h6] at hj ⊢
      rw [if_pos h6] at p2 p3
      by_cases q : j = 5
      · have ei : ((X + 1) % 6 + 6 - 6 + j) % 6 = X := by omega
        rw [ei, if_pos rfl, if_pos rfl, q]
        exact ⟨rfl, n, T, h.cgS p2⟩
      · have ei : ¬ ((X + 1) % 6 + 6 - 6 + j) % 6 = X := by omega
        rw [if_neg ei, if_neg ei]
        have := hJ (j + 1) (by omega)
        rw [show (X + 6 - K + (j + 1)) % 6 = ((X + 1) % 6 + 6 - 6 + j) % 6 by omega] at this
        refine ⟨this.1, this.2.cgS (fun k hk => ?_)⟩
        rw [p3 j k (by omega) hk, if_pos h6]
    · rw [if_neg h6] at hj ⊢
      rw [if_neg h6] at p2 p3
      by_cases q : j = K
      · have ei : ((X + 1) % 6 + 6 - (K + 1) + j) % 6 = X := by omega
        rw [ei, if_pos rfl, if_pos rfl, q]
        exact ⟨rfl, n, T, h.cgS p2⟩
      · have ei : ¬ ((X + 1) % 6 + 6 - (K + 1) + j) % 6 = X := by omega
        rw [if_neg ei, if_neg ei]
        have := hJ j (by omega)
        rw [show (X + 6 - K + j) % 6 = ((X + 1) % 6 + 6 - (K + 1) + j) % 6 by omega] at this
        refine ⟨this.1, this.2.cgS (fun k hk => ?_)⟩
        rw [p3 j k (by omega) hk, if_neg h6]
theorem lat_eq {X : Nat} (hX : X < 6) : latI (nI X) = (X + 5) % 6 := by
  unfold latI
  by_cases h : X = 0
  · rw [h]; rfl
  · rw [if_neg (nI_ne0 (by omega) (by omega)), nI_p (by omega), nI_clamp (by omega)]; omega
theorem sim_undo {n T : Nat} {se : Nat → Int32} {mn : Int32} {ln hi wi br sp si le un ul px : Nat → Int32} {tm ps ft fk : Int32} {S : Nat → Int32} (h : ScR n T se mn ln hi wi br sp si le un ul px tm ps ft fk S) {nx hm : Int32} {pr : Nat → Bool} {sv : Nat → SCV} {kn : Int32} {past : Nat → Int32} (hH : HiR nx hm pr sv kn past) (lea upr ris : Nat → Int32) (pl : Int32) (tx : Nat → Int32) (at_ kd : Int32) (va : Nat → Int32) : ∃ r r', f_X7_undo se mn ln hi wi br sp si le un ul px tm ps ft fk lea upr ris pl tx at_ kd va nx hm pr sv = some r ∧ f_X8_undo kn S past = some r' ∧ r.1 = r'.1 ∧ (∃ n T, ScR n T (r.2.2.2.2.2.1) (r.2.2.2.2.2.2.1) (r.2.2.2.2.2.2.2.1) (r.2.2.2.2.2.2.2.2.1) (r.2.2.2.2.2.2.2.2.2.1) (r.2.2.2.2.2.2.2.2.2.2.1) (r.2.2.2.2.2.2.2.2.2.2.2.1) (r.2.2.2.2.2.2.2.2.2.2.2.2.1) (r.2.2.2.2.2.2.2.2.2.2.2.2.2.1) (r.2.2.2.2.2.2.2.2.2.2.2.2.2.2.1) (r.2.2.2.2.2.2.2.2.2.2.2.2.2.2.2.1) (r.2.2.2.2.2.2.2.2.2.2.2.2.2.2.2.2.1) (r.2.1) (r.2.2.1) (r.2.2.2.1) (r.2.2.2.2.1) r'.2.2) ∧ HiR (r.2.2.2.2.2.2.2.2.2.2.2.2.2.2.2.2.2.1) (r.2.2.2.2.2.2.2.2.2.2.2.2.2.2.2.2.2.2) pr sv r'.2.1 past := by
  obtain ⟨X, K, hX, e1, hK, e2, e3, hJ⟩ := id hH
  unfold f_X7_undo f_X8_undo
  by_cases h0 : K = 0
  · rw [if_neg (show ¬ ¬ kn = 0 from not_not_intro (by rw [e3, h0]; rfl))]
    have hm0 : hm = 0 := by rw [e2, h0]; rfl
    have en : f_X7_undo_n nx hm = some (-5) := by
      unfold f_X7_undo_n f_X1_takeBack_n
      by_cases q : nx = 0
      · rw [if_neg (not_not_intro q), gd_ok (show vp_in 5 6 from vp_in_nI (n := 5) (by decide) (by decide)), if_pos hm0]; rfl
      · have hX0 : ¬ X = 0 := fun z => q (by rw [e1, z]; rfl)
        rw [if_pos q, bd_eq, e1, nI_p (by omega), gd_ok (vp_in_nI (by omega) (by decide)), if_pos hm0]; rfl
    have ee : f_X7_undo_e nx hm = some (-5) := by
      unfold f_X7_undo_e f_X1_takeBack_e
      by_cases q : nx = 0
      · rw [if_neg (not_not_intro q), gd_ok (show vp_in 5 6 from vp_in_nI (n := 5) (by decide) (by decide)), if_pos hm0]; rfl
      · have hX0 : ¬ X = 0 := fun z => q (by rw [e1, z]; rfl)
        rw [if_pos q, bd_eq, e1, nI_p (by omega), gd_ok (vp_in_nI (by omega) (by decide)), if_pos hm0]; rfl
    rw [en, ee, if_pos hm0]
    simp only [bn_some]
    by_cases q : pr (latI nx) = true
    · rw [if_pos q]; exact ⟨_, _, rfl, rfl, rfl, ⟨n, T, h⟩, hH⟩
    · rw [if_neg q]; exact ⟨_, _, rfl, rfl, rfl, ⟨n, T, h⟩, hH⟩
  · have hk0 : ¬ kn = 0 := by rw [e3]; exact nI_ne0 (by omega) (by omega)
    have hm0 : ¬ hm = 0 := by rw [e2]; exact nI_ne0 (by omega) (by omega)
    obtain ⟨j1, j2⟩ := hJ (K - 1) (by omega)
    have el : latI nx = (X + 6 - K + (K - 1)) % 6 := by rw [e1, lat_eq hX]; congr 1; omega
    rw [← el] at j1 j2
    rw [if_pos hk0, if_pos j1, if_neg hm0]
    obtain ⟨w, e, hw⟩ := loopI (fun N v i => f_X8_undo_L22 kn past (fun (w7 : Int32) (w8 : Nat → Int32) => some ((kn - 1, kn - 1, w8))) N (nI i) v) 465 (fun v => some (kn - 1, kn - 1, v)) (fun i v => ∀ k, k < i → v k = past (465 * (K - 1) + k)) (fun N v h => by
      rw [f_X8_undo_L22_s, if_pos (by decide)]) (fun N v i hi h => by
      refine ⟨upd v i (past (465 * (K - 1) + i)), ?_, fun k hk => ?_⟩
      · rw [f_X8_undo_L22_s, if_neg (show ¬ (465 : Int32) ≤ nI i from nI_ge hi (by decide)), e3, nI_p (by omega), show (465 : Int32) = nI 465 from rfl, pk_mul, nI_add, gd_ok (vp_in_nI (by omega) (by decide)), gd_ok (vp_in_nI hi (by decide)), nI_clamp (by omega), nI_clamp (by omega), bd_eq, nI_1]
      · by_cases q : k = i
        · rw [q, upd_at]
        · rw [upd_ne _ q]; exact h k (by omega)) 465 0 4000 S rfl (by decide) (fun k hk => absurd hk (by omega))
    obtain ⟨n', T', hs⟩ := j2
    have hs' := hs.cgS (S' := w) hw
    have hkk : kn - 1 = nI (K - 1) := by rw [e3, nI_p (by omega)]
    have hhm : hm - 1 = nI (K - 1) := by rw [e2, nI_p (by omega)]
    have hHn : ∀ y : Nat, y = (X + 5) % 6 → HiR (nI y) (hm - 1) pr sv (kn - 1) past := fun y hy => by
      refine ⟨y, K - 1, by omega, rfl, by omega, hhm, hkk, fun j hj => ?_⟩
      have := hJ j (by omega)
      rw [show (X + 6 - K + j) % 6 = (y + 6 - (K - 1) + j) % 6 by omega] at this
      exact this
    unfold f_X7_undo_a f_X1_takeBack_a
    simp only [f_X5_copyFrom, f_X6_copyFrom, f_X3_copyFrom, bn_some, bd_eq, if_neg hm0]
    by_cases q : nx = 0
    · have hX0 : X = 0 := (nI_eq (by omega) (by decide)).mp (e1.symm.trans q)
      rw [if_neg (not_not_intro q), gd_ok (show vp_in 5 6 from vp_in_nI (n := 5) (by decide) (by decide)), bn_some, if_pos n10]
      refine ⟨_, _, rfl, e, ?_, ⟨n', T', hs'.cgC (fun j hj => sb_cpy0 (n := 4) hj) (fun j hj => sb_cpy0 (n := 8) hj) (fun j hj => sb_cpy0 (n := 8) hj) (fun j hj => sb_cpy0 (n := 8) hj) (fun j hj => sb_cpy0 (n := 8) hj) (fun j hj => sb_cpy0 (n := 8) hj) (fun j hj => sb_cpy0 (n := 8) hj) (fun j hj => sb_cpy0 (n := 8) hj) (fun j hj => sb_cpy0 (n := 8) hj) (fun j hj => sb_cpy0 (n := 8) hj) (fun j hj => sb_cpy0 (n := 384) hj)⟩, hHn 5 (by omega)⟩
      show hm - 1 = kn - 1
      rw [hhm, hkk]
    · have hX0 : ¬ X = 0 := fun z => q (by rw [e1, z]; rfl)
      have hnx : nx - 1 = nI (X - 1) := by rw [e1, nI_p (by omega)]
      rw [if_pos q, hnx, gd_ok (vp_in_nI (by omega) (by decide)), bn_some, if_pos n10]
      refine ⟨_, _, rfl, e, ?_, ⟨n', T', hs'.cgC (fun j hj => sb_cpy0 (n := 4) hj) (fun j hj => sb_cpy0 (n := 8) hj) (fun j hj => sb_cpy0 (n := 8) hj) (fun j hj => sb_cpy0 (n := 8) hj) (fun j hj => sb_cpy0 (n := 8) hj) (fun j hj => sb_cpy0 (n := 8) hj) (fun j hj => sb_cpy0 (n := 8) hj) (fun j hj => sb_cpy0 (n := 8) hj) (fun j hj => sb_cpy0 (n := 8) hj) (fun j hj => sb_cpy0 (n := 8) hj) (fun j hj => sb_cpy0 (n := 384) hj)⟩, hHn (X - 1) (by omega)⟩
      show hm - 1 = kn - 1
      rw [hhm, hkk]
def SlR (prs : Nat → Bool) (svs : Nat → SCV) (slo isv : Nat → Int32) : Prop := ∀ j : Nat, j < 2 → (prs j = true ∧ isv j = 1 ∧ ScV (svs j) (fun k => slo (465 * j + k))) ∨ (prs j = false ∧ isv j = 0)
theorem sim_save {n T : Nat} {se : Nat → Int32} {mn : Int32} {ln hi wi br sp si le un ul px : Nat → Int32} {tm ps ft fk : Int32} {S : Nat → Int32} (h : ScR n T se mn ln hi wi br sp si le un ul px tm ps ft fk S) {prs : Nat → Bool} {svs : Nat → SCV} {slo isv : Nat → Int32} (hS : SlR prs svs slo isv) (a : Int32) : ∃ r r', f_X7_save se mn ln hi wi br sp si le un ul px tm ps ft fk prs svs a = some r ∧ f_X8_save S slo isv a = some r' ∧ r.1 = r'.1 ∧ SlR r.2.1 r.2.2 r'.2.1 r'.2.2 := by
  unfold f_X7_save f_X8_save
  rw [in_eq, bn_some]
  by_cases ha : 0 ≤ a ∧ a ≤ 1
  · obtain ⟨s, hs, rfl⟩ := nI_of2 (x := a) (M := 1) (n := 1) rfl (Int32.not_lt.mpr ha.1) ha.2
    rw [if_pos ha, if_pos (fun z => (bI_0 _).mp z ha)]
    obtain ⟨w, e, h1, h2⟩ := loopI (fun N v i => f_X8_save_L14 S (nI s) (fun (w8 : Int32) (w9 : Nat → Int32) => gd (nI s) 2 (gd 5 465 (some ((S (5 : Int32).toNatClampNeg, w9, upd isv (nI s).toNatClampNeg (vp_nar .boolean 1)))))) N (nI i) v) 465 (fun v => some (S 5, v, upd isv s 1)) (fun i v => (∀ k, k < i → v (465 * s + k) = S k) ∧ ∀ m, (m < 465 * s ∨ 465 * s + 465 ≤ m) → v m = slo m) (fun N v h => by
      rw [f_X8_save_L14_s, if_pos (by decide), gd_ok (vp_in_nI (by omega) (by decide)), m5, c_5, nI_clamp (by omega)]; rfl) (fun N v i hi h => by
      refine ⟨upd v (465 * s + i) (S i), ?_, fun k hk => ?_, fun m hm => ?_⟩
      · rw [f_X8_save_L14_s, if_neg (show ¬ (465 : Int32) ≤ nI i from nI_ge hi (by decide)), gd_ok (vp_in_nI hi (by decide)), show (465 : Int32) = nI 465 from rfl, pk_mul, nI_add, gd_ok (vp_in_nI (by omega) (by decide)), nI_clamp (n := 465 * s + i) (by omega), nI_clamp (n := i) (by omega), bd_eq, nI_1]
      · by_cases q : k = i
        · rw [q, upd_at]
        · rw [upd_ne _ (by omega)]; exact h.1 k (by omega)
      · rw [upd_ne _ (by omega)]; exact h.2 m hm) 465 0 4000 slo rfl (by decide) ⟨fun k hk => absurd hk (by omega), fun m hm => rfl⟩
    refine ⟨_, _, rfl, e, ?_, fun j hj => ?_⟩
    · show mn = S 5
      rw [h.1.2.1, h.1.2.2]
    · rw [nI_clamp (by omega)]
      show ((if j = s then true else prs j) = true ∧ upd isv s 1 j = 1 ∧ ScV (if j = s then _ else svs j) (fun k => w (465 * j + k))) ∨ ((if j = s then true else prs j) = false ∧ upd isv s 1 j = 0)
      by_cases q : j = s
      · rw [if_pos q, if_pos q, q, upd_at]
        exact Or.inl ⟨rfl, rfl, n, T, h.cgS h1⟩
      · rw [if_neg q, if_neg q, upd_ne _ q]
        rcases hS j hj with ⟨x1, x2, x3⟩ | x
        · exact Or.inl ⟨x1, x2, x3.cgS (fun k hk => h2 _ (by omega))⟩
        · exact Or.inr x
  · rw [if_neg ha, if_neg (not_not_intro ((bI_0 _).mpr ha))]
    exact ⟨_, _, rfl, rfl, rfl, hS⟩
theorem sim_restore {n T : Nat} {se : Nat → Int32} {mn : Int32} {ln hi wi br sp si le un ul px : Nat → Int32} {tm ps ft fk : Int32} {S : Nat → Int32} (h : ScR n T se mn ln hi wi br sp si le un ul px tm ps ft fk S) {nx hm : Int32} {pr : Nat → Bool} {sv : Nat → SCV} {kn : Int32} {past : Nat → Int32} (hH : HiR nx hm pr sv kn past) {prs : Nat → Bool} {svs : Nat → SCV} {slo isv : Nat → Int32} (hS : SlR prs svs slo isv) (lea upr ris : Nat → Int32) (pl : Int32) (tx : Nat → Int32) (at_ kd : Int32) (va : Nat → Int32) (a : Int32) : ∃ r r', f_X7_restore se mn ln hi wi br sp si le un ul px tm ps ft fk lea upr ris pl tx at_ kd va nx hm pr sv prs svs a = some r ∧ f_X8_restore kn S past slo isv a = some r' ∧ r.1 = r'.1 ∧ (∃ n T, ScR n T (r.2.2.2.2.2.2.2.1) (r.2.2.2.2.2.2.2.2.1) (r.2.2.2.2.2.2.2.2.2.1) (r.2.2.2.2.2.2.2.2.2.2.1) (r.2.2.2.2.2.2.2.2.2.2.2.1) (r.2.2.2.2.2.2.2.2.2.2.2.2.1) (r.2.2.2.2.2.2.2.2.2.2.2.2.2.1) (r.2.2.2.2.2.2.2.2.2.2.2.2.2.2.1) (r.2.2.2.2.2.2.2.2.2.2.2.2.2.2.2.1) (r.2.2.2.2.2.2.2.2.2.2.2.2.2.2.2.2.1) (r.2.2.2.2.2.2.2.2.2.2.2.2.2.2.2.2.2.1) (r.2.2.2.2.2.2.2.2.2.2.2.2.2.2.2.2.2.2.1) (r.2.2.2.1) (r.2.2.2.2.1) (r.2.2.2.2.2.1) (r.2.2.2.2.2.2.1) r'.2.2.1) ∧ HiR (r.2.2.2.2.2.2.2.2.2.2.2.2.2.2.2.2.2.2.2.1) (r.2.2.2.2.2.2.2.2.2.2.2.2.2.2.2.2.2.2.2.2) (r.2.1) (r.2.2.1) r'.2.1 r'.2.2.2 := by
  unfold f_X7_restore f_X8_restore
  rw [in_eq, bn_some]
  by_cases ha : 0 ≤ a ∧ a ≤ 1
  · obtain ⟨s, hs, rfl⟩ := nI_of2 (x := a) (M := 1) (n := 1) rfl (Int32.not_lt.mpr ha.1) ha.2
    have g2 : vp_in (nI s) 2 := vp_in_nI (by omega) (by decide)
    rw [if_pos ha, if_pos (fun z => (bI_0 _).mp z ha), gd_ok g2, nI_clamp (by omega)]
    rcases hS s (by omega) with ⟨x1, x2, n', T', x3⟩ | ⟨x1, x2⟩
    · rw [x1, x2, if_pos rfl, if_pos n10]
      obtain ⟨r1, r1', q1, q2, q3⟩ := sim_record h hH
      unfold f_X7_restore_a
      rw [wi_eq, bn_some, if_pos (fun z => (bI_0 _).mp z ha), gd_ok g2, q1, bn_some, q2, bn_some]
      simp only [f_X5_copyFrom, f_X6_copyFrom, f_X3_copyFrom, bn_some]
      obtain ⟨w, e, hw⟩ := loopI (fun N v i => f_X8_restore_L30 slo (nI s) (fun (w9 : Int32) (w10 : Nat → Int32) => gd 5 465 (some ((w10 (5 : Int32).toNatClampNeg, r1'.1, w10, r1'.2)))) N (nI i) v) 465 (fun v => some (v 5, r1'.1, v, r1'.2)) (fun i v => ∀ k, k < i → v k = slo (465 * s + k)) (fun N v h => by
        rw [f_X8_restore_L30_s, if_pos (by decide), m5, c_5]) (fun N v i hi h => by
        refine ⟨upd v i (slo (465 * s + i)), ?_, fun k hk => ?_⟩
        · rw [f_X8_restore_L30_s, if_neg (show ¬ (465 : Int32) ≤ nI i from nI_ge hi (by decide)), show (465 : Int32) = nI 465 from rfl, pk_mul, nI_add, gd_ok (vp_in_nI (by omega) (by decide)), gd_ok (vp_in_nI hi (by decide)), nI_clamp (by omega), nI_clamp (by omega), bd_eq, nI_1]
        · by_cases q : k = i
          · rw [q, upd_at]
          · rw [upd_ne _ q]; exact h k (by omega)) 465 0 4000 S rfl (by decide) (fun k hk => absurd hk (by omega))
      have hs' := x3.cgS (S' := w) hw
      refine ⟨_, _, rfl, e, ?_, ⟨n', T', hs'.cgC (fun j hj => sb_cpy0 (n := 4) hj) (fun j hj => sb_cpy0 (n := 8) hj) (fun j hj => sb_cpy0 (n := 8) hj) (fun j hj => sb_cpy0 (n := 8) hj) (fun j hj => sb_cpy0 (n := 8) hj) (fun j hj => sb_cpy0 (n := 8) hj) (fun j hj => sb_cpy0 (n := 8) hj) (fun j hj => sb_cpy0 (n := 8) hj) (fun j hj => sb_cpy0 (n := 8) hj) (fun j hj => sb_cpy0 (n := 8) hj) (fun j hj => sb_cpy0 (n := 384) hj)⟩, q3⟩
      show (svs s).2.1 = w 5
      rw [hs'.1.2.1, hs'.1.2.2]
    · rw [x1, x2, if_neg (by decide), if_neg nn0]
      exact ⟨_, _, rfl, rfl, rfl, ⟨n, T, h⟩, hH⟩
  · rw [if_neg ha, if_neg (not_not_intro ((bI_0 _).mpr ha))]
    exact ⟨_, _, rfl, rfl, rfl, ⟨n, T, h⟩, hH⟩
