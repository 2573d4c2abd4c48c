theorem wi_1 {x a b : Nat} (ha : a ≤ x) (hb : x ≤ b) (hx : b < 2 ^ 31) : f_X7_within (nI x) (nI a) (nI b) = some 1 := by
  rw [wi_eq]; exact congrArg some (if_pos ⟨nI_le ha (by omega), nI_le hb hx⟩)
theorem rec_o {o : OB} (hh : HO o) : ∃ r, f_X1_record o.2.2.2.1.1 o.2.2.2.1.2.1 o.1.1 o.1.2.1 o.1.2.2.1 o.1.2.2.2.1 o.1.2.2.2.2.1 o.1.2.2.2.2.2.1 o.1.2.2.2.2.2.2.1 o.1.2.2.2.2.2.2.2.1 o.1.2.2.2.2.2.2.2.2.1 o.1.2.2.2.2.2.2.2.2.2.1 o.1.2.2.2.2.2.2.2.2.2.2.1 o.1.2.2.2.2.2.2.2.2.2.2.2.1 o.1.2.2.2.2.2.2.2.2.2.2.2.2.1 o.1.2.2.2.2.2.2.2.2.2.2.2.2.2.1 o.1.2.2.2.2.2.2.2.2.2.2.2.2.2.2.1 o.1.2.2.2.2.2.2.2.2.2.2.2.2.2.2.2 o.2.2.2.1.2.2.1 o.2.2.2.1.2.2.2 = some r ∧ ∃ X : Nat, X < 6 ∧ r.2.2.1 = nI X := by
  obtain ⟨X, hX, e1⟩ := hh
  refine ⟨_, by unfold f_X1_record; rw [e1, gd_ok (vp_in_nI hX (by decide))], (X + 1) % 6, by omega, ?_⟩
  show (if nI X = 5 then (0 : Int32) else nI X + 1) = _
  by_cases q : X = 5
  · rw [q]; rfl
  · rw [if_neg (show ¬ nI X = (5 : Int32) from fun z => q ((nI_eq (b := 5) (by omega) (by decide)).mp z)), nI_1, show (X + 1) % 6 = X + 1 by omega]
theorem set_v {o : OB} (hh : HO o) {k z : Nat} (hk : k < 4) (hw : f_X7_within (nI z) (fLe k) (fMo k) = some 1) : ∃ hv : HIV, F_set o (nI k) (nI z) = some (o.1.1 k, oh o (upd o.1.1 k (nI z), o.1.2.1, o.1.2.2.1, o.1.2.2.2.1, o.1.2.2.2.2.1, o.1.2.2.2.2.2.1, o.1.2.2.2.2.2.2.1, o.1.2.2.2.2.2.2.2.1, o.1.2.2.2.2.2.2.2.2.1, o.1.2.2.2.2.2.2.2.2.2.1, o.1.2.2.2.2.2.2.2.2.2.2.1, o.1.2.2.2.2.2.2.2.2.2.2.2.1, o.1.2.2.2.2.2.2.2.2.2.2.2.2.1, o.1.2.2.2.2.2.2.2.2.2.2.2.2.2.1, o.1.2.2.2.2.2.2.2.2.2.2.2.2.2.2.1, o.1.2.2.2.2.2.2.2.2.2.2.2.2.2.2.2) hv) ∧ ∃ X : Nat, X < 6 ∧ hv.1 = nI X := by
  obtain ⟨r, p1, X, hX, p3⟩ := rec_o hh
  have g4 : vp_in (nI k) 4 := vp_in_nI hk (by decide)
  have hc : (nI k).toNatClampNeg = k := nI_clamp (by omega)
  have hw0 : f_X7_within (nI k) 0 3 = some 1 := wi_1 (a := 0) (b := 3) (by omega) (by omega) (by decide)
  unfold F_set f_X7_set
  rw [hw0, bn_some, if_neg n10]
  simp only [gd_ok g4, hc, hw, bn_some, bd_eq, p1]
  rw [if_pos n10]
  exact ⟨(r.2.2.1, r.2.2.2, r.1, r.2.1), rfl, X, hX, p3⟩
theorem errT_0 {mn : Int32} {n l f e w b : Nat} (n8 : n < 8) (hn : mn = nI n) (hl : l ≤ 15) (hf : f ≤ 23) (he : 1 ≤ e ∧ e ≤ 16) (hw : 1 ≤ w ∧ w ≤ 24) (hb : 1 ≤ b ∧ b ≤ 9) : f_X7_errorOfThing mn (nI l) (nI f) (nI e) (nI w) (nI b) = some 0 := by
  unfold f_X7_errorOfThing
  rw [place_1 (by omega) (by omega), bn_some, if_neg n10, show f_X7_within (nI e) 1 16 = some 1 from wi_1 (a := 1) (b := 16) he.1 he.2 (by decide), bn_some, if_neg n10, show f_X7_within (nI w) 1 24 = some 1 from wi_1 (a := 1) (b := 24) hw.1 hw.2 (by decide), bn_some, if_neg n10, show f_X7_within (nI b) 1 9 = some 1 from wi_1 (a := 1) (b := 9) hb.1 hb.2 (by decide), bn_some, if_pos n10, hn, if_neg (show ¬ (8 : Int32) ≤ nI n from nI_ge (b := 8) n8 (by decide))]
theorem errT_8 {mn : Int32} {l f e w b : Nat} (hn : mn = nI 8) (hl : l ≤ 15) (hf : f ≤ 23) (he : 1 ≤ e ∧ e ≤ 16) (hw : 1 ≤ w ∧ w ≤ 24) (hb : 1 ≤ b ∧ b ≤ 9) : f_X7_errorOfThing mn (nI l) (nI f) (nI e) (nI w) (nI b) = some (-4) := by
  unfold f_X7_errorOfThing
  rw [place_1 (by omega) (by omega), bn_some, if_neg n10, show f_X7_within (nI e) 1 16 = some 1 from wi_1 (a := 1) (b := 16) he.1 he.2 (by decide), bn_some, if_neg n10, show f_X7_within (nI w) 1 24 = some 1 from wi_1 (a := 1) (b := 24) hw.1 hw.2 (by decide), bn_some, if_neg n10, show f_X7_within (nI b) 1 9 = some 1 from wi_1 (a := 1) (b := 9) hb.1 hb.2 (by decide), bn_some, if_pos n10, hn, if_pos (show (8 : Int32) ≤ nI 8 from Int32.le_refl _)]
theorem add_c {mn : Int32} {ln hi wi br sp si le un ul : Nat → Int32} {tm a b c d e : Int32} {n T : Nat} (n8 : n < 8) (hn : mn = nI n) (ht : tm = nI T) : f_X6_add mn ln hi wi br sp si le un ul a b c d e tm = some (nI n, nI (n + 1), upd ln n a, upd hi n c, upd wi n d, upd br n e, upd sp n 0, upd si n (nI T), upd le n b, upd un n (-6), upd ul n 0) := by
  unfold f_X6_add
  have g : vp_in (nI n) 8 := vp_in_nI n8 (by decide)
  rw [hn, nI_clamp (by omega), nI_1, ht]
  simp only [gd_ok g]
theorem thing_v {n T : Nat} {o : OB} (hh : HO o) (n8 : n < 8) (hn : o.1.2.1 = nI n) (ht : o.1.2.2.2.2.2.2.2.2.2.2.2.2.1 = nI T) {l f e w b : Nat} (hl : l ≤ 15) (hf : f ≤ 23) (he : 1 ≤ e ∧ e ≤ 16) (hw : 1 ≤ w ∧ w ≤ 24) (hb : 1 ≤ b ∧ b ≤ 9) : ∃ hv : HIV, F_thing o (nI l) (nI f) (nI e) (nI w) (nI b) = some (nI n, oh o (o.1.1, nI (n + 1), upd o.1.2.2.1 n (nI l), upd o.1.2.2.2.1 n (nI e), upd o.1.2.2.2.2.1 n (nI w), upd o.1.2.2.2.2.2.1 n (nI b), upd o.1.2.2.2.2.2.2.1 n 0, upd o.1.2.2.2.2.2.2.2.1 n (nI T), upd o.1.2.2.2.2.2.2.2.2.1 n (nI f), upd o.1.2.2.2.2.2.2.2.2.2.1 n (-6), upd o.1.2.2.2.2.2.2.2.2.2.2.1 n 0, o.1.2.2.2.2.2.2.2.2.2.2.2.1, o.1.2.2.2.2.2.2.2.2.2.2.2.2.1, o.1.2.2.2.2.2.2.2.2.2.2.2.2.2.1, o.1.2.2.2.2.2.2.2.2.2.2.2.2.2.2.1, o.1.2.2.2.2.2.2.2.2.2.2.2.2.2.2.2) hv) ∧ ∃ X : Nat, X < 6 ∧ hv.1 = nI X := by
  obtain ⟨r, p1, X, hX, p3⟩ := rec_o hh
  unfold F_thing f_X7_thing
  rw [errT_0 n8 hn hl hf he hw hb, bn_some, if_pos e00, p1, bn_some, add_c n8 hn ht, bn_some, bn_some]
  exact ⟨(r.2.2.1, r.2.2.2, r.1, r.2.1), rfl, X, hX, p3⟩
theorem thing_8 {o : OB} (hn : o.1.2.1 = nI 8) {l f e w b : Nat} (hl : l ≤ 15) (hf : f ≤ 23) (he : 1 ≤ e ∧ e ≤ 16) (hw : 1 ≤ w ∧ w ≤ 24) (hb : 1 ≤ b ∧ b ≤ 9) : F_thing o (nI l) (nI f) (nI e) (nI w) (nI b) = some (-4, o) := by
  unfold F_thing f_X7_thing
  rw [errT_8 hn hl hf he hw hb, bn_some, if_neg (show ¬ (-4 : Int32) = 0 by decide), bn_some]
theorem thing_x (o : OB) : F_thing o 16 0 1 1 1 = some (-2, o) := by
  unfold F_thing f_X7_thing
  have e : f_X7_errorOfThing o.1.2.1 16 0 1 1 1 = some (-2) := by
    unfold f_X7_errorOfThing
    rw [show f_X7_isPlace 16 0 = some 0 from rfl, bn_some, if_pos e00]
  rw [e, bn_some, if_neg (show ¬ (-2 : Int32) = 0 by decide), bn_some]
theorem spd_1 {b : Int32} (h1 : -40 ≤ b.toInt) (h2 : b.toInt ≤ 40) : f_X7_isSpeed b = some 1 := by
  unfold f_X7_isSpeed
  have e : bI ((-40 : Int32) ≤ b ∧ b ≤ 40) = 1 := if_pos ⟨Int32.le_iff_toInt_le.mpr h1, Int32.le_iff_toInt_le.mpr h2⟩
  rw [wi_eq, e, bn_some, gb_ok (Or.inr rfl)]
theorem anew_c {n T : Nat} {mn : Int32} {sp si le un ul : Nat → Int32} {tm : Int32} (n8 : n ≤ 8) (hn : mn = nI n) (T9 : T ≤ 9999) (ht : tm = nI T) (hT : ThOK n sp si un) (hB : PosB n (T : Int) sp si le un ul) {i : Nat} (hi_ : i < n) {a u : Int32} (ha : -40 ≤ a.toInt ∧ a.toInt ≤ 40) (hu : u = -6 ∨ ∃ j : Nat, j < i ∧ u = nI j) : ∃ Q : Int32, f_X6_comeAnew mn sp si le un ul (nI i) a u tm = some (upd sp i a, upd si i (nI T), upd le i (iI (lpI sp si le un ul 8 i T)), upd un i u, upd ul i Q) ∧ ThOK n (upd sp i a) (upd si i (nI T)) (upd un i u) ∧ ∀ k : Nat, k < n → lpI (upd sp i a) (upd si i (nI T)) (upd le i (iI (lpI sp si le un ul 8 i T))) (upd un i u) (upd ul i Q) 8 k T = lpI sp si le un ul 8 k T := by
  have hb := hB i hi_
  have lx := left_x (le := le) (ul := ul) hn hT (t := (T : Int)) (by omega) (by omega) hi_
  rw [iI_nat] at lx
  have g : vp_in (nI i) 8 := vp_in_nI (by omega) (by decide)
  have hc : (nI i).toNatClampNeg = i := nI_clamp (by omega)
  have hT' : ThOK n (upd sp i a) (upd si i (nI T)) (upd un i u) := ⟨n8, fun k hk => by
    by_cases q : k = i
    · rw [q, upd_at, upd_at, upd_at, nI_T (by omega)]
      refine ⟨ha, by omega, ?_⟩
      rcases hu with x | ⟨j, hj, x⟩
      · exact Or.inl x
      · exact Or.inr ⟨j, hj, x⟩
    · rw [upd_ne _ q, upd_ne _ q, upd_ne _ q]; exact hT.2 k hk⟩
  have hQ : ∃ Q : Int32, f_X6_leftAt mn (upd sp i a) (upd si i (nI T)) (upd le i (iI (lpI sp si le un ul 8 i T))) (upd un i u) ul u (nI T) = some Q ∧ ((u = -6 ∧ Q = 0) ∨ ∃ j : Nat, j < i ∧ u = nI j ∧ Q.toInt = lpI sp si le un ul 8 j T) := by
    rcases hu with x | ⟨j, hj, x⟩
    · exact ⟨0, by rw [x]; exact left_x_ground, Or.inl ⟨x, rfl⟩⟩
    · subst x
      have hbj := hB j (by omega)
      refine ⟨iI (lpI sp si le un ul 8 j T), ?_, Or.inr ⟨j, hj, rfl, iI_T (by omega) (by omega)⟩⟩
      have := left_x (le := upd le i (iI (lpI sp si le un ul 8 i T))) (ul := ul) hn hT' (t := (T : Int)) (by omega) (by omega) (i := j) (by omega)
      rw [iI_nat, lp_cg (sp := sp) (si := si) (le := le) (un := un) (ul := ul) (hT.mono (show i ≤ n by omega)) T (fun k hk => upd_lt _ hk) (fun k hk => upd_lt _ hk) (fun k hk => upd_lt _ hk) (fun k hk => upd_lt _ hk) (fun k hk => rfl) 8 j hj] at this
      exact this
  obtain ⟨Q, q1, q3⟩ := hQ
  refine ⟨Q, ?_, hT', fun k hk => ?_⟩
  · unfold f_X6_comeAnew
    rw [ht, lx, bn_some, hc]
    simp only [gd_ok g, q1, bn_some]
  · exact lp_anew (s := 0) hT hT' hi_ (fun k q => upd_ne _ q) (fun k q => upd_ne _ q) (fun k q => upd_ne _ q) (fun k q => upd_ne _ q) (fun k q => upd_ne _ q) (by rw [upd_at, nI_T (by omega)]) (by rw [upd_at, iI_T (by omega) (by omega)]) (by rw [upd_at, upd_at]; exact q3) k hk
theorem speed_v {n T z0 z1 z2 z3 : Nat} {o : OB} (h : SO n T z0 z1 z2 z3 o) (hh : HO o) {i : Nat} (hi_ : i < n) {b : Int32} (hb : -40 ≤ b.toInt ∧ b.toInt ≤ 40) : ∃ (hv : HIV) (Q : Int32), F_speed o (nI i) b = some (o.1.2.2.2.2.2.2.1 i + 100, oh o (o.1.1, o.1.2.1, o.1.2.2.1, o.1.2.2.2.1, o.1.2.2.2.2.1, o.1.2.2.2.2.2.1, upd o.1.2.2.2.2.2.2.1 i b, upd o.1.2.2.2.2.2.2.2.1 i (nI T), upd o.1.2.2.2.2.2.2.2.2.1 i (iI (LPo o i T)), upd o.1.2.2.2.2.2.2.2.2.2.1 i (o.1.2.2.2.2.2.2.2.2.2.1 i), upd o.1.2.2.2.2.2.2.2.2.2.2.1 i Q, o.1.2.2.2.2.2.2.2.2.2.2.2.1, o.1.2.2.2.2.2.2.2.2.2.2.2.2.1, o.1.2.2.2.2.2.2.2.2.2.2.2.2.2.1, o.1.2.2.2.2.2.2.2.2.2.2.2.2.2.2.1, o.1.2.2.2.2.2.2.2.2.2.2.2.2.2.2.2) hv) ∧ ThOK n (upd o.1.2.2.2.2.2.2.1 i b) (upd o.1.2.2.2.2.2.2.2.1 i (nI T)) (upd o.1.2.2.2.2.2.2.2.2.2.1 i (o.1.2.2.2.2.2.2.2.2.2.1 i)) ∧ (∀ k : Nat, k < n → lpI (upd o.1.2.2.2.2.2.2.1 i b) (upd o.1.2.2.2.2.2.2.2.1 i (nI T)) (upd o.1.2.2.2.2.2.2.2.2.1 i (iI (LPo o i T))) (upd o.1.2.2.2.2.2.2.2.2.2.1 i (o.1.2.2.2.2.2.2.2.2.2.1 i)) (upd o.1.2.2.2.2.2.2.2.2.2.2.1 i Q) 8 k T = LPo o k T) ∧ ∃ X : Nat, X < 6 ∧ hv.1 = nI X := by
  obtain ⟨r, p1, X, hX, p3⟩ := rec_o hh
  obtain ⟨⟨n8, hn⟩, ⟨T9, ht⟩, -, -, -, -, -, hT, hV, hB, -⟩ := h
  have g : vp_in (nI i) 8 := vp_in_nI (by omega) (by decide)
  have hc : (nI i).toNatClampNeg = i := nI_clamp (by omega)
  obtain ⟨Q, q1, q2, q3⟩ := anew_c n8 hn T9 ht hT hB hi_ hb (hT.2 i hi_).2.2
  unfold F_speed f_X7_speed
  rw [thing_1 n8 hn hi_, bn_some, if_pos n10, spd_1 hb.1 hb.2, bn_some, if_pos n10, p1]
  simp only [gd_ok g, hc, bn_some, bd_eq, q1]
  exact ⟨(r.2.2.1, r.2.2.2, r.1, r.2.1), Q, rfl, q2, q3, X, hX, p3⟩
theorem speed_0 {o : OB} (hn : o.1.2.1 = nI 0) : F_speed o 0 1 = some (-1, o) := by
  unfold F_speed f_X7_speed
  rw [thing_0 hn, bn_some, if_neg nn0, bn_some]
theorem can_1 {i : Nat} {u : Int32} (hi : i < 8) (hu : u = -6 ∨ ∃ j : Nat, j < i ∧ u = nI j) : f_X7_canRide (nI i) u = some 1 := by
  unfold f_X7_canRide
  rcases hu with q | ⟨j, hj, rfl⟩
  · rw [if_pos q]
  · rw [if_neg (fun z => absurd (show (-6 : Int32) < 0 by decide) (by rw [← z]; exact nI_pos (by omega))), nI_p (by omega), show f_X7_within (nI j) 0 (nI (i - 1)) = some 1 from wi_1 (a := 0) (by omega) (by omega) (by omega), bn_some, if_neg n10]
theorem can_0 {i : Nat} (hi : i < 8) : f_X7_canRide (nI i) (nI i) = some 0 := by
  unfold f_X7_canRide
  rw [if_neg (fun z => absurd (show (-6 : Int32) < 0 by decide) (by rw [← z]; exact nI_pos (by omega))), wi_eq]
  have e : bI ((0 : Int32) ≤ nI i ∧ nI i ≤ nI i - 1) = 0 := if_neg (fun z => by
    by_cases y : i = 0
    · rw [y] at z; exact absurd z.2 (by decide)
    · rw [nI_p (by omega)] at z
      exact nI_ge (show i - 1 < i by omega) (by omega) z.2)
  rw [e, bn_some, if_pos e00]
theorem ride_v {n T z0 z1 z2 z3 : Nat} {o : OB} (h : SO n T z0 z1 z2 z3 o) (hh : HO o) {i : Nat} (hi_ : i < n) {u : Int32} (hu : u = -6 ∨ ∃ j : Nat, j < i ∧ u = nI j) : ∃ (hv : HIV) (Q : Int32), F_ride o (nI i) u = some (o.1.2.2.2.2.2.2.2.2.2.1 i, oh o (o.1.1, o.1.2.1, o.1.2.2.1, o.1.2.2.2.1, o.1.2.2.2.2.1, o.1.2.2.2.2.2.1, upd o.1.2.2.2.2.2.2.1 i (o.1.2.2.2.2.2.2.1 i), upd o.1.2.2.2.2.2.2.2.1 i (nI T), upd o.1.2.2.2.2.2.2.2.2.1 i (iI (LPo o i T)), upd o.1.2.2.2.2.2.2.2.2.2.1 i u, upd o.1.2.2.2.2.2.2.2.2.2.2.1 i Q, o.1.2.2.2.2.2.2.2.2.2.2.2.1, o.1.2.2.2.2.2.2.2.2.2.2.2.2.1, o.1.2.2.2.2.2.2.2.2.2.2.2.2.2.1, o.1.2.2.2.2.2.2.2.2.2.2.2.2.2.2.1, o.1.2.2.2.2.2.2.2.2.2.2.2.2.2.2.2) hv) ∧ ThOK n (upd o.1.2.2.2.2.2.2.1 i (o.1.2.2.2.2.2.2.1 i)) (upd o.1.2.2.2.2.2.2.2.1 i (nI T)) (upd o.1.2.2.2.2.2.2.2.2.2.1 i u) ∧ (∀ k : Nat, k < n → lpI (upd o.1.2.2.2.2.2.2.1 i (o.1.2.2.2.2.2.2.1 i)) (upd o.1.2.2.2.2.2.2.2.1 i (nI T)) (upd o.1.2.2.2.2.2.2.2.2.1 i (iI (LPo o i T))) (upd o.1.2.2.2.2.2.2.2.2.2.1 i u) (upd o.1.2.2.2.2.2.2.2.2.2.2.1 i Q) 8 k T = LPo o k T) ∧ ∃ X : Nat, X < 6 ∧ hv.1 = nI X := by
  obtain ⟨r, p1, X, hX, p3⟩ := rec_o hh
  obtain ⟨⟨n8, hn⟩, ⟨T9, ht⟩, -, -, -, -, -, hT, hV, hB, -⟩ := h
  have g : vp_in (nI i) 8 := vp_in_nI (by omega) (by decide)
  have hc : (nI i).toNatClampNeg = i := nI_clamp (by omega)
  obtain ⟨Q, q1, q2, q3⟩ := anew_c n8 hn T9 ht hT hB hi_ (hT.2 i hi_).1 hu
  unfold F_ride f_X7_ride
  rw [thing_1 n8 hn hi_, bn_some, if_pos n10, can_1 (by omega) hu, bn_some, if_pos n10, p1]
  simp only [gd_ok g, hc, bn_some, bd_eq, q1]
  exact ⟨(r.2.2.1, r.2.2.2, r.1, r.2.1), Q, rfl, q2, q3, X, hX, p3⟩
theorem ride_0 {o : OB} (hn : o.1.2.1 = nI 0) : F_ride o 0 (-6) = some (-1, o) := by
  unfold F_ride f_X7_ride
  rw [thing_0 hn, bn_some, if_neg nn0, bn_some]
theorem ride_x {n i : Nat} {o : OB} (n8 : n ≤ 8) (hn : o.1.2.1 = nI n) (hi_ : i < n) : F_ride o (nI i) (nI i) = some (-2, o) := by
  unfold F_ride f_X7_ride
  rw [thing_1 n8 hn hi_, bn_some, if_pos n10, can_0 (by omega), bn_some, if_neg nn0, bn_some]
theorem errF_0 {x d : Nat} (hx : x ≤ 99) (h1 : 1 ≤ d) (h2 : d ≤ 20) : f_X7_errorOfFlash (nI x) (nI d) = some 0 := by
  unfold f_X7_errorOfFlash
  rw [show f_X7_within (nI x) 0 99 = some 1 from wi_1 (a := 0) (b := 99) (by omega) hx (by decide), bn_some, if_neg n10, show f_X7_within (nI d) 1 20 = some 1 from wi_1 (a := 1) (b := 20) h1 h2 (by decide), bn_some, if_neg n10]
theorem flash_v {T : Nat} {o : OB} (hh : HO o) (ht : o.1.2.2.2.2.2.2.2.2.2.2.2.2.1 = nI T) {x d : Nat} (hx : x ≤ 99) (h1 : 1 ≤ d) (h2 : d ≤ 20) : ∃ hv : HIV, F_flash o (nI x) (nI d) = some (nI (T + x), oh o (o.1.1, o.1.2.1, o.1.2.2.1, o.1.2.2.2.1, o.1.2.2.2.2.1, o.1.2.2.2.2.2.1, o.1.2.2.2.2.2.2.1, o.1.2.2.2.2.2.2.2.1, o.1.2.2.2.2.2.2.2.2.1, o.1.2.2.2.2.2.2.2.2.2.1, o.1.2.2.2.2.2.2.2.2.2.2.1, o.1.2.2.2.2.2.2.2.2.2.2.2.1, o.1.2.2.2.2.2.2.2.2.2.2.2.2.1, o.1.2.2.2.2.2.2.2.2.2.2.2.2.2.1, nI (T + x), nI d) hv) ∧ ∃ X : Nat, X < 6 ∧ hv.1 = nI X := by
  obtain ⟨r, p1, X, hX, p3⟩ := rec_o hh
  unfold F_flash f_X7_flash
  rw [errF_0 hx h1 h2, bn_some, if_pos e00, p1, bn_some]
  unfold f_X5_setFlash
  rw [ht, nI_add, bn_some, bn_some, ← ht]
  exact ⟨(r.2.2.1, r.2.2.2, r.1, r.2.1), rfl, X, hX, p3⟩
theorem flash_x (o : OB) : F_flash o 100 1 = some (-2, o) := by
  unfold F_flash f_X7_flash
  rw [show f_X7_errorOfFlash 100 1 = some (-2) from rfl, bn_some, if_neg (show ¬ (-2 : Int32) = 0 by decide), bn_some]
theorem errP_0 {tm : Int32} {T t : Nat} (ht : tm = nI T) (h1 : 1 ≤ t) (h2 : t ≤ 99) (h9 : T + t ≤ 9999) : f_X7_errorOfPass tm (nI t) = some 0 := by
  unfold f_X7_errorOfPass
  rw [show f_X7_within (nI t) 1 99 = some 1 from wi_1 (a := 1) (b := 99) h1 h2 (by decide), bn_some, if_pos n10, ht, nI_add, if_neg (show ¬ (9999 : Int32) < nI (T + t) from nI_nlt (a := 9999) h9 (by decide))]
theorem pass_v {T : Nat} {o : OB} (hh : HO o) (ht : o.1.2.2.2.2.2.2.2.2.2.2.2.2.1 = nI T) {t : Nat} (h1 : 1 ≤ t) (h2 : t ≤ 99) (h9 : T + t ≤ 9999) : ∃ hv : HIV, F_pass o (nI t) = some (nI (T + t), oh o (o.1.1, o.1.2.1, o.1.2.2.1, o.1.2.2.2.1, o.1.2.2.2.2.1, o.1.2.2.2.2.2.1, o.1.2.2.2.2.2.2.1, o.1.2.2.2.2.2.2.2.1, o.1.2.2.2.2.2.2.2.2.1, o.1.2.2.2.2.2.2.2.2.2.1, o.1.2.2.2.2.2.2.2.2.2.2.1, o.1.2.2.2.2.2.2.2.2.2.2.2.1, nI (T + t), o.1.2.2.2.2.2.2.2.2.2.2.2.2.2.1, o.1.2.2.2.2.2.2.2.2.2.2.2.2.2.2.1, o.1.2.2.2.2.2.2.2.2.2.2.2.2.2.2.2) hv) ∧ ∃ X : Nat, X < 6 ∧ hv.1 = nI X := by
  obtain ⟨r, p1, X, hX, p3⟩ := rec_o hh
  unfold F_pass f_X7_pass
  rw [errP_0 ht h1 h2 h9, bn_some, if_pos e00, p1, bn_some, bn_some]
  refine ⟨(r.2.2.1, r.2.2.2, r.1, r.2.1), ?_, X, hX, p3⟩
  rw [ht, nI_add]
theorem pass_5 {T : Nat} {o : OB} (ht : o.1.2.2.2.2.2.2.2.2.2.2.2.2.1 = nI T) {t : Nat} (T9 : T ≤ 9999) (h1 : 1 ≤ t) (h2 : t ≤ 99) (h9 : 9999 < T + t) : F_pass o (nI t) = some (-5, o) := by
  have e : f_X7_errorOfPass o.1.2.2.2.2.2.2.2.2.2.2.2.2.1 (nI t) = some (-5) := by
    unfold f_X7_errorOfPass
    rw [show f_X7_within (nI t) 1 99 = some 1 from wi_1 (a := 1) (b := 99) h1 h2 (by decide), bn_some, if_pos n10, ht, nI_add, if_pos (show (9999 : Int32) < nI (T + t) from (nI_ltI (a := 9999) (by decide) (by omega)).mpr h9)]
  unfold F_pass f_X7_pass
  rw [e, bn_some, if_neg (show ¬ (-5 : Int32) = 0 by decide), bn_some]
theorem pass_x (o : OB) : F_pass o 0 = some (-2, o) := by
  unfold F_pass f_X7_pass
  have e : f_X7_errorOfPass o.1.2.2.2.2.2.2.2.2.2.2.2.2.1 0 = some (-2) := by
    unfold f_X7_errorOfPass
    rw [show f_X7_within 0 1 99 = some 0 from rfl, bn_some, if_neg nn0]
  rw [e, bn_some, if_neg (show ¬ (-2 : Int32) = 0 by decide), bn_some]
theorem set_x (o : OB) : F_set o 0 10 = some (-2, o) ∧ F_set o 4 1 = some (-2, o) := by
  constructor
  · unfold F_set f_X7_set
    rw [show f_X7_within 0 0 3 = some 1 from rfl, bn_some, if_neg n10, g04, g04, show f_X7_within 10 (fLe (0 : Int32).toNatClampNeg) (fMo (0 : Int32).toNatClampNeg) = some 0 from rfl, bn_some, if_neg nn0, bn_some]
  · unfold F_set f_X7_set
    rw [show f_X7_within 4 0 3 = some 0 from rfl, bn_some, if_pos e00, bn_some]
theorem save_v (o : OB) : F_save o 0 = some (o.1.2.1, (o.1, o.2.1, o.2.2.1, o.2.2.2.1, (fun j => if j = 0 then true else o.2.2.2.2.1 j), (fun j => if j = 0 then o.1 else o.2.2.2.2.2 j))) := by
  unfold F_save f_X7_save
  rw [if_pos (show (0 : Int32) ≤ 0 ∧ (0 : Int32) ≤ 1 by decide), bn_some]
  rfl
theorem shoot_v {n T z0 z1 z2 z3 : Nat} {o : OB} (h : SO n T z0 z1 z2 z3 o) (hh : HO o) (h9 : T + (15 * z0 + z1) ≤ 9999) : ∃ (hv : HIV) (cam : CAMV) (px' : Nat → Int32), F_shoot o = some (su 384 px', ((o.1.1, o.1.2.1, o.1.2.2.1, o.1.2.2.2.1, o.1.2.2.2.2.1, o.1.2.2.2.2.2.1, o.1.2.2.2.2.2.2.1, o.1.2.2.2.2.2.2.2.1, o.1.2.2.2.2.2.2.2.2.1, o.1.2.2.2.2.2.2.2.2.2.1, o.1.2.2.2.2.2.2.2.2.2.2.1, px', nI (T + (15 * z0 + z1)), o.1.2.2.2.2.2.2.2.2.2.2.2.2.2.1 + 1, o.1.2.2.2.2.2.2.2.2.2.2.2.2.2.2.1, o.1.2.2.2.2.2.2.2.2.2.2.2.2.2.2.2), cam, o.2.2.1, hv, o.2.2.2.2)) ∧ (∀ k, k < 384 → px' k = pic o.1.1 o.1.2.2.1 o.1.2.2.2.1 o.1.2.2.2.2.1 o.1.2.2.2.2.2.1 (LO o) o.1.2.2.2.2.2.2.2.2.2.2.2.2.2.2.1 o.1.2.2.2.2.2.2.2.2.2.2.2.2.2.2.2 n T z0 z1 k) ∧ ∃ X : Nat, X < 6 ∧ hv.1 = nI X := by
  obtain ⟨r, p1, X, hX, p3⟩ := rec_o hh
  have hs := seenC_of h
  obtain ⟨⟨n8, hn⟩, ⟨T9, ht⟩, ⟨a0, b0⟩, ⟨a1, a1', b1⟩, hT, hV, hB⟩ := id hs
  have e1 : f_X5_endOfPicture o.1.1 o.1.2.2.2.2.2.2.2.2.2.2.2.2.1 = some (nI (T + (15 * z0 + z1))) := by
    unfold f_X5_endOfPicture f_X5_beginOf
    rw [g04, c_0, b0, ht, show (15 : Int32) = nI 15 from rfl, pk_mul, nI_add, bn_some, g14, c_1, b1, nI_add, Nat.add_assoc]
  have e2 : f_X7_errorOfShoot o.1.1 o.1.2.2.2.2.2.2.2.2.2.2.2.2.1 = some 0 := by
    unfold f_X7_errorOfShoot
    rw [e1, bn_some, if_neg (show ¬ (9999 : Int32) < nI (T + (15 * z0 + z1)) from nI_nlt (a := 9999) h9 (by decide))]
  obtain ⟨q, t1, t2, t3, t4⟩ := take_c (ln := o.1.2.2.1) (hi := o.1.2.2.2.1) (ft := o.1.2.2.2.2.2.2.2.2.2.2.2.2.2.2.1) (fk := o.1.2.2.2.2.2.2.2.2.2.2.2.2.2.2.2) hs o.2.1.1 o.2.1.2.2 o.1.2.2.2.2.2.2.2.2.2.2.2.1 o.1.2.2.2.2.2.2.2.2.2.2.2.2.2.1
  unfold F_shoot f_X7_shoot
  rw [e2, bn_some, if_pos e00, p1, bn_some, t1, bn_some, all_c, bn_some, bn_some]
  refine ⟨(r.2.2.1, r.2.2.2, r.1, r.2.1), (q.1, o.2.1.2.1, q.2.1), q.2.2.2.2, ?_, t2, X, hX, p3⟩
  rw [← t3, ← t4]
theorem shoot_5 {n T z0 z1 z2 z3 : Nat} {o : OB} (h : SO n T z0 z1 z2 z3 o) (h9 : 9999 < T + (15 * z0 + z1)) : F_shoot o = some (-5, o) := by
  obtain ⟨⟨n8, hn⟩, ⟨T9, ht⟩, ⟨a0, b0⟩, ⟨a1, a1', b1⟩, hT, hV, hB⟩ := seenC_of h
  have e1 : f_X5_endOfPicture o.1.1 o.1.2.2.2.2.2.2.2.2.2.2.2.2.1 = some (nI (T + (15 * z0 + z1))) := by
    unfold f_X5_endOfPicture f_X5_beginOf
    rw [g04, c_0, b0, ht, show (15 : Int32) = nI 15 from rfl, pk_mul, nI_add, bn_some, g14, c_1, b1, nI_add, Nat.add_assoc]
  have e2 : f_X7_errorOfShoot o.1.1 o.1.2.2.2.2.2.2.2.2.2.2.2.2.1 = some (-5) := by
    unfold f_X7_errorOfShoot
    rw [e1, bn_some, if_pos (show (9999 : Int32) < nI (T + (15 * z0 + z1)) from (nI_ltI (a := 9999) (by decide) (by omega)).mpr h9)]
  unfold F_shoot f_X7_shoot
  rw [e2, bn_some, if_neg (show ¬ (-5 : Int32) = 0 by decide), bn_some]
/-! what is known holds on -/
theorem SI.set {n T z0 z1 z2 z3 k z : Nat} {se : Nat → Int32} {mn : Int32} {ln hi wi br sp si le un ul px : Nat → Int32} {tm ft fk : Int32} (h : SI n T z0 z1 z2 z3 se mn ln hi wi br sp si le un ul px tm ft fk) (hk : k < 4) (y0 : k = 0 → z ≤ 9) (y1 : k = 1 → 1 ≤ z ∧ z ≤ 20) (y2 : k = 2 → z ≤ 40) (y3 : k = 3 → 1 ≤ z ∧ z ≤ 4) : ∃ z0 z1 z2 z3, SI n T z0 z1 z2 z3 (upd se k (nI z)) mn ln hi wi br sp si le un ul px tm ft fk := by
  obtain ⟨hn, ht, ⟨a0, b0⟩, ⟨a1, a1', b1⟩, ⟨a2, b2⟩, ⟨a3, a3', b3⟩, hR⟩ := h
  refine ⟨if k = 0 then z else z0, if k = 1 then z else z1, if k = 2 then z else z2, if k = 3 then z else z3, hn, ht, ?_, ?_, ?_, ?_, hR⟩
  · by_cases q : k = 0
    · rw [if_pos q, q, upd_at]; exact ⟨y0 q, rfl⟩
    · rw [if_neg q, upd_ne _ (fun x => q x.symm)]; exact ⟨a0, b0⟩
  · by_cases q : k = 1
    · rw [if_pos q, q, upd_at]; exact ⟨(y1 q).1, (y1 q).2, rfl⟩
    · rw [if_neg q, upd_ne _ (fun x => q x.symm)]; exact ⟨a1, a1', b1⟩
  · by_cases q : k = 2
    · rw [if_pos q, q, upd_at]; exact ⟨y2 q, rfl⟩
    · rw [if_neg q, upd_ne _ (fun x => q x.symm)]; exact ⟨a2, b2⟩
  · by_cases q : k = 3
    · rw [if_pos q, q, upd_at]; exact ⟨(y3 q).1, (y3 q).2, rfl⟩
    · rw [if_neg q, upd_ne _ (fun x => q x.symm)]; exact ⟨a3, a3', b3⟩
theorem SI.thing {n T z0 z1 z2 z3 : Nat} {se : Nat → Int32} {mn : Int32} {ln hi wi br sp si le un ul px : Nat → Int32} {tm ft fk : Int32} (h : SI n T z0 z1 z2 z3 se mn ln hi wi br sp si le un ul px tm ft fk) (n8 : n < 8) {l f e w b : Nat} (hl : l ≤ 15) (hf : f ≤ 23) (he : 1 ≤ e ∧ e ≤ 16) (hw : 1 ≤ w ∧ w ≤ 24) (hb : 1 ≤ b ∧ b ≤ 9) : SI (n + 1) T z0 z1 z2 z3 se (nI (n + 1)) (upd ln n (nI l)) (upd hi n (nI e)) (upd wi n (nI w)) (upd br n (nI b)) (upd sp n 0) (upd si n (nI T)) (upd le n (nI f)) (upd un n (-6)) (upd ul n 0) px tm ft fk := by
  obtain ⟨hn, ⟨T9, ht⟩, h0, h1, h2, h3, hF, hT, hV, hB, hP⟩ := h
  refine ⟨⟨by omega, rfl⟩, ⟨T9, ht⟩, h0, h1, h2, h3, hF, ⟨by omega, fun i hi => ?_⟩, fun i hi => ?_, fun i hi => ?_, hP⟩
  · by_cases q : i = n
    · rw [q, upd_at, upd_at, upd_at, nI_T (by omega)]
      exact ⟨by decide, by omega, Or.inl rfl⟩
    · rw [upd_ne _ q, upd_ne _ q, upd_ne _ q]; exact hT.2 i (by omega)
  · by_cases q : i = n
    · rw [q, upd_at, upd_at, upd_at, upd_at]
      exact ⟨⟨l, hl, rfl⟩, ⟨e, he.1, he.2, rfl⟩, ⟨w, hw.1, hw.2, rfl⟩, ⟨b, hb.1, hb.2, rfl⟩⟩
    · rw [upd_ne _ q, upd_ne _ q, upd_ne _ q, upd_ne _ q]; exact hV i (by omega)
  · by_cases q : i = n
    · rw [q, lpI, upd_at, upd_at, upd_at, upd_at, upd_at, if_pos (by decide), nI_T (by omega), nI_T (by omega), show (0 : Int32).toInt = 0 from rfl]
      omega
    · rw [lp_cg hT T (fun i hi => upd_lt _ hi) (fun i hi => upd_lt _ hi) (fun i hi => upd_lt _ hi) (fun i hi => upd_lt _ hi) (fun i hi => upd_lt _ hi) 8 i (by omega)]
      exact hB i (by omega)
theorem SI.anew {n T z0 z1 z2 z3 : Nat} {se : Nat → Int32} {mn : Int32} {ln hi wi br sp si le un ul sp' si' le' un' ul' px : Nat → Int32} {tm ft fk : Int32} (h : SI n T z0 z1 z2 z3 se mn ln hi wi br sp si le un ul px tm ft fk) (hT' : ThOK n sp' si' un') (hE : ∀ k : Nat, k < n → lpI sp' si' le' un' ul' 8 k T = lpI sp si le un ul 8 k T) : SI n T z0 z1 z2 z3 se mn ln hi wi br sp' si' le' un' ul' px tm ft fk := by
  obtain ⟨hn, ht, h0, h1, h2, h3, hF, hT, hV, hB, hP⟩ := h
  exact ⟨hn, ht, h0, h1, h2, h3, hF, hT', hV, fun k hk => by rw [hE k hk]; exact hB k hk, hP⟩
theorem SI.flash {n T z0 z1 z2 z3 : Nat} {se : Nat → Int32} {mn : Int32} {ln hi wi br sp si le un ul px : Nat → Int32} {tm ft fk : Int32} (h : SI n T z0 z1 z2 z3 se mn ln hi wi br sp si le un ul px tm ft fk) {x d : Nat} (hx : x ≤ 99) (h1 : 1 ≤ d) (h2 : d ≤ 20) : SI n T z0 z1 z2 z3 se mn ln hi wi br sp si le un ul px tm (nI (T + x)) (nI d) := by
  obtain ⟨hn, ht, g0, g1, g2, g3, hF, hR⟩ := h
  exact ⟨hn, ht, g0, g1, g2, g3, Or.inr ⟨T + x, d, by omega, h1, h2, rfl, rfl⟩, hR⟩
theorem SI.retime {n T T' z0 z1 z2 z3 : Nat} {se : Nat → Int32} {mn : Int32} {ln hi wi br sp si le un ul px px' : Nat → Int32} {tm ft fk : Int32} (h : SI n T z0 z1 z2 z3 se mn ln hi wi br sp si le un ul px tm ft fk) (hTT : T ≤ T') (h9 : T' ≤ 9999) (hP' : PxB px') : SI n T' z0 z1 z2 z3 se mn ln hi wi br sp si le un ul px' (nI T') ft fk := by
  obtain ⟨hn, ht, g0, g1, g2, g3, hF, hT, hV, hB, hP⟩ := h
  exact ⟨hn, ⟨h9, rfl⟩, g0, g1, g2, g3, hF, hT, hV, hB.later hT (by omega), hP'⟩
theorem SI.cg {n T z0 z1 z2 z3 : Nat} {se se' : Nat → Int32} {mn : Int32} {ln hi wi br sp si le un ul px ln' hi' wi' br' sp' si' le' un' ul' px' : Nat → Int32} {tm ft fk : Int32} (h : SI n T z0 z1 z2 z3 se mn ln hi wi br sp si le un ul px tm ft fk) (q0 : ∀ j, j < 4 → se' j = se j) (q1 : ∀ j, j < 8 → ln' j = ln j) (q2 : ∀ j, j < 8 → hi' j = hi j) (q3 : ∀ j, j < 8 → wi' j = wi j) (q4 : ∀ j, j < 8 → br' j = br j) (q5 : ∀ j, j < 8 → sp' j = sp j) (q6 : ∀ j, j < 8 → si' j = si j) (q7 : ∀ j, j < 8 → le' j = le j) (q8 : ∀ j, j < 8 → un' j = un j) (q9 : ∀ j, j < 8 → ul' j = ul j) (q10 : ∀ j, j < 384 → px' j = px j) : SI n T z0 z1 z2 z3 se' mn ln' hi' wi' br' sp' si' le' un' ul' px' tm ft fk := by
  obtain ⟨⟨n8, hn⟩, ht, g0, g1, g2, g3, hF, hT, hV, hB, hP⟩ := h
  refine ⟨⟨n8, hn⟩, ht, by rw [q0 0 (by decide)]; exact g0, by rw [q0 1 (by decide)]; exact g1, by rw [q0 2 (by decide)]; exact g2, by rw [q0 3 (by decide)]; exact g3, hF, ⟨n8, fun i hi => ?_⟩, fun i hi => ?_, fun i hi => ?_, fun k hk => by rw [q10 k hk]; exact hP k hk⟩
  · rw [q5 i (by omega), q6 i (by omega), q8 i (by omega)]; exact hT.2 i hi
  · rw [q1 i (by omega), q2 i (by omega), q3 i (by omega), q4 i (by omega)]; exact hV i hi
  · rw [lp_cg hT T (fun i hi => q5 i (by omega)) (fun i hi => q6 i (by omega)) (fun i hi => q7 i (by omega)) (fun i hi => q8 i (by omega)) (fun i hi => q9 i (by omega)) 8 i hi]; exact hB i hi
theorem restore_v {n T z0 z1 z2 z3 : Nat} {o : OB} (hh : HO o) {v : SCV} (hp : o.2.2.2.2.1 0 = true) (hv0 : o.2.2.2.2.2 0 = v) (h : SI n T z0 z1 z2 z3 v.1 v.2.1 v.2.2.1 v.2.2.2.1 v.2.2.2.2.1 v.2.2.2.2.2.1 v.2.2.2.2.2.2.1 v.2.2.2.2.2.2.2.1 v.2.2.2.2.2.2.2.2.1 v.2.2.2.2.2.2.2.2.2.1 v.2.2.2.2.2.2.2.2.2.2.1 v.2.2.2.2.2.2.2.2.2.2.2.1 v.2.2.2.2.2.2.2.2.2.2.2.2.1 v.2.2.2.2.2.2.2.2.2.2.2.2.2.2.1 v.2.2.2.2.2.2.2.2.2.2.2.2.2.2.2) : ∃ o' : OB, F_restore o 0 = some (nI n, o') ∧ SO n T z0 z1 z2 z3 o' ∧ HO o' := by
  obtain ⟨r, p1, X, hX, p3⟩ := rec_o hh
  have hmn := h.1.2
  unfold F_restore f_X7_restore
  rw [if_pos (show (0 : Int32) ≤ 0 ∧ (0 : Int32) ≤ 1 by decide), c_0, if_pos hp, hv0]
  unfold f_X7_restore_a
  rw [show f_X7_within 0 0 1 = some 1 from rfl, bn_some, if_pos n10, gd_ok (show vp_in (0 : Int32) 2 from vp_in_nI (n := 0) (by decide) (by decide)), p1, bn_some]
  simp only [f_X5_copyFrom, f_X6_copyFrom, f_X3_copyFrom, bn_some]
  refine ⟨_, congrArg (fun z => some (z, _)) hmn, ?_, X, hX, p3⟩
  exact h.cg (fun j hj => sb_cpy0 (n := 4) hj) (fun j hj => sb_cpy0 (n := 8) hj) (fun j hj => sb_cpy0 (n := 8) hj) (fun j hj => sb_cpy0 (n := 8) hj) (fun j hj => sb_cpy0 (n := 8) hj) (fun j hj => sb_cpy0 (n := 8) hj) (fun j hj => sb_cpy0 (n := 8) hj) (fun j hj => sb_cpy0 (n := 8) hj) (fun j hj => sb_cpy0 (n := 8) hj) (fun j hj => sb_cpy0 (n := 8) hj) (fun j hj => sb_cpy0 (n := 384) hj)
