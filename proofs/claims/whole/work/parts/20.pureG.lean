theorem nI_sub {a b : Nat} (h : b ≤ a) : nI a - nI b = nI (a - b) := by
  rw [← iI_nat, ← iI_nat, ← iI_nat, iI_sub, Int.ofNat_sub h]
theorem ThR.cg {i : Nat} {ln hi wi br sp si le un ul S S' : Nat → Int32} (h : ThR i ln hi wi br sp si le un ul S) (i8 : i < 8) (e : ∀ j, j < 81 → S' j = S j) : ThR i ln hi wi br sp si le un ul S' := by
  unfold ThR at h ⊢
  rw [e _ (by omega), e _ (by omega), e _ (by omega), e _ (by omega), e _ (by omega), e _ (by omega), e _ (by omega), e _ (by omega), e _ (by omega)]
  exact h
/-- what a scene shows -/
abbrev SeenR (n T : Nat) (se : Nat → Int32) (mn : Int32) (ln hi wi br sp si le un ul : Nat → Int32) (tm ft fk : Int32) (z0 z1 : Nat) (S : Nat → Int32) : Prop :=
  (n ≤ 8 ∧ mn = nI n ∧ S 5 = nI n) ∧ (T ≤ 9999 ∧ tm = nI T ∧ S 4 = nI T) ∧ (z0 ≤ 9 ∧ se 0 = nI z0 ∧ S 0 = nI z0) ∧ (1 ≤ z1 ∧ z1 ≤ 20 ∧ se 1 = nI z1 ∧ S 1 = nI z1) ∧ S 2 = se 2 ∧ (S 8 = fk ∧ FlR ft fk (S 7)) ∧ ThOK n sp si un ∧ (∀ i : Nat, i < n → ThR i ln hi wi br sp si le un ul S) ∧ (∀ i : Nat, i < n → (∃ z : Nat, 1 ≤ z ∧ z ≤ 24 ∧ wi i = nI z) ∧ (∃ z : Nat, 1 ≤ z ∧ z ≤ 9 ∧ br i = nI z)) ∧ PosB n (T : Int) sp si le un ul
theorem ScR.seen {n T : Nat} {se : Nat → Int32} {mn : Int32} {ln hi wi br sp si le un ul px : Nat → Int32} {tm ps ft fk : Int32} {S : Nat → Int32} (h : ScR n T se mn ln hi wi br sp si le un ul px tm ps ft fk S) : ∃ z0 z1, SeenR n T se mn ln hi wi br sp si le un ul tm ft fk z0 z1 S := by
  obtain ⟨hN, hTT, ⟨z0, a0, b0, c0⟩, ⟨z1, a1, a1', b1, c1⟩, ⟨z2, a2, b2, c2⟩, h3, hF, h6, hT, hR, hV, hB, hP⟩ := h
  exact ⟨z0, z1, hN, hTT, ⟨a0, b0, c0⟩, ⟨a1, a1', b1, c1⟩, by rw [b2, c2], hF, hT, hR, fun i hi => (hV i hi).2.2, hB⟩
/-- a picture's pixels -/
def pic (se ln hi wi br : Nat → Int32) (L : Nat → Nat → Int) (ft fk : Int32) (n T z0 z1 k : Nat) : Int32 := exI se ln hi wi br L ft fk n (k / 24) (k % 24) (T + k / 24 * z0) z1
theorem take_c {n T z0 z1 : Nat} {se : Nat → Int32} {mn : Int32} {ln hi wi br sp si le un ul : Nat → Int32} {tm ft fk : Int32} {S : Nat → Int32} (h : SeenR n T se mn ln hi wi br sp si le un ul tm ft fk z0 z1 S) (lea ris px : Nat → Int32) (ps : Int32) : ∃ r, f_X0_takePicture lea ris se mn ln hi wi br sp si le un ul px tm ps ft fk = some r ∧ (∀ k, k < 384 → r.2.2.2.2 k = pic se ln hi wi br (LL sp si le un ul) ft fk n T z0 z1 k) ∧ r.2.2.1 = nI (T + (15 * z0 + z1)) ∧ r.2.2.2.1 = ps + 1 := by
  obtain ⟨⟨n8, hn, -⟩, ⟨T9, ht, -⟩, ⟨a0, b0, -⟩, ⟨a1, a1', b1, -⟩, -, -, hT, -, hV, hB⟩ := h
  unfold f_X0_takePicture
  have hbeg : ∀ l : Nat, f_X5_beginOf se tm (nI l) = some (nI (T + l * z0)) := fun l => by
    unfold f_X5_beginOf
    rw [g04, c_0, b0, ht, pk_mul, nI_add]
  have hend : f_X5_endOfPicture se tm = some (nI (T + (15 * z0 + z1))) := by
    unfold f_X5_endOfPicture
    rw [show (15 : Int32) = nI 15 from rfl, hbeg, bn_some, g14, c_1, b1, nI_add, Nat.add_assoc]
  obtain ⟨w, e, hw⟩ := loopI (fun N (v : (Nat → Int32) × (Nat → Int32) × (Nat → Int32)) i => f_X0_takePicture_L2 se mn ln hi wi br sp si le un ul tm ft fk (fun (w14 : Int32) (w15 : Nat → Int32) (w16 : Nat → Int32) (w17 : Nat → Int32) => bn (f_X5_endOfPicture se tm) (fun r18 => some (w15, w16, r18, ps + 1, w17))) N (nI i) v.1 v.2.1 v.2.2) 16 (fun v => some (v.1, v.2.1, nI (T + (15 * z0 + z1)), ps + 1, v.2.2)) (fun i v => ∀ k, k < 24 * i → v.2.2 k = pic se ln hi wi br (LL sp si le un ul) ft fk n T z0 z1 k) (fun N v h => by
    rw [f_X0_takePicture_L2_s, if_pos (by decide), hend, bn_some]) (fun N v i hi_ h => by
    have hz : i * z0 ≤ 15 * 9 := Nat.mul_le_mul (by omega) a0
    obtain ⟨r, e1, e2⟩ := expose_c (se := se) (ft := ft) (fk := fk) (ln := ln) (hi := hi) (br := br) (l := i) (fr := T + i * z0) (d := z1) v.2.1 v.1 hn hT hB (fun i hi => (hV i hi).1) (by omega) (by omega) a1'
    refine ⟨(r.2, r.1, va_cpy r.2 v.2.2 0 (i * 24) 24), ?_, fun k hk => ?_⟩
    · rw [f_X0_takePicture_L2_s, if_neg (show ¬ (16 : Int32) ≤ nI i from nI_ge hi_ (by decide)), hbeg, bn_some, g14, c_1, b1, e1, bn_some]
      have hp : f_X3_putLine v.2.2 r.2 (nI i) = some (va_cpy r.2 v.2.2 0 (i * 24) 24) := by
        unfold f_X3_putLine
        rw [show (24 : Int32) = nI 24 from rfl, pk_mul, gr_ok2 (nI_pos (by omega)) (by rw [nI_clamp (by omega)]; omega), nI_clamp (by omega), nI_clamp (by omega)]
        rfl
      rw [hp, bn_some, bd_eq, nI_1]
    · show va_cpy r.2 v.2.2 0 (i * 24) 24 k = _
      unfold va_cpy
      by_cases q : i * 24 ≤ k
      · rw [if_pos ⟨q, by omega⟩, Nat.zero_add, e2 _ (by omega)]
        unfold pic
        rw [show k / 24 = i by omega, show k % 24 = k - i * 24 by omega]
      · rw [if_neg (fun y => q y.1)]; exact h k (by omega)) 16 0 4000 (lea, ris, px) rfl (by decide) (fun k hk => absurd hk (by omega))
  exact ⟨_, e, fun k hk => hw k hk, rfl, rfl⟩
theorem bound_d {k z0 T z1 : Nat} (hk : k < 384) (T9 : T ≤ 9999) (a0 : z0 ≤ 9) (a1 : z1 ≤ 20) : T + k / 24 * z0 + z1 ≤ 20000 := by
  have hz : k / 24 * z0 ≤ 15 * 9 := Nat.mul_le_mul (by omega) a0
  omega
theorem exposed_at {n T z0 z1 : Nat} {se : Nat → Int32} {mn : Int32} {ln hi wi br sp si le un ul : Nat → Int32} {tm ft fk : Int32} {S S' : Nat → Int32} (h : SeenR n T se mn ln hi wi br sp si le un ul tm ft fk z0 z1 S) (e : ∀ j, j < 81 → S' j = S j) {l c fr : Nat} (hf : fr + z1 ≤ 20000) : f_X8_exposed S' (nI l) (nI c) (nI fr) = some (exI se ln hi wi br (LL sp si le un ul) ft fk n l c fr z1) := by
  obtain ⟨⟨n8, -, h5⟩, -, ⟨a0, -, c0⟩, ⟨a1, a1', -, c1⟩, h2, ⟨h8, hF⟩, hT, hR, hV, hB⟩ := h
  exact exposed_m hT (fun i hi => (hR i hi).cg (by omega) e) (by rw [e 5 (by decide), h5]) (by rw [e 1 (by decide), c1]) a1' (by rw [e 2 (by decide), h2]) (by rw [e 8 (by decide), h8]) (by rw [e 7 (by decide)]; exact hF) hf
theorem shoots_m {n T z0 z1 : Nat} {se : Nat → Int32} {mn : Int32} {ln hi wi br sp si le un ul : Nat → Int32} {tm ft fk : Int32} {S : Nat → Int32} (h : SeenR n T se mn ln hi wi br sp si le un ul tm ft fk z0 z1 S) : ∃ S', f_X8_shoots S = some (su 384 (pic se ln hi wi br (LL sp si le un ul) ft fk n T z0 z1), S') ∧ (∀ k, k < 384 → S' (81 + k) = pic se ln hi wi br (LL sp si le un ul) ft fk n T z0 z1 k) ∧ S' 4 = nI (T + (15 * z0 + z1)) ∧ S' 6 = S 6 + 1 ∧ ∀ j, j < 81 → ¬ j = 4 → ¬ j = 6 → S' j = S j := by
  obtain ⟨⟨n8, -, h5⟩, ⟨T9, -, h4⟩, ⟨a0, -, c0⟩, ⟨a1, a1', -, c1⟩, h2, ⟨h8, hF⟩, hT, hR, hV, hB⟩ := id h
  unfold f_X8_shoots
  obtain ⟨w, e, hw⟩ := loopI (fun N (v : Int32 × (Nat → Int32)) i => f_X8_shoots_L4 (fun (w11 : Int32) (w12 : Int32) (w13 : Nat → Int32) => gd 4 465 (gd 0 465 (gd 1 465 (gd 4 465 (bd (upd w13 (4 : Int32).toNatClampNeg ((w13 (4 : Int32).toNatClampNeg) + ((15 * (w13 (0 : Int32).toNatClampNeg)) + (w13 (1 : Int32).toNatClampNeg)))) (fun (y14 : Nat → Int32) => gd 6 465 (gd 6 465 (some ((w11, upd y14 (6 : Int32).toNatClampNeg ((y14 (6 : Int32).toNatClampNeg) + 1))))))))))) N v.1 (nI i) v.2) 384 (fun v => some (v.1, upd (upd v.2 4 (v.2 4 + (15 * v.2 0 + v.2 1))) 6 (v.2 6 + 1))) (fun i v => v.1 = su i (pic se ln hi wi br (LL sp si le un ul) ft fk n T z0 z1) ∧ (∀ k, k < i → v.2 (81 + k) = pic se ln hi wi br (LL sp si le un ul) ft fk n T z0 z1 k) ∧ ∀ j, j < 81 → v.2 j = S j) (fun N v h => by
    rw [f_X8_shoots_L4_s, if_pos (by decide)]
    simp only [m0, m1, m4, m6, c_0, c_1, c_4, c_6, bd_eq]
    rw [upd_ne (f := v.2) (k := 4) (j := 6) _ (by decide)]) (fun N v i hi_ hv => by
    obtain ⟨h1, h2', h3⟩ := hv
    refine ⟨(v.1 + pic se ln hi wi br (LL sp si le un ul) ft fk n T z0 z1 i, upd v.2 (81 + i) (pic se ln hi wi br (LL sp si le un ul) ft fk n T z0 z1 i)), ?_, by rw [h1, su], fun k hk => ?_, fun j hj => ?_⟩
    · rw [f_X8_shoots_L4_s, if_neg (show ¬ (384 : Int32) ≤ nI i from nI_ge hi_ (by decide)), m4, m0, c_0, c_4, h3 4 (by decide), h3 0 (by decide), h4, c0, show (24 : Int32) = nI 24 from rfl, show (81 : Int32) = nI 81 from rfl, pk_div (by omega) (by decide) (by decide), pk_mul, nI_sub (by omega), pk_mul, nI_add, nI_add, show i - i / 24 * 24 = i % 24 by omega, exposed_at h h3 (bound_d hi_ T9 a0 a1'), bn_some, gd_ok (vp_in_nI (by omega) (by decide)), nI_clamp (by omega), bd_eq, bd_eq, nI_1]
      rfl
    · show upd v.2 (81 + i) _ (81 + k) = _
      by_cases q : k = i
      · rw [q, upd_at]
      · rw [upd_ne _ (by omega)]; exact h2' k (by omega)
    · show upd v.2 (81 + i) _ j = _
      rw [upd_ne _ (by omega)]; exact h3 j hj) 384 0 4000 (0, S) rfl (by decide) ⟨rfl, fun k hk => absurd hk (by omega), fun j hj => rfl⟩
  obtain ⟨w1, w2, w3⟩ := hw
  refine ⟨_, by rw [← w1]; exact e, fun k hk => ?_, ?_, ?_, fun j hj j4 j6 => ?_⟩
  · rw [upd_ne _ (by omega), upd_ne _ (by omega)]; exact w2 k hk
  · rw [upd_ne _ (by decide), upd_at, w3 4 (by decide), w3 0 (by decide), w3 1 (by decide), h4, c0, c1, show (15 : Int32) = nI 15 from rfl, pk_mul, nI_add, nI_add]
  · rw [upd_at, w3 6 (by decide)]
  · rw [upd_ne _ j6, upd_ne _ j4]; exact w3 j hj
