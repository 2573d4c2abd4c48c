/-! the speed of a thing with all on which it rides -/
def spS (sp un : Nat → Int32) : Nat → Nat → Int32
  | 0, _ => 0
  | k + 1, i => sp i + (if un i < 0 then 0 else spS sp un k (un i).toNatClampNeg)
theorem goes_c {mn : Int32} {sp si un : Nat → Int32} {n : Nat} (hn : mn = nI n) (hT : ThOK n sp si un) : ∀ (i k N st : Nat) (v : Int32), i < n → i < k → i + 1 < N → st + i < 8 → f_X6_speedWithAllUnder_L7 mn sp un (fun (w13 : Int32) (w14 : Int32) (w15 : Int32) => some (w13)) N v (nI i) (nI st) = some (v + spS sp un k i) := by
  intro i
  induction i using Nat.strongRecOn with
  | ind i ih =>
    intro k N st v hi hk hN hst
    obtain ⟨k, rfl⟩ : ∃ z, k = z + 1 := ⟨k - 1, by omega⟩
    obtain ⟨N, rfl⟩ : ∃ z, N = z + 1 := ⟨N - 1, by omega⟩
    obtain ⟨hn8, hth⟩ := hT
    obtain ⟨-, -, hu⟩ := hth i hi
    have hin : vp_in (nI i) 8 := vp_in_nI (by omega) (by decide)
    have hc : (nI i).toNatClampNeg = i := nI_clamp (by omega)
    rw [f_X6_speedWithAllUnder_L7_s, if_neg (show ¬ (8 : Int32) ≤ nI st from nI_ge (a := st) (b := 8) (by omega) (by decide)), if_neg (nI_pos (by omega)), hn, if_neg (nI_ge hi (by omega)), gd_ok hin, hc, bd_eq, gd_ok hin, bd_eq, bd_eq, nI_1, spS]
    rcases hu with hu | ⟨j, hj, hu⟩
    · rw [hu, if_pos (show (-6 : Int32) < 0 by decide), Int32.add_zero]
      obtain ⟨N, rfl⟩ : ∃ z, N = z + 1 := ⟨N - 1, by omega⟩
      rw [f_X6_speedWithAllUnder_L7_s]
      by_cases h8 : 8 ≤ nI (st + 1)
      · rw [if_pos h8]
      · rw [if_neg h8, if_pos (show (-6 : Int32) < 0 by decide)]
    · rw [hu, if_neg (show ¬ nI j < 0 from nI_pos (by omega)), nI_clamp (show j < 2 ^ 31 by omega)]
      have := ih j hj k N (st + 1) (v + sp i) (by omega) (by omega) (by omega) (by omega)
      rw [hn] at this
      rw [this, Int32.add_assoc]
theorem goes_m {sp si le un ul ln hi wi br S : Nat → Int32} {n : Nat} (hT : ThOK n sp si un) (hR : ∀ i, i < n → ThR i ln hi wi br sp si le un ul S) : ∀ (i k N : Nat) (v : Int32), i < n → i < k → i + 1 < N → f_X8_goes_L4 S (fun (w9 : Int32) (w10 : Int32) => some (w9)) N v (nI i) = some (v + spS sp un k i) := by
  intro i
  induction i using Nat.strongRecOn with
  | ind i ih =>
    intro k N v hi_ hk hN
    obtain ⟨k, rfl⟩ : ∃ z, k = z + 1 := ⟨k - 1, by omega⟩
    obtain ⟨N, rfl⟩ : ∃ z, N = z + 1 := ⟨N - 1, by omega⟩
    obtain ⟨hn8, hth⟩ := id hT
    obtain ⟨-, -, hu⟩ := hth i hi_
    obtain ⟨e0, e1, e2, e3, e4, e5, e6, e7⟩ := (hR i hi_).its (by omega)
    obtain ⟨-, -, -, -, -, -, -, r7, r8⟩ := hR i hi_
    rw [f_X8_goes_L4_s, if_neg (nI_pos (by omega)), e5, bn_some, bd_eq, e7, bn_some, spS]
    rcases hu with hu | ⟨j, hj, hu⟩
    · rw [(r7 hu).1, hu, if_pos (show (-6 : Int32) < 0 by decide), Int32.add_zero]
      obtain ⟨N, rfl⟩ : ∃ z, N = z + 1 := ⟨N - 1, by omega⟩
      rw [f_X8_goes_L4_s, if_pos (show (-1 : Int32) < 0 by decide)]
    · rw [(r8 j (by omega) hu).1, hu, if_neg (show ¬ nI j < 0 from nI_pos (by omega)), nI_clamp (show j < 2 ^ 31 by omega)]
      rw [ih j hj k N _ (by omega) (by omega) (by omega), Int32.add_assoc]
theorem sim_of {n T : Nat} {se : Nat → Int32} {mn : Int32} {ln hi wi br sp si le un ul px : Nat → Int32} {tm ps ft fk : Int32} {S : Nat → Int32} (h : ScR n T se mn ln hi wi br sp si le un ul px tm ps ft fk S) (a b : Int32) : ∃ r, f_X7_of mn ln hi wi br sp si le un ul tm a b = some r ∧ f_X8_of S a b = some r := by
  obtain ⟨⟨n8, hn, h5⟩, ⟨T9, ht, h4⟩, -, -, -, -, -, -, hT, hR, hV, hB, hP⟩ := h
  unfold f_X7_of f_X8_of
  rcases thing_cases n8 hn h5 a with ⟨e1, e2, i, hi_, rfl⟩ | ⟨e1, e2⟩
  · rw [e1, e2, bn_some, bn_some, if_pos n10, if_pos n10]
    have hin : vp_in (nI i) 8 := vp_in_nI (by omega) (by decide)
    have hc : (nI i).toNatClampNeg = i := nI_clamp (by omega)
    obtain ⟨i0, i1, i2, i3, i4, i5, i6, i7⟩ := (hR i hi_).its (by omega)
    obtain ⟨-, -, -, -, -, -, -, r7, r8⟩ := hR i hi_
    obtain ⟨-, -, hu⟩ := hT.2 i hi_
    have eg : f_X6_speedWithAllUnder mn sp un (nI i) = some (spS sp un 8 i) := by
      have := goes_c hn hT i 8 4000 0 0 hi_ (by omega) (by omega) (by omega)
      rw [Int32.zero_add] at this
      exact this
    have em : f_X8_goes S (nI i) = some (spS sp un 8 i) := by
      have := goes_m hT hR i 8 4000 0 hi_ (by omega) (by omega)
      rw [Int32.zero_add] at this
      exact this
    have eu : (if 0 ≤ S (9 + 9 * i + 7) then some (S (9 + 9 * i + 7)) else some (-6)) = some (un i) := by
      rcases hu with hu | ⟨j, hj, hu⟩
      · rw [(r7 hu).1, if_neg (by decide), hu]
      · rw [(r8 j (by omega) hu).1, if_pos (nI_pos' (by omega)), hu]
    rw [ht, ← iI_nat T, left_x hn hT (by omega) (by omega) hi_, m4, c_4, h4, ← iI_nat T, left_m hT hR (by omega) (by omega) hi_, eg, em, i5, i7]
    simp only [gd_ok hin, hc, bn_some, jn_eq, eu]
    by_cases y0 : b = 0
    · rw [if_pos y0, if_pos y0, y0, i0]; exact ⟨_, rfl, rfl⟩
    rw [if_neg y0, if_neg y0]
    by_cases y1 : b = 1
    · rw [if_pos y1, if_pos y1]; exact ⟨_, rfl, rfl⟩
    rw [if_neg y1, if_neg y1]
    by_cases y2 : b = 2
    · rw [if_pos y2, if_pos y2, y2, i2]; exact ⟨_, rfl, rfl⟩
    rw [if_neg y2, if_neg y2]
    by_cases y3 : b = 3
    · rw [if_pos y3, if_pos y3, y3, i3]; exact ⟨_, rfl, rfl⟩
    rw [if_neg y3, if_neg y3]
    by_cases y4 : b = 4
    · rw [if_pos y4, if_pos y4, y4, i4]; exact ⟨_, rfl, rfl⟩
    rw [if_neg y4, if_neg y4]
    by_cases y5 : b = 5
    · rw [if_pos y5]; exact ⟨_, rfl, rfl⟩
    rw [if_neg y5]
    by_cases y6 : b = 6
    · rw [if_pos y6]; exact ⟨_, rfl, rfl⟩
    rw [if_neg y6]
    by_cases y7 : b = 7
    · rw [if_pos y7]; exact ⟨_, rfl, rfl⟩
    rw [if_neg y7]
    exact ⟨_, rfl, rfl⟩
  · rw [e1, e2, bn_some, bn_some, if_neg nn0, if_neg nn0]
    exact ⟨_, rfl, rfl⟩
theorem sim_seen {n T : Nat} {se : Nat → Int32} {mn : Int32} {ln hi wi br sp si le un ul px : Nat → Int32} {tm ps ft fk : Int32} {S : Nat → Int32} (h : ScR n T se mn ln hi wi br sp si le un ul px tm ps ft fk S) (upr ris : Nat → Int32) (a b d : Int32) : ∃ r r', f_X7_seen se mn ln hi wi br sp si le un ul tm ft fk upr ris a b d = some r ∧ f_X8_seen S a b d = some r' ∧ r.1 = r' := by
  obtain ⟨z0, z1, ⟨n8, hn, h5⟩, ⟨T9, ht, h4⟩, ⟨a0, b0, c0⟩, ⟨a1, a1', b1, c1⟩, h2, ⟨h8, hF⟩, hT, hR, hV, hB⟩ := h.seen
  unfold f_X7_seen f_X8_seen
  rcases place_cases a b with ⟨e1, e2, l, c, hl, hc, rfl, rfl⟩ | ⟨e1, e2⟩
  · rw [e1, e2, bn_some, bn_some, if_pos n10, if_pos n10, wi_eq, in_eq, bn_some, bn_some]
    rcases in_cases (a := d) (m := 99) (by decide) with ⟨e, t, ht99, rfl⟩ | e
    · rw [show (99 : Int32) = nI 99 from rfl, e, if_pos n10, if_neg n10, m4, c_4, h4, ht, nI_add, seen_m hT hR h5 h2 h8 hF (by omega)]
      unfold f_X0_brightnessAt
      obtain ⟨r, q1, q2⟩ := expose_c (se := se) (ft := ft) (fk := fk) (ln := ln) (hi := hi) (br := br) (l := l) (fr := T + t) (d := 1) ris upr hn hT hB (fun i hi => (hV i hi).1) (by omega) (by omega) (by decide)
      rw [show (1 : Int32) = nI 1 from rfl, q1, bn_some, gd_ok (vp_in_nI hc (by decide)), bn_some, bn_some]
      refine ⟨_, _, rfl, rfl, ?_⟩
      show r.2 (nI c).toNatClampNeg = _
      rw [nI_clamp (by omega), q2 c hc]
      show (0 : Int32) + seI _ _ _ _ _ _ _ _ _ _ _ _ = _
      rw [Int32.zero_add]; rfl
    · rw [show (99 : Int32) = nI 99 from rfl, e, if_neg nn0, if_pos e00]
      exact ⟨_, _, rfl, rfl, rfl⟩
  · rw [e1, e2, bn_some, bn_some, if_neg nn0, if_neg nn0]
    exact ⟨_, _, rfl, rfl, rfl⟩
theorem sim_leans {n T : Nat} {se : Nat → Int32} {mn : Int32} {ln hi wi br sp si le un ul px : Nat → Int32} {tm ps ft fk : Int32} {S : Nat → Int32} (h : ScR n T se mn ln hi wi br sp si le un ul px tm ps ft fk S) (a : Int32) : ∃ r, f_X7_leans se mn ln hi sp si le un ul tm a = some r ∧ f_X8_leans S a = some r := by
  obtain ⟨⟨n8, hn, h5⟩, ⟨T9, ht, h4⟩, ⟨z0, a0, b0, c0⟩, -, -, -, -, -, hT, hR, hV, hB, hP⟩ := h
  unfold f_X7_leans f_X8_leans
  rcases thing_cases n8 hn h5 a with ⟨e1, e2, i, hi_, rfl⟩ | ⟨e1, e2⟩
  · rw [e1, e2, bn_some, bn_some, if_pos n10, if_pos n10]
    have hin : vp_in (nI i) 8 := vp_in_nI (by omega) (by decide)
    have hc : (nI i).toNatClampNeg = i := nI_clamp (by omega)
    obtain ⟨i0, i1, i2, i3, i4, i5, i6, i7⟩ := (hR i hi_).its (by omega)
    obtain ⟨⟨L, L1, L2⟩, ⟨H, H1, H1', H2⟩, -, -⟩ := hV i hi_
    have hbeg : ∀ l : Nat, f_X5_beginOf se tm (nI l) = some (nI (T + l * z0)) := fun l => by
      unfold f_X5_beginOf
      rw [g04, c_0, b0, ht, pk_mul, nI_add]
    have hA : L * z0 ≤ 15 * 9 := Nat.mul_le_mul L1 a0
    have hD : (L + H - 1) * z0 ≤ 30 * 9 := Nat.mul_le_mul (by omega) a0
    have hD' : (H - 1) * z0 ≤ 15 * 9 := Nat.mul_le_mul (by omega) a0
    have e3 : L * z0 + (H - 1) * z0 = (L + H - 1) * z0 := by rw [← Nat.add_mul]; congr 1; omega
    have lx : ∀ t : Nat, t ≤ 20000 → f_X6_leftAt mn sp si le un ul (nI i) (nI t) = some (iI (lpI sp si le un ul 8 i t)) := fun t ht => by
      rw [← iI_nat t]; exact left_x hn hT (by omega) (by omega) hi_
    have lm : ∀ t : Nat, t ≤ 20000 → f_X8_left S (nI i) (nI t) = some (iI (lpI sp si le un ul 8 i t)) := fun t ht => by
      rw [← iI_nat t]; exact left_m hT hR (by omega) (by omega) hi_
    simp only [gd_ok hin, hc, bd_eq, m4, m0, c_4, c_0, i0, i2, bn_some, h4, c0, L2, H2]
    rw [nI_add, show (1 : Int32) = nI 1 from rfl, nI_sub (by omega), nI_sub (by omega), hbeg, hbeg, pk_mul, pk_mul, nI_add, nI_add, Nat.add_assoc, e3]
    simp only [bn_some]
    rw [lx _ (by omega), lx _ (by omega), lm _ (by omega), lm _ (by omega)]
    exact ⟨_, rfl, rfl⟩
  · rw [e1, e2, bn_some, bn_some, if_neg nn0, if_neg nn0]
    exact ⟨_, rfl, rfl⟩
/-! pixels that would be told otherwise -/
def ben (se ln hi wi br : Nat → Int32) (L : Nat → Nat → Int) (ft fk : Int32) (n T z0 z1 k : Nat) : Int32 := if pic se ln hi wi br L ft fk n T z0 z1 k = exI se ln hi wi br L ft fk n (k / 24) (k % 24) T z1 then 0 else 1
theorem sim_bent {n T : Nat} {se : Nat → Int32} {mn : Int32} {ln hi wi br sp si le un ul px : Nat → Int32} {tm ps ft fk : Int32} {S : Nat → Int32} (h : ScR n T se mn ln hi wi br sp si le un ul px tm ps ft fk S) (lea upr ris : Nat → Int32) : ∃ r r', f_X7_bent se mn ln hi wi br sp si le un ul tm ft fk lea upr ris = some r ∧ f_X8_bent S = some r' ∧ r.1 = r' := by
  obtain ⟨z0, z1, hs⟩ := h.seen
  obtain ⟨⟨n8, hn, h5⟩, ⟨T9, ht, h4⟩, ⟨a0, b0, c0⟩, ⟨a1, a1', b1, c1⟩, h2, ⟨h8, hF⟩, hT, hR, hV, hB⟩ := id hs
  have hbeg : ∀ l : Nat, f_X5_beginOf se tm (nI l) = some (nI (T + l * z0)) := fun l => by
    unfold f_X5_beginOf
    rw [g04, c_0, b0, ht, pk_mul, nI_add]
  have em : f_X8_bent S = some (su 384 (ben se ln hi wi br (LL sp si le un ul) ft fk n T z0 z1)) := by
    unfold f_X8_bent
    obtain ⟨w, e, hw⟩ := loopI (fun N v i => f_X8_bent_L4 S (fun (w12 : Int32) (w13 : Int32) => some (w12)) N v (nI i)) 384 (fun v => some v) (fun i v => v = su i (ben se ln hi wi br (LL sp si le un ul) ft fk n T z0 z1)) (fun N v h => by
      rw [f_X8_bent_L4_s, if_pos (by decide)]) (fun N v i hi_ h => by
      refine ⟨_, ?_, rfl⟩
      have hb := bound_d (z0 := z0) hi_ T9 a0 a1'
      rw [f_X8_bent_L4_s, if_neg (show ¬ (384 : Int32) ≤ nI i from nI_ge hi_ (by decide)), m4, m0, c_0, c_4, h4, c0, show (24 : Int32) = nI 24 from rfl, pk_div (by omega) (by decide) (by decide), pk_mul, nI_sub (by omega), pk_mul, nI_add, show i - i / 24 * 24 = i % 24 by omega, exposed_at hs (fun j _ => rfl) hb, bn_some, m4, exposed_at hs (fun j _ => rfl) (by omega), bn_some, h, su_s i]
      simp only [jn_eq, bd_eq, nI_1]
      unfold ben pic
      by_cases q : exI se ln hi wi br (LL sp si le un ul) ft fk n (i / 24) (i % 24) (T + i / 24 * z0) z1 = exI se ln hi wi br (LL sp si le un ul) ft fk n (i / 24) (i % 24) T z1
      · rw [if_pos q, if_neg (not_not_intro q)]
      · rw [if_neg q, if_pos q]) 384 0 4000 0 rfl (by decide) rfl
    rw [hw] at e
    exact e
  rw [em]
  unfold f_X7_bent f_X0_pixelsBent
  obtain ⟨w, e, hw⟩ := loopI (fun N (v : Int32 × (Nat → Int32) × (Nat → Int32) × (Nat → Int32)) i => f_X0_pixelsBent_L4 se mn ln hi wi br sp si le un ul tm ft fk (fun (w27 : Int32) (w28 : Int32) (w29 : Nat → Int32) (w30 : Nat → Int32) (w31 : Nat → Int32) => some ((w27, w29, w30, w31))) N v.1 (nI i) v.2.1 v.2.2.1 v.2.2.2) 16 (fun v => some v) (fun i v => v.1 = su i (fun l => su 24 (fun c => ben se ln hi wi br (LL sp si le un ul) ft fk n T z0 z1 (24 * l + c)))) (fun N v h => by
    rw [f_X0_pixelsBent_L4_s, if_pos (by decide)]) (fun N v i hi_ h => by
    have hz : i * z0 ≤ 15 * 9 := Nat.mul_le_mul (by omega) a0
    obtain ⟨r, e1, e2⟩ := expose_c (se := se) (ft := ft) (fk := fk) (ln := ln) (hi := hi) (br := br) (l := i) (fr := T + i * z0) (d := z1) v.2.2.2 v.2.1 hn hT hB (fun i hi => (hV i hi).1) (by omega) (by omega) a1'
    obtain ⟨r', e1', e2'⟩ := expose_c (se := se) (ft := ft) (fk := fk) (ln := ln) (hi := hi) (br := br) (l := i) (fr := T) (d := z1) r.1 v.2.2.1 hn hT hB (fun i hi => (hV i hi).1) (by omega) (by omega) a1'
    obtain ⟨w, e, hw⟩ := loopI (fun M x c => f_X0_pixelsBent_L54 r r' (fun (w23 : Int32) (w24 : Int32) => bd (nI i + 1) (fun x25 => f_X0_pixelsBent_L4 se mn ln hi wi br sp si le un ul tm ft fk (fun (w27 : Int32) (w28 : Int32) (w29 : Nat → Int32) (w30 : Nat → Int32) (w31 : Nat → Int32) => some ((w27, w29, w30, w31))) N w23 x25 r.2 r'.2 r'.1)) M x (nI c)) 24 (fun x => f_X0_pixelsBent_L4 se mn ln hi wi br sp si le un ul tm ft fk (fun (w27 : Int32) (w28 : Int32) (w29 : Nat → Int32) (w30 : Nat → Int32) (w31 : Nat → Int32) => some ((w27, w29, w30, w31))) N x (nI (i + 1)) r.2 r'.2 r'.1) (fun c x => x = v.1 + su c (fun c => ben se ln hi wi br (LL sp si le un ul) ft fk n T z0 z1 (24 * i + c))) (fun M x h => by
      rw [f_X0_pixelsBent_L54_s, if_pos (by decide), bd_eq, nI_1]) (fun M x c hc h => by
      refine ⟨_, ?_, rfl⟩
      have g : vp_in (nI c) 24 := vp_in_nI hc (by decide)
      rw [f_X0_pixelsBent_L54_s, if_neg (show ¬ (24 : Int32) ≤ nI c from nI_ge hc (by decide)), gd_ok g, gd_ok g, nI_clamp (by omega), e2 c hc, e2' c hc, bd_eq, bd_eq, bd_eq, nI_1 c, h, su_s c, ← Int32.add_assoc]
      have eb : ben se ln hi wi br (LL sp si le un ul) ft fk n T z0 z1 (24 * i + c) = if exI se ln hi wi br (LL sp si le un ul) ft fk n i c (T + i * z0) z1 = exI se ln hi wi br (LL sp si le un ul) ft fk n i c T z1 then 0 else 1 := by
        unfold ben pic
        rw [show (24 * i + c) / 24 = i by omega, show (24 * i + c) % 24 = c by omega]
      rw [eb]
      by_cases q : exI se ln hi wi br (LL sp si le un ul) ft fk n i c (T + i * z0) z1 = exI se ln hi wi br (LL sp si le un ul) ft fk n i c T z1
      · rw [if_pos q, if_pos q, Int32.add_zero]
      · rw [if_neg q, if_neg q]) 24 0 4000 v.1 rfl (by decide) (by rw [su, Int32.add_zero])
    refine ⟨(w, r.2, r'.2, r'.1), ?_, ?_⟩
    · rw [f_X0_pixelsBent_L4_s, if_neg (show ¬ (16 : Int32) ≤ nI i from nI_ge hi_ (by decide)), hbeg, bn_some, g14, c_1, b1, e1, bn_some, g14, ht, e1', bn_some]
      rw [ht] at e
      exact e
    · show w = _
      rw [hw, h, su_s i]) 16 0 4000 (0, lea, upr, ris) rfl (by decide) rfl
  rw [show (0 : Int32) = nI 0 from rfl] at e ⊢
  rw [e, bn_some]
  refine ⟨_, _, rfl, rfl, ?_⟩
  show w.1 = _
  rw [hw, ← su_mul 16 24]
