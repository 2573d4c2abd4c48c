/-! the calls that change -/
theorem ScR.retime {n T T' : Nat} {se : Nat → Int32} {mn : Int32} {ln hi wi br sp si le un ul px : Nat → Int32} {tm ps ft fk : Int32} {S : Nat → Int32} {px' : Nat → Int32} {ps' : Int32} {S' : Nat → Int32} (h : ScR n T se mn ln hi wi br sp si le un ul px tm ps ft fk S) (hTT : T ≤ T') (hT9 : T' ≤ 9999) (hS : ∀ j, j < 81 → ¬ j = 4 → ¬ j = 6 → S' j = S j) (h4' : S' 4 = nI T') (h6' : S' 6 = ps') (hP' : ∀ k : Nat, k < 384 → S' (81 + k) = px' k ∧ 0 ≤ px' k) : ScR n T' se mn ln hi wi br sp si le un ul px' (nI T') ps' ft fk S' := by
  obtain ⟨⟨n8, hn, h5⟩, ⟨T9, ht, h4⟩, ⟨z0, a0, b0, c0⟩, ⟨z1, a1, a1', b1, c1⟩, ⟨z2, a2, b2, c2⟩, ⟨z3, a3, a3', b3, c3⟩, ⟨h8, hF⟩, h6, hT, hR, hV, hB, hP⟩ := h
  have lw := hS
  exact ⟨⟨n8, hn, by rw [lw 5 (by decide) (by decide) (by decide), h5]⟩, ⟨hT9, rfl, h4'⟩, ⟨z0, a0, b0, by rw [lw 0 (by decide) (by decide) (by decide), c0]⟩, ⟨z1, a1, a1', b1, by rw [lw 1 (by decide) (by decide) (by decide), c1]⟩, ⟨z2, a2, b2, by rw [lw 2 (by decide) (by decide) (by decide), c2]⟩, ⟨z3, a3, a3', b3, by rw [lw 3 (by decide) (by decide) (by decide), c3]⟩, ⟨by rw [lw 8 (by decide) (by decide) (by decide), h8], by rw [lw 7 (by decide) (by decide) (by decide)]; exact hF⟩, h6', hT, fun i hi => (hR i hi).cg2 rfl rfl rfl rfl rfl rfl rfl rfl rfl (fun j h1 h2 => lw j (by omega) (by omega) (by omega)), hV, hB.later hT (by omega), hP'⟩
theorem pass_sim {n T t : Nat} {se : Nat → Int32} {mn : Int32} {ln hi wi br sp si le un ul px : Nat → Int32} {tm ps ft fk : Int32} {S : Nat → Int32} (h : ScR n T se mn ln hi wi br sp si le un ul px tm ps ft fk S) (ht9 : T + t ≤ 9999) : tm + nI t = nI (T + t) ∧ ScR n (T + t) se mn ln hi wi br sp si le un ul px (nI (T + t)) ps ft fk (upd S 4 (nI (T + t))) := by
  have hh := h
  obtain ⟨⟨n8, hn, h5⟩, ⟨T9, ht, h4⟩, ⟨z0, a0, b0, c0⟩, ⟨z1, a1, a1', b1, c1⟩, ⟨z2, a2, b2, c2⟩, ⟨z3, a3, a3', b3, c3⟩, ⟨h8, hF⟩, h6, hT, hR, hV, hB, hP⟩ := h
  refine ⟨by rw [ht, nI_add], hh.retime (by omega) ht9 (fun j _ j4 _ => upd_ne _ j4) (upd_at _ _ _) (by rw [upd_ne _ (by decide), h6]) (fun k hk => by rw [upd_ne _ (by omega)]; exact hP k hk)⟩
theorem flash_sim {n T a d : Nat} {se : Nat → Int32} {mn : Int32} {ln hi wi br sp si le un ul px : Nat → Int32} {tm ps ft fk : Int32} {S : Nat → Int32} (h : ScR n T se mn ln hi wi br sp si le un ul px tm ps ft fk S) (ha : a ≤ 99) (hd1 : 1 ≤ d) (hd : d ≤ 20) : f_X5_setFlash tm (nI a) (nI d) = some (nI (T + a), nI d) ∧ f_X8_flashes S (nI a) (nI d) = some (nI (T + a), upd (upd S 7 (nI (T + a))) 8 (nI d)) ∧ ScR n T se mn ln hi wi br sp si le un ul px tm ps (nI (T + a)) (nI d) (upd (upd S 7 (nI (T + a))) 8 (nI d)) := by
  obtain ⟨⟨n8, hn, h5⟩, ⟨T9, ht, h4⟩, ⟨z0, a0, b0, c0⟩, ⟨z1, a1, a1', b1, c1⟩, ⟨z2, a2, b2, c2⟩, ⟨z3, a3, a3', b3, c3⟩, ⟨h8, hF⟩, h6, hT, hR, hV, hB, hP⟩ := h
  have lw : ∀ j, ¬ j = 7 → ¬ j = 8 → upd (upd S 7 (nI (T + a))) 8 (nI d) j = S j := fun j x y => by rw [upd_ne _ y, upd_ne _ x]
  refine ⟨by unfold f_X5_setFlash; rw [ht, nI_add], ?_, ⟨n8, hn, by rw [lw 5 (by decide) (by decide), h5]⟩, ⟨T9, ht, by rw [lw 4 (by decide) (by decide), h4]⟩, ⟨z0, a0, b0, by rw [lw 0 (by decide) (by decide), c0]⟩, ⟨z1, a1, a1', b1, by rw [lw 1 (by decide) (by decide), c1]⟩, ⟨z2, a2, b2, by rw [lw 2 (by decide) (by decide), c2]⟩, ⟨z3, a3, a3', b3, by rw [lw 3 (by decide) (by decide), c3]⟩, ⟨upd_at _ _ _, Or.inr ⟨T + a, d, by omega, hd1, hd, rfl, by rw [upd_ne _ (by decide), upd_at], rfl⟩⟩, by rw [lw 6 (by decide) (by decide), h6], hT, fun i hi => (hR i hi).cg2 rfl rfl rfl rfl rfl rfl rfl rfl rfl (fun j h1 h2 => lw j (by omega) (by omega)), hV, hB, fun k hk => by rw [lw _ (by omega) (by omega)]; exact hP k hk⟩
  unfold f_X8_flashes
  rw [m4, m7, m8, m7, c_4, c_7, c_8, h4, nI_add, upd_ne (j := 7) (k := 8) _ (by decide), upd_at]
theorem pic_nn {n T z0 z1 k : Nat} {se ln hi wi br : Nat → Int32} {L : Nat → Nat → Int} {ft fk : Int32} (hb : ∀ i, i < n → ∃ z : Nat, 1 ≤ z ∧ z ≤ 9 ∧ br i = nI z) (n8 : n ≤ 8) (hz : z1 ≤ 20) : 0 ≤ pic se ln hi wi br L ft fk n T z0 z1 k := exI_nn hb n8 hz
theorem errS_cases {n T : Nat} {se : Nat → Int32} {mn : Int32} {ln hi wi br sp si le un ul px : Nat → Int32} {tm ps ft fk : Int32} {S : Nat → Int32} (h : ScR n T se mn ln hi wi br sp si le un ul px tm ps ft fk S) : (f_X7_errorOfShoot se tm = some (-5) ∧ f_X8_whyNotShoot S = some (-5)) ∨ (f_X7_errorOfShoot se tm = some 0 ∧ f_X8_whyNotShoot S = some 0 ∧ ∃ T' : Nat, T ≤ T' ∧ T' ≤ 9999 ∧ ∀ (lea ris : Nat → Int32), ∃ r S', f_X0_takePicture lea ris se mn ln hi wi br sp si le un ul px tm ps ft fk = some r ∧ f_X3_sumOfAll r.2.2.2.2 = some (su 384 r.2.2.2.2) ∧ f_X8_shoots S = some (su 384 r.2.2.2.2, S') ∧ ScR n T' se mn ln hi wi br sp si le un ul r.2.2.2.2 r.2.2.1 r.2.2.2.1 ft fk S') := by
  obtain ⟨z0, z1, hs⟩ := h.seen
  have hs' := hs
  obtain ⟨⟨n8, hn, h5⟩, ⟨T9, ht, h4⟩, ⟨a0, b0, c0⟩, ⟨a1, a1', b1, c1⟩, h2, hF, hT, hR, hV, hB⟩ := hs
  have e1 : f_X5_endOfPicture se tm = some (nI (T + (15 * z0 + z1))) := by
    unfold f_X5_endOfPicture f_X5_beginOf
    rw [g04, c_0, b0, ht, show (15 : Int32) = nI 15 from rfl, pk_mul, nI_add, bn_some, g14, c_1, b1, nI_add, Nat.add_assoc]
  unfold f_X7_errorOfShoot f_X8_whyNotShoot
  rw [e1, bn_some, m4, m0, m1, c_0, c_1, c_4, h4, c0, c1, show (15 : Int32) = nI 15 from rfl, pk_mul, nI_add, nI_add, Nat.add_assoc, show (9999 : Int32) = nI 9999 from rfl]
  by_cases q : T + (15 * z0 + z1) ≤ 9999
  · refine Or.inr ⟨by rw [if_neg (nI_nlt q (by decide))], by rw [if_pos ((nI_leI (by omega) (by decide)).mpr q)], T + (15 * z0 + z1), by omega, q, fun lea ris => ?_⟩
    obtain ⟨r, t1, t2, t3, t4⟩ := take_c hs' lea ris px ps
    obtain ⟨S', s1, s2, s3, s4, s5⟩ := shoots_m hs'
    have hsu : su 384 r.2.2.2.2 = su 384 (pic se ln hi wi br (LL sp si le un ul) ft fk n T z0 z1) := su_cg t2
    refine ⟨r, S', t1, all_c, by rw [hsu]; exact s1, ?_⟩
    rw [t3, t4]
    exact h.retime (by omega) q s5 s3 (by rw [s4, h.2.2.2.2.2.2.2.1]) (fun k hk => by rw [s2 k hk, t2 k hk]; exact ⟨rfl, pic_nn (fun i hi => (hV i hi).2) n8 a1'⟩)
  · exact Or.inl ⟨by rw [if_pos ((nI_ltI (by decide) (by omega)).mpr (by omega))], by rw [if_neg (fun z => q ((nI_leI (by omega) (by decide)).mp z))]⟩
theorem errF_cases (a b : Int32) : (f_X7_errorOfFlash a b = some (-2) ∧ f_X8_isFlash a b = some 0) ∨ (f_X7_errorOfFlash a b = some 0 ∧ f_X8_isFlash a b = some 1 ∧ ∃ x d : Nat, x ≤ 99 ∧ 1 ≤ d ∧ d ≤ 20 ∧ a = nI x ∧ b = nI d) := by
  unfold f_X7_errorOfFlash f_X8_isFlash
  simp only [wi_eq, in_eq, bn_some]
  rw [show (99 : Int32) = nI 99 from rfl, show (20 : Int32) = nI 20 from rfl]
  rcases in_cases (a := a) (m := 99) (by decide) with ⟨e1, x, hx, rfl⟩ | e1
  · rcases in_cases1 (a := b) (m := 20) (by decide) with ⟨e2, d, hd1, hd2, rfl⟩ | e2
    · exact Or.inr ⟨by rw [e1, e2]; rfl, by rw [e1, e2]; rfl, x, d, hx, hd1, hd2, rfl, rfl⟩
    · exact Or.inl ⟨by rw [e1, e2]; rfl, by rw [e1, e2]; rfl⟩
  · exact Or.inl ⟨by rw [e1]; rfl, by rw [e1]; rfl⟩
theorem errP_cases {n T : Nat} {se : Nat → Int32} {mn : Int32} {ln hi wi br sp si le un ul px : Nat → Int32} {tm ps ft fk : Int32} {S : Nat → Int32} (h : ScR n T se mn ln hi wi br sp si le un ul px tm ps ft fk S) (a : Int32) : (∃ e : Int32, f_X7_errorOfPass tm a = some e ∧ f_X8_whyNotPass S a = some e ∧ (e = -2 ∨ e = -5)) ∨ (f_X7_errorOfPass tm a = some 0 ∧ f_X8_whyNotPass S a = some 0 ∧ ∃ t : Nat, T + t ≤ 9999 ∧ a = nI t) := by
  obtain ⟨⟨n8, hn, h5⟩, ⟨T9, ht, h4⟩, ⟨z0, a0, b0, c0⟩, ⟨z1, a1, a1', b1, c1⟩, ⟨z2, a2, b2, c2⟩, ⟨z3, a3, a3', b3, c3⟩, ⟨h8, hF⟩, h6, hT, hR, hV, hB, hP⟩ := h
  unfold f_X7_errorOfPass f_X8_whyNotPass
  simp only [wi_eq, in_eq, bn_some, m4, c_4, h4, ht]
  rw [show (99 : Int32) = nI 99 from rfl, show (9999 : Int32) = nI 9999 from rfl]
  rcases in_cases1 (a := a) (m := 99) (by decide) with ⟨e1, t, ht1, ht2, rfl⟩ | e1
  · rw [e1, nI_add]
    by_cases q : T + t ≤ 9999
    · exact Or.inr ⟨by rw [if_pos n10, if_neg (nI_nlt q (by decide))], by rw [if_pos n10, if_pos ((nI_leI (by omega) (by decide)).mpr q)], t, q, rfl⟩
    · exact Or.inl ⟨-5, by rw [if_pos n10, if_pos ((nI_ltI (by decide) (by omega)).mpr (by omega))], by rw [if_pos n10, if_neg (fun z => q ((nI_leI (by omega) (by decide)).mp z))], Or.inr rfl⟩
  · rw [e1]
    exact Or.inl ⟨-2, by rw [if_neg nn0], by rw [if_neg nn0], Or.inl rfl⟩
theorem sim_flash {n T : Nat} {se : Nat → Int32} {mn : Int32} {ln hi wi br sp si le un ul px : Nat → Int32} {tm ps ft fk : Int32} {S : Nat → Int32} (h : ScR n T se mn ln hi wi br sp si le un ul px tm ps ft fk S) {nx hm : Int32} {pr : Nat → Bool} {sv : Nat → SCV} {kn : Int32} {past : Nat → Int32} (hH : HiR nx hm pr sv kn past) (a b : Int32) : ∃ r r', f_X7_flash se mn ln hi wi br sp si le un ul px tm ps ft fk nx hm pr sv a b = some r ∧ f_X8_flash kn S past a b = some r' ∧ r.1 = r'.1 ∧ (∃ n T, ScR n T se mn ln hi wi br sp si le un ul px tm ps r.2.2.2.1 r.2.2.2.2.1 r'.2.2.1) ∧ HiR r.2.2.2.2.2.1 r.2.2.2.2.2.2 r.2.1 r.2.2.1 r'.2.1 r'.2.2.2 := by
  unfold f_X7_flash f_X8_flash
  rcases errF_cases a b with ⟨e1, e2⟩ | ⟨e1, e2, x, d, hx, hd1, hd, rfl, rfl⟩
  · rw [e1, e2, bn_some, bn_some, if_neg (show ¬ (-2 : Int32) = 0 by decide), if_neg nn0]
    exact ⟨_, _, rfl, rfl, rfl, ⟨n, T, h⟩, hH⟩
  · obtain ⟨q1, q2, q3⟩ := flash_sim h hx hd1 hd
    obtain ⟨r1, r2, p1, p2, p3⟩ := sim_record h hH
    rw [e1, e2, bn_some, bn_some, if_pos e00, if_pos n10, p1, p2, bn_some, bn_some, q1, q2, bn_some, bn_some]
    exact ⟨_, _, rfl, rfl, rfl, ⟨n, T, q3⟩, p3⟩
theorem sim_pass {n T : Nat} {se : Nat → Int32} {mn : Int32} {ln hi wi br sp si le un ul px : Nat → Int32} {tm ps ft fk : Int32} {S : Nat → Int32} (h : ScR n T se mn ln hi wi br sp si le un ul px tm ps ft fk S) {nx hm : Int32} {pr : Nat → Bool} {sv : Nat → SCV} {kn : Int32} {past : Nat → Int32} (hH : HiR nx hm pr sv kn past) (a : Int32) : ∃ r r', f_X7_pass se mn ln hi wi br sp si le un ul px tm ps ft fk nx hm pr sv a = some r ∧ f_X8_pass kn S past a = some r' ∧ r.1 = r'.1 ∧ (∃ n T, ScR n T se mn ln hi wi br sp si le un ul px r.2.2.2.1 ps ft fk r'.2.2.1) ∧ HiR r.2.2.2.2.1 r.2.2.2.2.2 r.2.1 r.2.2.1 r'.2.1 r'.2.2.2 := by
  unfold f_X7_pass f_X8_pass
  rcases errP_cases h a with ⟨e, e1, e2, he⟩ | ⟨e1, e2, t, ht, rfl⟩
  · rw [e1, e2, bn_some, bn_some, if_neg (show ¬ e = 0 by rcases he with rfl | rfl <;> decide), if_neg (show ¬ 0 ≤ e by rcases he with rfl | rfl <;> decide)]
    exact ⟨_, _, rfl, rfl, rfl, ⟨n, T, h⟩, hH⟩
  · obtain ⟨q1, q2⟩ := pass_sim h ht
    obtain ⟨r1, r2, p1, p2, p3⟩ := sim_record h hH
    have h4 := h.2.1.2.2
    rw [e1, e2, bn_some, bn_some, if_pos e00, if_pos (show (0 : Int32) ≤ 0 by decide), p1, p2, bn_some, bn_some, q1, m4, m4, m4, c_4, h4, nI_add, upd_at]
    exact ⟨_, _, rfl, rfl, rfl, ⟨n, T + t, q2⟩, p3⟩
theorem sim_shoot {n T : Nat} {se : Nat → Int32} {mn : Int32} {ln hi wi br sp si le un ul px : Nat → Int32} {tm ps ft fk : Int32} {S : Nat → Int32} (h : ScR n T se mn ln hi wi br sp si le un ul px tm ps ft fk S) {nx hm : Int32} {pr : Nat → Bool} {sv : Nat → SCV} {kn : Int32} {past : Nat → Int32} (hH : HiR nx hm pr sv kn past) (lea ris : Nat → Int32) : ∃ r r', f_X7_shoot se mn ln hi wi br sp si le un ul px tm ps ft fk lea ris nx hm pr sv = some r ∧ f_X8_shoot kn S past = some r' ∧ r.1 = r'.1 ∧ (∃ n T, ScR n T se mn ln hi wi br sp si le un ul r.2.2.2.2.2.1 r.2.2.2.1 r.2.2.2.2.1 ft fk r'.2.2.1) ∧ HiR r.2.2.2.2.2.2.2.2.1 r.2.2.2.2.2.2.2.2.2 r.2.1 r.2.2.1 r'.2.1 r'.2.2.2 := by
  unfold f_X7_shoot f_X8_shoot
  rcases errS_cases h with ⟨e1, e2⟩ | ⟨e1, e2, T', t1, t2, hall⟩
  · rw [e1, e2, bn_some, bn_some, if_neg (show ¬ (-5 : Int32) = 0 by decide), if_neg (show ¬ (0 : Int32) ≤ -5 by decide)]
    exact ⟨_, _, rfl, rfl, rfl, ⟨n, T, h⟩, hH⟩
  · obtain ⟨r, S', q1, q2, q3, q4⟩ := hall lea ris
    obtain ⟨r1, r2, p1, p2, p3⟩ := sim_record h hH
    rw [e1, e2, bn_some, bn_some, if_pos e00, if_pos (show (0 : Int32) ≤ 0 by decide), p1, p2, bn_some, bn_some, q1, q3, bn_some, bn_some, q2, bn_some]
    exact ⟨_, _, rfl, rfl, rfl, ⟨n, T', q4⟩, p3⟩
theorem sim_thing {n T : Nat} {se : Nat → Int32} {mn : Int32} {ln hi wi br sp si le un ul px : Nat → Int32} {tm ps ft fk : Int32} {S : Nat → Int32} (h : ScR n T se mn ln hi wi br sp si le un ul px tm ps ft fk S) {nx hm : Int32} {pr : Nat → Bool} {sv : Nat → SCV} {kn : Int32} {past : Nat → Int32} (hH : HiR nx hm pr sv kn past) (a b c d e : Int32) : ∃ r r', f_X7_thing se mn ln hi wi br sp si le un ul px tm ps ft fk nx hm pr sv a b c d e = some r ∧ f_X8_thing kn S past a b c d e = some r' ∧ r.1 = r'.1 ∧ (∃ n T, ScR n T se r.2.2.2.1 r.2.2.2.2.1 r.2.2.2.2.2.1 r.2.2.2.2.2.2.1 r.2.2.2.2.2.2.2.1 r.2.2.2.2.2.2.2.2.1 r.2.2.2.2.2.2.2.2.2.1 r.2.2.2.2.2.2.2.2.2.2.1 r.2.2.2.2.2.2.2.2.2.2.2.1 r.2.2.2.2.2.2.2.2.2.2.2.2.1 px tm ps ft fk r'.2.2.1) ∧ HiR r.2.2.2.2.2.2.2.2.2.2.2.2.2.1 r.2.2.2.2.2.2.2.2.2.2.2.2.2.2 r.2.1 r.2.2.1 r'.2.1 r'.2.2.2 := by
  unfold f_X7_thing f_X8_thing
  rcases errT_cases h.1.1 h.1.2.1 h.1.2.2 a b c d e with ⟨x, e1, e2, he⟩ | ⟨e1, e2, n8, l, f, hh, w, z, hl, hf, hh1, hw, hz, rfl, rfl, rfl, rfl, rfl⟩
  · rw [e1, e2, bn_some, bn_some, if_neg (show ¬ x = 0 by rcases he with rfl | rfl <;> decide), if_neg (show ¬ 0 ≤ x by rcases he with rfl | rfl <;> decide)]
    exact ⟨_, _, rfl, rfl, rfl, ⟨n, T, h⟩, hH⟩
  · obtain ⟨q1, S', q2, q3⟩ := add_sim h n8 hl hf hh1 hw hz
    obtain ⟨r1, r2, p1, p2, p3⟩ := sim_record h hH
    rw [e1, e2, bn_some, bn_some, if_pos e00, if_pos (show (0 : Int32) ≤ 0 by decide), p1, p2, bn_some, bn_some, q1, q2, bn_some, bn_some]
    exact ⟨_, _, rfl, rfl, rfl, ⟨n + 1, T, q3⟩, p3⟩
theorem spd_cases (a : Int32) : (f_X7_isSpeed a = some 0 ∧ f_X8_in a (-40) 40 = some 0) ∨ (f_X7_isSpeed a = some 1 ∧ f_X8_in a (-40) 40 = some 1 ∧ -40 ≤ a.toInt ∧ a.toInt ≤ 40) := by
  unfold f_X7_isSpeed
  rw [wi_eq, in_eq, bn_some, gb_ok (bI_01 _)]
  by_cases q : -40 ≤ a ∧ a ≤ 40
  · have e : bI (-40 ≤ a ∧ a ≤ 40) = 1 := if_pos q
    rw [e]
    refine Or.inr ⟨rfl, rfl, ?_, ?_⟩
    · exact Int32.le_iff_toInt_le.mp q.1
    · exact Int32.le_iff_toInt_le.mp q.2
  · have e : bI (-40 ≤ a ∧ a ≤ 40) = 0 := if_neg q
    rw [e]
    exact Or.inl ⟨rfl, rfl⟩
theorem sim_speed {n T : Nat} {se : Nat → Int32} {mn : Int32} {ln hi wi br sp si le un ul px : Nat → Int32} {tm ps ft fk : Int32} {S : Nat → Int32} (h : ScR n T se mn ln hi wi br sp si le un ul px tm ps ft fk S) {nx hm : Int32} {pr : Nat → Bool} {sv : Nat → SCV} {kn : Int32} {past : Nat → Int32} (hH : HiR nx hm pr sv kn past) (a b : Int32) : ∃ r r', f_X7_speed se mn ln hi wi br sp si le un ul px tm ps ft fk nx hm pr sv a b = some r ∧ f_X8_speed kn S past a b = some r' ∧ r.1 = r'.1 ∧ (∃ n T, ScR n T se mn ln hi wi br r.2.2.2.1 r.2.2.2.2.1 r.2.2.2.2.2.1 r.2.2.2.2.2.2.1 r.2.2.2.2.2.2.2.1 px tm ps ft fk r'.2.2.1) ∧ HiR r.2.2.2.2.2.2.2.2.1 r.2.2.2.2.2.2.2.2.2 r.2.1 r.2.2.1 r'.2.1 r'.2.2.2 := by
  unfold f_X7_speed f_X8_speed
  rcases thing_cases h.1.1 h.1.2.1 h.1.2.2 a with ⟨e1, e2, i, hi_, rfl⟩ | ⟨e1, e2⟩
  · rw [e1, e2, bn_some, bn_some, if_pos n10, if_pos n10]
    rcases spd_cases b with ⟨e3, e4⟩ | ⟨e3, e4, hb⟩
    · rw [e3, e4, bn_some, bn_some, if_neg nn0, if_neg nn0]
      exact ⟨_, _, rfl, rfl, rfl, ⟨n, T, h⟩, hH⟩
    · obtain ⟨r1, r2, p1, p2, p3⟩ := sim_record h hH
      have hh := h
      obtain ⟨⟨n8, hn, h5⟩, ⟨T9, ht, h4⟩, ⟨z0, a0, b0, c0⟩, ⟨z1, a1, a1', b1, c1⟩, ⟨z2, a2, b2, c2⟩, ⟨z3, a3, a3', b3, c3⟩, ⟨h8, hF⟩, h6, hT, hR, hV, hB, hP⟩ := h
      have g : vp_in (nI i) 8 := vp_in_nI (by omega) (by decide)
      have hc : (nI i).toNatClampNeg = i := nI_clamp (by omega)
      obtain ⟨i0, i1, i2, i3, i4, i5, i6, i7⟩ := (hR i hi_).its (by omega)
      obtain ⟨-, -, -, -, -, -, -, r7, r8⟩ := hR i hi_
      have hu : (un i = -6 ∧ S (9 + 9 * i + 7) = -1) ∨ ∃ j : Nat, j < i ∧ un i = nI j ∧ S (9 + 9 * i + 7) = nI j := by
        rcases (hT.2 i hi_).2.2 with hu | ⟨j, hj, hu⟩
        · exact Or.inl ⟨hu, (r7 hu).1⟩
        · exact Or.inr ⟨j, hj, hu, (r8 j (by omega) hu).1⟩
      obtain ⟨r, S', q1, q2, q3⟩ := anew_sim hh hi_ hb hu
      rw [e3, e4, bn_some, bn_some, if_pos n10, if_pos n10, p1, p2, bn_some, bn_some, i5, i7, bn_some, bn_some, q2, bn_some]
      simp only [gd_ok g, hc, bd_eq, q1, bn_some]
      exact ⟨_, _, rfl, rfl, rfl, ⟨n, T, q3⟩, p3⟩
  · rw [e1, e2, bn_some, bn_some, if_neg nn0, if_neg nn0]
    exact ⟨_, _, rfl, rfl, rfl, ⟨n, T, h⟩, hH⟩
theorem sim_ride {n T : Nat} {se : Nat → Int32} {mn : Int32} {ln hi wi br sp si le un ul px : Nat → Int32} {tm ps ft fk : Int32} {S : Nat → Int32} (h : ScR n T se mn ln hi wi br sp si le un ul px tm ps ft fk S) {nx hm : Int32} {pr : Nat → Bool} {sv : Nat → SCV} {kn : Int32} {past : Nat → Int32} (hH : HiR nx hm pr sv kn past) (a b : Int32) : ∃ r r', f_X7_ride se mn ln hi wi br sp si le un ul px tm ps ft fk nx hm pr sv a b = some r ∧ f_X8_ride kn S past a b = some r' ∧ r.1 = r'.1 ∧ (∃ n T, ScR n T se mn ln hi wi br r.2.2.2.1 r.2.2.2.2.1 r.2.2.2.2.2.1 r.2.2.2.2.2.2.1 r.2.2.2.2.2.2.2.1 px tm ps ft fk r'.2.2.1) ∧ HiR r.2.2.2.2.2.2.2.2.1 r.2.2.2.2.2.2.2.2.2 r.2.1 r.2.2.1 r'.2.1 r'.2.2.2 := by
  unfold f_X7_ride f_X8_ride
  rcases thing_cases h.1.1 h.1.2.1 h.1.2.2 a with ⟨e1, e2, i, hi_, rfl⟩ | ⟨e1, e2⟩
  · rw [e1, e2, bn_some, bn_some, if_pos n10, if_pos n10]
    simp only [jn_eq]
    obtain ⟨r1, r2, p1, p2, p3⟩ := sim_record h hH
    have hh := h
    obtain ⟨⟨n8, hn, h5⟩, ⟨T9, ht, h4⟩, ⟨z0, a0, b0, c0⟩, ⟨z1, a1, a1', b1, c1⟩, ⟨z2, a2, b2, c2⟩, ⟨z3, a3, a3', b3, c3⟩, ⟨h8, hF⟩, h6, hT, hR, hV, hB, hP⟩ := h
    have g : vp_in (nI i) 8 := vp_in_nI (by omega) (by decide)
    have hc : (nI i).toNatClampNeg = i := nI_clamp (by omega)
    obtain ⟨i0, i1, i2, i3, i4, i5, i6, i7⟩ := (hR i hi_).its (by omega)
    obtain ⟨-, -, -, -, -, -, -, r7, r8⟩ := hR i hi_
    have hsp := (hT.2 i hi_).1
    have eu : ∀ (X : Nat → Int32) (y : Int32) (z : Nat → Int32), (if 0 ≤ S (9 + 9 * i + 7) then some (S (9 + 9 * i + 7), y, X, z) else some (-6, y, X, z)) = some (un i, y, X, z) := fun X y z => by
      rcases (hT.2 i hi_).2.2 with hu | ⟨j, hj, hu⟩
      · rw [(r7 hu).1, if_neg (by decide), hu]
      · rw [(r8 j (by omega) hu).1, if_pos (nI_pos' (by omega)), hu]
    unfold f_X7_canRide
    by_cases q : b = -6
    · obtain ⟨r, S', q1, q2, q3⟩ := anew_sim (u := b) (u' := -1) hh hi_ hsp (Or.inl ⟨q, rfl⟩)
      rw [if_pos q, if_pos q, bn_some, if_pos n10, p1, p2, bn_some, bn_some, i7, i5, bn_some, bn_some, if_neg (not_not_intro q), q2]
      simp only [gd_ok g, hc, bd_eq, q1, bn_some, eu]
      exact ⟨_, _, rfl, rfl, rfl, ⟨n, T, q3⟩, p3⟩
    · rw [if_neg q, if_neg q, wi_eq, in_eq, bn_some, bn_some]
      by_cases q2 : 0 ≤ b ∧ b ≤ nI i - 1
      · have i1 : 1 ≤ i := by
          rcases Nat.eq_zero_or_pos i with y | y
          · rw [y] at q2
            exact absurd (Int32.le_trans q2.1 q2.2) (by decide)
          · exact y
        rw [nI_p i1] at q2 ⊢
        have hx : ¬ bI (0 ≤ b ∧ b ≤ nI (i - 1)) = 0 := fun z => (bI_0 _).mp z q2
        obtain ⟨j, hj, rfl⟩ := nI_of2 (x := b) (M := nI (i - 1)) (n := i - 1) (nI_toInt (by omega)) (Int32.not_lt.mpr q2.1) q2.2
        obtain ⟨r, S', s1, s2, s3⟩ := anew_sim (u := nI j) (u' := nI j) hh hi_ hsp (Or.inr ⟨j, by omega, rfl, rfl⟩)
        rw [if_neg hx, bn_some, if_pos n10, if_pos hx, p1, p2, bn_some, bn_some, i7, i5, bn_some, bn_some, if_pos q, s2]
        simp only [gd_ok g, hc, bd_eq, s1, bn_some, eu]
        exact ⟨_, _, rfl, rfl, rfl, ⟨n, T, s3⟩, p3⟩
      · have hx : bI (0 ≤ b ∧ b ≤ nI i - 1) = 0 := (bI_0 _).mpr q2
        rw [if_pos hx, bn_some, if_neg nn0, if_neg (not_not_intro hx)]
        exact ⟨_, _, rfl, rfl, rfl, ⟨n, T, hh⟩, hH⟩
  · rw [e1, e2, bn_some, bn_some, if_neg nn0, if_neg nn0]
    exact ⟨_, _, rfl, rfl, rfl, ⟨n, T, h⟩, hH⟩
theorem ScR.set {n T k z : Nat} {se : Nat → Int32} {mn : Int32} {ln hi wi br sp si le un ul px : Nat → Int32} {tm ps ft fk : Int32} {S : Nat → Int32} (h : ScR n T se mn ln hi wi br sp si le un ul px tm ps ft fk S) (hk : k < 4) (y0 : k = 0 → z ≤ 9) (y1 : k = 1 → 1 ≤ z ∧ z ≤ 20) (y2 : k = 2 → z ≤ 40) (y3 : k = 3 → 1 ≤ z ∧ z ≤ 4) : ScR n T (upd se k (nI z)) mn ln hi wi br sp si le un ul px tm ps ft fk (upd S k (nI z)) := by
  obtain ⟨⟨n8, hn, h5⟩, ⟨T9, ht, h4⟩, ⟨z0, a0, b0, c0⟩, ⟨z1, a1, a1', b1, c1⟩, ⟨z2, a2, b2, c2⟩, ⟨z3, a3, a3', b3, c3⟩, ⟨h8, hF⟩, h6, hT, hR, hV, hB, hP⟩ := h
  have lw : ∀ j, 4 ≤ j → upd S k (nI z) j = S j := fun j x => upd_ne _ (by omega)
  refine ⟨⟨n8, hn, by rw [lw 5 (by decide), h5]⟩, ⟨T9, ht, by rw [lw 4 (by decide), h4]⟩, ?_, ?_, ?_, ?_, ⟨by rw [lw 8 (by decide), h8], by rw [lw 7 (by decide)]; exact hF⟩, by rw [lw 6 (by decide), h6], hT, fun i hi => (hR i hi).cg2 rfl rfl rfl rfl rfl rfl rfl rfl rfl (fun j h1 h2 => lw j (by omega)), hV, hB, fun k' hk' => by rw [lw _ (by omega)]; exact hP k' hk'⟩
  · by_cases q : k = 0
    · rw [q, upd_at, upd_at]; exact ⟨z, y0 q, rfl, rfl⟩
    · rw [upd_ne _ (fun x => q x.symm), upd_ne _ (fun x => q x.symm)]; exact ⟨z0, a0, b0, c0⟩
  · by_cases q : k = 1
    · rw [q, upd_at, upd_at]; exact ⟨z, (y1 q).1, (y1 q).2, rfl, rfl⟩
    · rw [upd_ne _ (fun x => q x.symm), upd_ne _ (fun x => q x.symm)]; exact ⟨z1, a1, a1', b1, c1⟩
  · by_cases q : k = 2
    · rw [q, upd_at, upd_at]; exact ⟨z, y2 q, rfl, rfl⟩
    · rw [upd_ne _ (fun x => q x.symm), upd_ne _ (fun x => q x.symm)]; exact ⟨z2, a2, b2, c2⟩
  · by_cases q : k = 3
    · rw [q, upd_at, upd_at]; exact ⟨z, (y3 q).1, (y3 q).2, rfl, rfl⟩
    · rw [upd_ne _ (fun x => q x.symm), upd_ne _ (fun x => q x.symm)]; exact ⟨z3, a3, a3', b3, c3⟩
theorem ScR.se_eq {n T k : Nat} {se : Nat → Int32} {mn : Int32} {ln hi wi br sp si le un ul px : Nat → Int32} {tm ps ft fk : Int32} {S : Nat → Int32} (h : ScR n T se mn ln hi wi br sp si le un ul px tm ps ft fk S) (hk : k < 4) : se k = S k := by
  obtain ⟨⟨n8, hn, h5⟩, ⟨T9, ht, h4⟩, ⟨z0, a0, b0, c0⟩, ⟨z1, a1, a1', b1, c1⟩, ⟨z2, a2, b2, c2⟩, ⟨z3, a3, a3', b3, c3⟩, ⟨h8, hF⟩, h6, hT, hR, hV, hB, hP⟩ := h
  rcases (show k = 0 ∨ k = 1 ∨ k = 2 ∨ k = 3 by omega) with rfl | rfl | rfl | rfl
  · rw [b0, c0]
  · rw [b1, c1]
  · rw [b2, c2]
  · rw [b3, c3]
theorem set_ok {n T k z : Nat} {se : Nat → Int32} {mn : Int32} {ln hi wi br sp si le un ul px : Nat → Int32} {tm ps ft fk : Int32} {S : Nat → Int32} (h : ScR n T se mn ln hi wi br sp si le un ul px tm ps ft fk S) {nx hm : Int32} {pr : Nat → Bool} {sv : Nat → SCV} {kn : Int32} {past : Nat → Int32} (hH : HiR nx hm pr sv kn past) (hk : k < 4) (y0 : k = 0 → z ≤ 9) (y1 : k = 1 → 1 ≤ z ∧ z ≤ 20) (y2 : k = 2 → z ≤ 40) (y3 : k = 3 → 1 ≤ z ∧ z ≤ 4) (hw : f_X7_within (nI z) (fLe k) (fMo k) = some 1) (hm_ : f_X8_set kn S past (nI k) (nI z) = bn (f_X8_remembers kn S past) (fun r2 => gd (nI k) 465 (bd (S (nI k).toNatClampNeg) (fun x3 => gd (nI k) 465 (some ((x3, r2.1, upd S (nI k).toNatClampNeg (nI z), r2.2))))))) : ∃ r r', f_X7_set se mn ln hi wi br sp si le un ul px tm ps ft fk nx hm pr sv (nI k) (nI z) = some r ∧ f_X8_set kn S past (nI k) (nI z) = some r' ∧ r.1 = r'.1 ∧ (∃ n T, ScR n T r.2.2.2.1 mn ln hi wi br sp si le un ul px tm ps ft fk r'.2.2.1) ∧ HiR r.2.2.2.2.1 r.2.2.2.2.2 r.2.1 r.2.2.1 r'.2.1 r'.2.2.2 := by
  obtain ⟨r1, r2, p1, p2, p3⟩ := sim_record h hH
  have g4 : vp_in (nI k) 4 := vp_in_nI hk (by decide)
  have g5 : vp_in (nI k) 465 := vp_in_nI (by omega) (by decide)
  have hc : (nI k).toNatClampNeg = k := nI_clamp (by omega)
  rw [hm_, p2]
  unfold f_X7_set
  have hw0 : f_X7_within (nI k) 0 3 = some 1 := by
    rw [wi_eq]; exact congrArg some (if_pos ⟨nI_pos' (by omega), nI_le (b := 3) (by omega) (by decide)⟩)
  rw [hw0, bn_some, if_neg n10]
  simp only [gd_ok g4, gd_ok g5, hc, hw, bn_some, bd_eq, p1]
  rw [if_pos n10]
  exact ⟨_, _, rfl, rfl, h.se_eq hk, ⟨n, T, h.set hk y0 y1 y2 y3⟩, p3⟩
theorem sim_set {n T : Nat} {se : Nat → Int32} {mn : Int32} {ln hi wi br sp si le un ul px : Nat → Int32} {tm ps ft fk : Int32} {S : Nat → Int32} (h : ScR n T se mn ln hi wi br sp si le un ul px tm ps ft fk S) {nx hm : Int32} {pr : Nat → Bool} {sv : Nat → SCV} {kn : Int32} {past : Nat → Int32} (hH : HiR nx hm pr sv kn past) (a b : Int32) : ∃ r r', f_X7_set se mn ln hi wi br sp si le un ul px tm ps ft fk nx hm pr sv a b = some r ∧ f_X8_set kn S past a b = some r' ∧ r.1 = r'.1 ∧ (∃ n T, ScR n T r.2.2.2.1 mn ln hi wi br sp si le un ul px tm ps ft fk r'.2.2.1) ∧ HiR r.2.2.2.2.1 r.2.2.2.2.2 r.2.1 r.2.2.1 r'.2.1 r'.2.2.2 := by
  by_cases ha : 0 ≤ a ∧ a ≤ 3
  · obtain ⟨k, hk, rfl⟩ := nI_of2 (x := a) (M := 3) (n := 3) rfl (Int32.not_lt.mpr ha.1) ha.2
    have bad : f_X7_within b (fLe k) (fMo k) = some 0 → f_X8_set kn S past (nI k) b = some (-2, kn, S, past) → ∃ r r', f_X7_set se mn ln hi wi br sp si le un ul px tm ps ft fk nx hm pr sv (nI k) b = some r ∧ f_X8_set kn S past (nI k) b = some r' ∧ r.1 = r'.1 ∧ (∃ n T, ScR n T r.2.2.2.1 mn ln hi wi br sp si le un ul px tm ps ft fk r'.2.2.1) ∧ HiR r.2.2.2.2.1 r.2.2.2.2.2 r.2.1 r.2.2.1 r'.2.1 r'.2.2.2 := fun x y => by
      rw [y]
      unfold f_X7_set
      have g4 : vp_in (nI k) 4 := vp_in_nI (by omega) (by decide)
      have hc : (nI k).toNatClampNeg = k := nI_clamp (by omega)
      have hw0 : f_X7_within (nI k) 0 3 = some 1 := by
        rw [wi_eq]; exact congrArg some (if_pos ha)
      rw [hw0, bn_some, if_neg n10, gd_ok g4, gd_ok g4, hc, x, bn_some, if_neg nn0]
      exact ⟨_, _, rfl, rfl, rfl, ⟨n, T, h⟩, hH⟩
    rcases (show k = 0 ∨ k = 1 ∨ k = 2 ∨ k = 3 by omega) with rfl | rfl | rfl | rfl
    · rcases in_cases (a := b) (m := 9) (by decide) with ⟨e, z, hz, rfl⟩ | e
      · exact set_ok h hH (by decide) (fun _ => hz) (fun y => absurd y (by decide)) (fun y => absurd y (by decide)) (fun y => absurd y (by decide)) (by rw [wi_eq]; exact congrArg some e) (by
          unfold f_X8_set
          simp only [jn_eq, in_eq, bn_some]
          rw [if_neg (show ¬ ¬ nI 0 = 0 by decide), show (9 : Int32) = nI 9 from rfl, e, if_pos n10])
      · exact bad (by rw [wi_eq]; exact congrArg some e) (by
          unfold f_X8_set
          simp only [jn_eq, in_eq, bn_some]
          rw [if_neg (show ¬ ¬ nI 0 = 0 by decide), show (9 : Int32) = nI 9 from rfl, e, if_neg nn0])
    · rcases in_cases1 (a := b) (m := 20) (by decide) with ⟨e, z, hz1, hz, rfl⟩ | e
      · exact set_ok h hH (by decide) (fun y => absurd y (by decide)) (fun _ => ⟨hz1, hz⟩) (fun y => absurd y (by decide)) (fun y => absurd y (by decide)) (by rw [wi_eq]; exact congrArg some e) (by
          unfold f_X8_set
          simp only [jn_eq, in_eq, bn_some]
          rw [if_pos (show ¬ nI 1 = 0 by decide), if_neg (show ¬ ¬ nI 1 = 1 by decide), show (20 : Int32) = nI 20 from rfl, e, if_pos n10])
      · exact bad (by rw [wi_eq]; exact congrArg some e) (by
          unfold f_X8_set
          simp only [jn_eq, in_eq, bn_some]
          rw [if_pos (show ¬ nI 1 = 0 by decide), if_neg (show ¬ ¬ nI 1 = 1 by decide), show (20 : Int32) = nI 20 from rfl, e, if_neg nn0])
    · rcases in_cases (a := b) (m := 40) (by decide) with ⟨e, z, hz, rfl⟩ | e
      · exact set_ok h hH (by decide) (fun y => absurd y (by decide)) (fun y => absurd y (by decide)) (fun _ => hz) (fun y => absurd y (by decide)) (by rw [wi_eq]; exact congrArg some e) (by
          unfold f_X8_set
          simp only [jn_eq, in_eq, bn_some]
          rw [if_pos (show ¬ nI 2 = 0 by decide), if_pos (show ¬ nI 2 = 1 by decide), if_neg (show ¬ ¬ nI 2 = 2 by decide), show (40 : Int32) = nI 40 from rfl, e, if_pos n10])
      · exact bad (by rw [wi_eq]; exact congrArg some e) (by
          unfold f_X8_set
          simp only [jn_eq, in_eq, bn_some]
          rw [if_pos (show ¬ nI 2 = 0 by decide), if_pos (show ¬ nI 2 = 1 by decide), if_neg (show ¬ ¬ nI 2 = 2 by decide), show (40 : Int32) = nI 40 from rfl, e, if_neg nn0])
    · rcases in_cases1 (a := b) (m := 4) (by decide) with ⟨e, z, hz1, hz, rfl⟩ | e
      · exact set_ok h hH (by decide) (fun y => absurd y (by decide)) (fun y => absurd y (by decide)) (fun y => absurd y (by decide)) (fun _ => ⟨hz1, hz⟩) (by rw [wi_eq]; exact congrArg some e) (by
          unfold f_X8_set
          simp only [jn_eq, in_eq, bn_some]
          rw [if_pos (show ¬ nI 3 = 0 by decide), if_pos (show ¬ nI 3 = 1 by decide), if_pos (show ¬ nI 3 = 2 by decide), if_neg (show ¬ ¬ nI 3 = 3 by decide), show (4 : Int32) = nI 4 from rfl, e, if_neg n10, if_pos n10])
      · exact bad (by rw [wi_eq]; exact congrArg some e) (by
          unfold f_X8_set
          simp only [jn_eq, in_eq, bn_some]
          rw [if_pos (show ¬ nI 3 = 0 by decide), if_pos (show ¬ nI 3 = 1 by decide), if_pos (show ¬ nI 3 = 2 by decide), if_neg (show ¬ ¬ nI 3 = 3 by decide), show (4 : Int32) = nI 4 from rfl, e, if_pos e00, if_neg (not_not_intro trivial)])
  · have x0 : ¬ a = 0 := fun z => ha (by rw [z]; decide)
    have x1 : ¬ a = 1 := fun z => ha (by rw [z]; decide)
    have x2 : ¬ a = 2 := fun z => ha (by rw [z]; decide)
    have x3 : ¬ a = 3 := fun z => ha (by rw [z]; decide)
    unfold f_X7_set f_X8_set
    simp only [jn_eq]
    rw [wi_eq, bn_some, if_pos ((bI_0 _).mpr ha), if_pos x0, if_pos x1, if_pos x2, if_pos x3, if_neg (not_not_intro trivial)]
    exact ⟨_, _, rfl, rfl, rfl, ⟨n, T, h⟩, hH⟩
