/-! a text's fault; what an order does -/
def WFn (le_ : Int32) (pad_ : Nat → Int32) (m : Nat) (x : Nat → Nat) : Nat → Nat → Prop
  | 0, _ => False
  | d + 1, i => ∃ p, f_X8_orderEnd le_ pad_ (nI i) = some (nI p) ∧ i < p ∧ p ≤ m ∧ (p = m ∨ (isC m x p 59 ∧ WFn le_ pad_ m x d (p + 1)))
theorem fault_2 {pl le_ : Int32} {tx pad_ : Nat → Int32} {m : Nat} {x : Nat → Nat} (hx : TxR pl tx le_ pad_ m x) : ∀ (d i k N : Nat) (kd : Int32) (va : Nat → Int32), i + d = m + 1 → 2 * k ≤ i → d + 1 < N → ∃ r a kd' va', f_X4_findFault_L9 pl tx (fun (w17 : Int32) (w18 : Int32) (w19 : Int32) (w20 : Int32) (w21 : Nat → Int32) => (if ¬ w19 = pl then some ((w19, w19, w20, w21)) else some (((-6), w19, w20, w21)))) N 1 (nI k) (nI i) kd va = some (r, a, kd', va') ∧ f_X8_fault_L4 le_ pad_ (fun (w13 : Int32) (w14 : Int32) => some ((-6))) N (nI i) (nI k) = some r ∧ (r = -6 → WFn le_ pad_ m x (d + 1) i) := by
  intro d
  induction d using Nat.strongRecOn with
  | ind d ih =>
    intro i k N kd va h1 h2 h3
    have m80 := hx.2.2.1
    obtain ⟨N, rfl⟩ : ∃ z, N = z + 1 + 1 := ⟨N - 2, by omega⟩
    obtain ⟨ok, p, kd', va', o1, o2, o3, o4⟩ := order_2 hx (i := i) (by omega) va
    have hk : ¬ (80 : Int32) ≤ nI k := nI_ge (a := k) (b := 80) (by omega) (by decide)
    rw [f_X4_findFault_L9_s, f_X8_fault_L4_s, if_neg n10, if_neg hk, if_neg hk, o1, o2, bn_some, bn_some]
    cases ok with
    | false =>
      obtain ⟨s1, s2, s3, s4⟩ := st_neg (p := p) (by omega)
      rw [if_neg s1, s4]
      refine ⟨nI p, nI p, kd', va', rfl, rfl, fun z => ?_⟩
      exact absurd (show (-6 : Int32) < 0 by decide) (by rw [← z]; exact nI_pos (by omega))
    | true =>
      obtain ⟨q1, q2, q3, q4, q5⟩ := o4 rfl
      have et := take_x hx (p := p) (w := 59) (by omega) (by decide) (by decide)
      have es := sgn_is hx (p := p) (w := 59) (by decide)
      rw [show st true p = nI p from rfl, if_pos (nI_pos' (by omega)), sgn_m hx (by omega)]
      have hpl := hx.1
      have hle := hx.2.1
      have ee : (nI p = nI m) ↔ p = m := nI_eq (by omega) (by omega)
      by_cases c : isC m x p 59
      · have cm := c.1
        rw [if_pos c] at et
        have et : f_X4_take pl tx (nI p) 59 = some (1, nI (p + 1)) := et
        have epm : ¬ nI p = le_ := by rw [hle]; exact fun z => by have := ee.mp z; omega
        obtain ⟨r, a, kd2, va2, r1, r2, r3⟩ := ih (m + 1 - (p + 1)) (by omega) (p + 1) (k + 1) (N + 1) kd' va' (by omega) (by omega) (by omega)
        refine ⟨r, a, kd2, va2, ?_, ?_, fun z => ?_⟩
        · show (if ¬ (1 : Int32) = 0 then bn (f_X4_take pl tx (nI p) 59) _ else _) = _
          rw [if_pos n10, et, bn_some, bd_eq, nI_1]
          exact r1
        · rw [if_pos epm, bn_some, if_pos (show _ = (59 : Int32) from es.mpr c), bd_eq, bd_eq, nI_1, nI_1]
          exact r2
        · obtain ⟨d', hd'⟩ : ∃ d', m + 1 - (p + 1) + 1 ≤ d' ∧ d' = d := ⟨d, by omega, rfl⟩
          have mono : ∀ (a b i : Nat), a ≤ b → WFn le_ pad_ m x a i → WFn le_ pad_ m x b i := by
            intro a
            induction a with
            | zero => intro b i _ h; exact absurd h (by unfold WFn; exact id)
            | succ a iha =>
              intro b i hb h
              obtain ⟨b, rfl⟩ : ∃ z, b = z + 1 := ⟨b - 1, by omega⟩
              obtain ⟨p, w1, w2, w3, w4⟩ := h
              refine ⟨p, w1, w2, w3, ?_⟩
              rcases w4 with w4 | ⟨w4, w5⟩
              · exact Or.inl w4
              · exact Or.inr ⟨w4, iha b _ (by omega) w5⟩
          exact ⟨p, o2, q1, q2, Or.inr ⟨c, mono _ _ _ (by omega) (r3 z)⟩⟩
      · rw [if_neg c] at et
        have et : f_X4_take pl tx (nI p) 59 = some (0, nI p) := et
        have cl : f_X4_findFault_L9 pl tx (fun (w17 : Int32) (w18 : Int32) (w19 : Int32) (w20 : Int32) (w21 : Nat → Int32) => (if ¬ w19 = pl then some ((w19, w19, w20, w21)) else some (((-6), w19, w20, w21)))) (N + 1) 0 (nI k + 1) (nI p) kd' va' = (if ¬ nI p = pl then some ((nI p, nI p, kd', va')) else some (((-6), nI p, kd', va'))) := by
          rw [f_X4_findFault_L9_s, if_pos e00]
        by_cases e : p = m
        · refine ⟨-6, nI p, kd', va', ?_, ?_, fun _ => ⟨p, o2, q1, q2, Or.inl e⟩⟩
          · show (if ¬ (1 : Int32) = 0 then bn (f_X4_take pl tx (nI p) 59) _ else _) = _
            rw [if_pos n10, et, bn_some, bd_eq]
            refine cl.trans ?_
            rw [if_neg (not_not_intro (by rw [hpl, e]))]
          · rw [if_neg (not_not_intro (by rw [hle, e]))]
        · have epm : ¬ nI p = le_ := by rw [hle]; exact fun z => e (ee.mp z)
          refine ⟨nI p, nI p, kd', va', ?_, ?_, fun z => ?_⟩
          · show (if ¬ (1 : Int32) = 0 then bn (f_X4_take pl tx (nI p) 59) _ else _) = _
            rw [if_pos n10, et, bn_some, bd_eq]
            refine cl.trans ?_
            rw [if_pos (by rw [hpl]; exact fun z => e (ee.mp z))]
          · rw [if_pos epm, bn_some, if_neg (show ¬ (if p < m then nI (x p) else (-1 : Int32)) = 59 from fun z => c (es.mp z))]
          · exact absurd (show (-6 : Int32) < 0 by decide) (by rw [← z]; exact nI_pos (by omega))
theorem sim_fault {pl le_ : Int32} {tx pad_ : Nat → Int32} {m : Nat} {x : Nat → Nat} (hx : TxR pl tx le_ pad_ m x) (kd : Int32) (va : Nat → Int32) : ∃ r r', f_X4_findFault pl tx kd va = some r ∧ f_X8_fault le_ pad_ = some r' ∧ r.1 = r' ∧ (r' = -6 → WFn le_ pad_ m x (m + 2) 0) := by
  have m80 := hx.2.2.1
  obtain ⟨r, a, kd', va', r1, r2, r3⟩ := fault_2 hx (m + 1) 0 0 4000 kd va (by omega) (by omega) (by omega)
  exact ⟨_, r, r1, r2, rfl, r3⟩
theorem ride_cases {n : Nat} (n8 : n ≤ 8) {u o : Int32} (h : (u = -6 ∧ o = -1) ∨ ∃ d : Nat, d ≤ 9 ∧ u = nI d ∧ o = nI d) : (f_X7_canRide (nI n) u = some 0 ∧ ¬ o < nI n) ∨ (f_X7_canRide (nI n) u = some 1 ∧ o < nI n ∧ ((u = -6 ∧ o = -1) ∨ ∃ j : Nat, j < n ∧ u = nI j ∧ o = nI j)) := by
  unfold f_X7_canRide
  rcases h with ⟨rfl, rfl⟩ | ⟨d, hd, rfl, rfl⟩
  · refine Or.inr ⟨if_pos rfl, ?_, Or.inl ⟨rfl, rfl⟩⟩
    exact Int32.lt_of_lt_of_le (show (-1 : Int32) < 0 by decide) (nI_pos' (by omega))
  · have hne : ¬ nI d = -6 := fun z => absurd (show (-6 : Int32) < 0 by decide) (by rw [← z]; exact nI_pos (by omega))
    rw [if_neg hne, wi_eq, bn_some]
    by_cases q : d < n
    · refine Or.inr ⟨?_, (nI_ltI (by omega) (by omega)).mpr q, Or.inr ⟨d, q, rfl, rfl⟩⟩
      rw [if_neg (fun z => (bI_0 _).mp z ⟨nI_pos' (by omega), by rw [nI_p (by omega)]; exact nI_le (by omega) (by omega)⟩)]
    · refine Or.inl ⟨?_, fun z => q ((nI_ltI (by omega) (by omega)).mp z)⟩
      rw [if_pos ((bI_0 _).mpr (fun z => ?_))]
      by_cases n0 : n = 0
      · rw [n0] at z
        exact absurd (Int32.le_trans z.1 z.2) (by decide)
      · rw [nI_p (by omega)] at z
        have := (nI_leI (by omega) (by omega)).mp z.2
        omega
theorem thing_do {n T : Nat} {se : Nat → Int32} {mn : Int32} {ln hi wi br sp si le un ul px : Nat → Int32} {tm ps ft fk : Int32} {S : Nat → Int32} (h : ScR n T se mn ln hi wi br sp si le un ul px tm ps ft fk S) {va : Nat → Int32} {o : Int32} (ho : (va 6 = -6 ∧ o = -1) ∨ ∃ d : Nat, d ≤ 9 ∧ va 6 = nI d ∧ o = nI d) : ∃ r r', f_X7_carryOutThing mn ln hi wi br sp si le un ul tm va = some r ∧ ctail S (va 0) (va 1) (va 2) (va 3) (va 4) (va 5) o = some r' ∧ r.1 = r'.1 ∧ ∃ n T, ScR n T se r.2.1 r.2.2.1 r.2.2.2.1 r.2.2.2.2.1 r.2.2.2.2.2.1 r.2.2.2.2.2.2.1 r.2.2.2.2.2.2.2.1 r.2.2.2.2.2.2.2.2.1 r.2.2.2.2.2.2.2.2.2.1 r.2.2.2.2.2.2.2.2.2.2 px tm ps ft fk r'.2 := by
  unfold f_X7_carryOutThing ctail
  have g : ∀ (k : Nat) (o : Option OUT_X7_carryOutThing), k < 7 → gd (nI k) 7 o = o := fun k o hk => gd_ok (vp_in_nI hk (by decide))
  have g0 : ∀ o : Option OUT_X7_carryOutThing, gd 0 7 o = o := fun o => g 0 o (by decide)
  have g1 : ∀ o : Option OUT_X7_carryOutThing, gd 1 7 o = o := fun o => g 1 o (by decide)
  have g2 : ∀ o : Option OUT_X7_carryOutThing, gd 2 7 o = o := fun o => g 2 o (by decide)
  have g3 : ∀ o : Option OUT_X7_carryOutThing, gd 3 7 o = o := fun o => g 3 o (by decide)
  have g4 : ∀ o : Option OUT_X7_carryOutThing, gd 4 7 o = o := fun o => g 4 o (by decide)
  have g5 : ∀ o : Option OUT_X7_carryOutThing, gd 5 7 o = o := fun o => g 5 o (by decide)
  have g6 : ∀ o : Option OUT_X7_carryOutThing, gd 6 7 o = o := fun o => g 6 o (by decide)
  rw [g5, bd_eq, g6, bd_eq, g0, g1, g2, g3, g4, c_0, c_1, c_2, c_3, c_4, c_5, c_6]
  rcases errT_cases h.1.1 h.1.2.1 h.1.2.2 (va 0) (va 1) (va 2) (va 3) (va 4) with ⟨y, e1, e2, he⟩ | ⟨e1, e2, n8, l, f, hh, w, z, hl, hf, hh1, hw, hz, q0, q1, q2, q3, q4⟩
  · rw [e1, e2, bn_some, bn_some, if_neg (show ¬ y = 0 by rcases he with rfl | rfl <;> decide), if_neg (show ¬ 0 ≤ y by rcases he with rfl | rfl <;> decide)]
    exact ⟨_, _, rfl, rfl, rfl, n, T, h⟩
  · rw [e1, e2, bn_some, bn_some, if_pos e00, if_pos (show (0 : Int32) ≤ 0 by decide)]
    rcases spd_cases (va 5) with ⟨s1, s2⟩ | ⟨s1, s2, hs⟩
    · rw [s1, s2, bn_some, bn_some, if_pos e00, if_pos e00]
      exact ⟨_, _, rfl, rfl, rfl, n, T, h⟩
    · rw [s1, s2, bn_some, bn_some, if_neg n10, if_neg n10, m5, h.1.2.2]
      have hmn := h.1.2.1
      rw [hmn]
      rcases ride_cases h.1.1 ho with ⟨t1, t2⟩ | ⟨t1, t2, t3⟩
      · rw [t1, bn_some, if_neg nn0, if_neg t2]
        refine ⟨_, _, rfl, rfl, rfl, n, T, ?_⟩
        rw [← hmn]; exact h
      · obtain ⟨a1, S', a2, a3⟩ := add_sim h n8 hl hf hh1 hw hz
        have htm := h.2.1.2.1
        obtain ⟨r, S'', b1, b2, b3⟩ := anew_sim a3 (i := n) (by omega) hs t3
        rw [t1, bn_some, if_pos n10, if_pos t2, g0, g1, g2, g3, g4, q0, q1, q2, q3, q4, ← hmn, a1, a2, bn_some, bn_some]
        rw [b1, b2, bn_some, bn_some]
        exact ⟨_, _, rfl, rfl, rfl, n + 1, T, b3⟩
theorem order_do {n T : Nat} {se : Nat → Int32} {mn : Int32} {ln hi wi br sp si le un ul px : Nat → Int32} {tm ps ft fk : Int32} {S : Nat → Int32} (h : ScR n T se mn ln hi wi br sp si le un ul px tm ps ft fk S) {pl le_ : Int32} {tx pad_ : Nat → Int32} {m : Nat} {x : Nat → Nat} (hx : TxR pl tx le_ pad_ m x) {i : Nat} (hi_ : i < m) {va : Nat → Int32} (hc : CT le_ pad_ x i va) (lea ris : Nat → Int32) : ∃ r r', f_X7_carryOutOrder se mn ln hi wi br sp si le un ul px tm ps ft fk lea ris (nI (x i)) va = some r ∧ f_X8_carries le_ S pad_ (nI i) = some r' ∧ r.1 = r'.1 ∧ ∃ n T, ScR n T se r.2.2.2.2.2.1 r.2.2.2.2.2.2.1 r.2.2.2.2.2.2.2.1 r.2.2.2.2.2.2.2.2.1 r.2.2.2.2.2.2.2.2.2.1 r.2.2.2.2.2.2.2.2.2.2.1 r.2.2.2.2.2.2.2.2.2.2.2.1 r.2.2.2.2.2.2.2.2.2.2.2.2.1 r.2.2.2.2.2.2.2.2.2.2.2.2.2.1 r.2.2.2.2.2.2.2.2.2.2.2.2.2.2.1 r.2.2.2.2.2.2.2.2.2.2.2.2.2.2.2.1 r.2.1 r.2.2.1 r.2.2.2.1 r.2.2.2.2.1 r'.2 := by
  have m80 := hx.2.2.1
  unfold f_X7_carryOutOrder f_X8_carries
  have hs : f_X8_sign le_ pad_ (nI i) = some (nI (x i)) := by rw [sgn_m hx (by omega), if_pos hi_]
  have hd := dig_m hx (p := i + 1) (by omega)
  rw [nI_1 i, hs]
  rcases hc with ⟨e, o, ho, hcb⟩ | ⟨e, dg, r4, d1, d2, d3, d4, d5⟩ | ⟨e, dg, d1, d2, d3⟩ | e
  · obtain ⟨r, r', t1, t2, t3, t4⟩ := thing_do h ho
    have fin : bn (f_X8_comesBy le_ S pad_ (nI i)) (fun r12 => some ((r12.1, r12.2))) = some r' := by rw [hcb S, t2, bn_some]
    rw [e, if_neg (show ¬ ¬ nI 103 = 103 from not_not_intro rfl), t1, bn_some]
    refine ⟨_, r', rfl, ?_, t3, t4⟩
    rw [hd, bn_some]
    by_cases d : isD m x (i + 1)
    · rw [if_pos d, jn_eq, if_pos (nI_pos' (by have := d.2.2; omega)), numv_m hx (by omega) d, bn_some]
      dsimp only
      rw [bn_some, if_neg (show ¬ nI 103 = 102 by decide), if_pos (show nI 103 = 103 from rfl)]
      exact fin
    · rw [if_neg d, jn_eq, if_neg (show ¬ (0 : Int32) ≤ -1 by decide)]
      dsimp only
      rw [bn_some, if_neg (show ¬ nI 103 = 102 by decide), if_pos (show nI 103 = 103 from rfl)]
      exact fin
  · rw [e, if_pos (show ¬ nI 102 = 103 by decide), if_neg (show ¬ ¬ nI 102 = 102 from not_not_intro rfl), d1, bn_some, jn_eq, if_pos d2, d3, bn_some]
    dsimp only
    rw [bn_some, if_pos (show nI 102 = 102 from rfl), d4, bn_some, d5, bn_some]
    unfold f_X7_carryOutFlash
    rw [gd_ok (show vp_in 0 7 from vp_in_nI (n := 0) (by decide) (by decide)), bd_eq, gd_ok (show vp_in 1 7 from vp_in_nI (n := 1) (by decide) (by decide)), bd_eq, c_0, c_1]
    rcases errF_cases (va 0) (va 1) with ⟨e1, e2⟩ | ⟨e1, e2, y, d, hy, hd1, hd2, q0, q1⟩
    · rw [e1, e2, bn_some, bn_some, if_pos (show ¬ (-2 : Int32) = 0 by decide), bn_some, jn_eq, if_pos e00]
      dsimp only
      rw [if_neg (show ¬ (0 : Int32) ≤ -2 by decide)]
      exact ⟨_, _, rfl, rfl, rfl, n, T, h⟩
    · obtain ⟨s1, s2, s3⟩ := flash_sim h hy hd1 hd2
      rw [e1, e2, bn_some, bn_some, if_neg nn0, q0, q1, s1, bn_some, bn_some, jn_eq, if_neg n10]
      dsimp only
      rw [if_pos (show (0 : Int32) ≤ 0 by decide), s2, bn_some]
      exact ⟨_, _, rfl, rfl, rfl, n, T, s3⟩
  · rw [e, if_pos (show ¬ nI 119 = 103 by decide), if_pos (show ¬ nI 119 = 102 by decide), if_neg (show ¬ ¬ nI 119 = 119 from not_not_intro rfl), d1, bn_some, jn_eq, if_pos d2, d3, bn_some]
    dsimp only
    rw [bn_some, if_neg (show ¬ nI 119 = 102 by decide), if_neg (show ¬ nI 119 = 103 by decide), if_pos (show nI 119 = 119 from rfl)]
    unfold f_X7_carryOutPass
    rw [gd_ok (show vp_in 0 7 from vp_in_nI (n := 0) (by decide) (by decide)), bd_eq, c_0]
    rcases errP_cases h (va 0) with ⟨y, e1, e2, he⟩ | ⟨e1, e2, t, ht, q0⟩
    · rw [e1, e2, bn_some, bn_some, if_pos (show ¬ y = 0 by rcases he with rfl | rfl <;> decide), bn_some, m4, jn_eq, if_neg (show ¬ 0 ≤ y by rcases he with rfl | rfl <;> decide)]
      dsimp only
      rw [m4, c_4]
      refine ⟨_, _, rfl, rfl, rfl, n, T, h.cgS (fun k hk => ?_)⟩
      show upd S 4 (S 4 + 0) k = S k
      by_cases q : k = 4
      · rw [q, upd_at, Int32.add_zero]
      · rw [upd_ne _ q]
    · obtain ⟨s1, s2⟩ := pass_sim h ht
      have h4 := h.2.1.2.2
      rw [e1, e2, bn_some, bn_some, if_neg nn0, bn_some, m4, jn_eq, if_pos (show (0 : Int32) ≤ 0 by decide)]
      dsimp only
      rw [m4, c_4, q0, s1, h4, nI_add]
      exact ⟨_, _, rfl, rfl, rfl, n, T + t, s2⟩
  · rw [e, if_pos (show ¬ nI 112 = 103 by decide), if_pos (show ¬ nI 112 = 102 by decide), if_pos (show ¬ nI 112 = 119 by decide)]
    have key : ∃ r r', bn (f_X7_errorOfShoot se tm) (fun r1 => (if ¬ r1 = 0 then some ((r1, tm, ps, ft, fk, mn, ln, hi, wi, br, sp, si, le, un, ul, px, lea, ris)) else bn (f_X0_takePicture lea ris se mn ln hi wi br sp si le un ul px tm ps ft fk) (fun r2 => some ((r1, r2.2.2.1, r2.2.2.2.1, ft, fk, mn, ln, hi, wi, br, sp, si, le, un, ul, r2.2.2.2.2, r2.1, r2.2.1))))) = some r ∧ bn (f_X8_whyNotShoot S) (fun r18 => (if 0 ≤ r18 then bn (f_X8_shoots S) (fun r19 => some ((r18, r19.2))) else some ((r18, S)))) = some r' ∧ r.1 = r'.1 ∧ ∃ n T, ScR n T se r.2.2.2.2.2.1 r.2.2.2.2.2.2.1 r.2.2.2.2.2.2.2.1 r.2.2.2.2.2.2.2.2.1 r.2.2.2.2.2.2.2.2.2.1 r.2.2.2.2.2.2.2.2.2.2.1 r.2.2.2.2.2.2.2.2.2.2.2.1 r.2.2.2.2.2.2.2.2.2.2.2.2.1 r.2.2.2.2.2.2.2.2.2.2.2.2.2.1 r.2.2.2.2.2.2.2.2.2.2.2.2.2.2.1 r.2.2.2.2.2.2.2.2.2.2.2.2.2.2.2.1 r.2.1 r.2.2.1 r.2.2.2.1 r.2.2.2.2.1 r'.2 := by
      rcases errS_cases h with ⟨e1, e2⟩ | ⟨e1, e2, T', t1, t2, hall⟩
      · rw [e1, e2, bn_some, bn_some, if_pos (show ¬ (-5 : Int32) = 0 by decide), if_neg (show ¬ (0 : Int32) ≤ -5 by decide)]
        exact ⟨_, _, rfl, rfl, rfl, n, T, h⟩
      · obtain ⟨r, S', q1, q2, q3, q4⟩ := hall lea ris
        rw [e1, e2, bn_some, bn_some, if_neg nn0, if_pos (show (0 : Int32) ≤ 0 by decide), q1, q3, bn_some, bn_some]
        exact ⟨_, _, rfl, rfl, rfl, n, T', q4⟩
    obtain ⟨r, r', k1, k2, k3, k4⟩ := key
    refine ⟨r, r', k1, ?_, k3, k4⟩
    rw [hd, bn_some]
    by_cases d : isD m x (i + 1)
    · rw [if_pos d, jn_eq, if_pos (nI_pos' (by have := d.2.2; omega)), numv_m hx (by omega) d, bn_some]
      dsimp only
      rw [bn_some, if_neg (show ¬ nI 112 = 102 by decide), if_neg (show ¬ nI 112 = 103 by decide), if_neg (show ¬ nI 112 = 119 by decide)]
      exact k2
    · rw [if_neg d, jn_eq, if_neg (show ¬ (0 : Int32) ≤ -1 by decide)]
      dsimp only
      rw [bn_some, if_neg (show ¬ nI 112 = 102 by decide), if_neg (show ¬ nI 112 = 103 by decide), if_neg (show ¬ nI 112 = 119 by decide)]
      exact k2
