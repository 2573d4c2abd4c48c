/-! the text of orders: class and reference read it alike -/
def TxR (pl : Int32) (tx : Nat → Int32) (le_ : Int32) (pad_ : Nat → Int32) (m : Nat) (x : Nat → Nat) : Prop := pl = nI m ∧ le_ = nI m ∧ m ≤ 80 ∧ ∀ i : Nat, i < m → 33 ≤ x i ∧ x i ≤ 126 ∧ tx i = nI (x i) ∧ pad_ i = nI (x i)
abbrev isD (m : Nat) (x : Nat → Nat) (p : Nat) : Prop := p < m ∧ 48 ≤ x p ∧ x p ≤ 57
abbrev isC (m : Nat) (x : Nat → Nat) (p w : Nat) : Prop := p < m ∧ x p = w
abbrev is2 (m : Nat) (x : Nat → Nat) (p : Nat) : Prop := ¬ x p = 48 ∧ isD m x (p + 1)
def NE (m : Nat) (x : Nat → Nat) (p : Nat) : Nat := if is2 m x p then p + 2 else p + 1
def NV (m : Nat) (x : Nat → Nat) (p : Nat) : Nat := if is2 m x p then 10 * (x p - 48) + (x (p + 1) - 48) else x p - 48
theorem chr_c {pl le_ : Int32} {tx pad_ : Nat → Int32} {m : Nat} {x : Nat → Nat} (h : TxR pl tx le_ pad_ m x) {p : Nat} (hp : p ≤ 1000) : f_X2_characterAt pl tx (nI p) = some (if p < m then nI (x p) else 32) := by
  obtain ⟨h1, h2, h3, h4⟩ := h
  unfold f_X2_characterAt
  rw [if_neg (nI_pos (by omega)), h1]
  by_cases q : p < m
  · obtain ⟨a1, a2, a3, a4⟩ := h4 p q
    rw [if_neg (nI_ge q (by omega)), if_pos q, gd_ok (vp_in_nI (by omega) (by decide)), nI_clamp (by omega), a3, gc_ok ⟨nI_pos' (by omega), nI_le (b := 65535) (by omega) (by decide)⟩]
  · rw [if_pos ((nI_leI (by omega) (by omega)).mpr (by omega)), if_neg q]
theorem sgn_m {pl le_ : Int32} {tx pad_ : Nat → Int32} {m : Nat} {x : Nat → Nat} (h : TxR pl tx le_ pad_ m x) {p : Nat} (hp : p ≤ 1000) : f_X8_sign le_ pad_ (nI p) = some (if p < m then nI (x p) else -1) := by
  obtain ⟨h1, h2, h3, h4⟩ := h
  unfold f_X8_sign
  rw [h2]
  by_cases q : p < m
  · obtain ⟨a1, a2, a3, a4⟩ := h4 p q
    rw [if_neg (nI_ge q (by omega)), if_pos q, gd_ok (vp_in_nI (by omega) (by decide)), nI_clamp (by omega), a4]
  · rw [if_pos ((nI_leI (by omega) (by omega)).mpr (by omega)), if_neg q]
theorem chr_is {pl le_ : Int32} {tx pad_ : Nat → Int32} {m : Nat} {x : Nat → Nat} (h : TxR pl tx le_ pad_ m x) {p w : Nat} (hw : 33 ≤ w) (hw2 : w ≤ 200) : (if p < m then nI (x p) else (32 : Int32)) = nI w ↔ isC m x p w := by
  by_cases q : p < m
  · obtain ⟨a1, a2, a3, a4⟩ := h.2.2.2 p q
    rw [if_pos q, nI_eq (by omega) (by omega)]
    exact ⟨fun e => ⟨q, e⟩, fun e => e.2⟩
  · rw [if_neg q, show (32 : Int32) = nI 32 from rfl, nI_eq (by omega) (by omega)]
    exact ⟨fun e => by omega, fun e => absurd e.1 q⟩
theorem sgn_is {pl le_ : Int32} {tx pad_ : Nat → Int32} {m : Nat} {x : Nat → Nat} (h : TxR pl tx le_ pad_ m x) {p w : Nat} (hw2 : w ≤ 200) : (if p < m then nI (x p) else (-1 : Int32)) = nI w ↔ isC m x p w := by
  by_cases q : p < m
  · obtain ⟨a1, a2, a3, a4⟩ := h.2.2.2 p q
    rw [if_pos q, nI_eq (by omega) (by omega)]
    exact ⟨fun e => ⟨q, e⟩, fun e => e.2⟩
  · rw [if_neg q]
    exact ⟨fun e => absurd (show (-1 : Int32) < 0 by decide) (by rw [e]; exact nI_pos (by omega)), fun e => absurd e.1 q⟩
theorem take_x {pl le_ : Int32} {tx pad_ : Nat → Int32} {m : Nat} {x : Nat → Nat} (h : TxR pl tx le_ pad_ m x) {p w : Nat} (hp : p ≤ 1000) (hw : 33 ≤ w) (hw2 : w ≤ 200) : f_X4_take pl tx (nI p) (nI w) = some (if isC m x p w then (1, nI (p + 1)) else (0, nI p)) := by
  unfold f_X4_take
  rw [chr_c h hp, bn_some]
  by_cases q : isC m x p w
  · rw [if_pos q, if_pos ((chr_is h hw hw2).mpr q), nI_1]
  · rw [if_neg q, if_neg (fun e => q ((chr_is h hw hw2).mp e))]
theorem isd_c {pl le_ : Int32} {tx pad_ : Nat → Int32} {m : Nat} {x : Nat → Nat} (h : TxR pl tx le_ pad_ m x) {p : Nat} : f_X4_isDigit (if p < m then nI (x p) else (32 : Int32)) = some (if isD m x p then 1 else 0) := by
  unfold f_X4_isDigit
  by_cases q : p < m
  · obtain ⟨a1, a2, a3, a4⟩ := h.2.2.2 p q
    rw [if_pos q, show (48 : Int32) = nI 48 from rfl, show (57 : Int32) = nI 57 from rfl]
    by_cases q1 : x p < 48
    · rw [if_pos ((nI_ltI (by omega) (by omega)).mpr q1), if_neg (fun z => by have := z.2.1; omega)]
    · rw [if_neg (fun z => q1 ((nI_ltI (by omega) (by omega)).mp z))]
      by_cases q2 : 57 < x p
      · rw [if_pos ((nI_ltI (by omega) (by omega)).mpr q2), if_neg (fun z => by have := z.2.2; omega)]
      · rw [if_neg (fun z => q2 ((nI_ltI (by omega) (by omega)).mp z)), if_pos ⟨q, by omega, by omega⟩]
  · rw [if_neg q, if_pos (by decide), if_neg (fun z => q z.1)]
theorem dig_m {pl le_ : Int32} {tx pad_ : Nat → Int32} {m : Nat} {x : Nat → Nat} (h : TxR pl tx le_ pad_ m x) {p : Nat} (hp : p ≤ 1000) : f_X8_digit le_ pad_ (nI p) = some (if isD m x p then nI (x p - 48) else -1) := by
  unfold f_X8_digit
  rw [sgn_m h hp, bn_some, in_eq, bn_some, bn_some]
  by_cases q : p < m
  · obtain ⟨a1, a2, a3, a4⟩ := h.2.2.2 p q
    rw [if_pos q]
    have k1 := nI_leI (a := 48) (b := x p) (by omega) (by omega)
    have k2 := nI_leI (a := x p) (b := 57) (by omega) (by omega)
    by_cases q1 : isD m x p
    · rw [if_pos q1, if_neg (fun z => (bI_0 _).mp z ⟨k1.mpr q1.2.1, k2.mpr q1.2.2⟩), show (48 : Int32) = nI 48 from rfl, nI_sub q1.2.1]
    · rw [if_neg q1, if_pos ((bI_0 _).mpr (fun z => q1 ⟨q, k1.mp z.1, k2.mp z.2⟩))]
  · rw [if_neg q, if_pos (by decide), if_neg (fun z => q z.1)]
theorem upd_upd (f : Nat → Int32) (k : Nat) (a b : Int32) : upd (upd f k a) k b = upd f k b := by
  funext j
  by_cases q : j = k
  · rw [q, upd_at, upd_at]
  · rw [upd_ne _ q, upd_ne _ q, upd_ne _ q]
theorem rdig_c {pl le_ : Int32} {tx pad_ : Nat → Int32} {m : Nat} {x : Nat → Nat} (h : TxR pl tx le_ pad_ m x) {p w : Nat} (hp : p ≤ 1000) (hw : w < 7) (va : Nat → Int32) : f_X4_readDigit pl tx (nI p) va (nI w) = some (if isD m x p then (1, nI (p + 1), upd va w (nI (x p - 48))) else (0, nI p, va)) := by
  unfold f_X4_readDigit
  rw [chr_c h hp, bn_some, isd_c h, bn_some]
  by_cases q : isD m x p
  · rw [if_pos q, if_pos q, if_pos n10, gd_ok (vp_in_nI hw (by decide)), nI_clamp (by omega), if_pos q.1, show (48 : Int32) = nI 48 from rfl, nI_sub q.2.1, nI_1]
  · rw [if_neg q, if_neg q, if_neg nn0]
theorem rnum_c {pl le_ : Int32} {tx pad_ : Nat → Int32} {m : Nat} {x : Nat → Nat} (h : TxR pl tx le_ pad_ m x) {p w : Nat} (hp : p ≤ 900) (hw : w < 7) (va : Nat → Int32) : f_X4_readNumber pl tx (nI p) va (nI w) = some (if isD m x p then (1, nI (NE m x p), upd va w (nI (NV m x p))) else (0, nI p, va)) := by
  unfold f_X4_readNumber
  rw [rdig_c h (by omega) hw, bn_some]
  by_cases q : isD m x p
  · rw [if_pos q, if_pos q]
    simp only []
    have g : vp_in (nI w) 7 := vp_in_nI hw (by decide)
    have hc : (nI w).toNatClampNeg = w := nI_clamp (by omega)
    rw [if_pos n10, chr_c h (by omega), bn_some, gd_ok g, hc, upd_at, isd_c h, bn_some]
    unfold NE NV
    by_cases q0 : x p = 48
    · rw [if_pos (by rw [q0]; rfl), if_neg (fun z => z.1 q0), if_neg (fun z => z.1 q0)]
    · rw [if_neg (show ¬ nI (x p - 48) = 0 from nI_ne0 (by have := q.2.1; omega) (by have := q.2.2; omega))]
      by_cases q1 : isD m x (p + 1)
      · rw [if_pos q1, if_neg n10, gd_ok g, gd_ok g, if_pos (show is2 m x p from ⟨q0, q1⟩), if_pos (show is2 m x p from ⟨q0, q1⟩), if_pos q1.1, upd_upd, show (48 : Int32) = nI 48 from rfl, nI_sub q1.2.1, show (10 : Int32) = nI 10 from rfl, pk_mul, nI_add, nI_1, Nat.mul_comm (x p - 48) 10]
      · rw [if_neg q1, if_pos e00, if_neg (fun z => q1 z.2), if_neg (fun z => q1 z.2)]
  · rw [if_neg q, if_neg q, if_neg nn0]
/-- the reference's ends: below 0 a fault -/
def st (ok : Bool) (p : Nat) : Int32 := if ok = true then nI p else -1 - nI p
theorem st_neg {p : Nat} (hp : p ≤ 1000) : ¬ 0 ≤ st false p ∧ st false p ≤ 0 ∧ ¬ 0 < st false p ∧ -1 - st false p = nI p := by
  have e : st false p = iI (-1 - (p : Int)) := by
    show -1 - nI p = _
    rw [← iI_nat, show (-1 : Int32) = iI (-1) from rfl, iI_sub]
  rw [e]
  refine ⟨?_, ?_, ?_, ?_⟩
  · rw [show (0 : Int32) = iI 0 from rfl, iI_le (by decide) (by decide) (by omega) (by omega)]; omega
  · rw [show (0 : Int32) = iI 0 from rfl, iI_le (by omega) (by omega) (by decide) (by decide)]; omega
  · rw [show (0 : Int32) = iI 0 from rfl, iI_lt (by decide) (by decide) (by omega) (by omega)]; omega
  · rw [show (-1 : Int32) = iI (-1) from rfl, iI_sub, show -1 - (-1 - (p : Int)) = p by omega, iI_nat]
theorem num_f {le_ : Int32} {pad_ : Nat → Int32} {p : Nat} (hp : p ≤ 1000) : f_X8_numberEnd le_ pad_ (st false p) = some (st false p) := if_neg (st_neg hp).1
theorem beh_f {le_ : Int32} {pad_ : Nat → Int32} {p : Nat} {w : Int32} (hp : p ≤ 1000) : f_X8_behind le_ pad_ (st false p) w = some (st false p) := if_neg (st_neg hp).1
theorem dig_f {le_ : Int32} {pad_ : Nat → Int32} {p : Nat} (hp : p ≤ 1000) : f_X8_digitEnd le_ pad_ (st false p) = some (st false p) := if_neg (st_neg hp).1
theorem isp_f {le_ : Int32} {pad_ : Nat → Int32} {p : Nat} (hp : p ≤ 1000) : f_X8_isSpeed le_ pad_ (st false p) = some 0 := if_pos (st_neg hp).2.1
theorem num_m {pl le_ : Int32} {tx pad_ : Nat → Int32} {m : Nat} {x : Nat → Nat} (h : TxR pl tx le_ pad_ m x) {p : Nat} (hp : p ≤ 900) : f_X8_numberEnd le_ pad_ (nI p) = some (if isD m x p then nI (NE m x p) else st false p) := by
  unfold f_X8_numberEnd
  rw [if_pos (nI_pos' (by omega)), dig_m h (by omega), bn_some, bn_some, nI_1, dig_m h (p := p + 1) (by omega)]
  simp only [jn_eq, bn_some]
  by_cases q : isD m x p
  · rw [if_pos q, if_pos q, if_pos (nI_pos' (by have := q.2.2; omega))]
    unfold NE
    by_cases q0 : x p = 48
    · rw [if_pos (by rw [q0]; decide), if_neg (fun z => z.1 q0)]
    · rw [if_neg (nI_nle (by have := q.2.1; omega) (by have := q.2.2; omega))]
      by_cases q1 : isD m x (p + 1)
      · rw [if_pos q1, if_neg (nI_pos (by have := q1.2.2; omega)), if_pos (show is2 m x p from ⟨q0, q1⟩)]
        exact congrArg some (nI_add p 2)
      · rw [if_neg q1, if_pos (by decide), if_neg (fun z => q1 z.2)]
  · rw [if_neg q, if_neg q, if_neg (by decide)]; rfl
theorem numv_m {pl le_ : Int32} {tx pad_ : Nat → Int32} {m : Nat} {x : Nat → Nat} (h : TxR pl tx le_ pad_ m x) {p : Nat} (hp : p ≤ 900) (q : isD m x p) : f_X8_numberAt le_ pad_ (nI p) = some (nI (NV m x p)) := by
  unfold f_X8_numberAt
  rw [num_m h hp, if_pos q, bn_some, nI_1, dig_m h (by omega), dig_m h (p := p + 1) (by omega), if_pos q]
  simp only [bn_some]
  unfold NE NV
  by_cases q2 : is2 m x p
  · rw [if_pos q2, if_pos q2, if_pos (fun z => by have := (nI_eq (by omega) (by omega)).mp z; omega), if_pos q2.2, show (10 : Int32) = nI 10 from rfl, pk_mul, nI_add]
  · rw [if_neg q2, if_neg q2, if_neg (not_not_intro rfl)]
theorem beh_m {pl le_ : Int32} {tx pad_ : Nat → Int32} {m : Nat} {x : Nat → Nat} (h : TxR pl tx le_ pad_ m x) {p w : Nat} (hp : p ≤ 900) (hw : w ≤ 200) : f_X8_behind le_ pad_ (nI p) (nI w) = some (if isC m x p w then nI (p + 1) else st false p) := by
  unfold f_X8_behind
  rw [if_pos (nI_pos' (by omega)), sgn_m h (by omega), bn_some, nI_1]
  by_cases q : isC m x p w
  · rw [if_pos q, if_neg (not_not_intro ((sgn_is h hw).mpr q))]
  · rw [if_neg q, if_pos (fun e => q ((sgn_is h hw).mp e))]; rfl
theorem dige_m {pl le_ : Int32} {tx pad_ : Nat → Int32} {m : Nat} {x : Nat → Nat} (h : TxR pl tx le_ pad_ m x) {p : Nat} (hp : p ≤ 900) : f_X8_digitEnd le_ pad_ (nI p) = some (if isD m x p then nI (p + 1) else st false p) := by
  unfold f_X8_digitEnd
  rw [if_pos (nI_pos' (by omega)), dig_m h (by omega), bn_some, nI_1]
  by_cases q : isD m x p
  · rw [if_pos q, if_pos q, if_pos (nI_pos' (by have := q.2.2; omega))]
  · rw [if_neg q, if_neg q, if_neg (by decide)]; rfl
theorem isp_m {pl le_ : Int32} {tx pad_ : Nat → Int32} {m : Nat} {x : Nat → Nat} (h : TxR pl tx le_ pad_ m x) {p : Nat} (hp1 : 1 ≤ p) (hp : p ≤ 900) : f_X8_isSpeed le_ pad_ (nI p) = some (if isC m x p 43 ∨ isC m x p 45 then 1 else 0) := by
  unfold f_X8_isSpeed
  have k1 := sgn_is h (p := p) (w := 43) (by decide)
  have k2 := sgn_is h (p := p) (w := 45) (by decide)
  rw [if_neg (nI_nle (by omega) (by omega)), sgn_m h (by omega), bn_some, bn_some]
  by_cases q : isC m x p 43
  · rw [if_pos (show _ = (43 : Int32) from k1.mpr q), if_pos (Or.inl q)]
  · rw [if_neg (show ¬ _ = (43 : Int32) from fun e => q (k1.mp e))]
    by_cases q2 : isC m x p 45
    · rw [if_neg (show ¬ ¬ _ = (45 : Int32) from not_not_intro (k2.mpr q2)), if_pos (Or.inr q2)]
    · rw [if_pos (show ¬ _ = (45 : Int32) from fun e => q2 (k2.mp e)), if_neg (fun z => z.elim q q2)]
theorem NE_le {m : Nat} {x : Nat → Nat} {p : Nat} (h : isD m x p) : p < NE m x p ∧ NE m x p ≤ m := by
  unfold NE
  have := h.1
  by_cases q : is2 m x p
  · rw [if_pos q]; have := q.2.1; omega
  · rw [if_neg q]; omega
