/-! the whole run -/
theorem law_ind {L : Nat} (hL : L ≤ 3072) (xs : Nat → Int32) : ∀ (f k : Nat) {se : Nat → Int32} {mn : Int32} {ln : Nat → Int32} {hi : Nat → Int32} {wi : Nat → Int32} {br : Nat → Int32} {sp : Nat → Int32} {si : Nat → Int32} {le : Nat → Int32} {un : Nat → Int32} {ul : Nat → Int32} {px : Nat → Int32} {tm : Int32} {ps : Int32} {ft : Int32} {fk : Int32} {lea : Nat → Int32} {upr : Nat → Int32} {ris : Nat → Int32} {pl : Int32} {tx : Nat → Int32} {at_ : Int32} {kd : Int32} {va : Nat → Int32} {nx : Int32} {hm : Int32} {pr : Nat → Bool} {sv : Nat → SCV} {prs : Nat → Bool} {svs : Nat → SCV} {kn : Int32} {le_ : Int32} {s_ : Nat → Int32} {past : Nat → Int32} {slo : Nat → Int32} {isv : Nat → Int32} {pad_ : Nat → Int32}, k ≤ L → L < k + 6 * f → (∃ n T, ScR n T se mn ln hi wi br sp si le un ul px tm ps ft fk s_) → HiR nx hm pr sv kn past → SlR prs svs slo isv → (∃ m x, TxR pl tx le_ pad_ m x) → f_law L xs f (nI k) se mn ln hi wi br sp si le un ul px tm ps ft fk lea upr ris pl tx at_ kd va nx hm pr sv prs svs kn le_ s_ past slo isv pad_ = some () := by
  intro f
  induction f with
  | zero => intro k se mn ln hi wi br sp si le un ul px tm ps ft fk lea upr ris pl tx at_ kd va nx hm pr sv prs svs kn le_ s_ past slo isv pad_ h1 h2; exact absurd h2 (by omega)
  | succ f ih =>
    intro k se mn ln hi wi br sp si le un ul px tm ps ft fk lea upr ris pl tx at_ kd va nx hm pr sv prs svs kn le_ s_ past slo isv pad_ h1 h2 hS hH hSl hTx
    rw [f_law_s]
    have hcmp : ((Int32.ofNat L) - 6 < nI k) ↔ (L : Int) - 6 < k := by
      rw [show Int32.ofNat L = nI L from rfl, ← iI_nat, ← iI_nat, show (6 : Int32) = iI 6 from rfl, iI_sub, iI_lt (by omega) (by omega) (by omega) (by omega)]
    by_cases q : (L : Int) - 6 < k
    · rw [if_pos (hcmp.mpr q)]
    · rw [if_neg (fun z => q (hcmp.mp z))]
      have G0 : ∀ o : Option Unit, gd (nI k) L o = o := fun o => gd_ok (vp_in_nI (by omega) (by omega))
      have G1 : ∀ o : Option Unit, gd (nI k + 1) L o = o := fun o => gd_ok (by rw [nI_1]; exact vp_in_nI (by omega) (by omega))
      have G2 : ∀ o : Option Unit, gd (nI k + 2) L o = o := fun o => gd_ok (by rw [show nI k + 2 = nI (k + 2) from nI_add k 2]; exact vp_in_nI (by omega) (by omega))
      have G3 : ∀ o : Option Unit, gd (nI k + 3) L o = o := fun o => gd_ok (by rw [show nI k + 3 = nI (k + 3) from nI_add k 3]; exact vp_in_nI (by omega) (by omega))
      have G4 : ∀ o : Option Unit, gd (nI k + 4) L o = o := fun o => gd_ok (by rw [show nI k + 4 = nI (k + 4) from nI_add k 4]; exact vp_in_nI (by omega) (by omega))
      have G5 : ∀ o : Option Unit, gd (nI k + 5) L o = o := fun o => gd_ok (by rw [show nI k + 5 = nI (k + 5) from nI_add k 5]; exact vp_in_nI (by omega) (by omega))
      have S6 : nI k + 6 = nI (k + 6) := nI_add k 6
      have k1 : k + 6 ≤ L := by omega
      have k2 : L < k + 6 + 6 * f := by omega
      obtain ⟨n, T, h⟩ := id hS
      obtain ⟨m, x, hx⟩ := id hTx
      rw [G0, bd_eq]
      generalize xs (nI k).toNatClampNeg &&& 31 = z
      by_cases z0 : z = 0
      · rw [if_pos z0]
        obtain ⟨r, r', e1, e2, e3, hS', hH'⟩ := sim_set h hH (xs (nI k + 1 : Int32).toNatClampNeg) (xs (nI k + 2 : Int32).toNatClampNeg)
        rw [G1, G2, e1, bn_some, G1, G2, e2, bn_some, if_pos e3, bd_eq, S6]
        exact ih (k + 6) k1 k2 hS' hH' hSl hTx
      rw [if_neg z0]
      by_cases z1 : z = 1
      · rw [if_pos z1]
        obtain ⟨r, r', e1, e2, e3, hS', hH'⟩ := sim_thing h hH (xs (nI k + 1 : Int32).toNatClampNeg) (xs (nI k + 2 : Int32).toNatClampNeg) (xs (nI k + 3 : Int32).toNatClampNeg) (xs (nI k + 4 : Int32).toNatClampNeg) (xs (nI k + 5 : Int32).toNatClampNeg)
        rw [G1, G2, G3, G4, G5, e1, bn_some, G1, G2, G3, G4, G5, e2, bn_some, if_pos e3, bd_eq, S6]
        exact ih (k + 6) k1 k2 hS' hH' hSl hTx
      rw [if_neg z1]
      by_cases z2 : z = 2
      · rw [if_pos z2]
        obtain ⟨r, r', e1, e2, e3, hS', hH'⟩ := sim_speed h hH (xs (nI k + 1 : Int32).toNatClampNeg) (xs (nI k + 2 : Int32).toNatClampNeg)
        rw [G1, G2, e1, bn_some, G1, G2, e2, bn_some, if_pos e3, bd_eq, S6]
        exact ih (k + 6) k1 k2 hS' hH' hSl hTx
      rw [if_neg z2]
      by_cases z3 : z = 3
      · rw [if_pos z3]
        obtain ⟨r, r', e1, e2, e3, hS', hH'⟩ := sim_ride h hH (xs (nI k + 1 : Int32).toNatClampNeg) (xs (nI k + 2 : Int32).toNatClampNeg)
        rw [G1, G2, e1, bn_some, G1, G2, e2, bn_some, if_pos e3, bd_eq, S6]
        exact ih (k + 6) k1 k2 hS' hH' hSl hTx
      rw [if_neg z3]
      by_cases z4 : z = 4
      · rw [if_pos z4]
        obtain ⟨r, r', e1, e2, e3, hS', hH'⟩ := sim_flash h hH (xs (nI k + 1 : Int32).toNatClampNeg) (xs (nI k + 2 : Int32).toNatClampNeg)
        rw [G1, G2, e1, bn_some, G1, G2, e2, bn_some, if_pos e3, bd_eq, S6]
        exact ih (k + 6) k1 k2 hS' hH' hSl hTx
      rw [if_neg z4]
      by_cases z5 : z = 5
      · rw [if_pos z5]
        obtain ⟨r, r', e1, e2, e3, hS', hH'⟩ := sim_pass h hH (xs (nI k + 1 : Int32).toNatClampNeg)
        rw [G1, e1, bn_some, G1, e2, bn_some, if_pos e3, bd_eq, S6]
        exact ih (k + 6) k1 k2 hS' hH' hSl hTx
      rw [if_neg z5]
      by_cases z6 : z = 6
      · rw [if_pos z6]
        obtain ⟨r, r', e1, e2, e3, hS', hH'⟩ := sim_shoot h hH lea ris
        rw [e1, bn_some, e2, bn_some, if_pos e3, bd_eq, S6]
        exact ih (k + 6) k1 k2 hS' hH' hSl hTx
      rw [if_neg z6]
      by_cases z7 : z = 7
      · rw [if_pos z7]
        obtain ⟨r, e1, e2⟩ := sim_of h (xs (nI k + 1 : Int32).toNatClampNeg) (xs (nI k + 2 : Int32).toNatClampNeg)
        rw [G1, G2, e1, bn_some, G1, G2, e2, bn_some, if_pos rfl, bd_eq, S6]
        exact ih (k + 6) k1 k2 hS hH hSl hTx
      rw [if_neg z7]
      by_cases z8 : z = 8
      · rw [if_pos z8]
        obtain ⟨r, e1, e2⟩ := sim_pixel h.2.2.2.2.2.2.2.2.2.2.2.2 (xs (nI k + 1 : Int32).toNatClampNeg) (xs (nI k + 2 : Int32).toNatClampNeg)
        rw [G1, G2, e1, bn_some, G1, G2, e2, bn_some, if_pos rfl, bd_eq, S6]
        exact ih (k + 6) k1 k2 hS hH hSl hTx
      rw [if_neg z8]
      by_cases z9 : z = 9
      · rw [if_pos z9]
        obtain ⟨zz, y1, y2, y3, y4⟩ := h.2.2.2.2.2.1
        obtain ⟨r, e1, e2⟩ := sim_joined y1 y2 y3 y4 h.2.2.2.2.2.2.2.2.2.2.2.2 (xs (nI k + 1 : Int32).toNatClampNeg) (xs (nI k + 2 : Int32).toNatClampNeg)
        rw [G1, G2, e1, bn_some, G1, G2, e2, bn_some, if_pos rfl, bd_eq, S6]
        exact ih (k + 6) k1 k2 hS hH hSl hTx
      rw [if_neg z9]
      by_cases z10 : z = 10
      · rw [if_pos z10]
        obtain ⟨r, e1, e2⟩ := sim_ofLine h.2.2.2.2.2.2.2.2.2.2.2.2 (xs (nI k + 1 : Int32).toNatClampNeg) (xs (nI k + 2 : Int32).toNatClampNeg)
        rw [G1, G2, e1, bn_some, G1, G2, e2, bn_some, if_pos rfl, bd_eq, S6]
        exact ih (k + 6) k1 k2 hS hH hSl hTx
      rw [if_neg z10]
      by_cases z11 : z = 11
      · rw [if_pos z11]
        have hk : hm = kn := by obtain ⟨X, Q, y1, y2, y3, y4, y5, y6⟩ := hH; rw [y4, y5]
        obtain ⟨r, e1, e2⟩ := sim_count h (show pl = le_ by rw [hx.1, hx.2.1]) hk (xs (nI k + 1 : Int32).toNatClampNeg)
        rw [G1, e1, bn_some, G1, e2, bn_some, if_pos rfl, bd_eq, S6]
        exact ih (k + 6) k1 k2 hS hH hSl hTx
      rw [if_neg z11]
      by_cases z12 : z = 12
      · rw [if_pos z12]
        obtain ⟨r, r', e1, e2, e3⟩ := sim_seen h upr ris (xs (nI k + 1 : Int32).toNatClampNeg) (xs (nI k + 2 : Int32).toNatClampNeg) (xs (nI k + 3 : Int32).toNatClampNeg)
        rw [G1, G2, G3, e1, bn_some, G1, G2, G3, e2, bn_some, if_pos e3, bd_eq, S6]
        exact ih (k + 6) k1 k2 hS hH hSl hTx
      rw [if_neg z12]
      by_cases z13 : z = 13
      · rw [if_pos z13]
        obtain ⟨r, e1, e2⟩ := sim_leans h (xs (nI k + 1 : Int32).toNatClampNeg)
        rw [G1, e1, bn_some, G1, e2, bn_some, if_pos rfl, bd_eq, S6]
        exact ih (k + 6) k1 k2 hS hH hSl hTx
      rw [if_neg z13]
      by_cases z14 : z = 14
      · rw [if_pos z14]
        obtain ⟨r, r', e1, e2, e3⟩ := sim_bent h lea upr ris
        rw [e1, bn_some, e2, bn_some, if_pos e3, bd_eq, S6]
        exact ih (k + 6) k1 k2 hS hH hSl hTx
      rw [if_neg z14]
      by_cases z15 : z = 15
      · rw [if_pos z15]
        obtain ⟨r, e1, e2⟩ := sim_flashed h
        rw [e1, bn_some, e2, bn_some, if_pos rfl, bd_eq, S6]
        exact ih (k + 6) k1 k2 hS hH hSl hTx
      rw [if_neg z15]
      by_cases z16 : z = 16
      · rw [if_pos z16]
        obtain ⟨r, e1, e2⟩ := sim_bestFlash h (xs (nI k + 1 : Int32).toNatClampNeg) (xs (nI k + 2 : Int32).toNatClampNeg)
        rw [G1, G2, e1, bn_some, G1, G2, e2, bn_some, if_pos rfl, bd_eq, S6]
        exact ih (k + 6) k1 k2 hS hH hSl hTx
      rw [if_neg z16]
      by_cases z17 : z = 17
      · rw [if_pos z17]
        rw [G1, G2]
        obtain ⟨r, r', e1, e2, e3, hT'⟩ := sim_put hx ((((xs (nI k + 1 : Int32).toNatClampNeg) : Int32).toInt64 <<< ((32 : Int32).toInt64 &&& 63)) ||| (((xs (nI k + 2 : Int32).toNatClampNeg) : Int32).toInt64 &&& 4294967295))
        rw [e1, bn_some, G1, G2, e2, bn_some, if_pos e3, bd_eq, S6]
        exact ih (k + 6) k1 k2 hS hH hSl hT'
      rw [if_neg z17]
      by_cases z18 : z = 18
      · rw [if_pos z18]
        unfold f_X7_wipe f_X8_wipe
        rw [bn_some, bn_some, if_pos (show pl = le_ by rw [hx.1, hx.2.1]), bd_eq, S6]
        exact ih (k + 6) k1 k2 hS hH hSl ⟨0, x, rfl, rfl, by omega, fun i hi => absurd hi (by omega)⟩
      rw [if_neg z18]
      by_cases z19 : z = 19
      · rw [if_pos z19]
        obtain ⟨r, r', e1, e2, e3, -⟩ := sim_fault hx kd va
        unfold f_X7_fault
        rw [e1, bn_some, bn_some, e2, bn_some, if_pos e3, bd_eq, S6]
        exact ih (k + 6) k1 k2 hS hH hSl hTx
      rw [if_neg z19]
      by_cases z20 : z = 20
      · rw [if_pos z20]
        obtain ⟨r, r', e1, e2, e3, hS', hH', m', hx'⟩ := sim_carryOut h hH hx lea ris kd va
        rw [e1, bn_some, e2, bn_some, if_pos e3, bd_eq, S6]
        exact ih (k + 6) k1 k2 hS' hH' hSl ⟨m', x, hx'⟩
      rw [if_neg z20]
      by_cases z21 : z = 21
      · rw [if_pos z21]
        obtain ⟨r, r', e1, e2, e3, hS', hH'⟩ := sim_undo h hH lea upr ris pl tx at_ kd va
        rw [e1, bn_some, e2, bn_some, if_pos e3, bd_eq, S6]
        exact ih (k + 6) k1 k2 hS' hH' hSl hTx
      rw [if_neg z21]
      by_cases z22 : z = 22
      · rw [if_pos z22]
        obtain ⟨r, r', e1, e2, e3, hSl'⟩ := sim_save h hSl (xs (nI k + 1 : Int32).toNatClampNeg)
        rw [G1, e1, bn_some, G1, e2, bn_some, if_pos e3, bd_eq, S6]
        exact ih (k + 6) k1 k2 hS hH hSl' hTx
      rw [if_neg z22]
      by_cases z23 : z = 23
      · rw [if_pos z23]
        obtain ⟨r, r', e1, e2, e3, hS', hH'⟩ := sim_restore h hH hSl lea upr ris pl tx at_ kd va (xs (nI k + 1 : Int32).toNatClampNeg)
        rw [G1, e1, bn_some, G1, e2, bn_some, if_pos e3, bd_eq, S6]
        exact ih (k + 6) k1 k2 hS' hH' hSl hTx
      rw [if_neg z23]
      rw [bd_eq, S6]
      exact ih (k + 6) k1 k2 hS hH hSl hTx
theorem law_pure {L : Nat} (hL : L ≤ 3072) (xs : Nat → Int32) : f_law L xs 600 0 fF 0 (fun _ => 0) (fun _ => 0) (fun _ => 0) (fun _ => 0) (fun _ => 0) (fun _ => 0) (fun _ => 0) (fun _ => 0) (fun _ => 0) (fun _ => 0) 0 0 (-6) 0 (fun _ => 0) (fun _ => 0) (fun _ => 0) 0 (fun _ => 0) 0 32 (fun _ => 0) 0 0 (fun _ => false) sv0 (fun _ => false) sv0 0 0 s0_ (fun _ => 0) (fun _ => 0) (fun _ => 0) (fun _ => 0) = some () := by
  refine law_ind hL xs 600 0 (by omega) (by omega) ⟨0, 0, ⟨by omega, rfl, rfl⟩, ⟨by omega, rfl, rfl⟩, ⟨2, by omega, rfl, rfl⟩, ⟨4, by omega, by omega, rfl, rfl⟩, ⟨0, by omega, rfl, rfl⟩, ⟨1, by omega, by omega, rfl, rfl⟩, ⟨rfl, Or.inl ⟨rfl, rfl, rfl⟩⟩, rfl, ⟨by omega, fun i hi => absurd hi (by omega)⟩, fun i hi => absurd hi (by omega), fun i hi => absurd hi (by omega), fun i hi => absurd hi (by omega), fun k hk => ⟨?_, show (0 : Int32) ≤ 0 by decide⟩⟩ ⟨0, 0, by omega, rfl, by omega, rfl, rfl, fun j hj => absurd hj (by omega)⟩ (fun j hj => Or.inr ⟨rfl, rfl⟩) ⟨0, fun _ => 0, rfl, rfl, by omega, fun i hi => absurd hi (by omega)⟩
  show upd (upd (upd (upd (fun _ => 0) 0 2) 1 4) 3 1) 7 (-1) (81 + k) = 0
  rw [upd_ne _ (by omega), upd_ne _ (by omega), upd_ne _ (by omega), upd_ne _ (by omega)]
