theorem tI_0 : Cond.instantiable RX0 3 ∈ lw_tbl := List.mem_of_getElem? (i := 137) (by decide +kernel)
theorem tI_1 : Cond.instantiable RX1 3 ∈ lw_tbl := List.mem_of_getElem? (i := 153) (by decide +kernel)
theorem tI_2 : Cond.instantiable RX2 2 ∈ lw_tbl := List.mem_of_getElem? (i := 172) (by decide +kernel)
theorem tI_3 : Cond.instantiable RX3 1 ∈ lw_tbl := List.mem_of_getElem? (i := 93) (by decide +kernel)
theorem tI_4 : Cond.instantiable RX4 4 ∈ lw_tbl := List.mem_of_getElem? (i := 187) (by decide +kernel)
theorem tI_5 : Cond.instantiable RX5 7 ∈ lw_tbl := List.mem_of_getElem? (i := 30) (by decide +kernel)
theorem tI_6 : Cond.instantiable RX6 10 ∈ lw_tbl := List.mem_of_getElem? (i := 45) (by decide +kernel)
theorem tI_7 : Cond.instantiable RX7 6 ∈ lw_tbl := List.mem_of_getElem? (i := 22) (by decide +kernel)
theorem tA_int : Cond.arrayClass .int ∈ lw_tbl := List.mem_of_getElem? (i := 91) (by decide +kernel)
theorem tA_char : Cond.arrayClass .char ∈ lw_tbl := List.mem_of_getElem? (i := 185) (by decide +kernel)
theorem tO : Cond.arrayOver (.object "LeaningLines$Scene") ∈ lw_tbl := List.mem_of_getElem? (i := 159) (by decide +kernel)
theorem tC : Cond.castable "[I" "java/lang/Cloneable" ∈ lw_tbl := List.mem_of_getElem? (i := 42) (by decide +kernel)
theorem tN_0 : Cond.methodLinkNest RX7 9 yX5_init "LeaningLines" ∈ lw_tbl := List.mem_of_getElem? (i := 31) (by decide +kernel)
theorem tN_1 : Cond.methodLinkNest RX5 25 yX6_init "LeaningLines" ∈ lw_tbl := List.mem_of_getElem? (i := 46) (by decide +kernel)
theorem tN_2 : Cond.methodLinkNest RX5 32 yX3_init "LeaningLines" ∈ lw_tbl := List.mem_of_getElem? (i := 94) (by decide +kernel)
theorem tN_3 : Cond.methodLinkNest RX7 18 yX0_init "LeaningLines" ∈ lw_tbl := List.mem_of_getElem? (i := 138) (by decide +kernel)
theorem tN_4 : Cond.methodLinkNest RX7 25 yX1_init "LeaningLines" ∈ lw_tbl := List.mem_of_getElem? (i := 154) (by decide +kernel)
theorem tN_5 : Cond.methodLinkNest RX7 36 yX2_init "LeaningLines" ∈ lw_tbl := List.mem_of_getElem? (i := 173) (by decide +kernel)
theorem tN_6 : Cond.methodLinkNest RX1 24 yX5_init "LeaningLines" ∈ lw_tbl := List.mem_of_getElem? (i := 239) (by decide +kernel)
theorem tN_7 : Cond.methodLinkNest RX5 54 yX7_within "LeaningLines" ∈ lw_tbl := List.mem_of_getElem? (i := 341) (by decide +kernel)
theorem tN_8 : Cond.methodLinkNest RX6 52 yX7_within "LeaningLines" ∈ lw_tbl := List.mem_of_getElem? (i := 350) (by decide +kernel)
theorem tNf : Cond.fieldLinkNest RX5 9 "LeaningLines" "FIRST_VALUES" "[I" "LeaningLines" ∈ lw_tbl := List.mem_of_getElem? (i := 35) (by decide +kernel)
theorem tIn : Cond.initialized "LeaningLines" ∈ lw_tbl := List.mem_of_getElem? (i := 9) (by decide +kernel)
theorem tS_FIRST : Cond.laysStatic "LeaningLines" "FIRST_VALUES" "[I" ∈ lw_tbl := List.mem_of_getElem? (i := 36) (by decide +kernel)
theorem tS_LEAST : Cond.laysStatic "LeaningLines" "LEAST_VALUES" "[I" ∈ lw_tbl := List.mem_of_getElem? (i := 232) (by decide +kernel)
theorem tS_MOST : Cond.laysStatic "LeaningLines" "MOST_VALUES" "[I" ∈ lw_tbl := List.mem_of_getElem? (i := 234) (by decide +kernel)
theorem arr_of {ty : FieldType} {args : Array Value} {s : State} (h : (Cond.arrayClass ty).before args s = true) : ∃ cA : ClassId, ArrOfT s cA ty ∧ s.vm.findClass ("[" ++ ty.toString) = some cA := by
  obtain ⟨c, k, comp, h1, h2, h3⟩ := Cond.arrayClass_spec h
  exact ⟨c, fun n z => ⟨fun k h => (by cases h), k, h2, comp, h3⟩, h1⟩
theorem len_lt {args : Array Value} {s : State} {t : Term} {v : Value} {a : Addr} {cell : Cell} (h : (Term.length t).eval args s none [] s = some v) (ht : t.eval args s none [] s = some (.ref a)) (hc : s.arrayAt? a = some cell) : cell.slots.size < 2 ^ 31 := by
  simp only [Term.eval, ht, hc, Option.bind_eq_bind, Option.bind_some] at h
  by_cases hn : cell.slots.size < 2 ^ 31
  · exact hn
  · rw [if_neg hn] at h; cases h
theorem stF_of {args : Array Value} {s : State} {tm : Term} {cI : ClassId} {f : Nat → Int32} (hI : s.vm.findClass "[I" = some cI) (hex : (Cond.exactly tm "[I").before args s = true) (hlen : (Term.length tm).eval args s none [] s = some (.int 4)) (hel : ∀ j : Nat, j < 4 → (Term.elem tm (.int (Int32.ofNat j))).eval args s none [] s = some (.int (f j))) {t : Nat} (ht : tm.eval args s none [] s = some (.ref t)) : ∃ cell : Cell, s.heap[t]? = some cell ∧ cell.vm.isStatics = false ∧ cell.vm ≠ .unknown ∧ cell.cls = cI ∧ cell.slots = (arrV cI 4 (fun j => .int (f j))).slots := by
  obtain ⟨t', cell, ht', hat, hv⟩ := Term.length_spec hlen
  cases ht.symm.trans ht'
  have hlt := len_lt hlen ht hat
  have hsz : cell.slots.size = 4 := by
    have e : cell.slots.size.toInt32 = 4 := (Value.int.inj hv).symm
    have e2 : (nI cell.slots.size).toNatClampNeg = 4 := by
      show cell.slots.size.toInt32.toNatClampNeg = 4
      rw [e]; rfl
    rwa [nI_clamp hlt] at e2
  obtain ⟨hcell, hkn, hst, -⟩ := State.arrayAt?_spec hat
  have hcls : cell.cls = cI := by
    simp only [Cond.before, Cond.holds, Cond.value, ht, hI, hcell, Option.bind_eq_bind, Option.bind_some] at hex
    cases hk : s.vm.classes[cI]? with
    | none => rw [hk] at hex; simp at hex
    | some k => rw [hk] at hex; simp at hex; exact hex.1.2
  refine ⟨cell, hcell, hst, hkn, hcls, ?_⟩
  refine Array.ext (by rw [hsz, arrV_size]) (fun i h1 h2 => ?_)
  rw [hsz] at h1
  obtain ⟨a2, i2, cell2, g1, g2, g3, g4, g5⟩ := Term.elem_spec (hel i h1)
  cases ht.symm.trans g1
  cases hat.symm.trans g3
  have hi2 : i2 = Int32.ofNat i := by
    have e : (Term.int (Int32.ofNat i)).eval args s none [] s = some (.int (Int32.ofNat i)) := rfl
    cases g2.symm.trans e
    rfl
  have hc : i2.toNatClampNeg = i := by rw [hi2]; exact Int32.toNatClampNeg_ofNat_of_lt (Nat.lt_trans h1 (by decide))
  rw [hc] at g5
  have e1 := Array.getElem?_eq_some_iff.mp g5
  obtain ⟨w1, w2⟩ := e1
  have e2 := arrV_read cI (fun j => Value.int (f j)) h1
  obtain ⟨w3, w4⟩ := Array.getElem?_eq_some_iff.mp e2
  rw [w2, w4]
set_option maxHeartbeats 4000000 in
set_option maxRecDepth 100000 in
theorem st_env {s : State} {b : Addr} (hts : ∀ w ∈ lw_tbl, w.before #[Value.ref b] s = true) (hgv : (Jvm.Cond.and given_1 narrow_1).before #[Value.ref b] s = true) : ∃ (D : va_G) (cI cC cZ cR : ClassId), kk D cI cC cZ cR s ∧ stt cI (fun q : Nat => s.heap.size ≤ q) s s.heap := by
  obtain ⟨c0, iS0, hKn0⟩ := u_known (C := RX0) (T := TX0) (N := 3) (n := 3) hts inX0 (hts _ tI_0)
  obtain ⟨c1, iS1, hKn1⟩ := u_known (C := RX1) (T := TX1) (N := 3) (n := 3) hts inX1 (hts _ tI_1)
  obtain ⟨c2, iS2, hKn2⟩ := u_known (C := RX2) (T := TX2) (N := 2) (n := 2) hts inX2 (hts _ tI_2)
  obtain ⟨c3, iS3, hKn3⟩ := u_known (C := RX3) (T := TX3) (N := 1) (n := 1) hts inX3 (hts _ tI_3)
  obtain ⟨c4, iS4, hKn4⟩ := u_known (C := RX4) (T := TX4) (N := 4) (n := 4) hts inX4 (hts _ tI_4)
  obtain ⟨c5, iS5, hKn5⟩ := u_known (C := RX5) (T := TX5) (N := 7) (n := 7) hts inX5 (hts _ tI_5)
  obtain ⟨c6, iS6, hKn6⟩ := u_known (C := RX6) (T := TX6) (N := 10) (n := 10) hts inX6 (hts _ tI_6)
  obtain ⟨c7, iS7, hKn7⟩ := u_known (C := RX7) (T := TX7) (N := 6) (n := 6) hts inX7 (hts _ tI_7)
  obtain ⟨cI, hI1, hI2⟩ := arr_of (hts _ tA_int)
  obtain ⟨cC, hC1, hC2⟩ := arr_of (hts _ tA_char)
  obtain ⟨comp, cR, kA, f1, -, f2, f3, f4⟩ := Cond.arrayOver_spec (hts _ tO)
  have hKc : ∀ (k : Nat) (q : vw_C), vwCl[k]? = some q → u_Kn s q.1 q.2.1 q.2.2 ((fun k => if k = 0 then c0 else if k = 1 then c1 else if k = 2 then c2 else if k = 3 then c3 else if k = 4 then c4 else if k = 5 then c5 else if k = 6 then c6 else c7 : Nat → ClassId) k) ((fun k => if k = 0 then iS0 else if k = 1 then iS1 else if k = 2 then iS2 else if k = 3 then iS3 else if k = 4 then iS4 else if k = 5 then iS5 else if k = 6 then iS6 else iS7 : Nat → Nat → Nat) k) := by
    intro k q hq
    match k, hq with
    | 0, hq => cases hq; exact hKn0
    | 1, hq => cases hq; exact hKn1
    | 2, hq => cases hq; exact hKn2
    | 3, hq => cases hq; exact hKn3
    | 4, hq => cases hq; exact hKn4
    | 5, hq => cases hq; exact hKn5
    | 6, hq => cases hq; exact hKn6
    | 7, hq => cases hq; exact hKn7
    | k + 8, hq => simp [vwCl] at hq
  have hI3 : s.vm.findClass "[I" = some cI := va_nm_int hI2
  have hA0 : ∀ a : Nat, a < s.heap.size → ¬ (fun q : Nat => s.heap.size ≤ q) a := fun a h1 h2 => Nat.not_le.mpr h1 h2
  have hs := flat_of_before _ hgv
  have hl_FIRST : (Term.length (Term.static "LeaningLines" "FIRST_VALUES" "[I")).eval #[Value.ref b] s none [] s = some (.int (Int32.ofNat 4)) := va_eqt (z := 4) (hs _ (by decide +kernel))
  have he_FIRST : ∀ j : Nat, j < 4 → (Term.elem (Term.static "LeaningLines" "FIRST_VALUES" "[I") (.int (Int32.ofNat j))).eval #[Value.ref b] s none [] s = some (.int (fF j)) := fun j hj => by
    match j, hj with
    | 0, _ => exact va_eqt (z := 2) (hs (Cond.eq (Term.elem (Term.static "LeaningLines" "FIRST_VALUES" "[I") (.int 0)) (.int 2)) (by decide +kernel))
    | 1, _ => exact va_eqt (z := 4) (hs (Cond.eq (Term.elem (Term.static "LeaningLines" "FIRST_VALUES" "[I") (.int 1)) (.int 4)) (by decide +kernel))
    | 2, _ => exact va_eqt (z := 0) (hs (Cond.eq (Term.elem (Term.static "LeaningLines" "FIRST_VALUES" "[I") (.int 2)) (.int 0)) (by decide +kernel))
    | 3, _ => exact va_eqt (z := 1) (hs (Cond.eq (Term.elem (Term.static "LeaningLines" "FIRST_VALUES" "[I") (.int 3)) (.int 1)) (by decide +kernel))
  obtain ⟨t_FIRST, ht_FIRST, hT_FIRST⟩ := va_Tof (ty := .int) (N := 4) (f := fun j => .int (fF j)) (A := fun q : Nat => s.heap.size ≤ q) (by decide) (hs (Cond.arrayOf (Term.static "LeaningLines" "FIRST_VALUES" "[I") .int) (by decide +kernel)) hl_FIRST he_FIRST hA0
  have hZ_FIRST : va_Z "LeaningLines" "FIRST_VALUES" "[I" (.ref t_FIRST) (fun q : Nat => s.heap.size ≤ q) s s.heap := va_Zof (hts _ tS_FIRST) (hts _ tIn) ht_FIRST hA0
  have hl_LEAST : (Term.length (Term.static "LeaningLines" "LEAST_VALUES" "[I")).eval #[Value.ref b] s none [] s = some (.int (Int32.ofNat 4)) := va_eqt (z := 4) (hs _ (by decide +kernel))
  have he_LEAST : ∀ j : Nat, j < 4 → (Term.elem (Term.static "LeaningLines" "LEAST_VALUES" "[I") (.int (Int32.ofNat j))).eval #[Value.ref b] s none [] s = some (.int (fLe j)) := fun j hj => by
    match j, hj with
    | 0, _ => exact va_eqt (z := 0) (hs (Cond.eq (Term.elem (Term.static "LeaningLines" "LEAST_VALUES" "[I") (.int 0)) (.int 0)) (by decide +kernel))
    | 1, _ => exact va_eqt (z := 1) (hs (Cond.eq (Term.elem (Term.static "LeaningLines" "LEAST_VALUES" "[I") (.int 1)) (.int 1)) (by decide +kernel))
    | 2, _ => exact va_eqt (z := 0) (hs (Cond.eq (Term.elem (Term.static "LeaningLines" "LEAST_VALUES" "[I") (.int 2)) (.int 0)) (by decide +kernel))
    | 3, _ => exact va_eqt (z := 1) (hs (Cond.eq (Term.elem (Term.static "LeaningLines" "LEAST_VALUES" "[I") (.int 3)) (.int 1)) (by decide +kernel))
  obtain ⟨t_LEAST, ht_LEAST, hT_LEAST⟩ := va_Tof (ty := .int) (N := 4) (f := fun j => .int (fLe j)) (A := fun q : Nat => s.heap.size ≤ q) (by decide) (hs (Cond.arrayOf (Term.static "LeaningLines" "LEAST_VALUES" "[I") .int) (by decide +kernel)) hl_LEAST he_LEAST hA0
  have hZ_LEAST : va_Z "LeaningLines" "LEAST_VALUES" "[I" (.ref t_LEAST) (fun q : Nat => s.heap.size ≤ q) s s.heap := va_Zof (hts _ tS_LEAST) (hts _ tIn) ht_LEAST hA0
  have hl_MOST : (Term.length (Term.static "LeaningLines" "MOST_VALUES" "[I")).eval #[Value.ref b] s none [] s = some (.int (Int32.ofNat 4)) := va_eqt (z := 4) (hs _ (by decide +kernel))
  have he_MOST : ∀ j : Nat, j < 4 → (Term.elem (Term.static "LeaningLines" "MOST_VALUES" "[I") (.int (Int32.ofNat j))).eval #[Value.ref b] s none [] s = some (.int (fMo j)) := fun j hj => by
    match j, hj with
    | 0, _ => exact va_eqt (z := 9) (hs (Cond.eq (Term.elem (Term.static "LeaningLines" "MOST_VALUES" "[I") (.int 0)) (.int 9)) (by decide +kernel))
    | 1, _ => exact va_eqt (z := 20) (hs (Cond.eq (Term.elem (Term.static "LeaningLines" "MOST_VALUES" "[I") (.int 1)) (.int 20)) (by decide +kernel))
    | 2, _ => exact va_eqt (z := 40) (hs (Cond.eq (Term.elem (Term.static "LeaningLines" "MOST_VALUES" "[I") (.int 2)) (.int 40)) (by decide +kernel))
    | 3, _ => exact va_eqt (z := 4) (hs (Cond.eq (Term.elem (Term.static "LeaningLines" "MOST_VALUES" "[I") (.int 3)) (.int 4)) (by decide +kernel))
  obtain ⟨t_MOST, ht_MOST, hT_MOST⟩ := va_Tof (ty := .int) (N := 4) (f := fun j => .int (fMo j)) (A := fun q : Nat => s.heap.size ≤ q) (by decide) (hs (Cond.arrayOf (Term.static "LeaningLines" "MOST_VALUES" "[I") .int) (by decide +kernel)) hl_MOST he_MOST hA0
  have hZ_MOST : va_Z "LeaningLines" "MOST_VALUES" "[I" (.ref t_MOST) (fun q : Nat => s.heap.size ≤ q) s s.heap := va_Zof (hts _ tS_MOST) (hts _ tIn) ht_MOST hA0
  have hF := stF_of (f := fF) hI3 (hs (Cond.exactly (Term.static "LeaningLines" "FIRST_VALUES" "[I") "[I") (by decide +kernel)) hl_FIRST he_FIRST ht_FIRST
  refine ⟨(fun k => if k = 0 then c0 else if k = 1 then c1 else if k = 2 then c2 else if k = 3 then c3 else if k = 4 then c4 else if k = 5 then c5 else if k = 6 then c6 else c7, fun k => if k = 0 then iS0 else if k = 1 then iS1 else if k = 2 then iS2 else if k = 3 then iS3 else if k = 4 then iS4 else if k = 5 then iS5 else if k = 6 then iS6 else iS7), cI, cC, cI, cR, ⟨⟨hKc, ?_⟩, va_Nw.of rfl (hts _ tN_0), va_Nw.of rfl (hts _ tN_1), va_Nw.of rfl (hts _ tN_2), va_Nw.of rfl (hts _ tN_3), va_Nw.of rfl (hts _ tN_4), va_Nw.of rfl (hts _ tN_5), va_Nw.of rfl (hts _ tN_6), va_Nw.of rfl (hts _ tN_7), va_Nw.of rfl (hts _ tN_8), va_Nw.of rfl (hts _ tN_8), va_Nw.of rfl (hts _ tNf), va_Nw.of rfl (hts _ tC), va_AO.of (hts _ tO)⟩, ⟨t_FIRST, hZ_FIRST, hF, va_T.out hT_FIRST⟩, ⟨t_LEAST, hZ_LEAST, hT_LEAST⟩, ⟨t_MOST, hZ_MOST, hT_MOST⟩⟩
  intro k q hq
  match k, hq with
  | 0, hq => cases hq; exact ⟨hI1, hI2⟩
  | 1, hq => cases hq; exact ⟨hC1, hC2⟩
  | 2, hq => cases hq; exact ⟨hI1, hI2⟩
  | 3, hq => cases hq; exact ⟨fun N z => ⟨(fun k h => by cases h), kA, f2, comp, f3⟩, kA, comp, f2, f3, f1, f4⟩
  | k + 4, hq => simp [tyL] at hq
