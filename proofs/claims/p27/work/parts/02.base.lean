/-! words of the pure side: a method's answer is an Option (none: something would throw, or the fuel ends) -/
def gd {α : Type} (i : Int32) (n : Nat) (k : Option α) : Option α := if i < 0 ∨ n ≤ i.toNatClampNeg then none else k
theorem gd_sp {α : Type} {i : Int32} {n : Nat} {k : Option α} {o : α} (h : gd i n k = some o) : vp_in i n ∧ k = some o := by
  unfold gd at h
  by_cases hc : i < 0 ∨ n ≤ i.toNatClampNeg
  · rw [if_pos hc] at h; cases h
  · rw [if_neg hc] at h; exact ⟨hc, h⟩
def gz {α : Type} (y : Int32) (k : Option α) : Option α := if y = 0 then none else k
theorem gz_sp {α : Type} {y : Int32} {k : Option α} {o : α} (h : gz y k = some o) : ¬ y = 0 ∧ k = some o := by
  unfold gz at h
  by_cases hc : y = 0
  · rw [if_pos hc] at h; cases h
  · rw [if_neg hc] at h; exact ⟨hc, h⟩
def gb {α : Type} (y : Int32) (k : Option α) : Option α := if y = 0 ∨ y = 1 then k else none
theorem gb_sp {α : Type} {y : Int32} {k : Option α} {o : α} (h : gb y k = some o) : (y = 0 ∨ y = 1) ∧ k = some o := by
  unfold gb at h
  by_cases hc : y = 0 ∨ y = 1
  · rw [if_pos hc] at h; exact ⟨hc, h⟩
  · rw [if_neg hc] at h; cases h
theorem nar_b {x : Int32} (h : x = 0 ∨ x = 1) : narrow .boolean (.int x) = .int x := by rcases h with rfl | rfl <;> rfl
def gc {α : Type} (y : Int32) (k : Option α) : Option α := if 0 ≤ y ∧ y ≤ 65535 then k else none
theorem gc_sp {α : Type} {y : Int32} {k : Option α} {o : α} (h : gc y k = some o) : (0 ≤ y ∧ y ≤ 65535) ∧ k = some o := by
  unfold gc at h
  by_cases hc : 0 ≤ y ∧ y ≤ 65535
  · rw [if_pos hc] at h; exact ⟨hc, h⟩
  · rw [if_neg hc] at h; cases h
theorem ch_of {x : Int32} (h : 0 ≤ x ∧ x ≤ 65535) : ∃ q : Nat, q < 65536 ∧ x = nI q := by
  obtain ⟨j, h1, h2⟩ := nI_of2 (x := x) (M := 65535) (n := 65535) (by decide) (Int32.not_lt.mpr h.1) h.2
  exact ⟨j, by omega, h2⟩
theorem nar_c {x : Int32} (h : 0 ≤ x ∧ x ≤ 65535) : narrow .char (.int x) = .int x := by
  obtain ⟨q, h1, rfl⟩ := ch_of h
  exact (pk_charN h1).1
theorem fit_c {x : Int32} (h : 0 ≤ x ∧ x ≤ 65535) : fits .char (.int x) = true := by
  obtain ⟨q, h1, rfl⟩ := ch_of h
  exact (pk_charN h1).2
def gr {α : Type} (i : Int32) (n : Nat) (k : Option α) : Option α := if i < 0 ∨ n < i.toNatClampNeg then none else k
theorem gr_sp {α : Type} {i : Int32} {n : Nat} {k : Option α} {o : α} (h : gr i n k = some o) : ¬ i < 0 ∧ i.toNatClampNeg ≤ n ∧ k = some o := by
  unfold gr at h
  by_cases hc : i < 0 ∨ n < i.toNatClampNeg
  · rw [if_pos hc] at h; cases h
  · rw [if_neg hc] at h; exact ⟨fun z => hc (Or.inl z), Nat.not_lt.mp fun z => hc (Or.inr z), h⟩
def bn {α β : Type} (x : Option α) (k : α → Option β) : Option β := match x with
  | none => none
  | some a => k a
theorem bn_sp {α β : Type} {x : Option α} {k : α → Option β} {o : β} (h : bn x k = some o) : ∃ a, x = some a ∧ k a = some o := by
  cases x with
  | none => cases h
  | some a => exact ⟨a, rfl, h⟩
def bd {α β : Type} (a : α) (k : α → Option β) : Option β := k a
theorem bd_sp {α β : Type} {a : α} {k : α → Option β} {o : β} (h : bd a k = some o) : ∃ x, x = a ∧ k x = some o := ⟨a, rfl, h⟩
theorem bd_s2 {α β : Type} {a y : α} {k : α → Option β} {o : β} (h : bd a k = some o) (e : y = a) : k y = some o := by subst e; exact h
def jn {α β : Type} (k : α) (b : α → Option β) : Option β := b k
theorem jn_sp {α β : Type} {k : α} {b : α → Option β} {o : β} (h : jn k b = some o) : ∃ j, j = k ∧ b j = some o := ⟨k, rfl, h⟩
theorem br_p {α : Type} {c : Prop} [Decidable c] {a b : Option α} {o : α} (hc : c) (h : (if c then a else b) = some o) : a = some o := by rwa [if_pos hc] at h
theorem br_n {α : Type} {c : Prop} [Decidable c] {a b : Option α} {o : α} (hc : ¬ c) (h : (if c then a else b) = some o) : b = some o := by rwa [if_neg hc] at h
theorem no_sm {α : Type} {o : α} {P : Prop} (h : (none : Option α) = some o) : P := by cases h
theorem sw_out5 {x : Int} (h0 : ¬ x = 0) (h1 : ¬ x = 1) (h2 : ¬ x = 2) (h3 : ¬ x = 3) (h4 : ¬ x = 4) : x < 0 ∨ 4 < x := by omega
theorem sw_out3 {x : Int} (h0 : ¬ x = 0) (h1 : ¬ x = 1) (h2 : ¬ x = 2) : x < 0 ∨ 2 < x := by omega
theorem sw_out8 {x : Int} (h0 : ¬ x = 0) (h1 : ¬ x = 1) (h2 : ¬ x = 2) (h3 : ¬ x = 3) (h4 : ¬ x = 4) (h5 : ¬ x = 5) (h6 : ¬ x = 6) (h7 : ¬ x = 7) : x < 0 ∨ 7 < x := by omega
theorem sw_out14 {x : Int} (h0 : ¬ x = 0) (h1 : ¬ x = 1) (h2 : ¬ x = 2) (h3 : ¬ x = 3) (h4 : ¬ x = 4) (h5 : ¬ x = 5) (h6 : ¬ x = 6) (h7 : ¬ x = 7) (h8 : ¬ x = 8) (h9 : ¬ x = 9) (h10 : ¬ x = 10) (h11 : ¬ x = 11) (h12 : ¬ x = 12) (h13 : ¬ x = 13) : x < 0 ∨ 13 < x := by omega
/-! the links between nest mates, and the classes -/
def nw (U : State) : Prop := va_Nw (.methodLinkNest RX7 9 yX5_init "LeaningLines") U ∧ va_Nw (.methodLinkNest RX5 25 yX6_init "LeaningLines") U ∧ va_Nw (.methodLinkNest RX5 32 yX3_init "LeaningLines") U ∧ va_Nw (.methodLinkNest RX7 18 yX0_init "LeaningLines") U ∧ va_Nw (.methodLinkNest RX7 25 yX1_init "LeaningLines") U ∧ va_Nw (.methodLinkNest RX7 36 yX2_init "LeaningLines") U ∧ va_Nw (.methodLinkNest RX1 24 yX5_init "LeaningLines") U ∧ va_Nw (.methodLinkNest RX5 54 yX7_within "LeaningLines") U ∧ va_Nw (.methodLinkNest RX6 52 yX7_within "LeaningLines") U ∧ va_Nw (.methodLinkNest RX6 52 yX7_within "LeaningLines") U ∧ va_Nw (.fieldLinkNest RX5 9 "LeaningLines" "FIRST_VALUES" "[I" "LeaningLines") U ∧ va_Nw (.castable "[I" "java/lang/Cloneable") U ∧ va_AO "LeaningLines$Scene" U
theorem nw_warm {s U : State} (hW : s.WarmedH U.vm) (h : nw s) : nw U := by
  obtain ⟨h1, h2, h3, h4, h5, h6, h7, h8, h9, h10, h11, h12, h13⟩ := h
  exact ⟨va_Nw.warmM hW h1, va_Nw.warmM hW h2, va_Nw.warmM hW h3, va_Nw.warmM hW h4, va_Nw.warmM hW h5, va_Nw.warmM hW h6, va_Nw.warmM hW h7, va_Nw.warmM hW h8, va_Nw.warmM hW h9, va_Nw.warmM hW h10, va_Nw.warmF hW h11, va_Nw.warmC hW h12, va_AO.moved hW.alike h13⟩
theorem nw_same {u U : State} (e : u.vm = U.vm) (h : nw u) : nw U := by
  obtain ⟨h1, h2, h3, h4, h5, h6, h7, h8, h9, h10, h11, h12, h13⟩ := h
  exact ⟨va_Nw.same rfl e h1, va_Nw.same rfl e h2, va_Nw.same rfl e h3, va_Nw.same rfl e h4, va_Nw.same rfl e h5, va_Nw.same rfl e h6, va_Nw.same rfl e h7, va_Nw.same rfl e h8, va_Nw.same rfl e h9, va_Nw.same rfl e h10, va_Nw.same rfl e h11, va_Nw.same rfl e h12, va_AO.moved (by rw [← e]; exact Vm.Alike.refl _) h13⟩
abbrev tyL (cI cC cZ cR : ClassId) : List (ClassId × FieldType) := [(cI, .int), (cC, .char), (cI, .int), (cR, .object "LeaningLines$Scene")]
def kk (D : va_G) (cI cC cZ cR : ClassId) (U : State) : Prop := va_K D vwCl (tyL cI cC cZ cR) U ∧ nw U
theorem kk_warm {D : va_G} {cI cC cZ cR : ClassId} {s U : State} (hW : s.WarmedH U.vm) (h : kk D cI cC cZ cR s) : kk D cI cC cZ cR U := ⟨va_K.moved hW.alike h.1, nw_warm hW h.2⟩
def cPc (D : va_G) (cI cC cZ cR : ClassId) (As : List Value) (sz : Nat) (ws : va_W) : Array Value → State → Prop := va_Pc As (fun U => U.heap.size = sz ∧ va_P D vwCl ws U.heap ∧ kk D cI cC cZ cR U ∧ va_D (fun _ => True) ws)
theorem cPc_bl {D : va_G} {cI cC cZ cR : ClassId} {As : List Value} {sz : Nat} {ws : va_W} : FrameBlind (cPc D cI cC cZ cR As sz ws) := fun a U g mk q => by
  obtain ⟨q0, q1, qP, qK, qD⟩ := q
  exact ⟨q0, q1, qP, ⟨va_K.moved (u := U) (U := U.calling g mk a) (Vm.Alike.refl U.vm) qK.1, nw_same (u := U) (U := U.calling g mk a) rfl qK.2⟩, qD⟩
theorem cPc_ps {D : va_G} {cI cC cZ cR : ClassId} {As : List Value} {ws : va_W} {H : Heap} {s : State} {A : Nat → Prop} (hP : va_P D vwCl ws H) (hK : kk D cI cC cZ cR s) (hD : va_D A ws) : PreS s H (cPc D cI cC cZ cR As H.size ws) As :=
  ⟨cPc_bl, fun U hU hW => ⟨rfl, by rw [hU], by rw [hU]; exact hP, kk_warm hW hK, hD.weaken (fun _ _ _ _ => trivial)⟩⟩
theorem cPc_pv {D : va_G} {cI cC cZ cR : ClassId} {b : Addr} {As : List Value} {ws : va_W} {H : Heap} {s : State} {A : Nat → Prop} (hP : va_P D vwCl ws H) (hK : kk D cI cC cZ cR s) (hD : va_D A ws) {ci q0 : Nat} {C : String} {T : u_T} {N : Nat} {fs : List Value} (hc : vwCl[ci]? = some (C, T, N)) (he : ws[q0]? = some (b, .inr (ci, fs))) : PreV s H C b (cPc D cI cC cZ cR (.ref b :: As) H.size ws) As :=
  ⟨cPc_bl, va_recv hK.1 hP hc he, fun U hU hW => ⟨rfl, by rw [hU], by rw [hU]; exact hP, kk_warm hW hK, hD.weaken (fun _ _ _ _ => trivial)⟩⟩
abbrev cB (D : va_G) (ws : va_W) (A : Nat → Prop) : Unit → State → Prop := fun _ t => va_P D vwCl ws t.heap ∧ va_D A ws
abbrev cQi (D : va_G) (ws : va_W) (A : Nat → Prop) (v : Int32) : Array Value → State → Outcome → State → Prop := va_Qi (fun (x : Int32) (_ : Unit) => x = v) (cB D ws A) A
abbrev cQv (D : va_G) (ws : va_W) (A : Nat → Prop) : Array Value → State → Outcome → State → Prop := va_Qv (fun (_ : Unit) => True) (cB D ws A) A
theorem W_absQ {p : Program} {l : Launch} {e : Env} {R : Room} {s : State} {m : MethodId} {args : Array Value} {below : List Frame} {meth : Method} {c : Code} {H : Heap} {locs : List Loc} {cells slots : Nat} {Q : State → Prop} {g : JFrame} (h : ∀ Q' : State → Prop, Q' = Q → W p l e R s m args below meth c H locs cells slots Q' g) : W p l e R s m args below meth c H locs cells slots Q g := h Q rfl
