/-! worlds with a tail that no row names -/
theorem va_P_left {D : va_G} {cl : List vw_C} {a b : va_W} {H : Heap} (h : va_P D cl (a ++ b) H) : va_P D cl a H := fun k q hk => h k q (by rw [List.getElem?_append_left (List.getElem?_eq_some_iff.mp hk).1]; exact hk)
theorem ap_right {α : Type} {a b : List α} {k : Nat} {q : α} (hk : b[k]? = some q) : (a ++ b)[a.length + k]? = some q := by
  rw [List.getElem?_append_right (Nat.le_add_right _ _), Nat.add_sub_cancel_left]; exact hk
theorem ap_left {α : Type} {a b : List α} {k : Nat} {q : α} (hk : a[k]? = some q) : (a ++ b)[k]? = some q := by
  rw [List.getElem?_append_left (List.getElem?_eq_some_iff.mp hk).1]; exact hk
theorem va_P_right {D : va_G} {cl : List vw_C} {a b : va_W} {H : Heap} (h : va_P D cl (a ++ b) H) : va_P D cl b H := fun k q hk => h _ q (ap_right hk)
theorem va_D_left {A : Nat → Prop} {a b : va_W} (h : va_D A (a ++ b)) : va_D A a := ⟨fun i j p q hi hj e => h.1 i j p q (ap_left hi) (ap_left hj) e, fun k q hk => h.2 k q (ap_left hk)⟩
theorem va_D_right {A : Nat → Prop} {a b : va_W} (h : va_D A (a ++ b)) : va_D A b := ⟨fun i j p q hi hj e => by
  have h1 := h.1 _ _ p q (ap_right hi) (ap_right hj) e
  omega, fun k q hk => h.2 _ q (ap_right hk)⟩
theorem va_D_cross {A : Nat → Prop} {a b : va_W} (h : va_D A (a ++ b)) {i j : Nat} {p q : Nat × va_E} (hi : a[i]? = some p) (hj : b[j]? = some q) : p.1 ≠ q.1 := fun e => by
  have h1 := h.1 _ _ p q (ap_left hi) (ap_right hj) e
  have h2 := (List.getElem?_eq_some_iff.mp hi).1
  omega
theorem at_of {is : List Nat} {ws w : va_W} (hs : is.map (fun i => ws[i]?) = w.map some) {k : Nat} {q : Nat × va_E} (hq : w[k]? = some q) : ∃ i, is[k]? = some i ∧ ws[i]? = some q := by
  have h1 : (is.map (fun i => ws[i]?))[k]? = some (some q) := by rw [hs, List.getElem?_map, hq]; rfl
  rw [List.getElem?_map] at h1
  cases hi : is[k]? with
  | none => rw [hi] at h1; cases h1
  | some i => rw [hi] at h1; exact ⟨i, rfl, Option.some.inj h1⟩
theorem va_P_subT {D : va_G} {cl : List vw_C} {X X' T : va_W} {H : Heap} (h : va_P D cl (X ++ T) H) (is : List Nat) (hs : is.filterMap (fun i => X[i]?) = X') : va_P D cl (X' ++ T) H := ((va_P_left h).sub is hs).app (va_P_right h)
theorem va_D_subT {A : Nat → Prop} {X X' T : va_W} (h : va_D A (X ++ T)) (is : List Nat) (hn : va_nd is = true) (hs : is.map (fun i => X[i]?) = X'.map some) : va_D A (X' ++ T) :=
  va_D.app ((va_D_left h).sub is hn hs) (va_D_right h) (fun i j p q hi hj => by
    obtain ⟨k, -, h1⟩ := at_of hs hi
    exact va_D_cross h h1 hj)
theorem va_freeT {A0 : Nat → Prop} {L T wc : va_W} {H0 H : Heap} {locs : List Loc} (hD : va_D A0 (L ++ T)) (hS : va_S A0 H0 H locs) (hA : ∀ q, H0.size ≤ q → A0 q) (isC : List Nat) (hC : isC.map (fun i => L[i]?) = wc.map some) : ∀ q, va_A (wc ++ T) H.size q → A0 q := by
  intro q h
  rcases h with ⟨k, e, h⟩ | h
  · rcases List.mem_append.mp (List.mem_of_getElem? h) with h1 | h1
    · obtain ⟨i, hi⟩ := List.getElem?_of_mem h1
      obtain ⟨j, -, h2⟩ := at_of hC hi
      exact hD.2 _ (q, e) (ap_left h2)
    · obtain ⟨i, hi⟩ := List.getElem?_of_mem h1
      exact hD.2 _ (q, e) (ap_right hi)
  · exact hA q (Nat.le_trans hS.1 h)
theorem jT1 {A0 : Nat → Prop} {D : va_G} {cl : List vw_C} {L T wc R w1 : va_W} {H H1 : Heap} (hP : va_P D cl (L ++ T) H) (hD : va_D A0 (L ++ T)) (isC isR : List Nat) (hC : isC.map (fun i => L[i]?) = wc.map some) (hR : isR.map (fun i => L[i]?) = R.map some) (hn : va_nd isR = true) (hdis : ∀ i ∈ isR, i ∉ isC)
    (hk : ∀ q : Nat, q < H.size → ¬ va_A wc H.size q → H1[q]? = H[q]?) (hF : ∀ q, va_A wc H.size q → A0 q) (hP1 : va_P D cl w1 H1) (hD1 : va_D (va_A wc H.size) w1) : va_P D cl ((R ++ w1) ++ T) H1 ∧ va_D A0 ((R ++ w1) ++ T) := by
  obtain ⟨p1, d1⟩ := va_join (va_P_left hP) (va_D_left hD) isC isR hC hR hn hdis hk hF hP1 hD1
  have ap : ∀ (k : Nat) (q : Nat × va_E), T[k]? = some q → q.1 < H.size ∧ ¬ va_A wc H.size q.1 := by
    intro k q hq
    have hl := ((va_P_right hP) k q hq).lt
    refine ⟨hl, fun h => ?_⟩
    rcases h with ⟨k2, e, h⟩ | h
    · obtain ⟨i, -, h4⟩ := at_of hC h
      exact va_D_cross hD h4 hq rfl
    · omega
  refine ⟨p1.app (fun k q hq => ((va_P_right hP) k q hq).kept (hk q.1 (ap k q hq).1 (ap k q hq).2)), va_D.app d1 (va_D_right hD) ?_⟩
  intro i j p q hi hj e
  rcases List.mem_append.mp (List.mem_of_getElem? hi) with h1 | h1
  · obtain ⟨k, hk1⟩ := List.getElem?_of_mem h1
    obtain ⟨i2, -, h4⟩ := at_of hR hk1
    exact va_D_cross hD h4 hj e
  · obtain ⟨k, hk1⟩ := List.getElem?_of_mem h1
    exact (ap j q hj).2 (by rw [← e]; exact hD1.2 k p hk1)
theorem jT2 {A0 : Nat → Prop} {D : va_G} {cl : List vw_C} {L T T1 wc R w1 : va_W} {H H1 : Heap} (hP : va_P D cl (L ++ T) H) (hD : va_D A0 (L ++ T)) (isC isR : List Nat) (hC : isC.map (fun i => L[i]?) = wc.map some) (hR : isR.map (fun i => L[i]?) = R.map some) (hn : va_nd isR = true) (hdis : ∀ i ∈ isR, i ∉ isC)
    (hk : ∀ q : Nat, q < H.size → ¬ va_A (wc ++ T) H.size q → H1[q]? = H[q]?) (hF : ∀ q, va_A (wc ++ T) H.size q → A0 q) (hP1 : va_P D cl (w1 ++ T1) H1) (hD1 : va_D (va_A (wc ++ T) H.size) (w1 ++ T1)) : va_P D cl ((R ++ w1) ++ T1) H1 ∧ va_D A0 ((R ++ w1) ++ T1) := by
  have ap : ∀ (k : Nat) (q : Nat × va_E), R[k]? = some q → (∃ i : Nat, L[i]? = some q) ∧ q.1 < H.size ∧ ¬ va_A (wc ++ T) H.size q.1 := by
    intro k q hq
    obtain ⟨i, h1, h2⟩ := at_of hR hq
    have hl := ((va_P_left hP) i q h2).lt
    refine ⟨⟨i, h2⟩, hl, fun h => ?_⟩
    rcases h with ⟨k2, e, h⟩ | h
    · rcases List.mem_append.mp (List.mem_of_getElem? h) with h3 | h3
      · obtain ⟨k3, hk3⟩ := List.getElem?_of_mem h3
        obtain ⟨j, h4, h5⟩ := at_of hC hk3
        have hij := hD.1 i j q (q.1, e) (ap_left h2) (ap_left h5) rfl
        subst hij
        exact hdis i (List.mem_of_getElem? h1) (List.mem_of_getElem? h4)
      · obtain ⟨k3, hk3⟩ := List.getElem?_of_mem h3
        exact va_D_cross hD h2 hk3 rfl
    · omega
  rw [List.append_assoc]
  refine ⟨va_P.app (fun k q hq => ?_) hP1, va_D.app ((va_D_left hD).sub isR hn hR) (hD1.weaken (fun k q _ h => hF q.1 h)) (fun i j p q hi hj e => ?_)⟩
  · obtain ⟨⟨i, h2⟩, g1, g2⟩ := ap k q hq
    exact ((va_P_left hP) i q h2).kept (hk q.1 g1 g2)
  · exact (ap i p hi).2.2 (by rw [e]; exact hD1.2 j q hj)
/-! classes of arrays that are made -/
theorem newa_i {D : va_G} {cI cC cZ cR cA : ClassId} {s : State} (h : va_K D vwCl (tyL cI cC cZ cR ++ [(cA, .int)]) s) : cA = cI := Option.some.inj ((va_nm_int (h.2 4 _ rfl).2).symm.trans (va_nm_int (h.2 0 _ rfl).2))
theorem newa_c {D : va_G} {cI cC cZ cR cA : ClassId} {s : State} (h : va_K D vwCl (tyL cI cC cZ cR ++ [(cA, .char)]) s) : cA = cC := Option.some.inj ((va_nm_char (h.2 4 _ rfl).2).symm.trans (va_nm_char (h.2 1 _ rfl).2))
theorem newa_q {D : va_G} {cI cC cZ cR cA : ClassId} {s : State} (h : va_K D vwCl (tyL cI cC cZ cR ++ [(cA, .object "LeaningLines$Scene")]) s) : cA = cR := by
  obtain ⟨-, -, -, -, -, h1⟩ := (h.2 4 _ rfl).2
  obtain ⟨-, -, -, -, -, h2⟩ := (h.2 3 _ rfl).2
  exact Option.some.inj (h1.symm.trans h2)
/-! the statics: three rows of four numbers -/
def fF : Nat → Int32 := fun j => if j = 0 then 2 else if j = 1 then 4 else if j = 2 then 0 else 1
def fLe : Nat → Int32 := fun j => if j = 0 then 0 else if j = 1 then 1 else if j = 2 then 0 else 1
def fMo : Nat → Int32 := fun j => if j = 0 then 9 else if j = 1 then 20 else if j = 2 then 40 else 4
def stF (cI : ClassId) (t : Nat) (H : Heap) : Prop := ∃ cell : Cell, H[t]? = some cell ∧ cell.vm.isStatics = false ∧ cell.vm ≠ .unknown ∧ cell.cls = cI ∧ cell.slots = (arrV cI 4 (fun j => .int (fF j))).slots
def stt (cI : ClassId) (B : Nat → Prop) (U : State) (H : Heap) : Prop :=
  (∃ t : Nat, va_Z "LeaningLines" "FIRST_VALUES" "[I" (.ref t) B U H ∧ stF cI t H ∧ ¬ B t) ∧ (∃ t : Nat, va_Z "LeaningLines" "LEAST_VALUES" "[I" (.ref t) B U H ∧ va_T .int t 4 (fun j => .int (fLe j)) B U H) ∧ (∃ t : Nat, va_Z "LeaningLines" "MOST_VALUES" "[I" (.ref t) B U H ∧ va_T .int t 4 (fun j => .int (fMo j)) B U H)
theorem stF_kept {cI : ClassId} {t : Nat} {H H1 : Heap} {B : Nat → Prop} (h : stF cI t H) (hB : ¬ B t) (hq : ∀ q : Nat, q < H.size → ¬ B q → H1[q]? = H[q]?) : stF cI t H1 := by
  obtain ⟨cell, h1, h2⟩ := h
  exact ⟨cell, by rw [hq t (Array.getElem?_eq_some_iff.mp h1).1 hB]; exact h1, h2⟩
theorem stt_go {cI : ClassId} {B : Nat → Prop} {u U : State} {H H1 : Heap} (hvm : u.vm.Alike U.vm) (hq : ∀ q : Nat, q < H.size → ¬ B q → H1[q]? = H[q]?) (h : stt cI B u H) : stt cI B U H1 := by
  obtain ⟨⟨t1, a1, a2, a3⟩, ⟨t2, b1, b2⟩, ⟨t3, c1, c2⟩⟩ := h
  exact ⟨⟨t1, (a1.moved hvm).kept hq, stF_kept a2 a3 hq, a3⟩, ⟨t2, (b1.moved hvm).kept hq, (b2.moved hvm).kept hq⟩, ⟨t3, (c1.moved hvm).kept hq, (c2.moved hvm).kept hq⟩⟩
def cPcS (D : va_G) (cI cC cZ cR : ClassId) (b0 : Nat) (As : List Value) (sz : Nat) (ws : va_W) : Array Value → State → Prop := va_Pc As (fun U => U.heap.size = sz ∧ va_P D vwCl ws U.heap ∧ kk D cI cC cZ cR U ∧ va_D (fun q => b0 ≤ q) ws ∧ b0 ≤ sz ∧ stt cI (fun q => b0 ≤ q) U U.heap)
theorem cPcS_bl {D : va_G} {cI cC cZ cR : ClassId} {b0 : Nat} {As : List Value} {sz : Nat} {ws : va_W} : FrameBlind (cPcS D cI cC cZ cR b0 As sz ws) := fun a U g mk q => by
  obtain ⟨q0, q1, qP, qK, qD, qb, qs⟩ := q
  exact ⟨q0, q1, qP, ⟨va_K.moved (u := U) (U := U.calling g mk a) (Vm.Alike.refl U.vm) qK.1, nw_same (u := U) (U := U.calling g mk a) rfl qK.2⟩, qD, qb, stt_go (u := U) (U := U.calling g mk a) (Vm.Alike.refl U.vm) (fun _ _ _ => rfl) qs⟩
theorem cPcS_go {D : va_G} {cI cC cZ cR : ClassId} {b0 : Nat} {As : List Value} {ws : va_W} {H : Heap} {s : State} {A : Nat → Prop} {locs : List Loc} (hP : va_P D vwCl ws H) (hK : kk D cI cC cZ cR s) (hD : va_D A ws) (hAb : ∀ q, A q → b0 ≤ q) (hb : b0 ≤ s.heap.size) (hS : va_S A s.heap H locs) (hst : stt cI (fun q => b0 ≤ q) s s.heap) : ∀ U : State, U.heap = H → s.WarmedH U.vm → cPcS D cI cC cZ cR b0 As H.size ws As.toArray U :=
  fun U hU hW => ⟨rfl, by rw [hU], by rw [hU]; exact hP, kk_warm hW hK, hD.weaken (fun _ q _ h => hAb q.1 h), Nat.le_trans hb hS.1, by rw [hU]; exact stt_go hW.alike (fun q h1 h2 => hS.2.1 q h1 (fun z => h2 (hAb q z))) hst⟩
theorem cPcS_ps {D : va_G} {cI cC cZ cR : ClassId} {b0 : Nat} {As : List Value} {ws : va_W} {H : Heap} {s : State} {A : Nat → Prop} {locs : List Loc} (hP : va_P D vwCl ws H) (hK : kk D cI cC cZ cR s) (hD : va_D A ws) (hAb : ∀ q, A q → b0 ≤ q) (hb : b0 ≤ s.heap.size) (hS : va_S A s.heap H locs) (hst : stt cI (fun q => b0 ≤ q) s s.heap) : PreS s H (cPcS D cI cC cZ cR b0 As H.size ws) As := ⟨cPcS_bl, cPcS_go hP hK hD hAb hb hS hst⟩
theorem cPcS_pv {D : va_G} {cI cC cZ cR : ClassId} {b0 : Nat} {b : Addr} {As : List Value} {ws : va_W} {H : Heap} {s : State} {A : Nat → Prop} {locs : List Loc} (hP : va_P D vwCl ws H) (hK : kk D cI cC cZ cR s) (hD : va_D A ws) (hAb : ∀ q, A q → b0 ≤ q) (hb : b0 ≤ s.heap.size) (hS : va_S A s.heap H locs) (hst : stt cI (fun q => b0 ≤ q) s s.heap) {ci q0 : Nat} {C : String} {T : u_T} {N : Nat} {fs : List Value} (hc : vwCl[ci]? = some (C, T, N)) (he : ws[q0]? = some (b, .inr (ci, fs))) : PreV s H C b (cPcS D cI cC cZ cR b0 (.ref b :: As) H.size ws) As := ⟨cPcS_bl, va_recv hK.1 hP hc he, cPcS_go hP hK hD hAb hb hS hst⟩
theorem hAb_of {ws : va_W} {sz b0 : Nat} {A : Nat → Prop} (hAe : va_A ws sz = A) (hD : va_D (fun q => b0 ≤ q) ws) (hb : b0 ≤ sz) : ∀ q, A q → b0 ≤ q := fun q h => by
  rw [← hAe] at h
  rcases h with ⟨k, e, h⟩ | h
  · exact hD.2 k (q, e) h
  · exact Nat.le_trans hb h
abbrev cQn (D : va_G) (A : Nat → Prop) (wf : (Nat → Nat) → va_W) : Array Value → State → Outcome → State → Prop := va_Qv (fun (_ : Nat → Nat) => True) (fun u t => va_P D vwCl (wf u) t.heap ∧ va_D A (wf u)) A
abbrev cQm (D : va_G) (A : Nat → Prop) (v : Int32) (wf : (Nat → Nat) → va_W) : Array Value → State → Outcome → State → Prop := va_Qi (fun (x : Int32) (_ : Nat → Nat) => x = v) (fun u t => va_P D vwCl (wf u) t.heap ∧ va_D A (wf u)) A
section VCT
variable {p : Program} {l : Launch} {e : Env} {R : Room} {s : State} {m : MethodId} {args : Array Value} {below : List Frame} {meth : Method} {c : Code} {H : Heap} {locs : List Loc} {cells slots : Nat} {Q : State → Prop}
variable {cc : ByteArray} {pc : Nat} {ls : Array Slot} {rest : List Value} {D : va_G} {cl : List vw_C} {A : Nat → Prop} {a : Nat} {tys : List (ClassId × FieldType)} {ws : va_W} {H0 : Heap}
theorem va_cloneT (hexec : p.tables.exec = Jvm.exec) (hb : c.code = cc) (hml : c.maxLocals = ls.size) {own ad : String} {index : Nat} (hown : s.vm.findClass own = some m.cls)
    (hlink : (Cond.methodLink own index ⟨ad, "clone", "()Ljava/lang/Object;"⟩).before args s = true) (hsame : (Cond.sameMethod ad "java/lang/Object" "clone" "()Ljava/lang/Object;").before args s = true)
    (hnat : (Cond.native ⟨"java/lang/Object", "clone", "()Ljava/lang/Object;"⟩).before args s = true) (hinst : (Cond.instanceMethod ⟨"java/lang/Object", "clone", "()Ljava/lang/Object;"⟩).before args s = true)
    (hsel : (Cond.selects ad ⟨ad, "clone", "()Ljava/lang/Object;"⟩ ⟨"java/lang/Object", "clone", "()Ljava/lang/Object;"⟩).before args s = true) (hcl : va_Nw (.castable ad "java/lang/Cloneable") s)
    (hK : va_K D cl tys s) (hP : va_P D cl ws H) (hD : va_D A ws) (hS : va_S A H0 H locs) (hA : ∀ q, H0.size ≤ q → A q) (t0 : Nat) {cA : ClassId} {n : Nat} {f : Nat → Int32} {cell : Cell} (hcell : H[a]? = some cell) (g1 : cell.vm.isStatics = false) (g2 : cell.vm ≠ .unknown) (g3 : cell.cls = cA) (g4 : cell.slots = (arrV cA n (fun j => .int (f j))).slots) (ht : tys[t0]? = some (cA, .int))
    (hnm : s.vm.findClass ad = some cA)
    (hframes : 1 ≤ R.frames) (hlocals : (rest.map fun v => v.category).sum + 14 ≤ R.locals) (hcells : cells + 1 ≤ R.cells) (hslots : slots + n ≤ R.slots) (hdg : decode cc pc = .ok (.invokevirtual index, 3))
    (kk : ∀ (q : Nat) (H1 : Heap), va_P D cl (ws ++ [(q, .inl (cA, n, .inl f))]) H1 → va_D A (ws ++ [(q, .inl (cA, n, .inl f))]) → va_S A H0 H1 locs →
      W p l e R s m args below meth c H1 locs (cells + 1) (slots + n) Q (F0 m (pc + 3) ls (.ref q :: rest))) : W p l e R s m args below meth c H locs cells slots Q (F0 m pc ls (.ref a :: rest)) := by
  have hsz : cell.slots.size = n := by rw [g4]; exact arrV_size _ _ _
  have hcellE : ({ cls := cell.cls, slots := cell.slots } : Cell) = vp_cell cA (n, .inl f) := by rw [g3, g4]; rfl
  obtain ⟨c0, t0', f1, f2, f3⟩ := Cond.castable_spec (va_Nw.use (A := args) rfl hcl)
  cases hnm.symm.trans f1
  intro T hT X
  have hcellT : T.heap[a]? = some cell := by rw [hT]; exact hcell
  obtain ⟨-, kA, hkA, comp, hkind⟩ := State.isArrayOf_alike X.warmed.alike ((hK.2 t0 _ ht).1 0 (fun _ => .null))
  obtain ⟨-, kS, hkS, compS, hkindS⟩ := (hK.2 t0 _ ht).1 0 (fun _ => .null)
  obtain ⟨vm', X', st⟩ := X.cloneArray hexec hown hlink hsame hnat hinst hsel (a := a) (cell := cell) hcellT (fun k h => by rw [h] at g1; cases g1) g2 (by rw [g3]; exact hnm) f2 (by rw [g3]; exact f3)
    (fun i v hv => by
      rw [g4] at hv
      rw [g3]
      have hk' : T.vm.classes[cA]? = some kA := hkA
      simpa [State.fitsSlot, State.slotType?, hk', hkind] using va_fit (ty := .int) (fun i _ => rfl) i v hv)
    (g := F0 m pc ls (.ref a :: rest)) rfl (by rw [hml]) rfl (by rw [hb]; exact hdg) hframes (by show 2 * 0 + _ + 14 ≤ _; omega) hcells (by rw [hsz]; exact hslots) (hloader := by rw [g3]; exact Vm.clonesLoader_of_array hkS hkindS)
  rw [hcellE, hsz] at X'
  generalize hH1 : H.push (vp_cell cA (n, .inl f)) = H1
  have z1 : H1.size = H.size + 1 := by rw [← hH1, Array.size_push]
  have e1 : H1[H.size]? = some (vp_cell cA (n, .inl f)) := by rw [← hH1, Array.getElem?_push_size]
  have o1 : ∀ q : Nat, q < H.size → H1[q]? = H[q]? := fun q hq => by rw [← hH1, Array.getElem?_push, if_neg (Nat.ne_of_lt hq)]
  have hk : ∀ (k : Nat) (y : Nat × va_E), ws[k]? = some y → H1[y.1]? = H[y.1]? := fun k y hy => o1 y.1 ((hP k y hy).lt)
  obtain ⟨t, b1, b2⟩ := kk H.size H1 ((hP.kept hk).app (fun k y hy => by
      have hz : k < 1 := (List.getElem?_eq_some_iff.mp hy).1
      rw [show k = 0 by omega] at hy
      cases hy
      exact e1)) (hD.push hP rfl (hA _ hS.1)) ⟨Nat.le_trans hS.1 (by omega), fun y h1 h2 => (o1 y (Nat.lt_of_lt_of_le h1 hS.1)).trans (hS.2.1 y h1 h2), hS.2.2⟩
    ((T.setVm vm').pushCell (vp_cell cA (n, .inl f))) (by rw [← hH1, ← hT]; rfl) X'
  refine ⟨t, st t ?_, b2⟩
  rw [hcellE, hT]
  exact b1
end VCT
