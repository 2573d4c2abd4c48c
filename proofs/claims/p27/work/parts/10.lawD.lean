def f_L_cell (L : Nat) (xs : Nat → Int32) (k : Int32) : Option Int32 := if Int32.ofNat L ≤ k then some ((7919 * (k + 3)) * (k + 11)) else gd k L (some (xs k.toNatClampNeg))
def cPcX (b L : Nat) (xs : Nat → Int32) (As : List Value) (sz : Nat) : Array Value → State → Prop := va_Pc As (fun U => U.heap.size = sz ∧ va_X b L xs U U.heap ∧ b < sz)
theorem cPcX_bl {b L : Nat} {xs : Nat → Int32} {As : List Value} {sz : Nat} : FrameBlind (cPcX b L xs As sz) := fun v U g mk q => by
  obtain ⟨q0, q1, qX, qb⟩ := q
  exact ⟨q0, q1, va_X.moved (u := U) (U := U.calling g mk v) (Vm.Alike.refl U.vm) qX, qb⟩
theorem cell_ps {b L : Nat} {xs : Nat → Int32} {As : List Value} {H : Heap} {s : State} {locs : List Loc} (hX : va_X b L xs s s.heap) (hbl : b < s.heap.size) (hS : va_S (fun q : Nat => s.heap.size ≤ q) s.heap H locs) : PreS s H (cPcX b L xs As H.size) As :=
  ⟨cPcX_bl, fun U hU hW => ⟨rfl, by rw [hU], by rw [hU]; exact (hX.kept (hS.2.1 b hbl (Nat.not_le.mpr hbl))).moved hW.alike, Nat.lt_of_lt_of_le hbl hS.1⟩⟩
abbrev R_L_cell : Room := { frames := 0, cells := 0, slots := 0, locals := 0 }
set_option maxHeartbeats 4000000 in
theorem m_L_cell (l : Launch) (b L : Nat) (xs : Nat → Int32) (sz : Nat) (k : Int32) (r : Int32) (hf : f_L_cell L xs k = some r) : Met l yL_cell wsL_cell R_L_cell (cPcX b L xs [.ref b, .int k] sz) (va_Qi (fun (x : Int32) (_ : Unit) => x = r) (fun _ _ => True) (fun q : Nat => sz ≤ q)) 0 0 (fun q : Nat => sz ≤ q) := by
  refine Met.ofW (cc := cL_cell) (maxL := 2) (ret := (some .int)) (by decide) rfl ?_
  intro p e s m args below meth c s₁ B hml hv
  obtain ⟨rfl, hsz, hX, hbl⟩ := hv
  have hx := B.exec
  have hb := B.bytes
  have hr := B.returns
  subst hsz
  have hbA : ¬ (fun q : Nat => s.heap.size ≤ q) b := Nat.not_le.mpr hbl
  have hS : va_S (fun q : Nat => s.heap.size ≤ q) s.heap s.heap [] := va_S.rf
  have hl := lv_entry ([.ref b, .int k]) (n := 2) (Nat.le_of_ble_eq_true rfl)
  rw [lg_entry_eq]
  generalize (lg_sl ([.ref b, .int k]) ++ List.replicate (2 - (lg_sl ([.ref b, .int k])).length) Slot.unset).toArray = ls at hl ⊢
  have hl : lv_has ls 2 [(0, .ref b), (1, .int k)] := hl
  refine W_absQ (fun Q hQ => ?_)
  refine W.eq (g2 := F0 m 0 ls []) rfl ?_
  have h := hf
  unfold f_L_cell at h
  refine lv_iload_n hx hb dL_cell_0 rfl (lv_at hl 1 rfl) ?_
  refine lv_aload_n hx hb dL_cell_1 rfl (lv_at hl 0 rfl) ?_
  refine va_slen hx hb hX hbl hbA hS dL_cell_2 ?_
  refine lv_icmp_ge (tgt := 12) hx hb dL_cell_3 (by decide) (fun c1 => ?_) (fun c1 => ?_)
  · replace h := br_p c1 h
    refine lv_sipush (v := 7919) hx hb dL_cell_12 (by decide) ?_
    refine lv_iload_n hx hb dL_cell_15 rfl (lv_at hl 1 rfl) ?_
    refine lv_iconst (v := 3) hx hb dL_cell_16 (by decide) ?_
    refine lv_iadd hx hb dL_cell_17 ?_
    refine lv_imul hx hb dL_cell_18 ?_
    refine lv_iload_n hx hb dL_cell_19 rfl (lv_at hl 1 rfl) ?_
    refine lv_bipush (v := 11) hx hb dL_cell_20 (by decide) ?_
    refine lv_iadd hx hb dL_cell_22 ?_
    refine lv_imul hx hb dL_cell_23 ?_
    have e9 := Option.some.inj h
    subst e9
    rw [hQ]
    exact W.iret (v := (7919 * (k + 3)) * (k + 11)) hx hb hr (fun t ht hW => ⟨⟨_, (), rfl, rfl, trivial⟩, hS.F ht⟩) hS.2.2 dL_cell_24
  · replace h := br_n c1 h
    obtain ⟨hin, h⟩ := gd_sp h
    refine lv_aload_n hx hb dL_cell_6 rfl (lv_at hl 0 rfl) ?_
    refine lv_iload_n hx hb dL_cell_7 rfl (lv_at hl 1 rfl) ?_
    refine va_sld hx hb hX hbl hbA hS hin dL_cell_8 ?_
    refine lv_goto (tgt := 24) hx hb dL_cell_9 (by decide) ?_
    have e9 := Option.some.inj h
    subst e9
    rw [hQ]
    exact W.iret (v := xs k.toNatClampNeg) hx hb hr (fun t ht hW => ⟨⟨_, (), rfl, rfl, trivial⟩, hS.F ht⟩) hS.2.2 dL_cell_24
def Bc : Nat → Nat
  | 0 => 100
  | i + 1 => Bc i + 28 + (if nI i - nI i / 9 * 9 = 5 then 3836 else 0) + (if nI i - nI i / 20 * 20 = 11 then 1414 else 0)
def Bs : Nat → Nat
  | 0 => 2000
  | i + 1 => Bs i + 956 + (if nI i - nI i / 9 * 9 = 5 then 130972 else 0) + (if nI i - nI i / 20 * 20 = 11 then 48278 else 0)
theorem B_cap : ∀ i, i < 46 → Bc i ≤ 200000 ∧ Bs i ≤ 2000000 := by decide +kernel
theorem B_00 (i : Nat) : Bc i + 28 ≤ Bc (i + 1) ∧ Bs i + 956 ≤ Bs (i + 1) := by
  rw [Bc, Bs]; constructor <;> omega
theorem B_10 {i : Nat} (h : nI i - nI i / 9 * 9 = 5) : Bc i + 3864 ≤ Bc (i + 1) ∧ Bs i + 131928 ≤ Bs (i + 1) := by
  rw [Bc, Bs, if_pos h, if_pos h]; constructor <;> omega
theorem B_01 {i : Nat} (h : nI i - nI i / 20 * 20 = 11) : Bc i + 1442 ≤ Bc (i + 1) ∧ Bs i + 49234 ≤ Bs (i + 1) := by
  rw [Bc, Bs, if_pos h, if_pos h]; constructor <;> omega
theorem B_11 {i : Nat} (h : nI i - nI i / 9 * 9 = 5) (g : nI i - nI i / 20 * 20 = 11) : Bc i + 5278 ≤ Bc (i + 1) ∧ Bs i + 180206 ≤ Bs (i + 1) := by
  rw [Bc, Bs, if_pos h, if_pos h, if_pos g, if_pos g]; constructor <;> omega
/-! THE CLAIM OUT OF ONE WALK OF THE LAW'S BODY. Your part is whole_start (and what it stands on); all else here is the same for every law, but numbers. -/
def R_law : String := "LeaningLinesLaw"
def lw_P (b : Addr) (xs : List Int32) (args : Array Value) (s : State) : Prop := args = #[.ref b] ∧ s.IntsAt b xs ∧ xs.length ≤ 260 ∧ (Jvm.Cond.and given_1 narrow_1).before args s = true
def lw_Q (_ : Array Value) (s : State) (o : Outcome) (t : State) : Prop := o = .returned (some (.int 1)) ∧ Framed s o t [] 600000 7302250
def lw_Z (below : List Frame) (a : Array Value) (s : State) : State → Prop := fun t => ∃ o, t.status = .running ∧ Ended t below o ∧ lw_Q a s o t
/-- the law's own end, with 1 on the stack, nothing written that was there before, its room as the claim has it -/
theorem lw_ret {p : Program} {l : Launch} {e : Env} {s : State} {m : MethodId} {below : List Frame} {meth : Method} {c : Code} {b : Nat} (hx : p.tables.exec = Jvm.exec) (hb : c.code = code) (hr : meth.sig.returnType = ret) (hlocks : meth.locks = false) {pc : Nat} {H : Heap} {ls : Array Slot} (hdg : decode code pc = .ok (.ireturn, 1)) : W p l e room_1 s m #[Value.ref b] below meth c H [] 600000 7302250 (lw_Z below #[Value.ref b] s) (F0 m pc ls [.int 1]) := by
  intro T hT X
  obtain ⟨fs, hret, hrun, hended, hW, hframe⟩ := X.leave (v := some (.int 1)) (hlocks := hlocks) (fun h => by rw [hr] at h; cases h)
  have hmeth' : T.vm.method? m = some meth := X.method'
  refine ⟨T.setFrames fs, ?_, .returned (some (.int 1)), hrun, hended, rfl, ⟨_, rfl⟩, hW, hframe⟩
  jvm_step X.here [X.here.top, hx, hb, hdg, hmeth', hr, ret, narrow_b1]
  (try refine ⟨rfl, ?_⟩); (try refine ⟨rfl, ?_⟩)
  first | (intro acts; rw [hret _ acts rfl rfl rfl]) | rw [hret _ _ rfl rfl rfl]
  exact Steps.refl _
/-- what holds at the law's entry: the machine, the code, the tables' words (any of lw_tbl by 'hts w (by decide +kernel)'), the script of L ints xs at the cell b, what the Statement gives of the start (any of its parts by flat_of_before) -/
def lw_At (p : Program) (s : State) (m : MethodId) (meth : Method) (c : Code) (b L : Nat) (xs : Nat → Int32) : Prop :=
  p.tables.exec = Jvm.exec ∧ c.code = code ∧ meth.sig.returnType = ret ∧ c.maxLocals = 6 ∧ s.vm.findClass R_law = some m.cls ∧ (∀ w ∈ lw_tbl, w.before #[Value.ref b] s = true) ∧ va_X b L xs s s.heap ∧ b < s.heap.size ∧ meth.locks = false ∧ (Jvm.Cond.and given_1 narrow_1).before #[Value.ref b] s = true
theorem kL_law_0 : Cond.constant RL 89 (65535) ∈ wsL_law := by decide +kernel
def f_L_law_L66 (L : Nat) (xs : Nat → Int32) (k : OB → Option Unit) : Nat → Int32 → OB → Option Unit
  | 0 => fun _ _ => none
  | n + 1 => fun v o => (if 45 ≤ v then k o else bn (f_L_cell L xs (2 * v)) (fun r501 => bn (f_L_cell L xs ((2 * v) + 1)) (fun r502 => bn (f_L_does o r501 r502) (fun r503 => (if r503.1 = 0 then none else bn (f_L_low (r502 >>> (3 &&& 31)) 16) (fun r504 => bn (f_L_low (r502 >>> (8 &&& 31)) 24) (fun r505 => bn (f_L_isSeen r503.2 r504 r505) (fun r506 => (if ¬ r506.1 = 0 then bn (F_count r506.2 1) (fun r507 => (if r507 ≤ 0 then (if r507 ≤ 0 then (if ¬ (v - v / 20 * 20) = 11 then bd (v + 1) (fun x508 => f_L_law_L66 L xs k n x508 r506.2) else bn (f_L_low (r502 >>> (5 &&& 31)) 20) (fun r509 => bn (f_L_isBestFlash r506.2 (1 + r509)) (fun r510 => (if ¬ r510.1 = 0 then bd (v + 1) (fun x511 => f_L_law_L66 L xs k n x511 r510.2) else none)))) else (if ¬ (v - v / 9 * 9) = 5 then (if ¬ (v - v / 20 * 20) = 11 then bd (v + 1) (fun x513 => f_L_law_L66 L xs k n x513 r506.2) else bn (f_L_low (r502 >>> (5 &&& 31)) 20) (fun r514 => bn (f_L_isBestFlash r506.2 (1 + r514)) (fun r515 => (if ¬ r515.1 = 0 then bd (v + 1) (fun x516 => f_L_law_L66 L xs k n x516 r515.2) else none)))) else bn (f_L_low (r501 >>> (5 &&& 31)) r507) (fun r518 => bn (f_L_leans r506.2 r518) (fun r519 => (if r519.1 = 0 then none else (if ¬ (v - v / 20 * 20) = 11 then bd (v + 1) (fun x520 => f_L_law_L66 L xs k n x520 r519.2) else bn (f_L_low (r502 >>> (5 &&& 31)) 20) (fun r521 => bn (f_L_isBestFlash r519.2 (1 + r521)) (fun r522 => (if ¬ r522.1 = 0 then bd (v + 1) (fun x523 => f_L_law_L66 L xs k n x523 r522.2) else none))))))))) else bn (f_L_low (r501 >>> (6 &&& 31)) r507) (fun r527 => bn (f_L_isThing r506.2 r527) (fun r528 => (if r528 = 0 then none else (if r507 ≤ 0 then (if ¬ (v - v / 20 * 20) = 11 then bd (v + 1) (fun x529 => f_L_law_L66 L xs k n x529 r506.2) else bn (f_L_low (r502 >>> (5 &&& 31)) 20) (fun r530 => bn (f_L_isBestFlash r506.2 (1 + r530)) (fun r531 => (if ¬ r531.1 = 0 then bd (v + 1) (fun x532 => f_L_law_L66 L xs k n x532 r531.2) else none)))) else (if ¬ (v - v / 9 * 9) = 5 then (if ¬ (v - v / 20 * 20) = 11 then bd (v + 1) (fun x534 => f_L_law_L66 L xs k n x534 r506.2) else bn (f_L_low (r502 >>> (5 &&& 31)) 20) (fun r535 => bn (f_L_isBestFlash r506.2 (1 + r535)) (fun r536 => (if ¬ r536.1 = 0 then bd (v + 1) (fun x537 => f_L_law_L66 L xs k n x537 r536.2) else none)))) else bn (f_L_low (r501 >>> (5 &&& 31)) r507) (fun r539 => bn (f_L_leans r506.2 r539) (fun r540 => (if r540.1 = 0 then none else (if ¬ (v - v / 20 * 20) = 11 then bd (v + 1) (fun x541 => f_L_law_L66 L xs k n x541 r540.2) else bn (f_L_low (r502 >>> (5 &&& 31)) 20) (fun r542 => bn (f_L_isBestFlash r540.2 (1 + r542)) (fun r543 => (if ¬ r543.1 = 0 then bd (v + 1) (fun x544 => f_L_law_L66 L xs k n x544 r543.2) else none)))))))))))))) else none)))))))))
theorem f_L_law_L66_s (L : Nat) (xs : Nat → Int32) (k : OB → Option Unit) (n : Nat) (v : Int32) (o : OB) : f_L_law_L66 L xs k (n + 1) v o = ((if 45 ≤ v then k o else bn (f_L_cell L xs (2 * v)) (fun r501 => bn (f_L_cell L xs ((2 * v) + 1)) (fun r502 => bn (f_L_does o r501 r502) (fun r503 => (if r503.1 = 0 then none else bn (f_L_low (r502 >>> (3 &&& 31)) 16) (fun r504 => bn (f_L_low (r502 >>> (8 &&& 31)) 24) (fun r505 => bn (f_L_isSeen r503.2 r504 r505) (fun r506 => (if ¬ r506.1 = 0 then bn (F_count r506.2 1) (fun r507 => (if r507 ≤ 0 then (if r507 ≤ 0 then (if ¬ (v - v / 20 * 20) = 11 then bd (v + 1) (fun x508 => f_L_law_L66 L xs k n x508 r506.2) else bn (f_L_low (r502 >>> (5 &&& 31)) 20) (fun r509 => bn (f_L_isBestFlash r506.2 (1 + r509)) (fun r510 => (if ¬ r510.1 = 0 then bd (v + 1) (fun x511 => f_L_law_L66 L xs k n x511 r510.2) else none)))) else (if ¬ (v - v / 9 * 9) = 5 then (if ¬ (v - v / 20 * 20) = 11 then bd (v + 1) (fun x513 => f_L_law_L66 L xs k n x513 r506.2) else bn (f_L_low (r502 >>> (5 &&& 31)) 20) (fun r514 => bn (f_L_isBestFlash r506.2 (1 + r514)) (fun r515 => (if ¬ r515.1 = 0 then bd (v + 1) (fun x516 => f_L_law_L66 L xs k n x516 r515.2) else none)))) else bn (f_L_low (r501 >>> (5 &&& 31)) r507) (fun r518 => bn (f_L_leans r506.2 r518) (fun r519 => (if r519.1 = 0 then none else (if ¬ (v - v / 20 * 20) = 11 then bd (v + 1) (fun x520 => f_L_law_L66 L xs k n x520 r519.2) else bn (f_L_low (r502 >>> (5 &&& 31)) 20) (fun r521 => bn (f_L_isBestFlash r519.2 (1 + r521)) (fun r522 => (if ¬ r522.1 = 0 then bd (v + 1) (fun x523 => f_L_law_L66 L xs k n x523 r522.2) else none))))))))) else bn (f_L_low (r501 >>> (6 &&& 31)) r507) (fun r527 => bn (f_L_isThing r506.2 r527) (fun r528 => (if r528 = 0 then none else (if r507 ≤ 0 then (if ¬ (v - v / 20 * 20) = 11 then bd (v + 1) (fun x529 => f_L_law_L66 L xs k n x529 r506.2) else bn (f_L_low (r502 >>> (5 &&& 31)) 20) (fun r530 => bn (f_L_isBestFlash r506.2 (1 + r530)) (fun r531 => (if ¬ r531.1 = 0 then bd (v + 1) (fun x532 => f_L_law_L66 L xs k n x532 r531.2) else none)))) else (if ¬ (v - v / 9 * 9) = 5 then (if ¬ (v - v / 20 * 20) = 11 then bd (v + 1) (fun x534 => f_L_law_L66 L xs k n x534 r506.2) else bn (f_L_low (r502 >>> (5 &&& 31)) 20) (fun r535 => bn (f_L_isBestFlash r506.2 (1 + r535)) (fun r536 => (if ¬ r536.1 = 0 then bd (v + 1) (fun x537 => f_L_law_L66 L xs k n x537 r536.2) else none)))) else bn (f_L_low (r501 >>> (5 &&& 31)) r507) (fun r539 => bn (f_L_leans r506.2 r539) (fun r540 => (if r540.1 = 0 then none else (if ¬ (v - v / 20 * 20) = 11 then bd (v + 1) (fun x541 => f_L_law_L66 L xs k n x541 r540.2) else bn (f_L_low (r502 >>> (5 &&& 31)) 20) (fun r542 => bn (f_L_isBestFlash r540.2 (1 + r542)) (fun r543 => (if ¬ r543.1 = 0 then bd (v + 1) (fun x544 => f_L_law_L66 L xs k n x544 r543.2) else none)))))))))))))) else none)))))))))) := rfl
def f_L_law_end (o9 : OB) : Option Unit := bn (F_thing o9 16 0 1 1 1) (fun r7 => (if ¬ r7.1 = (-2) then none else bn (F_flash r7.2 100 1) (fun r8 => (if ¬ r8.1 = (-2) then none else bn (F_pass r8.2 0) (fun r9 => (if ¬ r9.1 = (-2) then none else bn (F_set r9.2 0 10) (fun r10 => (if ¬ r10.1 = (-2) then none else bn (F_set r10.2 4 1) (fun r11 => (if ¬ r11.1 = (-2) then none else bn (F_seen r11.2 0 0 100) (fun r12 => (if ¬ r12.1 = (-2) then none else bn (F_seen r12.2 0 24 0) (fun r13 => (if ¬ r13.1 = (-1) then none else bn (F_bestFlash r13.2 21 0) (fun r14 => (if ¬ r14 = (-2) then none else bn (F_count r13.2 14) (fun r15 => (if ¬ r15 = (-2) then none else some ()))))))))))))))))))
def f_L_law (L : Nat) (xs : Nat → Int32) (o : OB) : Option Unit :=
  bn (f_L_isPicture o) (fun r1 => (if r1 = 0 then none else bn (F_count o 3) (fun r2 => (if ¬ r2 = 65535 then none else bn (F_count o 6) (fun r3 => (if ¬ r3 = (-6) then none else bn (F_flashed o ) (fun r4 => (if ¬ r4 = 0 then none else bn (F_undo o ) (fun r5 => (if ¬ r5.1 = (-5) then none else bn (F_seen r5.2 0 0 0) (fun r6 => (if r6.1 = 0 then f_L_law_L66 L xs f_L_law_end 46 0 r6.2 else none))))))))))))
