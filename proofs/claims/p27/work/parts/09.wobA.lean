theorem va_P_3 {D : va_G} {cl : List vw_C} {X X' T S : va_W} {H : Heap} (h : va_P D cl (X ++ (T ++ S)) H) (is : List Nat) (hs : is.filterMap (fun i => X[i]?) = X') : va_P D cl (X' ++ T) H := ((va_P_left h).sub is hs).app (va_P_left (va_P_right h))
theorem va_D_3 {A : Nat → Prop} {X X' T S : va_W} (h : va_D A (X ++ (T ++ S))) (is : List Nat) (hn : va_nd is = true) (hs : is.map (fun i => X[i]?) = X'.map some) : va_D A (X' ++ T) := by
  have h1 := va_D_subT h is hn hs
  rw [← List.append_assoc] at h1
  exact va_D_left h1
/-- cells beside a world that a method changes -/
theorem frY {A0 : Nat → Prop} {D : va_G} {cl : List vw_C} {Y Z Z1 : va_W} {H H1 : Heap} (hPY : va_P D cl (Y ++ Z) H) (hDY : va_D A0 (Y ++ Z)) (hk : ∀ q : Nat, q < H.size → ¬ va_A Z H.size q → H1[q]? = H[q]?) (hF : ∀ q, va_A Z H.size q → A0 q) (p : va_P D cl Z1 H1) (d : va_D (va_A Z H.size) Z1) : va_P D cl (Y ++ Z1) H1 ∧ va_D A0 (Y ++ Z1) := by
  have ap : ∀ (k : Nat) (q : Nat × va_E), Y[k]? = some q → q.1 < H.size ∧ ¬ va_A Z H.size q.1 := by
    intro k q hq
    have hl := ((va_P_left hPY) k q hq).lt
    refine ⟨hl, fun h => ?_⟩
    rcases h with ⟨k2, e, h⟩ | h
    · exact va_D_cross hDY hq h rfl
    · omega
  exact ⟨va_P.app (fun k q hq => ((va_P_left hPY) k q hq).kept (hk q.1 (ap k q hq).1 (ap k q hq).2)) p, va_D.app (va_D_left hDY) (d.weaken (fun k q _ h => hF q.1 h)) (fun i j x y hi hj e => (ap i x hi).2 (by rw [e]; exact d.2 j y hj))⟩
theorem ap_sub {X T S wc : va_W} (h : ∀ q ∈ wc, q ∈ X) : ∀ q ∈ wc ++ T, q ∈ X ++ (T ++ S) := fun q hq => by
  rcases List.mem_append.mp hq with z | z
  · exact List.mem_append_left _ (h q z)
  · exact List.mem_append_right _ (List.mem_append_left _ z)
theorem ap_sub1 {X T wc : va_W} (h : ∀ q ∈ wc, q ∈ X) : ∀ q ∈ wc, q ∈ X ++ T := fun q hq => List.mem_append_left _ (h q hq)
theorem ap_subT {X T wc : va_W} (h : ∀ q ∈ wc, q ∈ X) : ∀ q ∈ wc ++ T, q ∈ X ++ T := fun q hq => by
  rcases List.mem_append.mp hq with z | z
  · exact List.mem_append_left _ (h q z)
  · exact List.mem_append_right _ z
/-- what the object holds: scene, camera, pad and reader, history, slots -/
abbrev CAMV : Type := (Nat → Int32) × (Nat → Int32) × (Nat → Int32)
abbrev PADV : Type := Int32 × (Nat → Int32) × Int32 × Int32 × (Nat → Int32)
abbrev HIV : Type := Int32 × Int32 × (Nat → Bool) × (Nat → SCV)
abbrev SLV : Type := (Nat → Bool) × (Nat → SCV)
abbrev OB : Type := SCV × CAMV × PADV × HIV × SLV
abbrev wob (cI cC cZ cR : ClassId) (a : Nat → Nat) (o : OB) (ad ads : Nat → Nat → Nat) : va_W := (ws_mainTS cI cC cZ cR (a 0) (a 1) (a 2) (a 3) (a 4) (a 5) (a 6) (a 7) (a 8) (a 9) (a 10) (a 11) (a 12) (a 13) (a 14) (a 15) (a 16) (a 17) (a 18) (a 19) (a 20) (a 21) (a 22) (a 23) (a 24) (a 25) o.1.1 o.1.2.1 o.1.2.2.1 o.1.2.2.2.1 o.1.2.2.2.2.1 o.1.2.2.2.2.2.1 o.1.2.2.2.2.2.2.1 o.1.2.2.2.2.2.2.2.1 o.1.2.2.2.2.2.2.2.2.1 o.1.2.2.2.2.2.2.2.2.2.1 o.1.2.2.2.2.2.2.2.2.2.2.1 o.1.2.2.2.2.2.2.2.2.2.2.2.1 o.1.2.2.2.2.2.2.2.2.2.2.2.2.1 o.1.2.2.2.2.2.2.2.2.2.2.2.2.2.1 o.1.2.2.2.2.2.2.2.2.2.2.2.2.2.2.1 o.1.2.2.2.2.2.2.2.2.2.2.2.2.2.2.2 o.2.1.1 o.2.1.2.1 o.2.1.2.2 o.2.2.1.1 o.2.2.1.2.1 o.2.2.1.2.2.1 o.2.2.1.2.2.2.1 o.2.2.1.2.2.2.2 o.2.2.2.1.1 o.2.2.2.1.2.1 (hfn o.2.2.2.2.1 ads) o.2.2.2.1.2.2.1 ad) ++ ((hwB cI cC cZ cR o.2.2.2.1.2.2.1 ad o.2.2.2.1.2.2.2) ++ (hwB' cI cC cZ cR o.2.2.2.2.1 ads o.2.2.2.2.2 2))
def WO (D : va_G) (cI cC cZ cR : ClassId) (b0 : Nat) (a : Nat → Nat) (Y : va_W) (o : OB) (H : Heap) : Prop := ∃ ad ads : Nat → Nat → Nat, va_P D vwCl (Y ++ wob cI cC cZ cR a o ad ads) H ∧ va_D (fun q => b0 ≤ q) (Y ++ wob cI cC cZ cR a o ad ads)
def cPcO (D : va_G) (cI cC cZ cR : ClassId) (b0 : Nat) (a : Nat → Nat) (Y : va_W) (As : List Value) (o : OB) : Array Value → State → Prop := va_Pc As (fun U => WO D cI cC cZ cR b0 a Y o U.heap ∧ kk D cI cC cZ cR U ∧ b0 ≤ U.heap.size ∧ stt cI (fun q => b0 ≤ q) U U.heap)
abbrev cQO (D : va_G) (cI cC cZ cR : ClassId) (b0 : Nat) (a : Nat → Nat) (Y : va_W) (v : Int32) (o : OB) : Array Value → State → Outcome → State → Prop := va_Qi (fun (x : Int32) (_ : Unit) => x = v) (fun _ t => WO D cI cC cZ cR b0 a Y o t.heap) (fun q => b0 ≤ q)
theorem cPcO_bl {D : va_G} {cI cC cZ cR : ClassId} {b0 : Nat} {a : Nat → Nat} {Y : va_W} {As : List Value} {o : OB} : FrameBlind (cPcO D cI cC cZ cR b0 a Y As o) := fun v U g mk q => by
  obtain ⟨q0, qO, qK, qb, qs⟩ := q
  exact ⟨q0, qO, ⟨va_K.moved (u := U) (U := U.calling g mk v) (Vm.Alike.refl U.vm) qK.1, nw_same (u := U) (U := U.calling g mk v) rfl qK.2⟩, qb, stt_go (u := U) (U := U.calling g mk v) (Vm.Alike.refl U.vm) (fun _ _ _ => rfl) qs⟩
theorem cPcO_go {D : va_G} {cI cC cZ cR : ClassId} {b0 : Nat} {a : Nat → Nat} {Y : va_W} {As : List Value} {o : OB} {H : Heap} {s : State} {locs : List Loc} (hO : WO D cI cC cZ cR b0 a Y o H) (hK : kk D cI cC cZ cR s) (hb : b0 ≤ s.heap.size) (hS : va_S (fun q => b0 ≤ q) s.heap H locs) (hst : stt cI (fun q => b0 ≤ q) s s.heap) : ∀ U : State, U.heap = H → s.WarmedH U.vm → cPcO D cI cC cZ cR b0 a Y As o As.toArray U :=
  fun U hU hW => ⟨rfl, by rw [hU]; exact hO, kk_warm hW hK, by rw [hU]; exact Nat.le_trans hb hS.1, by rw [hU]; exact stt_go hW.alike (fun q h1 h2 => hS.2.1 q h1 h2) hst⟩
theorem cPcO_ps {D : va_G} {cI cC cZ cR : ClassId} {b0 : Nat} {a : Nat → Nat} {Y : va_W} {As : List Value} {o : OB} {H : Heap} {s : State} {locs : List Loc} (hO : WO D cI cC cZ cR b0 a Y o H) (hK : kk D cI cC cZ cR s) (hb : b0 ≤ s.heap.size) (hS : va_S (fun q => b0 ≤ q) s.heap H locs) (hst : stt cI (fun q => b0 ≤ q) s s.heap) : PreS s H (cPcO D cI cC cZ cR b0 a Y As o) As := ⟨cPcO_bl, cPcO_go hO hK hb hS hst⟩
theorem cPcO_pv {D : va_G} {cI cC cZ cR : ClassId} {b0 : Nat} {a : Nat → Nat} {Y : va_W} {As : List Value} {o : OB} {H : Heap} {s : State} {locs : List Loc} (hO : WO D cI cC cZ cR b0 a Y o H) (hK : kk D cI cC cZ cR s) (hb : b0 ≤ s.heap.size) (hS : va_S (fun q => b0 ≤ q) s.heap H locs) (hst : stt cI (fun q => b0 ≤ q) s s.heap) : PreV s H RX7 (a 0) (cPcO D cI cC cZ cR b0 a Y (.ref (a 0) :: As) o) As :=
  ⟨cPcO_bl, by
    obtain ⟨ad, ads, hP, -⟩ := id hO
    exact va_recv hK.1 (va_P_right hP) (ci := 7) (q0 := 0) rfl rfl, cPcO_go hO hK hb hS hst⟩
theorem WO_drop {D : va_G} {cI cC cZ cR : ClassId} {b0 : Nat} {a : Nat → Nat} {x : Nat × va_E} {Y : va_W} {o : OB} {H : Heap} (h : WO D cI cC cZ cR b0 a (x :: Y) o H) : WO D cI cC cZ cR b0 a Y o H := by
  obtain ⟨ad, ads, hP, hD⟩ := h
  exact ⟨ad, ads, va_P_right (a := [x]) hP, va_D_right (a := [x]) hD⟩
theorem WO_new {D : va_G} {cI cC cZ cR : ClassId} {b0 : Nat} {a : Nat → Nat} {x : Nat × va_E} {Y : va_W} {o : OB} {H : Heap} {ad ads : Nat → Nat → Nat} (hP : va_P D vwCl ((Y ++ wob cI cC cZ cR a o ad ads) ++ [x]) H) (hD : va_D (fun q => b0 ≤ q) ((Y ++ wob cI cC cZ cR a o ad ads) ++ [x])) : WO D cI cC cZ cR b0 a (x :: Y) o H :=
  ⟨ad, ads, va_P_perm (w2 := [x] ++ (Y ++ wob cI cC cZ cR a o ad ads)) List.perm_append_comm hP, va_D_perm (w2 := [x] ++ (Y ++ wob cI cC cZ cR a o ad ads)) List.perm_append_comm hD⟩
