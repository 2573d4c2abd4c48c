theorem va_nilP {D : va_G} {cl : List vw_C} {H : Heap} : va_P D cl [] H := fun k q h => by simp at h
theorem va_nilDD {A : Nat → Prop} : va_D A [] := ⟨fun i j p q h => by simp at h, fun k q h => by simp at h⟩
theorem va_nilA {sz q : Nat} (h : va_A [] sz q) : sz ≤ q := by
  rcases h with ⟨k, e, h⟩ | h
  · simp at h
  · exact h
theorem va_nilD {b0 : Nat} {A : Nat → Prop} {s : State} {H : Heap} {locs : List Loc} (hb : b0 ≤ s.heap.size) (hS : va_S A s.heap H locs) : ∀ q, va_A [] H.size q → b0 ≤ q := fun q h => Nat.le_trans hb (Nat.le_trans hS.1 (va_nilA h))
theorem WO_kept {D : va_G} {cI cC cZ cR : ClassId} {b0 : Nat} {a : Nat → Nat} {Y : va_W} {o : OB} {H H1 : Heap} (hk : ∀ q : Nat, q < H.size → H1[q]? = H[q]?) (hO : WO D cI cC cZ cR b0 a Y o H) : WO D cI cC cZ cR b0 a Y o H1 := by
  obtain ⟨ad, ads, hP, hD⟩ := hO
  exact ⟨ad, ads, fun k q hq => (hP k q hq).kept (hk q.1 (hP k q hq).lt), hD⟩
theorem WO_st {D : va_G} {cI cC cZ cR : ClassId} {b0 : Nat} {a : Nat → Nat} {Y : va_W} {o : OB} {H H1 : Heap} (hk : ∀ q : Nat, q < H.size → ¬ va_A [] H.size q → H1[q]? = H[q]?) (hO : WO D cI cC cZ cR b0 a Y o H) : WO D cI cC cZ cR b0 a Y o H1 := WO_kept (fun q h => hk q h (fun z => Nat.not_le.mpr h (va_nilA z))) hO
theorem WO_st2 {D : va_G} {cI cC cZ cR : ClassId} {b0 : Nat} {a : Nat → Nat} {Y : va_W} {o : OB} {H H1 : Heap} (hk : ∀ q : Nat, q < H.size → ¬ (fun q : Nat => H.size ≤ q) q → H1[q]? = H[q]?) (hO : WO D cI cC cZ cR b0 a Y o H) : WO D cI cC cZ cR b0 a Y o H1 := WO_kept (fun q h => hk q h (Nat.not_le.mpr h)) hO

-- LeaningLinesLaw.low
abbrev OUT_L_low : Type := Int32
def f_L_low (a0 : Int32) (a1 : Int32) : Option OUT_L_low :=
  gz a1 (some ((a0 &&& 2147483647) - (a0 &&& 2147483647) / a1 * a1))
theorem kL_low_0 : Cond.constant RL 7 (2147483647) ∈ wsL_low := by decide +kernel
abbrev R_L_low : Room := { frames := 0, cells := 0, slots := 0, locals := 0 }
set_option maxHeartbeats 4000000 in
set_option maxRecDepth 100000 in
theorem m_L_low (l : Launch) (D : va_G) (cI cC cZ cR : ClassId)  (sz : Nat)   (a0 : Int32) (a1 : Int32)   (r : OUT_L_low) (hf : f_L_low a0 a1 = some r) : Met l yL_low wsL_low R_L_low (cPc D cI cC cZ cR [.int a0, .int a1] sz []) (cQi D [] (va_A [] sz) r) 0 0 (va_A [] sz) := by
  refine Met.ofW (cc := cL_low) (maxL := 2) (ret := (some .int)) (by decide) rfl ?_
  intro p e s m args below meth c s₁ B hml hv
  obtain ⟨rfl, hsz, hP, hK, hD0⟩ := hv
  have hx := B.exec
  have hb := B.bytes
  have hr := B.returns
  have hts := atoms_spec (ws := wsL_low) B.pre
  have hown : s.vm.findClass RL = some m.cls := findClass_of_methodNamed B.named
  have hlocks := B.notSynchronized
  subst hsz
  have hD := hD0.self (sz := s.heap.size)
  generalize hAe : va_A [] s.heap.size = A at hD ⊢
  skip
  have hA : ∀ q : Nat, s.heap.size ≤ q → A q := fun q h => by rw [← hAe]; exact Or.inr h
  have hS : va_S A s.heap s.heap [] := va_S.rf
  have hl := lv_entry ([.int a0, .int a1]) (n := 2) (Nat.le_of_ble_eq_true rfl)
  rw [lg_entry_eq]
  generalize (lg_sl ([.int a0, .int a1]) ++ List.replicate (2 - (lg_sl ([.int a0, .int a1])).length) Slot.unset).toArray = ls at hl ⊢
  have hl : lv_has ls 2 [(0, .int a0), (1, .int a1)] := hl
  refine W_absQ (fun Q hQ => ?_)
  refine W.eq (g2 := F0 m 0 ls []) rfl ?_
  have h := hf
  unfold f_L_low at h
  refine lv_iload_n hx hb dL_low_0 rfl (lv_at hl 0 rfl) ?_
  refine lv_ldc (v := 2147483647) hx hb hown (hts _ kL_low_0) dL_low_1 ?_
  refine lv_iand hx hb dL_low_3 ?_
  refine lv_iload_n hx hb dL_low_4 rfl (lv_at hl 1 rfl) ?_
  obtain ⟨hz, h⟩ := gz_sp h
  refine lv_irem hx hb dL_low_5 hz ?_
  have e9 := Option.some.inj h
  subst e9
  rw [hQ]
  exact W.iret (v := (a0 &&& 2147483647) - (a0 &&& 2147483647) / a1 * a1) hx hb hr (fun t ht hW => ⟨⟨(a0 &&& 2147483647) - (a0 &&& 2147483647) / a1 * a1, (), rfl, rfl, by rw [ht]; exact hP, hD⟩, hS.F ht⟩) hS.2.2 dL_low_6
-- LeaningLinesLaw.ones
abbrev OUT_L_ones : Type := Int32
def f_L_ones_L4 (a0 : Int32) (k : Int32 → Int32 → Option OUT_L_ones) : Nat → Int32 → Int32 → Option OUT_L_ones
  | 0 => fun _ _ => none
  | n + 1 => fun v3 v4 => (if 24 ≤ v4 then k v3 v4 else bd (v3 + ((a0 >>> (v4 &&& 31)) &&& 1)) (fun x5 => bd (v4 + 1) (fun x6 => f_L_ones_L4 a0 k n x5 x6)))
theorem f_L_ones_L4_s (a0 : Int32) (k : Int32 → Int32 → Option OUT_L_ones) (n : Nat) (v3 : Int32) (v4 : Int32) : f_L_ones_L4 a0 k (n + 1) v3 v4 = ((if 24 ≤ v4 then k v3 v4 else bd (v3 + ((a0 >>> (v4 &&& 31)) &&& 1)) (fun x5 => bd (v4 + 1) (fun x6 => f_L_ones_L4 a0 k n x5 x6)))) := rfl
def f_L_ones (a0 : Int32) : Option OUT_L_ones :=
  f_L_ones_L4 a0 (fun (w8 : Int32) (w9 : Int32) => some (w8)) 4000 0 0
abbrev R_L_ones : Room := { frames := 0, cells := 0, slots := 0, locals := 0 }
set_option maxHeartbeats 4000000 in
set_option maxRecDepth 100000 in
theorem m_L_ones (l : Launch) (D : va_G) (cI cC cZ cR : ClassId)  (sz : Nat)   (a0 : Int32)   (r : OUT_L_ones) (hf : f_L_ones a0 = some r) : Met l yL_ones wsL_ones R_L_ones (cPc D cI cC cZ cR [.int a0] sz []) (cQi D [] (va_A [] sz) r) 0 0 (va_A [] sz) := by
  refine Met.ofW (cc := cL_ones) (maxL := 3) (ret := (some .int)) (by decide) rfl ?_
  intro p e s m args below meth c s₁ B hml hv
  obtain ⟨rfl, hsz, hP, hK, hD0⟩ := hv
  have hx := B.exec
  have hb := B.bytes
  have hr := B.returns
  have hts := atoms_spec (ws := wsL_ones) B.pre
  have hown : s.vm.findClass RL = some m.cls := findClass_of_methodNamed B.named
  have hlocks := B.notSynchronized
  subst hsz
  have hD := hD0.self (sz := s.heap.size)
  generalize hAe : va_A [] s.heap.size = A at hD ⊢
  skip
  have hA : ∀ q : Nat, s.heap.size ≤ q → A q := fun q h => by rw [← hAe]; exact Or.inr h
  have hS : va_S A s.heap s.heap [] := va_S.rf
  have hl := lv_entry ([.int a0]) (n := 3) (Nat.le_of_ble_eq_true rfl)
  rw [lg_entry_eq]
  generalize (lg_sl ([.int a0]) ++ List.replicate (3 - (lg_sl ([.int a0])).length) Slot.unset).toArray = ls at hl ⊢
  have hl : lv_has ls 3 [(0, .int a0)] := hl
  refine W_absQ (fun Q hQ => ?_)
  refine W.eq (g2 := F0 m 0 ls []) rfl ?_
  have h := hf
  unfold f_L_ones at h
  refine lv_iconst (v := 0) hx hb dL_ones_0 (by decide) ?_
  refine lv_istore_n (lv' := [(1, .int 0), (0, .int a0)]) hx hb dL_ones_1 rfl hl (by decide) rfl (fun ls hl => ?_)
  refine lv_iconst (v := 0) hx hb dL_ones_2 (by decide) ?_
  refine lv_istore_n (lv' := [(2, .int 0), (1, .int 0), (0, .int a0)]) hx hb dL_ones_3 rfl hl (by decide) rfl (fun ls hl => ?_)
  have L4 : ∀ (k : Int32 → Int32 → Option OUT_L_ones), (∀ (w8 : Int32) (w9 : Int32) (H : Heap) (locs : List Loc) (ls : Array Slot), k w8 w9 = some r → va_P D vwCl [] H → va_D A [] → va_S A s.heap H locs → lv_has ls 3 [(0, .int a0), (1, .int w8), (2, .int w9)] → W p l e R_L_ones s m ([.int a0] : List Value).toArray below meth c H locs 0 0 Q (F0 m 24 ls [])) → ∀ (n : Nat) (v3 : Int32) (v4 : Int32) (H : Heap) (locs : List Loc) (ls : Array Slot), f_L_ones_L4 a0 k n v3 v4 = some r → va_P D vwCl [] H → va_D A [] → va_S A s.heap H locs → lv_has ls 3 [(0, .int a0), (1, .int v3), (2, .int v4)] → W p l e R_L_ones s m ([.int a0] : List Value).toArray below meth c H locs 0 0 Q (F0 m 4 ls []) := by
    intro k K n
    induction n with
    | zero => intro v3 v4 H locs ls h; exact no_sm h
    | succ n ih =>
      intro v3 v4 H locs ls h hP hD hS hl
      rw [f_L_ones_L4_s] at h
      refine lv_iload_n hx hb dL_ones_4 rfl (lv_at hl 2 rfl) ?_
      refine lv_bipush (v := 24) hx hb dL_ones_5 (by decide) ?_
      refine lv_icmp_ge (tgt := 24) hx hb dL_ones_7 (by decide) (fun c7 => ?_) (fun c7 => ?_)
      · replace h := br_p c7 h
        exact K _ _ _ _ _ h hP hD hS (lv_sub hl [0, 1, 2] rfl)
      · replace h := br_n c7 h
        refine lv_iload_n hx hb dL_ones_10 rfl (lv_at hl 1 rfl) ?_
        refine lv_iload_n hx hb dL_ones_11 rfl (lv_at hl 0 rfl) ?_
        refine lv_iload_n hx hb dL_ones_12 rfl (lv_at hl 2 rfl) ?_
        refine lv_ishr hx hb dL_ones_13 ?_
        refine lv_iconst (v := 1) hx hb dL_ones_14 (by decide) ?_
        refine lv_iand hx hb dL_ones_15 ?_
        refine lv_iadd hx hb dL_ones_16 ?_
        refine lv_topi (fun x5 ex5 => ?_)
        replace h := bd_s2 h ex5
        refine lv_istore_n (lv' := [(1, .int x5), (0, .int a0), (2, .int v4)]) hx hb dL_ones_17 rfl hl (by decide) rfl (fun ls hl => ?_)
        obtain ⟨x6, ex6, h⟩ := bd_sp h
        refine lv_iinc (v := x6) (lv' := [(2, .int x6), (1, .int x5), (0, .int a0)]) hx hb dL_ones_18 hl (k := 2) rfl (by rw [ex6]; rfl) (by decide) rfl (fun ls hl => ?_)
        refine lv_goto (tgt := 4) hx hb dL_ones_21 (by decide) ?_
        exact ih _ _ _ _ _ h hP hD hS (lv_sub hl [2, 1, 0] rfl)
  refine L4 _ (fun w8 w9 H locs ls h hP hD hS hl => ?_) 4000 0 0 _ _ _ h hP hD hS (lv_sub hl [2, 1, 0] rfl)
  refine lv_iload_n hx hb dL_ones_24 rfl (lv_at hl 1 rfl) ?_
  have e9 := Option.some.inj h
  subst e9
  rw [hQ]
  exact W.iret (v := w8) hx hb hr (fun t ht hW => ⟨⟨w8, (), rfl, rfl, by rw [ht]; exact hP, hD⟩, hS.F ht⟩) hS.2.2 dL_ones_25
-- the law: isPicture
abbrev OUT_L_isPicture : Type := Int32
def f_L_isPicture_L33 (o : OB) (v10 : Int32) (k : Int32 → Int32 → Int32 → Int32 → Int32 → Option OUT_L_isPicture) : Nat → Int32 → Int32 → Int32 → Int32 → Int32 → Option OUT_L_isPicture
  | 0 => fun _ _ _ _ _ => none
  | n + 1 => fun v16 v17 v18 v19 v20 => (if v20 < 0 then k v16 v17 v18 v19 v20 else bn (F_pixel o v10 v20) (fun r21 => (if r21 < 0 then none else (if r21 ≤ 1800 then jn (fun (j22 : Int32) => bd (v17 ||| j22) (fun x23 => bd (v18 + r21) (fun x24 => jn (fun (j25 : Int32) => (if r21 ≤ v16 then bd (v20 + (-1)) (fun x26 => f_L_isPicture_L33 o v10 k n v16 x23 x24 j25 x26) else bd (v20 + (-1)) (fun x27 => f_L_isPicture_L33 o v10 k n r21 x23 x24 j25 x27))) (fun j100 => (if r21 ≤ 0 then j100 v19 else j100 v20))))) (fun j78 => (if r21 ≤ 0 then j78 0 else j78 (1 <<< (v20 &&& 31)))) else none))))
theorem f_L_isPicture_L33_s (o : OB) (v10 : Int32) (k : Int32 → Int32 → Int32 → Int32 → Int32 → Option OUT_L_isPicture) (n : Nat) (v16 : Int32) (v17 : Int32) (v18 : Int32) (v19 : Int32) (v20 : Int32) : f_L_isPicture_L33 o v10 k (n + 1) v16 v17 v18 v19 v20 = ((if v20 < 0 then k v16 v17 v18 v19 v20 else bn (F_pixel o v10 v20) (fun r21 => (if r21 < 0 then none else (if r21 ≤ 1800 then jn (fun (j22 : Int32) => bd (v17 ||| j22) (fun x23 => bd (v18 + r21) (fun x24 => jn (fun (j25 : Int32) => (if r21 ≤ v16 then bd (v20 + (-1)) (fun x26 => f_L_isPicture_L33 o v10 k n v16 x23 x24 j25 x26) else bd (v20 + (-1)) (fun x27 => f_L_isPicture_L33 o v10 k n r21 x23 x24 j25 x27))) (fun j100 => (if r21 ≤ 0 then j100 v19 else j100 v20))))) (fun j78 => (if r21 ≤ 0 then j78 0 else j78 (1 <<< (v20 &&& 31)))) else none))))) := rfl
def f_L_isPicture_L245 (o : OB) (r63 : Int32) (v65 : Int32) (k : Int32 → Int32 → Option OUT_L_isPicture) : Nat → Int32 → Int32 → Option OUT_L_isPicture
  | 0 => fun _ _ => none
  | n + 1 => fun v68 v69 => (if r63 ≤ v69 then k v68 v69 else jn (fun (j70 : Int32) => bd (v68 + j70) (fun x71 => bd (v69 + 1) (fun x72 => f_L_isPicture_L245 o r63 v65 k n x71 x72))) (fun j285 => (if 16 ≤ ((v65 * r63) + v69) then j285 0 else bn (F_pixel o ((v65 * r63) + v69) 7) (fun r73 => j285 r73))))
theorem f_L_isPicture_L245_s (o : OB) (r63 : Int32) (v65 : Int32) (k : Int32 → Int32 → Option OUT_L_isPicture) (n : Nat) (v68 : Int32) (v69 : Int32) : f_L_isPicture_L245 o r63 v65 k (n + 1) v68 v69 = ((if r63 ≤ v69 then k v68 v69 else jn (fun (j70 : Int32) => bd (v68 + j70) (fun x71 => bd (v69 + 1) (fun x72 => f_L_isPicture_L245 o r63 v65 k n x71 x72))) (fun j285 => (if 16 ≤ ((v65 * r63) + v69) then j285 0 else bn (F_pixel o ((v65 * r63) + v69) 7) (fun r73 => j285 r73))))) := rfl
def f_L_isPicture_L232 (o : OB) (r63 : Int32) (k : Int32 → Option OUT_L_isPicture) : Nat → Int32 → Option OUT_L_isPicture
  | 0 => fun _ => none
  | n + 1 => fun v65 => (if 16 ≤ v65 then k v65 else f_L_isPicture_L245 o r63 v65 (fun (w76 : Int32) (w77 : Int32) => bn (F_joined o v65 7) (fun r78 => jn (fun (j79 : Int32) => (if r78 = j79 then bd (v65 + 1) (fun x80 => f_L_isPicture_L232 o r63 k n x80) else none)) (fun j318 => (if 16 ≤ (v65 * r63) then j318 (-1) else j318 w76)))) 4000 0 0)
theorem f_L_isPicture_L232_s (o : OB) (r63 : Int32) (k : Int32 → Option OUT_L_isPicture) (n : Nat) (v65 : Int32) : f_L_isPicture_L232 o r63 k (n + 1) v65 = ((if 16 ≤ v65 then k v65 else f_L_isPicture_L245 o r63 v65 (fun (w76 : Int32) (w77 : Int32) => bn (F_joined o v65 7) (fun r78 => jn (fun (j79 : Int32) => (if r78 = j79 then bd (v65 + 1) (fun x80 => f_L_isPicture_L232 o r63 k n x80) else none)) (fun j318 => (if 16 ≤ (v65 * r63) then j318 (-1) else j318 w76)))) 4000 0 0)) := rfl
def f_L_isPicture_L12 (o : OB) (k : Int32 → Int32 → Int32 → Int32 → Int32 → Option OUT_L_isPicture) : Nat → Int32 → Int32 → Int32 → Int32 → Int32 → Option OUT_L_isPicture
  | 0 => fun _ _ _ _ _ => none
  | n + 1 => fun v6 v7 v8 v9 v10 => (if 16 ≤ v10 then k v6 v7 v8 v9 v10 else f_L_isPicture_L33 o v10 (fun (w34 : Int32) (w35 : Int32) (w36 : Int32) (w37 : Int32) (w38 : Int32) => bn (F_ofLine o v10 0) (fun r39 => (if ¬ r39 = w35 then none else bn (F_ofLine o v10 1) (fun r40 => (if ¬ r40 = w36 then none else bn (F_ofLine o v10 2) (fun r41 => (if r41 = w37 then jn (fun (j42 : Int32) => bd (v8 + j42) (fun x43 => jn (fun (j44 : Int32) => jn (fun (j45 : Int32) => bd (v6 ||| j45) (fun x46 => bd (v10 + 1) (fun x47 => f_L_isPicture_L12 o k n x46 w34 x43 j44 x47))) (fun j213 => (if ¬ w35 = 0 then j213 0 else j213 (1 <<< (v10 &&& 31))))) (fun j197 => (if ¬ w35 = 0 then j197 0 else j197 1)))) (fun j185 => (if v10 ≤ 0 then j185 0 else jn (fun (j50 : Int32) => (if v9 = j50 then j185 0 else j185 1)) (fun j177 => (if ¬ w35 = 0 then j177 0 else j177 1)))) else none))))))) 4000 v7 0 0 (-6) 23)
theorem f_L_isPicture_L12_s (o : OB) (k : Int32 → Int32 → Int32 → Int32 → Int32 → Option OUT_L_isPicture) (n : Nat) (v6 : Int32) (v7 : Int32) (v8 : Int32) (v9 : Int32) (v10 : Int32) : f_L_isPicture_L12 o k (n + 1) v6 v7 v8 v9 v10 = ((if 16 ≤ v10 then k v6 v7 v8 v9 v10 else f_L_isPicture_L33 o v10 (fun (w34 : Int32) (w35 : Int32) (w36 : Int32) (w37 : Int32) (w38 : Int32) => bn (F_ofLine o v10 0) (fun r39 => (if ¬ r39 = w35 then none else bn (F_ofLine o v10 1) (fun r40 => (if ¬ r40 = w36 then none else bn (F_ofLine o v10 2) (fun r41 => (if r41 = w37 then jn (fun (j42 : Int32) => bd (v8 + j42) (fun x43 => jn (fun (j44 : Int32) => jn (fun (j45 : Int32) => bd (v6 ||| j45) (fun x46 => bd (v10 + 1) (fun x47 => f_L_isPicture_L12 o k n x46 w34 x43 j44 x47))) (fun j213 => (if ¬ w35 = 0 then j213 0 else j213 (1 <<< (v10 &&& 31))))) (fun j197 => (if ¬ w35 = 0 then j197 0 else j197 1)))) (fun j185 => (if v10 ≤ 0 then j185 0 else jn (fun (j50 : Int32) => (if v9 = j50 then j185 0 else j185 1)) (fun j177 => (if ¬ w35 = 0 then j177 0 else j177 1)))) else none))))))) 4000 v7 0 0 (-6) 23)) := rfl
def f_L_isPicture (o : OB)  : Option OUT_L_isPicture :=
  f_L_isPicture_L12 o (fun (w58 : Int32) (w59 : Int32) (w60 : Int32) (w61 : Int32) (w62 : Int32) => bn (F_count o 11) (fun r63 => f_L_isPicture_L232 o r63 (fun (w84 : Int32) => bn (F_count o 3) (fun r85 => (if ¬ r85 = w58 then none else bn (F_count o 4) (fun r86 => (if ¬ r86 = w59 then none else bn (F_count o 5) (fun r87 => (if ¬ r87 = w60 then none else bn (F_pixel o 16 0) (fun r88 => (if ¬ r88 = (-1) then none else bn (F_pixel o 0 24) (fun r89 => (if ¬ r89 = (-1) then none else some 1))))))))))) 4000 0)) 4000 0 0 0 0 0
abbrev R_L_isPicture : Room := { frames := 4, cells := 0, slots := 0, locals := 88 }
set_option maxHeartbeats 4000000 in
set_option maxRecDepth 100000 in
theorem m_L_isPicture (l : Launch) (D : va_G) (cI cC cZ cR : ClassId) (b0 : Nat) (a : Nat → Nat) (Y : va_W) (o : OB)  (r : OUT_L_isPicture) (hf : f_L_isPicture o  = some r) : Met l yL_isPicture wsL_isPicture R_L_isPicture (cPcO D cI cC cZ cR b0 a Y [.ref (a 0)] o) (cQO D cI cC cZ cR b0 a Y r o) 0 0 (fun q => b0 ≤ q) := by
  refine Met.ofW (cc := cL_isPicture) (maxL := 11) (ret := (some .boolean)) (by decide) rfl ?_
  intro p e s m args below meth c s₁ B hml hv
  obtain ⟨rfl, hO, hK, hb0, hstt⟩ := hv
  have hx := B.exec
  have hb := B.bytes
  have hr := B.returns
  have hts := atoms_spec (ws := wsL_isPicture) B.pre
  have hown : s.vm.findClass RL = some m.cls := findClass_of_methodNamed B.named
  have hlocks := B.notSynchronized
  have hA : ∀ q : Nat, s.heap.size ≤ q → (fun q : Nat => b0 ≤ q) q := fun q h => Nat.le_trans hb0 h
  have hS : va_S (fun q : Nat => b0 ≤ q) s.heap s.heap [] := va_S.rf
  have hl := lv_entry ([.ref (a 0)]) (n := 11) (Nat.le_of_ble_eq_true rfl)
  rw [lg_entry_eq]
  generalize (lg_sl ([.ref (a 0)]) ++ List.replicate (11 - (lg_sl ([.ref (a 0)])).length) Slot.unset).toArray = ls at hl ⊢
  have hl : lv_has ls 11 [(0, .ref (a 0))] := hl
  refine W_absQ (fun Q hQ => ?_)
  refine W.eq (g2 := F0 m 0 ls []) rfl ?_
  have h := hf
  unfold f_L_isPicture at h
  refine lv_iconst (v := 0) hx hb dL_isPicture_0 (by decide) ?_
  refine lv_istore_n (lv' := [(1, .int 0), (0, .ref (a 0))]) hx hb dL_isPicture_1 rfl hl (by decide) rfl (fun ls hl => ?_)
  refine lv_iconst (v := 0) hx hb dL_isPicture_2 (by decide) ?_
  refine lv_istore_n (lv' := [(2, .int 0), (1, .int 0), (0, .ref (a 0))]) hx hb dL_isPicture_3 rfl hl (by decide) rfl (fun ls hl => ?_)
  refine lv_iconst (v := 0) hx hb dL_isPicture_4 (by decide) ?_
  refine lv_istore_n (lv' := [(3, .int 0), (2, .int 0), (1, .int 0), (0, .ref (a 0))]) hx hb dL_isPicture_5 rfl hl (by decide) rfl (fun ls hl => ?_)
  refine lv_iconst (v := 0) hx hb dL_isPicture_6 (by decide) ?_
  refine lv_istore (lv' := [(4, .int 0), (3, .int 0), (2, .int 0), (1, .int 0), (0, .ref (a 0))]) hx hb dL_isPicture_7 hl (by decide) rfl (fun ls hl => ?_)
  refine lv_iconst (v := 0) hx hb dL_isPicture_9 (by decide) ?_
  refine lv_istore (lv' := [(5, .int 0), (4, .int 0), (3, .int 0), (2, .int 0), (1, .int 0), (0, .ref (a 0))]) hx hb dL_isPicture_10 hl (by decide) rfl (fun ls hl => ?_)
  have L12 : ∀ (k : Int32 → Int32 → Int32 → Int32 → Int32 → Option OUT_L_isPicture), (∀ (w58 : Int32) (w59 : Int32) (w60 : Int32) (w61 : Int32) (w62 : Int32) (H : Heap) (locs : List Loc) (ls : Array Slot), k w58 w59 w60 w61 w62 = some r → WO D cI cC cZ cR b0 a Y o H → va_S (fun q => b0 ≤ q) s.heap H locs → lv_has ls 11 [(0, .ref (a 0)), (1, .int w58), (2, .int w59), (3, .int w60), (4, .int w61), (5, .int w62)] → W p l e R_L_isPicture s m ([.ref (a 0)] : List Value).toArray below meth c H locs 0 0 Q (F0 m 221 ls [])) → ∀ (n : Nat) (v6 : Int32) (v7 : Int32) (v8 : Int32) (v9 : Int32) (v10 : Int32) (H : Heap) (locs : List Loc) (ls : Array Slot), f_L_isPicture_L12 o k n v6 v7 v8 v9 v10 = some r → WO D cI cC cZ cR b0 a Y o H → va_S (fun q => b0 ≤ q) s.heap H locs → lv_has ls 11 [(0, .ref (a 0)), (1, .int v6), (2, .int v7), (3, .int v8), (4, .int v9), (5, .int v10)] → W p l e R_L_isPicture s m ([.ref (a 0)] : List Value).toArray below meth c H locs 0 0 Q (F0 m 12 ls []) := by
    intro k K n
    induction n with
    | zero => intro v6 v7 v8 v9 v10 H locs ls h; exact no_sm h
    | succ n ih =>
      intro v6 v7 v8 v9 v10 H locs ls h hO hS hl
      rw [f_L_isPicture_L12_s] at h
      refine lv_iload hx hb dL_isPicture_12 (lv_at hl 5 rfl) ?_
      refine lv_bipush (v := 16) hx hb dL_isPicture_14 (by decide) ?_
      refine lv_icmp_ge (tgt := 221) hx hb dL_isPicture_16 (by decide) (fun c57 => ?_) (fun c57 => ?_)
      · replace h := br_p c57 h
        exact K _ _ _ _ _ _ _ _ h hO hS (lv_sub hl [0, 1, 2, 3, 4, 5] rfl)
      · replace h := br_n c57 h
        refine lv_iconst (v := 0) hx hb dL_isPicture_19 (by decide) ?_
        refine lv_istore (lv' := [(6, .int 0), (0, .ref (a 0)), (1, .int v6), (2, .int v7), (3, .int v8), (4, .int v9), (5, .int v10)]) hx hb dL_isPicture_20 hl (by decide) rfl (fun ls hl => ?_)
        refine lv_iconst (v := 0) hx hb dL_isPicture_22 (by decide) ?_
        refine lv_istore (lv' := [(7, .int 0), (6, .int 0), (0, .ref (a 0)), (1, .int v6), (2, .int v7), (3, .int v8), (4, .int v9), (5, .int v10)]) hx hb dL_isPicture_23 hl (by decide) rfl (fun ls hl => ?_)
        refine lv_bipush (v := (-6)) hx hb dL_isPicture_25 (by decide) ?_
        refine lv_istore (lv' := [(8, .int (-6)), (7, .int 0), (6, .int 0), (0, .ref (a 0)), (1, .int v6), (2, .int v7), (3, .int v8), (4, .int v9), (5, .int v10)]) hx hb dL_isPicture_27 hl (by decide) rfl (fun ls hl => ?_)
        refine lv_bipush (v := 23) hx hb dL_isPicture_29 (by decide) ?_
        refine lv_istore (lv' := [(9, .int 23), (8, .int (-6)), (7, .int 0), (6, .int 0), (0, .ref (a 0)), (1, .int v6), (2, .int v7), (3, .int v8), (4, .int v9), (5, .int v10)]) hx hb dL_isPicture_31 hl (by decide) rfl (fun ls hl => ?_)
        have L33 : ∀ (k : Int32 → Int32 → Int32 → Int32 → Int32 → Option OUT_L_isPicture), (∀ (w34 : Int32) (w35 : Int32) (w36 : Int32) (w37 : Int32) (w38 : Int32) (H : Heap) (locs : List Loc) (ls : Array Slot), k w34 w35 w36 w37 w38 = some r → WO D cI cC cZ cR b0 a Y o H → va_S (fun q => b0 ≤ q) s.heap H locs → lv_has ls 11 [(0, .ref (a 0)), (1, .int v6), (2, .int w34), (3, .int v8), (4, .int v9), (5, .int v10), (6, .int w35), (7, .int w36), (8, .int w37), (9, .int w38)] → W p l e R_L_isPicture s m ([.ref (a 0)] : List Value).toArray below meth c H locs 0 0 Q (F0 m 121 ls [])) → ∀ (n : Nat) (v16 : Int32) (v17 : Int32) (v18 : Int32) (v19 : Int32) (v20 : Int32) (H : Heap) (locs : List Loc) (ls : Array Slot), f_L_isPicture_L33 o v10 k n v16 v17 v18 v19 v20 = some r → WO D cI cC cZ cR b0 a Y o H → va_S (fun q => b0 ≤ q) s.heap H locs → lv_has ls 11 [(0, .ref (a 0)), (1, .int v6), (2, .int v16), (3, .int v8), (4, .int v9), (5, .int v10), (6, .int v17), (7, .int v18), (8, .int v19), (9, .int v20)] → W p l e R_L_isPicture s m ([.ref (a 0)] : List Value).toArray below meth c H locs 0 0 Q (F0 m 33 ls []) := by
          intro k K n
          induction n with
          | zero => intro v16 v17 v18 v19 v20 H locs ls h; exact no_sm h
          | succ n ih =>
            intro v16 v17 v18 v19 v20 H locs ls h hO hS hl
            rw [f_L_isPicture_L33_s] at h
            refine lv_iload hx hb dL_isPicture_33 (lv_at hl 9 rfl) ?_
            refine lv_if_lt (tgt := 121) hx hb dL_isPicture_35 (by decide) (fun c33 => ?_) (fun c33 => ?_)
            · replace h := br_p c33 h
              exact K _ _ _ _ _ _ _ _ h hO hS (lv_sub hl [0, 1, 2, 3, 4, 5, 6, 7, 8, 9] rfl)
            · replace h := br_n c33 h
              refine lv_aload_n hx hb dL_isPicture_38 rfl (lv_at hl 0 rfl) ?_
              refine lv_iload hx hb dL_isPicture_39 (lv_at hl 5 rfl) ?_
              refine lv_iload hx hb dL_isPicture_41 (lv_at hl 9 rfl) ?_
              obtain ⟨r21, hcr21, h⟩ := bn_sp h
              refine va_calli (va_runV (As := [.int v10, .int v20]) (rest := []) ⟨hx, hb, hml, hown, hts⟩ (M_pixel l D cI cC cZ cR b0 a Y o v10 v20 r21 hcr21) (cwV 2 hts gL_isPicture_X7_pixel rfl rfl rfl (by decide +kernel) ⟨Nat.le_of_ble_eq_true rfl, Nat.le_of_ble_eq_true rfl⟩) (cPcO_pv hO hK hb0 hS hstt) rfl rfl hl.1 rfl (lv_room (Nat.le_of_ble_eq_true rfl)) dL_isPicture_43 ⟨Nat.le_of_ble_eq_true rfl, Nat.le_of_ble_eq_true rfl⟩) hS (fun q _ h => h) (fun q h => h) (fun xq u t H1 locs ht hvm hw hB hz1 hk1 hS => ?_)
              rw [hw]
              have hO : WO D cI cC cZ cR b0 a Y o H1 := by rw [← ht]; exact hB
              generalize H1 = H at hO hS ⊢
              refine lv_istore (lv' := [(10, .int r21), (0, .ref (a 0)), (1, .int v6), (2, .int v16), (3, .int v8), (4, .int v9), (5, .int v10), (6, .int v17), (7, .int v18), (8, .int v19), (9, .int v20)]) hx hb dL_isPicture_46 hl (by decide) rfl (fun ls hl => ?_)
              refine lv_iload hx hb dL_isPicture_48 (lv_at hl 0 rfl) ?_
              refine lv_if_lt (tgt := 61) hx hb dL_isPicture_50 (by decide) (fun c32 => ?_) (fun c32 => ?_)
              · replace h := br_p c32 h
                exact no_sm h
              · replace h := br_n c32 h
                refine lv_iload hx hb dL_isPicture_53 (lv_at hl 0 rfl) ?_
                refine lv_sipush (v := 1800) hx hb dL_isPicture_55 (by decide) ?_
                refine lv_icmp_le (tgt := 63) hx hb dL_isPicture_58 (by decide) (fun c31 => ?_) (fun c31 => ?_)
                · replace h := br_p c31 h
                  refine lv_iload hx hb dL_isPicture_63 (lv_at hl 7 rfl) ?_
                  refine lv_iload hx hb dL_isPicture_65 (lv_at hl 0 rfl) ?_
                  obtain ⟨j78, hj78, h⟩ := jn_sp h
                  have J78 : ∀ (j22 : Int32) (H : Heap) (locs : List Loc) (ls : Array Slot), j78 j22 = some r → WO D cI cC cZ cR b0 a Y o H → va_S (fun q => b0 ≤ q) s.heap H locs → lv_has ls 11 [(0, .ref (a 0)), (1, .int v6), (2, .int v16), (3, .int v8), (4, .int v9), (5, .int v10), (6, .int v17), (7, .int v18), (8, .int v19), (9, .int v20), (10, .int r21)] → W p l e R_L_isPicture s m ([.ref (a 0)] : List Value).toArray below meth c H locs 0 0 Q (F0 m 78 ls [.int j22, .int v17]) := by
                    intro j22 H locs ls h hO hS hl
                    rw [hj78] at h
                    refine lv_ior hx hb dL_isPicture_78 ?_
                    refine lv_topi (fun x23 ex23 => ?_)
                    replace h := bd_s2 h ex23
                    refine lv_istore (lv' := [(6, .int x23), (0, .ref (a 0)), (1, .int v6), (2, .int v16), (3, .int v8), (4, .int v9), (5, .int v10), (7, .int v18), (8, .int v19), (9, .int v20), (10, .int r21)]) hx hb dL_isPicture_79 hl (by decide) rfl (fun ls hl => ?_)
                    refine lv_iload hx hb dL_isPicture_81 (lv_at hl 7 rfl) ?_
                    refine lv_iload hx hb dL_isPicture_83 (lv_at hl 10 rfl) ?_
                    refine lv_iadd hx hb dL_isPicture_85 ?_
                    refine lv_topi (fun x24 ex24 => ?_)
                    replace h := bd_s2 h ex24
                    refine lv_istore (lv' := [(7, .int x24), (6, .int x23), (0, .ref (a 0)), (1, .int v6), (2, .int v16), (3, .int v8), (4, .int v9), (5, .int v10), (8, .int v19), (9, .int v20), (10, .int r21)]) hx hb dL_isPicture_86 hl (by decide) rfl (fun ls hl => ?_)
                    refine lv_iload hx hb dL_isPicture_88 (lv_at hl 10 rfl) ?_
                    obtain ⟨j100, hj100, h⟩ := jn_sp h
                    have J100 : ∀ (j25 : Int32) (H : Heap) (locs : List Loc) (ls : Array Slot), j100 j25 = some r → WO D cI cC cZ cR b0 a Y o H → va_S (fun q => b0 ≤ q) s.heap H locs → lv_has ls 11 [(0, .ref (a 0)), (1, .int v6), (2, .int v16), (3, .int v8), (4, .int v9), (5, .int v10), (6, .int x23), (7, .int x24), (8, .int v19), (9, .int v20), (10, .int r21)] → W p l e R_L_isPicture s m ([.ref (a 0)] : List Value).toArray below meth c H locs 0 0 Q (F0 m 100 ls [.int j25]) := by
                      intro j25 H locs ls h hO hS hl
                      rw [hj100] at h
                      refine lv_istore (lv' := [(8, .int j25), (0, .ref (a 0)), (1, .int v6), (2, .int v16), (3, .int v8), (4, .int v9), (5, .int v10), (6, .int x23), (7, .int x24), (9, .int v20), (10, .int r21)]) hx hb dL_isPicture_100 hl (by decide) rfl (fun ls hl => ?_)
                      refine lv_iload hx hb dL_isPicture_102 (lv_at hl 10 rfl) ?_
                      refine lv_iload_n hx hb dL_isPicture_104 rfl (lv_at hl 3 rfl) ?_
                      refine lv_icmp_le (tgt := 113) hx hb dL_isPicture_105 (by decide) (fun c28 => ?_) (fun c28 => ?_)
                      · replace h := br_p c28 h
                        refine lv_iload_n hx hb dL_isPicture_113 rfl (lv_at hl 3 rfl) ?_
                        refine lv_istore_n (lv' := [(2, .int v16), (8, .int j25), (0, .ref (a 0)), (1, .int v6), (3, .int v8), (4, .int v9), (5, .int v10), (6, .int x23), (7, .int x24), (9, .int v20), (10, .int r21)]) hx hb dL_isPicture_114 rfl hl (by decide) rfl (fun ls hl => ?_)
                        obtain ⟨x26, ex26, h⟩ := bd_sp h
                        refine lv_iinc (v := x26) (lv' := [(9, .int x26), (2, .int v16), (8, .int j25), (0, .ref (a 0)), (1, .int v6), (3, .int v8), (4, .int v9), (5, .int v10), (6, .int x23), (7, .int x24), (10, .int r21)]) hx hb dL_isPicture_115 hl (k := 9) rfl (by rw [ex26]; rfl) (by decide) rfl (fun ls hl => ?_)
                        refine lv_goto (tgt := 33) hx hb dL_isPicture_118 (by decide) ?_
                        exact ih _ _ _ _ _ _ _ _ h hO hS (lv_sub hl [3, 4, 1, 5, 6, 7, 8, 9, 2, 0] rfl)
                      · replace h := br_n c28 h
                        refine lv_iload hx hb dL_isPicture_108 (lv_at hl 10 rfl) ?_
                        refine lv_goto (tgt := 114) hx hb dL_isPicture_110 (by decide) ?_
                        refine lv_istore_n (lv' := [(2, .int r21), (8, .int j25), (0, .ref (a 0)), (1, .int v6), (3, .int v8), (4, .int v9), (5, .int v10), (6, .int x23), (7, .int x24), (9, .int v20), (10, .int r21)]) hx hb dL_isPicture_114 rfl hl (by decide) rfl (fun ls hl => ?_)
                        obtain ⟨x27, ex27, h⟩ := bd_sp h
                        refine lv_iinc (v := x27) (lv' := [(9, .int x27), (2, .int r21), (8, .int j25), (0, .ref (a 0)), (1, .int v6), (3, .int v8), (4, .int v9), (5, .int v10), (6, .int x23), (7, .int x24), (10, .int r21)]) hx hb dL_isPicture_115 hl (k := 9) rfl (by rw [ex27]; rfl) (by decide) rfl (fun ls hl => ?_)
                        refine lv_goto (tgt := 33) hx hb dL_isPicture_118 (by decide) ?_
                        exact ih _ _ _ _ _ _ _ _ h hO hS (lv_sub hl [3, 4, 1, 5, 6, 7, 8, 9, 2, 0] rfl)
                    refine lv_if_le (tgt := 98) hx hb dL_isPicture_90 (by decide) (fun c29 => ?_) (fun c29 => ?_)
                    · replace h := br_p c29 h
                      refine lv_iload hx hb dL_isPicture_98 (lv_at hl 8 rfl) ?_
                      exact J100 _ _ _ _ h hO hS (lv_sub hl [2, 3, 4, 5, 6, 7, 1, 0, 8, 9, 10] rfl)
                    · replace h := br_n c29 h
                      refine lv_iload hx hb dL_isPicture_93 (lv_at hl 9 rfl) ?_
                      refine lv_goto (tgt := 100) hx hb dL_isPicture_95 (by decide) ?_
                      exact J100 _ _ _ _ h hO hS (lv_sub hl [2, 3, 4, 5, 6, 7, 1, 0, 8, 9, 10] rfl)
                  refine lv_if_le (tgt := 77) hx hb dL_isPicture_67 (by decide) (fun c30 => ?_) (fun c30 => ?_)
                  · replace h := br_p c30 h
                    refine lv_iconst (v := 0) hx hb dL_isPicture_77 (by decide) ?_
                    exact J78 _ _ _ _ h hO hS (lv_sub hl [1, 2, 3, 4, 5, 6, 7, 8, 9, 10, 0] rfl)
                  · replace h := br_n c30 h
                    refine lv_iconst (v := 1) hx hb dL_isPicture_70 (by decide) ?_
                    refine lv_iload hx hb dL_isPicture_71 (lv_at hl 10 rfl) ?_
                    refine lv_ishl hx hb dL_isPicture_73 ?_
                    refine lv_goto (tgt := 78) hx hb dL_isPicture_74 (by decide) ?_
                    exact J78 _ _ _ _ h hO hS (lv_sub hl [1, 2, 3, 4, 5, 6, 7, 8, 9, 10, 0] rfl)
                · replace h := br_n c31 h
                  exact no_sm h
        refine L33 _ (fun w34 w35 w36 w37 w38 H locs ls h hO hS hl => ?_) 4000 v7 0 0 (-6) 23 _ _ _ h hO hS (lv_sub hl [4, 5, 6, 7, 8, 9, 3, 2, 1, 0] rfl)
        refine lv_aload_n hx hb dL_isPicture_121 rfl (lv_at hl 0 rfl) ?_
        refine lv_iload hx hb dL_isPicture_122 (lv_at hl 5 rfl) ?_
        refine lv_iconst (v := 0) hx hb dL_isPicture_124 (by decide) ?_
        obtain ⟨r39, hcr39, h⟩ := bn_sp h
        refine va_calli (va_runV (As := [.int v10, .int 0]) (rest := []) ⟨hx, hb, hml, hown, hts⟩ (M_ofLine l D cI cC cZ cR b0 a Y o v10 0 r39 hcr39) (cwV 2 hts gL_isPicture_X7_ofLine rfl rfl rfl (by decide +kernel) ⟨Nat.le_of_ble_eq_true rfl, Nat.le_of_ble_eq_true rfl⟩) (cPcO_pv hO hK hb0 hS hstt) rfl rfl hl.1 rfl (lv_room (Nat.le_of_ble_eq_true rfl)) dL_isPicture_125 ⟨Nat.le_of_ble_eq_true rfl, Nat.le_of_ble_eq_true rfl⟩) hS (fun q _ h => h) (fun q h => h) (fun xq u t H1 locs ht hvm hw hB hz1 hk1 hS => ?_)
        rw [hw]
        have hO : WO D cI cC cZ cR b0 a Y o H1 := by rw [← ht]; exact hB
        generalize H1 = H at hO hS ⊢
        refine lv_iload hx hb dL_isPicture_128 (lv_at hl 6 rfl) ?_
        refine lv_icmp_ne (tgt := 157) hx hb dL_isPicture_130 (by decide) (fun c56 => ?_) (fun c56 => ?_)
        · replace h := br_p c56 h
          exact no_sm h
        · replace h := br_n (not_not_intro c56) h
          refine lv_aload_n hx hb dL_isPicture_133 rfl (lv_at hl 0 rfl) ?_
          refine lv_iload hx hb dL_isPicture_134 (lv_at hl 5 rfl) ?_
          refine lv_iconst (v := 1) hx hb dL_isPicture_136 (by decide) ?_
          obtain ⟨r40, hcr40, h⟩ := bn_sp h
          refine va_calli (va_runV (As := [.int v10, .int 1]) (rest := []) ⟨hx, hb, hml, hown, hts⟩ (M_ofLine l D cI cC cZ cR b0 a Y o v10 1 r40 hcr40) (cwV 2 hts gL_isPicture_X7_ofLine rfl rfl rfl (by decide +kernel) ⟨Nat.le_of_ble_eq_true rfl, Nat.le_of_ble_eq_true rfl⟩) (cPcO_pv hO hK hb0 hS hstt) rfl rfl hl.1 rfl (lv_room (Nat.le_of_ble_eq_true rfl)) dL_isPicture_137 ⟨Nat.le_of_ble_eq_true rfl, Nat.le_of_ble_eq_true rfl⟩) hS (fun q _ h => h) (fun q h => h) (fun xq u t H1 locs ht hvm hw hB hz1 hk1 hS => ?_)
          rw [hw]
          have hO : WO D cI cC cZ cR b0 a Y o H1 := by rw [← ht]; exact hB
          generalize H1 = H at hO hS ⊢
          refine lv_iload hx hb dL_isPicture_140 (lv_at hl 7 rfl) ?_
          refine lv_icmp_ne (tgt := 157) hx hb dL_isPicture_142 (by decide) (fun c55 => ?_) (fun c55 => ?_)
          · replace h := br_p c55 h
            exact no_sm h
          · replace h := br_n (not_not_intro c55) h
            refine lv_aload_n hx hb dL_isPicture_145 rfl (lv_at hl 0 rfl) ?_
            refine lv_iload hx hb dL_isPicture_146 (lv_at hl 5 rfl) ?_
            refine lv_iconst (v := 2) hx hb dL_isPicture_148 (by decide) ?_
            obtain ⟨r41, hcr41, h⟩ := bn_sp h
            refine va_calli (va_runV (As := [.int v10, .int 2]) (rest := []) ⟨hx, hb, hml, hown, hts⟩ (M_ofLine l D cI cC cZ cR b0 a Y o v10 2 r41 hcr41) (cwV 2 hts gL_isPicture_X7_ofLine rfl rfl rfl (by decide +kernel) ⟨Nat.le_of_ble_eq_true rfl, Nat.le_of_ble_eq_true rfl⟩) (cPcO_pv hO hK hb0 hS hstt) rfl rfl hl.1 rfl (lv_room (Nat.le_of_ble_eq_true rfl)) dL_isPicture_149 ⟨Nat.le_of_ble_eq_true rfl, Nat.le_of_ble_eq_true rfl⟩) hS (fun q _ h => h) (fun q h => h) (fun xq u t H1 locs ht hvm hw hB hz1 hk1 hS => ?_)
            rw [hw]
            have hO : WO D cI cC cZ cR b0 a Y o H1 := by rw [← ht]; exact hB
            generalize H1 = H at hO hS ⊢
            refine lv_iload hx hb dL_isPicture_152 (lv_at hl 8 rfl) ?_
            refine lv_icmp_eq (tgt := 159) hx hb dL_isPicture_154 (by decide) (fun c54 => ?_) (fun c54 => ?_)
            · replace h := br_p c54 h
              refine lv_iload_n hx hb dL_isPicture_159 rfl (lv_at hl 3 rfl) ?_
              refine lv_iload hx hb dL_isPicture_160 (lv_at hl 5 rfl) ?_
              obtain ⟨j185, hj185, h⟩ := jn_sp h
              have J185 : ∀ (j42 : Int32) (H : Heap) (locs : List Loc) (ls : Array Slot), j185 j42 = some r → WO D cI cC cZ cR b0 a Y o H → va_S (fun q => b0 ≤ q) s.heap H locs → lv_has ls 11 [(0, .ref (a 0)), (1, .int v6), (2, .int w34), (3, .int v8), (4, .int v9), (5, .int v10), (6, .int w35), (7, .int w36), (8, .int w37), (9, .int w38)] → W p l e R_L_isPicture s m ([.ref (a 0)] : List Value).toArray below meth c H locs 0 0 Q (F0 m 185 ls [.int j42, .int v8]) := by
                intro j42 H locs ls h hO hS hl
                rw [hj185] at h
                refine lv_iadd hx hb dL_isPicture_185 ?_
                refine lv_topi (fun x43 ex43 => ?_)
                replace h := bd_s2 h ex43
                refine lv_istore_n (lv' := [(3, .int x43), (0, .ref (a 0)), (1, .int v6), (2, .int w34), (4, .int v9), (5, .int v10), (6, .int w35), (7, .int w36), (8, .int w37), (9, .int w38)]) hx hb dL_isPicture_186 rfl hl (by decide) rfl (fun ls hl => ?_)
                refine lv_iload hx hb dL_isPicture_187 (lv_at hl 6 rfl) ?_
                obtain ⟨j197, hj197, h⟩ := jn_sp h
                have J197 : ∀ (j44 : Int32) (H : Heap) (locs : List Loc) (ls : Array Slot), j197 j44 = some r → WO D cI cC cZ cR b0 a Y o H → va_S (fun q => b0 ≤ q) s.heap H locs → lv_has ls 11 [(0, .ref (a 0)), (1, .int v6), (2, .int w34), (3, .int x43), (4, .int v9), (5, .int v10), (6, .int w35), (7, .int w36), (8, .int w37), (9, .int w38)] → W p l e R_L_isPicture s m ([.ref (a 0)] : List Value).toArray below meth c H locs 0 0 Q (F0 m 197 ls [.int j44]) := by
                  intro j44 H locs ls h hO hS hl
                  rw [hj197] at h
                  refine lv_istore (lv' := [(4, .int j44), (0, .ref (a 0)), (1, .int v6), (2, .int w34), (3, .int x43), (5, .int v10), (6, .int w35), (7, .int w36), (8, .int w37), (9, .int w38)]) hx hb dL_isPicture_197 hl (by decide) rfl (fun ls hl => ?_)
                  refine lv_iload_n hx hb dL_isPicture_199 rfl (lv_at hl 2 rfl) ?_
                  refine lv_iload hx hb dL_isPicture_200 (lv_at hl 6 rfl) ?_
                  obtain ⟨j213, hj213, h⟩ := jn_sp h
                  have J213 : ∀ (j45 : Int32) (H : Heap) (locs : List Loc) (ls : Array Slot), j213 j45 = some r → WO D cI cC cZ cR b0 a Y o H → va_S (fun q => b0 ≤ q) s.heap H locs → lv_has ls 11 [(0, .ref (a 0)), (1, .int v6), (2, .int w34), (3, .int x43), (4, .int j44), (5, .int v10), (6, .int w35), (7, .int w36), (8, .int w37), (9, .int w38)] → W p l e R_L_isPicture s m ([.ref (a 0)] : List Value).toArray below meth c H locs 0 0 Q (F0 m 213 ls [.int j45, .int v6]) := by
                    intro j45 H locs ls h hO hS hl
                    rw [hj213] at h
                    refine lv_ior hx hb dL_isPicture_213 ?_
                    refine lv_topi (fun x46 ex46 => ?_)
                    replace h := bd_s2 h ex46
                    refine lv_istore_n (lv' := [(1, .int x46), (0, .ref (a 0)), (2, .int w34), (3, .int x43), (4, .int j44), (5, .int v10), (6, .int w35), (7, .int w36), (8, .int w37), (9, .int w38)]) hx hb dL_isPicture_214 rfl hl (by decide) rfl (fun ls hl => ?_)
                    obtain ⟨x47, ex47, h⟩ := bd_sp h
                    refine lv_iinc (v := x47) (lv' := [(5, .int x47), (1, .int x46), (0, .ref (a 0)), (2, .int w34), (3, .int x43), (4, .int j44), (6, .int w35), (7, .int w36), (8, .int w37), (9, .int w38)]) hx hb dL_isPicture_215 hl (k := 5) rfl (by rw [ex47]; rfl) (by decide) rfl (fun ls hl => ?_)
                    refine lv_goto (tgt := 12) hx hb dL_isPicture_218 (by decide) ?_
                    exact ih _ _ _ _ _ _ _ _ h hO hS (lv_sub hl [2, 1, 3, 4, 5, 0] rfl)
                  refine lv_if_ne (tgt := 212) hx hb dL_isPicture_202 (by decide) (fun c48 => ?_) (fun c48 => ?_)
                  · replace h := br_p c48 h
                    refine lv_iconst (v := 0) hx hb dL_isPicture_212 (by decide) ?_
                    exact J213 _ _ _ _ h hO hS (lv_sub hl [1, 2, 3, 4, 0, 5, 6, 7, 8, 9] rfl)
                  · replace h := br_n (not_not_intro c48) h
                    refine lv_iconst (v := 1) hx hb dL_isPicture_205 (by decide) ?_
                    refine lv_iload hx hb dL_isPicture_206 (lv_at hl 5 rfl) ?_
                    refine lv_ishl hx hb dL_isPicture_208 ?_
                    refine lv_goto (tgt := 213) hx hb dL_isPicture_209 (by decide) ?_
                    exact J213 _ _ _ _ h hO hS (lv_sub hl [1, 2, 3, 4, 0, 5, 6, 7, 8, 9] rfl)
                refine lv_if_ne (tgt := 196) hx hb dL_isPicture_189 (by decide) (fun c49 => ?_) (fun c49 => ?_)
                · replace h := br_p c49 h
                  refine lv_iconst (v := 0) hx hb dL_isPicture_196 (by decide) ?_
                  exact J197 _ _ _ _ h hO hS (lv_sub hl [1, 2, 3, 0, 4, 5, 6, 7, 8, 9] rfl)
                · replace h := br_n (not_not_intro c49) h
                  refine lv_iconst (v := 1) hx hb dL_isPicture_192 (by decide) ?_
                  refine lv_goto (tgt := 197) hx hb dL_isPicture_193 (by decide) ?_
                  exact J197 _ _ _ _ h hO hS (lv_sub hl [1, 2, 3, 0, 4, 5, 6, 7, 8, 9] rfl)
              refine lv_if_le (tgt := 184) hx hb dL_isPicture_162 (by decide) (fun c53 => ?_) (fun c53 => ?_)
              · replace h := br_p c53 h
                refine lv_iconst (v := 0) hx hb dL_isPicture_184 (by decide) ?_
                exact J185 _ _ _ _ h hO hS (lv_sub hl [0, 1, 2, 3, 4, 5, 6, 7, 8, 9] rfl)
              · replace h := br_n c53 h
                refine lv_iload hx hb dL_isPicture_165 (lv_at hl 4 rfl) ?_
                refine lv_iload hx hb dL_isPicture_167 (lv_at hl 6 rfl) ?_
                obtain ⟨j177, hj177, h⟩ := jn_sp h
                have J177 : ∀ (j50 : Int32) (H : Heap) (locs : List Loc) (ls : Array Slot), j177 j50 = some r → WO D cI cC cZ cR b0 a Y o H → va_S (fun q => b0 ≤ q) s.heap H locs → lv_has ls 11 [(0, .ref (a 0)), (1, .int v6), (2, .int w34), (3, .int v8), (4, .int v9), (5, .int v10), (6, .int w35), (7, .int w36), (8, .int w37), (9, .int w38)] → W p l e R_L_isPicture s m ([.ref (a 0)] : List Value).toArray below meth c H locs 0 0 Q (F0 m 177 ls [.int j50, .int v9, .int v8]) := by
                  intro j50 H locs ls h hO hS hl
                  rw [hj177] at h
                  refine lv_icmp_eq (tgt := 184) hx hb dL_isPicture_177 (by decide) (fun c51 => ?_) (fun c51 => ?_)
                  · replace h := br_p c51 h
                    refine lv_iconst (v := 0) hx hb dL_isPicture_184 (by decide) ?_
                    exact J185 _ _ _ _ h hO hS (lv_sub hl [0, 1, 2, 3, 4, 5, 6, 7, 8, 9] rfl)
                  · replace h := br_n c51 h
                    refine lv_iconst (v := 1) hx hb dL_isPicture_180 (by decide) ?_
                    refine lv_goto (tgt := 185) hx hb dL_isPicture_181 (by decide) ?_
                    exact J185 _ _ _ _ h hO hS (lv_sub hl [0, 1, 2, 3, 4, 5, 6, 7, 8, 9] rfl)
                refine lv_if_ne (tgt := 176) hx hb dL_isPicture_169 (by decide) (fun c52 => ?_) (fun c52 => ?_)
                · replace h := br_p c52 h
                  refine lv_iconst (v := 0) hx hb dL_isPicture_176 (by decide) ?_
                  exact J177 _ _ _ _ h hO hS (lv_sub hl [0, 1, 2, 3, 4, 5, 6, 7, 8, 9] rfl)
                · replace h := br_n (not_not_intro c52) h
                  refine lv_iconst (v := 1) hx hb dL_isPicture_172 (by decide) ?_
                  refine lv_goto (tgt := 177) hx hb dL_isPicture_173 (by decide) ?_
                  exact J177 _ _ _ _ h hO hS (lv_sub hl [0, 1, 2, 3, 4, 5, 6, 7, 8, 9] rfl)
            · replace h := br_n c54 h
              exact no_sm h
  refine L12 _ (fun w58 w59 w60 w61 w62 H locs ls h hO hS hl => ?_) 4000 0 0 0 0 0 _ _ _ h hO hS (lv_sub hl [5, 4, 3, 2, 1, 0] rfl)
  refine lv_aload_n hx hb dL_isPicture_221 rfl (lv_at hl 0 rfl) ?_
  refine lv_bipush (v := 11) hx hb dL_isPicture_222 (by decide) ?_
  obtain ⟨r63, hcr63, h⟩ := bn_sp h
  refine va_calli (va_runV (As := [.int 11]) (rest := []) ⟨hx, hb, hml, hown, hts⟩ (M_count l D cI cC cZ cR b0 a Y o 11 r63 hcr63) (cwV 1 hts gL_isPicture_X7_count rfl rfl rfl (by decide +kernel) ⟨Nat.le_of_ble_eq_true rfl, Nat.le_of_ble_eq_true rfl⟩) (cPcO_pv hO hK hb0 hS hstt) rfl rfl hl.1 rfl (lv_room (Nat.le_of_ble_eq_true rfl)) dL_isPicture_224 ⟨Nat.le_of_ble_eq_true rfl, Nat.le_of_ble_eq_true rfl⟩) hS (fun q _ h => h) (fun q h => h) (fun xq u t H1 locs ht hvm hw hB hz1 hk1 hS => ?_)
  rw [hw]
  have hO : WO D cI cC cZ cR b0 a Y o H1 := by rw [← ht]; exact hB
  generalize H1 = H at hO hS ⊢
  refine lv_istore (lv' := [(5, .int r63), (0, .ref (a 0)), (1, .int w58), (2, .int w59), (3, .int w60), (4, .int w61)]) hx hb dL_isPicture_227 hl (by decide) rfl (fun ls hl => ?_)
  refine lv_iconst (v := 0) hx hb dL_isPicture_229 (by decide) ?_
  refine lv_istore (lv' := [(6, .int 0), (5, .int r63), (0, .ref (a 0)), (1, .int w58), (2, .int w59), (3, .int w60), (4, .int w61)]) hx hb dL_isPicture_230 hl (by decide) rfl (fun ls hl => ?_)
  have L232 : ∀ (k : Int32 → Option OUT_L_isPicture), (∀ (w84 : Int32) (H : Heap) (locs : List Loc) (ls : Array Slot), k w84 = some r → WO D cI cC cZ cR b0 a Y o H → va_S (fun q => b0 ≤ q) s.heap H locs → lv_has ls 11 [(0, .ref (a 0)), (1, .int w58), (2, .int w59), (3, .int w60), (4, .int w61), (5, .int r63), (6, .int w84)] → W p l e R_L_isPicture s m ([.ref (a 0)] : List Value).toArray below meth c H locs 0 0 Q (F0 m 329 ls [])) → ∀ (n : Nat) (v65 : Int32) (H : Heap) (locs : List Loc) (ls : Array Slot), f_L_isPicture_L232 o r63 k n v65 = some r → WO D cI cC cZ cR b0 a Y o H → va_S (fun q => b0 ≤ q) s.heap H locs → lv_has ls 11 [(0, .ref (a 0)), (1, .int w58), (2, .int w59), (3, .int w60), (4, .int w61), (5, .int r63), (6, .int v65)] → W p l e R_L_isPicture s m ([.ref (a 0)] : List Value).toArray below meth c H locs 0 0 Q (F0 m 232 ls []) := by
    intro k K n
    induction n with
    | zero => intro v65 H locs ls h; exact no_sm h
    | succ n ih =>
      intro v65 H locs ls h hO hS hl
      rw [f_L_isPicture_L232_s] at h
      refine lv_iload hx hb dL_isPicture_232 (lv_at hl 6 rfl) ?_
      refine lv_bipush (v := 16) hx hb dL_isPicture_234 (by decide) ?_
      refine lv_icmp_ge (tgt := 329) hx hb dL_isPicture_236 (by decide) (fun c83 => ?_) (fun c83 => ?_)
      · replace h := br_p c83 h
        exact K _ _ _ _ h hO hS (lv_sub hl [0, 1, 2, 3, 4, 5, 6] rfl)
      · replace h := br_n c83 h
        refine lv_iconst (v := 0) hx hb dL_isPicture_239 (by decide) ?_
        refine lv_istore (lv' := [(7, .int 0), (0, .ref (a 0)), (1, .int w58), (2, .int w59), (3, .int w60), (4, .int w61), (5, .int r63), (6, .int v65)]) hx hb dL_isPicture_240 hl (by decide) rfl (fun ls hl => ?_)
        refine lv_iconst (v := 0) hx hb dL_isPicture_242 (by decide) ?_
        refine lv_istore (lv' := [(8, .int 0), (7, .int 0), (0, .ref (a 0)), (1, .int w58), (2, .int w59), (3, .int w60), (4, .int w61), (5, .int r63), (6, .int v65)]) hx hb dL_isPicture_243 hl (by decide) rfl (fun ls hl => ?_)
        have L245 : ∀ (k : Int32 → Int32 → Option OUT_L_isPicture), (∀ (w76 : Int32) (w77 : Int32) (H : Heap) (locs : List Loc) (ls : Array Slot), k w76 w77 = some r → WO D cI cC cZ cR b0 a Y o H → va_S (fun q => b0 ≤ q) s.heap H locs → lv_has ls 11 [(0, .ref (a 0)), (1, .int w58), (2, .int w59), (3, .int w60), (4, .int w61), (5, .int r63), (6, .int v65), (7, .int w76), (8, .int w77)] → W p l e R_L_isPicture s m ([.ref (a 0)] : List Value).toArray below meth c H locs 0 0 Q (F0 m 294 ls [])) → ∀ (n : Nat) (v68 : Int32) (v69 : Int32) (H : Heap) (locs : List Loc) (ls : Array Slot), f_L_isPicture_L245 o r63 v65 k n v68 v69 = some r → WO D cI cC cZ cR b0 a Y o H → va_S (fun q => b0 ≤ q) s.heap H locs → lv_has ls 11 [(0, .ref (a 0)), (1, .int w58), (2, .int w59), (3, .int w60), (4, .int w61), (5, .int r63), (6, .int v65), (7, .int v68), (8, .int v69)] → W p l e R_L_isPicture s m ([.ref (a 0)] : List Value).toArray below meth c H locs 0 0 Q (F0 m 245 ls []) := by
          intro k K n
          induction n with
          | zero => intro v68 v69 H locs ls h; exact no_sm h
          | succ n ih =>
            intro v68 v69 H locs ls h hO hS hl
            rw [f_L_isPicture_L245_s] at h
            refine lv_iload hx hb dL_isPicture_245 (lv_at hl 8 rfl) ?_
            refine lv_iload hx hb dL_isPicture_247 (lv_at hl 5 rfl) ?_
            refine lv_icmp_ge (tgt := 294) hx hb dL_isPicture_249 (by decide) (fun c75 => ?_) (fun c75 => ?_)
            · replace h := br_p c75 h
              exact K _ _ _ _ _ h hO hS (lv_sub hl [0, 1, 2, 3, 4, 5, 6, 7, 8] rfl)
            · replace h := br_n c75 h
              refine lv_iload hx hb dL_isPicture_252 (lv_at hl 7 rfl) ?_
              refine lv_iload hx hb dL_isPicture_254 (lv_at hl 6 rfl) ?_
              refine lv_iload hx hb dL_isPicture_256 (lv_at hl 5 rfl) ?_
              refine lv_imul hx hb dL_isPicture_258 ?_
              refine lv_iload hx hb dL_isPicture_259 (lv_at hl 8 rfl) ?_
              refine lv_iadd hx hb dL_isPicture_261 ?_
              refine lv_bipush (v := 16) hx hb dL_isPicture_262 (by decide) ?_
              obtain ⟨j285, hj285, h⟩ := jn_sp h
              have J285 : ∀ (j70 : Int32) (H : Heap) (locs : List Loc) (ls : Array Slot), j285 j70 = some r → WO D cI cC cZ cR b0 a Y o H → va_S (fun q => b0 ≤ q) s.heap H locs → lv_has ls 11 [(0, .ref (a 0)), (1, .int w58), (2, .int w59), (3, .int w60), (4, .int w61), (5, .int r63), (6, .int v65), (7, .int v68), (8, .int v69)] → W p l e R_L_isPicture s m ([.ref (a 0)] : List Value).toArray below meth c H locs 0 0 Q (F0 m 285 ls [.int j70, .int v68]) := by
                intro j70 H locs ls h hO hS hl
                rw [hj285] at h
                refine lv_iadd hx hb dL_isPicture_285 ?_
                refine lv_topi (fun x71 ex71 => ?_)
                replace h := bd_s2 h ex71
                refine lv_istore (lv' := [(7, .int x71), (0, .ref (a 0)), (1, .int w58), (2, .int w59), (3, .int w60), (4, .int w61), (5, .int r63), (6, .int v65), (8, .int v69)]) hx hb dL_isPicture_286 hl (by decide) rfl (fun ls hl => ?_)
                obtain ⟨x72, ex72, h⟩ := bd_sp h
                refine lv_iinc (v := x72) (lv' := [(8, .int x72), (7, .int x71), (0, .ref (a 0)), (1, .int w58), (2, .int w59), (3, .int w60), (4, .int w61), (5, .int r63), (6, .int v65)]) hx hb dL_isPicture_288 hl (k := 8) rfl (by rw [ex72]; rfl) (by decide) rfl (fun ls hl => ?_)
                refine lv_goto (tgt := 245) hx hb dL_isPicture_291 (by decide) ?_
                exact ih _ _ _ _ _ h hO hS (lv_sub hl [2, 3, 4, 5, 6, 7, 8, 1, 0] rfl)
              refine lv_icmp_ge (tgt := 284) hx hb dL_isPicture_264 (by decide) (fun c74 => ?_) (fun c74 => ?_)
              · replace h := br_p c74 h
                refine lv_iconst (v := 0) hx hb dL_isPicture_284 (by decide) ?_
                exact J285 _ _ _ _ h hO hS (lv_sub hl [0, 1, 2, 3, 4, 5, 6, 7, 8] rfl)
              · replace h := br_n c74 h
                refine lv_aload_n hx hb dL_isPicture_267 rfl (lv_at hl 0 rfl) ?_
                refine lv_iload hx hb dL_isPicture_268 (lv_at hl 6 rfl) ?_
                refine lv_iload hx hb dL_isPicture_270 (lv_at hl 5 rfl) ?_
                refine lv_imul hx hb dL_isPicture_272 ?_
                refine lv_iload hx hb dL_isPicture_273 (lv_at hl 8 rfl) ?_
                refine lv_iadd hx hb dL_isPicture_275 ?_
                refine lv_bipush (v := 7) hx hb dL_isPicture_276 (by decide) ?_
                obtain ⟨r73, hcr73, h⟩ := bn_sp h
                refine va_calli (va_runV (As := [.int ((v65 * r63) + v69), .int 7]) (rest := [.int v68]) ⟨hx, hb, hml, hown, hts⟩ (M_pixel l D cI cC cZ cR b0 a Y o ((v65 * r63) + v69) 7 r73 hcr73) (cwV 2 hts gL_isPicture_X7_pixel rfl rfl rfl (by decide +kernel) ⟨Nat.le_of_ble_eq_true rfl, Nat.le_of_ble_eq_true rfl⟩) (cPcO_pv hO hK hb0 hS hstt) rfl rfl hl.1 rfl (lv_room (Nat.le_of_ble_eq_true rfl)) dL_isPicture_278 ⟨Nat.le_of_ble_eq_true rfl, Nat.le_of_ble_eq_true rfl⟩) hS (fun q _ h => h) (fun q h => h) (fun xq u t H1 locs ht hvm hw hB hz1 hk1 hS => ?_)
                rw [hw]
                have hO : WO D cI cC cZ cR b0 a Y o H1 := by rw [← ht]; exact hB
                generalize H1 = H at hO hS ⊢
                refine lv_goto (tgt := 285) hx hb dL_isPicture_281 (by decide) ?_
                exact J285 _ _ _ _ h hO hS (lv_sub hl [0, 1, 2, 3, 4, 5, 6, 7, 8] rfl)
        refine L245 _ (fun w76 w77 H locs ls h hO hS hl => ?_) 4000 0 0 _ _ _ h hO hS (lv_sub hl [2, 3, 4, 5, 6, 7, 8, 1, 0] rfl)
        refine lv_aload_n hx hb dL_isPicture_294 rfl (lv_at hl 0 rfl) ?_
        refine lv_iload hx hb dL_isPicture_295 (lv_at hl 6 rfl) ?_
        refine lv_bipush (v := 7) hx hb dL_isPicture_297 (by decide) ?_
        obtain ⟨r78, hcr78, h⟩ := bn_sp h
        refine va_calli (va_runV (As := [.int v65, .int 7]) (rest := []) ⟨hx, hb, hml, hown, hts⟩ (M_joined l D cI cC cZ cR b0 a Y o v65 7 r78 hcr78) (cwV 2 hts gL_isPicture_X7_joined rfl rfl rfl (by decide +kernel) ⟨Nat.le_of_ble_eq_true rfl, Nat.le_of_ble_eq_true rfl⟩) (cPcO_pv hO hK hb0 hS hstt) rfl rfl hl.1 rfl (lv_room (Nat.le_of_ble_eq_true rfl)) dL_isPicture_299 ⟨Nat.le_of_ble_eq_true rfl, Nat.le_of_ble_eq_true rfl⟩) hS (fun q _ h => h) (fun q h => h) (fun xq u t H1 locs ht hvm hw hB hz1 hk1 hS => ?_)
        rw [hw]
        have hO : WO D cI cC cZ cR b0 a Y o H1 := by rw [← ht]; exact hB
        generalize H1 = H at hO hS ⊢
        refine lv_iload hx hb dL_isPicture_302 (lv_at hl 6 rfl) ?_
        refine lv_iload hx hb dL_isPicture_304 (lv_at hl 5 rfl) ?_
        refine lv_imul hx hb dL_isPicture_306 ?_
        refine lv_bipush (v := 16) hx hb dL_isPicture_307 (by decide) ?_
        obtain ⟨j318, hj318, h⟩ := jn_sp h
        have J318 : ∀ (j79 : Int32) (H : Heap) (locs : List Loc) (ls : Array Slot), j318 j79 = some r → WO D cI cC cZ cR b0 a Y o H → va_S (fun q => b0 ≤ q) s.heap H locs → lv_has ls 11 [(0, .ref (a 0)), (1, .int w58), (2, .int w59), (3, .int w60), (4, .int w61), (5, .int r63), (6, .int v65), (7, .int w76), (8, .int w77)] → W p l e R_L_isPicture s m ([.ref (a 0)] : List Value).toArray below meth c H locs 0 0 Q (F0 m 318 ls [.int j79, .int r78]) := by
          intro j79 H locs ls h hO hS hl
          rw [hj318] at h
          refine lv_icmp_eq (tgt := 323) hx hb dL_isPicture_318 (by decide) (fun c81 => ?_) (fun c81 => ?_)
          · replace h := br_p c81 h
            obtain ⟨x80, ex80, h⟩ := bd_sp h
            refine lv_iinc (v := x80) (lv' := [(6, .int x80), (0, .ref (a 0)), (1, .int w58), (2, .int w59), (3, .int w60), (4, .int w61), (5, .int r63), (7, .int w76), (8, .int w77)]) hx hb dL_isPicture_323 hl (k := 6) rfl (by rw [ex80]; rfl) (by decide) rfl (fun ls hl => ?_)
            refine lv_goto (tgt := 232) hx hb dL_isPicture_326 (by decide) ?_
            exact ih _ _ _ _ h hO hS (lv_sub hl [1, 2, 3, 4, 5, 6, 0] rfl)
          · replace h := br_n c81 h
            exact no_sm h
        refine lv_icmp_ge (tgt := 317) hx hb dL_isPicture_309 (by decide) (fun c82 => ?_) (fun c82 => ?_)
        · replace h := br_p c82 h
          refine lv_iconst (v := (-1)) hx hb dL_isPicture_317 (by decide) ?_
          exact J318 _ _ _ _ h hO hS (lv_sub hl [0, 1, 2, 3, 4, 5, 6, 7, 8] rfl)
        · replace h := br_n c82 h
          refine lv_iload hx hb dL_isPicture_312 (lv_at hl 7 rfl) ?_
          refine lv_goto (tgt := 318) hx hb dL_isPicture_314 (by decide) ?_
          exact J318 _ _ _ _ h hO hS (lv_sub hl [0, 1, 2, 3, 4, 5, 6, 7, 8] rfl)
  refine L232 _ (fun w84 H locs ls h hO hS hl => ?_) 4000 0 _ _ _ h hO hS (lv_sub hl [2, 3, 4, 5, 6, 1, 0] rfl)
  refine lv_aload_n hx hb dL_isPicture_329 rfl (lv_at hl 0 rfl) ?_
  refine lv_iconst (v := 3) hx hb dL_isPicture_330 (by decide) ?_
  obtain ⟨r85, hcr85, h⟩ := bn_sp h
  refine va_calli (va_runV (As := [.int 3]) (rest := []) ⟨hx, hb, hml, hown, hts⟩ (M_count l D cI cC cZ cR b0 a Y o 3 r85 hcr85) (cwV 1 hts gL_isPicture_X7_count rfl rfl rfl (by decide +kernel) ⟨Nat.le_of_ble_eq_true rfl, Nat.le_of_ble_eq_true rfl⟩) (cPcO_pv hO hK hb0 hS hstt) rfl rfl hl.1 rfl (lv_room (Nat.le_of_ble_eq_true rfl)) dL_isPicture_331 ⟨Nat.le_of_ble_eq_true rfl, Nat.le_of_ble_eq_true rfl⟩) hS (fun q _ h => h) (fun q h => h) (fun xq u t H1 locs ht hvm hw hB hz1 hk1 hS => ?_)
  rw [hw]
  have hO : WO D cI cC cZ cR b0 a Y o H1 := by rw [← ht]; exact hB
  generalize H1 = H at hO hS ⊢
  refine lv_iload_n hx hb dL_isPicture_334 rfl (lv_at hl 1 rfl) ?_
  refine lv_icmp_ne (tgt := 382) hx hb dL_isPicture_335 (by decide) (fun c94 => ?_) (fun c94 => ?_)
  · replace h := br_p c94 h
    exact no_sm h
  · replace h := br_n (not_not_intro c94) h
    refine lv_aload_n hx hb dL_isPicture_338 rfl (lv_at hl 0 rfl) ?_
    refine lv_iconst (v := 4) hx hb dL_isPicture_339 (by decide) ?_
    obtain ⟨r86, hcr86, h⟩ := bn_sp h
    refine va_calli (va_runV (As := [.int 4]) (rest := []) ⟨hx, hb, hml, hown, hts⟩ (M_count l D cI cC cZ cR b0 a Y o 4 r86 hcr86) (cwV 1 hts gL_isPicture_X7_count rfl rfl rfl (by decide +kernel) ⟨Nat.le_of_ble_eq_true rfl, Nat.le_of_ble_eq_true rfl⟩) (cPcO_pv hO hK hb0 hS hstt) rfl rfl hl.1 rfl (lv_room (Nat.le_of_ble_eq_true rfl)) dL_isPicture_340 ⟨Nat.le_of_ble_eq_true rfl, Nat.le_of_ble_eq_true rfl⟩) hS (fun q _ h => h) (fun q h => h) (fun xq u t H1 locs ht hvm hw hB hz1 hk1 hS => ?_)
    rw [hw]
    have hO : WO D cI cC cZ cR b0 a Y o H1 := by rw [← ht]; exact hB
    generalize H1 = H at hO hS ⊢
    refine lv_iload_n hx hb dL_isPicture_343 rfl (lv_at hl 2 rfl) ?_
    refine lv_icmp_ne (tgt := 382) hx hb dL_isPicture_344 (by decide) (fun c93 => ?_) (fun c93 => ?_)
    · replace h := br_p c93 h
      exact no_sm h
    · replace h := br_n (not_not_intro c93) h
      refine lv_aload_n hx hb dL_isPicture_347 rfl (lv_at hl 0 rfl) ?_
      refine lv_iconst (v := 5) hx hb dL_isPicture_348 (by decide) ?_
      obtain ⟨r87, hcr87, h⟩ := bn_sp h
      refine va_calli (va_runV (As := [.int 5]) (rest := []) ⟨hx, hb, hml, hown, hts⟩ (M_count l D cI cC cZ cR b0 a Y o 5 r87 hcr87) (cwV 1 hts gL_isPicture_X7_count rfl rfl rfl (by decide +kernel) ⟨Nat.le_of_ble_eq_true rfl, Nat.le_of_ble_eq_true rfl⟩) (cPcO_pv hO hK hb0 hS hstt) rfl rfl hl.1 rfl (lv_room (Nat.le_of_ble_eq_true rfl)) dL_isPicture_349 ⟨Nat.le_of_ble_eq_true rfl, Nat.le_of_ble_eq_true rfl⟩) hS (fun q _ h => h) (fun q h => h) (fun xq u t H1 locs ht hvm hw hB hz1 hk1 hS => ?_)
      rw [hw]
      have hO : WO D cI cC cZ cR b0 a Y o H1 := by rw [← ht]; exact hB
      generalize H1 = H at hO hS ⊢
      refine lv_iload_n hx hb dL_isPicture_352 rfl (lv_at hl 3 rfl) ?_
      refine lv_icmp_ne (tgt := 382) hx hb dL_isPicture_353 (by decide) (fun c92 => ?_) (fun c92 => ?_)
      · replace h := br_p c92 h
        exact no_sm h
      · replace h := br_n (not_not_intro c92) h
        refine lv_aload_n hx hb dL_isPicture_356 rfl (lv_at hl 0 rfl) ?_
        refine lv_bipush (v := 16) hx hb dL_isPicture_357 (by decide) ?_
        refine lv_iconst (v := 0) hx hb dL_isPicture_359 (by decide) ?_
        obtain ⟨r88, hcr88, h⟩ := bn_sp h
        refine va_calli (va_runV (As := [.int 16, .int 0]) (rest := []) ⟨hx, hb, hml, hown, hts⟩ (M_pixel l D cI cC cZ cR b0 a Y o 16 0 r88 hcr88) (cwV 2 hts gL_isPicture_X7_pixel rfl rfl rfl (by decide +kernel) ⟨Nat.le_of_ble_eq_true rfl, Nat.le_of_ble_eq_true rfl⟩) (cPcO_pv hO hK hb0 hS hstt) rfl rfl hl.1 rfl (lv_room (Nat.le_of_ble_eq_true rfl)) dL_isPicture_360 ⟨Nat.le_of_ble_eq_true rfl, Nat.le_of_ble_eq_true rfl⟩) hS (fun q _ h => h) (fun q h => h) (fun xq u t H1 locs ht hvm hw hB hz1 hk1 hS => ?_)
        rw [hw]
        have hO : WO D cI cC cZ cR b0 a Y o H1 := by rw [← ht]; exact hB
        generalize H1 = H at hO hS ⊢
        refine lv_iconst (v := (-1)) hx hb dL_isPicture_363 (by decide) ?_
        refine lv_icmp_ne (tgt := 382) hx hb dL_isPicture_364 (by decide) (fun c91 => ?_) (fun c91 => ?_)
        · replace h := br_p c91 h
          exact no_sm h
        · replace h := br_n (not_not_intro c91) h
          refine lv_aload_n hx hb dL_isPicture_367 rfl (lv_at hl 0 rfl) ?_
          refine lv_iconst (v := 0) hx hb dL_isPicture_368 (by decide) ?_
          refine lv_bipush (v := 24) hx hb dL_isPicture_369 (by decide) ?_
          obtain ⟨r89, hcr89, h⟩ := bn_sp h
          refine va_calli (va_runV (As := [.int 0, .int 24]) (rest := []) ⟨hx, hb, hml, hown, hts⟩ (M_pixel l D cI cC cZ cR b0 a Y o 0 24 r89 hcr89) (cwV 2 hts gL_isPicture_X7_pixel rfl rfl rfl (by decide +kernel) ⟨Nat.le_of_ble_eq_true rfl, Nat.le_of_ble_eq_true rfl⟩) (cPcO_pv hO hK hb0 hS hstt) rfl rfl hl.1 rfl (lv_room (Nat.le_of_ble_eq_true rfl)) dL_isPicture_371 ⟨Nat.le_of_ble_eq_true rfl, Nat.le_of_ble_eq_true rfl⟩) hS (fun q _ h => h) (fun q h => h) (fun xq u t H1 locs ht hvm hw hB hz1 hk1 hS => ?_)
          rw [hw]
          have hO : WO D cI cC cZ cR b0 a Y o H1 := by rw [← ht]; exact hB
          generalize H1 = H at hO hS ⊢
          refine lv_iconst (v := (-1)) hx hb dL_isPicture_374 (by decide) ?_
          refine lv_icmp_ne (tgt := 382) hx hb dL_isPicture_375 (by decide) (fun c90 => ?_) (fun c90 => ?_)
          · replace h := br_p c90 h
            exact no_sm h
          · replace h := br_n (not_not_intro c90) h
            refine lv_iconst (v := 1) hx hb dL_isPicture_378 (by decide) ?_
            refine lv_goto (tgt := 383) hx hb dL_isPicture_379 (by decide) ?_
            have e9 := Option.some.inj h
            subst e9
            rw [hQ]
            exact W.zret (v := 1) hx hb hr rfl (fun t ht hW => ⟨⟨1, (), rfl, rfl, by have h9 := hO; rw [← ht] at h9; exact h9⟩, hS.F ht⟩) hS.2.2 dL_isPicture_383
-- the law: isThing
abbrev OUT_L_isThing : Type := Int32
def f_L_isThing (o : OB) (a1 : Int32) : Option OUT_L_isThing :=
  bn (F_of o a1 6) (fun r1 => bn (F_of o a1 5) (fun r2 => bd (r2 - 100) (fun x3 => bn (F_of o a1 0) (fun r4 => (if r4 < 0 then none else bn (F_of o a1 0) (fun r5 => (if 16 ≤ r5 then none else bn (F_of o a1 2) (fun r6 => (if r6 ≤ 0 then none else bn (F_of o a1 3) (fun r7 => (if r7 ≤ 0 then none else bn (F_of o a1 4) (fun r8 => (if r8 ≤ 0 then none else (if x3 < (-40) then none else (if 40 < x3 then none else jn (fun (_ : Unit) => bn (F_of o a1 7) (fun r9 => jn (fun (j10 : Int32) => (if ¬ (r9 - 1000) = (x3 + j10) then none else some 1)) (fun j137 => (if ¬ r1 = (-6) then bn (F_of o r1 7) (fun r12 => j137 (r12 - 1000)) else j137 0)))) (fun j92 => (if r1 = (-6) then j92 () else (if r1 < 0 then none else (if a1 ≤ r1 then none else j92 ())))))))))))))))))))
abbrev R_L_isThing : Room := { frames := 3, cells := 0, slots := 0, locals := 70 }
set_option maxHeartbeats 4000000 in
set_option maxRecDepth 100000 in
theorem m_L_isThing (l : Launch) (D : va_G) (cI cC cZ cR : ClassId) (b0 : Nat) (a : Nat → Nat) (Y : va_W) (o : OB) (a1 : Int32) (r : OUT_L_isThing) (hf : f_L_isThing o a1 = some r) : Met l yL_isThing wsL_isThing R_L_isThing (cPcO D cI cC cZ cR b0 a Y [.ref (a 0), .int a1] o) (cQO D cI cC cZ cR b0 a Y r o) 0 0 (fun q => b0 ≤ q) := by
  refine Met.ofW (cc := cL_isThing) (maxL := 5) (ret := (some .boolean)) (by decide) rfl ?_
  intro p e s m args below meth c s₁ B hml hv
  obtain ⟨rfl, hO, hK, hb0, hstt⟩ := hv
  have hx := B.exec
  have hb := B.bytes
  have hr := B.returns
  have hts := atoms_spec (ws := wsL_isThing) B.pre
  have hown : s.vm.findClass RL = some m.cls := findClass_of_methodNamed B.named
  have hlocks := B.notSynchronized
  have hA : ∀ q : Nat, s.heap.size ≤ q → (fun q : Nat => b0 ≤ q) q := fun q h => Nat.le_trans hb0 h
  have hS : va_S (fun q : Nat => b0 ≤ q) s.heap s.heap [] := va_S.rf
  have hl := lv_entry ([.ref (a 0), .int a1]) (n := 5) (Nat.le_of_ble_eq_true rfl)
  rw [lg_entry_eq]
  generalize (lg_sl ([.ref (a 0), .int a1]) ++ List.replicate (5 - (lg_sl ([.ref (a 0), .int a1])).length) Slot.unset).toArray = ls at hl ⊢
  have hl : lv_has ls 5 [(0, .ref (a 0)), (1, .int a1)] := hl
  refine W_absQ (fun Q hQ => ?_)
  refine W.eq (g2 := F0 m 0 ls []) rfl ?_
  have h := hf
  unfold f_L_isThing at h
  refine lv_aload_n hx hb dL_isThing_0 rfl (lv_at hl 0 rfl) ?_
  refine lv_iload_n hx hb dL_isThing_1 rfl (lv_at hl 1 rfl) ?_
  refine lv_bipush (v := 6) hx hb dL_isThing_2 (by decide) ?_
  obtain ⟨r1, hcr1, h⟩ := bn_sp h
  refine va_calli (va_runV (As := [.int a1, .int 6]) (rest := []) ⟨hx, hb, hml, hown, hts⟩ (M_of l D cI cC cZ cR b0 a Y o a1 6 r1 hcr1) (cwV 2 hts gL_isThing_X7_of rfl rfl rfl (by decide +kernel) ⟨Nat.le_of_ble_eq_true rfl, Nat.le_of_ble_eq_true rfl⟩) (cPcO_pv hO hK hb0 hS hstt) rfl rfl hl.1 rfl (lv_room (Nat.le_of_ble_eq_true rfl)) dL_isThing_4 ⟨Nat.le_of_ble_eq_true rfl, Nat.le_of_ble_eq_true rfl⟩) hS (fun q _ h => h) (fun q h => h) (fun xq u t H1 locs ht hvm hw hB hz1 hk1 hS => ?_)
  rw [hw]
  have hO : WO D cI cC cZ cR b0 a Y o H1 := by rw [← ht]; exact hB
  generalize H1 = H at hO hS ⊢
  refine lv_istore_n (lv' := [(2, .int r1), (0, .ref (a 0)), (1, .int a1)]) hx hb dL_isThing_7 rfl hl (by decide) rfl (fun ls hl => ?_)
  refine lv_aload_n hx hb dL_isThing_8 rfl (lv_at hl 1 rfl) ?_
  refine lv_iload_n hx hb dL_isThing_9 rfl (lv_at hl 2 rfl) ?_
  refine lv_iconst (v := 5) hx hb dL_isThing_10 (by decide) ?_
  obtain ⟨r2, hcr2, h⟩ := bn_sp h
  refine va_calli (va_runV (As := [.int a1, .int 5]) (rest := []) ⟨hx, hb, hml, hown, hts⟩ (M_of l D cI cC cZ cR b0 a Y o a1 5 r2 hcr2) (cwV 2 hts gL_isThing_X7_of rfl rfl rfl (by decide +kernel) ⟨Nat.le_of_ble_eq_true rfl, Nat.le_of_ble_eq_true rfl⟩) (cPcO_pv hO hK hb0 hS hstt) rfl rfl hl.1 rfl (lv_room (Nat.le_of_ble_eq_true rfl)) dL_isThing_11 ⟨Nat.le_of_ble_eq_true rfl, Nat.le_of_ble_eq_true rfl⟩) hS (fun q _ h => h) (fun q h => h) (fun xq u t H1 locs ht hvm hw hB hz1 hk1 hS => ?_)
  rw [hw]
  have hO : WO D cI cC cZ cR b0 a Y o H1 := by rw [← ht]; exact hB
  generalize H1 = H at hO hS ⊢
  refine lv_bipush (v := 100) hx hb dL_isThing_14 (by decide) ?_
  refine lv_isub hx hb dL_isThing_16 ?_
  refine lv_topi (fun x3 ex3 => ?_)
  replace h := bd_s2 h ex3
  refine lv_istore_n (lv' := [(3, .int x3), (2, .int r1), (0, .ref (a 0)), (1, .int a1)]) hx hb dL_isThing_17 rfl hl (by decide) rfl (fun ls hl => ?_)
  refine lv_aload_n hx hb dL_isThing_18 rfl (lv_at hl 2 rfl) ?_
  refine lv_iload_n hx hb dL_isThing_19 rfl (lv_at hl 3 rfl) ?_
  refine lv_iconst (v := 0) hx hb dL_isThing_20 (by decide) ?_
  obtain ⟨r4, hcr4, h⟩ := bn_sp h
  refine va_calli (va_runV (As := [.int a1, .int 0]) (rest := []) ⟨hx, hb, hml, hown, hts⟩ (M_of l D cI cC cZ cR b0 a Y o a1 0 r4 hcr4) (cwV 2 hts gL_isThing_X7_of rfl rfl rfl (by decide +kernel) ⟨Nat.le_of_ble_eq_true rfl, Nat.le_of_ble_eq_true rfl⟩) (cPcO_pv hO hK hb0 hS hstt) rfl rfl hl.1 rfl (lv_room (Nat.le_of_ble_eq_true rfl)) dL_isThing_21 ⟨Nat.le_of_ble_eq_true rfl, Nat.le_of_ble_eq_true rfl⟩) hS (fun q _ h => h) (fun q h => h) (fun xq u t H1 locs ht hvm hw hB hz1 hk1 hS => ?_)
  rw [hw]
  have hO : WO D cI cC cZ cR b0 a Y o H1 := by rw [← ht]; exact hB
  generalize H1 = H at hO hS ⊢
  refine lv_if_lt (tgt := 96) hx hb dL_isThing_24 (by decide) (fun c23 => ?_) (fun c23 => ?_)
  · replace h := br_p c23 h
    exact no_sm h
  · replace h := br_n c23 h
    refine lv_aload_n hx hb dL_isThing_27 rfl (lv_at hl 2 rfl) ?_
    refine lv_iload_n hx hb dL_isThing_28 rfl (lv_at hl 3 rfl) ?_
    refine lv_iconst (v := 0) hx hb dL_isThing_29 (by decide) ?_
    obtain ⟨r5, hcr5, h⟩ := bn_sp h
    refine va_calli (va_runV (As := [.int a1, .int 0]) (rest := []) ⟨hx, hb, hml, hown, hts⟩ (M_of l D cI cC cZ cR b0 a Y o a1 0 r5 hcr5) (cwV 2 hts gL_isThing_X7_of rfl rfl rfl (by decide +kernel) ⟨Nat.le_of_ble_eq_true rfl, Nat.le_of_ble_eq_true rfl⟩) (cPcO_pv hO hK hb0 hS hstt) rfl rfl hl.1 rfl (lv_room (Nat.le_of_ble_eq_true rfl)) dL_isThing_30 ⟨Nat.le_of_ble_eq_true rfl, Nat.le_of_ble_eq_true rfl⟩) hS (fun q _ h => h) (fun q h => h) (fun xq u t H1 locs ht hvm hw hB hz1 hk1 hS => ?_)
    rw [hw]
    have hO : WO D cI cC cZ cR b0 a Y o H1 := by rw [← ht]; exact hB
    generalize H1 = H at hO hS ⊢
    refine lv_bipush (v := 16) hx hb dL_isThing_33 (by decide) ?_
    refine lv_icmp_ge (tgt := 96) hx hb dL_isThing_35 (by decide) (fun c22 => ?_) (fun c22 => ?_)
    · replace h := br_p c22 h
      exact no_sm h
    · replace h := br_n c22 h
      refine lv_aload_n hx hb dL_isThing_38 rfl (lv_at hl 2 rfl) ?_
      refine lv_iload_n hx hb dL_isThing_39 rfl (lv_at hl 3 rfl) ?_
      refine lv_iconst (v := 2) hx hb dL_isThing_40 (by decide) ?_
      obtain ⟨r6, hcr6, h⟩ := bn_sp h
      refine va_calli (va_runV (As := [.int a1, .int 2]) (rest := []) ⟨hx, hb, hml, hown, hts⟩ (M_of l D cI cC cZ cR b0 a Y o a1 2 r6 hcr6) (cwV 2 hts gL_isThing_X7_of rfl rfl rfl (by decide +kernel) ⟨Nat.le_of_ble_eq_true rfl, Nat.le_of_ble_eq_true rfl⟩) (cPcO_pv hO hK hb0 hS hstt) rfl rfl hl.1 rfl (lv_room (Nat.le_of_ble_eq_true rfl)) dL_isThing_41 ⟨Nat.le_of_ble_eq_true rfl, Nat.le_of_ble_eq_true rfl⟩) hS (fun q _ h => h) (fun q h => h) (fun xq u t H1 locs ht hvm hw hB hz1 hk1 hS => ?_)
      rw [hw]
      have hO : WO D cI cC cZ cR b0 a Y o H1 := by rw [← ht]; exact hB
      generalize H1 = H at hO hS ⊢
      refine lv_if_le (tgt := 96) hx hb dL_isThing_44 (by decide) (fun c21 => ?_) (fun c21 => ?_)
      · replace h := br_p c21 h
        exact no_sm h
      · replace h := br_n c21 h
        refine lv_aload_n hx hb dL_isThing_47 rfl (lv_at hl 2 rfl) ?_
        refine lv_iload_n hx hb dL_isThing_48 rfl (lv_at hl 3 rfl) ?_
        refine lv_iconst (v := 3) hx hb dL_isThing_49 (by decide) ?_
        obtain ⟨r7, hcr7, h⟩ := bn_sp h
        refine va_calli (va_runV (As := [.int a1, .int 3]) (rest := []) ⟨hx, hb, hml, hown, hts⟩ (M_of l D cI cC cZ cR b0 a Y o a1 3 r7 hcr7) (cwV 2 hts gL_isThing_X7_of rfl rfl rfl (by decide +kernel) ⟨Nat.le_of_ble_eq_true rfl, Nat.le_of_ble_eq_true rfl⟩) (cPcO_pv hO hK hb0 hS hstt) rfl rfl hl.1 rfl (lv_room (Nat.le_of_ble_eq_true rfl)) dL_isThing_50 ⟨Nat.le_of_ble_eq_true rfl, Nat.le_of_ble_eq_true rfl⟩) hS (fun q _ h => h) (fun q h => h) (fun xq u t H1 locs ht hvm hw hB hz1 hk1 hS => ?_)
        rw [hw]
        have hO : WO D cI cC cZ cR b0 a Y o H1 := by rw [← ht]; exact hB
        generalize H1 = H at hO hS ⊢
        refine lv_if_le (tgt := 96) hx hb dL_isThing_53 (by decide) (fun c20 => ?_) (fun c20 => ?_)
        · replace h := br_p c20 h
          exact no_sm h
        · replace h := br_n c20 h
          refine lv_aload_n hx hb dL_isThing_56 rfl (lv_at hl 2 rfl) ?_
          refine lv_iload_n hx hb dL_isThing_57 rfl (lv_at hl 3 rfl) ?_
          refine lv_iconst (v := 4) hx hb dL_isThing_58 (by decide) ?_
          obtain ⟨r8, hcr8, h⟩ := bn_sp h
          refine va_calli (va_runV (As := [.int a1, .int 4]) (rest := []) ⟨hx, hb, hml, hown, hts⟩ (M_of l D cI cC cZ cR b0 a Y o a1 4 r8 hcr8) (cwV 2 hts gL_isThing_X7_of rfl rfl rfl (by decide +kernel) ⟨Nat.le_of_ble_eq_true rfl, Nat.le_of_ble_eq_true rfl⟩) (cPcO_pv hO hK hb0 hS hstt) rfl rfl hl.1 rfl (lv_room (Nat.le_of_ble_eq_true rfl)) dL_isThing_59 ⟨Nat.le_of_ble_eq_true rfl, Nat.le_of_ble_eq_true rfl⟩) hS (fun q _ h => h) (fun q h => h) (fun xq u t H1 locs ht hvm hw hB hz1 hk1 hS => ?_)
          rw [hw]
          have hO : WO D cI cC cZ cR b0 a Y o H1 := by rw [← ht]; exact hB
          generalize H1 = H at hO hS ⊢
          refine lv_if_le (tgt := 96) hx hb dL_isThing_62 (by decide) (fun c19 => ?_) (fun c19 => ?_)
          · replace h := br_p c19 h
            exact no_sm h
          · replace h := br_n c19 h
            refine lv_iload_n hx hb dL_isThing_65 rfl (lv_at hl 0 rfl) ?_
            refine lv_bipush (v := (-40)) hx hb dL_isThing_66 (by decide) ?_
            refine lv_icmp_lt (tgt := 96) hx hb dL_isThing_68 (by decide) (fun c18 => ?_) (fun c18 => ?_)
            · replace h := br_p c18 h
              exact no_sm h
            · replace h := br_n c18 h
              refine lv_iload_n hx hb dL_isThing_71 rfl (lv_at hl 0 rfl) ?_
              refine lv_bipush (v := 40) hx hb dL_isThing_72 (by decide) ?_
              refine lv_icmp_gt (tgt := 96) hx hb dL_isThing_74 (by decide) (fun c17 => ?_) (fun c17 => ?_)
              · replace h := br_p c17 h
                exact no_sm h
              · replace h := br_n c17 h
                refine lv_iload_n hx hb dL_isThing_77 rfl (lv_at hl 1 rfl) ?_
                refine lv_bipush (v := (-6)) hx hb dL_isThing_78 (by decide) ?_
                obtain ⟨j92, hj92, h⟩ := jn_sp h
                have J92 : ∀ (_u : Unit) (H : Heap) (locs : List Loc) (ls : Array Slot), j92 _u = some r → WO D cI cC cZ cR b0 a Y o H → va_S (fun q => b0 ≤ q) s.heap H locs → lv_has ls 5 [(0, .ref (a 0)), (1, .int a1), (2, .int r1), (3, .int x3)] → W p l e R_L_isThing s m ([.ref (a 0), .int a1] : List Value).toArray below meth c H locs 0 0 Q (F0 m 92 ls []) := by
                  intro _u H locs ls h hO hS hl
                  rw [hj92] at h
                  refine lv_iconst (v := 1) hx hb dL_isThing_92 (by decide) ?_
                  refine lv_goto (tgt := 97) hx hb dL_isThing_93 (by decide) ?_
                  refine lv_istore (lv' := [(4, .int 1), (0, .ref (a 0)), (1, .int a1), (2, .int r1), (3, .int x3)]) hx hb dL_isThing_97 hl (by decide) rfl (fun ls hl => ?_)
                  refine lv_iload hx hb dL_isThing_99 (lv_at hl 0 rfl) ?_
                  refine lv_if_eq (tgt := 145) hx hb dL_isThing_101 (by decide) (fun c9 => absurd c9 (by decide)) (fun _ => ?_)
                  refine lv_aload_n hx hb dL_isThing_104 rfl (lv_at hl 1 rfl) ?_
                  refine lv_iload_n hx hb dL_isThing_105 rfl (lv_at hl 2 rfl) ?_
                  refine lv_bipush (v := 7) hx hb dL_isThing_106 (by decide) ?_
                  obtain ⟨r9, hcr9, h⟩ := bn_sp h
                  refine va_calli (va_runV (As := [.int a1, .int 7]) (rest := []) ⟨hx, hb, hml, hown, hts⟩ (M_of l D cI cC cZ cR b0 a Y o a1 7 r9 hcr9) (cwV 2 hts gL_isThing_X7_of rfl rfl rfl (by decide +kernel) ⟨Nat.le_of_ble_eq_true rfl, Nat.le_of_ble_eq_true rfl⟩) (cPcO_pv hO hK hb0 hS hstt) rfl rfl hl.1 rfl (lv_room (Nat.le_of_ble_eq_true rfl)) dL_isThing_108 ⟨Nat.le_of_ble_eq_true rfl, Nat.le_of_ble_eq_true rfl⟩) hS (fun q _ h => h) (fun q h => h) (fun xq u t H1 locs ht hvm hw hB hz1 hk1 hS => ?_)
                  rw [hw]
                  have hO : WO D cI cC cZ cR b0 a Y o H1 := by rw [← ht]; exact hB
                  generalize H1 = H at hO hS ⊢
                  refine lv_sipush (v := 1000) hx hb dL_isThing_111 (by decide) ?_
                  refine lv_isub hx hb dL_isThing_114 ?_
                  refine lv_iload_n hx hb dL_isThing_115 rfl (lv_at hl 4 rfl) ?_
                  refine lv_iload_n hx hb dL_isThing_116 rfl (lv_at hl 3 rfl) ?_
                  refine lv_bipush (v := (-6)) hx hb dL_isThing_117 (by decide) ?_
                  obtain ⟨j137, hj137, h⟩ := jn_sp h
                  have J137 : ∀ (j10 : Int32) (H : Heap) (locs : List Loc) (ls : Array Slot), j137 j10 = some r → WO D cI cC cZ cR b0 a Y o H → va_S (fun q => b0 ≤ q) s.heap H locs → lv_has ls 5 [(0, .ref (a 0)), (1, .int a1), (2, .int r1), (3, .int x3), (4, .int 1)] → W p l e R_L_isThing s m ([.ref (a 0), .int a1] : List Value).toArray below meth c H locs 0 0 Q (F0 m 137 ls [.int j10, .int x3, .int (r9 - 1000)]) := by
                    intro j10 H locs ls h hO hS hl
                    rw [hj137] at h
                    refine lv_iadd hx hb dL_isThing_137 ?_
                    refine lv_icmp_ne (tgt := 145) hx hb dL_isThing_138 (by decide) (fun c11 => ?_) (fun c11 => ?_)
                    · replace h := br_p c11 h
                      exact no_sm h
                    · replace h := br_n (not_not_intro c11) h
                      refine lv_iconst (v := 1) hx hb dL_isThing_141 (by decide) ?_
                      refine lv_goto (tgt := 146) hx hb dL_isThing_142 (by decide) ?_
                      have e9 := Option.some.inj h
                      subst e9
                      rw [hQ]
                      exact W.zret (v := 1) hx hb hr rfl (fun t ht hW => ⟨⟨1, (), rfl, rfl, by have h9 := hO; rw [← ht] at h9; exact h9⟩, hS.F ht⟩) hS.2.2 dL_isThing_146
                  refine lv_icmp_ne (tgt := 126) hx hb dL_isThing_119 (by decide) (fun c13 => ?_) (fun c13 => ?_)
                  · replace h := br_p c13 h
                    refine lv_aload_n hx hb dL_isThing_126 rfl (lv_at hl 1 rfl) ?_
                    refine lv_iload_n hx hb dL_isThing_127 rfl (lv_at hl 3 rfl) ?_
                    refine lv_bipush (v := 7) hx hb dL_isThing_128 (by decide) ?_
                    obtain ⟨r12, hcr12, h⟩ := bn_sp h
                    refine va_calli (va_runV (As := [.int r1, .int 7]) (rest := [.int x3, .int (r9 - 1000)]) ⟨hx, hb, hml, hown, hts⟩ (M_of l D cI cC cZ cR b0 a Y o r1 7 r12 hcr12) (cwV 2 hts gL_isThing_X7_of rfl rfl rfl (by decide +kernel) ⟨Nat.le_of_ble_eq_true rfl, Nat.le_of_ble_eq_true rfl⟩) (cPcO_pv hO hK hb0 hS hstt) rfl rfl hl.1 rfl (lv_room (Nat.le_of_ble_eq_true rfl)) dL_isThing_130 ⟨Nat.le_of_ble_eq_true rfl, Nat.le_of_ble_eq_true rfl⟩) hS (fun q _ h => h) (fun q h => h) (fun xq u t H1 locs ht hvm hw hB hz1 hk1 hS => ?_)
                    rw [hw]
                    have hO : WO D cI cC cZ cR b0 a Y o H1 := by rw [← ht]; exact hB
                    generalize H1 = H at hO hS ⊢
                    refine lv_sipush (v := 1000) hx hb dL_isThing_133 (by decide) ?_
                    refine lv_isub hx hb dL_isThing_136 ?_
                    exact J137 _ _ _ _ h hO hS (lv_sub hl [1, 2, 3, 4, 0] rfl)
                  · replace h := br_n (not_not_intro c13) h
                    refine lv_iconst (v := 0) hx hb dL_isThing_122 (by decide) ?_
                    refine lv_goto (tgt := 137) hx hb dL_isThing_123 (by decide) ?_
                    exact J137 _ _ _ _ h hO hS (lv_sub hl [1, 2, 3, 4, 0] rfl)
                refine lv_icmp_eq (tgt := 92) hx hb dL_isThing_80 (by decide) (fun c16 => ?_) (fun c16 => ?_)
                · replace h := br_p c16 h
                  exact J92 _ _ _ _ h hO hS (lv_sub hl [2, 3, 1, 0] rfl)
                · replace h := br_n c16 h
                  refine lv_iload_n hx hb dL_isThing_83 rfl (lv_at hl 1 rfl) ?_
                  refine lv_if_lt (tgt := 96) hx hb dL_isThing_84 (by decide) (fun c15 => ?_) (fun c15 => ?_)
                  · replace h := br_p c15 h
                    exact no_sm h
                  · replace h := br_n c15 h
                    refine lv_iload_n hx hb dL_isThing_87 rfl (lv_at hl 1 rfl) ?_
                    refine lv_iload_n hx hb dL_isThing_88 rfl (lv_at hl 3 rfl) ?_
                    refine lv_icmp_ge (tgt := 96) hx hb dL_isThing_89 (by decide) (fun c14 => ?_) (fun c14 => ?_)
                    · replace h := br_p c14 h
                      exact no_sm h
                    · replace h := br_n c14 h
                      exact J92 _ _ _ _ h hO hS (lv_sub hl [2, 3, 1, 0] rfl)
-- the law: isSeen
abbrev OUT_L_isSeen : Type := Int32 × OB
def f_L_isSeen_L5 (o : OB) (a1 : Int32) (a2 : Int32) (k : Int32 → Int32 → Option OUT_L_isSeen) : Nat → Int32 → Int32 → Option OUT_L_isSeen
  | 0 => fun _ _ => none
  | n + 1 => fun v3 v4 => bn (F_count o 1) (fun r5 => (if r5 ≤ v4 then k v3 v4 else (if 8 ≤ v4 then k v3 v4 else bn (F_of o v4 1) (fun r6 => bd (r6 - 1000) (fun x7 => bn (F_of o v4 0) (fun r8 => jn (fun (j9 : Int32) => jn (fun (j10 : Int32) => bd (v3 + j10) (fun x11 => bd (v4 + 1) (fun x12 => f_L_isSeen_L5 o a1 a2 k n x11 x12))) (fun j109 => (if j9 = 0 then j109 0 else bn (F_of o v4 4) (fun r13 => j109 r13)))) (fun j90 => (if a1 < r8 then j90 0 else bn (F_of o v4 0) (fun r15 => bn (F_of o v4 2) (fun r16 => (if (r15 + r16) ≤ a1 then j90 0 else (if a2 < x7 then j90 0 else bn (F_of o v4 3) (fun r17 => (if (x7 + r17) ≤ a2 then j90 0 else j90 1))))))))))))))
theorem f_L_isSeen_L5_s (o : OB) (a1 : Int32) (a2 : Int32) (k : Int32 → Int32 → Option OUT_L_isSeen) (n : Nat) (v3 : Int32) (v4 : Int32) : f_L_isSeen_L5 o a1 a2 k (n + 1) v3 v4 = (bn (F_count o 1) (fun r5 => (if r5 ≤ v4 then k v3 v4 else (if 8 ≤ v4 then k v3 v4 else bn (F_of o v4 1) (fun r6 => bd (r6 - 1000) (fun x7 => bn (F_of o v4 0) (fun r8 => jn (fun (j9 : Int32) => jn (fun (j10 : Int32) => bd (v3 + j10) (fun x11 => bd (v4 + 1) (fun x12 => f_L_isSeen_L5 o a1 a2 k n x11 x12))) (fun j109 => (if j9 = 0 then j109 0 else bn (F_of o v4 4) (fun r13 => j109 r13)))) (fun j90 => (if a1 < r8 then j90 0 else bn (F_of o v4 0) (fun r15 => bn (F_of o v4 2) (fun r16 => (if (r15 + r16) ≤ a1 then j90 0 else (if a2 < x7 then j90 0 else bn (F_of o v4 3) (fun r17 => (if (x7 + r17) ≤ a2 then j90 0 else j90 1))))))))))))))) := rfl
def f_L_isSeen (o : OB) (a1 : Int32) (a2 : Int32) : Option OUT_L_isSeen :=
  f_L_isSeen_L5 o a1 a2 (fun (w24 : Int32) (w25 : Int32) => jn (fun (j26 : Int32) => bn (F_count o 0) (fun r27 => bn (F_count o 10) (fun r28 => bn (F_count o 6) (fun r29 => jn (fun (j30 : Int32) => jn (fun (j31 : Int32) => bn (F_seen o a1 a2 0) (fun r32 => (if ¬ r32.1 = (j26 * j31) then none else some (1, r32.2)))) (fun j221 => (if j30 = 0 then (if r28 ≤ 0 then j221 1 else gz r28 ((if (r27 - r27 / r28 * r28) < (r28 / 2) then j221 1 else j221 0))) else j221 3))) (fun j188 => (if r29 < 0 then j188 0 else bn (F_count o 6) (fun r37 => (if r27 < r37 then j188 0 else bn (F_count o 6) (fun r38 => bn (F_count o 7) (fun r39 => (if (r38 + r39) ≤ r27 then j188 0 else j188 1))))))))))) (fun j129 => (if w24 ≤ 30 then j129 w24 else j129 30))) 4000 0 0
abbrev R_L_isSeen : Room := { frames := 6, cells := 0, slots := 0, locals := 146 }
set_option maxHeartbeats 4000000 in
set_option maxRecDepth 100000 in
theorem m_L_isSeen (l : Launch) (D : va_G) (cI cC cZ cR : ClassId) (b0 : Nat) (a : Nat → Nat) (Y : va_W) (o : OB) (a1 : Int32) (a2 : Int32) (r : OUT_L_isSeen) (hf : f_L_isSeen o a1 a2 = some r) : Met l yL_isSeen wsL_isSeen R_L_isSeen (cPcO D cI cC cZ cR b0 a Y [.ref (a 0), .int a1, .int a2] o) (cQO D cI cC cZ cR b0 a Y r.1 r.2) 0 0 (fun q => b0 ≤ q) := by
  refine Met.ofW (cc := cL_isSeen) (maxL := 8) (ret := (some .boolean)) (by decide) rfl ?_
  intro p e s m args below meth c s₁ B hml hv
  obtain ⟨rfl, hO, hK, hb0, hstt⟩ := hv
  have hx := B.exec
  have hb := B.bytes
  have hr := B.returns
  have hts := atoms_spec (ws := wsL_isSeen) B.pre
  have hown : s.vm.findClass RL = some m.cls := findClass_of_methodNamed B.named
  have hlocks := B.notSynchronized
  have hA : ∀ q : Nat, s.heap.size ≤ q → (fun q : Nat => b0 ≤ q) q := fun q h => Nat.le_trans hb0 h
  have hS : va_S (fun q : Nat => b0 ≤ q) s.heap s.heap [] := va_S.rf
  have hl := lv_entry ([.ref (a 0), .int a1, .int a2]) (n := 8) (Nat.le_of_ble_eq_true rfl)
  rw [lg_entry_eq]
  generalize (lg_sl ([.ref (a 0), .int a1, .int a2]) ++ List.replicate (8 - (lg_sl ([.ref (a 0), .int a1, .int a2])).length) Slot.unset).toArray = ls at hl ⊢
  have hl : lv_has ls 8 [(0, .ref (a 0)), (1, .int a1), (2, .int a2)] := hl
  refine W_absQ (fun Q hQ => ?_)
  refine W.eq (g2 := F0 m 0 ls []) rfl ?_
  have h := hf
  unfold f_L_isSeen at h
  refine lv_iconst (v := 0) hx hb dL_isSeen_0 (by decide) ?_
  refine lv_istore_n (lv' := [(3, .int 0), (0, .ref (a 0)), (1, .int a1), (2, .int a2)]) hx hb dL_isSeen_1 rfl hl (by decide) rfl (fun ls hl => ?_)
  refine lv_iconst (v := 0) hx hb dL_isSeen_2 (by decide) ?_
  refine lv_istore (lv' := [(4, .int 0), (3, .int 0), (0, .ref (a 0)), (1, .int a1), (2, .int a2)]) hx hb dL_isSeen_3 hl (by decide) rfl (fun ls hl => ?_)
  have L5 : ∀ (k : Int32 → Int32 → Option OUT_L_isSeen), (∀ (w24 : Int32) (w25 : Int32) (H : Heap) (locs : List Loc) (ls : Array Slot), k w24 w25 = some r → WO D cI cC cZ cR b0 a Y o H → va_S (fun q => b0 ≤ q) s.heap H locs → lv_has ls 8 [(0, .ref (a 0)), (1, .int a1), (2, .int a2), (3, .int w24), (4, .int w25)] → W p l e R_L_isSeen s m ([.ref (a 0), .int a1, .int a2] : List Value).toArray below meth c H locs 0 0 Q (F0 m 117 ls [])) → ∀ (n : Nat) (v3 : Int32) (v4 : Int32) (H : Heap) (locs : List Loc) (ls : Array Slot), f_L_isSeen_L5 o a1 a2 k n v3 v4 = some r → WO D cI cC cZ cR b0 a Y o H → va_S (fun q => b0 ≤ q) s.heap H locs → lv_has ls 8 [(0, .ref (a 0)), (1, .int a1), (2, .int a2), (3, .int v3), (4, .int v4)] → W p l e R_L_isSeen s m ([.ref (a 0), .int a1, .int a2] : List Value).toArray below meth c H locs 0 0 Q (F0 m 5 ls []) := by
    intro k K n
    induction n with
    | zero => intro v3 v4 H locs ls h; exact no_sm h
    | succ n ih =>
      intro v3 v4 H locs ls h hO hS hl
      rw [f_L_isSeen_L5_s] at h
      refine lv_iload hx hb dL_isSeen_5 (lv_at hl 4 rfl) ?_
      refine lv_aload_n hx hb dL_isSeen_7 rfl (lv_at hl 0 rfl) ?_
      refine lv_iconst (v := 1) hx hb dL_isSeen_8 (by decide) ?_
      obtain ⟨r5, hcr5, h⟩ := bn_sp h
      refine va_calli (va_runV (As := [.int 1]) (rest := [.int v4]) ⟨hx, hb, hml, hown, hts⟩ (M_count l D cI cC cZ cR b0 a Y o 1 r5 hcr5) (cwV 1 hts gL_isSeen_X7_count rfl rfl rfl (by decide +kernel) ⟨Nat.le_of_ble_eq_true rfl, Nat.le_of_ble_eq_true rfl⟩) (cPcO_pv hO hK hb0 hS hstt) rfl rfl hl.1 rfl (lv_room (Nat.le_of_ble_eq_true rfl)) dL_isSeen_9 ⟨Nat.le_of_ble_eq_true rfl, Nat.le_of_ble_eq_true rfl⟩) hS (fun q _ h => h) (fun q h => h) (fun xq u t H1 locs ht hvm hw hB hz1 hk1 hS => ?_)
      rw [hw]
      have hO : WO D cI cC cZ cR b0 a Y o H1 := by rw [← ht]; exact hB
      generalize H1 = H at hO hS ⊢
      refine lv_icmp_ge (tgt := 117) hx hb dL_isSeen_12 (by decide) (fun c23 => ?_) (fun c23 => ?_)
      · replace h := br_p c23 h
        exact K _ _ _ _ _ h hO hS (lv_sub hl [0, 1, 2, 3, 4] rfl)
      · replace h := br_n c23 h
        refine lv_iload hx hb dL_isSeen_15 (lv_at hl 4 rfl) ?_
        refine lv_bipush (v := 8) hx hb dL_isSeen_17 (by decide) ?_
        refine lv_icmp_ge (tgt := 117) hx hb dL_isSeen_19 (by decide) (fun c22 => ?_) (fun c22 => ?_)
        · replace h := br_p c22 h
          exact K _ _ _ _ _ h hO hS (lv_sub hl [0, 1, 2, 3, 4] rfl)
        · replace h := br_n c22 h
          refine lv_aload_n hx hb dL_isSeen_22 rfl (lv_at hl 0 rfl) ?_
          refine lv_iload hx hb dL_isSeen_23 (lv_at hl 4 rfl) ?_
          refine lv_iconst (v := 1) hx hb dL_isSeen_25 (by decide) ?_
          obtain ⟨r6, hcr6, h⟩ := bn_sp h
          refine va_calli (va_runV (As := [.int v4, .int 1]) (rest := []) ⟨hx, hb, hml, hown, hts⟩ (M_of l D cI cC cZ cR b0 a Y o v4 1 r6 hcr6) (cwV 2 hts gL_isSeen_X7_of rfl rfl rfl (by decide +kernel) ⟨Nat.le_of_ble_eq_true rfl, Nat.le_of_ble_eq_true rfl⟩) (cPcO_pv hO hK hb0 hS hstt) rfl rfl hl.1 rfl (lv_room (Nat.le_of_ble_eq_true rfl)) dL_isSeen_26 ⟨Nat.le_of_ble_eq_true rfl, Nat.le_of_ble_eq_true rfl⟩) hS (fun q _ h => h) (fun q h => h) (fun xq u t H1 locs ht hvm hw hB hz1 hk1 hS => ?_)
          rw [hw]
          have hO : WO D cI cC cZ cR b0 a Y o H1 := by rw [← ht]; exact hB
          generalize H1 = H at hO hS ⊢
          refine lv_sipush (v := 1000) hx hb dL_isSeen_29 (by decide) ?_
          refine lv_isub hx hb dL_isSeen_32 ?_
          refine lv_topi (fun x7 ex7 => ?_)
          replace h := bd_s2 h ex7
          refine lv_istore (lv' := [(5, .int x7), (0, .ref (a 0)), (1, .int a1), (2, .int a2), (3, .int v3), (4, .int v4)]) hx hb dL_isSeen_33 hl (by decide) rfl (fun ls hl => ?_)
          refine lv_iload_n hx hb dL_isSeen_35 rfl (lv_at hl 2 rfl) ?_
          refine lv_aload_n hx hb dL_isSeen_36 rfl (lv_at hl 1 rfl) ?_
          refine lv_iload hx hb dL_isSeen_37 (lv_at hl 5 rfl) ?_
          refine lv_iconst (v := 0) hx hb dL_isSeen_39 (by decide) ?_
          obtain ⟨r8, hcr8, h⟩ := bn_sp h
          refine va_calli (va_runV (As := [.int v4, .int 0]) (rest := [.int a1]) ⟨hx, hb, hml, hown, hts⟩ (M_of l D cI cC cZ cR b0 a Y o v4 0 r8 hcr8) (cwV 2 hts gL_isSeen_X7_of rfl rfl rfl (by decide +kernel) ⟨Nat.le_of_ble_eq_true rfl, Nat.le_of_ble_eq_true rfl⟩) (cPcO_pv hO hK hb0 hS hstt) rfl rfl hl.1 rfl (lv_room (Nat.le_of_ble_eq_true rfl)) dL_isSeen_40 ⟨Nat.le_of_ble_eq_true rfl, Nat.le_of_ble_eq_true rfl⟩) hS (fun q _ h => h) (fun q h => h) (fun xq u t H1 locs ht hvm hw hB hz1 hk1 hS => ?_)
          rw [hw]
          have hO : WO D cI cC cZ cR b0 a Y o H1 := by rw [← ht]; exact hB
          generalize H1 = H at hO hS ⊢
          obtain ⟨j90, hj90, h⟩ := jn_sp h
          have J90 : ∀ (j9 : Int32) (H : Heap) (locs : List Loc) (ls : Array Slot), j90 j9 = some r → WO D cI cC cZ cR b0 a Y o H → va_S (fun q => b0 ≤ q) s.heap H locs → lv_has ls 8 [(0, .ref (a 0)), (1, .int a1), (2, .int a2), (3, .int v3), (4, .int v4), (5, .int x7)] → W p l e R_L_isSeen s m ([.ref (a 0), .int a1, .int a2] : List Value).toArray below meth c H locs 0 0 Q (F0 m 90 ls [.int j9]) := by
            intro j9 H locs ls h hO hS hl
            rw [hj90] at h
            refine lv_istore (lv' := [(6, .int j9), (0, .ref (a 0)), (1, .int a1), (2, .int a2), (3, .int v3), (4, .int v4), (5, .int x7)]) hx hb dL_isSeen_90 hl (by decide) rfl (fun ls hl => ?_)
            refine lv_iload_n hx hb dL_isSeen_92 rfl (lv_at hl 4 rfl) ?_
            refine lv_iload hx hb dL_isSeen_93 (lv_at hl 0 rfl) ?_
            obtain ⟨j109, hj109, h⟩ := jn_sp h
            have J109 : ∀ (j10 : Int32) (H : Heap) (locs : List Loc) (ls : Array Slot), j109 j10 = some r → WO D cI cC cZ cR b0 a Y o H → va_S (fun q => b0 ≤ q) s.heap H locs → lv_has ls 8 [(0, .ref (a 0)), (1, .int a1), (2, .int a2), (3, .int v3), (4, .int v4), (5, .int x7), (6, .int j9)] → W p l e R_L_isSeen s m ([.ref (a 0), .int a1, .int a2] : List Value).toArray below meth c H locs 0 0 Q (F0 m 109 ls [.int j10, .int v3]) := by
              intro j10 H locs ls h hO hS hl
              rw [hj109] at h
              refine lv_iadd hx hb dL_isSeen_109 ?_
              refine lv_topi (fun x11 ex11 => ?_)
              replace h := bd_s2 h ex11
              refine lv_istore_n (lv' := [(3, .int x11), (0, .ref (a 0)), (1, .int a1), (2, .int a2), (4, .int v4), (5, .int x7), (6, .int j9)]) hx hb dL_isSeen_110 rfl hl (by decide) rfl (fun ls hl => ?_)
              obtain ⟨x12, ex12, h⟩ := bd_sp h
              refine lv_iinc (v := x12) (lv' := [(4, .int x12), (3, .int x11), (0, .ref (a 0)), (1, .int a1), (2, .int a2), (5, .int x7), (6, .int j9)]) hx hb dL_isSeen_111 hl (k := 4) rfl (by rw [ex12]; rfl) (by decide) rfl (fun ls hl => ?_)
              refine lv_goto (tgt := 5) hx hb dL_isSeen_114 (by decide) ?_
              exact ih _ _ _ _ _ h hO hS (lv_sub hl [2, 3, 4, 1, 0] rfl)
            refine lv_if_eq (tgt := 108) hx hb dL_isSeen_95 (by decide) (fun c14 => ?_) (fun c14 => ?_)
            · replace h := br_p c14 h
              refine lv_iconst (v := 0) hx hb dL_isSeen_108 (by decide) ?_
              exact J109 _ _ _ _ h hO hS (lv_sub hl [1, 2, 3, 4, 5, 6, 0] rfl)
            · replace h := br_n c14 h
              refine lv_aload_n hx hb dL_isSeen_98 rfl (lv_at hl 1 rfl) ?_
              refine lv_iload hx hb dL_isSeen_99 (lv_at hl 5 rfl) ?_
              refine lv_iconst (v := 4) hx hb dL_isSeen_101 (by decide) ?_
              obtain ⟨r13, hcr13, h⟩ := bn_sp h
              refine va_calli (va_runV (As := [.int v4, .int 4]) (rest := [.int v3]) ⟨hx, hb, hml, hown, hts⟩ (M_of l D cI cC cZ cR b0 a Y o v4 4 r13 hcr13) (cwV 2 hts gL_isSeen_X7_of rfl rfl rfl (by decide +kernel) ⟨Nat.le_of_ble_eq_true rfl, Nat.le_of_ble_eq_true rfl⟩) (cPcO_pv hO hK hb0 hS hstt) rfl rfl hl.1 rfl (lv_room (Nat.le_of_ble_eq_true rfl)) dL_isSeen_102 ⟨Nat.le_of_ble_eq_true rfl, Nat.le_of_ble_eq_true rfl⟩) hS (fun q _ h => h) (fun q h => h) (fun xq u t H1 locs ht hvm hw hB hz1 hk1 hS => ?_)
              rw [hw]
              have hO : WO D cI cC cZ cR b0 a Y o H1 := by rw [← ht]; exact hB
              generalize H1 = H at hO hS ⊢
              refine lv_goto (tgt := 109) hx hb dL_isSeen_105 (by decide) ?_
              exact J109 _ _ _ _ h hO hS (lv_sub hl [1, 2, 3, 4, 5, 6, 0] rfl)
          refine lv_icmp_lt (tgt := 89) hx hb dL_isSeen_43 (by decide) (fun c21 => ?_) (fun c21 => ?_)
          · replace h := br_p c21 h
            refine lv_iconst (v := 0) hx hb dL_isSeen_89 (by decide) ?_
            exact J90 _ _ _ _ h hO hS (lv_sub hl [1, 2, 3, 4, 5, 0] rfl)
          · replace h := br_n c21 h
            refine lv_iload_n hx hb dL_isSeen_46 rfl (lv_at hl 2 rfl) ?_
            refine lv_aload_n hx hb dL_isSeen_47 rfl (lv_at hl 1 rfl) ?_
            refine lv_iload hx hb dL_isSeen_48 (lv_at hl 5 rfl) ?_
            refine lv_iconst (v := 0) hx hb dL_isSeen_50 (by decide) ?_
            obtain ⟨r15, hcr15, h⟩ := bn_sp h
            refine va_calli (va_runV (As := [.int v4, .int 0]) (rest := [.int a1]) ⟨hx, hb, hml, hown, hts⟩ (M_of l D cI cC cZ cR b0 a Y o v4 0 r15 hcr15) (cwV 2 hts gL_isSeen_X7_of rfl rfl rfl (by decide +kernel) ⟨Nat.le_of_ble_eq_true rfl, Nat.le_of_ble_eq_true rfl⟩) (cPcO_pv hO hK hb0 hS hstt) rfl rfl hl.1 rfl (lv_room (Nat.le_of_ble_eq_true rfl)) dL_isSeen_51 ⟨Nat.le_of_ble_eq_true rfl, Nat.le_of_ble_eq_true rfl⟩) hS (fun q _ h => h) (fun q h => h) (fun xq u t H1 locs ht hvm hw hB hz1 hk1 hS => ?_)
            rw [hw]
            have hO : WO D cI cC cZ cR b0 a Y o H1 := by rw [← ht]; exact hB
            generalize H1 = H at hO hS ⊢
            refine lv_aload_n hx hb dL_isSeen_54 rfl (lv_at hl 1 rfl) ?_
            refine lv_iload hx hb dL_isSeen_55 (lv_at hl 5 rfl) ?_
            refine lv_iconst (v := 2) hx hb dL_isSeen_57 (by decide) ?_
            obtain ⟨r16, hcr16, h⟩ := bn_sp h
            refine va_calli (va_runV (As := [.int v4, .int 2]) (rest := [.int r15, .int a1]) ⟨hx, hb, hml, hown, hts⟩ (M_of l D cI cC cZ cR b0 a Y o v4 2 r16 hcr16) (cwV 2 hts gL_isSeen_X7_of rfl rfl rfl (by decide +kernel) ⟨Nat.le_of_ble_eq_true rfl, Nat.le_of_ble_eq_true rfl⟩) (cPcO_pv hO hK hb0 hS hstt) rfl rfl hl.1 rfl (lv_room (Nat.le_of_ble_eq_true rfl)) dL_isSeen_58 ⟨Nat.le_of_ble_eq_true rfl, Nat.le_of_ble_eq_true rfl⟩) hS (fun q _ h => h) (fun q h => h) (fun xq u t H1 locs ht hvm hw hB hz1 hk1 hS => ?_)
            rw [hw]
            have hO : WO D cI cC cZ cR b0 a Y o H1 := by rw [← ht]; exact hB
            generalize H1 = H at hO hS ⊢
            refine lv_iadd hx hb dL_isSeen_61 ?_
            refine lv_icmp_ge (tgt := 89) hx hb dL_isSeen_62 (by decide) (fun c20 => ?_) (fun c20 => ?_)
            · replace h := br_p c20 h
              refine lv_iconst (v := 0) hx hb dL_isSeen_89 (by decide) ?_
              exact J90 _ _ _ _ h hO hS (lv_sub hl [1, 2, 3, 4, 5, 0] rfl)
            · replace h := br_n c20 h
              refine lv_iload_n hx hb dL_isSeen_65 rfl (lv_at hl 3 rfl) ?_
              refine lv_iload hx hb dL_isSeen_66 (lv_at hl 0 rfl) ?_
              refine lv_icmp_lt (tgt := 89) hx hb dL_isSeen_68 (by decide) (fun c19 => ?_) (fun c19 => ?_)
              · replace h := br_p c19 h
                refine lv_iconst (v := 0) hx hb dL_isSeen_89 (by decide) ?_
                exact J90 _ _ _ _ h hO hS (lv_sub hl [1, 2, 3, 4, 5, 0] rfl)
              · replace h := br_n c19 h
                refine lv_iload_n hx hb dL_isSeen_71 rfl (lv_at hl 3 rfl) ?_
                refine lv_iload hx hb dL_isSeen_72 (lv_at hl 0 rfl) ?_
                refine lv_aload_n hx hb dL_isSeen_74 rfl (lv_at hl 1 rfl) ?_
                refine lv_iload hx hb dL_isSeen_75 (lv_at hl 5 rfl) ?_
                refine lv_iconst (v := 3) hx hb dL_isSeen_77 (by decide) ?_
                obtain ⟨r17, hcr17, h⟩ := bn_sp h
                refine va_calli (va_runV (As := [.int v4, .int 3]) (rest := [.int x7, .int a2]) ⟨hx, hb, hml, hown, hts⟩ (M_of l D cI cC cZ cR b0 a Y o v4 3 r17 hcr17) (cwV 2 hts gL_isSeen_X7_of rfl rfl rfl (by decide +kernel) ⟨Nat.le_of_ble_eq_true rfl, Nat.le_of_ble_eq_true rfl⟩) (cPcO_pv hO hK hb0 hS hstt) rfl rfl hl.1 rfl (lv_room (Nat.le_of_ble_eq_true rfl)) dL_isSeen_78 ⟨Nat.le_of_ble_eq_true rfl, Nat.le_of_ble_eq_true rfl⟩) hS (fun q _ h => h) (fun q h => h) (fun xq u t H1 locs ht hvm hw hB hz1 hk1 hS => ?_)
                rw [hw]
                have hO : WO D cI cC cZ cR b0 a Y o H1 := by rw [← ht]; exact hB
                generalize H1 = H at hO hS ⊢
                refine lv_iadd hx hb dL_isSeen_81 ?_
                refine lv_icmp_ge (tgt := 89) hx hb dL_isSeen_82 (by decide) (fun c18 => ?_) (fun c18 => ?_)
                · replace h := br_p c18 h
                  refine lv_iconst (v := 0) hx hb dL_isSeen_89 (by decide) ?_
                  exact J90 _ _ _ _ h hO hS (lv_sub hl [1, 2, 3, 4, 5, 0] rfl)
                · replace h := br_n c18 h
                  refine lv_iconst (v := 1) hx hb dL_isSeen_85 (by decide) ?_
                  refine lv_goto (tgt := 90) hx hb dL_isSeen_86 (by decide) ?_
                  exact J90 _ _ _ _ h hO hS (lv_sub hl [1, 2, 3, 4, 5, 0] rfl)
  refine L5 _ (fun w24 w25 H locs ls h hO hS hl => ?_) 4000 0 0 _ _ _ h hO hS (lv_sub hl [2, 3, 4, 1, 0] rfl)
  refine lv_iload_n hx hb dL_isSeen_117 rfl (lv_at hl 3 rfl) ?_
  refine lv_bipush (v := 30) hx hb dL_isSeen_118 (by decide) ?_
  obtain ⟨j129, hj129, h⟩ := jn_sp h
  have J129 : ∀ (j26 : Int32) (H : Heap) (locs : List Loc) (ls : Array Slot), j129 j26 = some r → WO D cI cC cZ cR b0 a Y o H → va_S (fun q => b0 ≤ q) s.heap H locs → lv_has ls 8 [(0, .ref (a 0)), (1, .int a1), (2, .int a2), (3, .int w24), (4, .int w25)] → W p l e R_L_isSeen s m ([.ref (a 0), .int a1, .int a2] : List Value).toArray below meth c H locs 0 0 Q (F0 m 129 ls [.int j26]) := by
    intro j26 H locs ls h hO hS hl
    rw [hj129] at h
    refine lv_istore_n (lv' := [(3, .int j26), (0, .ref (a 0)), (1, .int a1), (2, .int a2), (4, .int w25)]) hx hb dL_isSeen_129 rfl hl (by decide) rfl (fun ls hl => ?_)
    refine lv_aload_n hx hb dL_isSeen_130 rfl (lv_at hl 1 rfl) ?_
    refine lv_iconst (v := 0) hx hb dL_isSeen_131 (by decide) ?_
    obtain ⟨r27, hcr27, h⟩ := bn_sp h
    refine va_calli (va_runV (As := [.int 0]) (rest := []) ⟨hx, hb, hml, hown, hts⟩ (M_count l D cI cC cZ cR b0 a Y o 0 r27 hcr27) (cwV 1 hts gL_isSeen_X7_count rfl rfl rfl (by decide +kernel) ⟨Nat.le_of_ble_eq_true rfl, Nat.le_of_ble_eq_true rfl⟩) (cPcO_pv hO hK hb0 hS hstt) rfl rfl hl.1 rfl (lv_room (Nat.le_of_ble_eq_true rfl)) dL_isSeen_132 ⟨Nat.le_of_ble_eq_true rfl, Nat.le_of_ble_eq_true rfl⟩) hS (fun q _ h => h) (fun q h => h) (fun xq u t H1 locs ht hvm hw hB hz1 hk1 hS => ?_)
    rw [hw]
    have hO : WO D cI cC cZ cR b0 a Y o H1 := by rw [← ht]; exact hB
    generalize H1 = H at hO hS ⊢
    refine lv_istore (lv' := [(4, .int r27), (3, .int j26), (0, .ref (a 0)), (1, .int a1), (2, .int a2)]) hx hb dL_isSeen_135 hl (by decide) rfl (fun ls hl => ?_)
    refine lv_aload_n hx hb dL_isSeen_137 rfl (lv_at hl 2 rfl) ?_
    refine lv_bipush (v := 10) hx hb dL_isSeen_138 (by decide) ?_
    obtain ⟨r28, hcr28, h⟩ := bn_sp h
    refine va_calli (va_runV (As := [.int 10]) (rest := []) ⟨hx, hb, hml, hown, hts⟩ (M_count l D cI cC cZ cR b0 a Y o 10 r28 hcr28) (cwV 1 hts gL_isSeen_X7_count rfl rfl rfl (by decide +kernel) ⟨Nat.le_of_ble_eq_true rfl, Nat.le_of_ble_eq_true rfl⟩) (cPcO_pv hO hK hb0 hS hstt) rfl rfl hl.1 rfl (lv_room (Nat.le_of_ble_eq_true rfl)) dL_isSeen_140 ⟨Nat.le_of_ble_eq_true rfl, Nat.le_of_ble_eq_true rfl⟩) hS (fun q _ h => h) (fun q h => h) (fun xq u t H1 locs ht hvm hw hB hz1 hk1 hS => ?_)
    rw [hw]
    have hO : WO D cI cC cZ cR b0 a Y o H1 := by rw [← ht]; exact hB
    generalize H1 = H at hO hS ⊢
    refine lv_istore (lv' := [(5, .int r28), (4, .int r27), (3, .int j26), (0, .ref (a 0)), (1, .int a1), (2, .int a2)]) hx hb dL_isSeen_143 hl (by decide) rfl (fun ls hl => ?_)
    refine lv_aload_n hx hb dL_isSeen_145 rfl (lv_at hl 3 rfl) ?_
    refine lv_bipush (v := 6) hx hb dL_isSeen_146 (by decide) ?_
    obtain ⟨r29, hcr29, h⟩ := bn_sp h
    refine va_calli (va_runV (As := [.int 6]) (rest := []) ⟨hx, hb, hml, hown, hts⟩ (M_count l D cI cC cZ cR b0 a Y o 6 r29 hcr29) (cwV 1 hts gL_isSeen_X7_count rfl rfl rfl (by decide +kernel) ⟨Nat.le_of_ble_eq_true rfl, Nat.le_of_ble_eq_true rfl⟩) (cPcO_pv hO hK hb0 hS hstt) rfl rfl hl.1 rfl (lv_room (Nat.le_of_ble_eq_true rfl)) dL_isSeen_148 ⟨Nat.le_of_ble_eq_true rfl, Nat.le_of_ble_eq_true rfl⟩) hS (fun q _ h => h) (fun q h => h) (fun xq u t H1 locs ht hvm hw hB hz1 hk1 hS => ?_)
    rw [hw]
    have hO : WO D cI cC cZ cR b0 a Y o H1 := by rw [← ht]; exact hB
    generalize H1 = H at hO hS ⊢
    obtain ⟨j188, hj188, h⟩ := jn_sp h
    have J188 : ∀ (j30 : Int32) (H : Heap) (locs : List Loc) (ls : Array Slot), j188 j30 = some r → WO D cI cC cZ cR b0 a Y o H → va_S (fun q => b0 ≤ q) s.heap H locs → lv_has ls 8 [(0, .ref (a 0)), (1, .int a1), (2, .int a2), (3, .int j26), (4, .int r27), (5, .int r28)] → W p l e R_L_isSeen s m ([.ref (a 0), .int a1, .int a2] : List Value).toArray below meth c H locs 0 0 Q (F0 m 188 ls [.int j30]) := by
      intro j30 H locs ls h hO hS hl
      rw [hj188] at h
      refine lv_istore (lv' := [(6, .int j30), (0, .ref (a 0)), (1, .int a1), (2, .int a2), (3, .int j26), (4, .int r27), (5, .int r28)]) hx hb dL_isSeen_188 hl (by decide) rfl (fun ls hl => ?_)
      refine lv_iload hx hb dL_isSeen_190 (lv_at hl 0 rfl) ?_
      obtain ⟨j221, hj221, h⟩ := jn_sp h
      have J221 : ∀ (j31 : Int32) (H : Heap) (locs : List Loc) (ls : Array Slot), j221 j31 = some r → WO D cI cC cZ cR b0 a Y o H → va_S (fun q => b0 ≤ q) s.heap H locs → lv_has ls 8 [(0, .ref (a 0)), (1, .int a1), (2, .int a2), (3, .int j26), (4, .int r27), (5, .int r28), (6, .int j30)] → W p l e R_L_isSeen s m ([.ref (a 0), .int a1, .int a2] : List Value).toArray below meth c H locs 0 0 Q (F0 m 221 ls [.int j31]) := by
        intro j31 H locs ls h hO hS hl
        rw [hj221] at h
        refine lv_istore (lv' := [(7, .int j31), (0, .ref (a 0)), (1, .int a1), (2, .int a2), (3, .int j26), (4, .int r27), (5, .int r28), (6, .int j30)]) hx hb dL_isSeen_221 hl (by decide) rfl (fun ls hl => ?_)
        refine lv_aload_n hx hb dL_isSeen_223 rfl (lv_at hl 1 rfl) ?_
        refine lv_iload_n hx hb dL_isSeen_224 rfl (lv_at hl 2 rfl) ?_
        refine lv_iload_n hx hb dL_isSeen_225 rfl (lv_at hl 3 rfl) ?_
        refine lv_iconst (v := 0) hx hb dL_isSeen_226 (by decide) ?_
        obtain ⟨r32, hcr32, h⟩ := bn_sp h
        refine va_calli (va_runV (As := [.int a1, .int a2, .int 0]) (rest := []) ⟨hx, hb, hml, hown, hts⟩ (M_seen l D cI cC cZ cR b0 a Y o a1 a2 0 r32 hcr32) (cwV 3 hts gL_isSeen_X7_seen rfl rfl rfl (by decide +kernel) ⟨Nat.le_of_ble_eq_true rfl, Nat.le_of_ble_eq_true rfl⟩) (cPcO_pv hO hK hb0 hS hstt) rfl rfl hl.1 rfl (lv_room (Nat.le_of_ble_eq_true rfl)) dL_isSeen_227 ⟨Nat.le_of_ble_eq_true rfl, Nat.le_of_ble_eq_true rfl⟩) hS (fun q _ h => h) (fun q h => h) (fun xq u t H1 locs ht hvm hw hB hz1 hk1 hS => ?_)
        rw [hw]
        have hO : WO D cI cC cZ cR b0 a Y r32.2 H1 := by rw [← ht]; exact hB
        generalize H1 = H at hO hS ⊢
        refine lv_iload_n hx hb dL_isSeen_230 rfl (lv_at hl 4 rfl) ?_
        refine lv_iload hx hb dL_isSeen_231 (lv_at hl 0 rfl) ?_
        refine lv_imul hx hb dL_isSeen_233 ?_
        refine lv_icmp_ne (tgt := 241) hx hb dL_isSeen_234 (by decide) (fun c33 => ?_) (fun c33 => ?_)
        · replace h := br_p c33 h
          exact no_sm h
        · replace h := br_n (not_not_intro c33) h
          refine lv_iconst (v := 1) hx hb dL_isSeen_237 (by decide) ?_
          refine lv_goto (tgt := 242) hx hb dL_isSeen_238 (by decide) ?_
          have e9 := Option.some.inj h
          subst e9
          rw [hQ]
          exact W.zret (v := 1) hx hb hr rfl (fun t ht hW => ⟨⟨1, (), rfl, rfl, by have h9 := hO; rw [← ht] at h9; exact h9⟩, hS.F ht⟩) hS.2.2 dL_isSeen_242
      refine lv_if_eq (tgt := 199) hx hb dL_isSeen_192 (by decide) (fun c36 => ?_) (fun c36 => ?_)
      · replace h := br_p c36 h
        refine lv_iload hx hb dL_isSeen_199 (lv_at hl 6 rfl) ?_
        refine lv_if_le (tgt := 220) hx hb dL_isSeen_201 (by decide) (fun c35 => ?_) (fun c35 => ?_)
        · replace h := br_p c35 h
          refine lv_iconst (v := 1) hx hb dL_isSeen_220 (by decide) ?_
          exact J221 _ _ _ _ h hO hS (lv_sub hl [1, 2, 3, 4, 5, 6, 0] rfl)
        · replace h := br_n c35 h
          refine lv_iload hx hb dL_isSeen_204 (lv_at hl 5 rfl) ?_
          refine lv_iload hx hb dL_isSeen_206 (lv_at hl 6 rfl) ?_
          obtain ⟨hz, h⟩ := gz_sp h
          refine lv_irem hx hb dL_isSeen_208 hz ?_
          refine lv_iload hx hb dL_isSeen_209 (lv_at hl 6 rfl) ?_
          refine lv_iconst (v := 2) hx hb dL_isSeen_211 (by decide) ?_
          refine lv_idiv hx hb dL_isSeen_212 (by decide) ?_
          refine lv_icmp_lt (tgt := 220) hx hb dL_isSeen_213 (by decide) (fun c34 => ?_) (fun c34 => ?_)
          · replace h := br_p c34 h
            refine lv_iconst (v := 1) hx hb dL_isSeen_220 (by decide) ?_
            exact J221 _ _ _ _ h hO hS (lv_sub hl [1, 2, 3, 4, 5, 6, 0] rfl)
          · replace h := br_n c34 h
            refine lv_iconst (v := 0) hx hb dL_isSeen_216 (by decide) ?_
            refine lv_goto (tgt := 221) hx hb dL_isSeen_217 (by decide) ?_
            exact J221 _ _ _ _ h hO hS (lv_sub hl [1, 2, 3, 4, 5, 6, 0] rfl)
      · replace h := br_n c36 h
        refine lv_iconst (v := 3) hx hb dL_isSeen_195 (by decide) ?_
        refine lv_goto (tgt := 221) hx hb dL_isSeen_196 (by decide) ?_
        exact J221 _ _ _ _ h hO hS (lv_sub hl [1, 2, 3, 4, 5, 6, 0] rfl)
    refine lv_if_lt (tgt := 187) hx hb dL_isSeen_151 (by decide) (fun c42 => ?_) (fun c42 => ?_)
    · replace h := br_p c42 h
      refine lv_iconst (v := 0) hx hb dL_isSeen_187 (by decide) ?_
      exact J188 _ _ _ _ h hO hS (lv_sub hl [3, 4, 5, 2, 1, 0] rfl)
    · replace h := br_n c42 h
      refine lv_iload hx hb dL_isSeen_154 (lv_at hl 1 rfl) ?_
      refine lv_aload_n hx hb dL_isSeen_156 rfl (lv_at hl 3 rfl) ?_
      refine lv_bipush (v := 6) hx hb dL_isSeen_157 (by decide) ?_
      obtain ⟨r37, hcr37, h⟩ := bn_sp h
      refine va_calli (va_runV (As := [.int 6]) (rest := [.int r27]) ⟨hx, hb, hml, hown, hts⟩ (M_count l D cI cC cZ cR b0 a Y o 6 r37 hcr37) (cwV 1 hts gL_isSeen_X7_count rfl rfl rfl (by decide +kernel) ⟨Nat.le_of_ble_eq_true rfl, Nat.le_of_ble_eq_true rfl⟩) (cPcO_pv hO hK hb0 hS hstt) rfl rfl hl.1 rfl (lv_room (Nat.le_of_ble_eq_true rfl)) dL_isSeen_159 ⟨Nat.le_of_ble_eq_true rfl, Nat.le_of_ble_eq_true rfl⟩) hS (fun q _ h => h) (fun q h => h) (fun xq u t H1 locs ht hvm hw hB hz1 hk1 hS => ?_)
      rw [hw]
      have hO : WO D cI cC cZ cR b0 a Y o H1 := by rw [← ht]; exact hB
      generalize H1 = H at hO hS ⊢
      refine lv_icmp_lt (tgt := 187) hx hb dL_isSeen_162 (by decide) (fun c41 => ?_) (fun c41 => ?_)
      · replace h := br_p c41 h
        refine lv_iconst (v := 0) hx hb dL_isSeen_187 (by decide) ?_
        exact J188 _ _ _ _ h hO hS (lv_sub hl [3, 4, 5, 2, 1, 0] rfl)
      · replace h := br_n c41 h
        refine lv_iload hx hb dL_isSeen_165 (lv_at hl 1 rfl) ?_
        refine lv_aload_n hx hb dL_isSeen_167 rfl (lv_at hl 3 rfl) ?_
        refine lv_bipush (v := 6) hx hb dL_isSeen_168 (by decide) ?_
        obtain ⟨r38, hcr38, h⟩ := bn_sp h
        refine va_calli (va_runV (As := [.int 6]) (rest := [.int r27]) ⟨hx, hb, hml, hown, hts⟩ (M_count l D cI cC cZ cR b0 a Y o 6 r38 hcr38) (cwV 1 hts gL_isSeen_X7_count rfl rfl rfl (by decide +kernel) ⟨Nat.le_of_ble_eq_true rfl, Nat.le_of_ble_eq_true rfl⟩) (cPcO_pv hO hK hb0 hS hstt) rfl rfl hl.1 rfl (lv_room (Nat.le_of_ble_eq_true rfl)) dL_isSeen_170 ⟨Nat.le_of_ble_eq_true rfl, Nat.le_of_ble_eq_true rfl⟩) hS (fun q _ h => h) (fun q h => h) (fun xq u t H1 locs ht hvm hw hB hz1 hk1 hS => ?_)
        rw [hw]
        have hO : WO D cI cC cZ cR b0 a Y o H1 := by rw [← ht]; exact hB
        generalize H1 = H at hO hS ⊢
        refine lv_aload_n hx hb dL_isSeen_173 rfl (lv_at hl 3 rfl) ?_
        refine lv_bipush (v := 7) hx hb dL_isSeen_174 (by decide) ?_
        obtain ⟨r39, hcr39, h⟩ := bn_sp h
        refine va_calli (va_runV (As := [.int 7]) (rest := [.int r38, .int r27]) ⟨hx, hb, hml, hown, hts⟩ (M_count l D cI cC cZ cR b0 a Y o 7 r39 hcr39) (cwV 1 hts gL_isSeen_X7_count rfl rfl rfl (by decide +kernel) ⟨Nat.le_of_ble_eq_true rfl, Nat.le_of_ble_eq_true rfl⟩) (cPcO_pv hO hK hb0 hS hstt) rfl rfl hl.1 rfl (lv_room (Nat.le_of_ble_eq_true rfl)) dL_isSeen_176 ⟨Nat.le_of_ble_eq_true rfl, Nat.le_of_ble_eq_true rfl⟩) hS (fun q _ h => h) (fun q h => h) (fun xq u t H1 locs ht hvm hw hB hz1 hk1 hS => ?_)
        rw [hw]
        have hO : WO D cI cC cZ cR b0 a Y o H1 := by rw [← ht]; exact hB
        generalize H1 = H at hO hS ⊢
        refine lv_iadd hx hb dL_isSeen_179 ?_
        refine lv_icmp_ge (tgt := 187) hx hb dL_isSeen_180 (by decide) (fun c40 => ?_) (fun c40 => ?_)
        · replace h := br_p c40 h
          refine lv_iconst (v := 0) hx hb dL_isSeen_187 (by decide) ?_
          exact J188 _ _ _ _ h hO hS (lv_sub hl [3, 4, 5, 2, 1, 0] rfl)
        · replace h := br_n c40 h
          refine lv_iconst (v := 1) hx hb dL_isSeen_183 (by decide) ?_
          refine lv_goto (tgt := 188) hx hb dL_isSeen_184 (by decide) ?_
          exact J188 _ _ _ _ h hO hS (lv_sub hl [3, 4, 5, 2, 1, 0] rfl)
  refine lv_icmp_le (tgt := 128) hx hb dL_isSeen_120 (by decide) (fun c43 => ?_) (fun c43 => ?_)
  · replace h := br_p c43 h
    refine lv_iload_n hx hb dL_isSeen_128 rfl (lv_at hl 3 rfl) ?_
    exact J129 _ _ _ _ h hO hS (lv_sub hl [0, 1, 2, 3, 4] rfl)
  · replace h := br_n c43 h
    refine lv_bipush (v := 30) hx hb dL_isSeen_123 (by decide) ?_
    refine lv_goto (tgt := 129) hx hb dL_isSeen_125 (by decide) ?_
    exact J129 _ _ _ _ h hO hS (lv_sub hl [0, 1, 2, 3, 4] rfl)
