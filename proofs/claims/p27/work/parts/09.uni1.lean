theorem jT3 {A0 : Nat → Prop} {D : va_G} {cl : List vw_C} {L T S T1 wc R w1 : va_W} {H H1 : Heap} (hP : va_P D cl (L ++ (T ++ S)) H) (hD : va_D A0 (L ++ (T ++ S))) (isC isR : List Nat) (hC : isC.map (fun i => L[i]?) = wc.map some) (hR : isR.map (fun i => L[i]?) = R.map some) (hn : va_nd isR = true) (hdis : ∀ i ∈ isR, i ∉ isC)
    (hk : ∀ q : Nat, q < H.size → ¬ va_A (wc ++ T) H.size q → H1[q]? = H[q]?) (hF : ∀ q, va_A (wc ++ T) H.size q → A0 q) (hP1 : va_P D cl (w1 ++ T1) H1) (hD1 : va_D (va_A (wc ++ T) H.size) (w1 ++ T1)) : va_P D cl ((R ++ w1) ++ (T1 ++ S)) H1 ∧ va_D A0 ((R ++ w1) ++ (T1 ++ S)) := by
  rw [← List.append_assoc] at hP hD
  obtain ⟨p1, d1⟩ := jT2 (va_P_left hP) (va_D_left hD) isC isR hC hR hn hdis hk hF hP1 hD1
  have ap : ∀ (k : Nat) (q : Nat × va_E), S[k]? = some q → q.1 < H.size ∧ ¬ va_A (wc ++ T) H.size q.1 := by
    intro k q hq
    have hl := ((va_P_right hP) k q hq).lt
    refine ⟨hl, fun h => ?_⟩
    rcases h with ⟨k2, e, h⟩ | h
    · rcases List.mem_append.mp (List.mem_of_getElem? h) with h3 | h3
      · obtain ⟨k3, hk3⟩ := List.getElem?_of_mem h3
        obtain ⟨j, -, h5⟩ := at_of hC hk3
        exact va_D_cross hD (ap_left h5) hq rfl
      · obtain ⟨k3, hk3⟩ := List.getElem?_of_mem h3
        exact va_D_cross hD (ap_right hk3) hq rfl
    · omega
  rw [← List.append_assoc]
  refine ⟨p1.app (fun k q hq => ((va_P_right hP) k q hq).kept (hk q.1 (ap k q hq).1 (ap k q hq).2)), va_D.app d1 (va_D_right hD) ?_⟩
  intro i j p q hi hj e
  rcases List.mem_append.mp (List.mem_of_getElem? hi) with h1 | h1
  · rcases List.mem_append.mp h1 with h2 | h2
    · obtain ⟨k, hk1⟩ := List.getElem?_of_mem h2
      obtain ⟨i2, -, h4⟩ := at_of hR hk1
      exact va_D_cross hD (ap_left h4) hj e
    · obtain ⟨k, hk1⟩ := List.getElem?_of_mem h2
      exact (ap j q hj).2 (by rw [← e]; exact hD1.2 k p (ap_left hk1))
  · obtain ⟨k, hk1⟩ := List.getElem?_of_mem h1
    exact (ap j q hj).2 (by rw [← e]; exact hD1.2 _ p (ap_right hk1))
theorem va_A_sub {w1 w2 : va_W} {sz : Nat} (h : ∀ q ∈ w1, q ∈ w2) : ∀ q, va_A w1 sz q → va_A w2 sz q := by
  intro q z
  rcases z with ⟨k, e, z⟩ | z
  · obtain ⟨i, hi⟩ := List.getElem?_of_mem (h _ (List.mem_of_getElem? z))
    exact Or.inl ⟨i, e, hi⟩
  · exact Or.inr z
theorem pick_sub {L wc : va_W} (is : List Nat) (hC : is.map (fun i => L[i]?) = wc.map some) : ∀ q ∈ wc, q ∈ L := fun q hq => by
  obtain ⟨k, hk⟩ := List.getElem?_of_mem hq
  obtain ⟨i, -, h⟩ := at_of hC hk
  exact List.mem_of_getElem? h
def latI (nx : Int32) : Nat := (if nx = 0 then (5 : Int32) else nx - 1).toNatClampNeg
theorem latI_of {nx i : Int32} (h1 : nx = 0 → i = 5) (h2 : ¬ nx = 0 → i = nx - 1) : i.toNatClampNeg = latI nx := by
  unfold latI
  by_cases h : nx = 0
  · rw [if_pos h, h1 h]
  · rw [if_neg h, h2 h]
abbrev OUT_X7_undo : Type := OUT_X7_undo_a
def f_X7_undo (se : Nat → Int32) (mn : Int32) (ln : Nat → Int32) (hi : Nat → Int32) (wi : Nat → Int32) (br : Nat → Int32) (sp : Nat → Int32) (si : Nat → Int32) (le : Nat → Int32) (un : Nat → Int32) (ul : Nat → Int32) (px : Nat → Int32) (tm : Int32) (ps : Int32) (ft : Int32) (fk : Int32) (lea : Nat → Int32) (upr : Nat → Int32) (ris : Nat → Int32) (pl : Int32) (tx : Nat → Int32) (at_ : Int32) (kd : Int32) (va : Nat → Int32) (nx : Int32) (hm : Int32) (pr : Nat → Bool) (sv : Nat → SCV) : Option OUT_X7_undo :=
  if pr (latI nx) = true then (if hm = 0 then bn (f_X7_undo_e nx hm) (fun q => some (q, tm, ps, ft, fk, se, mn, ln, hi, wi, br, sp, si, le, un, ul, px, nx, hm)) else f_X7_undo_a se ln hi wi br sp si le un ul px nx hm ((sv (latI nx)).1) ((sv (latI nx)).2.1) ((sv (latI nx)).2.2.1) ((sv (latI nx)).2.2.2.1) ((sv (latI nx)).2.2.2.2.1) ((sv (latI nx)).2.2.2.2.2.1) ((sv (latI nx)).2.2.2.2.2.2.1) ((sv (latI nx)).2.2.2.2.2.2.2.1) ((sv (latI nx)).2.2.2.2.2.2.2.2.1) ((sv (latI nx)).2.2.2.2.2.2.2.2.2.1) ((sv (latI nx)).2.2.2.2.2.2.2.2.2.2.1) ((sv (latI nx)).2.2.2.2.2.2.2.2.2.2.2.1) ((sv (latI nx)).2.2.2.2.2.2.2.2.2.2.2.2.1) ((sv (latI nx)).2.2.2.2.2.2.2.2.2.2.2.2.2.1) ((sv (latI nx)).2.2.2.2.2.2.2.2.2.2.2.2.2.2.1) ((sv (latI nx)).2.2.2.2.2.2.2.2.2.2.2.2.2.2.2)) else bn (f_X7_undo_n nx hm) (fun q => some (q, tm, ps, ft, fk, se, mn, ln, hi, wi, br, sp, si, le, un, ul, px, nx, hm))
abbrev R_X7_undo : Room := { frames := 4, cells := 0, slots := 0, locals := 120 }
set_option maxHeartbeats 4000000 in
set_option maxRecDepth 100000 in
theorem m_X7_undo (l : Launch) (D : va_G) (cI cC cZ cR : ClassId) (mm sc sea th th1 th2 th3 th4 th5 th6 th7 th8 th9 pi pia cm cm1 cm2 cm3 pd pda rd rda hh hst sla : Nat) (sz : Nat) (se : Nat → Int32) (mn : Int32) (ln : Nat → Int32) (hi : Nat → Int32) (wi : Nat → Int32) (br : Nat → Int32) (sp : Nat → Int32) (si : Nat → Int32) (le : Nat → Int32) (un : Nat → Int32) (ul : Nat → Int32) (px : Nat → Int32) (tm : Int32) (ps : Int32) (ft : Int32) (fk : Int32) (lea : Nat → Int32) (upr : Nat → Int32) (ris : Nat → Int32) (pl : Int32) (tx : Nat → Int32) (at_ : Int32) (kd : Int32) (va : Nat → Int32) (nx : Int32) (hm : Int32) (pr : Nat → Bool) (ad : Nat → Nat → Nat) (sv : Nat → SCV) (r : OUT_X7_undo) (hf : f_X7_undo se mn ln hi wi br sp si le un ul px tm ps ft fk lea upr ris pl tx at_ kd va nx hm pr sv = some r) : Met l yX7_undo wsX7_undo R_X7_undo (cPc D cI cC cZ cR [.ref mm] sz ((ws_mainT cI cC cZ cR mm sc sea th th1 th2 th3 th4 th5 th6 th7 th8 th9 pi pia cm cm1 cm2 cm3 pd pda rd rda hh hst sla se mn ln hi wi br sp si le un ul px tm ps ft fk lea upr ris pl tx at_ kd va nx hm pr ad) ++ hwB cI cC cZ cR pr ad sv)) (va_Qi (fun (x : Int32) (_ : Nat → Nat → Nat) => x = r.1) (fun u t => va_P D vwCl ((ws_mainT cI cC cZ cR mm sc sea th th1 th2 th3 th4 th5 th6 th7 th8 th9 pi pia cm cm1 cm2 cm3 pd pda rd rda hh hst sla (r.2.2.2.2.2.1) (r.2.2.2.2.2.2.1) (r.2.2.2.2.2.2.2.1) (r.2.2.2.2.2.2.2.2.1) (r.2.2.2.2.2.2.2.2.2.1) (r.2.2.2.2.2.2.2.2.2.2.1) (r.2.2.2.2.2.2.2.2.2.2.2.1) (r.2.2.2.2.2.2.2.2.2.2.2.2.1) (r.2.2.2.2.2.2.2.2.2.2.2.2.2.1) (r.2.2.2.2.2.2.2.2.2.2.2.2.2.2.1) (r.2.2.2.2.2.2.2.2.2.2.2.2.2.2.2.1) (r.2.2.2.2.2.2.2.2.2.2.2.2.2.2.2.2.1) (r.2.1) (r.2.2.1) (r.2.2.2.1) (r.2.2.2.2.1) lea upr ris pl tx at_ kd va (r.2.2.2.2.2.2.2.2.2.2.2.2.2.2.2.2.2.1) (r.2.2.2.2.2.2.2.2.2.2.2.2.2.2.2.2.2.2) pr u) ++ hwB cI cC cZ cR pr u sv) t.heap ∧ va_D (va_A ((ws_mainT cI cC cZ cR mm sc sea th th1 th2 th3 th4 th5 th6 th7 th8 th9 pi pia cm cm1 cm2 cm3 pd pda rd rda hh hst sla se mn ln hi wi br sp si le un ul px tm ps ft fk lea upr ris pl tx at_ kd va nx hm pr ad) ++ hwB cI cC cZ cR pr ad sv) sz) ((ws_mainT cI cC cZ cR mm sc sea th th1 th2 th3 th4 th5 th6 th7 th8 th9 pi pia cm cm1 cm2 cm3 pd pda rd rda hh hst sla (r.2.2.2.2.2.1) (r.2.2.2.2.2.2.1) (r.2.2.2.2.2.2.2.1) (r.2.2.2.2.2.2.2.2.1) (r.2.2.2.2.2.2.2.2.2.1) (r.2.2.2.2.2.2.2.2.2.2.1) (r.2.2.2.2.2.2.2.2.2.2.2.1) (r.2.2.2.2.2.2.2.2.2.2.2.2.1) (r.2.2.2.2.2.2.2.2.2.2.2.2.2.1) (r.2.2.2.2.2.2.2.2.2.2.2.2.2.2.1) (r.2.2.2.2.2.2.2.2.2.2.2.2.2.2.2.1) (r.2.2.2.2.2.2.2.2.2.2.2.2.2.2.2.2.1) (r.2.1) (r.2.2.1) (r.2.2.2.1) (r.2.2.2.2.1) lea upr ris pl tx at_ kd va (r.2.2.2.2.2.2.2.2.2.2.2.2.2.2.2.2.2.1) (r.2.2.2.2.2.2.2.2.2.2.2.2.2.2.2.2.2.2) pr u) ++ hwB cI cC cZ cR pr u sv)) (va_A ((ws_mainT cI cC cZ cR mm sc sea th th1 th2 th3 th4 th5 th6 th7 th8 th9 pi pia cm cm1 cm2 cm3 pd pda rd rda hh hst sla se mn ln hi wi br sp si le un ul px tm ps ft fk lea upr ris pl tx at_ kd va nx hm pr ad) ++ hwB cI cC cZ cR pr ad sv) sz)) 0 0 (va_A ((ws_mainT cI cC cZ cR mm sc sea th th1 th2 th3 th4 th5 th6 th7 th8 th9 pi pia cm cm1 cm2 cm3 pd pda rd rda hh hst sla se mn ln hi wi br sp si le un ul px tm ps ft fk lea upr ris pl tx at_ kd va nx hm pr ad) ++ hwB cI cC cZ cR pr ad sv) sz) := by
  unfold f_X7_undo at hf
  refine Met_cs (fun a s hv => ?_)
  obtain ⟨ha, hsz, hP, hK, hD0⟩ := hv
  subst hsz
  have hD := hD0.self (sz := s.heap.size)
  by_cases hpr : pr (latI nx) = true
  · rw [if_pos hpr] at hf
    by_cases hm0 : hm = 0
    · rw [if_pos hm0] at hf
      obtain ⟨q, hq, hf⟩ := bn_sp hf
      have er := Option.some.inj hf
      subst er
      refine ⟨_, _, _, m_X7_undo_e l D cI cC cZ cR mm sc sea th th1 th2 th3 th4 th5 th6 th7 th8 th9 pi pia cm cm1 cm2 cm3 pd pda rd rda hh hst sla (ad (latI nx) 0) s.heap.size se mn ln hi wi br sp si le un ul px tm ps ft fk lea upr ris pl tx at_ kd va nx hm (hfn pr ad) (fun i h1 h2 => by rw [latI_of h1 h2]; exact if_pos hpr) q hq, ⟨ha, rfl, va_P_left hP, hK, va_D_left hD0⟩, fun oc t hq => ?_, fun q z => va_A_left q z⟩
      obtain ⟨⟨x0, u0, ho, hx0, hPt, hDt⟩, hFr⟩ := hq
      obtain ⟨p1, d1⟩ := jT1 (R := []) hP hD [0, 1, 2, 3, 4, 5, 6, 7, 8, 9, 10, 11, 12, 13, 14, 15, 16, 17, 18, 19, 20, 21, 22, 23, 24] [] rfl rfl rfl (fun i hi => by cases hi) (fun q h1 h2 => hFr.2 q h1 h2) (fun q z => va_A_left q z) hPt hDt
      rw [List.nil_append] at p1 d1
      exact ⟨⟨x0, ad, ho, hx0, p1, d1⟩, hFr.1, fun q h1 h2 => hFr.2 q h1 (fun z => h2 (va_A_left q z))⟩
    · rw [if_neg hm0] at hf
      have hin6 : latI nx < 6 := Nat.lt_of_not_le (fun z => by
        have e : f_X7_undo_a se ln hi wi br sp si le un ul px nx hm ((sv (latI nx)).1) ((sv (latI nx)).2.1) ((sv (latI nx)).2.2.1) ((sv (latI nx)).2.2.2.1) ((sv (latI nx)).2.2.2.2.1) ((sv (latI nx)).2.2.2.2.2.1) ((sv (latI nx)).2.2.2.2.2.2.1) ((sv (latI nx)).2.2.2.2.2.2.2.1) ((sv (latI nx)).2.2.2.2.2.2.2.2.1) ((sv (latI nx)).2.2.2.2.2.2.2.2.2.1) ((sv (latI nx)).2.2.2.2.2.2.2.2.2.2.1) ((sv (latI nx)).2.2.2.2.2.2.2.2.2.2.2.1) ((sv (latI nx)).2.2.2.2.2.2.2.2.2.2.2.2.1) ((sv (latI nx)).2.2.2.2.2.2.2.2.2.2.2.2.2.1) ((sv (latI nx)).2.2.2.2.2.2.2.2.2.2.2.2.2.2.1) ((sv (latI nx)).2.2.2.2.2.2.2.2.2.2.2.2.2.2.2) = none := by
          unfold f_X7_undo_a f_X1_takeBack_a
          unfold latI at z
          by_cases h0 : nx = 0
          · rw [if_pos h0] at z; exact absurd z (by decide)
          · rw [if_neg h0] at z
            rw [if_pos h0, bd, gd, if_pos (Or.inr z)]; rfl
        rw [e] at hf; cases hf)
      have hpm := (hwB_take (cI := cI) (cC := cC) (cZ := cZ) (cR := cR) (ad := ad) (sv := sv) hpr 6 hin6).append_left (ws_mainT cI cC cZ cR mm sc sea th th1 th2 th3 th4 th5 th6 th7 th8 th9 pi pia cm cm1 cm2 cm3 pd pda rd rda hh hst sla se mn ln hi wi br sp si le un ul px tm ps ft fk lea upr ris pl tx at_ kd va nx hm pr ad)
      have hP2 := va_P_perm hpm hP
      have hD2 := va_D_perm hpm hD
      have hA2 := va_A_perm (sz := s.heap.size) hpm.symm
      rw [← List.append_assoc] at hP2 hD2 hA2
      refine ⟨_, _, _, m_X7_undo_a l D cI cC cZ cR mm sc sea th th1 th2 th3 th4 th5 th6 th7 th8 th9 pi pia cm cm1 cm2 cm3 pd pda rd rda hh hst sla (ad (latI nx) 0) (ad (latI nx) 1) (ad (latI nx) 2) (ad (latI nx) 3) (ad (latI nx) 4) (ad (latI nx) 5) (ad (latI nx) 6) (ad (latI nx) 7) (ad (latI nx) 8) (ad (latI nx) 9) (ad (latI nx) 10) (ad (latI nx) 11) (ad (latI nx) 12) (ad (latI nx) 13) s.heap.size se mn ln hi wi br sp si le un ul px tm ps ft fk lea upr ris pl tx at_ kd va nx hm ((sv (latI nx)).1) ((sv (latI nx)).2.1) ((sv (latI nx)).2.2.1) ((sv (latI nx)).2.2.2.1) ((sv (latI nx)).2.2.2.2.1) ((sv (latI nx)).2.2.2.2.2.1) ((sv (latI nx)).2.2.2.2.2.2.1) ((sv (latI nx)).2.2.2.2.2.2.2.1) ((sv (latI nx)).2.2.2.2.2.2.2.2.1) ((sv (latI nx)).2.2.2.2.2.2.2.2.2.1) ((sv (latI nx)).2.2.2.2.2.2.2.2.2.2.1) ((sv (latI nx)).2.2.2.2.2.2.2.2.2.2.2.1) ((sv (latI nx)).2.2.2.2.2.2.2.2.2.2.2.2.1) ((sv (latI nx)).2.2.2.2.2.2.2.2.2.2.2.2.2.1) ((sv (latI nx)).2.2.2.2.2.2.2.2.2.2.2.2.2.2.1) ((sv (latI nx)).2.2.2.2.2.2.2.2.2.2.2.2.2.2.2) (hfn pr ad) (fun i h1 h2 => by rw [latI_of h1 h2]; exact if_pos hpr) r hf, ⟨ha, rfl, va_P_left hP2, hK, (va_D_left hD2).weaken (fun _ _ _ _ => trivial)⟩, fun oc t hq => ?_, fun q z => hA2 q (va_A_left q z)⟩
      obtain ⟨⟨x0, u0, ho, hx0, hPt, hDt⟩, hFr⟩ := hq
      obtain ⟨p1, d1⟩ := jT1 (R := []) hP2 hD2 [0, 1, 2, 3, 4, 5, 6, 7, 8, 9, 10, 11, 12, 13, 14, 15, 16, 17, 18, 19, 20, 21, 22, 23, 24, 25, 26, 27, 28, 29, 30, 31, 32, 33, 34, 35, 36, 37, 38] [] rfl rfl rfl (fun i hi => by cases hi) (fun q h1 h2 => hFr.2 q h1 h2) (fun q z => hA2 q (va_A_left q z)) hPt hDt
      rw [List.nil_append] at p1 d1
      have p2 : va_P D vwCl (((ws_mainT cI cC cZ cR mm sc sea th th1 th2 th3 th4 th5 th6 th7 th8 th9 pi pia cm cm1 cm2 cm3 pd pda rd rda hh hst sla (r.2.2.2.2.2.1) (r.2.2.2.2.2.2.1) (r.2.2.2.2.2.2.2.1) (r.2.2.2.2.2.2.2.2.1) (r.2.2.2.2.2.2.2.2.2.1) (r.2.2.2.2.2.2.2.2.2.2.1) (r.2.2.2.2.2.2.2.2.2.2.2.1) (r.2.2.2.2.2.2.2.2.2.2.2.2.1) (r.2.2.2.2.2.2.2.2.2.2.2.2.2.1) (r.2.2.2.2.2.2.2.2.2.2.2.2.2.2.1) (r.2.2.2.2.2.2.2.2.2.2.2.2.2.2.2.1) (r.2.2.2.2.2.2.2.2.2.2.2.2.2.2.2.2.1) (r.2.1) (r.2.2.1) (r.2.2.2.1) (r.2.2.2.2.1) lea upr ris pl tx at_ kd va (r.2.2.2.2.2.2.2.2.2.2.2.2.2.2.2.2.2.1) (r.2.2.2.2.2.2.2.2.2.2.2.2.2.2.2.2.2.2) pr ad) ++ scb cI cC cZ cR (ad (latI nx)) (sv (latI nx))) ++ hwB' cI cC cZ cR (offB pr (latI nx)) ad sv 6) t.heap := p1
      have d2 : va_D (va_A ((ws_mainT cI cC cZ cR mm sc sea th th1 th2 th3 th4 th5 th6 th7 th8 th9 pi pia cm cm1 cm2 cm3 pd pda rd rda hh hst sla se mn ln hi wi br sp si le un ul px tm ps ft fk lea upr ris pl tx at_ kd va nx hm pr ad) ++ hwB cI cC cZ cR pr ad sv) s.heap.size) (((ws_mainT cI cC cZ cR mm sc sea th th1 th2 th3 th4 th5 th6 th7 th8 th9 pi pia cm cm1 cm2 cm3 pd pda rd rda hh hst sla (r.2.2.2.2.2.1) (r.2.2.2.2.2.2.1) (r.2.2.2.2.2.2.2.1) (r.2.2.2.2.2.2.2.2.1) (r.2.2.2.2.2.2.2.2.2.1) (r.2.2.2.2.2.2.2.2.2.2.1) (r.2.2.2.2.2.2.2.2.2.2.2.1) (r.2.2.2.2.2.2.2.2.2.2.2.2.1) (r.2.2.2.2.2.2.2.2.2.2.2.2.2.1) (r.2.2.2.2.2.2.2.2.2.2.2.2.2.2.1) (r.2.2.2.2.2.2.2.2.2.2.2.2.2.2.2.1) (r.2.2.2.2.2.2.2.2.2.2.2.2.2.2.2.2.1) (r.2.1) (r.2.2.1) (r.2.2.2.1) (r.2.2.2.2.1) lea upr ris pl tx at_ kd va (r.2.2.2.2.2.2.2.2.2.2.2.2.2.2.2.2.2.1) (r.2.2.2.2.2.2.2.2.2.2.2.2.2.2.2.2.2.2) pr ad) ++ scb cI cC cZ cR (ad (latI nx)) (sv (latI nx))) ++ hwB' cI cC cZ cR (offB pr (latI nx)) ad sv 6) := d1
      rw [List.append_assoc] at p2 d2
      have hq2 := (hwB_take (cI := cI) (cC := cC) (cZ := cZ) (cR := cR) (ad := ad) (sv := sv) hpr 6 hin6).symm.append_left (ws_mainT cI cC cZ cR mm sc sea th th1 th2 th3 th4 th5 th6 th7 th8 th9 pi pia cm cm1 cm2 cm3 pd pda rd rda hh hst sla (r.2.2.2.2.2.1) (r.2.2.2.2.2.2.1) (r.2.2.2.2.2.2.2.1) (r.2.2.2.2.2.2.2.2.1) (r.2.2.2.2.2.2.2.2.2.1) (r.2.2.2.2.2.2.2.2.2.2.1) (r.2.2.2.2.2.2.2.2.2.2.2.1) (r.2.2.2.2.2.2.2.2.2.2.2.2.1) (r.2.2.2.2.2.2.2.2.2.2.2.2.2.1) (r.2.2.2.2.2.2.2.2.2.2.2.2.2.2.1) (r.2.2.2.2.2.2.2.2.2.2.2.2.2.2.2.1) (r.2.2.2.2.2.2.2.2.2.2.2.2.2.2.2.2.1) (r.2.1) (r.2.2.1) (r.2.2.2.1) (r.2.2.2.2.1) lea upr ris pl tx at_ kd va (r.2.2.2.2.2.2.2.2.2.2.2.2.2.2.2.2.2.1) (r.2.2.2.2.2.2.2.2.2.2.2.2.2.2.2.2.2.2) pr ad)
      exact ⟨⟨x0, ad, ho, hx0, va_P_perm hq2 p2, va_D_perm hq2 d2⟩, hFr.1, fun q h1 h2 => hFr.2 q h1 (fun z => h2 (hA2 q (va_A_left q z)))⟩
  · rw [if_neg hpr] at hf
    obtain ⟨q, hq, hf⟩ := bn_sp hf
    have er := Option.some.inj hf
    subst er
    refine ⟨_, _, _, m_X7_undo_n l D cI cC cZ cR mm sc sea th th1 th2 th3 th4 th5 th6 th7 th8 th9 pi pia cm cm1 cm2 cm3 pd pda rd rda hh hst sla s.heap.size se mn ln hi wi br sp si le un ul px tm ps ft fk lea upr ris pl tx at_ kd va nx hm (hfn pr ad) (fun i h1 h2 => by rw [latI_of h1 h2]; exact if_neg hpr) q hq, ⟨ha, rfl, va_P_left hP, hK, va_D_left hD0⟩, fun oc t hq => ?_, fun q z => va_A_left q z⟩
    obtain ⟨⟨x0, u0, ho, hx0, hPt, hDt⟩, hFr⟩ := hq
    obtain ⟨p1, d1⟩ := jT1 (R := []) hP hD [0, 1, 2, 3, 4, 5, 6, 7, 8, 9, 10, 11, 12, 13, 14, 15, 16, 17, 18, 19, 20, 21, 22, 23, 24] [] rfl rfl rfl (fun i hi => by cases hi) (fun q h1 h2 => hFr.2 q h1 h2) (fun q z => va_A_left q z) hPt hDt
    rw [List.nil_append] at p1 d1
    exact ⟨⟨x0, ad, ho, hx0, p1, d1⟩, hFr.1, fun q h1 h2 => hFr.2 q h1 (fun z => h2 (va_A_left q z))⟩
