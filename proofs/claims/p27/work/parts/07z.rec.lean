abbrev ws_histT_scene (cI cC cZ cR : ClassId) (hh hst sc sea th th1 th2 th3 th4 th5 th6 th7 th8 th9 pi pia : Nat) (nx : Int32) (hm : Int32) (se : Nat → Int32) (mn : Int32) (ln : Nat → Int32) (hi : Nat → Int32) (wi : Nat → Int32) (br : Nat → Int32) (sp : Nat → Int32) (si : Nat → Int32) (le : Nat → Int32) (un : Nat → Int32) (ul : Nat → Int32) (px : Nat → Int32) (tm : Int32) (ps : Int32) (ft : Int32) (fk : Int32) (pr : Nat → Bool) (ad : Nat → Nat → Nat) : va_W := [(hh, .inr (1, [.ref hst, .int nx, .int hm])), (hst, .inl (cR, 6, .inr (.inr (.inr (.inr (hfn pr ad)))))), (sc, .inr (5, [.ref sea, .ref th, .ref pi, .int tm, .int ps, .int ft, .int fk])), (sea, .inl (cI, 4, .inl se)), (th, .inr (6, [.int mn, .ref th1, .ref th2, .ref th3, .ref th4, .ref th5, .ref th6, .ref th7, .ref th8, .ref th9])), (th1, .inl (cI, 8, .inl ln)), (th2, .inl (cI, 8, .inl hi)), (th3, .inl (cI, 8, .inl wi)), (th4, .inl (cI, 8, .inl br)), (th5, .inl (cI, 8, .inl sp)), (th6, .inl (cI, 8, .inl si)), (th7, .inl (cI, 8, .inl le)), (th8, .inl (cI, 8, .inl un)), (th9, .inl (cI, 8, .inl ul)), (pi, .inr (3, [.ref pia])), (pia, .inl (cI, 384, .inl px))]

theorem va_P_perm {D : va_G} {cl : List vw_C} {w1 w2 : va_W} {H : Heap} (hp : w1.Perm w2) (h : va_P D cl w1 H) : va_P D cl w2 H := fun k q hk => by
  have h1 : q ∈ w1 := hp.mem_iff.mpr (List.mem_of_getElem? hk)
  obtain ⟨i, hi⟩ := List.getElem?_of_mem h1
  exact h i q hi
theorem va_D_nd {A : Nat → Prop} {ws : va_W} : va_D A ws ↔ (ws.map (fun q => q.1)).Nodup ∧ ∀ q ∈ ws, A q.1 := by
  constructor
  · intro h
    refine ⟨?_, fun q hq => ?_⟩
    · rw [List.Nodup, List.pairwise_iff_getElem]
      intro i j hi hj hij e
      rw [List.length_map] at hi hj
      rw [List.getElem_map, List.getElem_map] at e
      have := h.1 i j _ _ (List.getElem?_eq_getElem hi) (List.getElem?_eq_getElem hj) e
      omega
    · obtain ⟨i, hi⟩ := List.getElem?_of_mem hq
      exact h.2 i q hi
  · intro ⟨h1, h2⟩
    rw [List.Nodup, List.pairwise_iff_getElem] at h1
    refine ⟨fun i j p q hi hj e => ?_, fun k q hk => h2 q (List.mem_of_getElem? hk)⟩
    obtain ⟨hi1, hi2⟩ := List.getElem?_eq_some_iff.mp hi
    obtain ⟨hj1, hj2⟩ := List.getElem?_eq_some_iff.mp hj
    rcases Nat.lt_trichotomy i j with g | g | g
    · refine absurd ?_ (h1 i j (by rw [List.length_map]; exact hi1) (by rw [List.length_map]; exact hj1) g)
      rw [List.getElem_map, List.getElem_map, hi2, hj2]; exact e
    · exact g
    · refine absurd ?_ (h1 j i (by rw [List.length_map]; exact hj1) (by rw [List.length_map]; exact hi1) g)
      rw [List.getElem_map, List.getElem_map, hi2, hj2]; exact e.symm
theorem va_D_perm {A : Nat → Prop} {w1 w2 : va_W} (hp : w1.Perm w2) (h : va_D A w1) : va_D A w2 := by
  rw [va_D_nd] at h ⊢
  exact ⟨(hp.map _).nodup_iff.mp h.1, fun q hq => h.2 q (hp.mem_iff.mpr hq)⟩
theorem va_A_perm {w1 w2 : va_W} {sz : Nat} (hp : w1.Perm w2) : ∀ q, va_A w1 sz q → va_A w2 sz q := by
  intro q h
  rcases h with ⟨k, e, h⟩ | h
  · obtain ⟨i, hi⟩ := List.getElem?_of_mem (hp.mem_iff.mp (List.mem_of_getElem? h))
    exact Or.inl ⟨i, e, hi⟩
  · exact Or.inr h
theorem va_A_left {w1 w2 : va_W} {sz : Nat} : ∀ q, va_A w1 sz q → va_A (w1 ++ w2) sz q := by
  intro q h
  rcases h with ⟨k, e, h⟩ | h
  · exact Or.inl ⟨k, e, ap_left h⟩
  · exact Or.inr h
def offB (pr : Nat → Bool) (i : Nat) : Nat → Bool := fun j => if j = i then false else pr j
theorem hwB_cong {cI cC cZ cR : ClassId} {pr pr' : Nat → Bool} {ad ad' : Nat → Nat → Nat} {sv sv' : Nat → SCV} : ∀ n : Nat, (∀ j, j < n → pr j = pr' j ∧ (pr j = true → ad j = ad' j ∧ sv j = sv' j)) → hwB' cI cC cZ cR pr ad sv n = hwB' cI cC cZ cR pr' ad' sv' n
  | 0, _ => rfl
  | n + 1, h => by
    obtain ⟨h1, h2⟩ := h n (Nat.lt_succ_self n)
    rw [hwB', hwB', hwB_cong n (fun j hj => h j (Nat.lt_succ_of_lt hj)), h1]
    by_cases hc : pr' n = true
    · rw [if_pos hc, if_pos hc, (h2 (h1.trans hc)).1, (h2 (h1.trans hc)).2]
    · rw [if_neg hc, if_neg hc]
/-- a block that is there, taken out in front -/
theorem hwB_take {cI cC cZ cR : ClassId} {pr : Nat → Bool} {ad : Nat → Nat → Nat} {sv : Nat → SCV} {i : Nat} (hp : pr i = true) : ∀ n : Nat, i < n → (hwB' cI cC cZ cR pr ad sv n).Perm (scb cI cC cZ cR (ad i) (sv i) ++ hwB' cI cC cZ cR (offB pr i) ad sv n)
  | 0, h => absurd h (Nat.not_lt_zero i)
  | n + 1, h => by
    rw [hwB', hwB']
    by_cases hc : i = n
    · subst hc
      rw [if_pos hp, if_neg (show ¬ offB pr i i = true by rw [offB, if_pos rfl]; exact fun z => by cases z), List.append_nil]
      rw [hwB_cong (pr := pr) (pr' := offB pr i) (ad := ad) (ad' := ad) (sv := sv) (sv' := sv) i (fun j hj => ⟨by rw [offB, if_neg (Nat.ne_of_lt hj)], fun _ => ⟨rfl, rfl⟩⟩)]
      exact List.perm_append_comm
    · rw [show offB pr i n = pr n by rw [offB, if_neg (fun z => hc z.symm)], ← List.append_assoc]
      exact (hwB_take hp n (by omega)).append_right _
/-- the other way: a block that comes -/
theorem hwB_put {cI cC cZ cR : ClassId} {pr : Nat → Bool} {ad : Nat → Nat → Nat} {sv : Nat → SCV} {i n : Nat} (hi : i < n) (a : Nat → Nat) (v : SCV) : (scb cI cC cZ cR a v ++ hwB' cI cC cZ cR (offB pr i) ad sv n).Perm (hwB' cI cC cZ cR (fun j => if j = i then true else pr j) (fun j => if j = i then a else ad j) (fun j => if j = i then v else sv j) n) := by
  refine List.Perm.symm (List.Perm.trans (hwB_take (i := i) (if_pos rfl) n hi) ?_)
  rw [if_pos rfl, if_pos rfl]
  rw [hwB_cong (pr := offB (fun j => if j = i then true else pr j) i) (pr' := offB pr i) (ad := fun j => if j = i then a else ad j) (ad' := ad) (sv := fun j => if j = i then v else sv j) (sv' := sv) n (fun j hj => by
    by_cases hc : j = i
    · subst hc
      refine ⟨by rw [offB, offB, if_pos rfl, if_pos rfl], fun z => ?_⟩
      rw [offB, if_pos rfl] at z; cases z
    · refine ⟨by rw [offB, offB, if_neg hc, if_neg hc, if_neg hc], fun _ => ⟨if_neg hc, if_neg hc⟩⟩)]
theorem Met_cs {l : Launch} {y : MethodName} {ws : List Cond} {rm : Room} {Pc : Array Value → State → Prop} {Qc : Array Value → State → Outcome → State → Prop} {mc ms : Nat} {free : Addr → Prop} (h : ∀ (a : Array Value) (s : State), Pc a s → ∃ (Pc' : Array Value → State → Prop) (Qc' : Array Value → State → Outcome → State → Prop) (free' : Addr → Prop), Met l y ws rm Pc' Qc' mc ms free' ∧ Pc' a s ∧ (∀ o t, Qc' a s o t → Qc a s o t) ∧ ∀ q, free' q → free q) : Met l y ws rm Pc Qc mc ms free := by
  intro p e h1 h2 h3 s m args below h4 h5 h6 h7
  obtain ⟨Pc', Qc', free', hM, g1, g2, g3⟩ := h args s h6
  obtain ⟨n, o, e1, e2, e3, e4, L, e5, e6⟩ := hM p e h1 h2 h3 s m args below h4 h5 g1 h7
  exact ⟨n, o, e1, e2, e3, g2 _ _ e4, L, e5, fun q hq => g3 _ (e6 q hq)⟩
theorem va_at_cg {D : va_G} {cl : List vw_C} {a : Nat} {cA : ClassId} {n : Nat} {f g : Nat → Int32} {H : Heap} (h : ∀ j, j < n → f j = g j) : va_at D cl (a, .inl (cA, n, .inl f)) H = va_at D cl (a, .inl (cA, n, .inl g)) H := by
  have e : vp_cell cA (n, .inl f) = vp_cell cA (n, .inl g) := by
    rw [vp_cell_i, vp_cell_i, arrV, arrV]
    refine congrArg (fun z => ({ cls := cA, slots := z, vm := .none } : Cell)) ?_
    refine congrArg (fun z : Fin n → Value => Array.ofFn z) (funext fun j => ?_)
    rw [h j.val j.isLt]
  show (H[a]? = some (vp_cell cA (n, .inl f))) = (H[a]? = some (vp_cell cA (n, .inl g)))
  rw [e]

