set_option maxHeartbeats 4000000 in
set_option maxRecDepth 100000 in
theorem whole_start {p : Program} {e : Env} {s : State} {m : MethodId} {below : List Frame} {meth : Method} {c : Code} (l : Launch) (hflags : l.flags = flags0) {b L : Nat} {xs : Nat → Int32} (hL : L ≤ 260) (C0 : lw_At p s m meth c b L xs) : W p l e room_1 s m #[Value.ref b] below meth c s.heap [] 0 0 (lw_Z below #[Value.ref b] s) (entryFrame m ([Value.ref b] : List Value).toArray 6) := by
  obtain ⟨hx, hb, hr, hml, hown, hts0, hX, hbl, hlocks, hgv⟩ := id C0
  have hts := fun w h => hts0 w (wsL_law_in w h)
  obtain ⟨D, cI, cC, cZ, cR, hK, hstt⟩ := st_env hts0 hgv
  have hA : ∀ q : Nat, s.heap.size ≤ q → (fun q : Nat => s.heap.size ≤ q) q := fun _ h => h
  have hAb : ∀ q : Nat, (fun q : Nat => s.heap.size ≤ q) q → s.heap.size ≤ q := fun _ h => h
  have hS : va_S (fun q : Nat => s.heap.size ≤ q) s.heap s.heap [] := va_S.rf
  have hP : va_P D vwCl [] s.heap := va_nilP
  have hD : va_D (fun q : Nat => s.heap.size ≤ q) [] := va_nilDD
  have hl := lv_entry ([.ref b]) (n := 6) (Nat.le_of_ble_eq_true rfl)
  rw [lg_entry_eq]
  generalize (lg_sl ([.ref b]) ++ List.replicate (6 - (lg_sl ([.ref b])).length) Slot.unset).toArray = ls at hl ⊢
  have hl : lv_has ls 6 [(0, .ref b)] := hl
  refine W.eq (g2 := F0 m 0 ls []) rfl ?_
  refine va_new (D := D) (ci := 7) (fs := [.null, .null, .null, .null, .null, .null]) (C := RX7) (T := TX7) (N := 6) hx hb hts inlX7 tyX7 tyX7_ok hown (hts0 _ tL_7) (hts0 _ tI_7) (hts0 _ tIx_7) hK.1 hP hD hS hA rfl (fun j hj => by rcases (show j = 0 ∨ j = 1 ∨ j = 2 ∨ j = 3 ∨ j = 4 ∨ j = 5 by omega) with rfl | rfl | rfl | rfl | rfl | rfl <;> rfl) (Nat.le_of_ble_eq_true rfl) (Nat.le_of_ble_eq_true rfl) dL_law_0 (fun q0 H hP hD hS => ?_)
  have hP : va_P D vwCl [(q0, .inr (7, [.null, .null, .null, .null, .null, .null]))] H := hP
  have hD : va_D (fun q : Nat => s.heap.size ≤ q) [(q0, .inr (7, [.null, .null, .null, .null, .null, .null]))] := hD
  refine lv_dup hx hb dL_law_3 rfl ?_
  have hPc := hP.sub (ws' := [(q0, .inr (7, [.null, .null, .null, .null, .null, .null]))]) [0] rfl
  have hDc := hD.sub (ws' := [(q0, .inr (7, [.null, .null, .null, .null, .null, .null]))]) [0] (by decide) rfl
  have hFc := va_free (wc := [(q0, .inr (7, [.null, .null, .null, .null, .null, .null]))]) hD hS hA [0] rfl
  refine va_callv (va_runI (As := []) (rest := [.ref q0]) ⟨hx, hb, hml, hown, hts⟩ (m_X7_init l D cI cC cZ cR q0 _ s.heap.size _ f7_init) (cwI 0 hts gL_law_X7_init rfl rfl rfl (hts0 _ tIx_7) (hts0 _ tM_7) (hts0 _ tMi_7) rfl (by decide +kernel) ⟨Nat.le_of_ble_eq_true rfl, Nat.le_of_ble_eq_true rfl⟩) (cPcS_ps hPc hK hDc hAb (Nat.le_refl _) hS hstt) rfl rfl hl.1 rfl (lv_room (Nat.le_of_ble_eq_true rfl)) dL_law_4 ⟨Nat.le_of_ble_eq_true rfl, Nat.le_of_ble_eq_true rfl⟩) hS (fun q _ h => hFc q h) hFc (fun u0 t H1 locs ht hvm hw hB hz1 hk1 hS => ?_)
  obtain ⟨hP1, hD1⟩ := hB
  rw [ht] at hP1
  obtain ⟨hP, hD⟩ := va_join (wr := []) (w1 := [(q0, .inr (7, [.ref (u0 0), .ref (u0 14), .ref (u0 18), .ref (u0 20), .ref (u0 21), .ref (u0 23)])), ((u0 0), .inr (5, [.ref (u0 1), .ref (u0 2), .ref (u0 12), .int 0, .int 0, .int (-6), .int 0])), ((u0 1), .inl (cI, 4, .inl fF)), ((u0 2), .inr (6, [.int 0, .ref (u0 3), .ref (u0 4), .ref (u0 5), .ref (u0 6), .ref (u0 7), .ref (u0 8), .ref (u0 9), .ref (u0 10), .ref (u0 11)])), ((u0 3), .inl (cI, 8, .inl (fun _ => 0))), ((u0 4), .inl (cI, 8, .inl (fun _ => 0))), ((u0 5), .inl (cI, 8, .inl (fun _ => 0))), ((u0 6), .inl (cI, 8, .inl (fun _ => 0))), ((u0 7), .inl (cI, 8, .inl (fun _ => 0))), ((u0 8), .inl (cI, 8, .inl (fun _ => 0))), ((u0 9), .inl (cI, 8, .inl (fun _ => 0))), ((u0 10), .inl (cI, 8, .inl (fun _ => 0))), ((u0 11), .inl (cI, 8, .inl (fun _ => 0))), ((u0 12), .inr (3, [.ref (u0 13)])), ((u0 13), .inl (cI, 384, .inl (fun _ => 0))), ((u0 14), .inr (0, [.ref (u0 15), .ref (u0 16), .ref (u0 17)])), ((u0 15), .inl (cI, 24, .inl (fun _ => 0))), ((u0 16), .inl (cI, 24, .inl (fun _ => 0))), ((u0 17), .inl (cI, 25, .inl (fun _ => 0))), ((u0 18), .inr (1, [.ref (u0 19), .int 0, .int 0])), ((u0 19), .inl (cR, 6, .inr (.inr (.inr (.inr (fun _ => none)))))), ((u0 20), .inl (cR, 2, .inr (.inr (.inr (.inr (fun _ => none)))))), ((u0 21), .inr (2, [.ref (u0 22), .int 0])), ((u0 22), .inl (cC, 80, .inl (fun _ => 0))), ((u0 23), .inr (4, [.ref (u0 21), .int 0, .int 32, .ref (u0 24)])), ((u0 24), .inl (cI, 7, .inl (fun _ => 0)))]) hP hD [0] [] rfl rfl (by decide) (by decide) hk1 hFc hP1 hD1
  generalize H1 = H at hP hS ⊢
  have hP : va_P D vwCl [(q0, .inr (7, [.ref (u0 0), .ref (u0 14), .ref (u0 18), .ref (u0 20), .ref (u0 21), .ref (u0 23)])), ((u0 0), .inr (5, [.ref (u0 1), .ref (u0 2), .ref (u0 12), .int 0, .int 0, .int (-6), .int 0])), ((u0 1), .inl (cI, 4, .inl fF)), ((u0 2), .inr (6, [.int 0, .ref (u0 3), .ref (u0 4), .ref (u0 5), .ref (u0 6), .ref (u0 7), .ref (u0 8), .ref (u0 9), .ref (u0 10), .ref (u0 11)])), ((u0 3), .inl (cI, 8, .inl (fun _ => 0))), ((u0 4), .inl (cI, 8, .inl (fun _ => 0))), ((u0 5), .inl (cI, 8, .inl (fun _ => 0))), ((u0 6), .inl (cI, 8, .inl (fun _ => 0))), ((u0 7), .inl (cI, 8, .inl (fun _ => 0))), ((u0 8), .inl (cI, 8, .inl (fun _ => 0))), ((u0 9), .inl (cI, 8, .inl (fun _ => 0))), ((u0 10), .inl (cI, 8, .inl (fun _ => 0))), ((u0 11), .inl (cI, 8, .inl (fun _ => 0))), ((u0 12), .inr (3, [.ref (u0 13)])), ((u0 13), .inl (cI, 384, .inl (fun _ => 0))), ((u0 14), .inr (0, [.ref (u0 15), .ref (u0 16), .ref (u0 17)])), ((u0 15), .inl (cI, 24, .inl (fun _ => 0))), ((u0 16), .inl (cI, 24, .inl (fun _ => 0))), ((u0 17), .inl (cI, 25, .inl (fun _ => 0))), ((u0 18), .inr (1, [.ref (u0 19), .int 0, .int 0])), ((u0 19), .inl (cR, 6, .inr (.inr (.inr (.inr (fun _ => none)))))), ((u0 20), .inl (cR, 2, .inr (.inr (.inr (.inr (fun _ => none)))))), ((u0 21), .inr (2, [.ref (u0 22), .int 0])), ((u0 22), .inl (cC, 80, .inl (fun _ => 0))), ((u0 23), .inr (4, [.ref (u0 21), .int 0, .int 32, .ref (u0 24)])), ((u0 24), .inl (cI, 7, .inl (fun _ => 0)))] H := hP
  have hD : va_D (fun q : Nat => s.heap.size ≤ q) [(q0, .inr (7, [.ref (u0 0), .ref (u0 14), .ref (u0 18), .ref (u0 20), .ref (u0 21), .ref (u0 23)])), ((u0 0), .inr (5, [.ref (u0 1), .ref (u0 2), .ref (u0 12), .int 0, .int 0, .int (-6), .int 0])), ((u0 1), .inl (cI, 4, .inl fF)), ((u0 2), .inr (6, [.int 0, .ref (u0 3), .ref (u0 4), .ref (u0 5), .ref (u0 6), .ref (u0 7), .ref (u0 8), .ref (u0 9), .ref (u0 10), .ref (u0 11)])), ((u0 3), .inl (cI, 8, .inl (fun _ => 0))), ((u0 4), .inl (cI, 8, .inl (fun _ => 0))), ((u0 5), .inl (cI, 8, .inl (fun _ => 0))), ((u0 6), .inl (cI, 8, .inl (fun _ => 0))), ((u0 7), .inl (cI, 8, .inl (fun _ => 0))), ((u0 8), .inl (cI, 8, .inl (fun _ => 0))), ((u0 9), .inl (cI, 8, .inl (fun _ => 0))), ((u0 10), .inl (cI, 8, .inl (fun _ => 0))), ((u0 11), .inl (cI, 8, .inl (fun _ => 0))), ((u0 12), .inr (3, [.ref (u0 13)])), ((u0 13), .inl (cI, 384, .inl (fun _ => 0))), ((u0 14), .inr (0, [.ref (u0 15), .ref (u0 16), .ref (u0 17)])), ((u0 15), .inl (cI, 24, .inl (fun _ => 0))), ((u0 16), .inl (cI, 24, .inl (fun _ => 0))), ((u0 17), .inl (cI, 25, .inl (fun _ => 0))), ((u0 18), .inr (1, [.ref (u0 19), .int 0, .int 0])), ((u0 19), .inl (cR, 6, .inr (.inr (.inr (.inr (fun _ => none)))))), ((u0 20), .inl (cR, 2, .inr (.inr (.inr (.inr (fun _ => none)))))), ((u0 21), .inr (2, [.ref (u0 22), .int 0])), ((u0 22), .inl (cC, 80, .inl (fun _ => 0))), ((u0 23), .inr (4, [.ref (u0 21), .int 0, .int 32, .ref (u0 24)])), ((u0 24), .inl (cI, 7, .inl (fun _ => 0)))] := hD
  refine lv_astore_n (lv' := [(1, .ref q0), (0, .ref b)]) hx hb dL_law_7 rfl hl (by decide) rfl (fun ls hl => ?_)
  have hP := hP.sub (ws' := (ws_lawq cI cC cZ cR q0 (u0 0) (u0 1) (u0 2) (u0 3) (u0 4) (u0 5) (u0 6) (u0 7) (u0 8) (u0 9) (u0 10) (u0 11) (u0 12) (u0 13) (u0 14) (u0 15) (u0 16) (u0 17) (u0 21) (u0 22) (u0 23) (u0 24) (u0 18) (u0 19) (u0 20) fF 0 (fun _ => 0) (fun _ => 0) (fun _ => 0) (fun _ => 0) (fun _ => 0) (fun _ => 0) (fun _ => 0) (fun _ => 0) (fun _ => 0) (fun _ => 0) 0 0 (-6) 0 (fun _ => 0) (fun _ => 0) (fun _ => 0) 0 (fun _ => 0) 0 32 (fun _ => 0) 0 0 (fun _ => none) (fun _ => none))) [0, 1, 2, 3, 4, 5, 6, 7, 8, 9, 10, 11, 12, 13, 14, 15, 16, 17, 18, 22, 23, 24, 25, 19, 20, 21] rfl
  have hD := hD.sub (ws' := (ws_lawq cI cC cZ cR q0 (u0 0) (u0 1) (u0 2) (u0 3) (u0 4) (u0 5) (u0 6) (u0 7) (u0 8) (u0 9) (u0 10) (u0 11) (u0 12) (u0 13) (u0 14) (u0 15) (u0 16) (u0 17) (u0 21) (u0 22) (u0 23) (u0 24) (u0 18) (u0 19) (u0 20) fF 0 (fun _ => 0) (fun _ => 0) (fun _ => 0) (fun _ => 0) (fun _ => 0) (fun _ => 0) (fun _ => 0) (fun _ => 0) (fun _ => 0) (fun _ => 0) 0 0 (-6) 0 (fun _ => 0) (fun _ => 0) (fun _ => 0) 0 (fun _ => 0) 0 32 (fun _ => 0) 0 0 (fun _ => none) (fun _ => none))) [0, 1, 2, 3, 4, 5, 6, 7, 8, 9, 10, 11, 12, 13, 14, 15, 16, 17, 18, 22, 23, 24, 25, 19, 20, 21] (by decide) rfl
  have eq0 : hfn (fun _ => false) (fun _ _ => 0) = fun _ => none := funext fun j => if_neg (fun z => by cases z)
  have ews : ([] : va_W) ++ wob cI cC cZ cR (fun k => ([q0, (u0 0), (u0 1), (u0 2), (u0 3), (u0 4), (u0 5), (u0 6), (u0 7), (u0 8), (u0 9), (u0 10), (u0 11), (u0 12), (u0 13), (u0 14), (u0 15), (u0 16), (u0 17), (u0 21), (u0 22), (u0 23), (u0 24), (u0 18), (u0 19), (u0 20)] : List Nat).getD k 0) ob0 (fun _ _ => 0) (fun _ _ => 0) = (ws_lawq cI cC cZ cR q0 (u0 0) (u0 1) (u0 2) (u0 3) (u0 4) (u0 5) (u0 6) (u0 7) (u0 8) (u0 9) (u0 10) (u0 11) (u0 12) (u0 13) (u0 14) (u0 15) (u0 16) (u0 17) (u0 21) (u0 22) (u0 23) (u0 24) (u0 18) (u0 19) (u0 20) fF 0 (fun _ => 0) (fun _ => 0) (fun _ => 0) (fun _ => 0) (fun _ => 0) (fun _ => 0) (fun _ => 0) (fun _ => 0) (fun _ => 0) (fun _ => 0) 0 0 (-6) 0 (fun _ => 0) (fun _ => 0) (fun _ => 0) 0 (fun _ => 0) 0 32 (fun _ => 0) 0 0 (fun _ => none) (fun _ => none)) := by
    have e1 : (hwB cI cC cZ cR (fun _ => false) (fun _ _ => 0) sv0 ++ hwB' cI cC cZ cR (fun _ => false) (fun _ _ => 0) sv0 2) = [] := rfl
    show ws_lawq cI cC cZ cR q0 (u0 0) (u0 1) (u0 2) (u0 3) (u0 4) (u0 5) (u0 6) (u0 7) (u0 8) (u0 9) (u0 10) (u0 11) (u0 12) (u0 13) (u0 14) (u0 15) (u0 16) (u0 17) (u0 21) (u0 22) (u0 23) (u0 24) (u0 18) (u0 19) (u0 20) fF 0 (fun _ => 0) (fun _ => 0) (fun _ => 0) (fun _ => 0) (fun _ => 0) (fun _ => 0) (fun _ => 0) (fun _ => 0) (fun _ => 0) (fun _ => 0) 0 0 (-6) 0 (fun _ => 0) (fun _ => 0) (fun _ => 0) 0 (fun _ => 0) 0 32 (fun _ => 0) 0 0 (hfn (fun _ => false) (fun _ _ => 0)) (hfn (fun _ => false) (fun _ _ => 0)) ++ (hwB cI cC cZ cR (fun _ => false) (fun _ _ => 0) sv0 ++ hwB' cI cC cZ cR (fun _ => false) (fun _ _ => 0) sv0 2) = _
    rw [e1, List.append_nil, eq0]
  rw [← ews] at hP hD
  exact law_go C0 hK hstt (fun k => ([q0, (u0 0), (u0 1), (u0 2), (u0 3), (u0 4), (u0 5), (u0 6), (u0 7), (u0 8), (u0 9), (u0 10), (u0 11), (u0 12), (u0 13), (u0 14), (u0 15), (u0 16), (u0 17), (u0 21), (u0 22), (u0 23), (u0 24), (u0 18), (u0 19), (u0 20)] : List Nat).getD k 0) ob0 _ _ _ _ _ (law_pure hL xs) (Nat.le_of_ble_eq_true rfl) (Nat.le_of_ble_eq_true rfl) ⟨_, _, hP, hD⟩ hS (lv_sub hl [1, 0] rfl)
set_option maxHeartbeats 4000000 in
theorem lw_walk (l : Launch) (hflags : l.flags = flags0) (b : Addr) (xs : List Int32) : MetFree l x (headSpec (Jvm.Cond.code x code maxLocals ret :: tables_1) room_1) (lw_P b xs) (fun _ _ _ _ _ => True) lw_Q := by
  refine MetFree.of_bodyS (code := code) (maxLocals := maxLocals) (ret := ret) (by decide) ?_ ?_
  · intro args s m h hn
    obtain ⟨meth, c, h1, h2, h3, h4, h5, h6, -, -⟩ := Cond.code_spec hn (atoms_spec (ws := Jvm.Cond.code x code maxLocals ret :: tables_1) h _ List.mem_cons_self)
    exact ⟨meth, c, h1, h2, h3, h4, h5, h6⟩
  · intro p e s m args below meth c s₁ B hml0 hP _
    obtain ⟨rfl, hx, hbd, hgv⟩ := hP
    obtain ⟨scr, harrAt, hlist, hof, hsmall⟩ := hx
    obtain ⟨hcb, hkn, -, -⟩ := State.arrayAt?_spec harrAt
    have hown : s.vm.findClass R_law = some m.cls := findClass_of_methodNamed B.named
    have hts0 : ∀ c ∈ (Jvm.Cond.code x code maxLocals ret :: tables_1), c.before #[Value.ref b] s = true := atoms_spec (ws := Jvm.Cond.code x code maxLocals ret :: tables_1) B.pre
    have hts : ∀ w ∈ lw_tbl, w.before #[Value.ref b] s = true := k2_hts_sels lw_privs (fun w hw => hts0 w (List.mem_cons_of_mem _ hw)) lw_privs_ok
    have hml : c.maxLocals = 6 := B.maxLocals_eq (hts0 _ List.mem_cons_self)
    have X₀ : Stand p l e room_1 s m #[Value.ref b] below meth c s₁ [] 0 0 := Stand.of_body B
    have hh0 : s₁.heap = s.heap := by rw [B.state]; rfl
    have hsz : scr.slots.size = xs.length := by rw [← Array.length_toList, hlist, List.length_map]
    have hval : ∀ j : Nat, j < xs.length → scr.slots[j]? = some (.int (xs.getD j 0)) := fun j hj => by
      rw [← Array.getElem?_toList, hlist]
      simp [hj]
    have hbl : b < s.heap.size := (Array.getElem?_eq_some_iff.mp hcb).1
    have hX : va_X b xs.length (fun j => xs.getD j 0) s s.heap := ⟨scr, hcb, hof, hkn, hsz, hval⟩
    have K : W p l e room_1 s m #[Value.ref b] below meth c s₁.heap [] 0 0 (lw_Z below #[Value.ref b] s) (entryFrame m ([Value.ref b] : List Value).toArray 6) := by
      rw [hh0]
      exact whole_start l hflags hbd ⟨B.exec, B.bytes, B.returns, hml, hown, hts, hX, hbl, B.notSynchronized, hgv⟩
    obtain ⟨t, a1, o, b1, b2, b3⟩ := K s₁ rfl X₀
    exact ⟨t, o, a1, b1, b2, b3⟩
theorem lw_pre_spec {args : Array Value} {s : State} (h : (Jvm.Cond.and given_1 narrow_1).before args s = true) (hr : rest_1_c.before args s = true) : ∃ (b : Addr) (xs : List Int32), lw_P b xs args s := by
  have hs := flat_of_before _ h
  have hq := flat_of_before _ hr
  have hc : (Cond.count 1).before args s = true := hs _ (by decide +kernel)
  have harr : (Cond.arrayOf (.arg 0) .int).before args s = true := hs _ (by decide +kernel)
  have hle : (Cond.le (.length (.arg 0)) (.int 260)).before args s = true := hs _ (by decide +kernel)
  have hlen : (Cond.isInt (.length (.arg 0))).before args s = true := hq _ (by decide +kernel)
  have hall : (Cond.all (.arg 0) (.isInt (.elem (.arg 0) (.index 0)))).before args s = true := hq _ (by decide +kernel)
  obtain ⟨b, xs, hb, hx⟩ := State.ints_of_pre rfl harr hlen hall
  have hsm : xs.length < 2 ^ 31 := hx.choose_spec.2.2.2
  have hev : (Term.length (.arg 0)).eval args s none [] s = some (.int xs.length.toInt32) := hx.length_eval hb
  have hv := Cond.le_ints hev (show (Term.int 260).eval args s none [] s = some (.int 260) from rfl)
  have hd : xs.length.toInt32 ≤ 260 := by
    simpa [Cond.before, Cond.holds, hv] using hle
  have hN : xs.length ≤ 260 := (Int32.ofNat_le_ofNat hsm (by decide)).mp (show Int32.ofNat xs.length ≤ Int32.ofNat 260 from hd)
  exact ⟨b, xs, Cond.one_arg hc (show args[0]? = some (.ref b) from hb), hx, hN, h⟩
theorem lw_comes (l : Launch) (hflags : l.flags = flags0) : Comes l x (Jvm.Cond.code x code maxLocals ret :: tables_1) room_1 (fun tb e args s => Calls_1 tb e args s ∧ rest_1 tb e args s ∧ Pre_1 tb e args s)
    (fun _ _ args s o t => lw_Q args s o t) := by
  intro p e ha hc hk s m args below hf hfit hheap happ hpre
  obtain ⟨b, xs, hP⟩ := lw_pre_spec hpre.2.2 hpre.2.1
  obtain ⟨k, o, h1, h2, h3, hQ⟩ := lw_walk l hflags b xs p e ha hc hk s m args below hf ((Spec.applies_iff_loose hf).mp happ).1 hP trivial
  exact ⟨k, o, h1, h2, h3, hQ⟩
theorem lw_frame {s t : State} {o : Outcome} {args : Array Value} (h : Framed s o t [] 600000 7302250) :
    Framed s o t (fieldLocs frame_1_writes args s ++ arrayLocs frame_1_arrays args s ++ staticLocs frame_1_statics s) 600000 7302250 := h
theorem lw_limb (L : Cond) (hL : ∀ (args : Array Value) (s t : State), L.after args s (.returned (some (.int 1))) t = true) :
    ArmFor flags0 classFile x code maxLocals ret World_1 tables_1 room_1 Calls_1 rest_1 Pre_1
      (fun tb e a s o t => postC L tb e a s o t ∧ Framed s o t (fieldLocs frame_1_writes a s ++ arrayLocs frame_1_arrays a s ++ staticLocs frame_1_statics s) 600000 7302250) := by
  intro l hflags _ _ p e ha hc hk s m args below hf hfit hheap happ hpre
  obtain ⟨k, o, h1, h2, h3, rfl, hF⟩ := lw_comes l hflags p e ha hc hk s m args below hf hfit hheap happ hpre
  exact ⟨k, _, h1, h2, h3, hL args s _, lw_frame hF⟩
theorem i_vc : Claimed_1_1 ∧ Claimed_1_2 := ⟨lw_limb limb_1_1 (fun args s t => by simp [limb_1_1, Cond.after, Cond.holds, Cond.value]), lw_limb limb_1_2 (fun args s t => Cond.after_iff.mpr (by
  first | (rw [show limb_1_2 = Cond.eq .result (.int 1) from rfl, Cond.eq_ints (x := 1) (y := 1) rfl rfl]; simp; done) | (simp [limb_1_2, Cond.value, Term.eval]; done)))⟩
