def dA (o : OB) (a2 r1 : Int32) : Option (Int32 × OB) := bn (f_L_low a2 16) (fun r45 => bn (f_L_low (a2 >>> (4 &&& 31)) 24) (fun r46 => bn (f_L_low (a2 >>> (9 &&& 31)) 16) (fun r47 => bn (f_L_low (a2 >>> (13 &&& 31)) 12) (fun r48 => bn (f_L_low (a2 >>> (17 &&& 31)) 9) (fun r49 => bn (F_thing o r45 r46 (1 + r47) (1 + r48) (1 + r49)) (fun r50 => (if ¬ r1 = 8 then (if ¬ r50.1 = r1 then none else bn (F_of r50.2 r1 1) (fun r51 => bn (f_L_low (a2 >>> (4 &&& 31)) 24) (fun r52 => (if ¬ r51 = (1000 + r52) then none else bn (F_of r50.2 r1 5) (fun r53 => (if ¬ r53 = 100 then none else bn (F_of r50.2 r1 6) (fun r54 => (if ¬ r54 = (-6) then none else some ((1 : Int32), r50.2))))))))) else (if ¬ r50.1 = (-4) then none else some ((1 : Int32), r50.2)))))))))
def dB (o : OB) (a2 r1 j2 j3 j4 : Int32) : Option (Int32 × OB) := jn (fun (j29 : Int32) => bn (f_L_low a2 81) (fun r30 => bd (r30 - 40) (fun x31 => (if ¬ r1 = 0 then bn (F_speed o j2 x31) (fun r32 => (if ¬ r32.1 = j29 then none else bn (F_of r32.2 j2 5) (fun r33 => (if ¬ r33 = (x31 + 100) then none else bn (F_of r32.2 j2 1) (fun r34 => (if ¬ r34 = j3 then none else bn (F_of r32.2 (r1 - 1) 1) (fun r35 => (if ¬ r35 = j4 then none else some ((1 : Int32), r32.2))))))))) else bn (F_speed o 0 1) (fun r40 => (if ¬ r40.1 = (-1) then none else some ((1 : Int32), r40.2))))))) (fun j269 => (if ¬ r1 = 0 then bn (F_of o j2 5) (fun r43 => j269 r43) else j269 0))
def dC (o : OB) (a2 r1 j2 j3 j4 : Int32) : Option (Int32 × OB) := bn (f_L_low a2 (j2 + 1)) (fun r7 => bd (r7 - 1) (fun x8 => jn (fun (j9 : Int32) => (if ¬ r1 = 0 then jn (fun (j10 : Int32) => bn (F_ride o j2 j10) (fun r11 => (if ¬ r11.1 = j9 then none else bn (F_of r11.2 j2 6) (fun r12 => jn (fun (j13 : Int32) => (if ¬ r12 = j13 then none else bn (F_of r11.2 j2 1) (fun r14 => (if ¬ r14 = j3 then none else bn (F_of r11.2 (r1 - 1) 1) (fun r15 => (if ¬ r15 = j4 then none else bn (F_ride r11.2 j2 j2) (fun r16 => (if ¬ r16.1 = (-2) then none else some ((1 : Int32), r16.2))))))))) (fun j459 => (if 0 ≤ x8 then j459 x8 else j459 (-6))))))) (fun j431 => (if 0 ≤ x8 then j431 x8 else j431 (-6))) else bn (F_ride o 0 (-6)) (fun r24 => (if ¬ r24.1 = (-1) then none else some ((1 : Int32), r24.2))))) (fun j391 => (if ¬ r1 = 0 then bn (F_of o j2 6) (fun r27 => j391 r27) else j391 0))))
def dD (o : OB) (a2 : Int32) : Option (Int32 × OB) := bn (f_L_isShot o a2) (fun r6 => gb r6.1 (some (r6.1, r6.2)))
def dE (o : OB) (a2 : Int32) : Option (Int32 × OB) := bn (f_L_low a2 100) (fun r69 => bn (f_L_low (a2 >>> (7 &&& 31)) 20) (fun r70 => bd (1 + r70) (fun x71 => bn (F_flash o r69 x71) (fun r72 => bn (F_count r72.2 0) (fun r73 => (if ¬ r72.1 = (r73 + r69) then none else bn (F_count r72.2 6) (fun r74 => bn (F_count r72.2 0) (fun r75 => (if ¬ r74 = (r75 + r69) then none else bn (F_count r72.2 7) (fun r76 => (if ¬ r76 = x71 then none else some ((1 : Int32), r72.2))))))))))))
def dF (o : OB) (a1 a2 : Int32) : Option (Int32 × OB) := bn (f_L_low (a1 >>> (4 &&& 31)) 4) (fun r81 => jn (fun (j82 : Int32) => bn (F_count o (8 + r81)) (fun r83 => bn (F_set o r81 j82) (fun r84 => (if ¬ r84.1 = r83 then none else bn (F_count r84.2 (8 + r81)) (fun r85 => (if ¬ r85 = j82 then none else some ((1 : Int32), r84.2))))))) (fun j642 => (if ¬ r81 = 0 then (if ¬ r81 = 1 then (if ¬ r81 = 2 then bn (f_L_low a2 4) (fun r88 => j642 (1 + r88)) else bn (f_L_low a2 41) (fun r89 => j642 r89)) else bn (f_L_low a2 20) (fun r91 => j642 (1 + r91))) else bn (f_L_low a2 10) (fun r93 => j642 r93))))
def dG (o : OB) (a2 : Int32) : Option (Int32 × OB) := bn (F_count o 0) (fun r98 => bn (f_L_low a2 30) (fun r99 => bd (1 + r99) (fun x100 => bn (F_pass o x100) (fun r101 => jn (fun (j102 : Int32) => (if ¬ r101.1 = j102 then none else some ((1 : Int32), r101.2))) (fun j738 => (if (r98 + x100) ≤ 9999 then j738 (r98 + x100) else j738 (-5)))))))
theorem does_eq (o : OB) (a1 a2 : Int32) : f_L_does o a1 a2 = (bn (F_count o 1) (fun r1 => jn (fun (j2 : Int32) => jn (fun (j3 : Int32) => jn (fun (j4 : Int32) => bn (f_L_low a1 14) (fun r5 => bd (r5) (fun x61 => (if x61 = 0 then dA o a2 r1 else (if x61 = 1 then dA o a2 r1 else (if x61 = 2 then dA o a2 r1 else (if x61 = 3 then dB o a2 r1 j2 j3 j4 else (if x61 = 4 then dB o a2 r1 j2 j3 j4 else (if x61 = 5 then dC o a2 r1 j2 j3 j4 else (if x61 = 6 then dC o a2 r1 j2 j3 j4 else (if x61 = 7 then dE o a2 else (if x61 = 8 then dF o a1 a2 else (if x61 = 9 then dD o a2 else (if x61 = 10 then dD o a2 else dG o a2)))))))))))))) (fun j56 => (if ¬ r1 = 0 then bn (F_of o (r1 - 1) 1) (fun r105 => j56 r105) else j56 0))) (fun j38 => (if ¬ r1 = 0 then bn (F_of o j2 1) (fun r107 => j38 r107) else j38 0))) (fun j21 => (if ¬ r1 = 0 then bn (f_L_low (a1 >>> (4 &&& 31)) r1) (fun r109 => j21 r109) else j21 0)))) := rfl
theorem jn_p {α β : Type} {c : Prop} [Decidable c] (hc : c) (K : α → Option β) (X : Option α) (v : α) : jn K (fun j => if c then bn X (fun r => j r) else j v) = bn X K := by
  show (if c then bn X (fun r => K r) else K v) = _
  rw [if_pos hc]
theorem jn_n {α β : Type} {c : Prop} [Decidable c] (hc : ¬ c) (K : α → Option β) (X : Option α) (v : α) : jn K (fun j => if c then bn X (fun r => j r) else j v) = K v := by
  show (if c then bn X (fun r => K r) else K v) = _
  rw [if_neg hc]
def INV (o : OB) : Prop := ∃ n T z0 z1 z2 z3, SO n T z0 z1 z2 z3 o ∧ HO o
theorem dA_v {n T z0 z1 z2 z3 : Nat} {o : OB} (h : SO n T z0 z1 z2 z3 o) (hh : HO o) (a2 : Int32) : ∃ o', dA o a2 (nI n) = some (1, o') ∧ INV o' := by
  obtain ⟨⟨n8, hn⟩, ⟨T9, ht⟩, -⟩ := id h
  obtain ⟨l, hl, e1⟩ := low_v a2 (m := 16) (M := 16) rfl (by decide) (by decide)
  obtain ⟨f, hf, e2⟩ := low_v (a2 >>> (4 &&& 31)) (m := 24) (M := 24) rfl (by decide) (by decide)
  obtain ⟨e, he, e3⟩ := low_v (a2 >>> (9 &&& 31)) (m := 16) (M := 16) rfl (by decide) (by decide)
  obtain ⟨w, hw, e4⟩ := low_v (a2 >>> (13 &&& 31)) (m := 12) (M := 12) rfl (by decide) (by decide)
  obtain ⟨b, hb, e5⟩ := low_v (a2 >>> (17 &&& 31)) (m := 9) (M := 9) rfl (by decide) (by decide)
  unfold dA
  rw [e1, bn_some, e2, bn_some, e3, bn_some, e4, bn_some, e5, bn_some, show (1 : Int32) + nI e = nI (1 + e) from nI_add 1 e, show (1 : Int32) + nI w = nI (1 + w) from nI_add 1 w, show (1 : Int32) + nI b = nI (1 + b) from nI_add 1 b]
  by_cases q : n = 8
  · subst q
    rw [thing_8 hn (by omega) (by omega) (by omega) (by omega) (by omega), bn_some, if_neg (not_not_intro (show nI 8 = 8 from rfl)), if_neg (not_not_intro rfl)]
    exact ⟨o, rfl, _, _, _, _, _, _, h, hh⟩
  · obtain ⟨hv', s1, X, hX, s2⟩ := thing_v (l := l) (f := f) (e := 1 + e) (w := 1 + w) (b := 1 + b) hh (by omega) hn ht (by omega) (by omega) (by omega) (by omega) (by omega)
    have f1 := SI.thing (l := l) (f := f) (e := 1 + e) (w := 1 + w) (b := 1 + b) h (by omega) (by omega) (by omega) (by omega) (by omega) (by omega)
    obtain ⟨o2, ho2⟩ : ∃ o2 : OB, o2 = oh o (o.1.1, nI (n + 1), upd o.1.2.2.1 n (nI l), upd o.1.2.2.2.1 n (nI (1 + e)), upd o.1.2.2.2.2.1 n (nI (1 + w)), upd o.1.2.2.2.2.2.1 n (nI (1 + b)), upd o.1.2.2.2.2.2.2.1 n 0, upd o.1.2.2.2.2.2.2.2.1 n (nI T), upd o.1.2.2.2.2.2.2.2.2.1 n (nI f), upd o.1.2.2.2.2.2.2.2.2.2.1 n (-6), upd o.1.2.2.2.2.2.2.2.2.2.2.1 n 0, o.1.2.2.2.2.2.2.2.2.2.2.2.1, o.1.2.2.2.2.2.2.2.2.2.2.2.2.1, o.1.2.2.2.2.2.2.2.2.2.2.2.2.2.1, o.1.2.2.2.2.2.2.2.2.2.2.2.2.2.2.1, o.1.2.2.2.2.2.2.2.2.2.2.2.2.2.2.2) hv' := ⟨_, rfl⟩
    have h2 : SO (n + 1) T z0 z1 z2 z3 o2 := by rw [ho2]; exact f1
    have hh2 : HO o2 := by rw [ho2]; exact ⟨X, hX, s2⟩
    obtain ⟨-, p1, -, -, -, p5, p6, -⟩ := of_v h2 (i := n) (by omega)
    have k1 : LPo o2 n T = f := by
      show lpI o2.1.2.2.2.2.2.2.1 o2.1.2.2.2.2.2.2.2.1 o2.1.2.2.2.2.2.2.2.2.1 o2.1.2.2.2.2.2.2.2.2.2.1 o2.1.2.2.2.2.2.2.2.2.2.2.1 (7 + 1) n T = f
      rw [lpI_s, ho2]
      show (upd o.1.2.2.2.2.2.2.2.2.1 n (nI f) n).toInt + (upd o.1.2.2.2.2.2.2.1 n 0 n).toInt * ((T : Int) - (upd o.1.2.2.2.2.2.2.2.1 n (nI T) n).toInt) / 10 - (upd o.1.2.2.2.2.2.2.2.2.2.2.1 n 0 n).toInt + (if upd o.1.2.2.2.2.2.2.2.2.2.1 n (-6) n < 0 then 0 else _) = (f : Int)
      rw [upd_at, upd_at, upd_at, upd_at, upd_at, if_pos (by decide), nI_T (by omega), nI_T (by omega), show (0 : Int32).toInt = 0 from rfl]
      omega
    have k5 : o2.1.2.2.2.2.2.2.1 n = 0 := by rw [ho2]; exact upd_at _ _ _
    have k6 : o2.1.2.2.2.2.2.2.2.2.2.1 n = -6 := by rw [ho2]; exact upd_at _ _ _
    rw [s1, ← ho2, bn_some, if_pos (show ¬ nI n = 8 from fun z => q ((nI_eq (b := 8) (by omega) (by decide)).mp z)), if_neg (not_not_intro rfl), p1, bn_some, bn_some, k1, iI_nat, Int32.add_comm (nI f), if_neg (not_not_intro rfl), p5, bn_some, k5, Int32.zero_add, if_neg (not_not_intro rfl), p6, bn_some, k6, if_neg (not_not_intro rfl)]
    exact ⟨o2, rfl, _, _, _, _, _, _, h2, hh2⟩
theorem dB_0 {T z0 z1 z2 z3 : Nat} {o : OB} (h : SO 0 T z0 z1 z2 z3 o) (hh : HO o) (a2 j2 j3 j4 : Int32) : ∃ o', dB o a2 (nI 0) j2 j3 j4 = some (1, o') ∧ INV o' := by
  obtain ⟨s, hs, e1⟩ := low_v a2 (m := 81) (M := 81) rfl (by decide) (by decide)
  unfold dB
  rw [jn_n (not_not_intro (show nI 0 = 0 from rfl)), e1, bn_some, bd_eq, if_neg (not_not_intro (show nI 0 = 0 from rfl)), speed_0 h.1.2, bn_some, if_neg (not_not_intro rfl)]
  exact ⟨o, rfl, _, _, _, _, _, _, h, hh⟩
theorem dB_v {n T z0 z1 z2 z3 : Nat} {o : OB} (h : SO n T z0 z1 z2 z3 o) (hh : HO o) (a2 : Int32) {i : Nat} (hi_ : i < n) : ∃ o', dB o a2 (nI n) (nI i) (iI (LPo o i T) + 1000) (iI (LPo o (n - 1) T) + 1000) = some (1, o') ∧ INV o' := by
  obtain ⟨⟨n8, hn⟩, ⟨T9, ht⟩, -⟩ := id h
  obtain ⟨s, hs, e1⟩ := low_v a2 (m := 81) (M := 81) rfl (by decide) (by decide)
  have hn0 : ¬ nI n = 0 := nI_ne0 (by omega) (by omega)
  obtain ⟨-, -, -, -, -, q5, -, -⟩ := of_v h hi_
  have eb : nI s - 40 = iI ((s : Int) - 40) := by rw [← iI_nat, show (40 : Int32) = iI 40 from rfl, iI_sub]
  have hb : (iI ((s : Int) - 40)).toInt = (s : Int) - 40 := iI_T (by omega) (by omega)
  obtain ⟨hv', Q, s1, s2, s3, X, hX, s4⟩ := speed_v h hh hi_ (b := iI ((s : Int) - 40)) (by rw [hb]; omega)
  have f1 := SI.anew h s2 s3
  obtain ⟨o2, ho2⟩ : ∃ o2 : OB, o2 = oh o (o.1.1, o.1.2.1, o.1.2.2.1, o.1.2.2.2.1, o.1.2.2.2.2.1, o.1.2.2.2.2.2.1, upd o.1.2.2.2.2.2.2.1 i (iI ((s : Int) - 40)), upd o.1.2.2.2.2.2.2.2.1 i (nI T), upd o.1.2.2.2.2.2.2.2.2.1 i (iI (LPo o i T)), upd o.1.2.2.2.2.2.2.2.2.2.1 i (o.1.2.2.2.2.2.2.2.2.2.1 i), upd o.1.2.2.2.2.2.2.2.2.2.2.1 i Q, o.1.2.2.2.2.2.2.2.2.2.2.2.1, o.1.2.2.2.2.2.2.2.2.2.2.2.2.1, o.1.2.2.2.2.2.2.2.2.2.2.2.2.2.1, o.1.2.2.2.2.2.2.2.2.2.2.2.2.2.2.1, o.1.2.2.2.2.2.2.2.2.2.2.2.2.2.2.2) hv' := ⟨_, rfl⟩
  have h2 : SO n T z0 z1 z2 z3 o2 := by rw [ho2]; exact f1
  have hh2 : HO o2 := by rw [ho2]; exact ⟨X, hX, s4⟩
  have hl : ∀ k, k < n → LPo o2 k T = LPo o k T := by rw [ho2]; exact s3
  have k5 : o2.1.2.2.2.2.2.2.1 i = iI ((s : Int) - 40) := by rw [ho2]; exact upd_at _ _ _
  obtain ⟨-, p1, -, -, -, p5, -, -⟩ := of_v h2 hi_
  obtain ⟨-, r1, -, -, -, -, -, -⟩ := of_v h2 (i := n - 1) (by omega)
  unfold dB
  rw [jn_p hn0, q5, bn_some, e1, bn_some, bd_eq, if_pos hn0, eb, s1, ← ho2, bn_some, if_neg (not_not_intro rfl), p5, bn_some, k5, if_neg (not_not_intro rfl), p1, bn_some, hl i hi_, if_neg (not_not_intro rfl), nI_p (by omega), r1, bn_some, hl (n - 1) (by omega), if_neg (not_not_intro rfl)]
  exact ⟨o2, rfl, _, _, _, _, _, _, h2, hh2⟩
theorem dC_0 {T z0 z1 z2 z3 : Nat} {o : OB} (h : SO 0 T z0 z1 z2 z3 o) (hh : HO o) (a2 j3 j4 : Int32) : ∃ o', dC o a2 (nI 0) 0 j3 j4 = some (1, o') ∧ INV o' := by
  obtain ⟨s, hs, e1⟩ := low_v a2 (m := 1) (M := 0 + 1) rfl (by decide) (by decide)
  unfold dC
  rw [e1, bn_some, bd_eq, jn_n (not_not_intro (show nI 0 = 0 from rfl)), if_neg (not_not_intro (show nI 0 = 0 from rfl)), ride_0 h.1.2, bn_some, if_neg (not_not_intro rfl)]
  exact ⟨o, rfl, _, _, _, _, _, _, h, hh⟩
theorem dC_v {n T z0 z1 z2 z3 : Nat} {o : OB} (h : SO n T z0 z1 z2 z3 o) (hh : HO o) (a2 : Int32) {i : Nat} (hi_ : i < n) : ∃ o', dC o a2 (nI n) (nI i) (iI (LPo o i T) + 1000) (iI (LPo o (n - 1) T) + 1000) = some (1, o') ∧ INV o' := by
  obtain ⟨⟨n8, hn⟩, ⟨T9, ht⟩, -⟩ := id h
  obtain ⟨s, hs, e1⟩ := low_v a2 (m := i + 1) (M := nI i + 1) (nI_1 i) (by omega) (by omega)
  have hn0 : ¬ nI n = 0 := nI_ne0 (by omega) (by omega)
  obtain ⟨-, -, -, -, -, -, q6, -⟩ := of_v h hi_
  obtain ⟨u, hu1, hu2⟩ : ∃ u : Int32, (if 0 ≤ nI s - 1 then nI s - 1 else -6) = u ∧ (u = -6 ∨ ∃ j : Nat, j < i ∧ u = nI j) := by
    by_cases z : s = 0
    · exact ⟨-6, by rw [z]; rfl, Or.inl rfl⟩
    · exact ⟨nI (s - 1), by rw [nI_p (by omega), if_pos (nI_pos' (by omega))], Or.inr ⟨s - 1, by omega, rfl⟩⟩
  obtain ⟨hv', Q, s1, s2, s3, X, hX, s4⟩ := ride_v h hh hi_ hu2
  have f1 := SI.anew h s2 s3
  obtain ⟨o2, ho2⟩ : ∃ o2 : OB, o2 = oh o (o.1.1, o.1.2.1, o.1.2.2.1, o.1.2.2.2.1, o.1.2.2.2.2.1, o.1.2.2.2.2.2.1, upd o.1.2.2.2.2.2.2.1 i (o.1.2.2.2.2.2.2.1 i), upd o.1.2.2.2.2.2.2.2.1 i (nI T), upd o.1.2.2.2.2.2.2.2.2.1 i (iI (LPo o i T)), upd o.1.2.2.2.2.2.2.2.2.2.1 i u, upd o.1.2.2.2.2.2.2.2.2.2.2.1 i Q, o.1.2.2.2.2.2.2.2.2.2.2.2.1, o.1.2.2.2.2.2.2.2.2.2.2.2.2.1, o.1.2.2.2.2.2.2.2.2.2.2.2.2.2.1, o.1.2.2.2.2.2.2.2.2.2.2.2.2.2.2.1, o.1.2.2.2.2.2.2.2.2.2.2.2.2.2.2.2) hv' := ⟨_, rfl⟩
  have h2 : SO n T z0 z1 z2 z3 o2 := by rw [ho2]; exact f1
  have hh2 : HO o2 := by rw [ho2]; exact ⟨X, hX, s4⟩
  have hl : ∀ k, k < n → LPo o2 k T = LPo o k T := by rw [ho2]; exact s3
  have k6 : o2.1.2.2.2.2.2.2.2.2.2.1 i = u := by rw [ho2]; exact upd_at _ _ _
  obtain ⟨-, p1, -, -, -, -, p6, -⟩ := of_v h2 hi_
  obtain ⟨-, r1, -, -, -, -, -, -⟩ := of_v h2 (i := n - 1) (by omega)
  unfold dC
  simp only [jn_ite]
  rw [e1, bn_some, bd_eq, jn_p hn0, q6, bn_some, if_pos hn0, hu1, s1, ← ho2, bn_some, if_neg (not_not_intro rfl), p6, bn_some, k6, if_neg (not_not_intro rfl), p1, bn_some, hl i hi_, if_neg (not_not_intro rfl), nI_p (by omega), r1, bn_some, hl (n - 1) (by omega), if_neg (not_not_intro rfl), ride_x n8 h2.1.2 hi_, bn_some, if_neg (not_not_intro rfl)]
  exact ⟨o2, rfl, _, _, _, _, _, _, h2, hh2⟩
theorem dD_v {n T z0 z1 z2 z3 : Nat} {o : OB} (h : SO n T z0 z1 z2 z3 o) (hh : HO o) (a2 : Int32) : ∃ o', dD o a2 = some (1, o') ∧ INV o' := by
  obtain ⟨o', T', e, h1, h2⟩ := isShot_v h hh a2
  unfold dD
  rw [e, bn_some, gb_ok (Or.inr rfl)]
  exact ⟨o', rfl, _, _, _, _, _, _, h1, h2⟩
theorem dE_v {n T z0 z1 z2 z3 : Nat} {o : OB} (h : SO n T z0 z1 z2 z3 o) (hh : HO o) (a2 : Int32) : ∃ o', dE o a2 = some (1, o') ∧ INV o' := by
  obtain ⟨-, ⟨T9, ht⟩, -⟩ := id h
  obtain ⟨x, hx, e1⟩ := low_v a2 (m := 100) (M := 100) rfl (by decide) (by decide)
  obtain ⟨d, hd, e2⟩ := low_v (a2 >>> (7 &&& 31)) (m := 20) (M := 20) rfl (by decide) (by decide)
  obtain ⟨hv', s1, X, hX, s2⟩ := flash_v hh ht (x := x) (d := 1 + d) (by omega) (by omega) (by omega)
  have f1 := SI.flash h (x := x) (d := 1 + d) (by omega) (by omega) (by omega)
  obtain ⟨o2, ho2⟩ : ∃ o2 : OB, o2 = oh o (o.1.1, o.1.2.1, o.1.2.2.1, o.1.2.2.2.1, o.1.2.2.2.2.1, o.1.2.2.2.2.2.1, o.1.2.2.2.2.2.2.1, o.1.2.2.2.2.2.2.2.1, o.1.2.2.2.2.2.2.2.2.1, o.1.2.2.2.2.2.2.2.2.2.1, o.1.2.2.2.2.2.2.2.2.2.2.1, o.1.2.2.2.2.2.2.2.2.2.2.2.1, o.1.2.2.2.2.2.2.2.2.2.2.2.2.1, o.1.2.2.2.2.2.2.2.2.2.2.2.2.2.1, nI (T + x), nI (1 + d)) hv' := ⟨_, rfl⟩
  have h2 : SO n T z0 z1 z2 z3 o2 := by rw [ho2]; exact f1
  have hh2 : HO o2 := by rw [ho2]; exact ⟨X, hX, s2⟩
  have k1 : o2.1.2.2.2.2.2.2.2.2.2.2.2.2.2.2.1 = nI (T + x) := by rw [ho2]
  have k2 : o2.1.2.2.2.2.2.2.2.2.2.2.2.2.2.2.2 = nI (1 + d) := by rw [ho2]
  have k3 : o2.1.2.2.2.2.2.2.2.2.2.2.2.2.1 = nI T := h2.2.1.2
  unfold dE
  rw [e1, bn_some, e2, bn_some, bd_eq, show (1 : Int32) + nI d = nI (1 + d) from nI_add 1 d, s1, ← ho2, bn_some, cnt_0, bn_some, k3, nI_add, if_neg (not_not_intro rfl), cnt_6, bn_some, k1, bn_some, nI_add, if_neg (not_not_intro rfl), cnt_7, bn_some, k2, if_neg (not_not_intro rfl)]
  exact ⟨o2, rfl, _, _, _, _, _, _, h2, hh2⟩
theorem cnt_se (o : OB) {k : Nat} (hk : k < 4) : F_count o (8 + nI k) = some (o.1.1 k) := by
  rcases (show k = 0 ∨ k = 1 ∨ k = 2 ∨ k = 3 by omega) with rfl | rfl | rfl | rfl
  · rw [show (8 : Int32) + nI 0 = 8 from rfl, cnt_8]
  · rw [show (8 : Int32) + nI 1 = 9 from rfl, cnt_9]
  · rw [show (8 : Int32) + nI 2 = 10 from rfl, cnt_10]
  · rw [show (8 : Int32) + nI 3 = 11 from rfl, cnt_11]
theorem set_go {n T z0 z1 z2 z3 : Nat} {o : OB} (h : SO n T z0 z1 z2 z3 o) (hh : HO o) {k z : Nat} (hk : k < 4) (y0 : k = 0 → z ≤ 9) (y1 : k = 1 → 1 ≤ z ∧ z ≤ 20) (y2 : k = 2 → z ≤ 40) (y3 : k = 3 → 1 ≤ z ∧ z ≤ 4) (hw : f_X7_within (nI z) (fLe k) (fMo k) = some 1) : ∃ o', bn (F_count o (8 + nI k)) (fun r83 => bn (F_set o (nI k) (nI z)) (fun r84 => (if ¬ r84.1 = r83 then none else bn (F_count r84.2 (8 + nI k)) (fun r85 => (if ¬ r85 = nI z then none else some ((1 : Int32), r84.2)))))) = some (1, o') ∧ INV o' := by
  obtain ⟨hv', s1, X, hX, s2⟩ := set_v hh hk hw
  obtain ⟨x0, x1, x2, x3, f1⟩ := SI.set h hk y0 y1 y2 y3
  obtain ⟨o2, ho2⟩ : ∃ o2 : OB, o2 = oh o (upd o.1.1 k (nI z), o.1.2.1, o.1.2.2.1, o.1.2.2.2.1, o.1.2.2.2.2.1, o.1.2.2.2.2.2.1, o.1.2.2.2.2.2.2.1, o.1.2.2.2.2.2.2.2.1, o.1.2.2.2.2.2.2.2.2.1, o.1.2.2.2.2.2.2.2.2.2.1, o.1.2.2.2.2.2.2.2.2.2.2.1, o.1.2.2.2.2.2.2.2.2.2.2.2.1, o.1.2.2.2.2.2.2.2.2.2.2.2.2.1, o.1.2.2.2.2.2.2.2.2.2.2.2.2.2.1, o.1.2.2.2.2.2.2.2.2.2.2.2.2.2.2.1, o.1.2.2.2.2.2.2.2.2.2.2.2.2.2.2.2) hv' := ⟨_, rfl⟩
  have h2 : SO n T x0 x1 x2 x3 o2 := by rw [ho2]; exact f1
  have hh2 : HO o2 := by rw [ho2]; exact ⟨X, hX, s2⟩
  have k1 : o2.1.1 k = nI z := by rw [ho2]; exact upd_at _ _ _
  rw [cnt_se o hk, bn_some, s1, ← ho2, bn_some, if_neg (not_not_intro rfl), cnt_se o2 hk, bn_some, k1, if_neg (not_not_intro rfl)]
  exact ⟨o2, rfl, _, _, _, _, _, _, h2, hh2⟩
theorem dF_v {n T z0 z1 z2 z3 : Nat} {o : OB} (h : SO n T z0 z1 z2 z3 o) (hh : HO o) (a1 a2 : Int32) : ∃ o', dF o a1 a2 = some (1, o') ∧ INV o' := by
  obtain ⟨k, hk, e1⟩ := low_v (a1 >>> (4 &&& 31)) (m := 4) (M := 4) rfl (by decide) (by decide)
  unfold dF
  rw [e1, bn_some, jn_eq]
  rcases (show k = 0 ∨ k = 1 ∨ k = 2 ∨ k = 3 by omega) with rfl | rfl | rfl | rfl
  · obtain ⟨z, hz, e2⟩ := low_v a2 (m := 10) (M := 10) rfl (by decide) (by decide)
    rw [if_neg (not_not_intro (show nI 0 = 0 from rfl)), e2, bn_some]
    exact set_go h hh (k := 0) (by decide) (fun _ => by omega) (fun y => absurd y (by decide)) (fun y => absurd y (by decide)) (fun y => absurd y (by decide)) (wi_1 (a := 0) (b := 9) (by omega) (by omega) (by decide))
  · obtain ⟨z, hz, e2⟩ := low_v a2 (m := 20) (M := 20) rfl (by decide) (by decide)
    rw [if_pos (show ¬ nI 1 = 0 by decide), if_neg (not_not_intro (show nI 1 = 1 from rfl)), e2, bn_some, show (1 : Int32) + nI z = nI (1 + z) from nI_add 1 z]
    exact set_go h hh (k := 1) (by decide) (fun y => absurd y (by decide)) (fun _ => by omega) (fun y => absurd y (by decide)) (fun y => absurd y (by decide)) (wi_1 (a := 1) (b := 20) (by omega) (by omega) (by decide))
  · obtain ⟨z, hz, e2⟩ := low_v a2 (m := 41) (M := 41) rfl (by decide) (by decide)
    rw [if_pos (show ¬ nI 2 = 0 by decide), if_pos (show ¬ nI 2 = 1 by decide), if_neg (not_not_intro (show nI 2 = 2 from rfl)), e2, bn_some]
    exact set_go h hh (k := 2) (by decide) (fun y => absurd y (by decide)) (fun y => absurd y (by decide)) (fun _ => by omega) (fun y => absurd y (by decide)) (wi_1 (a := 0) (b := 40) (by omega) (by omega) (by decide))
  · obtain ⟨z, hz, e2⟩ := low_v a2 (m := 4) (M := 4) rfl (by decide) (by decide)
    rw [if_pos (show ¬ nI 3 = 0 by decide), if_pos (show ¬ nI 3 = 1 by decide), if_pos (show ¬ nI 3 = 2 by decide), e2, bn_some, show (1 : Int32) + nI z = nI (1 + z) from nI_add 1 z]
    exact set_go h hh (k := 3) (by decide) (fun y => absurd y (by decide)) (fun y => absurd y (by decide)) (fun y => absurd y (by decide)) (fun _ => by omega) (wi_1 (a := 1) (b := 4) (by omega) (by omega) (by decide))
theorem dG_v {n T z0 z1 z2 z3 : Nat} {o : OB} (h : SO n T z0 z1 z2 z3 o) (hh : HO o) (a2 : Int32) : ∃ o', dG o a2 = some (1, o') ∧ INV o' := by
  obtain ⟨-, ⟨T9, ht⟩, -⟩ := id h
  obtain ⟨t, ht30, e1⟩ := low_v a2 (m := 30) (M := 30) rfl (by decide) (by decide)
  unfold dG
  rw [cnt_0, bn_some, e1, bn_some, bd_eq, ht, show (1 : Int32) + nI t = nI (1 + t) from nI_add 1 t, nI_add]
  simp only [jn_ite]
  by_cases q : T + (1 + t) ≤ 9999
  · obtain ⟨hv', s1, X, hX, s2⟩ := pass_v hh ht (t := 1 + t) (by omega) (by omega) q
    have f1 := SI.retime h (T' := T + (1 + t)) (by omega) q h.2.2.2.2.2.2.2.2.2.2
    obtain ⟨o2, ho2⟩ : ∃ o2 : OB, o2 = oh o (o.1.1, o.1.2.1, o.1.2.2.1, o.1.2.2.2.1, o.1.2.2.2.2.1, o.1.2.2.2.2.2.1, o.1.2.2.2.2.2.2.1, o.1.2.2.2.2.2.2.2.1, o.1.2.2.2.2.2.2.2.2.1, o.1.2.2.2.2.2.2.2.2.2.1, o.1.2.2.2.2.2.2.2.2.2.2.1, o.1.2.2.2.2.2.2.2.2.2.2.2.1, nI (T + (1 + t)), o.1.2.2.2.2.2.2.2.2.2.2.2.2.2.1, o.1.2.2.2.2.2.2.2.2.2.2.2.2.2.2.1, o.1.2.2.2.2.2.2.2.2.2.2.2.2.2.2.2) hv' := ⟨_, rfl⟩
    have h2 : SO n (T + (1 + t)) z0 z1 z2 z3 o2 := by rw [ho2]; exact f1
    have hh2 : HO o2 := by rw [ho2]; exact ⟨X, hX, s2⟩
    rw [s1, ← ho2, bn_some, if_pos (show nI (T + (1 + t)) ≤ 9999 from nI_le (b := 9999) q (by decide)), if_neg (not_not_intro rfl)]
    exact ⟨o2, rfl, _, _, _, _, _, _, h2, hh2⟩
  · rw [pass_5 ht T9 (t := 1 + t) (by omega) (by omega) (by omega), bn_some, if_neg (show ¬ nI (T + (1 + t)) ≤ 9999 from nI_ge (a := 9999) (by omega) (by omega)), if_neg (not_not_intro rfl)]
    exact ⟨o, rfl, _, _, _, _, _, _, h, hh⟩
theorem does_v {n T z0 z1 z2 z3 : Nat} {o : OB} (h : SO n T z0 z1 z2 z3 o) (hh : HO o) (a1 a2 : Int32) : ∃ o', f_L_does o a1 a2 = some (1, o') ∧ INV o' := by
  obtain ⟨⟨n8, hn⟩, ⟨T9, ht⟩, -⟩ := id h
  obtain ⟨k, hk, ek⟩ := low_v a1 (m := 14) (M := 14) rfl (by decide) (by decide)
  rw [does_eq, cnt_1, bn_some, hn]
  by_cases n0 : n = 0
  · subst n0
    have c0 : ¬ ¬ nI 0 = 0 := not_not_intro rfl
    rw [jn_n c0, jn_n c0, jn_n c0, ek, bn_some, bd_eq]
    rcases (show k = 0 ∨ k = 1 ∨ k = 2 ∨ k = 3 ∨ k = 4 ∨ k = 5 ∨ k = 6 ∨ k = 7 ∨ k = 8 ∨ k = 9 ∨ k = 10 ∨ k = 11 ∨ k = 12 ∨ k = 13 by omega) with rfl | rfl | rfl | rfl | rfl | rfl | rfl | rfl | rfl | rfl | rfl | rfl | rfl | rfl
    · rw [if_pos (show nI 0 = 0 from rfl)]
      exact dA_v h hh a2
    · rw [if_neg (show ¬ nI 1 = 0 by decide), if_pos (show nI 1 = 1 from rfl)]
      exact dA_v h hh a2
    · rw [if_neg (show ¬ nI 2 = 0 by decide), if_neg (show ¬ nI 2 = 1 by decide), if_pos (show nI 2 = 2 from rfl)]
      exact dA_v h hh a2
    · rw [if_neg (show ¬ nI 3 = 0 by decide), if_neg (show ¬ nI 3 = 1 by decide), if_neg (show ¬ nI 3 = 2 by decide), if_pos (show nI 3 = 3 from rfl)]
      exact dB_0 h hh a2 _ _ _
    · rw [if_neg (show ¬ nI 4 = 0 by decide), if_neg (show ¬ nI 4 = 1 by decide), if_neg (show ¬ nI 4 = 2 by decide), if_neg (show ¬ nI 4 = 3 by decide), if_pos (show nI 4 = 4 from rfl)]
      exact dB_0 h hh a2 _ _ _
    · rw [if_neg (show ¬ nI 5 = 0 by decide), if_neg (show ¬ nI 5 = 1 by decide), if_neg (show ¬ nI 5 = 2 by decide), if_neg (show ¬ nI 5 = 3 by decide), if_neg (show ¬ nI 5 = 4 by decide), if_pos (show nI 5 = 5 from rfl)]
      exact dC_0 h hh a2 _ _
    · rw [if_neg (show ¬ nI 6 = 0 by decide), if_neg (show ¬ nI 6 = 1 by decide), if_neg (show ¬ nI 6 = 2 by decide), if_neg (show ¬ nI 6 = 3 by decide), if_neg (show ¬ nI 6 = 4 by decide), if_neg (show ¬ nI 6 = 5 by decide), if_pos (show nI 6 = 6 from rfl)]
      exact dC_0 h hh a2 _ _
    · rw [if_neg (show ¬ nI 7 = 0 by decide), if_neg (show ¬ nI 7 = 1 by decide), if_neg (show ¬ nI 7 = 2 by decide), if_neg (show ¬ nI 7 = 3 by decide), if_neg (show ¬ nI 7 = 4 by decide), if_neg (show ¬ nI 7 = 5 by decide), if_neg (show ¬ nI 7 = 6 by decide), if_pos (show nI 7 = 7 from rfl)]
      exact dE_v h hh a2
    · rw [if_neg (show ¬ nI 8 = 0 by decide), if_neg (show ¬ nI 8 = 1 by decide), if_neg (show ¬ nI 8 = 2 by decide), if_neg (show ¬ nI 8 = 3 by decide), if_neg (show ¬ nI 8 = 4 by decide), if_neg (show ¬ nI 8 = 5 by decide), if_neg (show ¬ nI 8 = 6 by decide), if_neg (show ¬ nI 8 = 7 by decide), if_pos (show nI 8 = 8 from rfl)]
      exact dF_v h hh a1 a2
    · rw [if_neg (show ¬ nI 9 = 0 by decide), if_neg (show ¬ nI 9 = 1 by decide), if_neg (show ¬ nI 9 = 2 by decide), if_neg (show ¬ nI 9 = 3 by decide), if_neg (show ¬ nI 9 = 4 by decide), if_neg (show ¬ nI 9 = 5 by decide), if_neg (show ¬ nI 9 = 6 by decide), if_neg (show ¬ nI 9 = 7 by decide), if_neg (show ¬ nI 9 = 8 by decide), if_pos (show nI 9 = 9 from rfl)]
      exact dD_v h hh a2
    · rw [if_neg (show ¬ nI 10 = 0 by decide), if_neg (show ¬ nI 10 = 1 by decide), if_neg (show ¬ nI 10 = 2 by decide), if_neg (show ¬ nI 10 = 3 by decide), if_neg (show ¬ nI 10 = 4 by decide), if_neg (show ¬ nI 10 = 5 by decide), if_neg (show ¬ nI 10 = 6 by decide), if_neg (show ¬ nI 10 = 7 by decide), if_neg (show ¬ nI 10 = 8 by decide), if_neg (show ¬ nI 10 = 9 by decide), if_pos (show nI 10 = 10 from rfl)]
      exact dD_v h hh a2
    · rw [if_neg (show ¬ nI 11 = 0 by decide), if_neg (show ¬ nI 11 = 1 by decide), if_neg (show ¬ nI 11 = 2 by decide), if_neg (show ¬ nI 11 = 3 by decide), if_neg (show ¬ nI 11 = 4 by decide), if_neg (show ¬ nI 11 = 5 by decide), if_neg (show ¬ nI 11 = 6 by decide), if_neg (show ¬ nI 11 = 7 by decide), if_neg (show ¬ nI 11 = 8 by decide), if_neg (show ¬ nI 11 = 9 by decide), if_neg (show ¬ nI 11 = 10 by decide)]
      exact dG_v h hh a2
    · rw [if_neg (show ¬ nI 12 = 0 by decide), if_neg (show ¬ nI 12 = 1 by decide), if_neg (show ¬ nI 12 = 2 by decide), if_neg (show ¬ nI 12 = 3 by decide), if_neg (show ¬ nI 12 = 4 by decide), if_neg (show ¬ nI 12 = 5 by decide), if_neg (show ¬ nI 12 = 6 by decide), if_neg (show ¬ nI 12 = 7 by decide), if_neg (show ¬ nI 12 = 8 by decide), if_neg (show ¬ nI 12 = 9 by decide), if_neg (show ¬ nI 12 = 10 by decide)]
      exact dG_v h hh a2
    · rw [if_neg (show ¬ nI 13 = 0 by decide), if_neg (show ¬ nI 13 = 1 by decide), if_neg (show ¬ nI 13 = 2 by decide), if_neg (show ¬ nI 13 = 3 by decide), if_neg (show ¬ nI 13 = 4 by decide), if_neg (show ¬ nI 13 = 5 by decide), if_neg (show ¬ nI 13 = 6 by decide), if_neg (show ¬ nI 13 = 7 by decide), if_neg (show ¬ nI 13 = 8 by decide), if_neg (show ¬ nI 13 = 9 by decide), if_neg (show ¬ nI 13 = 10 by decide)]
      exact dG_v h hh a2
  · have c0 : ¬ nI n = 0 := nI_ne0 (by omega) (by omega)
    obtain ⟨i, hi_, ei⟩ := low_v (a1 >>> (4 &&& 31)) (m := n) (M := nI n) rfl (by omega) (by omega)
    obtain ⟨-, p1, -, -, -, -, -, -⟩ := of_v h hi_
    obtain ⟨-, r1, -, -, -, -, -, -⟩ := of_v h (i := n - 1) (by omega)
    rw [jn_p c0, ei, bn_some, jn_p c0, p1, bn_some, jn_p c0, nI_p (by omega), r1, bn_some, ek, bn_some, bd_eq]
    rcases (show k = 0 ∨ k = 1 ∨ k = 2 ∨ k = 3 ∨ k = 4 ∨ k = 5 ∨ k = 6 ∨ k = 7 ∨ k = 8 ∨ k = 9 ∨ k = 10 ∨ k = 11 ∨ k = 12 ∨ k = 13 by omega) with rfl | rfl | rfl | rfl | rfl | rfl | rfl | rfl | rfl | rfl | rfl | rfl | rfl | rfl
    · rw [if_pos (show nI 0 = 0 from rfl)]
      exact dA_v h hh a2
    · rw [if_neg (show ¬ nI 1 = 0 by decide), if_pos (show nI 1 = 1 from rfl)]
      exact dA_v h hh a2
    · rw [if_neg (show ¬ nI 2 = 0 by decide), if_neg (show ¬ nI 2 = 1 by decide), if_pos (show nI 2 = 2 from rfl)]
      exact dA_v h hh a2
    · rw [if_neg (show ¬ nI 3 = 0 by decide), if_neg (show ¬ nI 3 = 1 by decide), if_neg (show ¬ nI 3 = 2 by decide), if_pos (show nI 3 = 3 from rfl)]
      exact dB_v h hh a2 hi_
    · rw [if_neg (show ¬ nI 4 = 0 by decide), if_neg (show ¬ nI 4 = 1 by decide), if_neg (show ¬ nI 4 = 2 by decide), if_neg (show ¬ nI 4 = 3 by decide), if_pos (show nI 4 = 4 from rfl)]
      exact dB_v h hh a2 hi_
    · rw [if_neg (show ¬ nI 5 = 0 by decide), if_neg (show ¬ nI 5 = 1 by decide), if_neg (show ¬ nI 5 = 2 by decide), if_neg (show ¬ nI 5 = 3 by decide), if_neg (show ¬ nI 5 = 4 by decide), if_pos (show nI 5 = 5 from rfl)]
      exact dC_v h hh a2 hi_
    · rw [if_neg (show ¬ nI 6 = 0 by decide), if_neg (show ¬ nI 6 = 1 by decide), if_neg (show ¬ nI 6 = 2 by decide), if_neg (show ¬ nI 6 = 3 by decide), if_neg (show ¬ nI 6 = 4 by decide), if_neg (show ¬ nI 6 = 5 by decide), if_pos (show nI 6 = 6 from rfl)]
      exact dC_v h hh a2 hi_
    · rw [if_neg (show ¬ nI 7 = 0 by decide), if_neg (show ¬ nI 7 = 1 by decide), if_neg (show ¬ nI 7 = 2 by decide), if_neg (show ¬ nI 7 = 3 by decide), if_neg (show ¬ nI 7 = 4 by decide), if_neg (show ¬ nI 7 = 5 by decide), if_neg (show ¬ nI 7 = 6 by decide), if_pos (show nI 7 = 7 from rfl)]
      exact dE_v h hh a2
    · rw [if_neg (show ¬ nI 8 = 0 by decide), if_neg (show ¬ nI 8 = 1 by decide), if_neg (show ¬ nI 8 = 2 by decide), if_neg (show ¬ nI 8 = 3 by decide), if_neg (show ¬ nI 8 = 4 by decide), if_neg (show ¬ nI 8 = 5 by decide), if_neg (show ¬ nI 8 = 6 by decide), if_neg (show ¬ nI 8 = 7 by decide), if_pos (show nI 8 = 8 from rfl)]
      exact dF_v h hh a1 a2
    · rw [if_neg (show ¬ nI 9 = 0 by decide), if_neg (show ¬ nI 9 = 1 by decide), if_neg (show ¬ nI 9 = 2 by decide), if_neg (show ¬ nI 9 = 3 by decide), if_neg (show ¬ nI 9 = 4 by decide), if_neg (show ¬ nI 9 = 5 by decide), if_neg (show ¬ nI 9 = 6 by decide), if_neg (show ¬ nI 9 = 7 by decide), if_neg (show ¬ nI 9 = 8 by decide), if_pos (show nI 9 = 9 from rfl)]
      exact dD_v h hh a2
    · rw [if_neg (show ¬ nI 10 = 0 by decide), if_neg (show ¬ nI 10 = 1 by decide), if_neg (show ¬ nI 10 = 2 by decide), if_neg (show ¬ nI 10 = 3 by decide), if_neg (show ¬ nI 10 = 4 by decide), if_neg (show ¬ nI 10 = 5 by decide), if_neg (show ¬ nI 10 = 6 by decide), if_neg (show ¬ nI 10 = 7 by decide), if_neg (show ¬ nI 10 = 8 by decide), if_neg (show ¬ nI 10 = 9 by decide), if_pos (show nI 10 = 10 from rfl)]
      exact dD_v h hh a2
    · rw [if_neg (show ¬ nI 11 = 0 by decide), if_neg (show ¬ nI 11 = 1 by decide), if_neg (show ¬ nI 11 = 2 by decide), if_neg (show ¬ nI 11 = 3 by decide), if_neg (show ¬ nI 11 = 4 by decide), if_neg (show ¬ nI 11 = 5 by decide), if_neg (show ¬ nI 11 = 6 by decide), if_neg (show ¬ nI 11 = 7 by decide), if_neg (show ¬ nI 11 = 8 by decide), if_neg (show ¬ nI 11 = 9 by decide), if_neg (show ¬ nI 11 = 10 by decide)]
      exact dG_v h hh a2
    · rw [if_neg (show ¬ nI 12 = 0 by decide), if_neg (show ¬ nI 12 = 1 by decide), if_neg (show ¬ nI 12 = 2 by decide), if_neg (show ¬ nI 12 = 3 by decide), if_neg (show ¬ nI 12 = 4 by decide), if_neg (show ¬ nI 12 = 5 by decide), if_neg (show ¬ nI 12 = 6 by decide), if_neg (show ¬ nI 12 = 7 by decide), if_neg (show ¬ nI 12 = 8 by decide), if_neg (show ¬ nI 12 = 9 by decide), if_neg (show ¬ nI 12 = 10 by decide)]
      exact dG_v h hh a2
    · rw [if_neg (show ¬ nI 13 = 0 by decide), if_neg (show ¬ nI 13 = 1 by decide), if_neg (show ¬ nI 13 = 2 by decide), if_neg (show ¬ nI 13 = 3 by decide), if_neg (show ¬ nI 13 = 4 by decide), if_neg (show ¬ nI 13 = 5 by decide), if_neg (show ¬ nI 13 = 6 by decide), if_neg (show ¬ nI 13 = 7 by decide), if_neg (show ¬ nI 13 = 8 by decide), if_neg (show ¬ nI 13 = 9 by decide), if_neg (show ¬ nI 13 = 10 by decide)]
      exact dG_v h hh a2
