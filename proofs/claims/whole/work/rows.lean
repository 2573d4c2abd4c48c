section
-- ===== PART A: goes FIRST, ahead of the names: the tables' words, and 'selects' of the private methods out of them =====
/-- a private method of a class that the tables say can be made, by its rows of tables_1 -/
def lw_okq (q : MethodName × Nat) : Prop := (q.1.cls ≠ "java/lang/invoke/MethodHandle" ∧ q.1.cls ≠ "java/lang/invoke/VarHandle") ∧ Cond.instantiable q.1.cls q.2 ∈ tables_1 ∧ Cond.privateMethod q.1 ∈ tables_1 ∧ Cond.instanceMethod q.1 ∈ tables_1
theorem lw_p0 : lw_okq (⟨"LeaningLines", "errorOfThing", "(IIIII)I"⟩, 6) := ⟨⟨by decide +kernel, by decide +kernel⟩, List.mem_of_getElem? (i := 15) (by decide +kernel), List.mem_of_getElem? (i := 262) (by decide +kernel), List.mem_of_getElem? (i := 263) (by decide +kernel)⟩
theorem lw_p1 : lw_okq (⟨"LeaningLines", "isThing", "(I)Z"⟩, 6) := ⟨⟨by decide +kernel, by decide +kernel⟩, List.mem_of_getElem? (i := 15) (by decide +kernel), List.mem_of_getElem? (i := 277) (by decide +kernel), List.mem_of_getElem? (i := 278) (by decide +kernel)⟩
theorem lw_p2 : lw_okq (⟨"LeaningLines", "errorOfFlash", "(II)I"⟩, 6) := ⟨⟨by decide +kernel, by decide +kernel⟩, List.mem_of_getElem? (i := 15) (by decide +kernel), List.mem_of_getElem? (i := 306) (by decide +kernel), List.mem_of_getElem? (i := 307) (by decide +kernel)⟩
theorem lw_p3 : lw_okq (⟨"LeaningLines", "errorOfPass", "(I)I"⟩, 6) := ⟨⟨by decide +kernel, by decide +kernel⟩, List.mem_of_getElem? (i := 15) (by decide +kernel), List.mem_of_getElem? (i := 318) (by decide +kernel), List.mem_of_getElem? (i := 319) (by decide +kernel)⟩
theorem lw_p4 : lw_okq (⟨"LeaningLines", "errorOfShoot", "()I"⟩, 6) := ⟨⟨by decide +kernel, by decide +kernel⟩, List.mem_of_getElem? (i := 15) (by decide +kernel), List.mem_of_getElem? (i := 326) (by decide +kernel), List.mem_of_getElem? (i := 327) (by decide +kernel)⟩
theorem lw_p5 : lw_okq (⟨"LeaningLines$Camera", "exposeLine", "(LLeaningLines$Scene;III[I)V"⟩, 3) := ⟨⟨by decide +kernel, by decide +kernel⟩, List.mem_of_getElem? (i := 130) (by decide +kernel), List.mem_of_getElem? (i := 343) (by decide +kernel), List.mem_of_getElem? (i := 344) (by decide +kernel)⟩
theorem lw_p6 : lw_okq (⟨"LeaningLines$Camera", "findRises", "(LLeaningLines$Things;II)V"⟩, 3) := ⟨⟨by decide +kernel, by decide +kernel⟩, List.mem_of_getElem? (i := 130) (by decide +kernel), List.mem_of_getElem? (i := 355) (by decide +kernel), List.mem_of_getElem? (i := 356) (by decide +kernel)⟩
theorem lw_p7 : lw_okq (⟨"LeaningLines$Camera", "addLight", "(I[I)V"⟩, 3) := ⟨⟨by decide +kernel, by decide +kernel⟩, List.mem_of_getElem? (i := 130) (by decide +kernel), List.mem_of_getElem? (i := 372) (by decide +kernel), List.mem_of_getElem? (i := 373) (by decide +kernel)⟩
theorem lw_p8 : lw_okq (⟨"LeaningLines$Reader", "readThing", "()Z"⟩, 4) := ⟨⟨by decide +kernel, by decide +kernel⟩, List.mem_of_getElem? (i := 181) (by decide +kernel), List.mem_of_getElem? (i := 519) (by decide +kernel), List.mem_of_getElem? (i := 520) (by decide +kernel)⟩
theorem lw_p9 : lw_okq (⟨"LeaningLines$Reader", "readNumber", "(I)Z"⟩, 4) := ⟨⟨by decide +kernel, by decide +kernel⟩, List.mem_of_getElem? (i := 181) (by decide +kernel), List.mem_of_getElem? (i := 523) (by decide +kernel), List.mem_of_getElem? (i := 524) (by decide +kernel)⟩
theorem lw_p10 : lw_okq (⟨"LeaningLines$Reader", "readDigit", "(I)Z"⟩, 4) := ⟨⟨by decide +kernel, by decide +kernel⟩, List.mem_of_getElem? (i := 181) (by decide +kernel), List.mem_of_getElem? (i := 527) (by decide +kernel), List.mem_of_getElem? (i := 528) (by decide +kernel)⟩
theorem lw_p11 : lw_okq (⟨"LeaningLines", "carryOutOrder", "()I"⟩, 6) := ⟨⟨by decide +kernel, by decide +kernel⟩, List.mem_of_getElem? (i := 15) (by decide +kernel), List.mem_of_getElem? (i := 539) (by decide +kernel), List.mem_of_getElem? (i := 540) (by decide +kernel)⟩
theorem lw_p12 : lw_okq (⟨"LeaningLines", "carryOutThing", "()I"⟩, 6) := ⟨⟨by decide +kernel, by decide +kernel⟩, List.mem_of_getElem? (i := 15) (by decide +kernel), List.mem_of_getElem? (i := 543) (by decide +kernel), List.mem_of_getElem? (i := 544) (by decide +kernel)⟩
theorem lw_p13 : lw_okq (⟨"LeaningLines", "carryOutFlash", "()I"⟩, 6) := ⟨⟨by decide +kernel, by decide +kernel⟩, List.mem_of_getElem? (i := 15) (by decide +kernel), List.mem_of_getElem? (i := 547) (by decide +kernel), List.mem_of_getElem? (i := 548) (by decide +kernel)⟩
theorem lw_p14 : lw_okq (⟨"LeaningLines", "carryOutPass", "()I"⟩, 6) := ⟨⟨by decide +kernel, by decide +kernel⟩, List.mem_of_getElem? (i := 15) (by decide +kernel), List.mem_of_getElem? (i := 551) (by decide +kernel), List.mem_of_getElem? (i := 552) (by decide +kernel)⟩
theorem lw_p15 : lw_okq (⟨"LeaningLinesModel", "remembers", "()V"⟩, 7) := ⟨⟨by decide +kernel, by decide +kernel⟩, List.mem_of_getElem? (i := 573) (by decide +kernel), List.mem_of_getElem? (i := 609) (by decide +kernel), List.mem_of_getElem? (i := 610) (by decide +kernel)⟩
def lw_privs_1 : List (MethodName × Nat) := [(⟨"LeaningLines", "errorOfThing", "(IIIII)I"⟩, 6), (⟨"LeaningLines", "isThing", "(I)Z"⟩, 6), (⟨"LeaningLines", "errorOfFlash", "(II)I"⟩, 6), (⟨"LeaningLines", "errorOfPass", "(I)I"⟩, 6), (⟨"LeaningLines", "errorOfShoot", "()I"⟩, 6), (⟨"LeaningLines$Camera", "exposeLine", "(LLeaningLines$Scene;III[I)V"⟩, 3), (⟨"LeaningLines$Camera", "findRises", "(LLeaningLines$Things;II)V"⟩, 3), (⟨"LeaningLines$Camera", "addLight", "(I[I)V"⟩, 3), (⟨"LeaningLines$Reader", "readThing", "()Z"⟩, 4), (⟨"LeaningLines$Reader", "readNumber", "(I)Z"⟩, 4), (⟨"LeaningLines$Reader", "readDigit", "(I)Z"⟩, 4), (⟨"LeaningLines", "carryOutOrder", "()I"⟩, 6), (⟨"LeaningLines", "carryOutThing", "()I"⟩, 6), (⟨"LeaningLines", "carryOutFlash", "()I"⟩, 6), (⟨"LeaningLines", "carryOutPass", "()I"⟩, 6), (⟨"LeaningLinesModel", "remembers", "()V"⟩, 7)]
theorem lw_r1 : ∀ q ∈ lw_privs_1, lw_okq q := List.forall_mem_cons.mpr ⟨lw_p0, List.forall_mem_cons.mpr ⟨lw_p1, List.forall_mem_cons.mpr ⟨lw_p2, List.forall_mem_cons.mpr ⟨lw_p3, List.forall_mem_cons.mpr ⟨lw_p4, List.forall_mem_cons.mpr ⟨lw_p5, List.forall_mem_cons.mpr ⟨lw_p6, List.forall_mem_cons.mpr ⟨lw_p7, List.forall_mem_cons.mpr ⟨lw_p8, List.forall_mem_cons.mpr ⟨lw_p9, List.forall_mem_cons.mpr ⟨lw_p10, List.forall_mem_cons.mpr ⟨lw_p11, List.forall_mem_cons.mpr ⟨lw_p12, List.forall_mem_cons.mpr ⟨lw_p13, List.forall_mem_cons.mpr ⟨lw_p14, List.forall_mem_cons.mpr ⟨lw_p15, fun _ h => absurd h List.not_mem_nil⟩⟩⟩⟩⟩⟩⟩⟩⟩⟩⟩⟩⟩⟩⟩⟩
theorem lw_p16 : lw_okq (⟨"LeaningLinesModel", "whyNotThing", "(IIIII)I"⟩, 7) := ⟨⟨by decide +kernel, by decide +kernel⟩, List.mem_of_getElem? (i := 573) (by decide +kernel), List.mem_of_getElem? (i := 617) (by decide +kernel), List.mem_of_getElem? (i := 618) (by decide +kernel)⟩
theorem lw_p17 : lw_okq (⟨"LeaningLinesModel", "comes", "(IIIII)I"⟩, 7) := ⟨⟨by decide +kernel, by decide +kernel⟩, List.mem_of_getElem? (i := 573) (by decide +kernel), List.mem_of_getElem? (i := 621) (by decide +kernel), List.mem_of_getElem? (i := 622) (by decide +kernel)⟩
theorem lw_p18 : lw_okq (⟨"LeaningLinesModel", "isThing", "(I)Z"⟩, 7) := ⟨⟨by decide +kernel, by decide +kernel⟩, List.mem_of_getElem? (i := 573) (by decide +kernel), List.mem_of_getElem? (i := 629) (by decide +kernel), List.mem_of_getElem? (i := 630) (by decide +kernel)⟩
theorem lw_p19 : lw_okq (⟨"LeaningLinesModel", "its", "(II)I"⟩, 7) := ⟨⟨by decide +kernel, by decide +kernel⟩, List.mem_of_getElem? (i := 573) (by decide +kernel), List.mem_of_getElem? (i := 633) (by decide +kernel), List.mem_of_getElem? (i := 634) (by decide +kernel)⟩
theorem lw_p20 : lw_okq (⟨"LeaningLinesModel", "anew", "(III)V"⟩, 7) := ⟨⟨by decide +kernel, by decide +kernel⟩, List.mem_of_getElem? (i := 573) (by decide +kernel), List.mem_of_getElem? (i := 637) (by decide +kernel), List.mem_of_getElem? (i := 638) (by decide +kernel)⟩
theorem lw_p21 : lw_okq (⟨"LeaningLinesModel", "left", "(II)I"⟩, 7) := ⟨⟨by decide +kernel, by decide +kernel⟩, List.mem_of_getElem? (i := 573) (by decide +kernel), List.mem_of_getElem? (i := 641) (by decide +kernel), List.mem_of_getElem? (i := 642) (by decide +kernel)⟩
theorem lw_p22 : lw_okq (⟨"LeaningLinesModel", "flashes", "(II)I"⟩, 7) := ⟨⟨by decide +kernel, by decide +kernel⟩, List.mem_of_getElem? (i := 573) (by decide +kernel), List.mem_of_getElem? (i := 659) (by decide +kernel), List.mem_of_getElem? (i := 660) (by decide +kernel)⟩
theorem lw_p23 : lw_okq (⟨"LeaningLinesModel", "whyNotPass", "(I)I"⟩, 7) := ⟨⟨by decide +kernel, by decide +kernel⟩, List.mem_of_getElem? (i := 573) (by decide +kernel), List.mem_of_getElem? (i := 667) (by decide +kernel), List.mem_of_getElem? (i := 668) (by decide +kernel)⟩
theorem lw_p24 : lw_okq (⟨"LeaningLinesModel", "whyNotShoot", "()I"⟩, 7) := ⟨⟨by decide +kernel, by decide +kernel⟩, List.mem_of_getElem? (i := 573) (by decide +kernel), List.mem_of_getElem? (i := 675) (by decide +kernel), List.mem_of_getElem? (i := 676) (by decide +kernel)⟩
theorem lw_p25 : lw_okq (⟨"LeaningLinesModel", "shoots", "()I"⟩, 7) := ⟨⟨by decide +kernel, by decide +kernel⟩, List.mem_of_getElem? (i := 573) (by decide +kernel), List.mem_of_getElem? (i := 679) (by decide +kernel), List.mem_of_getElem? (i := 680) (by decide +kernel)⟩
theorem lw_p26 : lw_okq (⟨"LeaningLinesModel", "exposed", "(III)I"⟩, 7) := ⟨⟨by decide +kernel, by decide +kernel⟩, List.mem_of_getElem? (i := 573) (by decide +kernel), List.mem_of_getElem? (i := 683) (by decide +kernel), List.mem_of_getElem? (i := 684) (by decide +kernel)⟩
theorem lw_p27 : lw_okq (⟨"LeaningLinesModel", "seenAt", "(III)I"⟩, 7) := ⟨⟨by decide +kernel, by decide +kernel⟩, List.mem_of_getElem? (i := 573) (by decide +kernel), List.mem_of_getElem? (i := 687) (by decide +kernel), List.mem_of_getElem? (i := 688) (by decide +kernel)⟩
theorem lw_p28 : lw_okq (⟨"LeaningLinesModel", "covers", "(IIII)Z"⟩, 7) := ⟨⟨by decide +kernel, by decide +kernel⟩, List.mem_of_getElem? (i := 573) (by decide +kernel), List.mem_of_getElem? (i := 691) (by decide +kernel), List.mem_of_getElem? (i := 692) (by decide +kernel)⟩
theorem lw_p29 : lw_okq (⟨"LeaningLinesModel", "light", "(I)I"⟩, 7) := ⟨⟨by decide +kernel, by decide +kernel⟩, List.mem_of_getElem? (i := 573) (by decide +kernel), List.mem_of_getElem? (i := 695) (by decide +kernel), List.mem_of_getElem? (i := 696) (by decide +kernel)⟩
theorem lw_p30 : lw_okq (⟨"LeaningLinesModel", "burns", "(I)Z"⟩, 7) := ⟨⟨by decide +kernel, by decide +kernel⟩, List.mem_of_getElem? (i := 573) (by decide +kernel), List.mem_of_getElem? (i := 699) (by decide +kernel), List.mem_of_getElem? (i := 700) (by decide +kernel)⟩
theorem lw_p31 : lw_okq (⟨"LeaningLinesModel", "goes", "(I)I"⟩, 7) := ⟨⟨by decide +kernel, by decide +kernel⟩, List.mem_of_getElem? (i := 573) (by decide +kernel), List.mem_of_getElem? (i := 707) (by decide +kernel), List.mem_of_getElem? (i := 708) (by decide +kernel)⟩
def lw_privs_2 : List (MethodName × Nat) := [(⟨"LeaningLinesModel", "whyNotThing", "(IIIII)I"⟩, 7), (⟨"LeaningLinesModel", "comes", "(IIIII)I"⟩, 7), (⟨"LeaningLinesModel", "isThing", "(I)Z"⟩, 7), (⟨"LeaningLinesModel", "its", "(II)I"⟩, 7), (⟨"LeaningLinesModel", "anew", "(III)V"⟩, 7), (⟨"LeaningLinesModel", "left", "(II)I"⟩, 7), (⟨"LeaningLinesModel", "flashes", "(II)I"⟩, 7), (⟨"LeaningLinesModel", "whyNotPass", "(I)I"⟩, 7), (⟨"LeaningLinesModel", "whyNotShoot", "()I"⟩, 7), (⟨"LeaningLinesModel", "shoots", "()I"⟩, 7), (⟨"LeaningLinesModel", "exposed", "(III)I"⟩, 7), (⟨"LeaningLinesModel", "seenAt", "(III)I"⟩, 7), (⟨"LeaningLinesModel", "covers", "(IIII)Z"⟩, 7), (⟨"LeaningLinesModel", "light", "(I)I"⟩, 7), (⟨"LeaningLinesModel", "burns", "(I)Z"⟩, 7), (⟨"LeaningLinesModel", "goes", "(I)I"⟩, 7)]
theorem lw_r2 : ∀ q ∈ lw_privs_2, lw_okq q := List.forall_mem_cons.mpr ⟨lw_p16, List.forall_mem_cons.mpr ⟨lw_p17, List.forall_mem_cons.mpr ⟨lw_p18, List.forall_mem_cons.mpr ⟨lw_p19, List.forall_mem_cons.mpr ⟨lw_p20, List.forall_mem_cons.mpr ⟨lw_p21, List.forall_mem_cons.mpr ⟨lw_p22, List.forall_mem_cons.mpr ⟨lw_p23, List.forall_mem_cons.mpr ⟨lw_p24, List.forall_mem_cons.mpr ⟨lw_p25, List.forall_mem_cons.mpr ⟨lw_p26, List.forall_mem_cons.mpr ⟨lw_p27, List.forall_mem_cons.mpr ⟨lw_p28, List.forall_mem_cons.mpr ⟨lw_p29, List.forall_mem_cons.mpr ⟨lw_p30, List.forall_mem_cons.mpr ⟨lw_p31, fun _ h => absurd h List.not_mem_nil⟩⟩⟩⟩⟩⟩⟩⟩⟩⟩⟩⟩⟩⟩⟩⟩
theorem lw_p32 : lw_okq (⟨"LeaningLinesModel", "lit", "(I)I"⟩, 7) := ⟨⟨by decide +kernel, by decide +kernel⟩, List.mem_of_getElem? (i := 573) (by decide +kernel), List.mem_of_getElem? (i := 726) (by decide +kernel), List.mem_of_getElem? (i := 727) (by decide +kernel)⟩
theorem lw_p33 : lw_okq (⟨"LeaningLinesModel", "sumOf", "(I)I"⟩, 7) := ⟨⟨by decide +kernel, by decide +kernel⟩, List.mem_of_getElem? (i := 573) (by decide +kernel), List.mem_of_getElem? (i := 730) (by decide +kernel), List.mem_of_getElem? (i := 731) (by decide +kernel)⟩
theorem lw_p34 : lw_okq (⟨"LeaningLinesModel", "leftmost", "(I)I"⟩, 7) := ⟨⟨by decide +kernel, by decide +kernel⟩, List.mem_of_getElem? (i := 573) (by decide +kernel), List.mem_of_getElem? (i := 734) (by decide +kernel), List.mem_of_getElem? (i := 735) (by decide +kernel)⟩
theorem lw_p35 : lw_okq (⟨"LeaningLinesModel", "darkLines", "()I"⟩, 7) := ⟨⟨by decide +kernel, by decide +kernel⟩, List.mem_of_getElem? (i := 573) (by decide +kernel), List.mem_of_getElem? (i := 742) (by decide +kernel), List.mem_of_getElem? (i := 743) (by decide +kernel)⟩
theorem lw_p36 : lw_okq (⟨"LeaningLinesModel", "brightest", "()I"⟩, 7) := ⟨⟨by decide +kernel, by decide +kernel⟩, List.mem_of_getElem? (i := 573) (by decide +kernel), List.mem_of_getElem? (i := 746) (by decide +kernel), List.mem_of_getElem? (i := 747) (by decide +kernel)⟩
theorem lw_p37 : lw_okq (⟨"LeaningLinesModel", "bands", "()I"⟩, 7) := ⟨⟨by decide +kernel, by decide +kernel⟩, List.mem_of_getElem? (i := 573) (by decide +kernel), List.mem_of_getElem? (i := 750) (by decide +kernel), List.mem_of_getElem? (i := 751) (by decide +kernel)⟩
theorem lw_p38 : lw_okq (⟨"LeaningLinesModel", "burnsIn", "(II)I"⟩, 7) := ⟨⟨by decide +kernel, by decide +kernel⟩, List.mem_of_getElem? (i := 573) (by decide +kernel), List.mem_of_getElem? (i := 770) (by decide +kernel), List.mem_of_getElem? (i := 771) (by decide +kernel)⟩
theorem lw_p39 : lw_okq (⟨"LeaningLinesModel", "orderEnd", "(I)I"⟩, 7) := ⟨⟨by decide +kernel, by decide +kernel⟩, List.mem_of_getElem? (i := 573) (by decide +kernel), List.mem_of_getElem? (i := 794) (by decide +kernel), List.mem_of_getElem? (i := 795) (by decide +kernel)⟩
theorem lw_p40 : lw_okq (⟨"LeaningLinesModel", "sign", "(I)I"⟩, 7) := ⟨⟨by decide +kernel, by decide +kernel⟩, List.mem_of_getElem? (i := 573) (by decide +kernel), List.mem_of_getElem? (i := 798) (by decide +kernel), List.mem_of_getElem? (i := 799) (by decide +kernel)⟩
theorem lw_p41 : lw_okq (⟨"LeaningLinesModel", "sizesEnd", "(I)I"⟩, 7) := ⟨⟨by decide +kernel, by decide +kernel⟩, List.mem_of_getElem? (i := 573) (by decide +kernel), List.mem_of_getElem? (i := 802) (by decide +kernel), List.mem_of_getElem? (i := 803) (by decide +kernel)⟩
theorem lw_p42 : lw_okq (⟨"LeaningLinesModel", "numberEnd", "(I)I"⟩, 7) := ⟨⟨by decide +kernel, by decide +kernel⟩, List.mem_of_getElem? (i := 573) (by decide +kernel), List.mem_of_getElem? (i := 806) (by decide +kernel), List.mem_of_getElem? (i := 807) (by decide +kernel)⟩
theorem lw_p43 : lw_okq (⟨"LeaningLinesModel", "digit", "(I)I"⟩, 7) := ⟨⟨by decide +kernel, by decide +kernel⟩, List.mem_of_getElem? (i := 573) (by decide +kernel), List.mem_of_getElem? (i := 810) (by decide +kernel), List.mem_of_getElem? (i := 811) (by decide +kernel)⟩
theorem lw_p44 : lw_okq (⟨"LeaningLinesModel", "behind", "(II)I"⟩, 7) := ⟨⟨by decide +kernel, by decide +kernel⟩, List.mem_of_getElem? (i := 573) (by decide +kernel), List.mem_of_getElem? (i := 814) (by decide +kernel), List.mem_of_getElem? (i := 815) (by decide +kernel)⟩
theorem lw_p45 : lw_okq (⟨"LeaningLinesModel", "digitEnd", "(I)I"⟩, 7) := ⟨⟨by decide +kernel, by decide +kernel⟩, List.mem_of_getElem? (i := 573) (by decide +kernel), List.mem_of_getElem? (i := 818) (by decide +kernel), List.mem_of_getElem? (i := 819) (by decide +kernel)⟩
theorem lw_p46 : lw_okq (⟨"LeaningLinesModel", "isSpeed", "(I)Z"⟩, 7) := ⟨⟨by decide +kernel, by decide +kernel⟩, List.mem_of_getElem? (i := 573) (by decide +kernel), List.mem_of_getElem? (i := 822) (by decide +kernel), List.mem_of_getElem? (i := 823) (by decide +kernel)⟩
theorem lw_p47 : lw_okq (⟨"LeaningLinesModel", "carries", "(I)I"⟩, 7) := ⟨⟨by decide +kernel, by decide +kernel⟩, List.mem_of_getElem? (i := 573) (by decide +kernel), List.mem_of_getElem? (i := 831) (by decide +kernel), List.mem_of_getElem? (i := 832) (by decide +kernel)⟩
def lw_privs_3 : List (MethodName × Nat) := [(⟨"LeaningLinesModel", "lit", "(I)I"⟩, 7), (⟨"LeaningLinesModel", "sumOf", "(I)I"⟩, 7), (⟨"LeaningLinesModel", "leftmost", "(I)I"⟩, 7), (⟨"LeaningLinesModel", "darkLines", "()I"⟩, 7), (⟨"LeaningLinesModel", "brightest", "()I"⟩, 7), (⟨"LeaningLinesModel", "bands", "()I"⟩, 7), (⟨"LeaningLinesModel", "burnsIn", "(II)I"⟩, 7), (⟨"LeaningLinesModel", "orderEnd", "(I)I"⟩, 7), (⟨"LeaningLinesModel", "sign", "(I)I"⟩, 7), (⟨"LeaningLinesModel", "sizesEnd", "(I)I"⟩, 7), (⟨"LeaningLinesModel", "numberEnd", "(I)I"⟩, 7), (⟨"LeaningLinesModel", "digit", "(I)I"⟩, 7), (⟨"LeaningLinesModel", "behind", "(II)I"⟩, 7), (⟨"LeaningLinesModel", "digitEnd", "(I)I"⟩, 7), (⟨"LeaningLinesModel", "isSpeed", "(I)Z"⟩, 7), (⟨"LeaningLinesModel", "carries", "(I)I"⟩, 7)]
theorem lw_r3 : ∀ q ∈ lw_privs_3, lw_okq q := List.forall_mem_cons.mpr ⟨lw_p32, List.forall_mem_cons.mpr ⟨lw_p33, List.forall_mem_cons.mpr ⟨lw_p34, List.forall_mem_cons.mpr ⟨lw_p35, List.forall_mem_cons.mpr ⟨lw_p36, List.forall_mem_cons.mpr ⟨lw_p37, List.forall_mem_cons.mpr ⟨lw_p38, List.forall_mem_cons.mpr ⟨lw_p39, List.forall_mem_cons.mpr ⟨lw_p40, List.forall_mem_cons.mpr ⟨lw_p41, List.forall_mem_cons.mpr ⟨lw_p42, List.forall_mem_cons.mpr ⟨lw_p43, List.forall_mem_cons.mpr ⟨lw_p44, List.forall_mem_cons.mpr ⟨lw_p45, List.forall_mem_cons.mpr ⟨lw_p46, List.forall_mem_cons.mpr ⟨lw_p47, fun _ h => absurd h List.not_mem_nil⟩⟩⟩⟩⟩⟩⟩⟩⟩⟩⟩⟩⟩⟩⟩⟩
theorem lw_p48 : lw_okq (⟨"LeaningLinesModel", "numberAt", "(I)I"⟩, 7) := ⟨⟨by decide +kernel, by decide +kernel⟩, List.mem_of_getElem? (i := 573) (by decide +kernel), List.mem_of_getElem? (i := 835) (by decide +kernel), List.mem_of_getElem? (i := 836) (by decide +kernel)⟩
theorem lw_p49 : lw_okq (⟨"LeaningLinesModel", "comesBy", "(I)I"⟩, 7) := ⟨⟨by decide +kernel, by decide +kernel⟩, List.mem_of_getElem? (i := 573) (by decide +kernel), List.mem_of_getElem? (i := 839) (by decide +kernel), List.mem_of_getElem? (i := 840) (by decide +kernel)⟩
def lw_privs_4 : List (MethodName × Nat) := [(⟨"LeaningLinesModel", "numberAt", "(I)I"⟩, 7), (⟨"LeaningLinesModel", "comesBy", "(I)I"⟩, 7)]
theorem lw_r4 : ∀ q ∈ lw_privs_4, lw_okq q := List.forall_mem_cons.mpr ⟨lw_p48, List.forall_mem_cons.mpr ⟨lw_p49, fun _ h => absurd h List.not_mem_nil⟩⟩
def lw_privs : List (MethodName × Nat) := lw_privs_1 ++ (lw_privs_2 ++ (lw_privs_3 ++ (lw_privs_4)))
def lw_tbl : List Cond := k2_sels lw_privs ++ tables_1
theorem lw_privs_ok : ∀ q ∈ lw_privs, lw_okq q := by
  show ∀ q ∈ lw_privs_1 ++ (lw_privs_2 ++ (lw_privs_3 ++ (lw_privs_4))), lw_okq q
  exact List.forall_mem_append.mpr ⟨lw_r1, List.forall_mem_append.mpr ⟨lw_r2, List.forall_mem_append.mpr ⟨lw_r3, lw_r4⟩⟩⟩
end
section
/-! ===== BEGIN words of one list among another's, by their places ===== -/
theorem goodIn_r {big : List Cond} (ws : List Cond) (ps : List Nat) (hp : ws = ps.filterMap (fun i => big[i]?)) (h : ws.all goodWord = true) : GoodIn big ws := by
  intro w hw
  have h1 := List.all_eq_true.mp h w hw
  rw [hp] at hw
  obtain ⟨i, -, hi⟩ := List.mem_filterMap.mp hw
  have hm : w ∈ big := by first | exact List.mem_of_getElem? hi | exact List.getElem?_mem hi
  exact ⟨hm, good_of_word h1⟩
theorem goodIn_app {big a b : List Cond} (ha : GoodIn big a) (hb : GoodIn big b) : GoodIn big (a ++ b) := fun w h => (List.mem_append.mp h).elim (ha w) (hb w)
theorem goodIn_ca {big a b : List Cond} {c : Cond} (ha : GoodIn big (c :: a)) (hb : GoodIn big b) : GoodIn big (c :: (a ++ b)) := fun w h => (List.mem_cons.mp h).elim (fun e => ha w (List.mem_cons.mpr (Or.inl e))) (fun h => (List.mem_append.mp h).elim (fun h => ha w (List.mem_cons.mpr (Or.inr h))) (hb w))
theorem goodIn_sub {big ws : List Cond} (hm : ∀ w ∈ ws, w ∈ big) (h : ws.all goodWord = true) : GoodIn big ws := fun w hw => ⟨hm w hw, good_of_word (List.all_eq_true.mp h w hw)⟩
/-! ===== END ===== -/

/-! ===== BEGIN printed: names, fields, word lists, decode rows ===== -/
def RX0 : String := "LeaningLines$Camera"
def TX0 : u_T := fun k => match k with
  | 0 => ("LeaningLines$Camera", "leaning", "[I", true)
  | 1 => ("LeaningLines$Camera", "upright", "[I", true)
  | _ => ("LeaningLines$Camera", "rises", "[I", true)
def tyX0 : Nat → FieldType := fun k => match k with
  | 0 => .array .int
  | 1 => .array .int
  | _ => .array .int
abbrev wsX00 : List Cond := u_ws RX0 TX0 3
theorem nmX0 : ∀ a, a < 3 → ∀ b, b < 3 → a ≠ b → (TX0 a).2.1 ≠ (TX0 b).2.1 := by decide +kernel
theorem tyX0_ok : ∀ k, k < 3 → parseFieldDescriptor (TX0 k).2.2.1 = some (tyX0 k) := by decide +kernel
abbrev cX0_init : ByteArray := prog_2_method_1_code
def yX0_init : MethodName := ⟨RX0, "<init>", "()V"⟩
abbrev cX0_takePicture : ByteArray := prog_2_method_2_code
def yX0_takePicture : MethodName := ⟨RX0, "takePicture", "(LLeaningLines$Scene;)V"⟩
abbrev cX0_pixelsBent : ByteArray := prog_2_method_3_code
def yX0_pixelsBent : MethodName := ⟨RX0, "pixelsBent", "(LLeaningLines$Scene;)I"⟩
abbrev cX0_brightnessAt : ByteArray := prog_2_method_4_code
def yX0_brightnessAt : MethodName := ⟨RX0, "brightnessAt", "(LLeaningLines$Scene;III)I"⟩
abbrev cX0_exposeLine : ByteArray := prog_2_method_5_code
def yX0_exposeLine : MethodName := ⟨RX0, "exposeLine", "(LLeaningLines$Scene;III[I)V"⟩
abbrev cX0_addLight : ByteArray := prog_2_method_6_code
def yX0_addLight : MethodName := ⟨RX0, "addLight", "(I[I)V"⟩
abbrev cX0_findRises : ByteArray := prog_2_method_7_code
def yX0_findRises : MethodName := ⟨RX0, "findRises", "(LLeaningLines$Things;II)V"⟩
abbrev cX0_nearestEdge : ByteArray := prog_2_method_8_code
def yX0_nearestEdge : MethodName := ⟨RX0, "nearestEdge", "(I)I"⟩
def RX1 : String := "LeaningLines$History"
def TX1 : u_T := fun k => match k with
  | 0 => ("LeaningLines$History", "states", "[LLeaningLines$Scene;", true)
  | 1 => ("LeaningLines$History", "next", "I", false)
  | _ => ("LeaningLines$History", "many", "I", false)
def tyX1 : Nat → FieldType := fun k => match k with
  | 0 => .array (.object "LeaningLines$Scene")
  | 1 => .int
  | _ => .int
abbrev wsX10 : List Cond := u_ws RX1 TX1 3
theorem nmX1 : ∀ a, a < 3 → ∀ b, b < 3 → a ≠ b → (TX1 a).2.1 ≠ (TX1 b).2.1 := by decide +kernel
theorem tyX1_ok : ∀ k, k < 3 → parseFieldDescriptor (TX1 k).2.2.1 = some (tyX1 k) := by decide +kernel
abbrev cX1_init : ByteArray := prog_3_method_1_code
def yX1_init : MethodName := ⟨RX1, "<init>", "()V"⟩
abbrev cX1_record : ByteArray := prog_3_method_2_code
def yX1_record : MethodName := ⟨RX1, "record", "(LLeaningLines$Scene;)V"⟩
abbrev cX1_takeBack : ByteArray := prog_3_method_3_code
def yX1_takeBack : MethodName := ⟨RX1, "takeBack", "(LLeaningLines$Scene;)Z"⟩
def RX2 : String := "LeaningLines$Pad"
def TX2 : u_T := fun k => match k with
  | 0 => ("LeaningLines$Pad", "text", "[C", true)
  | _ => ("LeaningLines$Pad", "length", "I", false)
def tyX2 : Nat → FieldType := fun k => match k with
  | 0 => .array .char
  | _ => .int
abbrev wsX20 : List Cond := u_ws RX2 TX2 2
theorem nmX2 : ∀ a, a < 2 → ∀ b, b < 2 → a ≠ b → (TX2 a).2.1 ≠ (TX2 b).2.1 := by decide +kernel
theorem tyX2_ok : ∀ k, k < 2 → parseFieldDescriptor (TX2 k).2.2.1 = some (tyX2 k) := by decide +kernel
abbrev cX2_init : ByteArray := prog_4_method_1_code
def yX2_init : MethodName := ⟨RX2, "<init>", "()V"⟩
abbrev cX2_charactersIn : ByteArray := prog_4_method_2_code
def yX2_charactersIn : MethodName := ⟨RX2, "charactersIn", "(J)I"⟩
abbrev cX2_append : ByteArray := prog_4_method_3_code
def yX2_append : MethodName := ⟨RX2, "append", "(JI)V"⟩
abbrev cX2_characterAt : ByteArray := prog_4_method_4_code
def yX2_characterAt : MethodName := ⟨RX2, "characterAt", "(I)C"⟩
def RX3 : String := "LeaningLines$Picture"
def TX3 : u_T := fun k => match k with
  | _ => ("LeaningLines$Picture", "pixels", "[I", true)
def tyX3 : Nat → FieldType := fun k => match k with
  | _ => .array .int
abbrev wsX30 : List Cond := u_ws RX3 TX3 1
theorem nmX3 : ∀ a, a < 1 → ∀ b, b < 1 → a ≠ b → (TX3 a).2.1 ≠ (TX3 b).2.1 := by decide +kernel
theorem tyX3_ok : ∀ k, k < 1 → parseFieldDescriptor (TX3 k).2.2.1 = some (tyX3 k) := by decide +kernel
abbrev cX3_init : ByteArray := prog_5_method_1_code
def yX3_init : MethodName := ⟨RX3, "<init>", "()V"⟩
abbrev cX3_pixelAt : ByteArray := prog_5_method_2_code
def yX3_pixelAt : MethodName := ⟨RX3, "pixelAt", "(II)I"⟩
abbrev cX3_putLine : ByteArray := prog_5_method_3_code
def yX3_putLine : MethodName := ⟨RX3, "putLine", "(I[I)V"⟩
abbrev cX3_columnsNotDark : ByteArray := prog_5_method_4_code
def yX3_columnsNotDark : MethodName := ⟨RX3, "columnsNotDark", "(I)I"⟩
abbrev cX3_sumOfLine : ByteArray := prog_5_method_5_code
def yX3_sumOfLine : MethodName := ⟨RX3, "sumOfLine", "(I)I"⟩
abbrev cX3_leftmostNotDark : ByteArray := prog_5_method_6_code
def yX3_leftmostNotDark : MethodName := ⟨RX3, "leftmostNotDark", "(I)I"⟩
abbrev cX3_sumOfAll : ByteArray := prog_5_method_7_code
def yX3_sumOfAll : MethodName := ⟨RX3, "sumOfAll", "()I"⟩
abbrev cX3_darkLines : ByteArray := prog_5_method_8_code
def yX3_darkLines : MethodName := ⟨RX3, "darkLines", "()I"⟩
abbrev cX3_brightest : ByteArray := prog_5_method_9_code
def yX3_brightest : MethodName := ⟨RX3, "brightest", "()I"⟩
abbrev cX3_bands : ByteArray := prog_5_method_10_code
def yX3_bands : MethodName := ⟨RX3, "bands", "()I"⟩
abbrev cX3_copyFrom : ByteArray := prog_5_method_11_code
def yX3_copyFrom : MethodName := ⟨RX3, "copyFrom", "(LLeaningLines$Picture;)V"⟩
def RX4 : String := "LeaningLines$Reader"
def TX4 : u_T := fun k => match k with
  | 0 => ("LeaningLines$Reader", "pad", "LLeaningLines$Pad;", true)
  | 1 => ("LeaningLines$Reader", "at", "I", false)
  | 2 => ("LeaningLines$Reader", "kind", "C", false)
  | _ => ("LeaningLines$Reader", "values", "[I", true)
def tyX4 : Nat → FieldType := fun k => match k with
  | 0 => .object "LeaningLines$Pad"
  | 1 => .int
  | 2 => .char
  | _ => .array .int
abbrev wsX40 : List Cond := u_ws RX4 TX4 4
theorem nmX4 : ∀ a, a < 4 → ∀ b, b < 4 → a ≠ b → (TX4 a).2.1 ≠ (TX4 b).2.1 := by decide +kernel
theorem tyX4_ok : ∀ k, k < 4 → parseFieldDescriptor (TX4 k).2.2.1 = some (tyX4 k) := by decide +kernel
abbrev cX4_init : ByteArray := prog_6_method_1_code
def yX4_init : MethodName := ⟨RX4, "<init>", "(LLeaningLines$Pad;)V"⟩
abbrev cX4_findFault : ByteArray := prog_6_method_2_code
def yX4_findFault : MethodName := ⟨RX4, "findFault", "()I"⟩
abbrev cX4_readOrder : ByteArray := prog_6_method_3_code
def yX4_readOrder : MethodName := ⟨RX4, "readOrder", "()Z"⟩
abbrev cX4_take : ByteArray := prog_6_method_4_code
def yX4_take : MethodName := ⟨RX4, "take", "(C)Z"⟩
abbrev cX4_readThing : ByteArray := prog_6_method_5_code
def yX4_readThing : MethodName := ⟨RX4, "readThing", "()Z"⟩
abbrev cX4_readDigit : ByteArray := prog_6_method_6_code
def yX4_readDigit : MethodName := ⟨RX4, "readDigit", "(I)Z"⟩
abbrev cX4_readNumber : ByteArray := prog_6_method_7_code
def yX4_readNumber : MethodName := ⟨RX4, "readNumber", "(I)Z"⟩
abbrev cX4_isDigit : ByteArray := prog_6_method_8_code
def yX4_isDigit : MethodName := ⟨RX4, "isDigit", "(C)Z"⟩
def RX5 : String := "LeaningLines$Scene"
def TX5 : u_T := fun k => match k with
  | 0 => ("LeaningLines$Scene", "settings", "[I", true)
  | 1 => ("LeaningLines$Scene", "things", "LLeaningLines$Things;", true)
  | 2 => ("LeaningLines$Scene", "picture", "LLeaningLines$Picture;", true)
  | 3 => ("LeaningLines$Scene", "time", "I", false)
  | 4 => ("LeaningLines$Scene", "pictures", "I", false)
  | 5 => ("LeaningLines$Scene", "flashTime", "I", false)
  | _ => ("LeaningLines$Scene", "flashTicks", "I", false)
def tyX5 : Nat → FieldType := fun k => match k with
  | 0 => .array .int
  | 1 => .object "LeaningLines$Things"
  | 2 => .object "LeaningLines$Picture"
  | 3 => .int
  | 4 => .int
  | 5 => .int
  | _ => .int
abbrev wsX50 : List Cond := u_ws RX5 TX5 7
theorem nmX5 : ∀ a, a < 7 → ∀ b, b < 7 → a ≠ b → (TX5 a).2.1 ≠ (TX5 b).2.1 := by decide +kernel
theorem tyX5_ok : ∀ k, k < 7 → parseFieldDescriptor (TX5 k).2.2.1 = some (tyX5 k) := by decide +kernel
abbrev cX5_init : ByteArray := prog_7_method_1_code
def yX5_init : MethodName := ⟨RX5, "<init>", "()V"⟩
abbrev cX5_beginOf : ByteArray := prog_7_method_2_code
def yX5_beginOf : MethodName := ⟨RX5, "beginOf", "(I)I"⟩
abbrev cX5_endOfPicture : ByteArray := prog_7_method_3_code
def yX5_endOfPicture : MethodName := ⟨RX5, "endOfPicture", "()I"⟩
abbrev cX5_setFlash : ByteArray := prog_7_method_4_code
def yX5_setFlash : MethodName := ⟨RX5, "setFlash", "(II)V"⟩
abbrev cX5_lightAt : ByteArray := prog_7_method_5_code
def yX5_lightAt : MethodName := ⟨RX5, "lightAt", "(I)I"⟩
abbrev cX5_linesFlashed : ByteArray := prog_7_method_6_code
def yX5_linesFlashed : MethodName := ⟨RX5, "linesFlashed", "(II)I"⟩
abbrev cX5_copyFrom : ByteArray := prog_7_method_7_code
def yX5_copyFrom : MethodName := ⟨RX5, "copyFrom", "(LLeaningLines$Scene;)V"⟩
def RX6 : String := "LeaningLines$Things"
def TX6 : u_T := fun k => match k with
  | 0 => ("LeaningLines$Things", "many", "I", false)
  | 1 => ("LeaningLines$Things", "line", "[I", true)
  | 2 => ("LeaningLines$Things", "high", "[I", true)
  | 3 => ("LeaningLines$Things", "wide", "[I", true)
  | 4 => ("LeaningLines$Things", "brightness", "[I", true)
  | 5 => ("LeaningLines$Things", "speed", "[I", true)
  | 6 => ("LeaningLines$Things", "since", "[I", true)
  | 7 => ("LeaningLines$Things", "left", "[I", true)
  | 8 => ("LeaningLines$Things", "under", "[I", true)
  | _ => ("LeaningLines$Things", "underLeft", "[I", true)
def tyX6 : Nat → FieldType := fun k => match k with
  | 0 => .int
  | 1 => .array .int
  | 2 => .array .int
  | 3 => .array .int
  | 4 => .array .int
  | 5 => .array .int
  | 6 => .array .int
  | 7 => .array .int
  | 8 => .array .int
  | _ => .array .int
abbrev wsX60 : List Cond := u_ws RX6 TX6 10
theorem nmX6 : ∀ a, a < 10 → ∀ b, b < 10 → a ≠ b → (TX6 a).2.1 ≠ (TX6 b).2.1 := by decide +kernel
theorem tyX6_ok : ∀ k, k < 10 → parseFieldDescriptor (TX6 k).2.2.1 = some (tyX6 k) := by decide +kernel
abbrev cX6_init : ByteArray := prog_8_method_1_code
def yX6_init : MethodName := ⟨RX6, "<init>", "()V"⟩
abbrev cX6_add : ByteArray := prog_8_method_2_code
def yX6_add : MethodName := ⟨RX6, "add", "(IIIIII)I"⟩
abbrev cX6_comeAnew : ByteArray := prog_8_method_3_code
def yX6_comeAnew : MethodName := ⟨RX6, "comeAnew", "(IIII)V"⟩
abbrev cX6_leftAt : ByteArray := prog_8_method_4_code
def yX6_leftAt : MethodName := ⟨RX6, "leftAt", "(II)I"⟩
abbrev cX6_speedWithAllUnder : ByteArray := prog_8_method_5_code
def yX6_speedWithAllUnder : MethodName := ⟨RX6, "speedWithAllUnder", "(I)I"⟩
abbrev cX6_isInLine : ByteArray := prog_8_method_6_code
def yX6_isInLine : MethodName := ⟨RX6, "isInLine", "(II)Z"⟩
abbrev cX6_copyFrom : ByteArray := prog_8_method_7_code
def yX6_copyFrom : MethodName := ⟨RX6, "copyFrom", "(LLeaningLines$Things;)V"⟩
def RX7 : String := "LeaningLines"
def TX7 : u_T := fun k => match k with
  | 0 => ("LeaningLines", "scene", "LLeaningLines$Scene;", true)
  | 1 => ("LeaningLines", "camera", "LLeaningLines$Camera;", true)
  | 2 => ("LeaningLines", "history", "LLeaningLines$History;", true)
  | 3 => ("LeaningLines", "slots", "[LLeaningLines$Scene;", true)
  | 4 => ("LeaningLines", "pad", "LLeaningLines$Pad;", true)
  | _ => ("LeaningLines", "reader", "LLeaningLines$Reader;", true)
def tyX7 : Nat → FieldType := fun k => match k with
  | 0 => .object "LeaningLines$Scene"
  | 1 => .object "LeaningLines$Camera"
  | 2 => .object "LeaningLines$History"
  | 3 => .array (.object "LeaningLines$Scene")
  | 4 => .object "LeaningLines$Pad"
  | _ => .object "LeaningLines$Reader"
abbrev wsX70 : List Cond := u_ws RX7 TX7 6
theorem nmX7 : ∀ a, a < 6 → ∀ b, b < 6 → a ≠ b → (TX7 a).2.1 ≠ (TX7 b).2.1 := by decide +kernel
theorem tyX7_ok : ∀ k, k < 6 → parseFieldDescriptor (TX7 k).2.2.1 = some (tyX7 k) := by decide +kernel
abbrev cX7_init : ByteArray := prog_1_method_1_code
def yX7_init : MethodName := ⟨RX7, "<init>", "()V"⟩
abbrev cX7_set : ByteArray := prog_1_method_2_code
def yX7_set : MethodName := ⟨RX7, "set", "(II)I"⟩
abbrev cX7_thing : ByteArray := prog_1_method_3_code
def yX7_thing : MethodName := ⟨RX7, "thing", "(IIIII)I"⟩
abbrev cX7_speed : ByteArray := prog_1_method_4_code
def yX7_speed : MethodName := ⟨RX7, "speed", "(II)I"⟩
abbrev cX7_ride : ByteArray := prog_1_method_5_code
def yX7_ride : MethodName := ⟨RX7, "ride", "(II)I"⟩
abbrev cX7_flash : ByteArray := prog_1_method_6_code
def yX7_flash : MethodName := ⟨RX7, "flash", "(II)I"⟩
abbrev cX7_pass : ByteArray := prog_1_method_7_code
def yX7_pass : MethodName := ⟨RX7, "pass", "(I)I"⟩
abbrev cX7_shoot : ByteArray := prog_1_method_8_code
def yX7_shoot : MethodName := ⟨RX7, "shoot", "()I"⟩
abbrev cX7_of : ByteArray := prog_1_method_9_code
def yX7_of : MethodName := ⟨RX7, "of", "(II)I"⟩
abbrev cX7_pixel : ByteArray := prog_1_method_10_code
def yX7_pixel : MethodName := ⟨RX7, "pixel", "(II)I"⟩
abbrev cX7_joined : ByteArray := prog_1_method_11_code
def yX7_joined : MethodName := ⟨RX7, "joined", "(II)I"⟩
abbrev cX7_ofLine : ByteArray := prog_1_method_12_code
def yX7_ofLine : MethodName := ⟨RX7, "ofLine", "(II)I"⟩
abbrev cX7_count : ByteArray := prog_1_method_13_code
def yX7_count : MethodName := ⟨RX7, "count", "(I)I"⟩
abbrev cX7_seen : ByteArray := prog_1_method_14_code
def yX7_seen : MethodName := ⟨RX7, "seen", "(III)I"⟩
abbrev cX7_leans : ByteArray := prog_1_method_15_code
def yX7_leans : MethodName := ⟨RX7, "leans", "(I)I"⟩
abbrev cX7_bent : ByteArray := prog_1_method_16_code
def yX7_bent : MethodName := ⟨RX7, "bent", "()I"⟩
abbrev cX7_flashed : ByteArray := prog_1_method_17_code
def yX7_flashed : MethodName := ⟨RX7, "flashed", "()I"⟩
abbrev cX7_bestFlash : ByteArray := prog_1_method_18_code
def yX7_bestFlash : MethodName := ⟨RX7, "bestFlash", "(II)I"⟩
abbrev cX7_put : ByteArray := prog_1_method_19_code
def yX7_put : MethodName := ⟨RX7, "put", "(J)I"⟩
abbrev cX7_wipe : ByteArray := prog_1_method_20_code
def yX7_wipe : MethodName := ⟨RX7, "wipe", "()I"⟩
abbrev cX7_fault : ByteArray := prog_1_method_21_code
def yX7_fault : MethodName := ⟨RX7, "fault", "()I"⟩
abbrev cX7_carryOut : ByteArray := prog_1_method_22_code
def yX7_carryOut : MethodName := ⟨RX7, "carryOut", "()I"⟩
abbrev cX7_undo : ByteArray := prog_1_method_23_code
def yX7_undo : MethodName := ⟨RX7, "undo", "()I"⟩
abbrev cX7_save : ByteArray := prog_1_method_24_code
def yX7_save : MethodName := ⟨RX7, "save", "(I)I"⟩
abbrev cX7_restore : ByteArray := prog_1_method_25_code
def yX7_restore : MethodName := ⟨RX7, "restore", "(I)I"⟩
abbrev cX7_within : ByteArray := prog_1_method_26_code
def yX7_within : MethodName := ⟨RX7, "within", "(III)Z"⟩
abbrev cX7_isPlace : ByteArray := prog_1_method_27_code
def yX7_isPlace : MethodName := ⟨RX7, "isPlace", "(II)Z"⟩
abbrev cX7_isSpeed : ByteArray := prog_1_method_28_code
def yX7_isSpeed : MethodName := ⟨RX7, "isSpeed", "(I)Z"⟩
abbrev cX7_canRide : ByteArray := prog_1_method_29_code
def yX7_canRide : MethodName := ⟨RX7, "canRide", "(II)Z"⟩
abbrev cX7_isThing : ByteArray := prog_1_method_30_code
def yX7_isThing : MethodName := ⟨RX7, "isThing", "(I)Z"⟩
abbrev cX7_errorOfThing : ByteArray := prog_1_method_31_code
def yX7_errorOfThing : MethodName := ⟨RX7, "errorOfThing", "(IIIII)I"⟩
abbrev cX7_errorOfFlash : ByteArray := prog_1_method_32_code
def yX7_errorOfFlash : MethodName := ⟨RX7, "errorOfFlash", "(II)I"⟩
abbrev cX7_errorOfPass : ByteArray := prog_1_method_33_code
def yX7_errorOfPass : MethodName := ⟨RX7, "errorOfPass", "(I)I"⟩
abbrev cX7_errorOfShoot : ByteArray := prog_1_method_34_code
def yX7_errorOfShoot : MethodName := ⟨RX7, "errorOfShoot", "()I"⟩
abbrev cX7_carryOutOrder : ByteArray := prog_1_method_35_code
def yX7_carryOutOrder : MethodName := ⟨RX7, "carryOutOrder", "()I"⟩
abbrev cX7_carryOutThing : ByteArray := prog_1_method_36_code
def yX7_carryOutThing : MethodName := ⟨RX7, "carryOutThing", "()I"⟩
abbrev cX7_carryOutFlash : ByteArray := prog_1_method_37_code
def yX7_carryOutFlash : MethodName := ⟨RX7, "carryOutFlash", "()I"⟩
abbrev cX7_carryOutPass : ByteArray := prog_1_method_38_code
def yX7_carryOutPass : MethodName := ⟨RX7, "carryOutPass", "()I"⟩
def RX8 : String := "LeaningLinesModel"
def TX8 : u_T := fun k => match k with
  | 0 => ("LeaningLinesModel", "s", "[I", true)
  | 1 => ("LeaningLinesModel", "past", "[I", true)
  | 2 => ("LeaningLinesModel", "known", "I", false)
  | 3 => ("LeaningLinesModel", "slots", "[I", true)
  | 4 => ("LeaningLinesModel", "isSaved", "[Z", true)
  | 5 => ("LeaningLinesModel", "pad", "[I", true)
  | _ => ("LeaningLinesModel", "length", "I", false)
def tyX8 : Nat → FieldType := fun k => match k with
  | 0 => .array .int
  | 1 => .array .int
  | 2 => .int
  | 3 => .array .int
  | 4 => .array .boolean
  | 5 => .array .int
  | _ => .int
abbrev wsX80 : List Cond := u_ws RX8 TX8 7
theorem nmX8 : ∀ a, a < 7 → ∀ b, b < 7 → a ≠ b → (TX8 a).2.1 ≠ (TX8 b).2.1 := by decide +kernel
theorem tyX8_ok : ∀ k, k < 7 → parseFieldDescriptor (TX8 k).2.2.1 = some (tyX8 k) := by decide +kernel
abbrev cX8_init : ByteArray := prog_10_method_1_code
def yX8_init : MethodName := ⟨RX8, "<init>", "()V"⟩
abbrev cX8_in : ByteArray := prog_10_method_3_code
def yX8_in : MethodName := ⟨RX8, "in", "(III)Z"⟩
abbrev cX8_remembers : ByteArray := prog_10_method_4_code
def yX8_remembers : MethodName := ⟨RX8, "remembers", "()V"⟩
abbrev cX8_isThing : ByteArray := prog_10_method_5_code
def yX8_isThing : MethodName := ⟨RX8, "isThing", "(I)Z"⟩
abbrev cX8_its : ByteArray := prog_10_method_6_code
def yX8_its : MethodName := ⟨RX8, "its", "(II)I"⟩
abbrev cX8_tenth : ByteArray := prog_10_method_7_code
def yX8_tenth : MethodName := ⟨RX8, "tenth", "(I)I"⟩
abbrev cX8_left : ByteArray := prog_10_method_8_code
def yX8_left : MethodName := ⟨RX8, "left", "(II)I"⟩
abbrev cX8_anew : ByteArray := prog_10_method_9_code
def yX8_anew : MethodName := ⟨RX8, "anew", "(III)V"⟩
abbrev cX8_covers : ByteArray := prog_10_method_10_code
def yX8_covers : MethodName := ⟨RX8, "covers", "(IIII)Z"⟩
abbrev cX8_burns : ByteArray := prog_10_method_11_code
def yX8_burns : MethodName := ⟨RX8, "burns", "(I)Z"⟩
abbrev cX8_light : ByteArray := prog_10_method_12_code
def yX8_light : MethodName := ⟨RX8, "light", "(I)I"⟩
abbrev cX8_seenAt : ByteArray := prog_10_method_13_code
def yX8_seenAt : MethodName := ⟨RX8, "seenAt", "(III)I"⟩
abbrev cX8_exposed : ByteArray := prog_10_method_14_code
def yX8_exposed : MethodName := ⟨RX8, "exposed", "(III)I"⟩
abbrev cX8_set : ByteArray := prog_10_method_15_code
def yX8_set : MethodName := ⟨RX8, "set", "(II)I"⟩
abbrev cX8_whyNotThing : ByteArray := prog_10_method_16_code
def yX8_whyNotThing : MethodName := ⟨RX8, "whyNotThing", "(IIIII)I"⟩
abbrev cX8_comes : ByteArray := prog_10_method_17_code
def yX8_comes : MethodName := ⟨RX8, "comes", "(IIIII)I"⟩
abbrev cX8_thing : ByteArray := prog_10_method_18_code
def yX8_thing : MethodName := ⟨RX8, "thing", "(IIIII)I"⟩
abbrev cX8_speed : ByteArray := prog_10_method_19_code
def yX8_speed : MethodName := ⟨RX8, "speed", "(II)I"⟩
abbrev cX8_ride : ByteArray := prog_10_method_20_code
def yX8_ride : MethodName := ⟨RX8, "ride", "(II)I"⟩
abbrev cX8_isFlash : ByteArray := prog_10_method_21_code
def yX8_isFlash : MethodName := ⟨RX8, "isFlash", "(II)Z"⟩
abbrev cX8_flashes : ByteArray := prog_10_method_22_code
def yX8_flashes : MethodName := ⟨RX8, "flashes", "(II)I"⟩
abbrev cX8_flash : ByteArray := prog_10_method_23_code
def yX8_flash : MethodName := ⟨RX8, "flash", "(II)I"⟩
abbrev cX8_whyNotPass : ByteArray := prog_10_method_24_code
def yX8_whyNotPass : MethodName := ⟨RX8, "whyNotPass", "(I)I"⟩
abbrev cX8_pass : ByteArray := prog_10_method_25_code
def yX8_pass : MethodName := ⟨RX8, "pass", "(I)I"⟩
abbrev cX8_whyNotShoot : ByteArray := prog_10_method_26_code
def yX8_whyNotShoot : MethodName := ⟨RX8, "whyNotShoot", "()I"⟩
abbrev cX8_shoots : ByteArray := prog_10_method_27_code
def yX8_shoots : MethodName := ⟨RX8, "shoots", "()I"⟩
abbrev cX8_shoot : ByteArray := prog_10_method_28_code
def yX8_shoot : MethodName := ⟨RX8, "shoot", "()I"⟩
abbrev cX8_of : ByteArray := prog_10_method_29_code
def yX8_of : MethodName := ⟨RX8, "of", "(II)I"⟩
abbrev cX8_goes : ByteArray := prog_10_method_30_code
def yX8_goes : MethodName := ⟨RX8, "goes", "(I)I"⟩
abbrev cX8_isPixel : ByteArray := prog_10_method_31_code
def yX8_isPixel : MethodName := ⟨RX8, "isPixel", "(II)Z"⟩
abbrev cX8_pixel : ByteArray := prog_10_method_32_code
def yX8_pixel : MethodName := ⟨RX8, "pixel", "(II)I"⟩
abbrev cX8_joined : ByteArray := prog_10_method_33_code
def yX8_joined : MethodName := ⟨RX8, "joined", "(II)I"⟩
abbrev cX8_lit : ByteArray := prog_10_method_34_code
def yX8_lit : MethodName := ⟨RX8, "lit", "(I)I"⟩
abbrev cX8_sumOf : ByteArray := prog_10_method_35_code
def yX8_sumOf : MethodName := ⟨RX8, "sumOf", "(I)I"⟩
abbrev cX8_leftmost : ByteArray := prog_10_method_36_code
def yX8_leftmost : MethodName := ⟨RX8, "leftmost", "(I)I"⟩
abbrev cX8_ofLine : ByteArray := prog_10_method_37_code
def yX8_ofLine : MethodName := ⟨RX8, "ofLine", "(II)I"⟩
abbrev cX8_darkLines : ByteArray := prog_10_method_38_code
def yX8_darkLines : MethodName := ⟨RX8, "darkLines", "()I"⟩
abbrev cX8_brightest : ByteArray := prog_10_method_39_code
def yX8_brightest : MethodName := ⟨RX8, "brightest", "()I"⟩
abbrev cX8_bands : ByteArray := prog_10_method_40_code
def yX8_bands : MethodName := ⟨RX8, "bands", "()I"⟩
abbrev cX8_count : ByteArray := prog_10_method_41_code
def yX8_count : MethodName := ⟨RX8, "count", "(I)I"⟩
abbrev cX8_seen : ByteArray := prog_10_method_42_code
def yX8_seen : MethodName := ⟨RX8, "seen", "(III)I"⟩
abbrev cX8_leans : ByteArray := prog_10_method_43_code
def yX8_leans : MethodName := ⟨RX8, "leans", "(I)I"⟩
abbrev cX8_bent : ByteArray := prog_10_method_44_code
def yX8_bent : MethodName := ⟨RX8, "bent", "()I"⟩
abbrev cX8_burnsIn : ByteArray := prog_10_method_45_code
def yX8_burnsIn : MethodName := ⟨RX8, "burnsIn", "(II)I"⟩
abbrev cX8_flashed : ByteArray := prog_10_method_46_code
def yX8_flashed : MethodName := ⟨RX8, "flashed", "()I"⟩
abbrev cX8_ones : ByteArray := prog_10_method_47_code
def yX8_ones : MethodName := ⟨RX8, "ones", "(I)I"⟩
abbrev cX8_bestFlash : ByteArray := prog_10_method_48_code
def yX8_bestFlash : MethodName := ⟨RX8, "bestFlash", "(II)I"⟩
abbrev cX8_put : ByteArray := prog_10_method_49_code
def yX8_put : MethodName := ⟨RX8, "put", "(J)I"⟩
abbrev cX8_wipe : ByteArray := prog_10_method_50_code
def yX8_wipe : MethodName := ⟨RX8, "wipe", "()I"⟩
abbrev cX8_sign : ByteArray := prog_10_method_51_code
def yX8_sign : MethodName := ⟨RX8, "sign", "(I)I"⟩
abbrev cX8_digit : ByteArray := prog_10_method_52_code
def yX8_digit : MethodName := ⟨RX8, "digit", "(I)I"⟩
abbrev cX8_numberEnd : ByteArray := prog_10_method_53_code
def yX8_numberEnd : MethodName := ⟨RX8, "numberEnd", "(I)I"⟩
abbrev cX8_numberAt : ByteArray := prog_10_method_54_code
def yX8_numberAt : MethodName := ⟨RX8, "numberAt", "(I)I"⟩
abbrev cX8_behind : ByteArray := prog_10_method_55_code
def yX8_behind : MethodName := ⟨RX8, "behind", "(II)I"⟩
abbrev cX8_digitEnd : ByteArray := prog_10_method_56_code
def yX8_digitEnd : MethodName := ⟨RX8, "digitEnd", "(I)I"⟩
abbrev cX8_sizesEnd : ByteArray := prog_10_method_57_code
def yX8_sizesEnd : MethodName := ⟨RX8, "sizesEnd", "(I)I"⟩
abbrev cX8_isSpeed : ByteArray := prog_10_method_58_code
def yX8_isSpeed : MethodName := ⟨RX8, "isSpeed", "(I)Z"⟩
abbrev cX8_orderEnd : ByteArray := prog_10_method_59_code
def yX8_orderEnd : MethodName := ⟨RX8, "orderEnd", "(I)I"⟩
abbrev cX8_fault : ByteArray := prog_10_method_60_code
def yX8_fault : MethodName := ⟨RX8, "fault", "()I"⟩
abbrev cX8_comesBy : ByteArray := prog_10_method_61_code
def yX8_comesBy : MethodName := ⟨RX8, "comesBy", "(I)I"⟩
abbrev cX8_carries : ByteArray := prog_10_method_62_code
def yX8_carries : MethodName := ⟨RX8, "carries", "(I)I"⟩
abbrev cX8_carryOut : ByteArray := prog_10_method_63_code
def yX8_carryOut : MethodName := ⟨RX8, "carryOut", "()I"⟩
abbrev cX8_undo : ByteArray := prog_10_method_64_code
def yX8_undo : MethodName := ⟨RX8, "undo", "()I"⟩
abbrev cX8_save : ByteArray := prog_10_method_65_code
def yX8_save : MethodName := ⟨RX8, "save", "(I)I"⟩
abbrev cX8_restore : ByteArray := prog_10_method_66_code
def yX8_restore : MethodName := ⟨RX8, "restore", "(I)I"⟩
def RJx8e188 : String := "java/lang/Cloneable"
def TJx8e188 : u_T := fun k => match k with
  | _ => ("", "", "", false)
def tyJx8e188 : Nat → FieldType := fun k => match k with
  | _ => .int
abbrev wsJx8e1880 : List Cond := u_ws RJx8e188 TJx8e188 0
theorem nmJx8e188 : ∀ a, a < 0 → ∀ b, b < 0 → a ≠ b → (TJx8e188 a).2.1 ≠ (TJx8e188 b).2.1 := by decide +kernel
theorem tyJx8e188_ok : ∀ k, k < 0 → parseFieldDescriptor (TJx8e188 k).2.2.1 = some (tyJx8e188 k) := by decide +kernel
def RJ6 : String := "java/lang/Integer"
def TJ6 : u_T := fun k => match k with
  | _ => ("", "", "", false)
def tyJ6 : Nat → FieldType := fun k => match k with
  | _ => .int
abbrev wsJ60 : List Cond := u_ws RJ6 TJ6 0
theorem nmJ6 : ∀ a, a < 0 → ∀ b, b < 0 → a ≠ b → (TJ6 a).2.1 ≠ (TJ6 b).2.1 := by decide +kernel
theorem tyJ6_ok : ∀ k, k < 0 → parseFieldDescriptor (TJ6 k).2.2.1 = some (tyJ6 k) := by decide +kernel
abbrev cJ6_bitCount_0f7a4 : ByteArray := prog_12_method_49_code
def yJ6_bitCount_0f7a4 : MethodName := ⟨RJ6, "bitCount", "(I)I"⟩
def RJ9 : String := "java/lang/Math"
def TJ9 : u_T := fun k => match k with
  | _ => ("", "", "", false)
def tyJ9 : Nat → FieldType := fun k => match k with
  | _ => .int
abbrev wsJ90 : List Cond := u_ws RJ9 TJ9 0
theorem nmJ9 : ∀ a, a < 0 → ∀ b, b < 0 → a ≠ b → (TJ9 a).2.1 ≠ (TJ9 b).2.1 := by decide +kernel
theorem tyJ9_ok : ∀ k, k < 0 → parseFieldDescriptor (TJ9 k).2.2.1 = some (tyJ9 k) := by decide +kernel
abbrev cJ9_floorDiv_7cf53 : ByteArray := prog_13_method_47_code
def yJ9_floorDiv_7cf53 : MethodName := ⟨RJ9, "floorDiv", "(II)I"⟩
abbrev cJ9_max_7cf53 : ByteArray := prog_13_method_65_code
def yJ9_max_7cf53 : MethodName := ⟨RJ9, "max", "(II)I"⟩
abbrev cJ9_min_7cf53 : ByteArray := prog_13_method_69_code
def yJ9_min_7cf53 : MethodName := ⟨RJ9, "min", "(II)I"⟩
def RJ10 : String := "java/lang/System"
def TJ10 : u_T := fun k => match k with
  | _ => ("", "", "", false)
def tyJ10 : Nat → FieldType := fun k => match k with
  | _ => .int
abbrev wsJ100 : List Cond := u_ws RJ10 TJ10 0
theorem nmJ10 : ∀ a, a < 0 → ∀ b, b < 0 → a ≠ b → (TJ10 a).2.1 ≠ (TJ10 b).2.1 := by decide +kernel
theorem tyJ10_ok : ∀ k, k < 0 → parseFieldDescriptor (TJ10 k).2.2.1 = some (tyJ10 k) := by decide +kernel
def RJ7 : String := "java/util/Arrays"
def TJ7 : u_T := fun k => match k with
  | _ => ("", "", "", false)
def tyJ7 : Nat → FieldType := fun k => match k with
  | _ => .int
abbrev wsJ70 : List Cond := u_ws RJ7 TJ7 0
theorem nmJ7 : ∀ a, a < 0 → ∀ b, b < 0 → a ≠ b → (TJ7 a).2.1 ≠ (TJ7 b).2.1 := by decide +kernel
theorem tyJ7_ok : ∀ k, k < 0 → parseFieldDescriptor (TJ7 k).2.2.1 = some (tyJ7 k) := by decide +kernel
abbrev cJ7_fill_53178 : ByteArray := prog_15_method_103_code
def yJ7_fill_53178 : MethodName := ⟨RJ7, "fill", "([II)V"⟩
def RL : String := "LeaningLinesLaw"
abbrev cL_law : ByteArray := code
def yL_law : MethodName := ⟨RL, "law", "([I)Z"⟩
def wsX0_init : List Cond := .code yX0_init cX0_init 1 none :: ([.methodLink RX0 3 objectInit, .instanceMethod objectInit, .code objectInit ⟨#[0xb1]⟩ 1 none, .arrayClass .int, .fieldLink RX0 9 "LeaningLines$Camera" "leaning" "[I", .fieldLink RX0 15 "LeaningLines$Camera" "upright" "[I", .fieldLink RX0 18 "LeaningLines$Camera" "rises" "[I"] ++ wsX00)
def wsX5_beginOf : List Cond := .code yX5_beginOf cX5_beginOf 2 (some .int) :: ([.fieldLink RX5 37 "LeaningLines$Scene" "time" "I", .fieldLink RX5 18 "LeaningLines$Scene" "settings" "[I"] ++ wsX50)
def wsJ7_fill_53178 : List Cond := .code yJ7_fill_53178 cJ7_fill_53178 4 none :: ([])
def wsX7_within : List Cond := .code yX7_within cX7_within 3 (some .boolean) :: ([])
def wsX5_lightAt : List Cond := .code yX5_lightAt cX5_lightAt 3 (some .int) :: ([.fieldLink RX5 44 "LeaningLines$Scene" "flashTime" "I", .fieldLink RX5 47 "LeaningLines$Scene" "flashTicks" "I", .fieldLink RX5 18 "LeaningLines$Scene" "settings" "[I", .static yX7_within, .initialized RX7, .code yX7_within cX7_within 3 (some .boolean)] ++ wsX50)
def wsX6_isInLine : List Cond := .code yX6_isInLine cX6_isInLine 3 (some .boolean) :: ([.fieldLink RX6 9 "LeaningLines$Things" "line" "[I", .fieldLink RX6 15 "LeaningLines$Things" "high" "[I", .static yX7_within, .initialized RX7, .code yX7_within cX7_within 3 (some .boolean)] ++ wsX60)
def wsJ9_floorDiv_7cf53 : List Cond := .code yJ9_floorDiv_7cf53 cJ9_floorDiv_7cf53 3 (some .int) :: ([])
def wsX6_leftAt : List Cond := .code yX6_leftAt cX6_leftAt 6 (some .int) :: ([.fieldLink RX6 39 "LeaningLines$Things" "many" "I", .fieldLink RX6 30 "LeaningLines$Things" "left" "[I", .fieldLink RX6 24 "LeaningLines$Things" "speed" "[I", .fieldLink RX6 27 "LeaningLines$Things" "since" "[I", .fieldLink RX6 36 "LeaningLines$Things" "underLeft" "[I", .fieldLink RX6 33 "LeaningLines$Things" "under" "[I", .methodLink RX6 47 yJ9_floorDiv_7cf53, .static yJ9_floorDiv_7cf53, .initialized RJ9, .code yJ9_floorDiv_7cf53 cJ9_floorDiv_7cf53 3 (some .int)] ++ wsX60)
def wsX0_nearestEdge : List Cond := .code yX0_nearestEdge cX0_nearestEdge 1 (some .int) :: ([.methodLink RX0 75 Lib.Math.min.name, .static Lib.Math.min.name, .initialized "java/lang/Math", .code Lib.Math.min.name Lib.Math.min.code 2 (some .int), .methodLink RX0 102 Lib.Math.max.name, .static Lib.Math.max.name, .code Lib.Math.max.name Lib.Math.max.code 2 (some .int)])
def wsX0_findRises_r1 : List Cond := [Cond.fieldLink RX0 18 "LeaningLines$Camera" "rises" "[I", Cond.fieldLink RX0 81 "LeaningLines$Things" "many" "I", Cond.fieldLink RX0 96 "LeaningLines$Things" "brightness" "[I", Cond.fieldLink RX0 99 "LeaningLines$Things" "wide" "[I", Cond.methodLink RX0 55 yJ7_fill_53178, Cond.static yJ7_fill_53178, Cond.initialized RJ7, Cond.code yJ7_fill_53178 cJ7_fill_53178 4 none, Cond.methodLink RX0 86 yX6_isInLine, Cond.instanceMethod yX6_isInLine, Cond.selects RX6 yX6_isInLine yX6_isInLine, Cond.initialized RX6, Cond.code yX6_isInLine cX6_isInLine 3 (some .boolean), Cond.fieldLink RX6 9 "LeaningLines$Things" "line" "[I", Cond.fieldLink RX6 15 "LeaningLines$Things" "high" "[I", Cond.static yX7_within, Cond.initialized RX7, Cond.code yX7_within cX7_within 3 (some .boolean), Cond.methodLink RX0 90 yX6_leftAt, Cond.instanceMethod yX6_leftAt, Cond.selects RX6 yX6_leftAt yX6_leftAt, Cond.code yX6_leftAt cX6_leftAt 6 (some .int), Cond.fieldLink RX6 39 "LeaningLines$Things" "many" "I", Cond.fieldLink RX6 30 "LeaningLines$Things" "left" "[I"]
def wsX0_findRises_r2 : List Cond := [Cond.fieldLink RX6 24 "LeaningLines$Things" "speed" "[I", Cond.fieldLink RX6 27 "LeaningLines$Things" "since" "[I", Cond.fieldLink RX6 36 "LeaningLines$Things" "underLeft" "[I", Cond.fieldLink RX6 33 "LeaningLines$Things" "under" "[I", Cond.methodLink RX6 47 yJ9_floorDiv_7cf53, Cond.static yJ9_floorDiv_7cf53, Cond.initialized RJ9, Cond.code yJ9_floorDiv_7cf53 cJ9_floorDiv_7cf53 3 (some .int), Cond.methodLink RX0 93 yX0_nearestEdge, Cond.static yX0_nearestEdge, Cond.initialized RX0, Cond.code yX0_nearestEdge cX0_nearestEdge 1 (some .int), Cond.methodLink RX0 75 Lib.Math.min.name, Cond.static Lib.Math.min.name, Cond.initialized "java/lang/Math", Cond.code Lib.Math.min.name Lib.Math.min.code 2 (some .int), Cond.methodLink RX0 102 Lib.Math.max.name, Cond.static Lib.Math.max.name, Cond.code Lib.Math.max.name Lib.Math.max.code 2 (some .int)]
def wsX0_findRises : List Cond := .code yX0_findRises cX0_findRises 6 none :: ((wsX0_findRises_r1 ++ wsX0_findRises_r2) ++ wsX00 ++ wsX60)
def wsX0_addLight : List Cond := .code yX0_addLight cX0_addLight 5 none :: ([.fieldLink RX0 18 "LeaningLines$Camera" "rises" "[I", .methodLink RX0 75 Lib.Math.min.name, .static Lib.Math.min.name, .initialized "java/lang/Math", .code Lib.Math.min.name Lib.Math.min.code 2 (some .int)] ++ wsX00)
def wsX0_exposeLine_r1 : List Cond := [Cond.fieldLink RX0 64 "LeaningLines$Scene" "things" "LLeaningLines$Things;", Cond.methodLink RX0 55 yJ7_fill_53178, Cond.static yJ7_fill_53178, Cond.initialized RJ7, Cond.code yJ7_fill_53178 cJ7_fill_53178 4 none, Cond.methodLink RX0 61 yX5_lightAt, Cond.instanceMethod yX5_lightAt, Cond.selects RX5 yX5_lightAt yX5_lightAt, Cond.initialized RX5, Cond.code yX5_lightAt cX5_lightAt 3 (some .int), Cond.fieldLink RX5 44 "LeaningLines$Scene" "flashTime" "I", Cond.fieldLink RX5 47 "LeaningLines$Scene" "flashTicks" "I", Cond.fieldLink RX5 18 "LeaningLines$Scene" "settings" "[I", Cond.static yX7_within, Cond.initialized RX7, Cond.code yX7_within cX7_within 3 (some .boolean), Cond.methodLink RX0 68 yX0_findRises, Cond.instanceMethod yX0_findRises, Cond.selects RX0 yX0_findRises yX0_findRises, Cond.initialized RX0, Cond.code yX0_findRises cX0_findRises 6 none, Cond.fieldLink RX0 18 "LeaningLines$Camera" "rises" "[I", Cond.fieldLink RX0 81 "LeaningLines$Things" "many" "I", Cond.fieldLink RX0 96 "LeaningLines$Things" "brightness" "[I"]
def wsX0_exposeLine_r2 : List Cond := [Cond.fieldLink RX0 99 "LeaningLines$Things" "wide" "[I", Cond.methodLink RX0 86 yX6_isInLine, Cond.instanceMethod yX6_isInLine, Cond.selects RX6 yX6_isInLine yX6_isInLine, Cond.initialized RX6, Cond.code yX6_isInLine cX6_isInLine 3 (some .boolean), Cond.fieldLink RX6 9 "LeaningLines$Things" "line" "[I", Cond.fieldLink RX6 15 "LeaningLines$Things" "high" "[I", Cond.methodLink RX0 90 yX6_leftAt, Cond.instanceMethod yX6_leftAt, Cond.selects RX6 yX6_leftAt yX6_leftAt, Cond.code yX6_leftAt cX6_leftAt 6 (some .int), Cond.fieldLink RX6 39 "LeaningLines$Things" "many" "I", Cond.fieldLink RX6 30 "LeaningLines$Things" "left" "[I", Cond.fieldLink RX6 24 "LeaningLines$Things" "speed" "[I", Cond.fieldLink RX6 27 "LeaningLines$Things" "since" "[I", Cond.fieldLink RX6 36 "LeaningLines$Things" "underLeft" "[I", Cond.fieldLink RX6 33 "LeaningLines$Things" "under" "[I", Cond.methodLink RX6 47 yJ9_floorDiv_7cf53, Cond.static yJ9_floorDiv_7cf53, Cond.initialized RJ9, Cond.code yJ9_floorDiv_7cf53 cJ9_floorDiv_7cf53 3 (some .int), Cond.methodLink RX0 93 yX0_nearestEdge, Cond.static yX0_nearestEdge]
def wsX0_exposeLine_r3 : List Cond := [Cond.code yX0_nearestEdge cX0_nearestEdge 1 (some .int), Cond.methodLink RX0 75 Lib.Math.min.name, Cond.static Lib.Math.min.name, Cond.initialized "java/lang/Math", Cond.code Lib.Math.min.name Lib.Math.min.code 2 (some .int), Cond.methodLink RX0 102 Lib.Math.max.name, Cond.static Lib.Math.max.name, Cond.code Lib.Math.max.name Lib.Math.max.code 2 (some .int), Cond.methodLink RX0 72 yX0_addLight, Cond.instanceMethod yX0_addLight, Cond.selects RX0 yX0_addLight yX0_addLight, Cond.code yX0_addLight cX0_addLight 5 none]
def wsX0_exposeLine : List Cond := .code yX0_exposeLine cX0_exposeLine 8 none :: ((wsX0_exposeLine_r1 ++ (wsX0_exposeLine_r2 ++ wsX0_exposeLine_r3)) ++ wsX50 ++ wsX00 ++ wsX60)
def wsX3_putLine : List Cond := .code yX3_putLine cX3_putLine 3 none :: ([.fieldLink RX3 9 "LeaningLines$Picture" "pixels" "[I", .methodLink RX3 15 arraycopyName, .native arraycopyName, .static arraycopyName, .initialized "java/lang/System"] ++ wsX30)
def wsX5_endOfPicture : List Cond := .code yX5_endOfPicture cX5_endOfPicture 1 (some .int) :: ([.fieldLink RX5 18 "LeaningLines$Scene" "settings" "[I", .methodLink RX5 50 yX5_beginOf, .instanceMethod yX5_beginOf, .selects RX5 yX5_beginOf yX5_beginOf, .initialized RX5, .code yX5_beginOf cX5_beginOf 2 (some .int), .fieldLink RX5 37 "LeaningLines$Scene" "time" "I"] ++ wsX50)
def wsX0_takePicture_r1 : List Cond := [Cond.fieldLink RX0 27 "LeaningLines$Scene" "settings" "[I", Cond.fieldLink RX0 9 "LeaningLines$Camera" "leaning" "[I", Cond.fieldLink RX0 34 "LeaningLines$Scene" "picture" "LLeaningLines$Picture;", Cond.fieldLink RX0 48 "LeaningLines$Scene" "time" "I", Cond.fieldLink RX0 52 "LeaningLines$Scene" "pictures" "I", Cond.methodLink RX0 21 yX5_beginOf, Cond.instanceMethod yX5_beginOf, Cond.selects RX5 yX5_beginOf yX5_beginOf, Cond.initialized RX5, Cond.code yX5_beginOf cX5_beginOf 2 (some .int), Cond.fieldLink RX5 37 "LeaningLines$Scene" "time" "I", Cond.fieldLink RX5 18 "LeaningLines$Scene" "settings" "[I", Cond.methodLink RX0 30 yX0_exposeLine, Cond.instanceMethod yX0_exposeLine, Cond.selects RX0 yX0_exposeLine yX0_exposeLine, Cond.initialized RX0, Cond.code yX0_exposeLine cX0_exposeLine 8 none, Cond.fieldLink RX0 64 "LeaningLines$Scene" "things" "LLeaningLines$Things;", Cond.methodLink RX0 55 yJ7_fill_53178, Cond.static yJ7_fill_53178, Cond.initialized RJ7, Cond.code yJ7_fill_53178 cJ7_fill_53178 4 none, Cond.methodLink RX0 61 yX5_lightAt, Cond.instanceMethod yX5_lightAt]
def wsX0_takePicture_r2 : List Cond := [Cond.selects RX5 yX5_lightAt yX5_lightAt, Cond.code yX5_lightAt cX5_lightAt 3 (some .int), Cond.fieldLink RX5 44 "LeaningLines$Scene" "flashTime" "I", Cond.fieldLink RX5 47 "LeaningLines$Scene" "flashTicks" "I", Cond.static yX7_within, Cond.initialized RX7, Cond.code yX7_within cX7_within 3 (some .boolean), Cond.methodLink RX0 68 yX0_findRises, Cond.instanceMethod yX0_findRises, Cond.selects RX0 yX0_findRises yX0_findRises, Cond.code yX0_findRises cX0_findRises 6 none, Cond.fieldLink RX0 18 "LeaningLines$Camera" "rises" "[I", Cond.fieldLink RX0 81 "LeaningLines$Things" "many" "I", Cond.fieldLink RX0 96 "LeaningLines$Things" "brightness" "[I", Cond.fieldLink RX0 99 "LeaningLines$Things" "wide" "[I", Cond.methodLink RX0 86 yX6_isInLine, Cond.instanceMethod yX6_isInLine, Cond.selects RX6 yX6_isInLine yX6_isInLine, Cond.initialized RX6, Cond.code yX6_isInLine cX6_isInLine 3 (some .boolean), Cond.fieldLink RX6 9 "LeaningLines$Things" "line" "[I", Cond.fieldLink RX6 15 "LeaningLines$Things" "high" "[I", Cond.methodLink RX0 90 yX6_leftAt, Cond.instanceMethod yX6_leftAt]
def wsX0_takePicture_r3 : List Cond := [Cond.selects RX6 yX6_leftAt yX6_leftAt, Cond.code yX6_leftAt cX6_leftAt 6 (some .int), Cond.fieldLink RX6 39 "LeaningLines$Things" "many" "I", Cond.fieldLink RX6 30 "LeaningLines$Things" "left" "[I", Cond.fieldLink RX6 24 "LeaningLines$Things" "speed" "[I", Cond.fieldLink RX6 27 "LeaningLines$Things" "since" "[I", Cond.fieldLink RX6 36 "LeaningLines$Things" "underLeft" "[I", Cond.fieldLink RX6 33 "LeaningLines$Things" "under" "[I", Cond.methodLink RX6 47 yJ9_floorDiv_7cf53, Cond.static yJ9_floorDiv_7cf53, Cond.initialized RJ9, Cond.code yJ9_floorDiv_7cf53 cJ9_floorDiv_7cf53 3 (some .int), Cond.methodLink RX0 93 yX0_nearestEdge, Cond.static yX0_nearestEdge, Cond.code yX0_nearestEdge cX0_nearestEdge 1 (some .int), Cond.methodLink RX0 75 Lib.Math.min.name, Cond.static Lib.Math.min.name, Cond.initialized "java/lang/Math", Cond.code Lib.Math.min.name Lib.Math.min.code 2 (some .int), Cond.methodLink RX0 102 Lib.Math.max.name, Cond.static Lib.Math.max.name, Cond.code Lib.Math.max.name Lib.Math.max.code 2 (some .int), Cond.methodLink RX0 72 yX0_addLight, Cond.instanceMethod yX0_addLight]
def wsX0_takePicture_r4 : List Cond := [Cond.selects RX0 yX0_addLight yX0_addLight, Cond.code yX0_addLight cX0_addLight 5 none, Cond.methodLink RX0 38 yX3_putLine, Cond.instanceMethod yX3_putLine, Cond.selects RX3 yX3_putLine yX3_putLine, Cond.initialized RX3, Cond.code yX3_putLine cX3_putLine 3 none, Cond.fieldLink RX3 9 "LeaningLines$Picture" "pixels" "[I", Cond.methodLink RX3 15 arraycopyName, Cond.native arraycopyName, Cond.static arraycopyName, Cond.initialized "java/lang/System", Cond.methodLink RX0 44 yX5_endOfPicture, Cond.instanceMethod yX5_endOfPicture, Cond.selects RX5 yX5_endOfPicture yX5_endOfPicture, Cond.code yX5_endOfPicture cX5_endOfPicture 1 (some .int), Cond.methodLink RX5 50 yX5_beginOf]
def wsX0_takePicture : List Cond := .code yX0_takePicture cX0_takePicture 3 none :: ((wsX0_takePicture_r1 ++ (wsX0_takePicture_r2 ++ (wsX0_takePicture_r3 ++ wsX0_takePicture_r4))) ++ wsX50 ++ wsX00 ++ wsX60 ++ wsX30)
def wsX0_pixelsBent_r1 : List Cond := [Cond.fieldLink RX0 27 "LeaningLines$Scene" "settings" "[I", Cond.fieldLink RX0 9 "LeaningLines$Camera" "leaning" "[I", Cond.fieldLink RX0 48 "LeaningLines$Scene" "time" "I", Cond.fieldLink RX0 15 "LeaningLines$Camera" "upright" "[I", Cond.methodLink RX0 21 yX5_beginOf, Cond.instanceMethod yX5_beginOf, Cond.selects RX5 yX5_beginOf yX5_beginOf, Cond.initialized RX5, Cond.code yX5_beginOf cX5_beginOf 2 (some .int), Cond.fieldLink RX5 37 "LeaningLines$Scene" "time" "I", Cond.fieldLink RX5 18 "LeaningLines$Scene" "settings" "[I", Cond.methodLink RX0 30 yX0_exposeLine, Cond.instanceMethod yX0_exposeLine, Cond.selects RX0 yX0_exposeLine yX0_exposeLine, Cond.initialized RX0, Cond.code yX0_exposeLine cX0_exposeLine 8 none, Cond.fieldLink RX0 64 "LeaningLines$Scene" "things" "LLeaningLines$Things;", Cond.methodLink RX0 55 yJ7_fill_53178, Cond.static yJ7_fill_53178, Cond.initialized RJ7, Cond.code yJ7_fill_53178 cJ7_fill_53178 4 none, Cond.methodLink RX0 61 yX5_lightAt, Cond.instanceMethod yX5_lightAt, Cond.selects RX5 yX5_lightAt yX5_lightAt]
def wsX0_pixelsBent_r2 : List Cond := [Cond.code yX5_lightAt cX5_lightAt 3 (some .int), Cond.fieldLink RX5 44 "LeaningLines$Scene" "flashTime" "I", Cond.fieldLink RX5 47 "LeaningLines$Scene" "flashTicks" "I", Cond.static yX7_within, Cond.initialized RX7, Cond.code yX7_within cX7_within 3 (some .boolean), Cond.methodLink RX0 68 yX0_findRises, Cond.instanceMethod yX0_findRises, Cond.selects RX0 yX0_findRises yX0_findRises, Cond.code yX0_findRises cX0_findRises 6 none, Cond.fieldLink RX0 18 "LeaningLines$Camera" "rises" "[I", Cond.fieldLink RX0 81 "LeaningLines$Things" "many" "I", Cond.fieldLink RX0 96 "LeaningLines$Things" "brightness" "[I", Cond.fieldLink RX0 99 "LeaningLines$Things" "wide" "[I", Cond.methodLink RX0 86 yX6_isInLine, Cond.instanceMethod yX6_isInLine, Cond.selects RX6 yX6_isInLine yX6_isInLine, Cond.initialized RX6, Cond.code yX6_isInLine cX6_isInLine 3 (some .boolean), Cond.fieldLink RX6 9 "LeaningLines$Things" "line" "[I", Cond.fieldLink RX6 15 "LeaningLines$Things" "high" "[I", Cond.methodLink RX0 90 yX6_leftAt, Cond.instanceMethod yX6_leftAt, Cond.selects RX6 yX6_leftAt yX6_leftAt]
def wsX0_pixelsBent_r3 : List Cond := [Cond.code yX6_leftAt cX6_leftAt 6 (some .int), Cond.fieldLink RX6 39 "LeaningLines$Things" "many" "I", Cond.fieldLink RX6 30 "LeaningLines$Things" "left" "[I", Cond.fieldLink RX6 24 "LeaningLines$Things" "speed" "[I", Cond.fieldLink RX6 27 "LeaningLines$Things" "since" "[I", Cond.fieldLink RX6 36 "LeaningLines$Things" "underLeft" "[I", Cond.fieldLink RX6 33 "LeaningLines$Things" "under" "[I", Cond.methodLink RX6 47 yJ9_floorDiv_7cf53, Cond.static yJ9_floorDiv_7cf53, Cond.initialized RJ9, Cond.code yJ9_floorDiv_7cf53 cJ9_floorDiv_7cf53 3 (some .int), Cond.methodLink RX0 93 yX0_nearestEdge, Cond.static yX0_nearestEdge, Cond.code yX0_nearestEdge cX0_nearestEdge 1 (some .int), Cond.methodLink RX0 75 Lib.Math.min.name, Cond.static Lib.Math.min.name, Cond.initialized "java/lang/Math", Cond.code Lib.Math.min.name Lib.Math.min.code 2 (some .int), Cond.methodLink RX0 102 Lib.Math.max.name, Cond.static Lib.Math.max.name, Cond.code Lib.Math.max.name Lib.Math.max.code 2 (some .int), Cond.methodLink RX0 72 yX0_addLight, Cond.instanceMethod yX0_addLight, Cond.selects RX0 yX0_addLight yX0_addLight]
def wsX0_pixelsBent_r4 : List Cond := [Cond.code yX0_addLight cX0_addLight 5 none]
def wsX0_pixelsBent : List Cond := .code yX0_pixelsBent cX0_pixelsBent 5 (some .int) :: ((wsX0_pixelsBent_r1 ++ (wsX0_pixelsBent_r2 ++ (wsX0_pixelsBent_r3 ++ wsX0_pixelsBent_r4))) ++ wsX50 ++ wsX00 ++ wsX60)
def wsX0_brightnessAt_r1 : List Cond := [Cond.fieldLink RX0 15 "LeaningLines$Camera" "upright" "[I", Cond.methodLink RX0 30 yX0_exposeLine, Cond.instanceMethod yX0_exposeLine, Cond.selects RX0 yX0_exposeLine yX0_exposeLine, Cond.initialized RX0, Cond.code yX0_exposeLine cX0_exposeLine 8 none, Cond.fieldLink RX0 64 "LeaningLines$Scene" "things" "LLeaningLines$Things;", Cond.methodLink RX0 55 yJ7_fill_53178, Cond.static yJ7_fill_53178, Cond.initialized RJ7, Cond.code yJ7_fill_53178 cJ7_fill_53178 4 none, Cond.methodLink RX0 61 yX5_lightAt, Cond.instanceMethod yX5_lightAt, Cond.selects RX5 yX5_lightAt yX5_lightAt, Cond.initialized RX5, Cond.code yX5_lightAt cX5_lightAt 3 (some .int), Cond.fieldLink RX5 44 "LeaningLines$Scene" "flashTime" "I", Cond.fieldLink RX5 47 "LeaningLines$Scene" "flashTicks" "I", Cond.fieldLink RX5 18 "LeaningLines$Scene" "settings" "[I", Cond.static yX7_within, Cond.initialized RX7, Cond.code yX7_within cX7_within 3 (some .boolean), Cond.methodLink RX0 68 yX0_findRises, Cond.instanceMethod yX0_findRises]
def wsX0_brightnessAt_r2 : List Cond := [Cond.selects RX0 yX0_findRises yX0_findRises, Cond.code yX0_findRises cX0_findRises 6 none, Cond.fieldLink RX0 18 "LeaningLines$Camera" "rises" "[I", Cond.fieldLink RX0 81 "LeaningLines$Things" "many" "I", Cond.fieldLink RX0 96 "LeaningLines$Things" "brightness" "[I", Cond.fieldLink RX0 99 "LeaningLines$Things" "wide" "[I", Cond.methodLink RX0 86 yX6_isInLine, Cond.instanceMethod yX6_isInLine, Cond.selects RX6 yX6_isInLine yX6_isInLine, Cond.initialized RX6, Cond.code yX6_isInLine cX6_isInLine 3 (some .boolean), Cond.fieldLink RX6 9 "LeaningLines$Things" "line" "[I", Cond.fieldLink RX6 15 "LeaningLines$Things" "high" "[I", Cond.methodLink RX0 90 yX6_leftAt, Cond.instanceMethod yX6_leftAt, Cond.selects RX6 yX6_leftAt yX6_leftAt, Cond.code yX6_leftAt cX6_leftAt 6 (some .int), Cond.fieldLink RX6 39 "LeaningLines$Things" "many" "I", Cond.fieldLink RX6 30 "LeaningLines$Things" "left" "[I", Cond.fieldLink RX6 24 "LeaningLines$Things" "speed" "[I", Cond.fieldLink RX6 27 "LeaningLines$Things" "since" "[I", Cond.fieldLink RX6 36 "LeaningLines$Things" "underLeft" "[I", Cond.fieldLink RX6 33 "LeaningLines$Things" "under" "[I", Cond.methodLink RX6 47 yJ9_floorDiv_7cf53]
def wsX0_brightnessAt_r3 : List Cond := [Cond.static yJ9_floorDiv_7cf53, Cond.initialized RJ9, Cond.code yJ9_floorDiv_7cf53 cJ9_floorDiv_7cf53 3 (some .int), Cond.methodLink RX0 93 yX0_nearestEdge, Cond.static yX0_nearestEdge, Cond.code yX0_nearestEdge cX0_nearestEdge 1 (some .int), Cond.methodLink RX0 75 Lib.Math.min.name, Cond.static Lib.Math.min.name, Cond.initialized "java/lang/Math", Cond.code Lib.Math.min.name Lib.Math.min.code 2 (some .int), Cond.methodLink RX0 102 Lib.Math.max.name, Cond.static Lib.Math.max.name, Cond.code Lib.Math.max.name Lib.Math.max.code 2 (some .int), Cond.methodLink RX0 72 yX0_addLight, Cond.instanceMethod yX0_addLight, Cond.selects RX0 yX0_addLight yX0_addLight, Cond.code yX0_addLight cX0_addLight 5 none]
def wsX0_brightnessAt : List Cond := .code yX0_brightnessAt cX0_brightnessAt 5 (some .int) :: ((wsX0_brightnessAt_r1 ++ (wsX0_brightnessAt_r2 ++ wsX0_brightnessAt_r3)) ++ wsX00 ++ wsX50 ++ wsX60)
def wsX1_init : List Cond := .code yX1_init cX1_init 1 none :: ([.methodLink RX1 3 objectInit, .instanceMethod objectInit, .code objectInit ⟨#[0xb1]⟩ 1 none, .classLink RX1 9 RX5, .fieldLink RX1 11 "LeaningLines$History" "states" "[LLeaningLines$Scene;", .fieldLink RX1 17 "LeaningLines$History" "next" "I", .fieldLink RX1 21 "LeaningLines$History" "many" "I"] ++ wsX10)
def wsX6_init : List Cond := .code yX6_init cX6_init 1 none :: ([.methodLink RX6 3 objectInit, .instanceMethod objectInit, .code objectInit ⟨#[0xb1]⟩ 1 none, .arrayClass .int, .fieldLink RX6 9 "LeaningLines$Things" "line" "[I", .fieldLink RX6 15 "LeaningLines$Things" "high" "[I", .fieldLink RX6 18 "LeaningLines$Things" "wide" "[I", .fieldLink RX6 21 "LeaningLines$Things" "brightness" "[I", .fieldLink RX6 24 "LeaningLines$Things" "speed" "[I", .fieldLink RX6 27 "LeaningLines$Things" "since" "[I", .fieldLink RX6 30 "LeaningLines$Things" "left" "[I", .fieldLink RX6 33 "LeaningLines$Things" "under" "[I", .fieldLink RX6 36 "LeaningLines$Things" "underLeft" "[I"] ++ wsX60)
def wsX3_init : List Cond := .code yX3_init cX3_init 1 none :: ([.methodLink RX3 3 objectInit, .instanceMethod objectInit, .code objectInit ⟨#[0xb1]⟩ 1 none, .arrayClass .int, .fieldLink RX3 9 "LeaningLines$Picture" "pixels" "[I"] ++ wsX30)
def wsX5_init_r1 : List Cond := [Cond.methodLink RX5 3 objectInit, Cond.instanceMethod objectInit, Cond.code objectInit ⟨#[0xb1]⟩ 1 none, Cond.methodLink RX5 13 ⟨"[I", "clone", "()Ljava/lang/Object;"⟩, Cond.sameMethod "[I" "java/lang/Object" "clone" "()Ljava/lang/Object;", Cond.native ⟨"java/lang/Object", "clone", "()Ljava/lang/Object;"⟩, Cond.instanceMethod ⟨"java/lang/Object", "clone", "()Ljava/lang/Object;"⟩, Cond.selects "[I" ⟨"[I", "clone", "()Ljava/lang/Object;"⟩ ⟨"java/lang/Object", "clone", "()Ljava/lang/Object;"⟩, Cond.classLink RX5 14 "[I", Cond.fieldLink RX5 18 "LeaningLines$Scene" "settings" "[I", Cond.classLink RX5 23 RX6, Cond.instantiable RX6 10, Cond.initialized RX6, Cond.fieldLink RX5 26 "LeaningLines$Scene" "things" "LLeaningLines$Things;", Cond.classLink RX5 30 RX3, Cond.instantiable RX3 1, Cond.initialized RX3, Cond.fieldLink RX5 33 "LeaningLines$Scene" "picture" "LLeaningLines$Picture;", Cond.fieldLink RX5 37 "LeaningLines$Scene" "time" "I", Cond.fieldLink RX5 41 "LeaningLines$Scene" "pictures" "I", Cond.fieldLink RX5 44 "LeaningLines$Scene" "flashTime" "I", Cond.fieldLink RX5 47 "LeaningLines$Scene" "flashTicks" "I", Cond.instanceMethod yX6_init, Cond.code yX6_init cX6_init 1 none]
def wsX5_init_r2 : List Cond := [Cond.methodLink RX6 3 objectInit, Cond.arrayClass .int, Cond.fieldLink RX6 9 "LeaningLines$Things" "line" "[I", Cond.fieldLink RX6 15 "LeaningLines$Things" "high" "[I", Cond.fieldLink RX6 18 "LeaningLines$Things" "wide" "[I", Cond.fieldLink RX6 21 "LeaningLines$Things" "brightness" "[I", Cond.fieldLink RX6 24 "LeaningLines$Things" "speed" "[I", Cond.fieldLink RX6 27 "LeaningLines$Things" "since" "[I", Cond.fieldLink RX6 30 "LeaningLines$Things" "left" "[I", Cond.fieldLink RX6 33 "LeaningLines$Things" "under" "[I", Cond.fieldLink RX6 36 "LeaningLines$Things" "underLeft" "[I", Cond.instanceMethod yX3_init, Cond.code yX3_init cX3_init 1 none, Cond.methodLink RX3 3 objectInit, Cond.fieldLink RX3 9 "LeaningLines$Picture" "pixels" "[I"]
def wsX5_init : List Cond := .code yX5_init cX5_init 1 none :: ((wsX5_init_r1 ++ wsX5_init_r2) ++ wsX50 ++ wsX60 ++ wsX30)
def wsX6_copyFrom : List Cond := .code yX6_copyFrom cX6_copyFrom 2 none :: ([.fieldLink RX6 39 "LeaningLines$Things" "many" "I", .fieldLink RX6 9 "LeaningLines$Things" "line" "[I", .methodLink RX6 56 arraycopyName, .native arraycopyName, .static arraycopyName, .initialized "java/lang/System", .fieldLink RX6 15 "LeaningLines$Things" "high" "[I", .fieldLink RX6 18 "LeaningLines$Things" "wide" "[I", .fieldLink RX6 21 "LeaningLines$Things" "brightness" "[I", .fieldLink RX6 24 "LeaningLines$Things" "speed" "[I", .fieldLink RX6 27 "LeaningLines$Things" "since" "[I", .fieldLink RX6 30 "LeaningLines$Things" "left" "[I", .fieldLink RX6 33 "LeaningLines$Things" "under" "[I", .fieldLink RX6 36 "LeaningLines$Things" "underLeft" "[I"] ++ wsX60)
def wsX3_copyFrom : List Cond := .code yX3_copyFrom cX3_copyFrom 2 none :: ([.fieldLink RX3 9 "LeaningLines$Picture" "pixels" "[I", .methodLink RX3 15 arraycopyName, .native arraycopyName, .static arraycopyName, .initialized "java/lang/System"] ++ wsX30)
def wsX5_copyFrom_r1 : List Cond := [Cond.fieldLink RX5 18 "LeaningLines$Scene" "settings" "[I", Cond.methodLink RX5 58 arraycopyName, Cond.native arraycopyName, Cond.static arraycopyName, Cond.initialized "java/lang/System", Cond.fieldLink RX5 26 "LeaningLines$Scene" "things" "LLeaningLines$Things;", Cond.fieldLink RX5 33 "LeaningLines$Scene" "picture" "LLeaningLines$Picture;", Cond.fieldLink RX5 37 "LeaningLines$Scene" "time" "I", Cond.fieldLink RX5 41 "LeaningLines$Scene" "pictures" "I", Cond.fieldLink RX5 44 "LeaningLines$Scene" "flashTime" "I", Cond.fieldLink RX5 47 "LeaningLines$Scene" "flashTicks" "I", Cond.methodLink RX5 64 yX6_copyFrom, Cond.instanceMethod yX6_copyFrom, Cond.selects RX6 yX6_copyFrom yX6_copyFrom, Cond.initialized RX6, Cond.code yX6_copyFrom cX6_copyFrom 2 none, Cond.fieldLink RX6 39 "LeaningLines$Things" "many" "I", Cond.fieldLink RX6 9 "LeaningLines$Things" "line" "[I", Cond.methodLink RX6 56 arraycopyName, Cond.fieldLink RX6 15 "LeaningLines$Things" "high" "[I", Cond.fieldLink RX6 18 "LeaningLines$Things" "wide" "[I", Cond.fieldLink RX6 21 "LeaningLines$Things" "brightness" "[I", Cond.fieldLink RX6 24 "LeaningLines$Things" "speed" "[I", Cond.fieldLink RX6 27 "LeaningLines$Things" "since" "[I"]
def wsX5_copyFrom_r2 : List Cond := [Cond.fieldLink RX6 30 "LeaningLines$Things" "left" "[I", Cond.fieldLink RX6 33 "LeaningLines$Things" "under" "[I", Cond.fieldLink RX6 36 "LeaningLines$Things" "underLeft" "[I", Cond.methodLink RX5 68 yX3_copyFrom, Cond.instanceMethod yX3_copyFrom, Cond.selects RX3 yX3_copyFrom yX3_copyFrom, Cond.initialized RX3, Cond.code yX3_copyFrom cX3_copyFrom 2 none, Cond.fieldLink RX3 9 "LeaningLines$Picture" "pixels" "[I", Cond.methodLink RX3 15 arraycopyName]
def wsX5_copyFrom : List Cond := .code yX5_copyFrom cX5_copyFrom 2 none :: ((wsX5_copyFrom_r1 ++ wsX5_copyFrom_r2) ++ wsX50 ++ wsX60 ++ wsX30)
def wsX1_record_r1 : List Cond := [Cond.fieldLink RX1 11 "LeaningLines$History" "states" "[LLeaningLines$Scene;", Cond.fieldLink RX1 17 "LeaningLines$History" "next" "I", Cond.classLink RX1 9 RX5, Cond.instantiable RX5 7, Cond.initialized RX5, Cond.fieldLink RX1 21 "LeaningLines$History" "many" "I", Cond.methodLink RX1 29 Lib.Math.min.name, Cond.static Lib.Math.min.name, Cond.initialized "java/lang/Math", Cond.code Lib.Math.min.name Lib.Math.min.code 2 (some .int), Cond.instanceMethod yX5_init, Cond.code yX5_init cX5_init 1 none, Cond.methodLink RX5 3 objectInit, Cond.instanceMethod objectInit, Cond.code objectInit ⟨#[0xb1]⟩ 1 none, Cond.methodLink RX5 13 ⟨"[I", "clone", "()Ljava/lang/Object;"⟩, Cond.sameMethod "[I" "java/lang/Object" "clone" "()Ljava/lang/Object;", Cond.native ⟨"java/lang/Object", "clone", "()Ljava/lang/Object;"⟩, Cond.instanceMethod ⟨"java/lang/Object", "clone", "()Ljava/lang/Object;"⟩, Cond.selects "[I" ⟨"[I", "clone", "()Ljava/lang/Object;"⟩ ⟨"java/lang/Object", "clone", "()Ljava/lang/Object;"⟩, Cond.classLink RX5 14 "[I", Cond.fieldLink RX5 18 "LeaningLines$Scene" "settings" "[I", Cond.classLink RX5 23 RX6, Cond.instantiable RX6 10]
def wsX1_record_r2 : List Cond := [Cond.initialized RX6, Cond.fieldLink RX5 26 "LeaningLines$Scene" "things" "LLeaningLines$Things;", Cond.classLink RX5 30 RX3, Cond.instantiable RX3 1, Cond.initialized RX3, Cond.fieldLink RX5 33 "LeaningLines$Scene" "picture" "LLeaningLines$Picture;", Cond.fieldLink RX5 37 "LeaningLines$Scene" "time" "I", Cond.fieldLink RX5 41 "LeaningLines$Scene" "pictures" "I", Cond.fieldLink RX5 44 "LeaningLines$Scene" "flashTime" "I", Cond.fieldLink RX5 47 "LeaningLines$Scene" "flashTicks" "I", Cond.instanceMethod yX6_init, Cond.code yX6_init cX6_init 1 none, Cond.methodLink RX6 3 objectInit, Cond.arrayClass .int, Cond.fieldLink RX6 9 "LeaningLines$Things" "line" "[I", Cond.fieldLink RX6 15 "LeaningLines$Things" "high" "[I", Cond.fieldLink RX6 18 "LeaningLines$Things" "wide" "[I", Cond.fieldLink RX6 21 "LeaningLines$Things" "brightness" "[I", Cond.fieldLink RX6 24 "LeaningLines$Things" "speed" "[I", Cond.fieldLink RX6 27 "LeaningLines$Things" "since" "[I", Cond.fieldLink RX6 30 "LeaningLines$Things" "left" "[I", Cond.fieldLink RX6 33 "LeaningLines$Things" "under" "[I", Cond.fieldLink RX6 36 "LeaningLines$Things" "underLeft" "[I", Cond.instanceMethod yX3_init]
def wsX1_record_r3 : List Cond := [Cond.code yX3_init cX3_init 1 none, Cond.methodLink RX3 3 objectInit, Cond.fieldLink RX3 9 "LeaningLines$Picture" "pixels" "[I", Cond.methodLink RX1 25 yX5_copyFrom, Cond.instanceMethod yX5_copyFrom, Cond.selects RX5 yX5_copyFrom yX5_copyFrom, Cond.code yX5_copyFrom cX5_copyFrom 2 none, Cond.methodLink RX5 58 arraycopyName, Cond.native arraycopyName, Cond.static arraycopyName, Cond.initialized "java/lang/System", Cond.methodLink RX5 64 yX6_copyFrom, Cond.instanceMethod yX6_copyFrom, Cond.selects RX6 yX6_copyFrom yX6_copyFrom, Cond.code yX6_copyFrom cX6_copyFrom 2 none, Cond.fieldLink RX6 39 "LeaningLines$Things" "many" "I", Cond.methodLink RX6 56 arraycopyName, Cond.methodLink RX5 68 yX3_copyFrom, Cond.instanceMethod yX3_copyFrom, Cond.selects RX3 yX3_copyFrom yX3_copyFrom, Cond.code yX3_copyFrom cX3_copyFrom 2 none, Cond.methodLink RX3 15 arraycopyName]
def wsX1_record : List Cond := .code yX1_record cX1_record 3 none :: ((wsX1_record_r1 ++ (wsX1_record_r2 ++ wsX1_record_r3)) ++ wsX10 ++ wsX50 ++ wsX60 ++ wsX30)
def wsX1_takeBack_r1 : List Cond := [Cond.fieldLink RX1 17 "LeaningLines$History" "next" "I", Cond.fieldLink RX1 11 "LeaningLines$History" "states" "[LLeaningLines$Scene;", Cond.fieldLink RX1 21 "LeaningLines$History" "many" "I", Cond.methodLink RX1 25 yX5_copyFrom, Cond.instanceMethod yX5_copyFrom, Cond.selects RX5 yX5_copyFrom yX5_copyFrom, Cond.initialized RX5, Cond.code yX5_copyFrom cX5_copyFrom 2 none, Cond.fieldLink RX5 18 "LeaningLines$Scene" "settings" "[I", Cond.methodLink RX5 58 arraycopyName, Cond.native arraycopyName, Cond.static arraycopyName, Cond.initialized "java/lang/System", Cond.fieldLink RX5 26 "LeaningLines$Scene" "things" "LLeaningLines$Things;", Cond.fieldLink RX5 33 "LeaningLines$Scene" "picture" "LLeaningLines$Picture;", Cond.fieldLink RX5 37 "LeaningLines$Scene" "time" "I", Cond.fieldLink RX5 41 "LeaningLines$Scene" "pictures" "I", Cond.fieldLink RX5 44 "LeaningLines$Scene" "flashTime" "I", Cond.fieldLink RX5 47 "LeaningLines$Scene" "flashTicks" "I", Cond.methodLink RX5 64 yX6_copyFrom, Cond.instanceMethod yX6_copyFrom, Cond.selects RX6 yX6_copyFrom yX6_copyFrom, Cond.initialized RX6, Cond.code yX6_copyFrom cX6_copyFrom 2 none]
def wsX1_takeBack_r2 : List Cond := [Cond.fieldLink RX6 39 "LeaningLines$Things" "many" "I", Cond.fieldLink RX6 9 "LeaningLines$Things" "line" "[I", Cond.methodLink RX6 56 arraycopyName, Cond.fieldLink RX6 15 "LeaningLines$Things" "high" "[I", Cond.fieldLink RX6 18 "LeaningLines$Things" "wide" "[I", Cond.fieldLink RX6 21 "LeaningLines$Things" "brightness" "[I", Cond.fieldLink RX6 24 "LeaningLines$Things" "speed" "[I", Cond.fieldLink RX6 27 "LeaningLines$Things" "since" "[I", Cond.fieldLink RX6 30 "LeaningLines$Things" "left" "[I", Cond.fieldLink RX6 33 "LeaningLines$Things" "under" "[I", Cond.fieldLink RX6 36 "LeaningLines$Things" "underLeft" "[I", Cond.methodLink RX5 68 yX3_copyFrom, Cond.instanceMethod yX3_copyFrom, Cond.selects RX3 yX3_copyFrom yX3_copyFrom, Cond.initialized RX3, Cond.code yX3_copyFrom cX3_copyFrom 2 none, Cond.fieldLink RX3 9 "LeaningLines$Picture" "pixels" "[I", Cond.methodLink RX3 15 arraycopyName]
def wsX1_takeBack : List Cond := .code yX1_takeBack cX1_takeBack 4 (some .boolean) :: ((wsX1_takeBack_r1 ++ wsX1_takeBack_r2) ++ wsX10 ++ wsX50 ++ wsX60 ++ wsX30)
def wsX2_init : List Cond := .code yX2_init cX2_init 1 none :: ([.methodLink RX2 3 objectInit, .instanceMethod objectInit, .code objectInit ⟨#[0xb1]⟩ 1 none, .arrayClass .char, .fieldLink RX2 9 "LeaningLines$Pad" "text" "[C", .fieldLink RX2 15 "LeaningLines$Pad" "length" "I"] ++ wsX20)
def wsX2_charactersIn : List Cond := .code yX2_charactersIn cX2_charactersIn 5 (some .int) :: ([.constantLong RX2 19 (255), .static yX7_within, .initialized RX7, .code yX7_within cX7_within 3 (some .boolean)])
def wsX2_append : List Cond := .code yX2_append cX2_append 5 none :: ([.fieldLink RX2 9 "LeaningLines$Pad" "text" "[C", .fieldLink RX2 15 "LeaningLines$Pad" "length" "I", .constantLong RX2 19 (255)] ++ wsX20)
def wsX2_characterAt : List Cond := .code yX2_characterAt cX2_characterAt 2 (some .char) :: ([.fieldLink RX2 15 "LeaningLines$Pad" "length" "I", .fieldLink RX2 9 "LeaningLines$Pad" "text" "[C"] ++ wsX20)
def wsX3_pixelAt : List Cond := .code yX3_pixelAt cX3_pixelAt 3 (some .int) :: ([.fieldLink RX3 9 "LeaningLines$Picture" "pixels" "[I"] ++ wsX30)
def wsX3_columnsNotDark : List Cond := .code yX3_columnsNotDark cX3_columnsNotDark 4 (some .int) :: ([.methodLink RX3 21 yX3_pixelAt, .instanceMethod yX3_pixelAt, .selects RX3 yX3_pixelAt yX3_pixelAt, .initialized RX3, .code yX3_pixelAt cX3_pixelAt 3 (some .int), .fieldLink RX3 9 "LeaningLines$Picture" "pixels" "[I"] ++ wsX30)
def wsX3_sumOfLine : List Cond := .code yX3_sumOfLine cX3_sumOfLine 4 (some .int) :: ([.methodLink RX3 21 yX3_pixelAt, .instanceMethod yX3_pixelAt, .selects RX3 yX3_pixelAt yX3_pixelAt, .initialized RX3, .code yX3_pixelAt cX3_pixelAt 3 (some .int), .fieldLink RX3 9 "LeaningLines$Picture" "pixels" "[I"] ++ wsX30)
def wsX3_leftmostNotDark : List Cond := .code yX3_leftmostNotDark cX3_leftmostNotDark 3 (some .int) :: ([.methodLink RX3 21 yX3_pixelAt, .instanceMethod yX3_pixelAt, .selects RX3 yX3_pixelAt yX3_pixelAt, .initialized RX3, .code yX3_pixelAt cX3_pixelAt 3 (some .int), .fieldLink RX3 9 "LeaningLines$Picture" "pixels" "[I"] ++ wsX30)
def wsX3_sumOfAll : List Cond := .code yX3_sumOfAll cX3_sumOfAll 3 (some .int) :: ([.methodLink RX3 25 yX3_sumOfLine, .instanceMethod yX3_sumOfLine, .selects RX3 yX3_sumOfLine yX3_sumOfLine, .initialized RX3, .code yX3_sumOfLine cX3_sumOfLine 4 (some .int), .methodLink RX3 21 yX3_pixelAt, .instanceMethod yX3_pixelAt, .selects RX3 yX3_pixelAt yX3_pixelAt, .code yX3_pixelAt cX3_pixelAt 3 (some .int), .fieldLink RX3 9 "LeaningLines$Picture" "pixels" "[I"] ++ wsX30)
def wsX3_darkLines : List Cond := .code yX3_darkLines cX3_darkLines 3 (some .int) :: ([.methodLink RX3 29 yX3_columnsNotDark, .instanceMethod yX3_columnsNotDark, .selects RX3 yX3_columnsNotDark yX3_columnsNotDark, .initialized RX3, .code yX3_columnsNotDark cX3_columnsNotDark 4 (some .int), .methodLink RX3 21 yX3_pixelAt, .instanceMethod yX3_pixelAt, .selects RX3 yX3_pixelAt yX3_pixelAt, .code yX3_pixelAt cX3_pixelAt 3 (some .int), .fieldLink RX3 9 "LeaningLines$Picture" "pixels" "[I"] ++ wsX30)
def wsX3_brightest : List Cond := .code yX3_brightest cX3_brightest 4 (some .int) :: ([.methodLink RX3 32 Lib.Math.max.name, .static Lib.Math.max.name, .initialized "java/lang/Math", .code Lib.Math.max.name Lib.Math.max.code 2 (some .int), .methodLink RX3 21 yX3_pixelAt, .instanceMethod yX3_pixelAt, .selects RX3 yX3_pixelAt yX3_pixelAt, .initialized RX3, .code yX3_pixelAt cX3_pixelAt 3 (some .int), .fieldLink RX3 9 "LeaningLines$Picture" "pixels" "[I"] ++ wsX30)
def wsX3_bands : List Cond := .code yX3_bands cX3_bands 3 (some .int) :: ([.methodLink RX3 29 yX3_columnsNotDark, .instanceMethod yX3_columnsNotDark, .selects RX3 yX3_columnsNotDark yX3_columnsNotDark, .initialized RX3, .code yX3_columnsNotDark cX3_columnsNotDark 4 (some .int), .methodLink RX3 21 yX3_pixelAt, .instanceMethod yX3_pixelAt, .selects RX3 yX3_pixelAt yX3_pixelAt, .code yX3_pixelAt cX3_pixelAt 3 (some .int), .fieldLink RX3 9 "LeaningLines$Picture" "pixels" "[I"] ++ wsX30)
def wsX4_init : List Cond := .code yX4_init cX4_init 2 none :: ([.methodLink RX4 3 objectInit, .instanceMethod objectInit, .code objectInit ⟨#[0xb1]⟩ 1 none, .fieldLink RX4 9 "LeaningLines$Reader" "at" "I", .fieldLink RX4 15 "LeaningLines$Reader" "kind" "C", .arrayClass .int, .fieldLink RX4 19 "LeaningLines$Reader" "values" "[I", .fieldLink RX4 23 "LeaningLines$Reader" "pad" "LLeaningLines$Pad;"] ++ wsX40)
def wsX4_take : List Cond := .code yX4_take cX4_take 2 (some .boolean) :: ([.fieldLink RX4 23 "LeaningLines$Reader" "pad" "LLeaningLines$Pad;", .fieldLink RX4 9 "LeaningLines$Reader" "at" "I", .methodLink RX4 40 yX2_characterAt, .instanceMethod yX2_characterAt, .selects RX2 yX2_characterAt yX2_characterAt, .initialized RX2, .code yX2_characterAt cX2_characterAt 2 (some .char), .fieldLink RX2 15 "LeaningLines$Pad" "length" "I", .fieldLink RX2 9 "LeaningLines$Pad" "text" "[C"] ++ wsX40 ++ wsX20)
def wsX4_isDigit : List Cond := .code yX4_isDigit cX4_isDigit 1 (some .boolean) :: ([])
def wsX4_readDigit : List Cond := .code yX4_readDigit cX4_readDigit 3 (some .boolean) :: ([.fieldLink RX4 23 "LeaningLines$Reader" "pad" "LLeaningLines$Pad;", .fieldLink RX4 9 "LeaningLines$Reader" "at" "I", .fieldLink RX4 19 "LeaningLines$Reader" "values" "[I", .methodLink RX4 40 yX2_characterAt, .instanceMethod yX2_characterAt, .selects RX2 yX2_characterAt yX2_characterAt, .initialized RX2, .code yX2_characterAt cX2_characterAt 2 (some .char), .fieldLink RX2 15 "LeaningLines$Pad" "length" "I", .fieldLink RX2 9 "LeaningLines$Pad" "text" "[C", .methodLink RX4 54 yX4_isDigit, .static yX4_isDigit, .initialized RX4, .code yX4_isDigit cX4_isDigit 1 (some .boolean)] ++ wsX40 ++ wsX20)
def wsX4_readNumber : List Cond := .code yX4_readNumber cX4_readNumber 3 (some .boolean) :: ([.fieldLink RX4 23 "LeaningLines$Reader" "pad" "LLeaningLines$Pad;", .fieldLink RX4 9 "LeaningLines$Reader" "at" "I", .fieldLink RX4 19 "LeaningLines$Reader" "values" "[I", .methodLink RX4 51 yX4_readDigit, .instanceMethod yX4_readDigit, .selects RX4 yX4_readDigit yX4_readDigit, .initialized RX4, .code yX4_readDigit cX4_readDigit 3 (some .boolean), .methodLink RX4 40 yX2_characterAt, .instanceMethod yX2_characterAt, .selects RX2 yX2_characterAt yX2_characterAt, .initialized RX2, .code yX2_characterAt cX2_characterAt 2 (some .char), .fieldLink RX2 15 "LeaningLines$Pad" "length" "I", .fieldLink RX2 9 "LeaningLines$Pad" "text" "[C", .methodLink RX4 54 yX4_isDigit, .static yX4_isDigit, .code yX4_isDigit cX4_isDigit 1 (some .boolean)] ++ wsX40 ++ wsX20)
def wsX4_readThing_r1 : List Cond := [Cond.fieldLink RX4 19 "LeaningLines$Reader" "values" "[I", Cond.methodLink RX4 47 yX4_readNumber, Cond.instanceMethod yX4_readNumber, Cond.selects RX4 yX4_readNumber yX4_readNumber, Cond.initialized RX4, Cond.code yX4_readNumber cX4_readNumber 3 (some .boolean), Cond.fieldLink RX4 23 "LeaningLines$Reader" "pad" "LLeaningLines$Pad;", Cond.fieldLink RX4 9 "LeaningLines$Reader" "at" "I", Cond.methodLink RX4 51 yX4_readDigit, Cond.instanceMethod yX4_readDigit, Cond.selects RX4 yX4_readDigit yX4_readDigit, Cond.code yX4_readDigit cX4_readDigit 3 (some .boolean), Cond.methodLink RX4 40 yX2_characterAt, Cond.instanceMethod yX2_characterAt, Cond.selects RX2 yX2_characterAt yX2_characterAt, Cond.initialized RX2, Cond.code yX2_characterAt cX2_characterAt 2 (some .char), Cond.fieldLink RX2 15 "LeaningLines$Pad" "length" "I", Cond.fieldLink RX2 9 "LeaningLines$Pad" "text" "[C", Cond.methodLink RX4 54 yX4_isDigit, Cond.static yX4_isDigit, Cond.code yX4_isDigit cX4_isDigit 1 (some .boolean), Cond.methodLink RX4 31 yX4_take, Cond.instanceMethod yX4_take]
def wsX4_readThing_r2 : List Cond := [Cond.selects RX4 yX4_take yX4_take, Cond.code yX4_take cX4_take 2 (some .boolean)]
def wsX4_readThing : List Cond := .code yX4_readThing cX4_readThing 3 (some .boolean) :: ((wsX4_readThing_r1 ++ wsX4_readThing_r2) ++ wsX40 ++ wsX20)
def wsX4_readOrder_r1 : List Cond := [Cond.fieldLink RX4 23 "LeaningLines$Reader" "pad" "LLeaningLines$Pad;", Cond.fieldLink RX4 9 "LeaningLines$Reader" "at" "I", Cond.fieldLink RX4 15 "LeaningLines$Reader" "kind" "C", Cond.methodLink RX4 40 yX2_characterAt, Cond.instanceMethod yX2_characterAt, Cond.selects RX2 yX2_characterAt yX2_characterAt, Cond.initialized RX2, Cond.code yX2_characterAt cX2_characterAt 2 (some .char), Cond.fieldLink RX2 15 "LeaningLines$Pad" "length" "I", Cond.fieldLink RX2 9 "LeaningLines$Pad" "text" "[C", Cond.methodLink RX4 31 yX4_take, Cond.instanceMethod yX4_take, Cond.selects RX4 yX4_take yX4_take, Cond.initialized RX4, Cond.code yX4_take cX4_take 2 (some .boolean), Cond.methodLink RX4 44 yX4_readThing, Cond.instanceMethod yX4_readThing, Cond.selects RX4 yX4_readThing yX4_readThing, Cond.code yX4_readThing cX4_readThing 3 (some .boolean), Cond.fieldLink RX4 19 "LeaningLines$Reader" "values" "[I", Cond.methodLink RX4 47 yX4_readNumber, Cond.instanceMethod yX4_readNumber, Cond.selects RX4 yX4_readNumber yX4_readNumber, Cond.code yX4_readNumber cX4_readNumber 3 (some .boolean)]
def wsX4_readOrder_r2 : List Cond := [Cond.methodLink RX4 51 yX4_readDigit, Cond.instanceMethod yX4_readDigit, Cond.selects RX4 yX4_readDigit yX4_readDigit, Cond.code yX4_readDigit cX4_readDigit 3 (some .boolean), Cond.methodLink RX4 54 yX4_isDigit, Cond.static yX4_isDigit, Cond.code yX4_isDigit cX4_isDigit 1 (some .boolean)]
def wsX4_readOrder : List Cond := .code yX4_readOrder cX4_readOrder 1 (some .boolean) :: ((wsX4_readOrder_r1 ++ wsX4_readOrder_r2) ++ wsX40 ++ wsX20)
def wsX4_findFault_r1 : List Cond := [Cond.fieldLink RX4 9 "LeaningLines$Reader" "at" "I", Cond.fieldLink RX4 23 "LeaningLines$Reader" "pad" "LLeaningLines$Pad;", Cond.fieldLink RX4 35 "LeaningLines$Pad" "length" "I", Cond.methodLink RX4 27 yX4_readOrder, Cond.instanceMethod yX4_readOrder, Cond.selects RX4 yX4_readOrder yX4_readOrder, Cond.initialized RX4, Cond.code yX4_readOrder cX4_readOrder 1 (some .boolean), Cond.fieldLink RX4 15 "LeaningLines$Reader" "kind" "C", Cond.methodLink RX4 40 yX2_characterAt, Cond.instanceMethod yX2_characterAt, Cond.selects RX2 yX2_characterAt yX2_characterAt, Cond.initialized RX2, Cond.code yX2_characterAt cX2_characterAt 2 (some .char), Cond.fieldLink RX2 15 "LeaningLines$Pad" "length" "I", Cond.fieldLink RX2 9 "LeaningLines$Pad" "text" "[C", Cond.methodLink RX4 31 yX4_take, Cond.instanceMethod yX4_take, Cond.selects RX4 yX4_take yX4_take, Cond.code yX4_take cX4_take 2 (some .boolean), Cond.methodLink RX4 44 yX4_readThing, Cond.instanceMethod yX4_readThing, Cond.selects RX4 yX4_readThing yX4_readThing, Cond.code yX4_readThing cX4_readThing 3 (some .boolean)]
def wsX4_findFault_r2 : List Cond := [Cond.fieldLink RX4 19 "LeaningLines$Reader" "values" "[I", Cond.methodLink RX4 47 yX4_readNumber, Cond.instanceMethod yX4_readNumber, Cond.selects RX4 yX4_readNumber yX4_readNumber, Cond.code yX4_readNumber cX4_readNumber 3 (some .boolean), Cond.methodLink RX4 51 yX4_readDigit, Cond.instanceMethod yX4_readDigit, Cond.selects RX4 yX4_readDigit yX4_readDigit, Cond.code yX4_readDigit cX4_readDigit 3 (some .boolean), Cond.methodLink RX4 54 yX4_isDigit, Cond.static yX4_isDigit, Cond.code yX4_isDigit cX4_isDigit 1 (some .boolean)]
def wsX4_findFault : List Cond := .code yX4_findFault cX4_findFault 3 (some .int) :: ((wsX4_findFault_r1 ++ wsX4_findFault_r2) ++ wsX40 ++ wsX20)
def wsX5_setFlash : List Cond := .code yX5_setFlash cX5_setFlash 3 none :: ([.fieldLink RX5 37 "LeaningLines$Scene" "time" "I", .fieldLink RX5 44 "LeaningLines$Scene" "flashTime" "I", .fieldLink RX5 47 "LeaningLines$Scene" "flashTicks" "I"] ++ wsX50)
def wsX5_linesFlashed : List Cond := .code yX5_linesFlashed cX5_linesFlashed 6 (some .int) :: ([.fieldLink RX5 18 "LeaningLines$Scene" "settings" "[I", .methodLink RX5 50 yX5_beginOf, .instanceMethod yX5_beginOf, .selects RX5 yX5_beginOf yX5_beginOf, .initialized RX5, .code yX5_beginOf cX5_beginOf 2 (some .int), .fieldLink RX5 37 "LeaningLines$Scene" "time" "I"] ++ wsX50)
def wsX6_add : List Cond := .code yX6_add cX6_add 8 (some .int) :: ([.fieldLink RX6 39 "LeaningLines$Things" "many" "I", .fieldLink RX6 9 "LeaningLines$Things" "line" "[I", .fieldLink RX6 15 "LeaningLines$Things" "high" "[I", .fieldLink RX6 18 "LeaningLines$Things" "wide" "[I", .fieldLink RX6 21 "LeaningLines$Things" "brightness" "[I", .fieldLink RX6 24 "LeaningLines$Things" "speed" "[I", .fieldLink RX6 27 "LeaningLines$Things" "since" "[I", .fieldLink RX6 30 "LeaningLines$Things" "left" "[I", .fieldLink RX6 33 "LeaningLines$Things" "under" "[I", .fieldLink RX6 36 "LeaningLines$Things" "underLeft" "[I"] ++ wsX60)
def wsX6_comeAnew : List Cond := .code yX6_comeAnew cX6_comeAnew 5 none :: ([.fieldLink RX6 30 "LeaningLines$Things" "left" "[I", .fieldLink RX6 27 "LeaningLines$Things" "since" "[I", .fieldLink RX6 24 "LeaningLines$Things" "speed" "[I", .fieldLink RX6 33 "LeaningLines$Things" "under" "[I", .fieldLink RX6 36 "LeaningLines$Things" "underLeft" "[I", .methodLink RX6 43 yX6_leftAt, .instanceMethod yX6_leftAt, .selects RX6 yX6_leftAt yX6_leftAt, .initialized RX6, .code yX6_leftAt cX6_leftAt 6 (some .int), .fieldLink RX6 39 "LeaningLines$Things" "many" "I", .methodLink RX6 47 yJ9_floorDiv_7cf53, .static yJ9_floorDiv_7cf53, .initialized RJ9, .code yJ9_floorDiv_7cf53 cJ9_floorDiv_7cf53 3 (some .int)] ++ wsX60)
def wsX6_speedWithAllUnder : List Cond := .code yX6_speedWithAllUnder cX6_speedWithAllUnder 5 (some .int) :: ([.fieldLink RX6 39 "LeaningLines$Things" "many" "I", .fieldLink RX6 24 "LeaningLines$Things" "speed" "[I", .fieldLink RX6 33 "LeaningLines$Things" "under" "[I"] ++ wsX60)
def wsX7_init_r1 : List Cond := [Cond.methodLink RX7 1 objectInit, Cond.instanceMethod objectInit, Cond.code objectInit ⟨#[0xb1]⟩ 1 none, Cond.classLink RX7 7 RX5, Cond.instantiable RX5 7, Cond.initialized RX5, Cond.fieldLink RX7 10 "LeaningLines" "scene" "LLeaningLines$Scene;", Cond.classLink RX7 16 RX0, Cond.instantiable RX0 3, Cond.initialized RX0, Cond.fieldLink RX7 19 "LeaningLines" "camera" "LLeaningLines$Camera;", Cond.classLink RX7 23 RX1, Cond.instantiable RX1 3, Cond.initialized RX1, Cond.fieldLink RX7 26 "LeaningLines" "history" "LLeaningLines$History;", Cond.fieldLink RX7 30 "LeaningLines" "slots" "[LLeaningLines$Scene;", Cond.classLink RX7 34 RX2, Cond.instantiable RX2 2, Cond.initialized RX2, Cond.fieldLink RX7 37 "LeaningLines" "pad" "LLeaningLines$Pad;", Cond.classLink RX7 41 RX4, Cond.instantiable RX4 4, Cond.initialized RX4, Cond.fieldLink RX7 46 "LeaningLines" "reader" "LLeaningLines$Reader;"]
def wsX7_init_r2 : List Cond := [Cond.instanceMethod yX5_init, Cond.code yX5_init cX5_init 1 none, Cond.methodLink RX5 3 objectInit, Cond.methodLink RX5 13 ⟨"[I", "clone", "()Ljava/lang/Object;"⟩, Cond.sameMethod "[I" "java/lang/Object" "clone" "()Ljava/lang/Object;", Cond.native ⟨"java/lang/Object", "clone", "()Ljava/lang/Object;"⟩, Cond.instanceMethod ⟨"java/lang/Object", "clone", "()Ljava/lang/Object;"⟩, Cond.selects "[I" ⟨"[I", "clone", "()Ljava/lang/Object;"⟩ ⟨"java/lang/Object", "clone", "()Ljava/lang/Object;"⟩, Cond.classLink RX5 14 "[I", Cond.fieldLink RX5 18 "LeaningLines$Scene" "settings" "[I", Cond.classLink RX5 23 RX6, Cond.instantiable RX6 10, Cond.initialized RX6, Cond.fieldLink RX5 26 "LeaningLines$Scene" "things" "LLeaningLines$Things;", Cond.classLink RX5 30 RX3, Cond.instantiable RX3 1, Cond.initialized RX3, Cond.fieldLink RX5 33 "LeaningLines$Scene" "picture" "LLeaningLines$Picture;", Cond.fieldLink RX5 37 "LeaningLines$Scene" "time" "I", Cond.fieldLink RX5 41 "LeaningLines$Scene" "pictures" "I", Cond.fieldLink RX5 44 "LeaningLines$Scene" "flashTime" "I", Cond.fieldLink RX5 47 "LeaningLines$Scene" "flashTicks" "I", Cond.instanceMethod yX6_init, Cond.code yX6_init cX6_init 1 none]
def wsX7_init_r3 : List Cond := [Cond.methodLink RX6 3 objectInit, Cond.arrayClass .int, Cond.fieldLink RX6 9 "LeaningLines$Things" "line" "[I", Cond.fieldLink RX6 15 "LeaningLines$Things" "high" "[I", Cond.fieldLink RX6 18 "LeaningLines$Things" "wide" "[I", Cond.fieldLink RX6 21 "LeaningLines$Things" "brightness" "[I", Cond.fieldLink RX6 24 "LeaningLines$Things" "speed" "[I", Cond.fieldLink RX6 27 "LeaningLines$Things" "since" "[I", Cond.fieldLink RX6 30 "LeaningLines$Things" "left" "[I", Cond.fieldLink RX6 33 "LeaningLines$Things" "under" "[I", Cond.fieldLink RX6 36 "LeaningLines$Things" "underLeft" "[I", Cond.instanceMethod yX3_init, Cond.code yX3_init cX3_init 1 none, Cond.methodLink RX3 3 objectInit, Cond.fieldLink RX3 9 "LeaningLines$Picture" "pixels" "[I", Cond.instanceMethod yX0_init, Cond.code yX0_init cX0_init 1 none, Cond.methodLink RX0 3 objectInit, Cond.fieldLink RX0 9 "LeaningLines$Camera" "leaning" "[I", Cond.fieldLink RX0 15 "LeaningLines$Camera" "upright" "[I", Cond.fieldLink RX0 18 "LeaningLines$Camera" "rises" "[I", Cond.instanceMethod yX1_init, Cond.code yX1_init cX1_init 1 none, Cond.methodLink RX1 3 objectInit]
def wsX7_init_r4 : List Cond := [Cond.classLink RX1 9 RX5, Cond.fieldLink RX1 11 "LeaningLines$History" "states" "[LLeaningLines$Scene;", Cond.fieldLink RX1 17 "LeaningLines$History" "next" "I", Cond.fieldLink RX1 21 "LeaningLines$History" "many" "I", Cond.instanceMethod yX2_init, Cond.code yX2_init cX2_init 1 none, Cond.methodLink RX2 3 objectInit, Cond.arrayClass .char, Cond.fieldLink RX2 9 "LeaningLines$Pad" "text" "[C", Cond.fieldLink RX2 15 "LeaningLines$Pad" "length" "I", Cond.methodLink RX7 43 yX4_init, Cond.instanceMethod yX4_init, Cond.code yX4_init cX4_init 2 none, Cond.methodLink RX4 3 objectInit, Cond.fieldLink RX4 9 "LeaningLines$Reader" "at" "I", Cond.fieldLink RX4 15 "LeaningLines$Reader" "kind" "C", Cond.fieldLink RX4 19 "LeaningLines$Reader" "values" "[I", Cond.fieldLink RX4 23 "LeaningLines$Reader" "pad" "LLeaningLines$Pad;"]
def wsX7_init : List Cond := .code yX7_init cX7_init 1 none :: ((wsX7_init_r1 ++ (wsX7_init_r2 ++ (wsX7_init_r3 ++ wsX7_init_r4))) ++ wsX50 ++ wsX70 ++ wsX00 ++ wsX10 ++ wsX20 ++ wsX40 ++ wsX60 ++ wsX30)
def wsX7_set_r1 : List Cond := [Cond.fieldLink RX7 54 "LeaningLines" "LEAST_VALUES" "[I", Cond.fieldLink RX7 58 "LeaningLines" "MOST_VALUES" "[I", Cond.fieldLink RX7 26 "LeaningLines" "history" "LLeaningLines$History;", Cond.fieldLink RX7 10 "LeaningLines" "scene" "LLeaningLines$Scene;", Cond.fieldLink RX7 65 "LeaningLines$Scene" "settings" "[I", Cond.methodLink RX7 50 yX7_within, Cond.static yX7_within, Cond.initialized RX7, Cond.code yX7_within cX7_within 3 (some .boolean), Cond.methodLink RX7 61 yX1_record, Cond.instanceMethod yX1_record, Cond.selects RX1 yX1_record yX1_record, Cond.initialized RX1, Cond.code yX1_record cX1_record 3 none, Cond.fieldLink RX1 11 "LeaningLines$History" "states" "[LLeaningLines$Scene;", Cond.fieldLink RX1 17 "LeaningLines$History" "next" "I", Cond.classLink RX1 9 RX5, Cond.instantiable RX5 7, Cond.initialized RX5, Cond.fieldLink RX1 21 "LeaningLines$History" "many" "I", Cond.methodLink RX1 29 Lib.Math.min.name, Cond.static Lib.Math.min.name, Cond.initialized "java/lang/Math", Cond.code Lib.Math.min.name Lib.Math.min.code 2 (some .int)]
def wsX7_set_r2 : List Cond := [Cond.instanceMethod yX5_init, Cond.code yX5_init cX5_init 1 none, Cond.methodLink RX5 3 objectInit, Cond.instanceMethod objectInit, Cond.code objectInit ⟨#[0xb1]⟩ 1 none, Cond.methodLink RX5 13 ⟨"[I", "clone", "()Ljava/lang/Object;"⟩, Cond.sameMethod "[I" "java/lang/Object" "clone" "()Ljava/lang/Object;", Cond.native ⟨"java/lang/Object", "clone", "()Ljava/lang/Object;"⟩, Cond.instanceMethod ⟨"java/lang/Object", "clone", "()Ljava/lang/Object;"⟩, Cond.selects "[I" ⟨"[I", "clone", "()Ljava/lang/Object;"⟩ ⟨"java/lang/Object", "clone", "()Ljava/lang/Object;"⟩, Cond.classLink RX5 14 "[I", Cond.fieldLink RX5 18 "LeaningLines$Scene" "settings" "[I", Cond.classLink RX5 23 RX6, Cond.instantiable RX6 10, Cond.initialized RX6, Cond.fieldLink RX5 26 "LeaningLines$Scene" "things" "LLeaningLines$Things;", Cond.classLink RX5 30 RX3, Cond.instantiable RX3 1, Cond.initialized RX3, Cond.fieldLink RX5 33 "LeaningLines$Scene" "picture" "LLeaningLines$Picture;", Cond.fieldLink RX5 37 "LeaningLines$Scene" "time" "I", Cond.fieldLink RX5 41 "LeaningLines$Scene" "pictures" "I", Cond.fieldLink RX5 44 "LeaningLines$Scene" "flashTime" "I", Cond.fieldLink RX5 47 "LeaningLines$Scene" "flashTicks" "I"]
def wsX7_set_r3 : List Cond := [Cond.instanceMethod yX6_init, Cond.code yX6_init cX6_init 1 none, Cond.methodLink RX6 3 objectInit, Cond.arrayClass .int, Cond.fieldLink RX6 9 "LeaningLines$Things" "line" "[I", Cond.fieldLink RX6 15 "LeaningLines$Things" "high" "[I", Cond.fieldLink RX6 18 "LeaningLines$Things" "wide" "[I", Cond.fieldLink RX6 21 "LeaningLines$Things" "brightness" "[I", Cond.fieldLink RX6 24 "LeaningLines$Things" "speed" "[I", Cond.fieldLink RX6 27 "LeaningLines$Things" "since" "[I", Cond.fieldLink RX6 30 "LeaningLines$Things" "left" "[I", Cond.fieldLink RX6 33 "LeaningLines$Things" "under" "[I", Cond.fieldLink RX6 36 "LeaningLines$Things" "underLeft" "[I", Cond.instanceMethod yX3_init, Cond.code yX3_init cX3_init 1 none, Cond.methodLink RX3 3 objectInit, Cond.fieldLink RX3 9 "LeaningLines$Picture" "pixels" "[I", Cond.methodLink RX1 25 yX5_copyFrom, Cond.instanceMethod yX5_copyFrom, Cond.selects RX5 yX5_copyFrom yX5_copyFrom, Cond.code yX5_copyFrom cX5_copyFrom 2 none, Cond.methodLink RX5 58 arraycopyName, Cond.native arraycopyName, Cond.static arraycopyName]
def wsX7_set_r4 : List Cond := [Cond.initialized "java/lang/System", Cond.methodLink RX5 64 yX6_copyFrom, Cond.instanceMethod yX6_copyFrom, Cond.selects RX6 yX6_copyFrom yX6_copyFrom, Cond.code yX6_copyFrom cX6_copyFrom 2 none, Cond.fieldLink RX6 39 "LeaningLines$Things" "many" "I", Cond.methodLink RX6 56 arraycopyName, Cond.methodLink RX5 68 yX3_copyFrom, Cond.instanceMethod yX3_copyFrom, Cond.selects RX3 yX3_copyFrom yX3_copyFrom, Cond.code yX3_copyFrom cX3_copyFrom 2 none, Cond.methodLink RX3 15 arraycopyName]
def wsX7_set : List Cond := .code yX7_set cX7_set 4 (some .int) :: ((wsX7_set_r1 ++ (wsX7_set_r2 ++ (wsX7_set_r3 ++ wsX7_set_r4))) ++ wsX70 ++ wsX50 ++ wsX10 ++ wsX60 ++ wsX30)
def wsX7_isPlace : List Cond := .code yX7_isPlace cX7_isPlace 2 (some .boolean) :: ([.methodLink RX7 50 yX7_within, .static yX7_within, .initialized RX7, .code yX7_within cX7_within 3 (some .boolean)])
def wsX7_errorOfThing : List Cond := .code yX7_errorOfThing cX7_errorOfThing 6 (some .int) :: ([.fieldLink RX7 10 "LeaningLines" "scene" "LLeaningLines$Scene;", .fieldLink RX7 72 "LeaningLines$Scene" "things" "LLeaningLines$Things;", .fieldLink RX7 176 "LeaningLines$Things" "many" "I", .methodLink RX7 156 yX7_isPlace, .static yX7_isPlace, .initialized RX7, .code yX7_isPlace cX7_isPlace 2 (some .boolean), .methodLink RX7 50 yX7_within, .static yX7_within, .code yX7_within cX7_within 3 (some .boolean)] ++ wsX70 ++ wsX50 ++ wsX60)
def wsX7_thing_r1 : List Cond := [Cond.fieldLink RX7 26 "LeaningLines" "history" "LLeaningLines$History;", Cond.fieldLink RX7 10 "LeaningLines" "scene" "LLeaningLines$Scene;", Cond.fieldLink RX7 72 "LeaningLines$Scene" "things" "LLeaningLines$Things;", Cond.fieldLink RX7 76 "LeaningLines$Scene" "time" "I", Cond.methodLink RX7 68 yX7_errorOfThing, Cond.instanceMethod yX7_errorOfThing, Cond.selects RX7 yX7_errorOfThing yX7_errorOfThing, Cond.initialized RX7, Cond.code yX7_errorOfThing cX7_errorOfThing 6 (some .int), Cond.fieldLink RX7 176 "LeaningLines$Things" "many" "I", Cond.methodLink RX7 156 yX7_isPlace, Cond.static yX7_isPlace, Cond.code yX7_isPlace cX7_isPlace 2 (some .boolean), Cond.methodLink RX7 50 yX7_within, Cond.static yX7_within, Cond.code yX7_within cX7_within 3 (some .boolean), Cond.methodLink RX7 61 yX1_record, Cond.instanceMethod yX1_record, Cond.selects RX1 yX1_record yX1_record, Cond.initialized RX1, Cond.code yX1_record cX1_record 3 none, Cond.fieldLink RX1 11 "LeaningLines$History" "states" "[LLeaningLines$Scene;", Cond.fieldLink RX1 17 "LeaningLines$History" "next" "I", Cond.classLink RX1 9 RX5]
def wsX7_thing_r2 : List Cond := [Cond.instantiable RX5 7, Cond.initialized RX5, Cond.fieldLink RX1 21 "LeaningLines$History" "many" "I", Cond.methodLink RX1 29 Lib.Math.min.name, Cond.static Lib.Math.min.name, Cond.initialized "java/lang/Math", Cond.code Lib.Math.min.name Lib.Math.min.code 2 (some .int), Cond.instanceMethod yX5_init, Cond.code yX5_init cX5_init 1 none, Cond.methodLink RX5 3 objectInit, Cond.instanceMethod objectInit, Cond.code objectInit ⟨#[0xb1]⟩ 1 none, Cond.methodLink RX5 13 ⟨"[I", "clone", "()Ljava/lang/Object;"⟩, Cond.sameMethod "[I" "java/lang/Object" "clone" "()Ljava/lang/Object;", Cond.native ⟨"java/lang/Object", "clone", "()Ljava/lang/Object;"⟩, Cond.instanceMethod ⟨"java/lang/Object", "clone", "()Ljava/lang/Object;"⟩, Cond.selects "[I" ⟨"[I", "clone", "()Ljava/lang/Object;"⟩ ⟨"java/lang/Object", "clone", "()Ljava/lang/Object;"⟩, Cond.classLink RX5 14 "[I", Cond.fieldLink RX5 18 "LeaningLines$Scene" "settings" "[I", Cond.classLink RX5 23 RX6, Cond.instantiable RX6 10, Cond.initialized RX6, Cond.fieldLink RX5 26 "LeaningLines$Scene" "things" "LLeaningLines$Things;", Cond.classLink RX5 30 RX3]
def wsX7_thing_r3 : List Cond := [Cond.instantiable RX3 1, Cond.initialized RX3, Cond.fieldLink RX5 33 "LeaningLines$Scene" "picture" "LLeaningLines$Picture;", Cond.fieldLink RX5 37 "LeaningLines$Scene" "time" "I", Cond.fieldLink RX5 41 "LeaningLines$Scene" "pictures" "I", Cond.fieldLink RX5 44 "LeaningLines$Scene" "flashTime" "I", Cond.fieldLink RX5 47 "LeaningLines$Scene" "flashTicks" "I", Cond.instanceMethod yX6_init, Cond.code yX6_init cX6_init 1 none, Cond.methodLink RX6 3 objectInit, Cond.arrayClass .int, Cond.fieldLink RX6 9 "LeaningLines$Things" "line" "[I", Cond.fieldLink RX6 15 "LeaningLines$Things" "high" "[I", Cond.fieldLink RX6 18 "LeaningLines$Things" "wide" "[I", Cond.fieldLink RX6 21 "LeaningLines$Things" "brightness" "[I", Cond.fieldLink RX6 24 "LeaningLines$Things" "speed" "[I", Cond.fieldLink RX6 27 "LeaningLines$Things" "since" "[I", Cond.fieldLink RX6 30 "LeaningLines$Things" "left" "[I", Cond.fieldLink RX6 33 "LeaningLines$Things" "under" "[I", Cond.fieldLink RX6 36 "LeaningLines$Things" "underLeft" "[I", Cond.instanceMethod yX3_init, Cond.code yX3_init cX3_init 1 none, Cond.methodLink RX3 3 objectInit, Cond.fieldLink RX3 9 "LeaningLines$Picture" "pixels" "[I"]
def wsX7_thing_r4 : List Cond := [Cond.methodLink RX1 25 yX5_copyFrom, Cond.instanceMethod yX5_copyFrom, Cond.selects RX5 yX5_copyFrom yX5_copyFrom, Cond.code yX5_copyFrom cX5_copyFrom 2 none, Cond.methodLink RX5 58 arraycopyName, Cond.native arraycopyName, Cond.static arraycopyName, Cond.initialized "java/lang/System", Cond.methodLink RX5 64 yX6_copyFrom, Cond.instanceMethod yX6_copyFrom, Cond.selects RX6 yX6_copyFrom yX6_copyFrom, Cond.code yX6_copyFrom cX6_copyFrom 2 none, Cond.fieldLink RX6 39 "LeaningLines$Things" "many" "I", Cond.methodLink RX6 56 arraycopyName, Cond.methodLink RX5 68 yX3_copyFrom, Cond.instanceMethod yX3_copyFrom, Cond.selects RX3 yX3_copyFrom yX3_copyFrom, Cond.code yX3_copyFrom cX3_copyFrom 2 none, Cond.methodLink RX3 15 arraycopyName, Cond.methodLink RX7 80 yX6_add, Cond.instanceMethod yX6_add, Cond.selects RX6 yX6_add yX6_add, Cond.code yX6_add cX6_add 8 (some .int)]
def wsX7_thing : List Cond := .code yX7_thing cX7_thing 7 (some .int) :: ((wsX7_thing_r1 ++ (wsX7_thing_r2 ++ (wsX7_thing_r3 ++ wsX7_thing_r4))) ++ wsX70 ++ wsX50 ++ wsX60 ++ wsX10 ++ wsX30)
def wsX7_isThing : List Cond := .code yX7_isThing cX7_isThing 2 (some .boolean) :: ([.fieldLink RX7 10 "LeaningLines" "scene" "LLeaningLines$Scene;", .fieldLink RX7 72 "LeaningLines$Scene" "things" "LLeaningLines$Things;", .fieldLink RX7 176 "LeaningLines$Things" "many" "I", .methodLink RX7 50 yX7_within, .static yX7_within, .initialized RX7, .code yX7_within cX7_within 3 (some .boolean)] ++ wsX70 ++ wsX50 ++ wsX60)
def wsX7_isSpeed : List Cond := .code yX7_isSpeed cX7_isSpeed 1 (some .boolean) :: ([.methodLink RX7 50 yX7_within, .static yX7_within, .initialized RX7, .code yX7_within cX7_within 3 (some .boolean)])
def wsX7_speed_r1 : List Cond := [Cond.fieldLink RX7 26 "LeaningLines" "history" "LLeaningLines$History;", Cond.fieldLink RX7 10 "LeaningLines" "scene" "LLeaningLines$Scene;", Cond.fieldLink RX7 72 "LeaningLines$Scene" "things" "LLeaningLines$Things;", Cond.fieldLink RX7 93 "LeaningLines$Things" "speed" "[I", Cond.fieldLink RX7 96 "LeaningLines$Things" "under" "[I", Cond.fieldLink RX7 76 "LeaningLines$Scene" "time" "I", Cond.methodLink RX7 86 yX7_isThing, Cond.instanceMethod yX7_isThing, Cond.selects RX7 yX7_isThing yX7_isThing, Cond.initialized RX7, Cond.code yX7_isThing cX7_isThing 2 (some .boolean), Cond.fieldLink RX7 176 "LeaningLines$Things" "many" "I", Cond.methodLink RX7 50 yX7_within, Cond.static yX7_within, Cond.code yX7_within cX7_within 3 (some .boolean), Cond.methodLink RX7 90 yX7_isSpeed, Cond.static yX7_isSpeed, Cond.code yX7_isSpeed cX7_isSpeed 1 (some .boolean), Cond.methodLink RX7 61 yX1_record, Cond.instanceMethod yX1_record, Cond.selects RX1 yX1_record yX1_record, Cond.initialized RX1, Cond.code yX1_record cX1_record 3 none, Cond.fieldLink RX1 11 "LeaningLines$History" "states" "[LLeaningLines$Scene;"]
def wsX7_speed_r2 : List Cond := [Cond.fieldLink RX1 17 "LeaningLines$History" "next" "I", Cond.classLink RX1 9 RX5, Cond.instantiable RX5 7, Cond.initialized RX5, Cond.fieldLink RX1 21 "LeaningLines$History" "many" "I", Cond.methodLink RX1 29 Lib.Math.min.name, Cond.static Lib.Math.min.name, Cond.initialized "java/lang/Math", Cond.code Lib.Math.min.name Lib.Math.min.code 2 (some .int), Cond.instanceMethod yX5_init, Cond.code yX5_init cX5_init 1 none, Cond.methodLink RX5 3 objectInit, Cond.instanceMethod objectInit, Cond.code objectInit ⟨#[0xb1]⟩ 1 none, Cond.methodLink RX5 13 ⟨"[I", "clone", "()Ljava/lang/Object;"⟩, Cond.sameMethod "[I" "java/lang/Object" "clone" "()Ljava/lang/Object;", Cond.native ⟨"java/lang/Object", "clone", "()Ljava/lang/Object;"⟩, Cond.instanceMethod ⟨"java/lang/Object", "clone", "()Ljava/lang/Object;"⟩, Cond.selects "[I" ⟨"[I", "clone", "()Ljava/lang/Object;"⟩ ⟨"java/lang/Object", "clone", "()Ljava/lang/Object;"⟩, Cond.classLink RX5 14 "[I", Cond.fieldLink RX5 18 "LeaningLines$Scene" "settings" "[I", Cond.classLink RX5 23 RX6, Cond.instantiable RX6 10, Cond.initialized RX6]
def wsX7_speed_r3 : List Cond := [Cond.fieldLink RX5 26 "LeaningLines$Scene" "things" "LLeaningLines$Things;", Cond.classLink RX5 30 RX3, Cond.instantiable RX3 1, Cond.initialized RX3, Cond.fieldLink RX5 33 "LeaningLines$Scene" "picture" "LLeaningLines$Picture;", Cond.fieldLink RX5 37 "LeaningLines$Scene" "time" "I", Cond.fieldLink RX5 41 "LeaningLines$Scene" "pictures" "I", Cond.fieldLink RX5 44 "LeaningLines$Scene" "flashTime" "I", Cond.fieldLink RX5 47 "LeaningLines$Scene" "flashTicks" "I", Cond.instanceMethod yX6_init, Cond.code yX6_init cX6_init 1 none, Cond.methodLink RX6 3 objectInit, Cond.arrayClass .int, Cond.fieldLink RX6 9 "LeaningLines$Things" "line" "[I", Cond.fieldLink RX6 15 "LeaningLines$Things" "high" "[I", Cond.fieldLink RX6 18 "LeaningLines$Things" "wide" "[I", Cond.fieldLink RX6 21 "LeaningLines$Things" "brightness" "[I", Cond.fieldLink RX6 24 "LeaningLines$Things" "speed" "[I", Cond.fieldLink RX6 27 "LeaningLines$Things" "since" "[I", Cond.fieldLink RX6 30 "LeaningLines$Things" "left" "[I", Cond.fieldLink RX6 33 "LeaningLines$Things" "under" "[I", Cond.fieldLink RX6 36 "LeaningLines$Things" "underLeft" "[I", Cond.instanceMethod yX3_init, Cond.code yX3_init cX3_init 1 none]
def wsX7_speed_r4 : List Cond := [Cond.methodLink RX3 3 objectInit, Cond.fieldLink RX3 9 "LeaningLines$Picture" "pixels" "[I", Cond.methodLink RX1 25 yX5_copyFrom, Cond.instanceMethod yX5_copyFrom, Cond.selects RX5 yX5_copyFrom yX5_copyFrom, Cond.code yX5_copyFrom cX5_copyFrom 2 none, Cond.methodLink RX5 58 arraycopyName, Cond.native arraycopyName, Cond.static arraycopyName, Cond.initialized "java/lang/System", Cond.methodLink RX5 64 yX6_copyFrom, Cond.instanceMethod yX6_copyFrom, Cond.selects RX6 yX6_copyFrom yX6_copyFrom, Cond.code yX6_copyFrom cX6_copyFrom 2 none, Cond.fieldLink RX6 39 "LeaningLines$Things" "many" "I", Cond.methodLink RX6 56 arraycopyName, Cond.methodLink RX5 68 yX3_copyFrom, Cond.instanceMethod yX3_copyFrom, Cond.selects RX3 yX3_copyFrom yX3_copyFrom, Cond.code yX3_copyFrom cX3_copyFrom 2 none, Cond.methodLink RX3 15 arraycopyName, Cond.methodLink RX7 99 yX6_comeAnew, Cond.instanceMethod yX6_comeAnew, Cond.selects RX6 yX6_comeAnew yX6_comeAnew]
def wsX7_speed_r5 : List Cond := [Cond.code yX6_comeAnew cX6_comeAnew 5 none, Cond.methodLink RX6 43 yX6_leftAt, Cond.instanceMethod yX6_leftAt, Cond.selects RX6 yX6_leftAt yX6_leftAt, Cond.code yX6_leftAt cX6_leftAt 6 (some .int), Cond.methodLink RX6 47 yJ9_floorDiv_7cf53, Cond.static yJ9_floorDiv_7cf53, Cond.initialized RJ9, Cond.code yJ9_floorDiv_7cf53 cJ9_floorDiv_7cf53 3 (some .int)]
def wsX7_speed : List Cond := .code yX7_speed cX7_speed 4 (some .int) :: ((wsX7_speed_r1 ++ (wsX7_speed_r2 ++ (wsX7_speed_r3 ++ (wsX7_speed_r4 ++ wsX7_speed_r5)))) ++ wsX70 ++ wsX50 ++ wsX60 ++ wsX10 ++ wsX30)
def wsX7_canRide : List Cond := .code yX7_canRide cX7_canRide 2 (some .boolean) :: ([.methodLink RX7 50 yX7_within, .static yX7_within, .initialized RX7, .code yX7_within cX7_within 3 (some .boolean)])
def wsX7_ride_r1 : List Cond := [Cond.fieldLink RX7 26 "LeaningLines" "history" "LLeaningLines$History;", Cond.fieldLink RX7 10 "LeaningLines" "scene" "LLeaningLines$Scene;", Cond.fieldLink RX7 72 "LeaningLines$Scene" "things" "LLeaningLines$Things;", Cond.fieldLink RX7 96 "LeaningLines$Things" "under" "[I", Cond.fieldLink RX7 93 "LeaningLines$Things" "speed" "[I", Cond.fieldLink RX7 76 "LeaningLines$Scene" "time" "I", Cond.methodLink RX7 86 yX7_isThing, Cond.instanceMethod yX7_isThing, Cond.selects RX7 yX7_isThing yX7_isThing, Cond.initialized RX7, Cond.code yX7_isThing cX7_isThing 2 (some .boolean), Cond.fieldLink RX7 176 "LeaningLines$Things" "many" "I", Cond.methodLink RX7 50 yX7_within, Cond.static yX7_within, Cond.code yX7_within cX7_within 3 (some .boolean), Cond.methodLink RX7 103 yX7_canRide, Cond.static yX7_canRide, Cond.code yX7_canRide cX7_canRide 2 (some .boolean), Cond.methodLink RX7 61 yX1_record, Cond.instanceMethod yX1_record, Cond.selects RX1 yX1_record yX1_record, Cond.initialized RX1, Cond.code yX1_record cX1_record 3 none, Cond.fieldLink RX1 11 "LeaningLines$History" "states" "[LLeaningLines$Scene;"]
def wsX7_ride_r2 : List Cond := [Cond.fieldLink RX1 17 "LeaningLines$History" "next" "I", Cond.classLink RX1 9 RX5, Cond.instantiable RX5 7, Cond.initialized RX5, Cond.fieldLink RX1 21 "LeaningLines$History" "many" "I", Cond.methodLink RX1 29 Lib.Math.min.name, Cond.static Lib.Math.min.name, Cond.initialized "java/lang/Math", Cond.code Lib.Math.min.name Lib.Math.min.code 2 (some .int), Cond.instanceMethod yX5_init, Cond.code yX5_init cX5_init 1 none, Cond.methodLink RX5 3 objectInit, Cond.instanceMethod objectInit, Cond.code objectInit ⟨#[0xb1]⟩ 1 none, Cond.methodLink RX5 13 ⟨"[I", "clone", "()Ljava/lang/Object;"⟩, Cond.sameMethod "[I" "java/lang/Object" "clone" "()Ljava/lang/Object;", Cond.native ⟨"java/lang/Object", "clone", "()Ljava/lang/Object;"⟩, Cond.instanceMethod ⟨"java/lang/Object", "clone", "()Ljava/lang/Object;"⟩, Cond.selects "[I" ⟨"[I", "clone", "()Ljava/lang/Object;"⟩ ⟨"java/lang/Object", "clone", "()Ljava/lang/Object;"⟩, Cond.classLink RX5 14 "[I", Cond.fieldLink RX5 18 "LeaningLines$Scene" "settings" "[I", Cond.classLink RX5 23 RX6, Cond.instantiable RX6 10, Cond.initialized RX6]
def wsX7_ride_r3 : List Cond := [Cond.fieldLink RX5 26 "LeaningLines$Scene" "things" "LLeaningLines$Things;", Cond.classLink RX5 30 RX3, Cond.instantiable RX3 1, Cond.initialized RX3, Cond.fieldLink RX5 33 "LeaningLines$Scene" "picture" "LLeaningLines$Picture;", Cond.fieldLink RX5 37 "LeaningLines$Scene" "time" "I", Cond.fieldLink RX5 41 "LeaningLines$Scene" "pictures" "I", Cond.fieldLink RX5 44 "LeaningLines$Scene" "flashTime" "I", Cond.fieldLink RX5 47 "LeaningLines$Scene" "flashTicks" "I", Cond.instanceMethod yX6_init, Cond.code yX6_init cX6_init 1 none, Cond.methodLink RX6 3 objectInit, Cond.arrayClass .int, Cond.fieldLink RX6 9 "LeaningLines$Things" "line" "[I", Cond.fieldLink RX6 15 "LeaningLines$Things" "high" "[I", Cond.fieldLink RX6 18 "LeaningLines$Things" "wide" "[I", Cond.fieldLink RX6 21 "LeaningLines$Things" "brightness" "[I", Cond.fieldLink RX6 24 "LeaningLines$Things" "speed" "[I", Cond.fieldLink RX6 27 "LeaningLines$Things" "since" "[I", Cond.fieldLink RX6 30 "LeaningLines$Things" "left" "[I", Cond.fieldLink RX6 33 "LeaningLines$Things" "under" "[I", Cond.fieldLink RX6 36 "LeaningLines$Things" "underLeft" "[I", Cond.instanceMethod yX3_init, Cond.code yX3_init cX3_init 1 none]
def wsX7_ride_r4 : List Cond := [Cond.methodLink RX3 3 objectInit, Cond.fieldLink RX3 9 "LeaningLines$Picture" "pixels" "[I", Cond.methodLink RX1 25 yX5_copyFrom, Cond.instanceMethod yX5_copyFrom, Cond.selects RX5 yX5_copyFrom yX5_copyFrom, Cond.code yX5_copyFrom cX5_copyFrom 2 none, Cond.methodLink RX5 58 arraycopyName, Cond.native arraycopyName, Cond.static arraycopyName, Cond.initialized "java/lang/System", Cond.methodLink RX5 64 yX6_copyFrom, Cond.instanceMethod yX6_copyFrom, Cond.selects RX6 yX6_copyFrom yX6_copyFrom, Cond.code yX6_copyFrom cX6_copyFrom 2 none, Cond.fieldLink RX6 39 "LeaningLines$Things" "many" "I", Cond.methodLink RX6 56 arraycopyName, Cond.methodLink RX5 68 yX3_copyFrom, Cond.instanceMethod yX3_copyFrom, Cond.selects RX3 yX3_copyFrom yX3_copyFrom, Cond.code yX3_copyFrom cX3_copyFrom 2 none, Cond.methodLink RX3 15 arraycopyName, Cond.methodLink RX7 99 yX6_comeAnew, Cond.instanceMethod yX6_comeAnew, Cond.selects RX6 yX6_comeAnew yX6_comeAnew]
def wsX7_ride_r5 : List Cond := [Cond.code yX6_comeAnew cX6_comeAnew 5 none, Cond.methodLink RX6 43 yX6_leftAt, Cond.instanceMethod yX6_leftAt, Cond.selects RX6 yX6_leftAt yX6_leftAt, Cond.code yX6_leftAt cX6_leftAt 6 (some .int), Cond.methodLink RX6 47 yJ9_floorDiv_7cf53, Cond.static yJ9_floorDiv_7cf53, Cond.initialized RJ9, Cond.code yJ9_floorDiv_7cf53 cJ9_floorDiv_7cf53 3 (some .int)]
def wsX7_ride : List Cond := .code yX7_ride cX7_ride 4 (some .int) :: ((wsX7_ride_r1 ++ (wsX7_ride_r2 ++ (wsX7_ride_r3 ++ (wsX7_ride_r4 ++ wsX7_ride_r5)))) ++ wsX70 ++ wsX50 ++ wsX60 ++ wsX10 ++ wsX30)
def wsX7_errorOfFlash : List Cond := .code yX7_errorOfFlash cX7_errorOfFlash 3 (some .int) :: ([.methodLink RX7 50 yX7_within, .static yX7_within, .initialized RX7, .code yX7_within cX7_within 3 (some .boolean)])
def wsX7_flash_r1 : List Cond := [Cond.fieldLink RX7 26 "LeaningLines" "history" "LLeaningLines$History;", Cond.fieldLink RX7 10 "LeaningLines" "scene" "LLeaningLines$Scene;", Cond.fieldLink RX7 115 "LeaningLines$Scene" "flashTime" "I", Cond.methodLink RX7 107 yX7_errorOfFlash, Cond.instanceMethod yX7_errorOfFlash, Cond.selects RX7 yX7_errorOfFlash yX7_errorOfFlash, Cond.initialized RX7, Cond.code yX7_errorOfFlash cX7_errorOfFlash 3 (some .int), Cond.methodLink RX7 50 yX7_within, Cond.static yX7_within, Cond.code yX7_within cX7_within 3 (some .boolean), Cond.methodLink RX7 61 yX1_record, Cond.instanceMethod yX1_record, Cond.selects RX1 yX1_record yX1_record, Cond.initialized RX1, Cond.code yX1_record cX1_record 3 none, Cond.fieldLink RX1 11 "LeaningLines$History" "states" "[LLeaningLines$Scene;", Cond.fieldLink RX1 17 "LeaningLines$History" "next" "I", Cond.classLink RX1 9 RX5, Cond.instantiable RX5 7, Cond.initialized RX5, Cond.fieldLink RX1 21 "LeaningLines$History" "many" "I", Cond.methodLink RX1 29 Lib.Math.min.name, Cond.static Lib.Math.min.name]
def wsX7_flash_r2 : List Cond := [Cond.initialized "java/lang/Math", Cond.code Lib.Math.min.name Lib.Math.min.code 2 (some .int), Cond.instanceMethod yX5_init, Cond.code yX5_init cX5_init 1 none, Cond.methodLink RX5 3 objectInit, Cond.instanceMethod objectInit, Cond.code objectInit ⟨#[0xb1]⟩ 1 none, Cond.methodLink RX5 13 ⟨"[I", "clone", "()Ljava/lang/Object;"⟩, Cond.sameMethod "[I" "java/lang/Object" "clone" "()Ljava/lang/Object;", Cond.native ⟨"java/lang/Object", "clone", "()Ljava/lang/Object;"⟩, Cond.instanceMethod ⟨"java/lang/Object", "clone", "()Ljava/lang/Object;"⟩, Cond.selects "[I" ⟨"[I", "clone", "()Ljava/lang/Object;"⟩ ⟨"java/lang/Object", "clone", "()Ljava/lang/Object;"⟩, Cond.classLink RX5 14 "[I", Cond.fieldLink RX5 18 "LeaningLines$Scene" "settings" "[I", Cond.classLink RX5 23 RX6, Cond.instantiable RX6 10, Cond.initialized RX6, Cond.fieldLink RX5 26 "LeaningLines$Scene" "things" "LLeaningLines$Things;", Cond.classLink RX5 30 RX3, Cond.instantiable RX3 1, Cond.initialized RX3, Cond.fieldLink RX5 33 "LeaningLines$Scene" "picture" "LLeaningLines$Picture;", Cond.fieldLink RX5 37 "LeaningLines$Scene" "time" "I", Cond.fieldLink RX5 41 "LeaningLines$Scene" "pictures" "I"]
def wsX7_flash_r3 : List Cond := [Cond.fieldLink RX5 44 "LeaningLines$Scene" "flashTime" "I", Cond.fieldLink RX5 47 "LeaningLines$Scene" "flashTicks" "I", Cond.instanceMethod yX6_init, Cond.code yX6_init cX6_init 1 none, Cond.methodLink RX6 3 objectInit, Cond.arrayClass .int, Cond.fieldLink RX6 9 "LeaningLines$Things" "line" "[I", Cond.fieldLink RX6 15 "LeaningLines$Things" "high" "[I", Cond.fieldLink RX6 18 "LeaningLines$Things" "wide" "[I", Cond.fieldLink RX6 21 "LeaningLines$Things" "brightness" "[I", Cond.fieldLink RX6 24 "LeaningLines$Things" "speed" "[I", Cond.fieldLink RX6 27 "LeaningLines$Things" "since" "[I", Cond.fieldLink RX6 30 "LeaningLines$Things" "left" "[I", Cond.fieldLink RX6 33 "LeaningLines$Things" "under" "[I", Cond.fieldLink RX6 36 "LeaningLines$Things" "underLeft" "[I", Cond.instanceMethod yX3_init, Cond.code yX3_init cX3_init 1 none, Cond.methodLink RX3 3 objectInit, Cond.fieldLink RX3 9 "LeaningLines$Picture" "pixels" "[I", Cond.methodLink RX1 25 yX5_copyFrom, Cond.instanceMethod yX5_copyFrom, Cond.selects RX5 yX5_copyFrom yX5_copyFrom, Cond.code yX5_copyFrom cX5_copyFrom 2 none, Cond.methodLink RX5 58 arraycopyName]
def wsX7_flash_r4 : List Cond := [Cond.native arraycopyName, Cond.static arraycopyName, Cond.initialized "java/lang/System", Cond.methodLink RX5 64 yX6_copyFrom, Cond.instanceMethod yX6_copyFrom, Cond.selects RX6 yX6_copyFrom yX6_copyFrom, Cond.code yX6_copyFrom cX6_copyFrom 2 none, Cond.fieldLink RX6 39 "LeaningLines$Things" "many" "I", Cond.methodLink RX6 56 arraycopyName, Cond.methodLink RX5 68 yX3_copyFrom, Cond.instanceMethod yX3_copyFrom, Cond.selects RX3 yX3_copyFrom yX3_copyFrom, Cond.code yX3_copyFrom cX3_copyFrom 2 none, Cond.methodLink RX3 15 arraycopyName, Cond.methodLink RX7 111 yX5_setFlash, Cond.instanceMethod yX5_setFlash, Cond.selects RX5 yX5_setFlash yX5_setFlash, Cond.code yX5_setFlash cX5_setFlash 3 none]
def wsX7_flash : List Cond := .code yX7_flash cX7_flash 4 (some .int) :: ((wsX7_flash_r1 ++ (wsX7_flash_r2 ++ (wsX7_flash_r3 ++ wsX7_flash_r4))) ++ wsX70 ++ wsX50 ++ wsX10 ++ wsX60 ++ wsX30)
def wsX7_errorOfPass : List Cond := .code yX7_errorOfPass cX7_errorOfPass 2 (some .int) :: ([.fieldLink RX7 10 "LeaningLines" "scene" "LLeaningLines$Scene;", .fieldLink RX7 76 "LeaningLines$Scene" "time" "I", .methodLink RX7 50 yX7_within, .static yX7_within, .initialized RX7, .code yX7_within cX7_within 3 (some .boolean)] ++ wsX70 ++ wsX50)
def wsX7_pass_r1 : List Cond := [Cond.fieldLink RX7 26 "LeaningLines" "history" "LLeaningLines$History;", Cond.fieldLink RX7 10 "LeaningLines" "scene" "LLeaningLines$Scene;", Cond.fieldLink RX7 76 "LeaningLines$Scene" "time" "I", Cond.methodLink RX7 118 yX7_errorOfPass, Cond.instanceMethod yX7_errorOfPass, Cond.selects RX7 yX7_errorOfPass yX7_errorOfPass, Cond.initialized RX7, Cond.code yX7_errorOfPass cX7_errorOfPass 2 (some .int), Cond.methodLink RX7 50 yX7_within, Cond.static yX7_within, Cond.code yX7_within cX7_within 3 (some .boolean), Cond.methodLink RX7 61 yX1_record, Cond.instanceMethod yX1_record, Cond.selects RX1 yX1_record yX1_record, Cond.initialized RX1, Cond.code yX1_record cX1_record 3 none, Cond.fieldLink RX1 11 "LeaningLines$History" "states" "[LLeaningLines$Scene;", Cond.fieldLink RX1 17 "LeaningLines$History" "next" "I", Cond.classLink RX1 9 RX5, Cond.instantiable RX5 7, Cond.initialized RX5, Cond.fieldLink RX1 21 "LeaningLines$History" "many" "I", Cond.methodLink RX1 29 Lib.Math.min.name, Cond.static Lib.Math.min.name]
def wsX7_pass_r2 : List Cond := [Cond.initialized "java/lang/Math", Cond.code Lib.Math.min.name Lib.Math.min.code 2 (some .int), Cond.instanceMethod yX5_init, Cond.code yX5_init cX5_init 1 none, Cond.methodLink RX5 3 objectInit, Cond.instanceMethod objectInit, Cond.code objectInit ⟨#[0xb1]⟩ 1 none, Cond.methodLink RX5 13 ⟨"[I", "clone", "()Ljava/lang/Object;"⟩, Cond.sameMethod "[I" "java/lang/Object" "clone" "()Ljava/lang/Object;", Cond.native ⟨"java/lang/Object", "clone", "()Ljava/lang/Object;"⟩, Cond.instanceMethod ⟨"java/lang/Object", "clone", "()Ljava/lang/Object;"⟩, Cond.selects "[I" ⟨"[I", "clone", "()Ljava/lang/Object;"⟩ ⟨"java/lang/Object", "clone", "()Ljava/lang/Object;"⟩, Cond.classLink RX5 14 "[I", Cond.fieldLink RX5 18 "LeaningLines$Scene" "settings" "[I", Cond.classLink RX5 23 RX6, Cond.instantiable RX6 10, Cond.initialized RX6, Cond.fieldLink RX5 26 "LeaningLines$Scene" "things" "LLeaningLines$Things;", Cond.classLink RX5 30 RX3, Cond.instantiable RX3 1, Cond.initialized RX3, Cond.fieldLink RX5 33 "LeaningLines$Scene" "picture" "LLeaningLines$Picture;", Cond.fieldLink RX5 37 "LeaningLines$Scene" "time" "I", Cond.fieldLink RX5 41 "LeaningLines$Scene" "pictures" "I"]
def wsX7_pass_r3 : List Cond := [Cond.fieldLink RX5 44 "LeaningLines$Scene" "flashTime" "I", Cond.fieldLink RX5 47 "LeaningLines$Scene" "flashTicks" "I", Cond.instanceMethod yX6_init, Cond.code yX6_init cX6_init 1 none, Cond.methodLink RX6 3 objectInit, Cond.arrayClass .int, Cond.fieldLink RX6 9 "LeaningLines$Things" "line" "[I", Cond.fieldLink RX6 15 "LeaningLines$Things" "high" "[I", Cond.fieldLink RX6 18 "LeaningLines$Things" "wide" "[I", Cond.fieldLink RX6 21 "LeaningLines$Things" "brightness" "[I", Cond.fieldLink RX6 24 "LeaningLines$Things" "speed" "[I", Cond.fieldLink RX6 27 "LeaningLines$Things" "since" "[I", Cond.fieldLink RX6 30 "LeaningLines$Things" "left" "[I", Cond.fieldLink RX6 33 "LeaningLines$Things" "under" "[I", Cond.fieldLink RX6 36 "LeaningLines$Things" "underLeft" "[I", Cond.instanceMethod yX3_init, Cond.code yX3_init cX3_init 1 none, Cond.methodLink RX3 3 objectInit, Cond.fieldLink RX3 9 "LeaningLines$Picture" "pixels" "[I", Cond.methodLink RX1 25 yX5_copyFrom, Cond.instanceMethod yX5_copyFrom, Cond.selects RX5 yX5_copyFrom yX5_copyFrom, Cond.code yX5_copyFrom cX5_copyFrom 2 none, Cond.methodLink RX5 58 arraycopyName]
def wsX7_pass_r4 : List Cond := [Cond.native arraycopyName, Cond.static arraycopyName, Cond.initialized "java/lang/System", Cond.methodLink RX5 64 yX6_copyFrom, Cond.instanceMethod yX6_copyFrom, Cond.selects RX6 yX6_copyFrom yX6_copyFrom, Cond.code yX6_copyFrom cX6_copyFrom 2 none, Cond.fieldLink RX6 39 "LeaningLines$Things" "many" "I", Cond.methodLink RX6 56 arraycopyName, Cond.methodLink RX5 68 yX3_copyFrom, Cond.instanceMethod yX3_copyFrom, Cond.selects RX3 yX3_copyFrom yX3_copyFrom, Cond.code yX3_copyFrom cX3_copyFrom 2 none, Cond.methodLink RX3 15 arraycopyName]
def wsX7_pass : List Cond := .code yX7_pass cX7_pass 3 (some .int) :: ((wsX7_pass_r1 ++ (wsX7_pass_r2 ++ (wsX7_pass_r3 ++ wsX7_pass_r4))) ++ wsX70 ++ wsX50 ++ wsX10 ++ wsX60 ++ wsX30)
def wsX7_errorOfShoot : List Cond := .code yX7_errorOfShoot cX7_errorOfShoot 1 (some .int) :: ([.fieldLink RX7 10 "LeaningLines" "scene" "LLeaningLines$Scene;", .methodLink RX7 249 yX5_endOfPicture, .instanceMethod yX5_endOfPicture, .selects RX5 yX5_endOfPicture yX5_endOfPicture, .initialized RX5, .code yX5_endOfPicture cX5_endOfPicture 1 (some .int), .fieldLink RX5 18 "LeaningLines$Scene" "settings" "[I", .methodLink RX5 50 yX5_beginOf, .instanceMethod yX5_beginOf, .selects RX5 yX5_beginOf yX5_beginOf, .code yX5_beginOf cX5_beginOf 2 (some .int), .fieldLink RX5 37 "LeaningLines$Scene" "time" "I"] ++ wsX70 ++ wsX50)
def wsX7_shoot_r1 : List Cond := [Cond.fieldLink RX7 26 "LeaningLines" "history" "LLeaningLines$History;", Cond.fieldLink RX7 10 "LeaningLines" "scene" "LLeaningLines$Scene;", Cond.fieldLink RX7 19 "LeaningLines" "camera" "LLeaningLines$Camera;", Cond.fieldLink RX7 129 "LeaningLines$Scene" "picture" "LLeaningLines$Picture;", Cond.methodLink RX7 122 yX7_errorOfShoot, Cond.instanceMethod yX7_errorOfShoot, Cond.selects RX7 yX7_errorOfShoot yX7_errorOfShoot, Cond.initialized RX7, Cond.code yX7_errorOfShoot cX7_errorOfShoot 1 (some .int), Cond.methodLink RX7 249 yX5_endOfPicture, Cond.instanceMethod yX5_endOfPicture, Cond.selects RX5 yX5_endOfPicture yX5_endOfPicture, Cond.initialized RX5, Cond.code yX5_endOfPicture cX5_endOfPicture 1 (some .int), Cond.fieldLink RX5 18 "LeaningLines$Scene" "settings" "[I", Cond.methodLink RX5 50 yX5_beginOf, Cond.instanceMethod yX5_beginOf, Cond.selects RX5 yX5_beginOf yX5_beginOf, Cond.code yX5_beginOf cX5_beginOf 2 (some .int), Cond.fieldLink RX5 37 "LeaningLines$Scene" "time" "I", Cond.methodLink RX7 61 yX1_record, Cond.instanceMethod yX1_record, Cond.selects RX1 yX1_record yX1_record, Cond.initialized RX1]
def wsX7_shoot_r2 : List Cond := [Cond.code yX1_record cX1_record 3 none, Cond.fieldLink RX1 11 "LeaningLines$History" "states" "[LLeaningLines$Scene;", Cond.fieldLink RX1 17 "LeaningLines$History" "next" "I", Cond.classLink RX1 9 RX5, Cond.instantiable RX5 7, Cond.fieldLink RX1 21 "LeaningLines$History" "many" "I", Cond.methodLink RX1 29 Lib.Math.min.name, Cond.static Lib.Math.min.name, Cond.initialized "java/lang/Math", Cond.code Lib.Math.min.name Lib.Math.min.code 2 (some .int), Cond.instanceMethod yX5_init, Cond.code yX5_init cX5_init 1 none, Cond.methodLink RX5 3 objectInit, Cond.instanceMethod objectInit, Cond.code objectInit ⟨#[0xb1]⟩ 1 none, Cond.methodLink RX5 13 ⟨"[I", "clone", "()Ljava/lang/Object;"⟩, Cond.sameMethod "[I" "java/lang/Object" "clone" "()Ljava/lang/Object;", Cond.native ⟨"java/lang/Object", "clone", "()Ljava/lang/Object;"⟩, Cond.instanceMethod ⟨"java/lang/Object", "clone", "()Ljava/lang/Object;"⟩, Cond.selects "[I" ⟨"[I", "clone", "()Ljava/lang/Object;"⟩ ⟨"java/lang/Object", "clone", "()Ljava/lang/Object;"⟩, Cond.classLink RX5 14 "[I", Cond.classLink RX5 23 RX6, Cond.instantiable RX6 10, Cond.initialized RX6]
def wsX7_shoot_r3 : List Cond := [Cond.fieldLink RX5 26 "LeaningLines$Scene" "things" "LLeaningLines$Things;", Cond.classLink RX5 30 RX3, Cond.instantiable RX3 1, Cond.initialized RX3, Cond.fieldLink RX5 33 "LeaningLines$Scene" "picture" "LLeaningLines$Picture;", Cond.fieldLink RX5 41 "LeaningLines$Scene" "pictures" "I", Cond.fieldLink RX5 44 "LeaningLines$Scene" "flashTime" "I", Cond.fieldLink RX5 47 "LeaningLines$Scene" "flashTicks" "I", Cond.instanceMethod yX6_init, Cond.code yX6_init cX6_init 1 none, Cond.methodLink RX6 3 objectInit, Cond.arrayClass .int, Cond.fieldLink RX6 9 "LeaningLines$Things" "line" "[I", Cond.fieldLink RX6 15 "LeaningLines$Things" "high" "[I", Cond.fieldLink RX6 18 "LeaningLines$Things" "wide" "[I", Cond.fieldLink RX6 21 "LeaningLines$Things" "brightness" "[I", Cond.fieldLink RX6 24 "LeaningLines$Things" "speed" "[I", Cond.fieldLink RX6 27 "LeaningLines$Things" "since" "[I", Cond.fieldLink RX6 30 "LeaningLines$Things" "left" "[I", Cond.fieldLink RX6 33 "LeaningLines$Things" "under" "[I", Cond.fieldLink RX6 36 "LeaningLines$Things" "underLeft" "[I", Cond.instanceMethod yX3_init, Cond.code yX3_init cX3_init 1 none, Cond.methodLink RX3 3 objectInit]
def wsX7_shoot_r4 : List Cond := [Cond.fieldLink RX3 9 "LeaningLines$Picture" "pixels" "[I", Cond.methodLink RX1 25 yX5_copyFrom, Cond.instanceMethod yX5_copyFrom, Cond.selects RX5 yX5_copyFrom yX5_copyFrom, Cond.code yX5_copyFrom cX5_copyFrom 2 none, Cond.methodLink RX5 58 arraycopyName, Cond.native arraycopyName, Cond.static arraycopyName, Cond.initialized "java/lang/System", Cond.methodLink RX5 64 yX6_copyFrom, Cond.instanceMethod yX6_copyFrom, Cond.selects RX6 yX6_copyFrom yX6_copyFrom, Cond.code yX6_copyFrom cX6_copyFrom 2 none, Cond.fieldLink RX6 39 "LeaningLines$Things" "many" "I", Cond.methodLink RX6 56 arraycopyName, Cond.methodLink RX5 68 yX3_copyFrom, Cond.instanceMethod yX3_copyFrom, Cond.selects RX3 yX3_copyFrom yX3_copyFrom, Cond.code yX3_copyFrom cX3_copyFrom 2 none, Cond.methodLink RX3 15 arraycopyName, Cond.methodLink RX7 126 yX0_takePicture, Cond.instanceMethod yX0_takePicture, Cond.selects RX0 yX0_takePicture yX0_takePicture, Cond.initialized RX0]
def wsX7_shoot_r5 : List Cond := [Cond.code yX0_takePicture cX0_takePicture 3 none, Cond.fieldLink RX0 27 "LeaningLines$Scene" "settings" "[I", Cond.fieldLink RX0 9 "LeaningLines$Camera" "leaning" "[I", Cond.fieldLink RX0 34 "LeaningLines$Scene" "picture" "LLeaningLines$Picture;", Cond.fieldLink RX0 48 "LeaningLines$Scene" "time" "I", Cond.fieldLink RX0 52 "LeaningLines$Scene" "pictures" "I", Cond.methodLink RX0 21 yX5_beginOf, Cond.methodLink RX0 30 yX0_exposeLine, Cond.instanceMethod yX0_exposeLine, Cond.selects RX0 yX0_exposeLine yX0_exposeLine, Cond.code yX0_exposeLine cX0_exposeLine 8 none, Cond.fieldLink RX0 64 "LeaningLines$Scene" "things" "LLeaningLines$Things;", Cond.methodLink RX0 55 yJ7_fill_53178, Cond.static yJ7_fill_53178, Cond.initialized RJ7, Cond.code yJ7_fill_53178 cJ7_fill_53178 4 none, Cond.methodLink RX0 61 yX5_lightAt, Cond.instanceMethod yX5_lightAt, Cond.selects RX5 yX5_lightAt yX5_lightAt, Cond.code yX5_lightAt cX5_lightAt 3 (some .int), Cond.static yX7_within, Cond.code yX7_within cX7_within 3 (some .boolean), Cond.methodLink RX0 68 yX0_findRises, Cond.instanceMethod yX0_findRises]
def wsX7_shoot_r6 : List Cond := [Cond.selects RX0 yX0_findRises yX0_findRises, Cond.code yX0_findRises cX0_findRises 6 none, Cond.fieldLink RX0 18 "LeaningLines$Camera" "rises" "[I", Cond.fieldLink RX0 81 "LeaningLines$Things" "many" "I", Cond.fieldLink RX0 96 "LeaningLines$Things" "brightness" "[I", Cond.fieldLink RX0 99 "LeaningLines$Things" "wide" "[I", Cond.methodLink RX0 86 yX6_isInLine, Cond.instanceMethod yX6_isInLine, Cond.selects RX6 yX6_isInLine yX6_isInLine, Cond.code yX6_isInLine cX6_isInLine 3 (some .boolean), Cond.methodLink RX0 90 yX6_leftAt, Cond.instanceMethod yX6_leftAt, Cond.selects RX6 yX6_leftAt yX6_leftAt, Cond.code yX6_leftAt cX6_leftAt 6 (some .int), Cond.methodLink RX6 47 yJ9_floorDiv_7cf53, Cond.static yJ9_floorDiv_7cf53, Cond.initialized RJ9, Cond.code yJ9_floorDiv_7cf53 cJ9_floorDiv_7cf53 3 (some .int), Cond.methodLink RX0 93 yX0_nearestEdge, Cond.static yX0_nearestEdge, Cond.code yX0_nearestEdge cX0_nearestEdge 1 (some .int), Cond.methodLink RX0 75 Lib.Math.min.name, Cond.methodLink RX0 102 Lib.Math.max.name, Cond.static Lib.Math.max.name]
def wsX7_shoot_r7 : List Cond := [Cond.code Lib.Math.max.name Lib.Math.max.code 2 (some .int), Cond.methodLink RX0 72 yX0_addLight, Cond.instanceMethod yX0_addLight, Cond.selects RX0 yX0_addLight yX0_addLight, Cond.code yX0_addLight cX0_addLight 5 none, Cond.methodLink RX0 38 yX3_putLine, Cond.instanceMethod yX3_putLine, Cond.selects RX3 yX3_putLine yX3_putLine, Cond.code yX3_putLine cX3_putLine 3 none, Cond.methodLink RX0 44 yX5_endOfPicture, Cond.methodLink RX7 133 yX3_sumOfAll, Cond.instanceMethod yX3_sumOfAll, Cond.selects RX3 yX3_sumOfAll yX3_sumOfAll, Cond.code yX3_sumOfAll cX3_sumOfAll 3 (some .int), Cond.methodLink RX3 25 yX3_sumOfLine, Cond.instanceMethod yX3_sumOfLine, Cond.selects RX3 yX3_sumOfLine yX3_sumOfLine, Cond.code yX3_sumOfLine cX3_sumOfLine 4 (some .int), Cond.methodLink RX3 21 yX3_pixelAt, Cond.instanceMethod yX3_pixelAt, Cond.selects RX3 yX3_pixelAt yX3_pixelAt, Cond.code yX3_pixelAt cX3_pixelAt 3 (some .int)]
def wsX7_shoot : List Cond := .code yX7_shoot cX7_shoot 2 (some .int) :: ((wsX7_shoot_r1 ++ (wsX7_shoot_r2 ++ (wsX7_shoot_r3 ++ (wsX7_shoot_r4 ++ (wsX7_shoot_r5 ++ (wsX7_shoot_r6 ++ wsX7_shoot_r7)))))) ++ wsX70 ++ wsX50 ++ wsX10 ++ wsX60 ++ wsX30 ++ wsX00)
def wsX7_of_r1 : List Cond := [Cond.fieldLink RX7 10 "LeaningLines" "scene" "LLeaningLines$Scene;", Cond.fieldLink RX7 72 "LeaningLines$Scene" "things" "LLeaningLines$Things;", Cond.fieldLink RX7 138 "LeaningLines$Things" "line" "[I", Cond.fieldLink RX7 76 "LeaningLines$Scene" "time" "I", Cond.fieldLink RX7 144 "LeaningLines$Things" "high" "[I", Cond.fieldLink RX7 147 "LeaningLines$Things" "wide" "[I", Cond.fieldLink RX7 150 "LeaningLines$Things" "brightness" "[I", Cond.fieldLink RX7 93 "LeaningLines$Things" "speed" "[I", Cond.fieldLink RX7 96 "LeaningLines$Things" "under" "[I", Cond.methodLink RX7 86 yX7_isThing, Cond.instanceMethod yX7_isThing, Cond.selects RX7 yX7_isThing yX7_isThing, Cond.initialized RX7, Cond.code yX7_isThing cX7_isThing 2 (some .boolean), Cond.fieldLink RX7 176 "LeaningLines$Things" "many" "I", Cond.methodLink RX7 50 yX7_within, Cond.static yX7_within, Cond.code yX7_within cX7_within 3 (some .boolean), Cond.methodLink RX7 141 yX6_leftAt, Cond.instanceMethod yX6_leftAt, Cond.selects RX6 yX6_leftAt yX6_leftAt, Cond.initialized RX6, Cond.code yX6_leftAt cX6_leftAt 6 (some .int), Cond.fieldLink RX6 39 "LeaningLines$Things" "many" "I"]
def wsX7_of_r2 : List Cond := [Cond.fieldLink RX6 30 "LeaningLines$Things" "left" "[I", Cond.fieldLink RX6 24 "LeaningLines$Things" "speed" "[I", Cond.fieldLink RX6 27 "LeaningLines$Things" "since" "[I", Cond.fieldLink RX6 36 "LeaningLines$Things" "underLeft" "[I", Cond.fieldLink RX6 33 "LeaningLines$Things" "under" "[I", Cond.methodLink RX6 47 yJ9_floorDiv_7cf53, Cond.static yJ9_floorDiv_7cf53, Cond.initialized RJ9, Cond.code yJ9_floorDiv_7cf53 cJ9_floorDiv_7cf53 3 (some .int), Cond.methodLink RX7 153 yX6_speedWithAllUnder, Cond.instanceMethod yX6_speedWithAllUnder, Cond.selects RX6 yX6_speedWithAllUnder yX6_speedWithAllUnder, Cond.code yX6_speedWithAllUnder cX6_speedWithAllUnder 5 (some .int)]
def wsX7_of : List Cond := .code yX7_of cX7_of 4 (some .int) :: ((wsX7_of_r1 ++ wsX7_of_r2) ++ wsX70 ++ wsX50 ++ wsX60)
def wsX7_pixel : List Cond := .code yX7_pixel cX7_pixel 3 (some .int) :: ([.fieldLink RX7 10 "LeaningLines" "scene" "LLeaningLines$Scene;", .fieldLink RX7 129 "LeaningLines$Scene" "picture" "LLeaningLines$Picture;", .methodLink RX7 156 yX7_isPlace, .static yX7_isPlace, .initialized RX7, .code yX7_isPlace cX7_isPlace 2 (some .boolean), .methodLink RX7 50 yX7_within, .static yX7_within, .code yX7_within cX7_within 3 (some .boolean), .methodLink RX7 159 yX3_pixelAt, .instanceMethod yX3_pixelAt, .selects RX3 yX3_pixelAt yX3_pixelAt, .initialized RX3, .code yX3_pixelAt cX3_pixelAt 3 (some .int), .fieldLink RX3 9 "LeaningLines$Picture" "pixels" "[I"] ++ wsX70 ++ wsX50 ++ wsX30)
def wsX7_joined : List Cond := .code yX7_joined cX7_joined 7 (some .int) :: ([.fieldLink RX7 10 "LeaningLines" "scene" "LLeaningLines$Scene;", .fieldLink RX7 65 "LeaningLines$Scene" "settings" "[I", .methodLink RX7 162 Lib.Math.min.name, .static Lib.Math.min.name, .initialized "java/lang/Math", .code Lib.Math.min.name Lib.Math.min.code 2 (some .int), .fieldLink RX7 129 "LeaningLines$Scene" "picture" "LLeaningLines$Picture;", .methodLink RX7 156 yX7_isPlace, .static yX7_isPlace, .initialized RX7, .code yX7_isPlace cX7_isPlace 2 (some .boolean), .methodLink RX7 50 yX7_within, .static yX7_within, .code yX7_within cX7_within 3 (some .boolean), .methodLink RX7 159 yX3_pixelAt, .instanceMethod yX3_pixelAt, .selects RX3 yX3_pixelAt yX3_pixelAt, .initialized RX3, .code yX3_pixelAt cX3_pixelAt 3 (some .int), .fieldLink RX3 9 "LeaningLines$Picture" "pixels" "[I"] ++ wsX70 ++ wsX50 ++ wsX30)
def wsX7_ofLine : List Cond := .code yX7_ofLine cX7_ofLine 3 (some .int) :: ([.fieldLink RX7 10 "LeaningLines" "scene" "LLeaningLines$Scene;", .fieldLink RX7 129 "LeaningLines$Scene" "picture" "LLeaningLines$Picture;", .methodLink RX7 50 yX7_within, .static yX7_within, .initialized RX7, .code yX7_within cX7_within 3 (some .boolean), .methodLink RX7 167 yX3_columnsNotDark, .instanceMethod yX3_columnsNotDark, .selects RX3 yX3_columnsNotDark yX3_columnsNotDark, .initialized RX3, .code yX3_columnsNotDark cX3_columnsNotDark 4 (some .int), .methodLink RX3 21 yX3_pixelAt, .instanceMethod yX3_pixelAt, .selects RX3 yX3_pixelAt yX3_pixelAt, .code yX3_pixelAt cX3_pixelAt 3 (some .int), .fieldLink RX3 9 "LeaningLines$Picture" "pixels" "[I", .methodLink RX7 170 yX3_sumOfLine, .instanceMethod yX3_sumOfLine, .selects RX3 yX3_sumOfLine yX3_sumOfLine, .code yX3_sumOfLine cX3_sumOfLine 4 (some .int), .methodLink RX7 173 yX3_leftmostNotDark, .instanceMethod yX3_leftmostNotDark, .selects RX3 yX3_leftmostNotDark yX3_leftmostNotDark, .code yX3_leftmostNotDark cX3_leftmostNotDark 3 (some .int)] ++ wsX70 ++ wsX50 ++ wsX30)
def wsX7_count_r1 : List Cond := [Cond.fieldLink RX7 10 "LeaningLines" "scene" "LLeaningLines$Scene;", Cond.fieldLink RX7 76 "LeaningLines$Scene" "time" "I", Cond.fieldLink RX7 72 "LeaningLines$Scene" "things" "LLeaningLines$Things;", Cond.fieldLink RX7 176 "LeaningLines$Things" "many" "I", Cond.fieldLink RX7 179 "LeaningLines$Scene" "pictures" "I", Cond.fieldLink RX7 129 "LeaningLines$Scene" "picture" "LLeaningLines$Picture;", Cond.fieldLink RX7 115 "LeaningLines$Scene" "flashTime" "I", Cond.fieldLink RX7 191 "LeaningLines$Scene" "flashTicks" "I", Cond.fieldLink RX7 65 "LeaningLines$Scene" "settings" "[I", Cond.fieldLink RX7 37 "LeaningLines" "pad" "LLeaningLines$Pad;", Cond.fieldLink RX7 194 "LeaningLines$Pad" "length" "I", Cond.fieldLink RX7 26 "LeaningLines" "history" "LLeaningLines$History;", Cond.fieldLink RX7 197 "LeaningLines$History" "many" "I", Cond.methodLink RX7 182 yX3_darkLines, Cond.instanceMethod yX3_darkLines, Cond.selects RX3 yX3_darkLines yX3_darkLines, Cond.initialized RX3, Cond.code yX3_darkLines cX3_darkLines 3 (some .int), Cond.methodLink RX3 29 yX3_columnsNotDark, Cond.instanceMethod yX3_columnsNotDark, Cond.selects RX3 yX3_columnsNotDark yX3_columnsNotDark, Cond.code yX3_columnsNotDark cX3_columnsNotDark 4 (some .int), Cond.methodLink RX3 21 yX3_pixelAt, Cond.instanceMethod yX3_pixelAt]
def wsX7_count_r2 : List Cond := [Cond.selects RX3 yX3_pixelAt yX3_pixelAt, Cond.code yX3_pixelAt cX3_pixelAt 3 (some .int), Cond.fieldLink RX3 9 "LeaningLines$Picture" "pixels" "[I", Cond.methodLink RX7 185 yX3_brightest, Cond.instanceMethod yX3_brightest, Cond.selects RX3 yX3_brightest yX3_brightest, Cond.code yX3_brightest cX3_brightest 4 (some .int), Cond.methodLink RX3 32 Lib.Math.max.name, Cond.static Lib.Math.max.name, Cond.initialized "java/lang/Math", Cond.code Lib.Math.max.name Lib.Math.max.code 2 (some .int), Cond.methodLink RX7 188 yX3_bands, Cond.instanceMethod yX3_bands, Cond.selects RX3 yX3_bands yX3_bands, Cond.code yX3_bands cX3_bands 3 (some .int)]
def wsX7_count : List Cond := .code yX7_count cX7_count 2 (some .int) :: ((wsX7_count_r1 ++ wsX7_count_r2) ++ wsX70 ++ wsX50 ++ wsX60 ++ wsX20 ++ wsX10 ++ wsX30)
def wsX7_seen_r1 : List Cond := [Cond.fieldLink RX7 19 "LeaningLines" "camera" "LLeaningLines$Camera;", Cond.fieldLink RX7 10 "LeaningLines" "scene" "LLeaningLines$Scene;", Cond.fieldLink RX7 76 "LeaningLines$Scene" "time" "I", Cond.methodLink RX7 156 yX7_isPlace, Cond.static yX7_isPlace, Cond.initialized RX7, Cond.code yX7_isPlace cX7_isPlace 2 (some .boolean), Cond.methodLink RX7 50 yX7_within, Cond.static yX7_within, Cond.code yX7_within cX7_within 3 (some .boolean), Cond.methodLink RX7 198 yX0_brightnessAt, Cond.instanceMethod yX0_brightnessAt, Cond.selects RX0 yX0_brightnessAt yX0_brightnessAt, Cond.initialized RX0, Cond.code yX0_brightnessAt cX0_brightnessAt 5 (some .int), Cond.fieldLink RX0 15 "LeaningLines$Camera" "upright" "[I", Cond.methodLink RX0 30 yX0_exposeLine, Cond.instanceMethod yX0_exposeLine, Cond.selects RX0 yX0_exposeLine yX0_exposeLine, Cond.code yX0_exposeLine cX0_exposeLine 8 none, Cond.fieldLink RX0 64 "LeaningLines$Scene" "things" "LLeaningLines$Things;", Cond.methodLink RX0 55 yJ7_fill_53178, Cond.static yJ7_fill_53178, Cond.initialized RJ7]
def wsX7_seen_r2 : List Cond := [Cond.code yJ7_fill_53178 cJ7_fill_53178 4 none, Cond.methodLink RX0 61 yX5_lightAt, Cond.instanceMethod yX5_lightAt, Cond.selects RX5 yX5_lightAt yX5_lightAt, Cond.initialized RX5, Cond.code yX5_lightAt cX5_lightAt 3 (some .int), Cond.fieldLink RX5 44 "LeaningLines$Scene" "flashTime" "I", Cond.fieldLink RX5 47 "LeaningLines$Scene" "flashTicks" "I", Cond.fieldLink RX5 18 "LeaningLines$Scene" "settings" "[I", Cond.methodLink RX0 68 yX0_findRises, Cond.instanceMethod yX0_findRises, Cond.selects RX0 yX0_findRises yX0_findRises, Cond.code yX0_findRises cX0_findRises 6 none, Cond.fieldLink RX0 18 "LeaningLines$Camera" "rises" "[I", Cond.fieldLink RX0 81 "LeaningLines$Things" "many" "I", Cond.fieldLink RX0 96 "LeaningLines$Things" "brightness" "[I", Cond.fieldLink RX0 99 "LeaningLines$Things" "wide" "[I", Cond.methodLink RX0 86 yX6_isInLine, Cond.instanceMethod yX6_isInLine, Cond.selects RX6 yX6_isInLine yX6_isInLine, Cond.initialized RX6, Cond.code yX6_isInLine cX6_isInLine 3 (some .boolean), Cond.fieldLink RX6 9 "LeaningLines$Things" "line" "[I", Cond.fieldLink RX6 15 "LeaningLines$Things" "high" "[I"]
def wsX7_seen_r3 : List Cond := [Cond.methodLink RX0 90 yX6_leftAt, Cond.instanceMethod yX6_leftAt, Cond.selects RX6 yX6_leftAt yX6_leftAt, Cond.code yX6_leftAt cX6_leftAt 6 (some .int), Cond.fieldLink RX6 39 "LeaningLines$Things" "many" "I", Cond.fieldLink RX6 30 "LeaningLines$Things" "left" "[I", Cond.fieldLink RX6 24 "LeaningLines$Things" "speed" "[I", Cond.fieldLink RX6 27 "LeaningLines$Things" "since" "[I", Cond.fieldLink RX6 36 "LeaningLines$Things" "underLeft" "[I", Cond.fieldLink RX6 33 "LeaningLines$Things" "under" "[I", Cond.methodLink RX6 47 yJ9_floorDiv_7cf53, Cond.static yJ9_floorDiv_7cf53, Cond.initialized RJ9, Cond.code yJ9_floorDiv_7cf53 cJ9_floorDiv_7cf53 3 (some .int), Cond.methodLink RX0 93 yX0_nearestEdge, Cond.static yX0_nearestEdge, Cond.code yX0_nearestEdge cX0_nearestEdge 1 (some .int), Cond.methodLink RX0 75 Lib.Math.min.name, Cond.static Lib.Math.min.name, Cond.initialized "java/lang/Math", Cond.code Lib.Math.min.name Lib.Math.min.code 2 (some .int), Cond.methodLink RX0 102 Lib.Math.max.name, Cond.static Lib.Math.max.name, Cond.code Lib.Math.max.name Lib.Math.max.code 2 (some .int)]
def wsX7_seen_r4 : List Cond := [Cond.methodLink RX0 72 yX0_addLight, Cond.instanceMethod yX0_addLight, Cond.selects RX0 yX0_addLight yX0_addLight, Cond.code yX0_addLight cX0_addLight 5 none]
def wsX7_seen : List Cond := .code yX7_seen cX7_seen 4 (some .int) :: ((wsX7_seen_r1 ++ (wsX7_seen_r2 ++ (wsX7_seen_r3 ++ wsX7_seen_r4))) ++ wsX70 ++ wsX50 ++ wsX00 ++ wsX60)
def wsX7_leans_r1 : List Cond := [Cond.fieldLink RX7 10 "LeaningLines" "scene" "LLeaningLines$Scene;", Cond.fieldLink RX7 72 "LeaningLines$Scene" "things" "LLeaningLines$Things;", Cond.fieldLink RX7 138 "LeaningLines$Things" "line" "[I", Cond.fieldLink RX7 144 "LeaningLines$Things" "high" "[I", Cond.methodLink RX7 86 yX7_isThing, Cond.instanceMethod yX7_isThing, Cond.selects RX7 yX7_isThing yX7_isThing, Cond.initialized RX7, Cond.code yX7_isThing cX7_isThing 2 (some .boolean), Cond.fieldLink RX7 176 "LeaningLines$Things" "many" "I", Cond.methodLink RX7 50 yX7_within, Cond.static yX7_within, Cond.code yX7_within cX7_within 3 (some .boolean), Cond.methodLink RX7 202 yX5_beginOf, Cond.instanceMethod yX5_beginOf, Cond.selects RX5 yX5_beginOf yX5_beginOf, Cond.initialized RX5, Cond.code yX5_beginOf cX5_beginOf 2 (some .int), Cond.fieldLink RX5 37 "LeaningLines$Scene" "time" "I", Cond.fieldLink RX5 18 "LeaningLines$Scene" "settings" "[I", Cond.methodLink RX7 141 yX6_leftAt, Cond.instanceMethod yX6_leftAt, Cond.selects RX6 yX6_leftAt yX6_leftAt, Cond.initialized RX6]
def wsX7_leans_r2 : List Cond := [Cond.code yX6_leftAt cX6_leftAt 6 (some .int), Cond.fieldLink RX6 39 "LeaningLines$Things" "many" "I", Cond.fieldLink RX6 30 "LeaningLines$Things" "left" "[I", Cond.fieldLink RX6 24 "LeaningLines$Things" "speed" "[I", Cond.fieldLink RX6 27 "LeaningLines$Things" "since" "[I", Cond.fieldLink RX6 36 "LeaningLines$Things" "underLeft" "[I", Cond.fieldLink RX6 33 "LeaningLines$Things" "under" "[I", Cond.methodLink RX6 47 yJ9_floorDiv_7cf53, Cond.static yJ9_floorDiv_7cf53, Cond.initialized RJ9, Cond.code yJ9_floorDiv_7cf53 cJ9_floorDiv_7cf53 3 (some .int)]
def wsX7_leans : List Cond := .code yX7_leans cX7_leans 6 (some .int) :: ((wsX7_leans_r1 ++ wsX7_leans_r2) ++ wsX70 ++ wsX50 ++ wsX60)
def wsX7_bent_r1 : List Cond := [Cond.fieldLink RX7 19 "LeaningLines" "camera" "LLeaningLines$Camera;", Cond.fieldLink RX7 10 "LeaningLines" "scene" "LLeaningLines$Scene;", Cond.methodLink RX7 205 yX0_pixelsBent, Cond.instanceMethod yX0_pixelsBent, Cond.selects RX0 yX0_pixelsBent yX0_pixelsBent, Cond.initialized RX0, Cond.code yX0_pixelsBent cX0_pixelsBent 5 (some .int), Cond.fieldLink RX0 27 "LeaningLines$Scene" "settings" "[I", Cond.fieldLink RX0 9 "LeaningLines$Camera" "leaning" "[I", Cond.fieldLink RX0 48 "LeaningLines$Scene" "time" "I", Cond.fieldLink RX0 15 "LeaningLines$Camera" "upright" "[I", Cond.methodLink RX0 21 yX5_beginOf, Cond.instanceMethod yX5_beginOf, Cond.selects RX5 yX5_beginOf yX5_beginOf, Cond.initialized RX5, Cond.code yX5_beginOf cX5_beginOf 2 (some .int), Cond.fieldLink RX5 37 "LeaningLines$Scene" "time" "I", Cond.fieldLink RX5 18 "LeaningLines$Scene" "settings" "[I", Cond.methodLink RX0 30 yX0_exposeLine, Cond.instanceMethod yX0_exposeLine, Cond.selects RX0 yX0_exposeLine yX0_exposeLine, Cond.code yX0_exposeLine cX0_exposeLine 8 none, Cond.fieldLink RX0 64 "LeaningLines$Scene" "things" "LLeaningLines$Things;", Cond.methodLink RX0 55 yJ7_fill_53178]
def wsX7_bent_r2 : List Cond := [Cond.static yJ7_fill_53178, Cond.initialized RJ7, Cond.code yJ7_fill_53178 cJ7_fill_53178 4 none, Cond.methodLink RX0 61 yX5_lightAt, Cond.instanceMethod yX5_lightAt, Cond.selects RX5 yX5_lightAt yX5_lightAt, Cond.code yX5_lightAt cX5_lightAt 3 (some .int), Cond.fieldLink RX5 44 "LeaningLines$Scene" "flashTime" "I", Cond.fieldLink RX5 47 "LeaningLines$Scene" "flashTicks" "I", Cond.static yX7_within, Cond.initialized RX7, Cond.code yX7_within cX7_within 3 (some .boolean), Cond.methodLink RX0 68 yX0_findRises, Cond.instanceMethod yX0_findRises, Cond.selects RX0 yX0_findRises yX0_findRises, Cond.code yX0_findRises cX0_findRises 6 none, Cond.fieldLink RX0 18 "LeaningLines$Camera" "rises" "[I", Cond.fieldLink RX0 81 "LeaningLines$Things" "many" "I", Cond.fieldLink RX0 96 "LeaningLines$Things" "brightness" "[I", Cond.fieldLink RX0 99 "LeaningLines$Things" "wide" "[I", Cond.methodLink RX0 86 yX6_isInLine, Cond.instanceMethod yX6_isInLine, Cond.selects RX6 yX6_isInLine yX6_isInLine, Cond.initialized RX6]
def wsX7_bent_r3 : List Cond := [Cond.code yX6_isInLine cX6_isInLine 3 (some .boolean), Cond.fieldLink RX6 9 "LeaningLines$Things" "line" "[I", Cond.fieldLink RX6 15 "LeaningLines$Things" "high" "[I", Cond.methodLink RX0 90 yX6_leftAt, Cond.instanceMethod yX6_leftAt, Cond.selects RX6 yX6_leftAt yX6_leftAt, Cond.code yX6_leftAt cX6_leftAt 6 (some .int), Cond.fieldLink RX6 39 "LeaningLines$Things" "many" "I", Cond.fieldLink RX6 30 "LeaningLines$Things" "left" "[I", Cond.fieldLink RX6 24 "LeaningLines$Things" "speed" "[I", Cond.fieldLink RX6 27 "LeaningLines$Things" "since" "[I", Cond.fieldLink RX6 36 "LeaningLines$Things" "underLeft" "[I", Cond.fieldLink RX6 33 "LeaningLines$Things" "under" "[I", Cond.methodLink RX6 47 yJ9_floorDiv_7cf53, Cond.static yJ9_floorDiv_7cf53, Cond.initialized RJ9, Cond.code yJ9_floorDiv_7cf53 cJ9_floorDiv_7cf53 3 (some .int), Cond.methodLink RX0 93 yX0_nearestEdge, Cond.static yX0_nearestEdge, Cond.code yX0_nearestEdge cX0_nearestEdge 1 (some .int), Cond.methodLink RX0 75 Lib.Math.min.name, Cond.static Lib.Math.min.name, Cond.initialized "java/lang/Math", Cond.code Lib.Math.min.name Lib.Math.min.code 2 (some .int)]
def wsX7_bent_r4 : List Cond := [Cond.methodLink RX0 102 Lib.Math.max.name, Cond.static Lib.Math.max.name, Cond.code Lib.Math.max.name Lib.Math.max.code 2 (some .int), Cond.methodLink RX0 72 yX0_addLight, Cond.instanceMethod yX0_addLight, Cond.selects RX0 yX0_addLight yX0_addLight, Cond.code yX0_addLight cX0_addLight 5 none]
def wsX7_bent : List Cond := .code yX7_bent cX7_bent 1 (some .int) :: ((wsX7_bent_r1 ++ (wsX7_bent_r2 ++ (wsX7_bent_r3 ++ wsX7_bent_r4))) ++ wsX70 ++ wsX50 ++ wsX00 ++ wsX60)
def wsX7_flashed : List Cond := .code yX7_flashed cX7_flashed 1 (some .int) :: ([.fieldLink RX7 10 "LeaningLines" "scene" "LLeaningLines$Scene;", .fieldLink RX7 115 "LeaningLines$Scene" "flashTime" "I", .fieldLink RX7 191 "LeaningLines$Scene" "flashTicks" "I", .methodLink RX7 209 yX5_linesFlashed, .instanceMethod yX5_linesFlashed, .selects RX5 yX5_linesFlashed yX5_linesFlashed, .initialized RX5, .code yX5_linesFlashed cX5_linesFlashed 6 (some .int), .fieldLink RX5 18 "LeaningLines$Scene" "settings" "[I", .methodLink RX5 50 yX5_beginOf, .instanceMethod yX5_beginOf, .selects RX5 yX5_beginOf yX5_beginOf, .code yX5_beginOf cX5_beginOf 2 (some .int), .fieldLink RX5 37 "LeaningLines$Scene" "time" "I"] ++ wsX70 ++ wsX50)
def wsJ6_bitCount_0f7a4 : List Cond := .code yJ6_bitCount_0f7a4 cJ6_bitCount_0f7a4 1 (some .int) :: ([.constant RJ6 265 (1431655765), .constant RJ6 266 (858993459), .constant RJ6 267 (252645135)])
def wsX7_bestFlash : List Cond := .code yX7_bestFlash cX7_bestFlash 7 (some .int) :: ([.fieldLink RX7 10 "LeaningLines" "scene" "LLeaningLines$Scene;", .fieldLink RX7 76 "LeaningLines$Scene" "time" "I", .methodLink RX7 50 yX7_within, .static yX7_within, .initialized RX7, .code yX7_within cX7_within 3 (some .boolean), .methodLink RX7 209 yX5_linesFlashed, .instanceMethod yX5_linesFlashed, .selects RX5 yX5_linesFlashed yX5_linesFlashed, .initialized RX5, .code yX5_linesFlashed cX5_linesFlashed 6 (some .int), .fieldLink RX5 18 "LeaningLines$Scene" "settings" "[I", .methodLink RX5 50 yX5_beginOf, .instanceMethod yX5_beginOf, .selects RX5 yX5_beginOf yX5_beginOf, .code yX5_beginOf cX5_beginOf 2 (some .int), .fieldLink RX5 37 "LeaningLines$Scene" "time" "I", .methodLink RX7 212 yJ6_bitCount_0f7a4, .static yJ6_bitCount_0f7a4, .initialized RJ6, .code yJ6_bitCount_0f7a4 cJ6_bitCount_0f7a4 1 (some .int), .constant RJ6 265 (1431655765), .constant RJ6 266 (858993459), .constant RJ6 267 (252645135)] ++ wsX70 ++ wsX50)
def wsX7_put : List Cond := .code yX7_put cX7_put 4 (some .int) :: ([.fieldLink RX7 37 "LeaningLines" "pad" "LLeaningLines$Pad;", .fieldLink RX7 194 "LeaningLines$Pad" "length" "I", .methodLink RX7 217 yX2_charactersIn, .static yX2_charactersIn, .initialized RX2, .code yX2_charactersIn cX2_charactersIn 5 (some .int), .constantLong RX2 19 (255), .static yX7_within, .initialized RX7, .code yX7_within cX7_within 3 (some .boolean), .methodLink RX7 221 yX2_append, .instanceMethod yX2_append, .selects RX2 yX2_append yX2_append, .code yX2_append cX2_append 5 none, .fieldLink RX2 9 "LeaningLines$Pad" "text" "[C", .fieldLink RX2 15 "LeaningLines$Pad" "length" "I"] ++ wsX70 ++ wsX20)
def wsX7_wipe : List Cond := .code yX7_wipe cX7_wipe 2 (some .int) :: ([.fieldLink RX7 37 "LeaningLines" "pad" "LLeaningLines$Pad;", .fieldLink RX7 194 "LeaningLines$Pad" "length" "I"] ++ wsX70 ++ wsX20)
def wsX7_fault_r1 : List Cond := [Cond.fieldLink RX7 46 "LeaningLines" "reader" "LLeaningLines$Reader;", Cond.methodLink RX7 225 yX4_findFault, Cond.instanceMethod yX4_findFault, Cond.selects RX4 yX4_findFault yX4_findFault, Cond.initialized RX4, Cond.code yX4_findFault cX4_findFault 3 (some .int), Cond.fieldLink RX4 9 "LeaningLines$Reader" "at" "I", Cond.fieldLink RX4 23 "LeaningLines$Reader" "pad" "LLeaningLines$Pad;", Cond.fieldLink RX4 35 "LeaningLines$Pad" "length" "I", Cond.methodLink RX4 27 yX4_readOrder, Cond.instanceMethod yX4_readOrder, Cond.selects RX4 yX4_readOrder yX4_readOrder, Cond.code yX4_readOrder cX4_readOrder 1 (some .boolean), Cond.fieldLink RX4 15 "LeaningLines$Reader" "kind" "C", Cond.methodLink RX4 40 yX2_characterAt, Cond.instanceMethod yX2_characterAt, Cond.selects RX2 yX2_characterAt yX2_characterAt, Cond.initialized RX2, Cond.code yX2_characterAt cX2_characterAt 2 (some .char), Cond.fieldLink RX2 15 "LeaningLines$Pad" "length" "I", Cond.fieldLink RX2 9 "LeaningLines$Pad" "text" "[C", Cond.methodLink RX4 31 yX4_take, Cond.instanceMethod yX4_take, Cond.selects RX4 yX4_take yX4_take]
def wsX7_fault_r2 : List Cond := [Cond.code yX4_take cX4_take 2 (some .boolean), Cond.methodLink RX4 44 yX4_readThing, Cond.instanceMethod yX4_readThing, Cond.selects RX4 yX4_readThing yX4_readThing, Cond.code yX4_readThing cX4_readThing 3 (some .boolean), Cond.fieldLink RX4 19 "LeaningLines$Reader" "values" "[I", Cond.methodLink RX4 47 yX4_readNumber, Cond.instanceMethod yX4_readNumber, Cond.selects RX4 yX4_readNumber yX4_readNumber, Cond.code yX4_readNumber cX4_readNumber 3 (some .boolean), Cond.methodLink RX4 51 yX4_readDigit, Cond.instanceMethod yX4_readDigit, Cond.selects RX4 yX4_readDigit yX4_readDigit, Cond.code yX4_readDigit cX4_readDigit 3 (some .boolean), Cond.methodLink RX4 54 yX4_isDigit, Cond.static yX4_isDigit, Cond.code yX4_isDigit cX4_isDigit 1 (some .boolean)]
def wsX7_fault : List Cond := .code yX7_fault cX7_fault 1 (some .int) :: ((wsX7_fault_r1 ++ wsX7_fault_r2) ++ wsX70 ++ wsX40 ++ wsX20)
def wsX7_carryOutThing_r1 : List Cond := [Cond.fieldLink RX7 46 "LeaningLines" "reader" "LLeaningLines$Reader;", Cond.fieldLink RX7 265 "LeaningLines$Reader" "values" "[I", Cond.fieldLink RX7 10 "LeaningLines" "scene" "LLeaningLines$Scene;", Cond.fieldLink RX7 72 "LeaningLines$Scene" "things" "LLeaningLines$Things;", Cond.fieldLink RX7 176 "LeaningLines$Things" "many" "I", Cond.fieldLink RX7 76 "LeaningLines$Scene" "time" "I", Cond.methodLink RX7 68 yX7_errorOfThing, Cond.instanceMethod yX7_errorOfThing, Cond.selects RX7 yX7_errorOfThing yX7_errorOfThing, Cond.initialized RX7, Cond.code yX7_errorOfThing cX7_errorOfThing 6 (some .int), Cond.methodLink RX7 156 yX7_isPlace, Cond.static yX7_isPlace, Cond.code yX7_isPlace cX7_isPlace 2 (some .boolean), Cond.methodLink RX7 50 yX7_within, Cond.static yX7_within, Cond.code yX7_within cX7_within 3 (some .boolean), Cond.methodLink RX7 90 yX7_isSpeed, Cond.static yX7_isSpeed, Cond.code yX7_isSpeed cX7_isSpeed 1 (some .boolean), Cond.methodLink RX7 103 yX7_canRide, Cond.static yX7_canRide, Cond.code yX7_canRide cX7_canRide 2 (some .boolean), Cond.methodLink RX7 80 yX6_add]
def wsX7_carryOutThing_r2 : List Cond := [Cond.instanceMethod yX6_add, Cond.selects RX6 yX6_add yX6_add, Cond.initialized RX6, Cond.code yX6_add cX6_add 8 (some .int), Cond.fieldLink RX6 39 "LeaningLines$Things" "many" "I", Cond.fieldLink RX6 9 "LeaningLines$Things" "line" "[I", Cond.fieldLink RX6 15 "LeaningLines$Things" "high" "[I", Cond.fieldLink RX6 18 "LeaningLines$Things" "wide" "[I", Cond.fieldLink RX6 21 "LeaningLines$Things" "brightness" "[I", Cond.fieldLink RX6 24 "LeaningLines$Things" "speed" "[I", Cond.fieldLink RX6 27 "LeaningLines$Things" "since" "[I", Cond.fieldLink RX6 30 "LeaningLines$Things" "left" "[I", Cond.fieldLink RX6 33 "LeaningLines$Things" "under" "[I", Cond.fieldLink RX6 36 "LeaningLines$Things" "underLeft" "[I", Cond.methodLink RX7 99 yX6_comeAnew, Cond.instanceMethod yX6_comeAnew, Cond.selects RX6 yX6_comeAnew yX6_comeAnew, Cond.code yX6_comeAnew cX6_comeAnew 5 none, Cond.methodLink RX6 43 yX6_leftAt, Cond.instanceMethod yX6_leftAt, Cond.selects RX6 yX6_leftAt yX6_leftAt, Cond.code yX6_leftAt cX6_leftAt 6 (some .int), Cond.methodLink RX6 47 yJ9_floorDiv_7cf53, Cond.static yJ9_floorDiv_7cf53]
def wsX7_carryOutThing_r3 : List Cond := [Cond.initialized RJ9, Cond.code yJ9_floorDiv_7cf53 cJ9_floorDiv_7cf53 3 (some .int)]
def wsX7_carryOutThing : List Cond := .code yX7_carryOutThing cX7_carryOutThing 7 (some .int) :: ((wsX7_carryOutThing_r1 ++ (wsX7_carryOutThing_r2 ++ wsX7_carryOutThing_r3)) ++ wsX70 ++ wsX40 ++ wsX50 ++ wsX60)
def wsX7_carryOutFlash : List Cond := .code yX7_carryOutFlash cX7_carryOutFlash 4 (some .int) :: ([.fieldLink RX7 46 "LeaningLines" "reader" "LLeaningLines$Reader;", .fieldLink RX7 265 "LeaningLines$Reader" "values" "[I", .fieldLink RX7 10 "LeaningLines" "scene" "LLeaningLines$Scene;", .methodLink RX7 107 yX7_errorOfFlash, .instanceMethod yX7_errorOfFlash, .selects RX7 yX7_errorOfFlash yX7_errorOfFlash, .initialized RX7, .code yX7_errorOfFlash cX7_errorOfFlash 3 (some .int), .methodLink RX7 50 yX7_within, .static yX7_within, .code yX7_within cX7_within 3 (some .boolean), .methodLink RX7 111 yX5_setFlash, .instanceMethod yX5_setFlash, .selects RX5 yX5_setFlash yX5_setFlash, .initialized RX5, .code yX5_setFlash cX5_setFlash 3 none, .fieldLink RX5 37 "LeaningLines$Scene" "time" "I", .fieldLink RX5 44 "LeaningLines$Scene" "flashTime" "I", .fieldLink RX5 47 "LeaningLines$Scene" "flashTicks" "I"] ++ wsX70 ++ wsX40 ++ wsX50)
def wsX7_carryOutPass : List Cond := .code yX7_carryOutPass cX7_carryOutPass 3 (some .int) :: ([.fieldLink RX7 46 "LeaningLines" "reader" "LLeaningLines$Reader;", .fieldLink RX7 265 "LeaningLines$Reader" "values" "[I", .fieldLink RX7 10 "LeaningLines" "scene" "LLeaningLines$Scene;", .fieldLink RX7 76 "LeaningLines$Scene" "time" "I", .methodLink RX7 118 yX7_errorOfPass, .instanceMethod yX7_errorOfPass, .selects RX7 yX7_errorOfPass yX7_errorOfPass, .initialized RX7, .code yX7_errorOfPass cX7_errorOfPass 2 (some .int), .methodLink RX7 50 yX7_within, .static yX7_within, .code yX7_within cX7_within 3 (some .boolean)] ++ wsX70 ++ wsX40 ++ wsX50)
def wsX7_carryOutOrder_r1 : List Cond := [Cond.fieldLink RX7 46 "LeaningLines" "reader" "LLeaningLines$Reader;", Cond.fieldLink RX7 252 "LeaningLines$Reader" "kind" "C", Cond.fieldLink RX7 19 "LeaningLines" "camera" "LLeaningLines$Camera;", Cond.fieldLink RX7 10 "LeaningLines" "scene" "LLeaningLines$Scene;", Cond.methodLink RX7 256 yX7_carryOutThing, Cond.instanceMethod yX7_carryOutThing, Cond.selects RX7 yX7_carryOutThing yX7_carryOutThing, Cond.initialized RX7, Cond.code yX7_carryOutThing cX7_carryOutThing 7 (some .int), Cond.fieldLink RX7 265 "LeaningLines$Reader" "values" "[I", Cond.fieldLink RX7 72 "LeaningLines$Scene" "things" "LLeaningLines$Things;", Cond.fieldLink RX7 176 "LeaningLines$Things" "many" "I", Cond.fieldLink RX7 76 "LeaningLines$Scene" "time" "I", Cond.methodLink RX7 68 yX7_errorOfThing, Cond.instanceMethod yX7_errorOfThing, Cond.selects RX7 yX7_errorOfThing yX7_errorOfThing, Cond.code yX7_errorOfThing cX7_errorOfThing 6 (some .int), Cond.methodLink RX7 156 yX7_isPlace, Cond.static yX7_isPlace, Cond.code yX7_isPlace cX7_isPlace 2 (some .boolean), Cond.methodLink RX7 50 yX7_within, Cond.static yX7_within, Cond.code yX7_within cX7_within 3 (some .boolean), Cond.methodLink RX7 90 yX7_isSpeed]
def wsX7_carryOutOrder_r2 : List Cond := [Cond.static yX7_isSpeed, Cond.code yX7_isSpeed cX7_isSpeed 1 (some .boolean), Cond.methodLink RX7 103 yX7_canRide, Cond.static yX7_canRide, Cond.code yX7_canRide cX7_canRide 2 (some .boolean), Cond.methodLink RX7 80 yX6_add, Cond.instanceMethod yX6_add, Cond.selects RX6 yX6_add yX6_add, Cond.initialized RX6, Cond.code yX6_add cX6_add 8 (some .int), Cond.fieldLink RX6 39 "LeaningLines$Things" "many" "I", Cond.fieldLink RX6 9 "LeaningLines$Things" "line" "[I", Cond.fieldLink RX6 15 "LeaningLines$Things" "high" "[I", Cond.fieldLink RX6 18 "LeaningLines$Things" "wide" "[I", Cond.fieldLink RX6 21 "LeaningLines$Things" "brightness" "[I", Cond.fieldLink RX6 24 "LeaningLines$Things" "speed" "[I", Cond.fieldLink RX6 27 "LeaningLines$Things" "since" "[I", Cond.fieldLink RX6 30 "LeaningLines$Things" "left" "[I", Cond.fieldLink RX6 33 "LeaningLines$Things" "under" "[I", Cond.fieldLink RX6 36 "LeaningLines$Things" "underLeft" "[I", Cond.methodLink RX7 99 yX6_comeAnew, Cond.instanceMethod yX6_comeAnew, Cond.selects RX6 yX6_comeAnew yX6_comeAnew, Cond.code yX6_comeAnew cX6_comeAnew 5 none]
def wsX7_carryOutOrder_r3 : List Cond := [Cond.methodLink RX6 43 yX6_leftAt, Cond.instanceMethod yX6_leftAt, Cond.selects RX6 yX6_leftAt yX6_leftAt, Cond.code yX6_leftAt cX6_leftAt 6 (some .int), Cond.methodLink RX6 47 yJ9_floorDiv_7cf53, Cond.static yJ9_floorDiv_7cf53, Cond.initialized RJ9, Cond.code yJ9_floorDiv_7cf53 cJ9_floorDiv_7cf53 3 (some .int), Cond.methodLink RX7 259 yX7_carryOutFlash, Cond.instanceMethod yX7_carryOutFlash, Cond.selects RX7 yX7_carryOutFlash yX7_carryOutFlash, Cond.code yX7_carryOutFlash cX7_carryOutFlash 4 (some .int), Cond.methodLink RX7 107 yX7_errorOfFlash, Cond.instanceMethod yX7_errorOfFlash, Cond.selects RX7 yX7_errorOfFlash yX7_errorOfFlash, Cond.code yX7_errorOfFlash cX7_errorOfFlash 3 (some .int), Cond.methodLink RX7 111 yX5_setFlash, Cond.instanceMethod yX5_setFlash, Cond.selects RX5 yX5_setFlash yX5_setFlash, Cond.initialized RX5, Cond.code yX5_setFlash cX5_setFlash 3 none, Cond.fieldLink RX5 37 "LeaningLines$Scene" "time" "I", Cond.fieldLink RX5 44 "LeaningLines$Scene" "flashTime" "I", Cond.fieldLink RX5 47 "LeaningLines$Scene" "flashTicks" "I"]
def wsX7_carryOutOrder_r4 : List Cond := [Cond.methodLink RX7 262 yX7_carryOutPass, Cond.instanceMethod yX7_carryOutPass, Cond.selects RX7 yX7_carryOutPass yX7_carryOutPass, Cond.code yX7_carryOutPass cX7_carryOutPass 3 (some .int), Cond.methodLink RX7 118 yX7_errorOfPass, Cond.instanceMethod yX7_errorOfPass, Cond.selects RX7 yX7_errorOfPass yX7_errorOfPass, Cond.code yX7_errorOfPass cX7_errorOfPass 2 (some .int), Cond.methodLink RX7 122 yX7_errorOfShoot, Cond.instanceMethod yX7_errorOfShoot, Cond.selects RX7 yX7_errorOfShoot yX7_errorOfShoot, Cond.code yX7_errorOfShoot cX7_errorOfShoot 1 (some .int), Cond.methodLink RX7 249 yX5_endOfPicture, Cond.instanceMethod yX5_endOfPicture, Cond.selects RX5 yX5_endOfPicture yX5_endOfPicture, Cond.code yX5_endOfPicture cX5_endOfPicture 1 (some .int), Cond.fieldLink RX5 18 "LeaningLines$Scene" "settings" "[I", Cond.methodLink RX5 50 yX5_beginOf, Cond.instanceMethod yX5_beginOf, Cond.selects RX5 yX5_beginOf yX5_beginOf, Cond.code yX5_beginOf cX5_beginOf 2 (some .int), Cond.methodLink RX7 126 yX0_takePicture, Cond.instanceMethod yX0_takePicture, Cond.selects RX0 yX0_takePicture yX0_takePicture]
def wsX7_carryOutOrder_r5 : List Cond := [Cond.initialized RX0, Cond.code yX0_takePicture cX0_takePicture 3 none, Cond.fieldLink RX0 27 "LeaningLines$Scene" "settings" "[I", Cond.fieldLink RX0 9 "LeaningLines$Camera" "leaning" "[I", Cond.fieldLink RX0 34 "LeaningLines$Scene" "picture" "LLeaningLines$Picture;", Cond.fieldLink RX0 48 "LeaningLines$Scene" "time" "I", Cond.fieldLink RX0 52 "LeaningLines$Scene" "pictures" "I", Cond.methodLink RX0 21 yX5_beginOf, Cond.methodLink RX0 30 yX0_exposeLine, Cond.instanceMethod yX0_exposeLine, Cond.selects RX0 yX0_exposeLine yX0_exposeLine, Cond.code yX0_exposeLine cX0_exposeLine 8 none, Cond.fieldLink RX0 64 "LeaningLines$Scene" "things" "LLeaningLines$Things;", Cond.methodLink RX0 55 yJ7_fill_53178, Cond.static yJ7_fill_53178, Cond.initialized RJ7, Cond.code yJ7_fill_53178 cJ7_fill_53178 4 none, Cond.methodLink RX0 61 yX5_lightAt, Cond.instanceMethod yX5_lightAt, Cond.selects RX5 yX5_lightAt yX5_lightAt, Cond.code yX5_lightAt cX5_lightAt 3 (some .int), Cond.methodLink RX0 68 yX0_findRises, Cond.instanceMethod yX0_findRises, Cond.selects RX0 yX0_findRises yX0_findRises]
def wsX7_carryOutOrder_r6 : List Cond := [Cond.code yX0_findRises cX0_findRises 6 none, Cond.fieldLink RX0 18 "LeaningLines$Camera" "rises" "[I", Cond.fieldLink RX0 81 "LeaningLines$Things" "many" "I", Cond.fieldLink RX0 96 "LeaningLines$Things" "brightness" "[I", Cond.fieldLink RX0 99 "LeaningLines$Things" "wide" "[I", Cond.methodLink RX0 86 yX6_isInLine, Cond.instanceMethod yX6_isInLine, Cond.selects RX6 yX6_isInLine yX6_isInLine, Cond.code yX6_isInLine cX6_isInLine 3 (some .boolean), Cond.methodLink RX0 90 yX6_leftAt, Cond.methodLink RX0 93 yX0_nearestEdge, Cond.static yX0_nearestEdge, Cond.code yX0_nearestEdge cX0_nearestEdge 1 (some .int), Cond.methodLink RX0 75 Lib.Math.min.name, Cond.static Lib.Math.min.name, Cond.initialized "java/lang/Math", Cond.code Lib.Math.min.name Lib.Math.min.code 2 (some .int), Cond.methodLink RX0 102 Lib.Math.max.name, Cond.static Lib.Math.max.name, Cond.code Lib.Math.max.name Lib.Math.max.code 2 (some .int), Cond.methodLink RX0 72 yX0_addLight, Cond.instanceMethod yX0_addLight, Cond.selects RX0 yX0_addLight yX0_addLight, Cond.code yX0_addLight cX0_addLight 5 none]
def wsX7_carryOutOrder_r7 : List Cond := [Cond.methodLink RX0 38 yX3_putLine, Cond.instanceMethod yX3_putLine, Cond.selects RX3 yX3_putLine yX3_putLine, Cond.initialized RX3, Cond.code yX3_putLine cX3_putLine 3 none, Cond.fieldLink RX3 9 "LeaningLines$Picture" "pixels" "[I", Cond.methodLink RX3 15 arraycopyName, Cond.native arraycopyName, Cond.static arraycopyName, Cond.initialized "java/lang/System", Cond.methodLink RX0 44 yX5_endOfPicture]
def wsX7_carryOutOrder : List Cond := .code yX7_carryOutOrder cX7_carryOutOrder 2 (some .int) :: ((wsX7_carryOutOrder_r1 ++ (wsX7_carryOutOrder_r2 ++ (wsX7_carryOutOrder_r3 ++ (wsX7_carryOutOrder_r4 ++ (wsX7_carryOutOrder_r5 ++ (wsX7_carryOutOrder_r6 ++ wsX7_carryOutOrder_r7)))))) ++ wsX70 ++ wsX40 ++ wsX50 ++ wsX60 ++ wsX00 ++ wsX30)
def wsX7_carryOut_r1 : List Cond := [Cond.fieldLink RX7 46 "LeaningLines" "reader" "LLeaningLines$Reader;", Cond.fieldLink RX7 26 "LeaningLines" "history" "LLeaningLines$History;", Cond.fieldLink RX7 10 "LeaningLines" "scene" "LLeaningLines$Scene;", Cond.fieldLink RX7 228 "LeaningLines$Reader" "at" "I", Cond.fieldLink RX7 37 "LeaningLines" "pad" "LLeaningLines$Pad;", Cond.fieldLink RX7 194 "LeaningLines$Pad" "length" "I", Cond.methodLink RX7 225 yX4_findFault, Cond.instanceMethod yX4_findFault, Cond.selects RX4 yX4_findFault yX4_findFault, Cond.initialized RX4, Cond.code yX4_findFault cX4_findFault 3 (some .int), Cond.fieldLink RX4 9 "LeaningLines$Reader" "at" "I", Cond.fieldLink RX4 23 "LeaningLines$Reader" "pad" "LLeaningLines$Pad;", Cond.fieldLink RX4 35 "LeaningLines$Pad" "length" "I", Cond.methodLink RX4 27 yX4_readOrder, Cond.instanceMethod yX4_readOrder, Cond.selects RX4 yX4_readOrder yX4_readOrder, Cond.code yX4_readOrder cX4_readOrder 1 (some .boolean), Cond.fieldLink RX4 15 "LeaningLines$Reader" "kind" "C", Cond.methodLink RX4 40 yX2_characterAt, Cond.instanceMethod yX2_characterAt, Cond.selects RX2 yX2_characterAt yX2_characterAt, Cond.initialized RX2, Cond.code yX2_characterAt cX2_characterAt 2 (some .char)]
def wsX7_carryOut_r2 : List Cond := [Cond.fieldLink RX2 15 "LeaningLines$Pad" "length" "I", Cond.fieldLink RX2 9 "LeaningLines$Pad" "text" "[C", Cond.methodLink RX4 31 yX4_take, Cond.instanceMethod yX4_take, Cond.selects RX4 yX4_take yX4_take, Cond.code yX4_take cX4_take 2 (some .boolean), Cond.methodLink RX4 44 yX4_readThing, Cond.instanceMethod yX4_readThing, Cond.selects RX4 yX4_readThing yX4_readThing, Cond.code yX4_readThing cX4_readThing 3 (some .boolean), Cond.fieldLink RX4 19 "LeaningLines$Reader" "values" "[I", Cond.methodLink RX4 47 yX4_readNumber, Cond.instanceMethod yX4_readNumber, Cond.selects RX4 yX4_readNumber yX4_readNumber, Cond.code yX4_readNumber cX4_readNumber 3 (some .boolean), Cond.methodLink RX4 51 yX4_readDigit, Cond.instanceMethod yX4_readDigit, Cond.selects RX4 yX4_readDigit yX4_readDigit, Cond.code yX4_readDigit cX4_readDigit 3 (some .boolean), Cond.methodLink RX4 54 yX4_isDigit, Cond.static yX4_isDigit, Cond.code yX4_isDigit cX4_isDigit 1 (some .boolean), Cond.methodLink RX7 61 yX1_record, Cond.instanceMethod yX1_record]
def wsX7_carryOut_r3 : List Cond := [Cond.selects RX1 yX1_record yX1_record, Cond.initialized RX1, Cond.code yX1_record cX1_record 3 none, Cond.fieldLink RX1 11 "LeaningLines$History" "states" "[LLeaningLines$Scene;", Cond.fieldLink RX1 17 "LeaningLines$History" "next" "I", Cond.classLink RX1 9 RX5, Cond.instantiable RX5 7, Cond.initialized RX5, Cond.fieldLink RX1 21 "LeaningLines$History" "many" "I", Cond.methodLink RX1 29 Lib.Math.min.name, Cond.static Lib.Math.min.name, Cond.initialized "java/lang/Math", Cond.code Lib.Math.min.name Lib.Math.min.code 2 (some .int), Cond.instanceMethod yX5_init, Cond.code yX5_init cX5_init 1 none, Cond.methodLink RX5 3 objectInit, Cond.instanceMethod objectInit, Cond.code objectInit ⟨#[0xb1]⟩ 1 none, Cond.methodLink RX5 13 ⟨"[I", "clone", "()Ljava/lang/Object;"⟩, Cond.sameMethod "[I" "java/lang/Object" "clone" "()Ljava/lang/Object;", Cond.native ⟨"java/lang/Object", "clone", "()Ljava/lang/Object;"⟩, Cond.instanceMethod ⟨"java/lang/Object", "clone", "()Ljava/lang/Object;"⟩, Cond.selects "[I" ⟨"[I", "clone", "()Ljava/lang/Object;"⟩ ⟨"java/lang/Object", "clone", "()Ljava/lang/Object;"⟩, Cond.classLink RX5 14 "[I"]
def wsX7_carryOut_r4 : List Cond := [Cond.fieldLink RX5 18 "LeaningLines$Scene" "settings" "[I", Cond.classLink RX5 23 RX6, Cond.instantiable RX6 10, Cond.initialized RX6, Cond.fieldLink RX5 26 "LeaningLines$Scene" "things" "LLeaningLines$Things;", Cond.classLink RX5 30 RX3, Cond.instantiable RX3 1, Cond.initialized RX3, Cond.fieldLink RX5 33 "LeaningLines$Scene" "picture" "LLeaningLines$Picture;", Cond.fieldLink RX5 37 "LeaningLines$Scene" "time" "I", Cond.fieldLink RX5 41 "LeaningLines$Scene" "pictures" "I", Cond.fieldLink RX5 44 "LeaningLines$Scene" "flashTime" "I", Cond.fieldLink RX5 47 "LeaningLines$Scene" "flashTicks" "I", Cond.instanceMethod yX6_init, Cond.code yX6_init cX6_init 1 none, Cond.methodLink RX6 3 objectInit, Cond.arrayClass .int, Cond.fieldLink RX6 9 "LeaningLines$Things" "line" "[I", Cond.fieldLink RX6 15 "LeaningLines$Things" "high" "[I", Cond.fieldLink RX6 18 "LeaningLines$Things" "wide" "[I", Cond.fieldLink RX6 21 "LeaningLines$Things" "brightness" "[I", Cond.fieldLink RX6 24 "LeaningLines$Things" "speed" "[I", Cond.fieldLink RX6 27 "LeaningLines$Things" "since" "[I", Cond.fieldLink RX6 30 "LeaningLines$Things" "left" "[I"]
def wsX7_carryOut_r5 : List Cond := [Cond.fieldLink RX6 33 "LeaningLines$Things" "under" "[I", Cond.fieldLink RX6 36 "LeaningLines$Things" "underLeft" "[I", Cond.instanceMethod yX3_init, Cond.code yX3_init cX3_init 1 none, Cond.methodLink RX3 3 objectInit, Cond.fieldLink RX3 9 "LeaningLines$Picture" "pixels" "[I", Cond.methodLink RX1 25 yX5_copyFrom, Cond.instanceMethod yX5_copyFrom, Cond.selects RX5 yX5_copyFrom yX5_copyFrom, Cond.code yX5_copyFrom cX5_copyFrom 2 none, Cond.methodLink RX5 58 arraycopyName, Cond.native arraycopyName, Cond.static arraycopyName, Cond.initialized "java/lang/System", Cond.methodLink RX5 64 yX6_copyFrom, Cond.instanceMethod yX6_copyFrom, Cond.selects RX6 yX6_copyFrom yX6_copyFrom, Cond.code yX6_copyFrom cX6_copyFrom 2 none, Cond.fieldLink RX6 39 "LeaningLines$Things" "many" "I", Cond.methodLink RX6 56 arraycopyName, Cond.methodLink RX5 68 yX3_copyFrom, Cond.instanceMethod yX3_copyFrom, Cond.selects RX3 yX3_copyFrom yX3_copyFrom, Cond.code yX3_copyFrom cX3_copyFrom 2 none]
def wsX7_carryOut_r6 : List Cond := [Cond.methodLink RX3 15 arraycopyName, Cond.methodLink RX7 231 yX4_readOrder, Cond.methodLink RX7 235 yX7_carryOutOrder, Cond.instanceMethod yX7_carryOutOrder, Cond.selects RX7 yX7_carryOutOrder yX7_carryOutOrder, Cond.initialized RX7, Cond.code yX7_carryOutOrder cX7_carryOutOrder 2 (some .int), Cond.fieldLink RX7 252 "LeaningLines$Reader" "kind" "C", Cond.fieldLink RX7 19 "LeaningLines" "camera" "LLeaningLines$Camera;", Cond.methodLink RX7 256 yX7_carryOutThing, Cond.instanceMethod yX7_carryOutThing, Cond.selects RX7 yX7_carryOutThing yX7_carryOutThing, Cond.code yX7_carryOutThing cX7_carryOutThing 7 (some .int), Cond.fieldLink RX7 265 "LeaningLines$Reader" "values" "[I", Cond.fieldLink RX7 72 "LeaningLines$Scene" "things" "LLeaningLines$Things;", Cond.fieldLink RX7 176 "LeaningLines$Things" "many" "I", Cond.fieldLink RX7 76 "LeaningLines$Scene" "time" "I", Cond.methodLink RX7 68 yX7_errorOfThing, Cond.instanceMethod yX7_errorOfThing, Cond.selects RX7 yX7_errorOfThing yX7_errorOfThing, Cond.code yX7_errorOfThing cX7_errorOfThing 6 (some .int), Cond.methodLink RX7 156 yX7_isPlace, Cond.static yX7_isPlace, Cond.code yX7_isPlace cX7_isPlace 2 (some .boolean)]
def wsX7_carryOut_r7 : List Cond := [Cond.methodLink RX7 50 yX7_within, Cond.static yX7_within, Cond.code yX7_within cX7_within 3 (some .boolean), Cond.methodLink RX7 90 yX7_isSpeed, Cond.static yX7_isSpeed, Cond.code yX7_isSpeed cX7_isSpeed 1 (some .boolean), Cond.methodLink RX7 103 yX7_canRide, Cond.static yX7_canRide, Cond.code yX7_canRide cX7_canRide 2 (some .boolean), Cond.methodLink RX7 80 yX6_add, Cond.instanceMethod yX6_add, Cond.selects RX6 yX6_add yX6_add, Cond.code yX6_add cX6_add 8 (some .int), Cond.methodLink RX7 99 yX6_comeAnew, Cond.instanceMethod yX6_comeAnew, Cond.selects RX6 yX6_comeAnew yX6_comeAnew, Cond.code yX6_comeAnew cX6_comeAnew 5 none, Cond.methodLink RX6 43 yX6_leftAt, Cond.instanceMethod yX6_leftAt, Cond.selects RX6 yX6_leftAt yX6_leftAt, Cond.code yX6_leftAt cX6_leftAt 6 (some .int), Cond.methodLink RX6 47 yJ9_floorDiv_7cf53, Cond.static yJ9_floorDiv_7cf53, Cond.initialized RJ9]
def wsX7_carryOut_r8 : List Cond := [Cond.code yJ9_floorDiv_7cf53 cJ9_floorDiv_7cf53 3 (some .int), Cond.methodLink RX7 259 yX7_carryOutFlash, Cond.instanceMethod yX7_carryOutFlash, Cond.selects RX7 yX7_carryOutFlash yX7_carryOutFlash, Cond.code yX7_carryOutFlash cX7_carryOutFlash 4 (some .int), Cond.methodLink RX7 107 yX7_errorOfFlash, Cond.instanceMethod yX7_errorOfFlash, Cond.selects RX7 yX7_errorOfFlash yX7_errorOfFlash, Cond.code yX7_errorOfFlash cX7_errorOfFlash 3 (some .int), Cond.methodLink RX7 111 yX5_setFlash, Cond.instanceMethod yX5_setFlash, Cond.selects RX5 yX5_setFlash yX5_setFlash, Cond.code yX5_setFlash cX5_setFlash 3 none, Cond.methodLink RX7 262 yX7_carryOutPass, Cond.instanceMethod yX7_carryOutPass, Cond.selects RX7 yX7_carryOutPass yX7_carryOutPass, Cond.code yX7_carryOutPass cX7_carryOutPass 3 (some .int), Cond.methodLink RX7 118 yX7_errorOfPass, Cond.instanceMethod yX7_errorOfPass, Cond.selects RX7 yX7_errorOfPass yX7_errorOfPass, Cond.code yX7_errorOfPass cX7_errorOfPass 2 (some .int), Cond.methodLink RX7 122 yX7_errorOfShoot, Cond.instanceMethod yX7_errorOfShoot, Cond.selects RX7 yX7_errorOfShoot yX7_errorOfShoot]
def wsX7_carryOut_r9 : List Cond := [Cond.code yX7_errorOfShoot cX7_errorOfShoot 1 (some .int), Cond.methodLink RX7 249 yX5_endOfPicture, Cond.instanceMethod yX5_endOfPicture, Cond.selects RX5 yX5_endOfPicture yX5_endOfPicture, Cond.code yX5_endOfPicture cX5_endOfPicture 1 (some .int), Cond.methodLink RX5 50 yX5_beginOf, Cond.instanceMethod yX5_beginOf, Cond.selects RX5 yX5_beginOf yX5_beginOf, Cond.code yX5_beginOf cX5_beginOf 2 (some .int), Cond.methodLink RX7 126 yX0_takePicture, Cond.instanceMethod yX0_takePicture, Cond.selects RX0 yX0_takePicture yX0_takePicture, Cond.initialized RX0, Cond.code yX0_takePicture cX0_takePicture 3 none, Cond.fieldLink RX0 27 "LeaningLines$Scene" "settings" "[I", Cond.fieldLink RX0 9 "LeaningLines$Camera" "leaning" "[I", Cond.fieldLink RX0 34 "LeaningLines$Scene" "picture" "LLeaningLines$Picture;", Cond.fieldLink RX0 48 "LeaningLines$Scene" "time" "I", Cond.fieldLink RX0 52 "LeaningLines$Scene" "pictures" "I", Cond.methodLink RX0 21 yX5_beginOf, Cond.methodLink RX0 30 yX0_exposeLine, Cond.instanceMethod yX0_exposeLine, Cond.selects RX0 yX0_exposeLine yX0_exposeLine, Cond.code yX0_exposeLine cX0_exposeLine 8 none]
def wsX7_carryOut_r10 : List Cond := [Cond.fieldLink RX0 64 "LeaningLines$Scene" "things" "LLeaningLines$Things;", Cond.methodLink RX0 55 yJ7_fill_53178, Cond.static yJ7_fill_53178, Cond.initialized RJ7, Cond.code yJ7_fill_53178 cJ7_fill_53178 4 none, Cond.methodLink RX0 61 yX5_lightAt, Cond.instanceMethod yX5_lightAt, Cond.selects RX5 yX5_lightAt yX5_lightAt, Cond.code yX5_lightAt cX5_lightAt 3 (some .int), Cond.methodLink RX0 68 yX0_findRises, Cond.instanceMethod yX0_findRises, Cond.selects RX0 yX0_findRises yX0_findRises, Cond.code yX0_findRises cX0_findRises 6 none, Cond.fieldLink RX0 18 "LeaningLines$Camera" "rises" "[I", Cond.fieldLink RX0 81 "LeaningLines$Things" "many" "I", Cond.fieldLink RX0 96 "LeaningLines$Things" "brightness" "[I", Cond.fieldLink RX0 99 "LeaningLines$Things" "wide" "[I", Cond.methodLink RX0 86 yX6_isInLine, Cond.instanceMethod yX6_isInLine, Cond.selects RX6 yX6_isInLine yX6_isInLine, Cond.code yX6_isInLine cX6_isInLine 3 (some .boolean), Cond.methodLink RX0 90 yX6_leftAt, Cond.methodLink RX0 93 yX0_nearestEdge, Cond.static yX0_nearestEdge]
def wsX7_carryOut_r11 : List Cond := [Cond.code yX0_nearestEdge cX0_nearestEdge 1 (some .int), Cond.methodLink RX0 75 Lib.Math.min.name, Cond.methodLink RX0 102 Lib.Math.max.name, Cond.static Lib.Math.max.name, Cond.code Lib.Math.max.name Lib.Math.max.code 2 (some .int), Cond.methodLink RX0 72 yX0_addLight, Cond.instanceMethod yX0_addLight, Cond.selects RX0 yX0_addLight yX0_addLight, Cond.code yX0_addLight cX0_addLight 5 none, Cond.methodLink RX0 38 yX3_putLine, Cond.instanceMethod yX3_putLine, Cond.selects RX3 yX3_putLine yX3_putLine, Cond.code yX3_putLine cX3_putLine 3 none, Cond.methodLink RX0 44 yX5_endOfPicture, Cond.methodLink RX7 238 yX4_take]
def wsX7_carryOut : List Cond := .code yX7_carryOut cX7_carryOut 4 (some .int) :: ((wsX7_carryOut_r1 ++ (wsX7_carryOut_r2 ++ (wsX7_carryOut_r3 ++ (wsX7_carryOut_r4 ++ (wsX7_carryOut_r5 ++ (wsX7_carryOut_r6 ++ (wsX7_carryOut_r7 ++ (wsX7_carryOut_r8 ++ (wsX7_carryOut_r9 ++ (wsX7_carryOut_r10 ++ wsX7_carryOut_r11)))))))))) ++ wsX70 ++ wsX40 ++ wsX20 ++ wsX10 ++ wsX50 ++ wsX60 ++ wsX30 ++ wsX00)
def wsX7_undo_r1 : List Cond := [Cond.fieldLink RX7 26 "LeaningLines" "history" "LLeaningLines$History;", Cond.fieldLink RX7 10 "LeaningLines" "scene" "LLeaningLines$Scene;", Cond.fieldLink RX7 197 "LeaningLines$History" "many" "I", Cond.methodLink RX7 242 yX1_takeBack, Cond.instanceMethod yX1_takeBack, Cond.selects RX1 yX1_takeBack yX1_takeBack, Cond.initialized RX1, Cond.code yX1_takeBack cX1_takeBack 4 (some .boolean), Cond.fieldLink RX1 17 "LeaningLines$History" "next" "I", Cond.fieldLink RX1 11 "LeaningLines$History" "states" "[LLeaningLines$Scene;", Cond.fieldLink RX1 21 "LeaningLines$History" "many" "I", Cond.methodLink RX1 25 yX5_copyFrom, Cond.instanceMethod yX5_copyFrom, Cond.selects RX5 yX5_copyFrom yX5_copyFrom, Cond.initialized RX5, Cond.code yX5_copyFrom cX5_copyFrom 2 none, Cond.fieldLink RX5 18 "LeaningLines$Scene" "settings" "[I", Cond.methodLink RX5 58 arraycopyName, Cond.native arraycopyName, Cond.static arraycopyName, Cond.initialized "java/lang/System", Cond.fieldLink RX5 26 "LeaningLines$Scene" "things" "LLeaningLines$Things;", Cond.fieldLink RX5 33 "LeaningLines$Scene" "picture" "LLeaningLines$Picture;", Cond.fieldLink RX5 37 "LeaningLines$Scene" "time" "I"]
def wsX7_undo_r2 : List Cond := [Cond.fieldLink RX5 41 "LeaningLines$Scene" "pictures" "I", Cond.fieldLink RX5 44 "LeaningLines$Scene" "flashTime" "I", Cond.fieldLink RX5 47 "LeaningLines$Scene" "flashTicks" "I", Cond.methodLink RX5 64 yX6_copyFrom, Cond.instanceMethod yX6_copyFrom, Cond.selects RX6 yX6_copyFrom yX6_copyFrom, Cond.initialized RX6, Cond.code yX6_copyFrom cX6_copyFrom 2 none, Cond.fieldLink RX6 39 "LeaningLines$Things" "many" "I", Cond.fieldLink RX6 9 "LeaningLines$Things" "line" "[I", Cond.methodLink RX6 56 arraycopyName, Cond.fieldLink RX6 15 "LeaningLines$Things" "high" "[I", Cond.fieldLink RX6 18 "LeaningLines$Things" "wide" "[I", Cond.fieldLink RX6 21 "LeaningLines$Things" "brightness" "[I", Cond.fieldLink RX6 24 "LeaningLines$Things" "speed" "[I", Cond.fieldLink RX6 27 "LeaningLines$Things" "since" "[I", Cond.fieldLink RX6 30 "LeaningLines$Things" "left" "[I", Cond.fieldLink RX6 33 "LeaningLines$Things" "under" "[I", Cond.fieldLink RX6 36 "LeaningLines$Things" "underLeft" "[I", Cond.methodLink RX5 68 yX3_copyFrom, Cond.instanceMethod yX3_copyFrom, Cond.selects RX3 yX3_copyFrom yX3_copyFrom, Cond.initialized RX3, Cond.code yX3_copyFrom cX3_copyFrom 2 none]
def wsX7_undo_r3 : List Cond := [Cond.fieldLink RX3 9 "LeaningLines$Picture" "pixels" "[I", Cond.methodLink RX3 15 arraycopyName]
def wsX7_undo : List Cond := .code yX7_undo cX7_undo 1 (some .int) :: ((wsX7_undo_r1 ++ (wsX7_undo_r2 ++ wsX7_undo_r3)) ++ wsX70 ++ wsX10 ++ wsX50 ++ wsX60 ++ wsX30)
def wsX7_save_r1 : List Cond := [Cond.fieldLink RX7 30 "LeaningLines" "slots" "[LLeaningLines$Scene;", Cond.classLink RX7 7 RX5, Cond.instantiable RX5 7, Cond.initialized RX5, Cond.fieldLink RX7 10 "LeaningLines" "scene" "LLeaningLines$Scene;", Cond.fieldLink RX7 72 "LeaningLines$Scene" "things" "LLeaningLines$Things;", Cond.fieldLink RX7 176 "LeaningLines$Things" "many" "I", Cond.methodLink RX7 50 yX7_within, Cond.static yX7_within, Cond.initialized RX7, Cond.code yX7_within cX7_within 3 (some .boolean), Cond.instanceMethod yX5_init, Cond.code yX5_init cX5_init 1 none, Cond.methodLink RX5 3 objectInit, Cond.instanceMethod objectInit, Cond.code objectInit ⟨#[0xb1]⟩ 1 none, Cond.methodLink RX5 13 ⟨"[I", "clone", "()Ljava/lang/Object;"⟩, Cond.sameMethod "[I" "java/lang/Object" "clone" "()Ljava/lang/Object;", Cond.native ⟨"java/lang/Object", "clone", "()Ljava/lang/Object;"⟩, Cond.instanceMethod ⟨"java/lang/Object", "clone", "()Ljava/lang/Object;"⟩, Cond.selects "[I" ⟨"[I", "clone", "()Ljava/lang/Object;"⟩ ⟨"java/lang/Object", "clone", "()Ljava/lang/Object;"⟩, Cond.classLink RX5 14 "[I", Cond.fieldLink RX5 18 "LeaningLines$Scene" "settings" "[I", Cond.classLink RX5 23 RX6]
def wsX7_save_r2 : List Cond := [Cond.instantiable RX6 10, Cond.initialized RX6, Cond.fieldLink RX5 26 "LeaningLines$Scene" "things" "LLeaningLines$Things;", Cond.classLink RX5 30 RX3, Cond.instantiable RX3 1, Cond.initialized RX3, Cond.fieldLink RX5 33 "LeaningLines$Scene" "picture" "LLeaningLines$Picture;", Cond.fieldLink RX5 37 "LeaningLines$Scene" "time" "I", Cond.fieldLink RX5 41 "LeaningLines$Scene" "pictures" "I", Cond.fieldLink RX5 44 "LeaningLines$Scene" "flashTime" "I", Cond.fieldLink RX5 47 "LeaningLines$Scene" "flashTicks" "I", Cond.instanceMethod yX6_init, Cond.code yX6_init cX6_init 1 none, Cond.methodLink RX6 3 objectInit, Cond.arrayClass .int, Cond.fieldLink RX6 9 "LeaningLines$Things" "line" "[I", Cond.fieldLink RX6 15 "LeaningLines$Things" "high" "[I", Cond.fieldLink RX6 18 "LeaningLines$Things" "wide" "[I", Cond.fieldLink RX6 21 "LeaningLines$Things" "brightness" "[I", Cond.fieldLink RX6 24 "LeaningLines$Things" "speed" "[I", Cond.fieldLink RX6 27 "LeaningLines$Things" "since" "[I", Cond.fieldLink RX6 30 "LeaningLines$Things" "left" "[I", Cond.fieldLink RX6 33 "LeaningLines$Things" "under" "[I", Cond.fieldLink RX6 36 "LeaningLines$Things" "underLeft" "[I"]
def wsX7_save_r3 : List Cond := [Cond.instanceMethod yX3_init, Cond.code yX3_init cX3_init 1 none, Cond.methodLink RX3 3 objectInit, Cond.fieldLink RX3 9 "LeaningLines$Picture" "pixels" "[I", Cond.methodLink RX7 246 yX5_copyFrom, Cond.instanceMethod yX5_copyFrom, Cond.selects RX5 yX5_copyFrom yX5_copyFrom, Cond.code yX5_copyFrom cX5_copyFrom 2 none, Cond.methodLink RX5 58 arraycopyName, Cond.native arraycopyName, Cond.static arraycopyName, Cond.initialized "java/lang/System", Cond.methodLink RX5 64 yX6_copyFrom, Cond.instanceMethod yX6_copyFrom, Cond.selects RX6 yX6_copyFrom yX6_copyFrom, Cond.code yX6_copyFrom cX6_copyFrom 2 none, Cond.fieldLink RX6 39 "LeaningLines$Things" "many" "I", Cond.methodLink RX6 56 arraycopyName, Cond.methodLink RX5 68 yX3_copyFrom, Cond.instanceMethod yX3_copyFrom, Cond.selects RX3 yX3_copyFrom yX3_copyFrom, Cond.code yX3_copyFrom cX3_copyFrom 2 none, Cond.methodLink RX3 15 arraycopyName]
def wsX7_save : List Cond := .code yX7_save cX7_save 3 (some .int) :: ((wsX7_save_r1 ++ (wsX7_save_r2 ++ wsX7_save_r3)) ++ wsX70 ++ wsX50 ++ wsX60 ++ wsX30)
def wsX7_restore_r1 : List Cond := [Cond.fieldLink RX7 30 "LeaningLines" "slots" "[LLeaningLines$Scene;", Cond.fieldLink RX7 26 "LeaningLines" "history" "LLeaningLines$History;", Cond.fieldLink RX7 10 "LeaningLines" "scene" "LLeaningLines$Scene;", Cond.fieldLink RX7 72 "LeaningLines$Scene" "things" "LLeaningLines$Things;", Cond.fieldLink RX7 176 "LeaningLines$Things" "many" "I", Cond.methodLink RX7 50 yX7_within, Cond.static yX7_within, Cond.initialized RX7, Cond.code yX7_within cX7_within 3 (some .boolean), Cond.methodLink RX7 61 yX1_record, Cond.instanceMethod yX1_record, Cond.selects RX1 yX1_record yX1_record, Cond.initialized RX1, Cond.code yX1_record cX1_record 3 none, Cond.fieldLink RX1 11 "LeaningLines$History" "states" "[LLeaningLines$Scene;", Cond.fieldLink RX1 17 "LeaningLines$History" "next" "I", Cond.classLink RX1 9 RX5, Cond.instantiable RX5 7, Cond.initialized RX5, Cond.fieldLink RX1 21 "LeaningLines$History" "many" "I", Cond.methodLink RX1 29 Lib.Math.min.name, Cond.static Lib.Math.min.name, Cond.initialized "java/lang/Math", Cond.code Lib.Math.min.name Lib.Math.min.code 2 (some .int)]
def wsX7_restore_r2 : List Cond := [Cond.instanceMethod yX5_init, Cond.code yX5_init cX5_init 1 none, Cond.methodLink RX5 3 objectInit, Cond.instanceMethod objectInit, Cond.code objectInit ⟨#[0xb1]⟩ 1 none, Cond.methodLink RX5 13 ⟨"[I", "clone", "()Ljava/lang/Object;"⟩, Cond.sameMethod "[I" "java/lang/Object" "clone" "()Ljava/lang/Object;", Cond.native ⟨"java/lang/Object", "clone", "()Ljava/lang/Object;"⟩, Cond.instanceMethod ⟨"java/lang/Object", "clone", "()Ljava/lang/Object;"⟩, Cond.selects "[I" ⟨"[I", "clone", "()Ljava/lang/Object;"⟩ ⟨"java/lang/Object", "clone", "()Ljava/lang/Object;"⟩, Cond.classLink RX5 14 "[I", Cond.fieldLink RX5 18 "LeaningLines$Scene" "settings" "[I", Cond.classLink RX5 23 RX6, Cond.instantiable RX6 10, Cond.initialized RX6, Cond.fieldLink RX5 26 "LeaningLines$Scene" "things" "LLeaningLines$Things;", Cond.classLink RX5 30 RX3, Cond.instantiable RX3 1, Cond.initialized RX3, Cond.fieldLink RX5 33 "LeaningLines$Scene" "picture" "LLeaningLines$Picture;", Cond.fieldLink RX5 37 "LeaningLines$Scene" "time" "I", Cond.fieldLink RX5 41 "LeaningLines$Scene" "pictures" "I", Cond.fieldLink RX5 44 "LeaningLines$Scene" "flashTime" "I", Cond.fieldLink RX5 47 "LeaningLines$Scene" "flashTicks" "I"]
def wsX7_restore_r3 : List Cond := [Cond.instanceMethod yX6_init, Cond.code yX6_init cX6_init 1 none, Cond.methodLink RX6 3 objectInit, Cond.arrayClass .int, Cond.fieldLink RX6 9 "LeaningLines$Things" "line" "[I", Cond.fieldLink RX6 15 "LeaningLines$Things" "high" "[I", Cond.fieldLink RX6 18 "LeaningLines$Things" "wide" "[I", Cond.fieldLink RX6 21 "LeaningLines$Things" "brightness" "[I", Cond.fieldLink RX6 24 "LeaningLines$Things" "speed" "[I", Cond.fieldLink RX6 27 "LeaningLines$Things" "since" "[I", Cond.fieldLink RX6 30 "LeaningLines$Things" "left" "[I", Cond.fieldLink RX6 33 "LeaningLines$Things" "under" "[I", Cond.fieldLink RX6 36 "LeaningLines$Things" "underLeft" "[I", Cond.instanceMethod yX3_init, Cond.code yX3_init cX3_init 1 none, Cond.methodLink RX3 3 objectInit, Cond.fieldLink RX3 9 "LeaningLines$Picture" "pixels" "[I", Cond.methodLink RX1 25 yX5_copyFrom, Cond.instanceMethod yX5_copyFrom, Cond.selects RX5 yX5_copyFrom yX5_copyFrom, Cond.code yX5_copyFrom cX5_copyFrom 2 none, Cond.methodLink RX5 58 arraycopyName, Cond.native arraycopyName, Cond.static arraycopyName]
def wsX7_restore_r4 : List Cond := [Cond.initialized "java/lang/System", Cond.methodLink RX5 64 yX6_copyFrom, Cond.instanceMethod yX6_copyFrom, Cond.selects RX6 yX6_copyFrom yX6_copyFrom, Cond.code yX6_copyFrom cX6_copyFrom 2 none, Cond.fieldLink RX6 39 "LeaningLines$Things" "many" "I", Cond.methodLink RX6 56 arraycopyName, Cond.methodLink RX5 68 yX3_copyFrom, Cond.instanceMethod yX3_copyFrom, Cond.selects RX3 yX3_copyFrom yX3_copyFrom, Cond.code yX3_copyFrom cX3_copyFrom 2 none, Cond.methodLink RX3 15 arraycopyName, Cond.methodLink RX7 246 yX5_copyFrom]
def wsX7_restore : List Cond := .code yX7_restore cX7_restore 3 (some .int) :: ((wsX7_restore_r1 ++ (wsX7_restore_r2 ++ (wsX7_restore_r3 ++ wsX7_restore_r4))) ++ wsX70 ++ wsX50 ++ wsX60 ++ wsX10 ++ wsX30)
def wsX8_init : List Cond := .code yX8_init cX8_init 1 none :: ([.methodLink RX8 1 objectInit, .instanceMethod objectInit, .code objectInit ⟨#[0xb1]⟩ 1 none, .arrayClass .int, .fieldLink RX8 7 "LeaningLinesModel" "s" "[I", .fieldLink RX8 13 "LeaningLinesModel" "past" "[I", .fieldLink RX8 16 "LeaningLinesModel" "slots" "[I", .arrayClass .boolean, .fieldLink RX8 19 "LeaningLinesModel" "isSaved" "[Z", .fieldLink RX8 23 "LeaningLinesModel" "pad" "[I"] ++ wsX80)
def wsX8_in : List Cond := .code yX8_in cX8_in 3 (some .boolean) :: ([])
def wsX8_remembers : List Cond := .code yX8_remembers cX8_remembers 2 none :: ([.fieldLink RX8 26 "LeaningLinesModel" "known" "I", .fieldLink RX8 13 "LeaningLinesModel" "past" "[I", .fieldLink RX8 7 "LeaningLinesModel" "s" "[I"] ++ wsX80)
def wsX8_isThing : List Cond := .code yX8_isThing cX8_isThing 2 (some .boolean) :: ([.fieldLink RX8 7 "LeaningLinesModel" "s" "[I", .methodLink RX8 30 yX8_in, .static yX8_in, .initialized RX8, .code yX8_in cX8_in 3 (some .boolean)] ++ wsX80)
def wsX8_its : List Cond := .code yX8_its cX8_its 3 (some .int) :: ([.fieldLink RX8 7 "LeaningLinesModel" "s" "[I"] ++ wsX80)
def wsX8_tenth : List Cond := .code yX8_tenth cX8_tenth 1 (some .int) :: ([])
def wsX8_left : List Cond := .code yX8_left cX8_left 5 (some .int) :: ([.methodLink RX8 34 yX8_its, .instanceMethod yX8_its, .selects RX8 yX8_its yX8_its, .initialized RX8, .code yX8_its cX8_its 3 (some .int), .fieldLink RX8 7 "LeaningLinesModel" "s" "[I", .methodLink RX8 38 yX8_tenth, .static yX8_tenth, .code yX8_tenth cX8_tenth 1 (some .int)] ++ wsX80)
def wsX8_anew : List Cond := .code yX8_anew cX8_anew 5 none :: ([.fieldLink RX8 7 "LeaningLinesModel" "s" "[I", .methodLink RX8 42 yX8_left, .instanceMethod yX8_left, .selects RX8 yX8_left yX8_left, .initialized RX8, .code yX8_left cX8_left 5 (some .int), .methodLink RX8 34 yX8_its, .instanceMethod yX8_its, .selects RX8 yX8_its yX8_its, .code yX8_its cX8_its 3 (some .int), .methodLink RX8 38 yX8_tenth, .static yX8_tenth, .code yX8_tenth cX8_tenth 1 (some .int)] ++ wsX80)
def wsX8_covers : List Cond := .code yX8_covers cX8_covers 6 (some .boolean) :: ([.methodLink RX8 34 yX8_its, .instanceMethod yX8_its, .selects RX8 yX8_its yX8_its, .initialized RX8, .code yX8_its cX8_its 3 (some .int), .fieldLink RX8 7 "LeaningLinesModel" "s" "[I", .methodLink RX8 30 yX8_in, .static yX8_in, .code yX8_in cX8_in 3 (some .boolean), .methodLink RX8 42 yX8_left, .instanceMethod yX8_left, .selects RX8 yX8_left yX8_left, .code yX8_left cX8_left 5 (some .int), .methodLink RX8 38 yX8_tenth, .static yX8_tenth, .code yX8_tenth cX8_tenth 1 (some .int)] ++ wsX80)
def wsX8_burns : List Cond := .code yX8_burns cX8_burns 2 (some .boolean) :: ([.fieldLink RX8 7 "LeaningLinesModel" "s" "[I", .methodLink RX8 30 yX8_in, .static yX8_in, .initialized RX8, .code yX8_in cX8_in 3 (some .boolean)] ++ wsX80)
def wsX8_light : List Cond := .code yX8_light cX8_light 3 (some .int) :: ([.fieldLink RX8 7 "LeaningLinesModel" "s" "[I", .methodLink RX8 45 yX8_burns, .instanceMethod yX8_burns, .selects RX8 yX8_burns yX8_burns, .initialized RX8, .code yX8_burns cX8_burns 2 (some .boolean), .methodLink RX8 30 yX8_in, .static yX8_in, .code yX8_in cX8_in 3 (some .boolean)] ++ wsX80)
def wsX8_seenAt_r1 : List Cond := [Cond.fieldLink RX8 7 "LeaningLinesModel" "s" "[I", Cond.methodLink RX8 49 yX8_covers, Cond.instanceMethod yX8_covers, Cond.selects RX8 yX8_covers yX8_covers, Cond.initialized RX8, Cond.code yX8_covers cX8_covers 6 (some .boolean), Cond.methodLink RX8 34 yX8_its, Cond.instanceMethod yX8_its, Cond.selects RX8 yX8_its yX8_its, Cond.code yX8_its cX8_its 3 (some .int), Cond.methodLink RX8 30 yX8_in, Cond.static yX8_in, Cond.code yX8_in cX8_in 3 (some .boolean), Cond.methodLink RX8 42 yX8_left, Cond.instanceMethod yX8_left, Cond.selects RX8 yX8_left yX8_left, Cond.code yX8_left cX8_left 5 (some .int), Cond.methodLink RX8 38 yX8_tenth, Cond.static yX8_tenth, Cond.code yX8_tenth cX8_tenth 1 (some .int), Cond.methodLink RX8 53 yX8_light, Cond.instanceMethod yX8_light, Cond.selects RX8 yX8_light yX8_light, Cond.code yX8_light cX8_light 3 (some .int)]
def wsX8_seenAt_r2 : List Cond := [Cond.methodLink RX8 45 yX8_burns, Cond.instanceMethod yX8_burns, Cond.selects RX8 yX8_burns yX8_burns, Cond.code yX8_burns cX8_burns 2 (some .boolean)]
def wsX8_seenAt : List Cond := .code yX8_seenAt cX8_seenAt 6 (some .int) :: ((wsX8_seenAt_r1 ++ wsX8_seenAt_r2) ++ wsX80)
def wsX8_exposed_r1 : List Cond := [Cond.fieldLink RX8 7 "LeaningLinesModel" "s" "[I", Cond.methodLink RX8 56 yX8_seenAt, Cond.instanceMethod yX8_seenAt, Cond.selects RX8 yX8_seenAt yX8_seenAt, Cond.initialized RX8, Cond.code yX8_seenAt cX8_seenAt 6 (some .int), Cond.methodLink RX8 49 yX8_covers, Cond.instanceMethod yX8_covers, Cond.selects RX8 yX8_covers yX8_covers, Cond.code yX8_covers cX8_covers 6 (some .boolean), Cond.methodLink RX8 34 yX8_its, Cond.instanceMethod yX8_its, Cond.selects RX8 yX8_its yX8_its, Cond.code yX8_its cX8_its 3 (some .int), Cond.methodLink RX8 30 yX8_in, Cond.static yX8_in, Cond.code yX8_in cX8_in 3 (some .boolean), Cond.methodLink RX8 42 yX8_left, Cond.instanceMethod yX8_left, Cond.selects RX8 yX8_left yX8_left, Cond.code yX8_left cX8_left 5 (some .int), Cond.methodLink RX8 38 yX8_tenth, Cond.static yX8_tenth, Cond.code yX8_tenth cX8_tenth 1 (some .int)]
def wsX8_exposed_r2 : List Cond := [Cond.methodLink RX8 53 yX8_light, Cond.instanceMethod yX8_light, Cond.selects RX8 yX8_light yX8_light, Cond.code yX8_light cX8_light 3 (some .int), Cond.methodLink RX8 45 yX8_burns, Cond.instanceMethod yX8_burns, Cond.selects RX8 yX8_burns yX8_burns, Cond.code yX8_burns cX8_burns 2 (some .boolean)]
def wsX8_exposed : List Cond := .code yX8_exposed cX8_exposed 6 (some .int) :: ((wsX8_exposed_r1 ++ wsX8_exposed_r2) ++ wsX80)
def wsX8_set : List Cond := .code yX8_set cX8_set 5 (some .int) :: ([.fieldLink RX8 7 "LeaningLinesModel" "s" "[I", .methodLink RX8 30 yX8_in, .static yX8_in, .initialized RX8, .code yX8_in cX8_in 3 (some .boolean), .methodLink RX8 60 yX8_remembers, .instanceMethod yX8_remembers, .selects RX8 yX8_remembers yX8_remembers, .code yX8_remembers cX8_remembers 2 none, .fieldLink RX8 26 "LeaningLinesModel" "known" "I", .fieldLink RX8 13 "LeaningLinesModel" "past" "[I"] ++ wsX80)
def wsX8_whyNotThing : List Cond := .code yX8_whyNotThing cX8_whyNotThing 7 (some .int) :: ([.fieldLink RX8 7 "LeaningLinesModel" "s" "[I", .methodLink RX8 30 yX8_in, .static yX8_in, .initialized RX8, .code yX8_in cX8_in 3 (some .boolean)] ++ wsX80)
def wsX8_comes : List Cond := .code yX8_comes cX8_comes 7 (some .int) :: ([.fieldLink RX8 7 "LeaningLinesModel" "s" "[I"] ++ wsX80)
def wsX8_thing : List Cond := .code yX8_thing cX8_thing 7 (some .int) :: ([.methodLink RX8 63 yX8_whyNotThing, .instanceMethod yX8_whyNotThing, .selects RX8 yX8_whyNotThing yX8_whyNotThing, .initialized RX8, .code yX8_whyNotThing cX8_whyNotThing 7 (some .int), .fieldLink RX8 7 "LeaningLinesModel" "s" "[I", .methodLink RX8 30 yX8_in, .static yX8_in, .code yX8_in cX8_in 3 (some .boolean), .methodLink RX8 60 yX8_remembers, .instanceMethod yX8_remembers, .selects RX8 yX8_remembers yX8_remembers, .code yX8_remembers cX8_remembers 2 none, .fieldLink RX8 26 "LeaningLinesModel" "known" "I", .fieldLink RX8 13 "LeaningLinesModel" "past" "[I", .methodLink RX8 67 yX8_comes, .instanceMethod yX8_comes, .selects RX8 yX8_comes yX8_comes, .code yX8_comes cX8_comes 7 (some .int)] ++ wsX80)
def wsX8_speed_r1 : List Cond := [Cond.methodLink RX8 70 yX8_isThing, Cond.instanceMethod yX8_isThing, Cond.selects RX8 yX8_isThing yX8_isThing, Cond.initialized RX8, Cond.code yX8_isThing cX8_isThing 2 (some .boolean), Cond.fieldLink RX8 7 "LeaningLinesModel" "s" "[I", Cond.methodLink RX8 30 yX8_in, Cond.static yX8_in, Cond.code yX8_in cX8_in 3 (some .boolean), Cond.methodLink RX8 60 yX8_remembers, Cond.instanceMethod yX8_remembers, Cond.selects RX8 yX8_remembers yX8_remembers, Cond.code yX8_remembers cX8_remembers 2 none, Cond.fieldLink RX8 26 "LeaningLinesModel" "known" "I", Cond.fieldLink RX8 13 "LeaningLinesModel" "past" "[I", Cond.methodLink RX8 34 yX8_its, Cond.instanceMethod yX8_its, Cond.selects RX8 yX8_its yX8_its, Cond.code yX8_its cX8_its 3 (some .int), Cond.methodLink RX8 73 yX8_anew, Cond.instanceMethod yX8_anew, Cond.selects RX8 yX8_anew yX8_anew, Cond.code yX8_anew cX8_anew 5 none, Cond.methodLink RX8 42 yX8_left]
def wsX8_speed_r2 : List Cond := [Cond.instanceMethod yX8_left, Cond.selects RX8 yX8_left yX8_left, Cond.code yX8_left cX8_left 5 (some .int), Cond.methodLink RX8 38 yX8_tenth, Cond.static yX8_tenth, Cond.code yX8_tenth cX8_tenth 1 (some .int)]
def wsX8_speed : List Cond := .code yX8_speed cX8_speed 4 (some .int) :: ((wsX8_speed_r1 ++ wsX8_speed_r2) ++ wsX80)
def wsX8_ride_r1 : List Cond := [Cond.methodLink RX8 70 yX8_isThing, Cond.instanceMethod yX8_isThing, Cond.selects RX8 yX8_isThing yX8_isThing, Cond.initialized RX8, Cond.code yX8_isThing cX8_isThing 2 (some .boolean), Cond.fieldLink RX8 7 "LeaningLinesModel" "s" "[I", Cond.methodLink RX8 30 yX8_in, Cond.static yX8_in, Cond.code yX8_in cX8_in 3 (some .boolean), Cond.methodLink RX8 60 yX8_remembers, Cond.instanceMethod yX8_remembers, Cond.selects RX8 yX8_remembers yX8_remembers, Cond.code yX8_remembers cX8_remembers 2 none, Cond.fieldLink RX8 26 "LeaningLinesModel" "known" "I", Cond.fieldLink RX8 13 "LeaningLinesModel" "past" "[I", Cond.methodLink RX8 34 yX8_its, Cond.instanceMethod yX8_its, Cond.selects RX8 yX8_its yX8_its, Cond.code yX8_its cX8_its 3 (some .int), Cond.methodLink RX8 73 yX8_anew, Cond.instanceMethod yX8_anew, Cond.selects RX8 yX8_anew yX8_anew, Cond.code yX8_anew cX8_anew 5 none, Cond.methodLink RX8 42 yX8_left]
def wsX8_ride_r2 : List Cond := [Cond.instanceMethod yX8_left, Cond.selects RX8 yX8_left yX8_left, Cond.code yX8_left cX8_left 5 (some .int), Cond.methodLink RX8 38 yX8_tenth, Cond.static yX8_tenth, Cond.code yX8_tenth cX8_tenth 1 (some .int)]
def wsX8_ride : List Cond := .code yX8_ride cX8_ride 4 (some .int) :: ((wsX8_ride_r1 ++ wsX8_ride_r2) ++ wsX80)
def wsX8_isFlash : List Cond := .code yX8_isFlash cX8_isFlash 2 (some .boolean) :: ([.methodLink RX8 30 yX8_in, .static yX8_in, .initialized RX8, .code yX8_in cX8_in 3 (some .boolean)])
def wsX8_flashes : List Cond := .code yX8_flashes cX8_flashes 3 (some .int) :: ([.fieldLink RX8 7 "LeaningLinesModel" "s" "[I"] ++ wsX80)
def wsX8_flash : List Cond := .code yX8_flash cX8_flash 3 (some .int) :: ([.methodLink RX8 77 yX8_isFlash, .static yX8_isFlash, .initialized RX8, .code yX8_isFlash cX8_isFlash 2 (some .boolean), .methodLink RX8 30 yX8_in, .static yX8_in, .code yX8_in cX8_in 3 (some .boolean), .methodLink RX8 60 yX8_remembers, .instanceMethod yX8_remembers, .selects RX8 yX8_remembers yX8_remembers, .code yX8_remembers cX8_remembers 2 none, .fieldLink RX8 26 "LeaningLinesModel" "known" "I", .fieldLink RX8 13 "LeaningLinesModel" "past" "[I", .fieldLink RX8 7 "LeaningLinesModel" "s" "[I", .methodLink RX8 81 yX8_flashes, .instanceMethod yX8_flashes, .selects RX8 yX8_flashes yX8_flashes, .code yX8_flashes cX8_flashes 3 (some .int)] ++ wsX80)
def wsX8_whyNotPass : List Cond := .code yX8_whyNotPass cX8_whyNotPass 2 (some .int) :: ([.fieldLink RX8 7 "LeaningLinesModel" "s" "[I", .methodLink RX8 30 yX8_in, .static yX8_in, .initialized RX8, .code yX8_in cX8_in 3 (some .boolean)] ++ wsX80)
def wsX8_pass : List Cond := .code yX8_pass cX8_pass 3 (some .int) :: ([.fieldLink RX8 7 "LeaningLinesModel" "s" "[I", .methodLink RX8 84 yX8_whyNotPass, .instanceMethod yX8_whyNotPass, .selects RX8 yX8_whyNotPass yX8_whyNotPass, .initialized RX8, .code yX8_whyNotPass cX8_whyNotPass 2 (some .int), .methodLink RX8 30 yX8_in, .static yX8_in, .code yX8_in cX8_in 3 (some .boolean), .methodLink RX8 60 yX8_remembers, .instanceMethod yX8_remembers, .selects RX8 yX8_remembers yX8_remembers, .code yX8_remembers cX8_remembers 2 none, .fieldLink RX8 26 "LeaningLinesModel" "known" "I", .fieldLink RX8 13 "LeaningLinesModel" "past" "[I"] ++ wsX80)
def wsX8_whyNotShoot : List Cond := .code yX8_whyNotShoot cX8_whyNotShoot 1 (some .int) :: ([.fieldLink RX8 7 "LeaningLinesModel" "s" "[I"] ++ wsX80)
def wsX8_shoots_r1 : List Cond := [Cond.fieldLink RX8 7 "LeaningLinesModel" "s" "[I", Cond.methodLink RX8 87 yX8_exposed, Cond.instanceMethod yX8_exposed, Cond.selects RX8 yX8_exposed yX8_exposed, Cond.initialized RX8, Cond.code yX8_exposed cX8_exposed 6 (some .int), Cond.methodLink RX8 56 yX8_seenAt, Cond.instanceMethod yX8_seenAt, Cond.selects RX8 yX8_seenAt yX8_seenAt, Cond.code yX8_seenAt cX8_seenAt 6 (some .int), Cond.methodLink RX8 49 yX8_covers, Cond.instanceMethod yX8_covers, Cond.selects RX8 yX8_covers yX8_covers, Cond.code yX8_covers cX8_covers 6 (some .boolean), Cond.methodLink RX8 34 yX8_its, Cond.instanceMethod yX8_its, Cond.selects RX8 yX8_its yX8_its, Cond.code yX8_its cX8_its 3 (some .int), Cond.methodLink RX8 30 yX8_in, Cond.static yX8_in, Cond.code yX8_in cX8_in 3 (some .boolean), Cond.methodLink RX8 42 yX8_left, Cond.instanceMethod yX8_left, Cond.selects RX8 yX8_left yX8_left]
def wsX8_shoots_r2 : List Cond := [Cond.code yX8_left cX8_left 5 (some .int), Cond.methodLink RX8 38 yX8_tenth, Cond.static yX8_tenth, Cond.code yX8_tenth cX8_tenth 1 (some .int), Cond.methodLink RX8 53 yX8_light, Cond.instanceMethod yX8_light, Cond.selects RX8 yX8_light yX8_light, Cond.code yX8_light cX8_light 3 (some .int), Cond.methodLink RX8 45 yX8_burns, Cond.instanceMethod yX8_burns, Cond.selects RX8 yX8_burns yX8_burns, Cond.code yX8_burns cX8_burns 2 (some .boolean)]
def wsX8_shoots : List Cond := .code yX8_shoots cX8_shoots 4 (some .int) :: ((wsX8_shoots_r1 ++ wsX8_shoots_r2) ++ wsX80)
def wsX8_shoot_r1 : List Cond := [Cond.methodLink RX8 90 yX8_whyNotShoot, Cond.instanceMethod yX8_whyNotShoot, Cond.selects RX8 yX8_whyNotShoot yX8_whyNotShoot, Cond.initialized RX8, Cond.code yX8_whyNotShoot cX8_whyNotShoot 1 (some .int), Cond.fieldLink RX8 7 "LeaningLinesModel" "s" "[I", Cond.methodLink RX8 60 yX8_remembers, Cond.instanceMethod yX8_remembers, Cond.selects RX8 yX8_remembers yX8_remembers, Cond.code yX8_remembers cX8_remembers 2 none, Cond.fieldLink RX8 26 "LeaningLinesModel" "known" "I", Cond.fieldLink RX8 13 "LeaningLinesModel" "past" "[I", Cond.methodLink RX8 94 yX8_shoots, Cond.instanceMethod yX8_shoots, Cond.selects RX8 yX8_shoots yX8_shoots, Cond.code yX8_shoots cX8_shoots 4 (some .int), Cond.methodLink RX8 87 yX8_exposed, Cond.instanceMethod yX8_exposed, Cond.selects RX8 yX8_exposed yX8_exposed, Cond.code yX8_exposed cX8_exposed 6 (some .int), Cond.methodLink RX8 56 yX8_seenAt, Cond.instanceMethod yX8_seenAt, Cond.selects RX8 yX8_seenAt yX8_seenAt, Cond.code yX8_seenAt cX8_seenAt 6 (some .int)]
def wsX8_shoot_r2 : List Cond := [Cond.methodLink RX8 49 yX8_covers, Cond.instanceMethod yX8_covers, Cond.selects RX8 yX8_covers yX8_covers, Cond.code yX8_covers cX8_covers 6 (some .boolean), Cond.methodLink RX8 34 yX8_its, Cond.instanceMethod yX8_its, Cond.selects RX8 yX8_its yX8_its, Cond.code yX8_its cX8_its 3 (some .int), Cond.methodLink RX8 30 yX8_in, Cond.static yX8_in, Cond.code yX8_in cX8_in 3 (some .boolean), Cond.methodLink RX8 42 yX8_left, Cond.instanceMethod yX8_left, Cond.selects RX8 yX8_left yX8_left, Cond.code yX8_left cX8_left 5 (some .int), Cond.methodLink RX8 38 yX8_tenth, Cond.static yX8_tenth, Cond.code yX8_tenth cX8_tenth 1 (some .int), Cond.methodLink RX8 53 yX8_light, Cond.instanceMethod yX8_light, Cond.selects RX8 yX8_light yX8_light, Cond.code yX8_light cX8_light 3 (some .int), Cond.methodLink RX8 45 yX8_burns, Cond.instanceMethod yX8_burns]
def wsX8_shoot_r3 : List Cond := [Cond.selects RX8 yX8_burns yX8_burns, Cond.code yX8_burns cX8_burns 2 (some .boolean)]
def wsX8_shoot : List Cond := .code yX8_shoot cX8_shoot 1 (some .int) :: ((wsX8_shoot_r1 ++ (wsX8_shoot_r2 ++ wsX8_shoot_r3)) ++ wsX80)
def wsX8_goes : List Cond := .code yX8_goes cX8_goes 4 (some .int) :: ([.methodLink RX8 34 yX8_its, .instanceMethod yX8_its, .selects RX8 yX8_its yX8_its, .initialized RX8, .code yX8_its cX8_its 3 (some .int), .fieldLink RX8 7 "LeaningLinesModel" "s" "[I"] ++ wsX80)
def wsX8_of : List Cond := .code yX8_of cX8_of 3 (some .int) :: ([.fieldLink RX8 7 "LeaningLinesModel" "s" "[I", .methodLink RX8 70 yX8_isThing, .instanceMethod yX8_isThing, .selects RX8 yX8_isThing yX8_isThing, .initialized RX8, .code yX8_isThing cX8_isThing 2 (some .boolean), .methodLink RX8 30 yX8_in, .static yX8_in, .code yX8_in cX8_in 3 (some .boolean), .methodLink RX8 34 yX8_its, .instanceMethod yX8_its, .selects RX8 yX8_its yX8_its, .code yX8_its cX8_its 3 (some .int), .methodLink RX8 42 yX8_left, .instanceMethod yX8_left, .selects RX8 yX8_left yX8_left, .code yX8_left cX8_left 5 (some .int), .methodLink RX8 38 yX8_tenth, .static yX8_tenth, .code yX8_tenth cX8_tenth 1 (some .int), .methodLink RX8 97 yX8_goes, .instanceMethod yX8_goes, .selects RX8 yX8_goes yX8_goes, .code yX8_goes cX8_goes 4 (some .int)] ++ wsX80)
def wsX8_isPixel : List Cond := .code yX8_isPixel cX8_isPixel 2 (some .boolean) :: ([.methodLink RX8 30 yX8_in, .static yX8_in, .initialized RX8, .code yX8_in cX8_in 3 (some .boolean)])
def wsX8_pixel : List Cond := .code yX8_pixel cX8_pixel 3 (some .int) :: ([.fieldLink RX8 7 "LeaningLinesModel" "s" "[I", .methodLink RX8 100 yX8_isPixel, .static yX8_isPixel, .initialized RX8, .code yX8_isPixel cX8_isPixel 2 (some .boolean), .methodLink RX8 30 yX8_in, .static yX8_in, .code yX8_in cX8_in 3 (some .boolean)] ++ wsX80)
def wsX8_joined : List Cond := .code yX8_joined cX8_joined 5 (some .int) :: ([.fieldLink RX8 7 "LeaningLinesModel" "s" "[I", .methodLink RX8 100 yX8_isPixel, .static yX8_isPixel, .initialized RX8, .code yX8_isPixel cX8_isPixel 2 (some .boolean), .methodLink RX8 30 yX8_in, .static yX8_in, .code yX8_in cX8_in 3 (some .boolean)] ++ wsX80)
def wsX8_lit : List Cond := .code yX8_lit cX8_lit 4 (some .int) :: ([.fieldLink RX8 7 "LeaningLinesModel" "s" "[I"] ++ wsX80)
def wsX8_sumOf : List Cond := .code yX8_sumOf cX8_sumOf 4 (some .int) :: ([.fieldLink RX8 7 "LeaningLinesModel" "s" "[I"] ++ wsX80)
def wsX8_leftmost : List Cond := .code yX8_leftmost cX8_leftmost 3 (some .int) :: ([.fieldLink RX8 7 "LeaningLinesModel" "s" "[I"] ++ wsX80)
def wsX8_ofLine : List Cond := .code yX8_ofLine cX8_ofLine 3 (some .int) :: ([.methodLink RX8 30 yX8_in, .static yX8_in, .initialized RX8, .code yX8_in cX8_in 3 (some .boolean), .methodLink RX8 103 yX8_lit, .instanceMethod yX8_lit, .selects RX8 yX8_lit yX8_lit, .code yX8_lit cX8_lit 4 (some .int), .fieldLink RX8 7 "LeaningLinesModel" "s" "[I", .methodLink RX8 106 yX8_sumOf, .instanceMethod yX8_sumOf, .selects RX8 yX8_sumOf yX8_sumOf, .code yX8_sumOf cX8_sumOf 4 (some .int), .methodLink RX8 109 yX8_leftmost, .instanceMethod yX8_leftmost, .selects RX8 yX8_leftmost yX8_leftmost, .code yX8_leftmost cX8_leftmost 3 (some .int)] ++ wsX80)
def wsX8_darkLines : List Cond := .code yX8_darkLines cX8_darkLines 3 (some .int) :: ([.methodLink RX8 103 yX8_lit, .instanceMethod yX8_lit, .selects RX8 yX8_lit yX8_lit, .initialized RX8, .code yX8_lit cX8_lit 4 (some .int), .fieldLink RX8 7 "LeaningLinesModel" "s" "[I"] ++ wsX80)
def wsX8_brightest : List Cond := .code yX8_brightest cX8_brightest 3 (some .int) :: ([.fieldLink RX8 7 "LeaningLinesModel" "s" "[I"] ++ wsX80)
def wsX8_bands : List Cond := .code yX8_bands cX8_bands 3 (some .int) :: ([.methodLink RX8 103 yX8_lit, .instanceMethod yX8_lit, .selects RX8 yX8_lit yX8_lit, .initialized RX8, .code yX8_lit cX8_lit 4 (some .int), .fieldLink RX8 7 "LeaningLinesModel" "s" "[I"] ++ wsX80)
def wsX8_count : List Cond := .code yX8_count cX8_count 2 (some .int) :: ([.fieldLink RX8 7 "LeaningLinesModel" "s" "[I", .fieldLink RX8 121 "LeaningLinesModel" "length" "I", .fieldLink RX8 26 "LeaningLinesModel" "known" "I", .methodLink RX8 112 yX8_darkLines, .instanceMethod yX8_darkLines, .selects RX8 yX8_darkLines yX8_darkLines, .initialized RX8, .code yX8_darkLines cX8_darkLines 3 (some .int), .methodLink RX8 103 yX8_lit, .instanceMethod yX8_lit, .selects RX8 yX8_lit yX8_lit, .code yX8_lit cX8_lit 4 (some .int), .methodLink RX8 115 yX8_brightest, .instanceMethod yX8_brightest, .selects RX8 yX8_brightest yX8_brightest, .code yX8_brightest cX8_brightest 3 (some .int), .methodLink RX8 118 yX8_bands, .instanceMethod yX8_bands, .selects RX8 yX8_bands yX8_bands, .code yX8_bands cX8_bands 3 (some .int), .methodLink RX8 30 yX8_in, .static yX8_in, .code yX8_in cX8_in 3 (some .boolean)] ++ wsX80)
def wsX8_seen_r1 : List Cond := [Cond.fieldLink RX8 7 "LeaningLinesModel" "s" "[I", Cond.methodLink RX8 100 yX8_isPixel, Cond.static yX8_isPixel, Cond.initialized RX8, Cond.code yX8_isPixel cX8_isPixel 2 (some .boolean), Cond.methodLink RX8 30 yX8_in, Cond.static yX8_in, Cond.code yX8_in cX8_in 3 (some .boolean), Cond.methodLink RX8 56 yX8_seenAt, Cond.instanceMethod yX8_seenAt, Cond.selects RX8 yX8_seenAt yX8_seenAt, Cond.code yX8_seenAt cX8_seenAt 6 (some .int), Cond.methodLink RX8 49 yX8_covers, Cond.instanceMethod yX8_covers, Cond.selects RX8 yX8_covers yX8_covers, Cond.code yX8_covers cX8_covers 6 (some .boolean), Cond.methodLink RX8 34 yX8_its, Cond.instanceMethod yX8_its, Cond.selects RX8 yX8_its yX8_its, Cond.code yX8_its cX8_its 3 (some .int), Cond.methodLink RX8 42 yX8_left, Cond.instanceMethod yX8_left, Cond.selects RX8 yX8_left yX8_left, Cond.code yX8_left cX8_left 5 (some .int)]
def wsX8_seen_r2 : List Cond := [Cond.methodLink RX8 38 yX8_tenth, Cond.static yX8_tenth, Cond.code yX8_tenth cX8_tenth 1 (some .int), Cond.methodLink RX8 53 yX8_light, Cond.instanceMethod yX8_light, Cond.selects RX8 yX8_light yX8_light, Cond.code yX8_light cX8_light 3 (some .int), Cond.methodLink RX8 45 yX8_burns, Cond.instanceMethod yX8_burns, Cond.selects RX8 yX8_burns yX8_burns, Cond.code yX8_burns cX8_burns 2 (some .boolean)]
def wsX8_seen : List Cond := .code yX8_seen cX8_seen 4 (some .int) :: ((wsX8_seen_r1 ++ wsX8_seen_r2) ++ wsX80)
def wsX8_leans : List Cond := .code yX8_leans cX8_leans 4 (some .int) :: ([.fieldLink RX8 7 "LeaningLinesModel" "s" "[I", .methodLink RX8 70 yX8_isThing, .instanceMethod yX8_isThing, .selects RX8 yX8_isThing yX8_isThing, .initialized RX8, .code yX8_isThing cX8_isThing 2 (some .boolean), .methodLink RX8 30 yX8_in, .static yX8_in, .code yX8_in cX8_in 3 (some .boolean), .methodLink RX8 34 yX8_its, .instanceMethod yX8_its, .selects RX8 yX8_its yX8_its, .code yX8_its cX8_its 3 (some .int), .methodLink RX8 42 yX8_left, .instanceMethod yX8_left, .selects RX8 yX8_left yX8_left, .code yX8_left cX8_left 5 (some .int), .methodLink RX8 38 yX8_tenth, .static yX8_tenth, .code yX8_tenth cX8_tenth 1 (some .int)] ++ wsX80)
def wsX8_bent_r1 : List Cond := [Cond.fieldLink RX8 7 "LeaningLinesModel" "s" "[I", Cond.methodLink RX8 87 yX8_exposed, Cond.instanceMethod yX8_exposed, Cond.selects RX8 yX8_exposed yX8_exposed, Cond.initialized RX8, Cond.code yX8_exposed cX8_exposed 6 (some .int), Cond.methodLink RX8 56 yX8_seenAt, Cond.instanceMethod yX8_seenAt, Cond.selects RX8 yX8_seenAt yX8_seenAt, Cond.code yX8_seenAt cX8_seenAt 6 (some .int), Cond.methodLink RX8 49 yX8_covers, Cond.instanceMethod yX8_covers, Cond.selects RX8 yX8_covers yX8_covers, Cond.code yX8_covers cX8_covers 6 (some .boolean), Cond.methodLink RX8 34 yX8_its, Cond.instanceMethod yX8_its, Cond.selects RX8 yX8_its yX8_its, Cond.code yX8_its cX8_its 3 (some .int), Cond.methodLink RX8 30 yX8_in, Cond.static yX8_in, Cond.code yX8_in cX8_in 3 (some .boolean), Cond.methodLink RX8 42 yX8_left, Cond.instanceMethod yX8_left, Cond.selects RX8 yX8_left yX8_left]
def wsX8_bent_r2 : List Cond := [Cond.code yX8_left cX8_left 5 (some .int), Cond.methodLink RX8 38 yX8_tenth, Cond.static yX8_tenth, Cond.code yX8_tenth cX8_tenth 1 (some .int), Cond.methodLink RX8 53 yX8_light, Cond.instanceMethod yX8_light, Cond.selects RX8 yX8_light yX8_light, Cond.code yX8_light cX8_light 3 (some .int), Cond.methodLink RX8 45 yX8_burns, Cond.instanceMethod yX8_burns, Cond.selects RX8 yX8_burns yX8_burns, Cond.code yX8_burns cX8_burns 2 (some .boolean)]
def wsX8_bent : List Cond := .code yX8_bent cX8_bent 4 (some .int) :: ((wsX8_bent_r1 ++ wsX8_bent_r2) ++ wsX80)
def wsX8_burnsIn : List Cond := .code yX8_burnsIn cX8_burnsIn 6 (some .int) :: ([.fieldLink RX8 7 "LeaningLinesModel" "s" "[I", .methodLink RX8 30 yX8_in, .static yX8_in, .initialized RX8, .code yX8_in cX8_in 3 (some .boolean)] ++ wsX80)
def wsX8_flashed : List Cond := .code yX8_flashed cX8_flashed 1 (some .int) :: ([.fieldLink RX8 7 "LeaningLinesModel" "s" "[I", .methodLink RX8 124 yX8_burnsIn, .instanceMethod yX8_burnsIn, .selects RX8 yX8_burnsIn yX8_burnsIn, .initialized RX8, .code yX8_burnsIn cX8_burnsIn 6 (some .int), .methodLink RX8 30 yX8_in, .static yX8_in, .code yX8_in cX8_in 3 (some .boolean)] ++ wsX80)
def wsX8_ones : List Cond := .code yX8_ones cX8_ones 3 (some .int) :: ([])
def wsX8_bestFlash : List Cond := .code yX8_bestFlash cX8_bestFlash 7 (some .int) :: ([.fieldLink RX8 7 "LeaningLinesModel" "s" "[I", .methodLink RX8 30 yX8_in, .static yX8_in, .initialized RX8, .code yX8_in cX8_in 3 (some .boolean), .methodLink RX8 124 yX8_burnsIn, .instanceMethod yX8_burnsIn, .selects RX8 yX8_burnsIn yX8_burnsIn, .code yX8_burnsIn cX8_burnsIn 6 (some .int), .methodLink RX8 127 yX8_ones, .static yX8_ones, .code yX8_ones cX8_ones 3 (some .int)] ++ wsX80)
def wsX8_put : List Cond := .code yX8_put cX8_put 8 (some .int) :: ([.constantLong RX8 130 (255), .fieldLink RX8 121 "LeaningLinesModel" "length" "I", .fieldLink RX8 23 "LeaningLinesModel" "pad" "[I", .methodLink RX8 30 yX8_in, .static yX8_in, .initialized RX8, .code yX8_in cX8_in 3 (some .boolean)] ++ wsX80)
def wsX8_wipe : List Cond := .code yX8_wipe cX8_wipe 2 (some .int) :: ([.fieldLink RX8 121 "LeaningLinesModel" "length" "I"] ++ wsX80)
def wsX8_sign : List Cond := .code yX8_sign cX8_sign 2 (some .int) :: ([.fieldLink RX8 121 "LeaningLinesModel" "length" "I", .fieldLink RX8 23 "LeaningLinesModel" "pad" "[I"] ++ wsX80)
def wsX8_digit : List Cond := .code yX8_digit cX8_digit 2 (some .int) :: ([.methodLink RX8 132 yX8_sign, .instanceMethod yX8_sign, .selects RX8 yX8_sign yX8_sign, .initialized RX8, .code yX8_sign cX8_sign 2 (some .int), .fieldLink RX8 121 "LeaningLinesModel" "length" "I", .fieldLink RX8 23 "LeaningLinesModel" "pad" "[I", .methodLink RX8 30 yX8_in, .static yX8_in, .code yX8_in cX8_in 3 (some .boolean)] ++ wsX80)
def wsX8_numberEnd : List Cond := .code yX8_numberEnd cX8_numberEnd 2 (some .int) :: ([.methodLink RX8 135 yX8_digit, .instanceMethod yX8_digit, .selects RX8 yX8_digit yX8_digit, .initialized RX8, .code yX8_digit cX8_digit 2 (some .int), .methodLink RX8 132 yX8_sign, .instanceMethod yX8_sign, .selects RX8 yX8_sign yX8_sign, .code yX8_sign cX8_sign 2 (some .int), .fieldLink RX8 121 "LeaningLinesModel" "length" "I", .fieldLink RX8 23 "LeaningLinesModel" "pad" "[I", .methodLink RX8 30 yX8_in, .static yX8_in, .code yX8_in cX8_in 3 (some .boolean)] ++ wsX80)
def wsX8_numberAt : List Cond := .code yX8_numberAt cX8_numberAt 2 (some .int) :: ([.methodLink RX8 138 yX8_numberEnd, .instanceMethod yX8_numberEnd, .selects RX8 yX8_numberEnd yX8_numberEnd, .initialized RX8, .code yX8_numberEnd cX8_numberEnd 2 (some .int), .methodLink RX8 135 yX8_digit, .instanceMethod yX8_digit, .selects RX8 yX8_digit yX8_digit, .code yX8_digit cX8_digit 2 (some .int), .methodLink RX8 132 yX8_sign, .instanceMethod yX8_sign, .selects RX8 yX8_sign yX8_sign, .code yX8_sign cX8_sign 2 (some .int), .fieldLink RX8 121 "LeaningLinesModel" "length" "I", .fieldLink RX8 23 "LeaningLinesModel" "pad" "[I", .methodLink RX8 30 yX8_in, .static yX8_in, .code yX8_in cX8_in 3 (some .boolean)] ++ wsX80)
def wsX8_behind : List Cond := .code yX8_behind cX8_behind 3 (some .int) :: ([.methodLink RX8 132 yX8_sign, .instanceMethod yX8_sign, .selects RX8 yX8_sign yX8_sign, .initialized RX8, .code yX8_sign cX8_sign 2 (some .int), .fieldLink RX8 121 "LeaningLinesModel" "length" "I", .fieldLink RX8 23 "LeaningLinesModel" "pad" "[I"] ++ wsX80)
def wsX8_digitEnd : List Cond := .code yX8_digitEnd cX8_digitEnd 2 (some .int) :: ([.methodLink RX8 135 yX8_digit, .instanceMethod yX8_digit, .selects RX8 yX8_digit yX8_digit, .initialized RX8, .code yX8_digit cX8_digit 2 (some .int), .methodLink RX8 132 yX8_sign, .instanceMethod yX8_sign, .selects RX8 yX8_sign yX8_sign, .code yX8_sign cX8_sign 2 (some .int), .fieldLink RX8 121 "LeaningLinesModel" "length" "I", .fieldLink RX8 23 "LeaningLinesModel" "pad" "[I", .methodLink RX8 30 yX8_in, .static yX8_in, .code yX8_in cX8_in 3 (some .boolean)] ++ wsX80)
def wsX8_sizesEnd : List Cond := .code yX8_sizesEnd cX8_sizesEnd 4 (some .int) :: ([.methodLink RX8 138 yX8_numberEnd, .instanceMethod yX8_numberEnd, .selects RX8 yX8_numberEnd yX8_numberEnd, .initialized RX8, .code yX8_numberEnd cX8_numberEnd 2 (some .int), .methodLink RX8 135 yX8_digit, .instanceMethod yX8_digit, .selects RX8 yX8_digit yX8_digit, .code yX8_digit cX8_digit 2 (some .int), .methodLink RX8 132 yX8_sign, .instanceMethod yX8_sign, .selects RX8 yX8_sign yX8_sign, .code yX8_sign cX8_sign 2 (some .int), .fieldLink RX8 121 "LeaningLinesModel" "length" "I", .fieldLink RX8 23 "LeaningLinesModel" "pad" "[I", .methodLink RX8 30 yX8_in, .static yX8_in, .code yX8_in cX8_in 3 (some .boolean), .methodLink RX8 141 yX8_behind, .instanceMethod yX8_behind, .selects RX8 yX8_behind yX8_behind, .code yX8_behind cX8_behind 3 (some .int)] ++ wsX80)
def wsX8_isSpeed : List Cond := .code yX8_isSpeed cX8_isSpeed 2 (some .boolean) :: ([.methodLink RX8 132 yX8_sign, .instanceMethod yX8_sign, .selects RX8 yX8_sign yX8_sign, .initialized RX8, .code yX8_sign cX8_sign 2 (some .int), .fieldLink RX8 121 "LeaningLinesModel" "length" "I", .fieldLink RX8 23 "LeaningLinesModel" "pad" "[I"] ++ wsX80)
def wsX8_orderEnd_r1 : List Cond := [Cond.methodLink RX8 132 yX8_sign, Cond.instanceMethod yX8_sign, Cond.selects RX8 yX8_sign yX8_sign, Cond.initialized RX8, Cond.code yX8_sign cX8_sign 2 (some .int), Cond.fieldLink RX8 121 "LeaningLinesModel" "length" "I", Cond.fieldLink RX8 23 "LeaningLinesModel" "pad" "[I", Cond.methodLink RX8 144 yX8_sizesEnd, Cond.instanceMethod yX8_sizesEnd, Cond.selects RX8 yX8_sizesEnd yX8_sizesEnd, Cond.code yX8_sizesEnd cX8_sizesEnd 4 (some .int), Cond.methodLink RX8 138 yX8_numberEnd, Cond.instanceMethod yX8_numberEnd, Cond.selects RX8 yX8_numberEnd yX8_numberEnd, Cond.code yX8_numberEnd cX8_numberEnd 2 (some .int), Cond.methodLink RX8 135 yX8_digit, Cond.instanceMethod yX8_digit, Cond.selects RX8 yX8_digit yX8_digit, Cond.code yX8_digit cX8_digit 2 (some .int), Cond.methodLink RX8 30 yX8_in, Cond.static yX8_in, Cond.code yX8_in cX8_in 3 (some .boolean), Cond.methodLink RX8 141 yX8_behind, Cond.instanceMethod yX8_behind]
def wsX8_orderEnd_r2 : List Cond := [Cond.selects RX8 yX8_behind yX8_behind, Cond.code yX8_behind cX8_behind 3 (some .int), Cond.methodLink RX8 147 yX8_digitEnd, Cond.instanceMethod yX8_digitEnd, Cond.selects RX8 yX8_digitEnd yX8_digitEnd, Cond.code yX8_digitEnd cX8_digitEnd 2 (some .int), Cond.methodLink RX8 150 yX8_isSpeed, Cond.instanceMethod yX8_isSpeed, Cond.selects RX8 yX8_isSpeed yX8_isSpeed, Cond.code yX8_isSpeed cX8_isSpeed 2 (some .boolean)]
def wsX8_orderEnd : List Cond := .code yX8_orderEnd cX8_orderEnd 3 (some .int) :: ((wsX8_orderEnd_r1 ++ wsX8_orderEnd_r2) ++ wsX80)
def wsX8_fault_r1 : List Cond := [Cond.fieldLink RX8 121 "LeaningLinesModel" "length" "I", Cond.methodLink RX8 153 yX8_orderEnd, Cond.instanceMethod yX8_orderEnd, Cond.selects RX8 yX8_orderEnd yX8_orderEnd, Cond.initialized RX8, Cond.code yX8_orderEnd cX8_orderEnd 3 (some .int), Cond.methodLink RX8 132 yX8_sign, Cond.instanceMethod yX8_sign, Cond.selects RX8 yX8_sign yX8_sign, Cond.code yX8_sign cX8_sign 2 (some .int), Cond.fieldLink RX8 23 "LeaningLinesModel" "pad" "[I", Cond.methodLink RX8 144 yX8_sizesEnd, Cond.instanceMethod yX8_sizesEnd, Cond.selects RX8 yX8_sizesEnd yX8_sizesEnd, Cond.code yX8_sizesEnd cX8_sizesEnd 4 (some .int), Cond.methodLink RX8 138 yX8_numberEnd, Cond.instanceMethod yX8_numberEnd, Cond.selects RX8 yX8_numberEnd yX8_numberEnd, Cond.code yX8_numberEnd cX8_numberEnd 2 (some .int), Cond.methodLink RX8 135 yX8_digit, Cond.instanceMethod yX8_digit, Cond.selects RX8 yX8_digit yX8_digit, Cond.code yX8_digit cX8_digit 2 (some .int), Cond.methodLink RX8 30 yX8_in]
def wsX8_fault_r2 : List Cond := [Cond.static yX8_in, Cond.code yX8_in cX8_in 3 (some .boolean), Cond.methodLink RX8 141 yX8_behind, Cond.instanceMethod yX8_behind, Cond.selects RX8 yX8_behind yX8_behind, Cond.code yX8_behind cX8_behind 3 (some .int), Cond.methodLink RX8 147 yX8_digitEnd, Cond.instanceMethod yX8_digitEnd, Cond.selects RX8 yX8_digitEnd yX8_digitEnd, Cond.code yX8_digitEnd cX8_digitEnd 2 (some .int), Cond.methodLink RX8 150 yX8_isSpeed, Cond.instanceMethod yX8_isSpeed, Cond.selects RX8 yX8_isSpeed yX8_isSpeed, Cond.code yX8_isSpeed cX8_isSpeed 2 (some .boolean)]
def wsX8_fault : List Cond := .code yX8_fault cX8_fault 4 (some .int) :: ((wsX8_fault_r1 ++ wsX8_fault_r2) ++ wsX80)
def wsX8_comesBy_r1 : List Cond := [Cond.fieldLink RX8 7 "LeaningLinesModel" "s" "[I", Cond.methodLink RX8 138 yX8_numberEnd, Cond.instanceMethod yX8_numberEnd, Cond.selects RX8 yX8_numberEnd yX8_numberEnd, Cond.initialized RX8, Cond.code yX8_numberEnd cX8_numberEnd 2 (some .int), Cond.methodLink RX8 135 yX8_digit, Cond.instanceMethod yX8_digit, Cond.selects RX8 yX8_digit yX8_digit, Cond.code yX8_digit cX8_digit 2 (some .int), Cond.methodLink RX8 132 yX8_sign, Cond.instanceMethod yX8_sign, Cond.selects RX8 yX8_sign yX8_sign, Cond.code yX8_sign cX8_sign 2 (some .int), Cond.fieldLink RX8 121 "LeaningLinesModel" "length" "I", Cond.fieldLink RX8 23 "LeaningLinesModel" "pad" "[I", Cond.methodLink RX8 30 yX8_in, Cond.static yX8_in, Cond.code yX8_in cX8_in 3 (some .boolean), Cond.methodLink RX8 150 yX8_isSpeed, Cond.instanceMethod yX8_isSpeed, Cond.selects RX8 yX8_isSpeed yX8_isSpeed, Cond.code yX8_isSpeed cX8_isSpeed 2 (some .boolean), Cond.methodLink RX8 156 yX8_numberAt]
def wsX8_comesBy_r2 : List Cond := [Cond.instanceMethod yX8_numberAt, Cond.selects RX8 yX8_numberAt yX8_numberAt, Cond.code yX8_numberAt cX8_numberAt 2 (some .int), Cond.methodLink RX8 63 yX8_whyNotThing, Cond.instanceMethod yX8_whyNotThing, Cond.selects RX8 yX8_whyNotThing yX8_whyNotThing, Cond.code yX8_whyNotThing cX8_whyNotThing 7 (some .int), Cond.methodLink RX8 67 yX8_comes, Cond.instanceMethod yX8_comes, Cond.selects RX8 yX8_comes yX8_comes, Cond.code yX8_comes cX8_comes 7 (some .int), Cond.methodLink RX8 73 yX8_anew, Cond.instanceMethod yX8_anew, Cond.selects RX8 yX8_anew yX8_anew, Cond.code yX8_anew cX8_anew 5 none, Cond.methodLink RX8 42 yX8_left, Cond.instanceMethod yX8_left, Cond.selects RX8 yX8_left yX8_left, Cond.code yX8_left cX8_left 5 (some .int), Cond.methodLink RX8 34 yX8_its, Cond.instanceMethod yX8_its, Cond.selects RX8 yX8_its yX8_its, Cond.code yX8_its cX8_its 3 (some .int), Cond.methodLink RX8 38 yX8_tenth]
def wsX8_comesBy_r3 : List Cond := [Cond.static yX8_tenth, Cond.code yX8_tenth cX8_tenth 1 (some .int)]
def wsX8_comesBy : List Cond := .code yX8_comesBy cX8_comesBy 11 (some .int) :: ((wsX8_comesBy_r1 ++ (wsX8_comesBy_r2 ++ wsX8_comesBy_r3)) ++ wsX80)
def wsX8_carries_r1 : List Cond := [Cond.fieldLink RX8 7 "LeaningLinesModel" "s" "[I", Cond.methodLink RX8 135 yX8_digit, Cond.instanceMethod yX8_digit, Cond.selects RX8 yX8_digit yX8_digit, Cond.initialized RX8, Cond.code yX8_digit cX8_digit 2 (some .int), Cond.methodLink RX8 132 yX8_sign, Cond.instanceMethod yX8_sign, Cond.selects RX8 yX8_sign yX8_sign, Cond.code yX8_sign cX8_sign 2 (some .int), Cond.fieldLink RX8 121 "LeaningLinesModel" "length" "I", Cond.fieldLink RX8 23 "LeaningLinesModel" "pad" "[I", Cond.methodLink RX8 30 yX8_in, Cond.static yX8_in, Cond.code yX8_in cX8_in 3 (some .boolean), Cond.methodLink RX8 156 yX8_numberAt, Cond.instanceMethod yX8_numberAt, Cond.selects RX8 yX8_numberAt yX8_numberAt, Cond.code yX8_numberAt cX8_numberAt 2 (some .int), Cond.methodLink RX8 138 yX8_numberEnd, Cond.instanceMethod yX8_numberEnd, Cond.selects RX8 yX8_numberEnd yX8_numberEnd, Cond.code yX8_numberEnd cX8_numberEnd 2 (some .int), Cond.methodLink RX8 159 yX8_comesBy]
def wsX8_carries_r2 : List Cond := [Cond.instanceMethod yX8_comesBy, Cond.selects RX8 yX8_comesBy yX8_comesBy, Cond.code yX8_comesBy cX8_comesBy 11 (some .int), Cond.methodLink RX8 150 yX8_isSpeed, Cond.instanceMethod yX8_isSpeed, Cond.selects RX8 yX8_isSpeed yX8_isSpeed, Cond.code yX8_isSpeed cX8_isSpeed 2 (some .boolean), Cond.methodLink RX8 63 yX8_whyNotThing, Cond.instanceMethod yX8_whyNotThing, Cond.selects RX8 yX8_whyNotThing yX8_whyNotThing, Cond.code yX8_whyNotThing cX8_whyNotThing 7 (some .int), Cond.methodLink RX8 67 yX8_comes, Cond.instanceMethod yX8_comes, Cond.selects RX8 yX8_comes yX8_comes, Cond.code yX8_comes cX8_comes 7 (some .int), Cond.methodLink RX8 73 yX8_anew, Cond.instanceMethod yX8_anew, Cond.selects RX8 yX8_anew yX8_anew, Cond.code yX8_anew cX8_anew 5 none, Cond.methodLink RX8 42 yX8_left, Cond.instanceMethod yX8_left, Cond.selects RX8 yX8_left yX8_left, Cond.code yX8_left cX8_left 5 (some .int), Cond.methodLink RX8 34 yX8_its]
def wsX8_carries_r3 : List Cond := [Cond.instanceMethod yX8_its, Cond.selects RX8 yX8_its yX8_its, Cond.code yX8_its cX8_its 3 (some .int), Cond.methodLink RX8 38 yX8_tenth, Cond.static yX8_tenth, Cond.code yX8_tenth cX8_tenth 1 (some .int), Cond.methodLink RX8 77 yX8_isFlash, Cond.static yX8_isFlash, Cond.code yX8_isFlash cX8_isFlash 2 (some .boolean), Cond.methodLink RX8 81 yX8_flashes, Cond.instanceMethod yX8_flashes, Cond.selects RX8 yX8_flashes yX8_flashes, Cond.code yX8_flashes cX8_flashes 3 (some .int), Cond.methodLink RX8 84 yX8_whyNotPass, Cond.instanceMethod yX8_whyNotPass, Cond.selects RX8 yX8_whyNotPass yX8_whyNotPass, Cond.code yX8_whyNotPass cX8_whyNotPass 2 (some .int), Cond.methodLink RX8 90 yX8_whyNotShoot, Cond.instanceMethod yX8_whyNotShoot, Cond.selects RX8 yX8_whyNotShoot yX8_whyNotShoot, Cond.code yX8_whyNotShoot cX8_whyNotShoot 1 (some .int), Cond.methodLink RX8 94 yX8_shoots, Cond.instanceMethod yX8_shoots, Cond.selects RX8 yX8_shoots yX8_shoots]
def wsX8_carries_r4 : List Cond := [Cond.code yX8_shoots cX8_shoots 4 (some .int), Cond.methodLink RX8 87 yX8_exposed, Cond.instanceMethod yX8_exposed, Cond.selects RX8 yX8_exposed yX8_exposed, Cond.code yX8_exposed cX8_exposed 6 (some .int), Cond.methodLink RX8 56 yX8_seenAt, Cond.instanceMethod yX8_seenAt, Cond.selects RX8 yX8_seenAt yX8_seenAt, Cond.code yX8_seenAt cX8_seenAt 6 (some .int), Cond.methodLink RX8 49 yX8_covers, Cond.instanceMethod yX8_covers, Cond.selects RX8 yX8_covers yX8_covers, Cond.code yX8_covers cX8_covers 6 (some .boolean), Cond.methodLink RX8 53 yX8_light, Cond.instanceMethod yX8_light, Cond.selects RX8 yX8_light yX8_light, Cond.code yX8_light cX8_light 3 (some .int), Cond.methodLink RX8 45 yX8_burns, Cond.instanceMethod yX8_burns, Cond.selects RX8 yX8_burns yX8_burns, Cond.code yX8_burns cX8_burns 2 (some .boolean)]
def wsX8_carries : List Cond := .code yX8_carries cX8_carries 6 (some .int) :: ((wsX8_carries_r1 ++ (wsX8_carries_r2 ++ (wsX8_carries_r3 ++ wsX8_carries_r4))) ++ wsX80)
def wsX8_carryOut_r1 : List Cond := [Cond.fieldLink RX8 121 "LeaningLinesModel" "length" "I", Cond.methodLink RX8 162 yX8_fault, Cond.instanceMethod yX8_fault, Cond.selects RX8 yX8_fault yX8_fault, Cond.initialized RX8, Cond.code yX8_fault cX8_fault 4 (some .int), Cond.methodLink RX8 153 yX8_orderEnd, Cond.instanceMethod yX8_orderEnd, Cond.selects RX8 yX8_orderEnd yX8_orderEnd, Cond.code yX8_orderEnd cX8_orderEnd 3 (some .int), Cond.methodLink RX8 132 yX8_sign, Cond.instanceMethod yX8_sign, Cond.selects RX8 yX8_sign yX8_sign, Cond.code yX8_sign cX8_sign 2 (some .int), Cond.fieldLink RX8 23 "LeaningLinesModel" "pad" "[I", Cond.methodLink RX8 144 yX8_sizesEnd, Cond.instanceMethod yX8_sizesEnd, Cond.selects RX8 yX8_sizesEnd yX8_sizesEnd, Cond.code yX8_sizesEnd cX8_sizesEnd 4 (some .int), Cond.methodLink RX8 138 yX8_numberEnd, Cond.instanceMethod yX8_numberEnd, Cond.selects RX8 yX8_numberEnd yX8_numberEnd, Cond.code yX8_numberEnd cX8_numberEnd 2 (some .int), Cond.methodLink RX8 135 yX8_digit]
def wsX8_carryOut_r2 : List Cond := [Cond.instanceMethod yX8_digit, Cond.selects RX8 yX8_digit yX8_digit, Cond.code yX8_digit cX8_digit 2 (some .int), Cond.methodLink RX8 30 yX8_in, Cond.static yX8_in, Cond.code yX8_in cX8_in 3 (some .boolean), Cond.methodLink RX8 141 yX8_behind, Cond.instanceMethod yX8_behind, Cond.selects RX8 yX8_behind yX8_behind, Cond.code yX8_behind cX8_behind 3 (some .int), Cond.methodLink RX8 147 yX8_digitEnd, Cond.instanceMethod yX8_digitEnd, Cond.selects RX8 yX8_digitEnd yX8_digitEnd, Cond.code yX8_digitEnd cX8_digitEnd 2 (some .int), Cond.methodLink RX8 150 yX8_isSpeed, Cond.instanceMethod yX8_isSpeed, Cond.selects RX8 yX8_isSpeed yX8_isSpeed, Cond.code yX8_isSpeed cX8_isSpeed 2 (some .boolean), Cond.methodLink RX8 60 yX8_remembers, Cond.instanceMethod yX8_remembers, Cond.selects RX8 yX8_remembers yX8_remembers, Cond.code yX8_remembers cX8_remembers 2 none, Cond.fieldLink RX8 26 "LeaningLinesModel" "known" "I", Cond.fieldLink RX8 13 "LeaningLinesModel" "past" "[I"]
def wsX8_carryOut_r3 : List Cond := [Cond.fieldLink RX8 7 "LeaningLinesModel" "s" "[I", Cond.methodLink RX8 165 yX8_carries, Cond.instanceMethod yX8_carries, Cond.selects RX8 yX8_carries yX8_carries, Cond.code yX8_carries cX8_carries 6 (some .int), Cond.methodLink RX8 156 yX8_numberAt, Cond.instanceMethod yX8_numberAt, Cond.selects RX8 yX8_numberAt yX8_numberAt, Cond.code yX8_numberAt cX8_numberAt 2 (some .int), Cond.methodLink RX8 159 yX8_comesBy, Cond.instanceMethod yX8_comesBy, Cond.selects RX8 yX8_comesBy yX8_comesBy, Cond.code yX8_comesBy cX8_comesBy 11 (some .int), Cond.methodLink RX8 63 yX8_whyNotThing, Cond.instanceMethod yX8_whyNotThing, Cond.selects RX8 yX8_whyNotThing yX8_whyNotThing, Cond.code yX8_whyNotThing cX8_whyNotThing 7 (some .int), Cond.methodLink RX8 67 yX8_comes, Cond.instanceMethod yX8_comes, Cond.selects RX8 yX8_comes yX8_comes, Cond.code yX8_comes cX8_comes 7 (some .int), Cond.methodLink RX8 73 yX8_anew, Cond.instanceMethod yX8_anew, Cond.selects RX8 yX8_anew yX8_anew]
def wsX8_carryOut_r4 : List Cond := [Cond.code yX8_anew cX8_anew 5 none, Cond.methodLink RX8 42 yX8_left, Cond.instanceMethod yX8_left, Cond.selects RX8 yX8_left yX8_left, Cond.code yX8_left cX8_left 5 (some .int), Cond.methodLink RX8 34 yX8_its, Cond.instanceMethod yX8_its, Cond.selects RX8 yX8_its yX8_its, Cond.code yX8_its cX8_its 3 (some .int), Cond.methodLink RX8 38 yX8_tenth, Cond.static yX8_tenth, Cond.code yX8_tenth cX8_tenth 1 (some .int), Cond.methodLink RX8 77 yX8_isFlash, Cond.static yX8_isFlash, Cond.code yX8_isFlash cX8_isFlash 2 (some .boolean), Cond.methodLink RX8 81 yX8_flashes, Cond.instanceMethod yX8_flashes, Cond.selects RX8 yX8_flashes yX8_flashes, Cond.code yX8_flashes cX8_flashes 3 (some .int), Cond.methodLink RX8 84 yX8_whyNotPass, Cond.instanceMethod yX8_whyNotPass, Cond.selects RX8 yX8_whyNotPass yX8_whyNotPass, Cond.code yX8_whyNotPass cX8_whyNotPass 2 (some .int), Cond.methodLink RX8 90 yX8_whyNotShoot]
def wsX8_carryOut_r5 : List Cond := [Cond.instanceMethod yX8_whyNotShoot, Cond.selects RX8 yX8_whyNotShoot yX8_whyNotShoot, Cond.code yX8_whyNotShoot cX8_whyNotShoot 1 (some .int), Cond.methodLink RX8 94 yX8_shoots, Cond.instanceMethod yX8_shoots, Cond.selects RX8 yX8_shoots yX8_shoots, Cond.code yX8_shoots cX8_shoots 4 (some .int), Cond.methodLink RX8 87 yX8_exposed, Cond.instanceMethod yX8_exposed, Cond.selects RX8 yX8_exposed yX8_exposed, Cond.code yX8_exposed cX8_exposed 6 (some .int), Cond.methodLink RX8 56 yX8_seenAt, Cond.instanceMethod yX8_seenAt, Cond.selects RX8 yX8_seenAt yX8_seenAt, Cond.code yX8_seenAt cX8_seenAt 6 (some .int), Cond.methodLink RX8 49 yX8_covers, Cond.instanceMethod yX8_covers, Cond.selects RX8 yX8_covers yX8_covers, Cond.code yX8_covers cX8_covers 6 (some .boolean), Cond.methodLink RX8 53 yX8_light, Cond.instanceMethod yX8_light, Cond.selects RX8 yX8_light yX8_light, Cond.code yX8_light cX8_light 3 (some .int), Cond.methodLink RX8 45 yX8_burns]
def wsX8_carryOut_r6 : List Cond := [Cond.instanceMethod yX8_burns, Cond.selects RX8 yX8_burns yX8_burns, Cond.code yX8_burns cX8_burns 2 (some .boolean)]
def wsX8_carryOut : List Cond := .code yX8_carryOut cX8_carryOut 3 (some .int) :: ((wsX8_carryOut_r1 ++ (wsX8_carryOut_r2 ++ (wsX8_carryOut_r3 ++ (wsX8_carryOut_r4 ++ (wsX8_carryOut_r5 ++ wsX8_carryOut_r6))))) ++ wsX80)
def wsX8_undo : List Cond := .code yX8_undo cX8_undo 2 (some .int) :: ([.fieldLink RX8 26 "LeaningLinesModel" "known" "I", .fieldLink RX8 7 "LeaningLinesModel" "s" "[I", .fieldLink RX8 13 "LeaningLinesModel" "past" "[I"] ++ wsX80)
def wsX8_save : List Cond := .code yX8_save cX8_save 3 (some .int) :: ([.fieldLink RX8 16 "LeaningLinesModel" "slots" "[I", .fieldLink RX8 7 "LeaningLinesModel" "s" "[I", .fieldLink RX8 19 "LeaningLinesModel" "isSaved" "[Z", .methodLink RX8 30 yX8_in, .static yX8_in, .initialized RX8, .code yX8_in cX8_in 3 (some .boolean)] ++ wsX80)
def wsX8_restore : List Cond := .code yX8_restore cX8_restore 3 (some .int) :: ([.fieldLink RX8 19 "LeaningLinesModel" "isSaved" "[Z", .fieldLink RX8 7 "LeaningLinesModel" "s" "[I", .fieldLink RX8 16 "LeaningLinesModel" "slots" "[I", .methodLink RX8 30 yX8_in, .static yX8_in, .initialized RX8, .code yX8_in cX8_in 3 (some .boolean), .methodLink RX8 60 yX8_remembers, .instanceMethod yX8_remembers, .selects RX8 yX8_remembers yX8_remembers, .code yX8_remembers cX8_remembers 2 none, .fieldLink RX8 26 "LeaningLinesModel" "known" "I", .fieldLink RX8 13 "LeaningLinesModel" "past" "[I"] ++ wsX80)
def wsJ9_max_7cf53 : List Cond := .code yJ9_max_7cf53 cJ9_max_7cf53 2 (some .int) :: ([])
def wsJ9_min_7cf53 : List Cond := .code yJ9_min_7cf53 cJ9_min_7cf53 2 (some .int) :: ([])
def wsL_law_r1 : List Cond := [Cond.classLink RL 7 RX7, Cond.instantiable RX7 6, Cond.initialized RX7, Cond.classLink RL 10 RX8, Cond.instantiable RX8 7, Cond.initialized RX8, Cond.constantLong RL 86 (4294967295), Cond.methodLink RL 9 yX7_init, Cond.instanceMethod yX7_init, Cond.code yX7_init cX7_init 1 none, Cond.methodLink RX7 1 objectInit, Cond.instanceMethod objectInit, Cond.code objectInit ⟨#[0xb1]⟩ 1 none, Cond.classLink RX7 7 RX5, Cond.instantiable RX5 7, Cond.initialized RX5, Cond.fieldLink RX7 10 "LeaningLines" "scene" "LLeaningLines$Scene;", Cond.classLink RX7 16 RX0, Cond.instantiable RX0 3, Cond.initialized RX0, Cond.fieldLink RX7 19 "LeaningLines" "camera" "LLeaningLines$Camera;", Cond.classLink RX7 23 RX1, Cond.instantiable RX1 3, Cond.initialized RX1]
def wsL_law_r2 : List Cond := [Cond.fieldLink RX7 26 "LeaningLines" "history" "LLeaningLines$History;", Cond.fieldLink RX7 30 "LeaningLines" "slots" "[LLeaningLines$Scene;", Cond.classLink RX7 34 RX2, Cond.instantiable RX2 2, Cond.initialized RX2, Cond.fieldLink RX7 37 "LeaningLines" "pad" "LLeaningLines$Pad;", Cond.classLink RX7 41 RX4, Cond.instantiable RX4 4, Cond.initialized RX4, Cond.fieldLink RX7 46 "LeaningLines" "reader" "LLeaningLines$Reader;", Cond.instanceMethod yX5_init, Cond.code yX5_init cX5_init 1 none, Cond.methodLink RX5 3 objectInit, Cond.methodLink RX5 13 ⟨"[I", "clone", "()Ljava/lang/Object;"⟩, Cond.sameMethod "[I" "java/lang/Object" "clone" "()Ljava/lang/Object;", Cond.native ⟨"java/lang/Object", "clone", "()Ljava/lang/Object;"⟩, Cond.instanceMethod ⟨"java/lang/Object", "clone", "()Ljava/lang/Object;"⟩, Cond.selects "[I" ⟨"[I", "clone", "()Ljava/lang/Object;"⟩ ⟨"java/lang/Object", "clone", "()Ljava/lang/Object;"⟩, Cond.classLink RX5 14 "[I", Cond.fieldLink RX5 18 "LeaningLines$Scene" "settings" "[I", Cond.classLink RX5 23 RX6, Cond.instantiable RX6 10, Cond.initialized RX6, Cond.fieldLink RX5 26 "LeaningLines$Scene" "things" "LLeaningLines$Things;"]
def wsL_law_r3 : List Cond := [Cond.classLink RX5 30 RX3, Cond.instantiable RX3 1, Cond.initialized RX3, Cond.fieldLink RX5 33 "LeaningLines$Scene" "picture" "LLeaningLines$Picture;", Cond.fieldLink RX5 37 "LeaningLines$Scene" "time" "I", Cond.fieldLink RX5 41 "LeaningLines$Scene" "pictures" "I", Cond.fieldLink RX5 44 "LeaningLines$Scene" "flashTime" "I", Cond.fieldLink RX5 47 "LeaningLines$Scene" "flashTicks" "I", Cond.instanceMethod yX6_init, Cond.code yX6_init cX6_init 1 none, Cond.methodLink RX6 3 objectInit, Cond.arrayClass .int, Cond.fieldLink RX6 9 "LeaningLines$Things" "line" "[I", Cond.fieldLink RX6 15 "LeaningLines$Things" "high" "[I", Cond.fieldLink RX6 18 "LeaningLines$Things" "wide" "[I", Cond.fieldLink RX6 21 "LeaningLines$Things" "brightness" "[I", Cond.fieldLink RX6 24 "LeaningLines$Things" "speed" "[I", Cond.fieldLink RX6 27 "LeaningLines$Things" "since" "[I", Cond.fieldLink RX6 30 "LeaningLines$Things" "left" "[I", Cond.fieldLink RX6 33 "LeaningLines$Things" "under" "[I", Cond.fieldLink RX6 36 "LeaningLines$Things" "underLeft" "[I", Cond.instanceMethod yX3_init, Cond.code yX3_init cX3_init 1 none, Cond.methodLink RX3 3 objectInit]
def wsL_law_r4 : List Cond := [Cond.fieldLink RX3 9 "LeaningLines$Picture" "pixels" "[I", Cond.instanceMethod yX0_init, Cond.code yX0_init cX0_init 1 none, Cond.methodLink RX0 3 objectInit, Cond.fieldLink RX0 9 "LeaningLines$Camera" "leaning" "[I", Cond.fieldLink RX0 15 "LeaningLines$Camera" "upright" "[I", Cond.fieldLink RX0 18 "LeaningLines$Camera" "rises" "[I", Cond.instanceMethod yX1_init, Cond.code yX1_init cX1_init 1 none, Cond.methodLink RX1 3 objectInit, Cond.classLink RX1 9 RX5, Cond.fieldLink RX1 11 "LeaningLines$History" "states" "[LLeaningLines$Scene;", Cond.fieldLink RX1 17 "LeaningLines$History" "next" "I", Cond.fieldLink RX1 21 "LeaningLines$History" "many" "I", Cond.instanceMethod yX2_init, Cond.code yX2_init cX2_init 1 none, Cond.methodLink RX2 3 objectInit, Cond.arrayClass .char, Cond.fieldLink RX2 9 "LeaningLines$Pad" "text" "[C", Cond.fieldLink RX2 15 "LeaningLines$Pad" "length" "I", Cond.methodLink RX7 43 yX4_init, Cond.instanceMethod yX4_init, Cond.code yX4_init cX4_init 2 none, Cond.methodLink RX4 3 objectInit]
def wsL_law_r5 : List Cond := [Cond.fieldLink RX4 9 "LeaningLines$Reader" "at" "I", Cond.fieldLink RX4 15 "LeaningLines$Reader" "kind" "C", Cond.fieldLink RX4 19 "LeaningLines$Reader" "values" "[I", Cond.fieldLink RX4 23 "LeaningLines$Reader" "pad" "LLeaningLines$Pad;", Cond.methodLink RL 12 yX8_init, Cond.instanceMethod yX8_init, Cond.code yX8_init cX8_init 1 none, Cond.methodLink RX8 1 objectInit, Cond.fieldLink RX8 7 "LeaningLinesModel" "s" "[I", Cond.fieldLink RX8 13 "LeaningLinesModel" "past" "[I", Cond.fieldLink RX8 16 "LeaningLinesModel" "slots" "[I", Cond.arrayClass .boolean, Cond.fieldLink RX8 19 "LeaningLinesModel" "isSaved" "[Z", Cond.fieldLink RX8 23 "LeaningLinesModel" "pad" "[I", Cond.methodLink RL 13 yX7_set, Cond.instanceMethod yX7_set, Cond.selects RX7 yX7_set yX7_set, Cond.code yX7_set cX7_set 4 (some .int), Cond.fieldLink RX7 54 "LeaningLines" "LEAST_VALUES" "[I", Cond.fieldLink RX7 58 "LeaningLines" "MOST_VALUES" "[I", Cond.fieldLink RX7 65 "LeaningLines$Scene" "settings" "[I", Cond.methodLink RX7 50 yX7_within, Cond.static yX7_within, Cond.code yX7_within cX7_within 3 (some .boolean)]
def wsL_law_r6 : List Cond := [Cond.methodLink RX7 61 yX1_record, Cond.instanceMethod yX1_record, Cond.selects RX1 yX1_record yX1_record, Cond.code yX1_record cX1_record 3 none, Cond.methodLink RX1 29 Lib.Math.min.name, Cond.static Lib.Math.min.name, Cond.initialized "java/lang/Math", Cond.code Lib.Math.min.name Lib.Math.min.code 2 (some .int), Cond.methodLink RX1 25 yX5_copyFrom, Cond.instanceMethod yX5_copyFrom, Cond.selects RX5 yX5_copyFrom yX5_copyFrom, Cond.code yX5_copyFrom cX5_copyFrom 2 none, Cond.methodLink RX5 58 arraycopyName, Cond.native arraycopyName, Cond.static arraycopyName, Cond.initialized "java/lang/System", Cond.methodLink RX5 64 yX6_copyFrom, Cond.instanceMethod yX6_copyFrom, Cond.selects RX6 yX6_copyFrom yX6_copyFrom, Cond.code yX6_copyFrom cX6_copyFrom 2 none, Cond.fieldLink RX6 39 "LeaningLines$Things" "many" "I", Cond.methodLink RX6 56 arraycopyName, Cond.methodLink RX5 68 yX3_copyFrom, Cond.instanceMethod yX3_copyFrom]
def wsL_law_r7 : List Cond := [Cond.selects RX3 yX3_copyFrom yX3_copyFrom, Cond.code yX3_copyFrom cX3_copyFrom 2 none, Cond.methodLink RX3 15 arraycopyName, Cond.methodLink RL 17 yX8_set, Cond.instanceMethod yX8_set, Cond.selects RX8 yX8_set yX8_set, Cond.code yX8_set cX8_set 5 (some .int), Cond.methodLink RX8 30 yX8_in, Cond.static yX8_in, Cond.code yX8_in cX8_in 3 (some .boolean), Cond.methodLink RX8 60 yX8_remembers, Cond.instanceMethod yX8_remembers, Cond.selects RX8 yX8_remembers yX8_remembers, Cond.code yX8_remembers cX8_remembers 2 none, Cond.fieldLink RX8 26 "LeaningLinesModel" "known" "I", Cond.methodLink RL 18 yX7_thing, Cond.instanceMethod yX7_thing, Cond.selects RX7 yX7_thing yX7_thing, Cond.code yX7_thing cX7_thing 7 (some .int), Cond.fieldLink RX7 72 "LeaningLines$Scene" "things" "LLeaningLines$Things;", Cond.fieldLink RX7 76 "LeaningLines$Scene" "time" "I", Cond.methodLink RX7 68 yX7_errorOfThing, Cond.instanceMethod yX7_errorOfThing, Cond.selects RX7 yX7_errorOfThing yX7_errorOfThing]
def wsL_law_r8 : List Cond := [Cond.code yX7_errorOfThing cX7_errorOfThing 6 (some .int), Cond.fieldLink RX7 176 "LeaningLines$Things" "many" "I", Cond.methodLink RX7 156 yX7_isPlace, Cond.static yX7_isPlace, Cond.code yX7_isPlace cX7_isPlace 2 (some .boolean), Cond.methodLink RX7 80 yX6_add, Cond.instanceMethod yX6_add, Cond.selects RX6 yX6_add yX6_add, Cond.code yX6_add cX6_add 8 (some .int), Cond.methodLink RL 22 yX8_thing, Cond.instanceMethod yX8_thing, Cond.selects RX8 yX8_thing yX8_thing, Cond.code yX8_thing cX8_thing 7 (some .int), Cond.methodLink RX8 63 yX8_whyNotThing, Cond.instanceMethod yX8_whyNotThing, Cond.selects RX8 yX8_whyNotThing yX8_whyNotThing, Cond.code yX8_whyNotThing cX8_whyNotThing 7 (some .int), Cond.methodLink RX8 67 yX8_comes, Cond.instanceMethod yX8_comes, Cond.selects RX8 yX8_comes yX8_comes, Cond.code yX8_comes cX8_comes 7 (some .int), Cond.methodLink RL 23 yX7_speed, Cond.instanceMethod yX7_speed, Cond.selects RX7 yX7_speed yX7_speed]
def wsL_law_r9 : List Cond := [Cond.code yX7_speed cX7_speed 4 (some .int), Cond.fieldLink RX7 93 "LeaningLines$Things" "speed" "[I", Cond.fieldLink RX7 96 "LeaningLines$Things" "under" "[I", Cond.methodLink RX7 86 yX7_isThing, Cond.instanceMethod yX7_isThing, Cond.selects RX7 yX7_isThing yX7_isThing, Cond.code yX7_isThing cX7_isThing 2 (some .boolean), Cond.methodLink RX7 90 yX7_isSpeed, Cond.static yX7_isSpeed, Cond.code yX7_isSpeed cX7_isSpeed 1 (some .boolean), Cond.methodLink RX7 99 yX6_comeAnew, Cond.instanceMethod yX6_comeAnew, Cond.selects RX6 yX6_comeAnew yX6_comeAnew, Cond.code yX6_comeAnew cX6_comeAnew 5 none, Cond.methodLink RX6 43 yX6_leftAt, Cond.instanceMethod yX6_leftAt, Cond.selects RX6 yX6_leftAt yX6_leftAt, Cond.code yX6_leftAt cX6_leftAt 6 (some .int), Cond.methodLink RX6 47 yJ9_floorDiv_7cf53, Cond.static yJ9_floorDiv_7cf53, Cond.initialized RJ9, Cond.code yJ9_floorDiv_7cf53 cJ9_floorDiv_7cf53 3 (some .int), Cond.methodLink RL 26 yX8_speed, Cond.instanceMethod yX8_speed]
def wsL_law_r10 : List Cond := [Cond.selects RX8 yX8_speed yX8_speed, Cond.code yX8_speed cX8_speed 4 (some .int), Cond.methodLink RX8 70 yX8_isThing, Cond.instanceMethod yX8_isThing, Cond.selects RX8 yX8_isThing yX8_isThing, Cond.code yX8_isThing cX8_isThing 2 (some .boolean), Cond.methodLink RX8 34 yX8_its, Cond.instanceMethod yX8_its, Cond.selects RX8 yX8_its yX8_its, Cond.code yX8_its cX8_its 3 (some .int), Cond.methodLink RX8 73 yX8_anew, Cond.instanceMethod yX8_anew, Cond.selects RX8 yX8_anew yX8_anew, Cond.code yX8_anew cX8_anew 5 none, Cond.methodLink RX8 42 yX8_left, Cond.instanceMethod yX8_left, Cond.selects RX8 yX8_left yX8_left, Cond.code yX8_left cX8_left 5 (some .int), Cond.methodLink RX8 38 yX8_tenth, Cond.static yX8_tenth, Cond.code yX8_tenth cX8_tenth 1 (some .int), Cond.methodLink RL 27 yX7_ride, Cond.instanceMethod yX7_ride, Cond.selects RX7 yX7_ride yX7_ride]
def wsL_law_r11 : List Cond := [Cond.code yX7_ride cX7_ride 4 (some .int), Cond.methodLink RX7 103 yX7_canRide, Cond.static yX7_canRide, Cond.code yX7_canRide cX7_canRide 2 (some .boolean), Cond.methodLink RL 30 yX8_ride, Cond.instanceMethod yX8_ride, Cond.selects RX8 yX8_ride yX8_ride, Cond.code yX8_ride cX8_ride 4 (some .int), Cond.methodLink RL 31 yX7_flash, Cond.instanceMethod yX7_flash, Cond.selects RX7 yX7_flash yX7_flash, Cond.code yX7_flash cX7_flash 4 (some .int), Cond.fieldLink RX7 115 "LeaningLines$Scene" "flashTime" "I", Cond.methodLink RX7 107 yX7_errorOfFlash, Cond.instanceMethod yX7_errorOfFlash, Cond.selects RX7 yX7_errorOfFlash yX7_errorOfFlash, Cond.code yX7_errorOfFlash cX7_errorOfFlash 3 (some .int), Cond.methodLink RX7 111 yX5_setFlash, Cond.instanceMethod yX5_setFlash, Cond.selects RX5 yX5_setFlash yX5_setFlash, Cond.code yX5_setFlash cX5_setFlash 3 none, Cond.methodLink RL 34 yX8_flash, Cond.instanceMethod yX8_flash, Cond.selects RX8 yX8_flash yX8_flash]
def wsL_law_r12 : List Cond := [Cond.code yX8_flash cX8_flash 3 (some .int), Cond.methodLink RX8 77 yX8_isFlash, Cond.static yX8_isFlash, Cond.code yX8_isFlash cX8_isFlash 2 (some .boolean), Cond.methodLink RX8 81 yX8_flashes, Cond.instanceMethod yX8_flashes, Cond.selects RX8 yX8_flashes yX8_flashes, Cond.code yX8_flashes cX8_flashes 3 (some .int), Cond.methodLink RL 35 yX7_pass, Cond.instanceMethod yX7_pass, Cond.selects RX7 yX7_pass yX7_pass, Cond.code yX7_pass cX7_pass 3 (some .int), Cond.methodLink RX7 118 yX7_errorOfPass, Cond.instanceMethod yX7_errorOfPass, Cond.selects RX7 yX7_errorOfPass yX7_errorOfPass, Cond.code yX7_errorOfPass cX7_errorOfPass 2 (some .int), Cond.methodLink RL 39 yX8_pass, Cond.instanceMethod yX8_pass, Cond.selects RX8 yX8_pass yX8_pass, Cond.code yX8_pass cX8_pass 3 (some .int), Cond.methodLink RX8 84 yX8_whyNotPass, Cond.instanceMethod yX8_whyNotPass, Cond.selects RX8 yX8_whyNotPass yX8_whyNotPass, Cond.code yX8_whyNotPass cX8_whyNotPass 2 (some .int)]
def wsL_law_r13 : List Cond := [Cond.methodLink RL 40 yX7_shoot, Cond.instanceMethod yX7_shoot, Cond.selects RX7 yX7_shoot yX7_shoot, Cond.code yX7_shoot cX7_shoot 2 (some .int), Cond.fieldLink RX7 129 "LeaningLines$Scene" "picture" "LLeaningLines$Picture;", Cond.methodLink RX7 122 yX7_errorOfShoot, Cond.instanceMethod yX7_errorOfShoot, Cond.selects RX7 yX7_errorOfShoot yX7_errorOfShoot, Cond.code yX7_errorOfShoot cX7_errorOfShoot 1 (some .int), Cond.methodLink RX7 249 yX5_endOfPicture, Cond.instanceMethod yX5_endOfPicture, Cond.selects RX5 yX5_endOfPicture yX5_endOfPicture, Cond.code yX5_endOfPicture cX5_endOfPicture 1 (some .int), Cond.methodLink RX5 50 yX5_beginOf, Cond.instanceMethod yX5_beginOf, Cond.selects RX5 yX5_beginOf yX5_beginOf, Cond.code yX5_beginOf cX5_beginOf 2 (some .int), Cond.methodLink RX7 126 yX0_takePicture, Cond.instanceMethod yX0_takePicture, Cond.selects RX0 yX0_takePicture yX0_takePicture, Cond.code yX0_takePicture cX0_takePicture 3 none, Cond.fieldLink RX0 27 "LeaningLines$Scene" "settings" "[I", Cond.fieldLink RX0 34 "LeaningLines$Scene" "picture" "LLeaningLines$Picture;", Cond.fieldLink RX0 48 "LeaningLines$Scene" "time" "I"]
def wsL_law_r14 : List Cond := [Cond.fieldLink RX0 52 "LeaningLines$Scene" "pictures" "I", Cond.methodLink RX0 21 yX5_beginOf, Cond.methodLink RX0 30 yX0_exposeLine, Cond.instanceMethod yX0_exposeLine, Cond.selects RX0 yX0_exposeLine yX0_exposeLine, Cond.code yX0_exposeLine cX0_exposeLine 8 none, Cond.fieldLink RX0 64 "LeaningLines$Scene" "things" "LLeaningLines$Things;", Cond.methodLink RX0 55 yJ7_fill_53178, Cond.static yJ7_fill_53178, Cond.initialized RJ7, Cond.code yJ7_fill_53178 cJ7_fill_53178 4 none, Cond.methodLink RX0 61 yX5_lightAt, Cond.instanceMethod yX5_lightAt, Cond.selects RX5 yX5_lightAt yX5_lightAt, Cond.code yX5_lightAt cX5_lightAt 3 (some .int), Cond.methodLink RX0 68 yX0_findRises, Cond.instanceMethod yX0_findRises, Cond.selects RX0 yX0_findRises yX0_findRises, Cond.code yX0_findRises cX0_findRises 6 none, Cond.fieldLink RX0 81 "LeaningLines$Things" "many" "I", Cond.fieldLink RX0 96 "LeaningLines$Things" "brightness" "[I", Cond.fieldLink RX0 99 "LeaningLines$Things" "wide" "[I", Cond.methodLink RX0 86 yX6_isInLine, Cond.instanceMethod yX6_isInLine]
def wsL_law_r15 : List Cond := [Cond.selects RX6 yX6_isInLine yX6_isInLine, Cond.code yX6_isInLine cX6_isInLine 3 (some .boolean), Cond.methodLink RX0 90 yX6_leftAt, Cond.methodLink RX0 93 yX0_nearestEdge, Cond.static yX0_nearestEdge, Cond.code yX0_nearestEdge cX0_nearestEdge 1 (some .int), Cond.methodLink RX0 75 Lib.Math.min.name, Cond.methodLink RX0 102 Lib.Math.max.name, Cond.static Lib.Math.max.name, Cond.code Lib.Math.max.name Lib.Math.max.code 2 (some .int), Cond.methodLink RX0 72 yX0_addLight, Cond.instanceMethod yX0_addLight, Cond.selects RX0 yX0_addLight yX0_addLight, Cond.code yX0_addLight cX0_addLight 5 none, Cond.methodLink RX0 38 yX3_putLine, Cond.instanceMethod yX3_putLine, Cond.selects RX3 yX3_putLine yX3_putLine, Cond.code yX3_putLine cX3_putLine 3 none, Cond.methodLink RX0 44 yX5_endOfPicture, Cond.methodLink RX7 133 yX3_sumOfAll, Cond.instanceMethod yX3_sumOfAll, Cond.selects RX3 yX3_sumOfAll yX3_sumOfAll, Cond.code yX3_sumOfAll cX3_sumOfAll 3 (some .int), Cond.methodLink RX3 25 yX3_sumOfLine]
def wsL_law_r16 : List Cond := [Cond.instanceMethod yX3_sumOfLine, Cond.selects RX3 yX3_sumOfLine yX3_sumOfLine, Cond.code yX3_sumOfLine cX3_sumOfLine 4 (some .int), Cond.methodLink RX3 21 yX3_pixelAt, Cond.instanceMethod yX3_pixelAt, Cond.selects RX3 yX3_pixelAt yX3_pixelAt, Cond.code yX3_pixelAt cX3_pixelAt 3 (some .int), Cond.methodLink RL 44 yX8_shoot, Cond.instanceMethod yX8_shoot, Cond.selects RX8 yX8_shoot yX8_shoot, Cond.code yX8_shoot cX8_shoot 1 (some .int), Cond.methodLink RX8 90 yX8_whyNotShoot, Cond.instanceMethod yX8_whyNotShoot, Cond.selects RX8 yX8_whyNotShoot yX8_whyNotShoot, Cond.code yX8_whyNotShoot cX8_whyNotShoot 1 (some .int), Cond.methodLink RX8 94 yX8_shoots, Cond.instanceMethod yX8_shoots, Cond.selects RX8 yX8_shoots yX8_shoots, Cond.code yX8_shoots cX8_shoots 4 (some .int), Cond.methodLink RX8 87 yX8_exposed, Cond.instanceMethod yX8_exposed, Cond.selects RX8 yX8_exposed yX8_exposed, Cond.code yX8_exposed cX8_exposed 6 (some .int), Cond.methodLink RX8 56 yX8_seenAt]
def wsL_law_r17 : List Cond := [Cond.instanceMethod yX8_seenAt, Cond.selects RX8 yX8_seenAt yX8_seenAt, Cond.code yX8_seenAt cX8_seenAt 6 (some .int), Cond.methodLink RX8 49 yX8_covers, Cond.instanceMethod yX8_covers, Cond.selects RX8 yX8_covers yX8_covers, Cond.code yX8_covers cX8_covers 6 (some .boolean), Cond.methodLink RX8 53 yX8_light, Cond.instanceMethod yX8_light, Cond.selects RX8 yX8_light yX8_light, Cond.code yX8_light cX8_light 3 (some .int), Cond.methodLink RX8 45 yX8_burns, Cond.instanceMethod yX8_burns, Cond.selects RX8 yX8_burns yX8_burns, Cond.code yX8_burns cX8_burns 2 (some .boolean), Cond.methodLink RL 45 yX7_of, Cond.instanceMethod yX7_of, Cond.selects RX7 yX7_of yX7_of, Cond.code yX7_of cX7_of 4 (some .int), Cond.fieldLink RX7 138 "LeaningLines$Things" "line" "[I", Cond.fieldLink RX7 144 "LeaningLines$Things" "high" "[I", Cond.fieldLink RX7 147 "LeaningLines$Things" "wide" "[I", Cond.fieldLink RX7 150 "LeaningLines$Things" "brightness" "[I", Cond.methodLink RX7 141 yX6_leftAt]
def wsL_law_r18 : List Cond := [Cond.methodLink RX7 153 yX6_speedWithAllUnder, Cond.instanceMethod yX6_speedWithAllUnder, Cond.selects RX6 yX6_speedWithAllUnder yX6_speedWithAllUnder, Cond.code yX6_speedWithAllUnder cX6_speedWithAllUnder 5 (some .int), Cond.methodLink RL 48 yX8_of, Cond.instanceMethod yX8_of, Cond.selects RX8 yX8_of yX8_of, Cond.code yX8_of cX8_of 3 (some .int), Cond.methodLink RX8 97 yX8_goes, Cond.instanceMethod yX8_goes, Cond.selects RX8 yX8_goes yX8_goes, Cond.code yX8_goes cX8_goes 4 (some .int), Cond.methodLink RL 49 yX7_pixel, Cond.instanceMethod yX7_pixel, Cond.selects RX7 yX7_pixel yX7_pixel, Cond.code yX7_pixel cX7_pixel 3 (some .int), Cond.methodLink RX7 159 yX3_pixelAt, Cond.methodLink RL 52 yX8_pixel, Cond.instanceMethod yX8_pixel, Cond.selects RX8 yX8_pixel yX8_pixel, Cond.code yX8_pixel cX8_pixel 3 (some .int), Cond.methodLink RX8 100 yX8_isPixel, Cond.static yX8_isPixel, Cond.code yX8_isPixel cX8_isPixel 2 (some .boolean)]
def wsL_law_r19 : List Cond := [Cond.methodLink RL 53 yX7_joined, Cond.instanceMethod yX7_joined, Cond.selects RX7 yX7_joined yX7_joined, Cond.code yX7_joined cX7_joined 7 (some .int), Cond.methodLink RX7 162 Lib.Math.min.name, Cond.methodLink RL 56 yX8_joined, Cond.instanceMethod yX8_joined, Cond.selects RX8 yX8_joined yX8_joined, Cond.code yX8_joined cX8_joined 5 (some .int), Cond.methodLink RL 57 yX7_ofLine, Cond.instanceMethod yX7_ofLine, Cond.selects RX7 yX7_ofLine yX7_ofLine, Cond.code yX7_ofLine cX7_ofLine 3 (some .int), Cond.methodLink RX7 167 yX3_columnsNotDark, Cond.instanceMethod yX3_columnsNotDark, Cond.selects RX3 yX3_columnsNotDark yX3_columnsNotDark, Cond.code yX3_columnsNotDark cX3_columnsNotDark 4 (some .int), Cond.methodLink RX7 170 yX3_sumOfLine, Cond.methodLink RX7 173 yX3_leftmostNotDark, Cond.instanceMethod yX3_leftmostNotDark, Cond.selects RX3 yX3_leftmostNotDark yX3_leftmostNotDark, Cond.code yX3_leftmostNotDark cX3_leftmostNotDark 3 (some .int), Cond.methodLink RL 60 yX8_ofLine, Cond.instanceMethod yX8_ofLine]
def wsL_law_r20 : List Cond := [Cond.selects RX8 yX8_ofLine yX8_ofLine, Cond.code yX8_ofLine cX8_ofLine 3 (some .int), Cond.methodLink RX8 103 yX8_lit, Cond.instanceMethod yX8_lit, Cond.selects RX8 yX8_lit yX8_lit, Cond.code yX8_lit cX8_lit 4 (some .int), Cond.methodLink RX8 106 yX8_sumOf, Cond.instanceMethod yX8_sumOf, Cond.selects RX8 yX8_sumOf yX8_sumOf, Cond.code yX8_sumOf cX8_sumOf 4 (some .int), Cond.methodLink RX8 109 yX8_leftmost, Cond.instanceMethod yX8_leftmost, Cond.selects RX8 yX8_leftmost yX8_leftmost, Cond.code yX8_leftmost cX8_leftmost 3 (some .int), Cond.methodLink RL 61 yX7_count, Cond.instanceMethod yX7_count, Cond.selects RX7 yX7_count yX7_count, Cond.code yX7_count cX7_count 2 (some .int), Cond.fieldLink RX7 179 "LeaningLines$Scene" "pictures" "I", Cond.fieldLink RX7 191 "LeaningLines$Scene" "flashTicks" "I", Cond.fieldLink RX7 194 "LeaningLines$Pad" "length" "I", Cond.fieldLink RX7 197 "LeaningLines$History" "many" "I", Cond.methodLink RX7 182 yX3_darkLines, Cond.instanceMethod yX3_darkLines]
def wsL_law_r21 : List Cond := [Cond.selects RX3 yX3_darkLines yX3_darkLines, Cond.code yX3_darkLines cX3_darkLines 3 (some .int), Cond.methodLink RX3 29 yX3_columnsNotDark, Cond.methodLink RX7 185 yX3_brightest, Cond.instanceMethod yX3_brightest, Cond.selects RX3 yX3_brightest yX3_brightest, Cond.code yX3_brightest cX3_brightest 4 (some .int), Cond.methodLink RX3 32 Lib.Math.max.name, Cond.methodLink RX7 188 yX3_bands, Cond.instanceMethod yX3_bands, Cond.selects RX3 yX3_bands yX3_bands, Cond.code yX3_bands cX3_bands 3 (some .int), Cond.methodLink RL 64 yX8_count, Cond.instanceMethod yX8_count, Cond.selects RX8 yX8_count yX8_count, Cond.code yX8_count cX8_count 2 (some .int), Cond.fieldLink RX8 121 "LeaningLinesModel" "length" "I", Cond.methodLink RX8 112 yX8_darkLines, Cond.instanceMethod yX8_darkLines, Cond.selects RX8 yX8_darkLines yX8_darkLines, Cond.code yX8_darkLines cX8_darkLines 3 (some .int), Cond.methodLink RX8 115 yX8_brightest, Cond.instanceMethod yX8_brightest, Cond.selects RX8 yX8_brightest yX8_brightest]
def wsL_law_r22 : List Cond := [Cond.code yX8_brightest cX8_brightest 3 (some .int), Cond.methodLink RX8 118 yX8_bands, Cond.instanceMethod yX8_bands, Cond.selects RX8 yX8_bands yX8_bands, Cond.code yX8_bands cX8_bands 3 (some .int), Cond.methodLink RL 65 yX7_seen, Cond.instanceMethod yX7_seen, Cond.selects RX7 yX7_seen yX7_seen, Cond.code yX7_seen cX7_seen 4 (some .int), Cond.methodLink RX7 198 yX0_brightnessAt, Cond.instanceMethod yX0_brightnessAt, Cond.selects RX0 yX0_brightnessAt yX0_brightnessAt, Cond.code yX0_brightnessAt cX0_brightnessAt 5 (some .int), Cond.methodLink RL 69 yX8_seen, Cond.instanceMethod yX8_seen, Cond.selects RX8 yX8_seen yX8_seen, Cond.code yX8_seen cX8_seen 4 (some .int), Cond.methodLink RL 70 yX7_leans, Cond.instanceMethod yX7_leans, Cond.selects RX7 yX7_leans yX7_leans, Cond.code yX7_leans cX7_leans 6 (some .int), Cond.methodLink RX7 202 yX5_beginOf, Cond.methodLink RL 73 yX8_leans, Cond.instanceMethod yX8_leans]
def wsL_law_r23 : List Cond := [Cond.selects RX8 yX8_leans yX8_leans, Cond.code yX8_leans cX8_leans 4 (some .int), Cond.methodLink RL 74 yX7_bent, Cond.instanceMethod yX7_bent, Cond.selects RX7 yX7_bent yX7_bent, Cond.code yX7_bent cX7_bent 1 (some .int), Cond.methodLink RX7 205 yX0_pixelsBent, Cond.instanceMethod yX0_pixelsBent, Cond.selects RX0 yX0_pixelsBent yX0_pixelsBent, Cond.code yX0_pixelsBent cX0_pixelsBent 5 (some .int), Cond.methodLink RL 77 yX8_bent, Cond.instanceMethod yX8_bent, Cond.selects RX8 yX8_bent yX8_bent, Cond.code yX8_bent cX8_bent 4 (some .int), Cond.methodLink RL 78 yX7_flashed, Cond.instanceMethod yX7_flashed, Cond.selects RX7 yX7_flashed yX7_flashed, Cond.code yX7_flashed cX7_flashed 1 (some .int), Cond.methodLink RX7 209 yX5_linesFlashed, Cond.instanceMethod yX5_linesFlashed, Cond.selects RX5 yX5_linesFlashed yX5_linesFlashed, Cond.code yX5_linesFlashed cX5_linesFlashed 6 (some .int), Cond.methodLink RL 81 yX8_flashed, Cond.instanceMethod yX8_flashed]
def wsL_law_r24 : List Cond := [Cond.selects RX8 yX8_flashed yX8_flashed, Cond.code yX8_flashed cX8_flashed 1 (some .int), Cond.methodLink RX8 124 yX8_burnsIn, Cond.instanceMethod yX8_burnsIn, Cond.selects RX8 yX8_burnsIn yX8_burnsIn, Cond.code yX8_burnsIn cX8_burnsIn 6 (some .int), Cond.methodLink RL 82 yX7_bestFlash, Cond.instanceMethod yX7_bestFlash, Cond.selects RX7 yX7_bestFlash yX7_bestFlash, Cond.code yX7_bestFlash cX7_bestFlash 7 (some .int), Cond.methodLink RX7 212 yJ6_bitCount_0f7a4, Cond.static yJ6_bitCount_0f7a4, Cond.initialized RJ6, Cond.code yJ6_bitCount_0f7a4 cJ6_bitCount_0f7a4 1 (some .int), Cond.constant RJ6 265 (1431655765), Cond.constant RJ6 266 (858993459), Cond.constant RJ6 267 (252645135), Cond.methodLink RL 85 yX8_bestFlash, Cond.instanceMethod yX8_bestFlash, Cond.selects RX8 yX8_bestFlash yX8_bestFlash, Cond.code yX8_bestFlash cX8_bestFlash 7 (some .int), Cond.methodLink RX8 127 yX8_ones, Cond.static yX8_ones, Cond.code yX8_ones cX8_ones 3 (some .int)]
def wsL_law_r25 : List Cond := [Cond.methodLink RL 88 yX7_put, Cond.instanceMethod yX7_put, Cond.selects RX7 yX7_put yX7_put, Cond.code yX7_put cX7_put 4 (some .int), Cond.methodLink RX7 217 yX2_charactersIn, Cond.static yX2_charactersIn, Cond.code yX2_charactersIn cX2_charactersIn 5 (some .int), Cond.constantLong RX2 19 (255), Cond.methodLink RX7 221 yX2_append, Cond.instanceMethod yX2_append, Cond.selects RX2 yX2_append yX2_append, Cond.code yX2_append cX2_append 5 none, Cond.methodLink RL 92 yX8_put, Cond.instanceMethod yX8_put, Cond.selects RX8 yX8_put yX8_put, Cond.code yX8_put cX8_put 8 (some .int), Cond.constantLong RX8 130 (255), Cond.methodLink RL 93 yX7_wipe, Cond.instanceMethod yX7_wipe, Cond.selects RX7 yX7_wipe yX7_wipe, Cond.code yX7_wipe cX7_wipe 2 (some .int), Cond.methodLink RL 96 yX8_wipe, Cond.instanceMethod yX8_wipe, Cond.selects RX8 yX8_wipe yX8_wipe]
def wsL_law_r26 : List Cond := [Cond.code yX8_wipe cX8_wipe 2 (some .int), Cond.methodLink RL 97 yX7_fault, Cond.instanceMethod yX7_fault, Cond.selects RX7 yX7_fault yX7_fault, Cond.code yX7_fault cX7_fault 1 (some .int), Cond.methodLink RX7 225 yX4_findFault, Cond.instanceMethod yX4_findFault, Cond.selects RX4 yX4_findFault yX4_findFault, Cond.code yX4_findFault cX4_findFault 3 (some .int), Cond.fieldLink RX4 35 "LeaningLines$Pad" "length" "I", Cond.methodLink RX4 27 yX4_readOrder, Cond.instanceMethod yX4_readOrder, Cond.selects RX4 yX4_readOrder yX4_readOrder, Cond.code yX4_readOrder cX4_readOrder 1 (some .boolean), Cond.methodLink RX4 40 yX2_characterAt, Cond.instanceMethod yX2_characterAt, Cond.selects RX2 yX2_characterAt yX2_characterAt, Cond.code yX2_characterAt cX2_characterAt 2 (some .char), Cond.methodLink RX4 31 yX4_take, Cond.instanceMethod yX4_take, Cond.selects RX4 yX4_take yX4_take, Cond.code yX4_take cX4_take 2 (some .boolean), Cond.methodLink RX4 44 yX4_readThing, Cond.instanceMethod yX4_readThing]
def wsL_law_r27 : List Cond := [Cond.selects RX4 yX4_readThing yX4_readThing, Cond.code yX4_readThing cX4_readThing 3 (some .boolean), Cond.methodLink RX4 47 yX4_readNumber, Cond.instanceMethod yX4_readNumber, Cond.selects RX4 yX4_readNumber yX4_readNumber, Cond.code yX4_readNumber cX4_readNumber 3 (some .boolean), Cond.methodLink RX4 51 yX4_readDigit, Cond.instanceMethod yX4_readDigit, Cond.selects RX4 yX4_readDigit yX4_readDigit, Cond.code yX4_readDigit cX4_readDigit 3 (some .boolean), Cond.methodLink RX4 54 yX4_isDigit, Cond.static yX4_isDigit, Cond.code yX4_isDigit cX4_isDigit 1 (some .boolean), Cond.methodLink RL 100 yX8_fault, Cond.instanceMethod yX8_fault, Cond.selects RX8 yX8_fault yX8_fault, Cond.code yX8_fault cX8_fault 4 (some .int), Cond.methodLink RX8 153 yX8_orderEnd, Cond.instanceMethod yX8_orderEnd, Cond.selects RX8 yX8_orderEnd yX8_orderEnd, Cond.code yX8_orderEnd cX8_orderEnd 3 (some .int), Cond.methodLink RX8 132 yX8_sign, Cond.instanceMethod yX8_sign, Cond.selects RX8 yX8_sign yX8_sign]
def wsL_law_r28 : List Cond := [Cond.code yX8_sign cX8_sign 2 (some .int), Cond.methodLink RX8 144 yX8_sizesEnd, Cond.instanceMethod yX8_sizesEnd, Cond.selects RX8 yX8_sizesEnd yX8_sizesEnd, Cond.code yX8_sizesEnd cX8_sizesEnd 4 (some .int), Cond.methodLink RX8 138 yX8_numberEnd, Cond.instanceMethod yX8_numberEnd, Cond.selects RX8 yX8_numberEnd yX8_numberEnd, Cond.code yX8_numberEnd cX8_numberEnd 2 (some .int), Cond.methodLink RX8 135 yX8_digit, Cond.instanceMethod yX8_digit, Cond.selects RX8 yX8_digit yX8_digit, Cond.code yX8_digit cX8_digit 2 (some .int), Cond.methodLink RX8 141 yX8_behind, Cond.instanceMethod yX8_behind, Cond.selects RX8 yX8_behind yX8_behind, Cond.code yX8_behind cX8_behind 3 (some .int), Cond.methodLink RX8 147 yX8_digitEnd, Cond.instanceMethod yX8_digitEnd, Cond.selects RX8 yX8_digitEnd yX8_digitEnd, Cond.code yX8_digitEnd cX8_digitEnd 2 (some .int), Cond.methodLink RX8 150 yX8_isSpeed, Cond.instanceMethod yX8_isSpeed, Cond.selects RX8 yX8_isSpeed yX8_isSpeed]
def wsL_law_r29 : List Cond := [Cond.code yX8_isSpeed cX8_isSpeed 2 (some .boolean), Cond.methodLink RL 101 yX7_carryOut, Cond.instanceMethod yX7_carryOut, Cond.selects RX7 yX7_carryOut yX7_carryOut, Cond.code yX7_carryOut cX7_carryOut 4 (some .int), Cond.fieldLink RX7 228 "LeaningLines$Reader" "at" "I", Cond.methodLink RX7 231 yX4_readOrder, Cond.methodLink RX7 235 yX7_carryOutOrder, Cond.instanceMethod yX7_carryOutOrder, Cond.selects RX7 yX7_carryOutOrder yX7_carryOutOrder, Cond.code yX7_carryOutOrder cX7_carryOutOrder 2 (some .int), Cond.fieldLink RX7 252 "LeaningLines$Reader" "kind" "C", Cond.methodLink RX7 256 yX7_carryOutThing, Cond.instanceMethod yX7_carryOutThing, Cond.selects RX7 yX7_carryOutThing yX7_carryOutThing, Cond.code yX7_carryOutThing cX7_carryOutThing 7 (some .int), Cond.fieldLink RX7 265 "LeaningLines$Reader" "values" "[I", Cond.methodLink RX7 259 yX7_carryOutFlash, Cond.instanceMethod yX7_carryOutFlash, Cond.selects RX7 yX7_carryOutFlash yX7_carryOutFlash, Cond.code yX7_carryOutFlash cX7_carryOutFlash 4 (some .int), Cond.methodLink RX7 262 yX7_carryOutPass, Cond.instanceMethod yX7_carryOutPass, Cond.selects RX7 yX7_carryOutPass yX7_carryOutPass]
def wsL_law_r30 : List Cond := [Cond.code yX7_carryOutPass cX7_carryOutPass 3 (some .int), Cond.methodLink RX7 238 yX4_take, Cond.methodLink RL 104 yX8_carryOut, Cond.instanceMethod yX8_carryOut, Cond.selects RX8 yX8_carryOut yX8_carryOut, Cond.code yX8_carryOut cX8_carryOut 3 (some .int), Cond.methodLink RX8 162 yX8_fault, Cond.methodLink RX8 165 yX8_carries, Cond.instanceMethod yX8_carries, Cond.selects RX8 yX8_carries yX8_carries, Cond.code yX8_carries cX8_carries 6 (some .int), Cond.methodLink RX8 156 yX8_numberAt, Cond.instanceMethod yX8_numberAt, Cond.selects RX8 yX8_numberAt yX8_numberAt, Cond.code yX8_numberAt cX8_numberAt 2 (some .int), Cond.methodLink RX8 159 yX8_comesBy, Cond.instanceMethod yX8_comesBy, Cond.selects RX8 yX8_comesBy yX8_comesBy, Cond.code yX8_comesBy cX8_comesBy 11 (some .int), Cond.methodLink RL 105 yX7_undo, Cond.instanceMethod yX7_undo, Cond.selects RX7 yX7_undo yX7_undo, Cond.code yX7_undo cX7_undo 1 (some .int), Cond.methodLink RX7 242 yX1_takeBack]
def wsL_law_r31 : List Cond := [Cond.instanceMethod yX1_takeBack, Cond.selects RX1 yX1_takeBack yX1_takeBack, Cond.code yX1_takeBack cX1_takeBack 4 (some .boolean), Cond.methodLink RL 108 yX8_undo, Cond.instanceMethod yX8_undo, Cond.selects RX8 yX8_undo yX8_undo, Cond.code yX8_undo cX8_undo 2 (some .int), Cond.methodLink RL 109 yX7_save, Cond.instanceMethod yX7_save, Cond.selects RX7 yX7_save yX7_save, Cond.code yX7_save cX7_save 3 (some .int), Cond.methodLink RX7 246 yX5_copyFrom, Cond.methodLink RL 112 yX8_save, Cond.instanceMethod yX8_save, Cond.selects RX8 yX8_save yX8_save, Cond.code yX8_save cX8_save 3 (some .int), Cond.methodLink RL 113 yX7_restore, Cond.instanceMethod yX7_restore, Cond.selects RX7 yX7_restore yX7_restore, Cond.code yX7_restore cX7_restore 3 (some .int), Cond.methodLink RL 116 yX8_restore, Cond.instanceMethod yX8_restore, Cond.selects RX8 yX8_restore yX8_restore, Cond.code yX8_restore cX8_restore 3 (some .int)]
def wsL_law : List Cond := (wsL_law_r1 ++ (wsL_law_r2 ++ (wsL_law_r3 ++ (wsL_law_r4 ++ (wsL_law_r5 ++ (wsL_law_r6 ++ (wsL_law_r7 ++ (wsL_law_r8 ++ (wsL_law_r9 ++ (wsL_law_r10 ++ (wsL_law_r11 ++ (wsL_law_r12 ++ (wsL_law_r13 ++ (wsL_law_r14 ++ (wsL_law_r15 ++ (wsL_law_r16 ++ (wsL_law_r17 ++ (wsL_law_r18 ++ (wsL_law_r19 ++ (wsL_law_r20 ++ (wsL_law_r21 ++ (wsL_law_r22 ++ (wsL_law_r23 ++ (wsL_law_r24 ++ (wsL_law_r25 ++ (wsL_law_r26 ++ (wsL_law_r27 ++ (wsL_law_r28 ++ (wsL_law_r29 ++ (wsL_law_r30 ++ wsL_law_r31)))))))))))))))))))))))))))))) ++ wsX70 ++ wsX80 ++ wsX50 ++ wsX00 ++ wsX10 ++ wsX20 ++ wsX40 ++ wsX60 ++ wsX30 ++ ([] : List Cond)
theorem inlX0 : ∀ w ∈ wsX00, w ∈ wsL_law := fun _ h => List.mem_append_left _ (List.mem_append_left _ (List.mem_append_left _ (List.mem_append_left _ (List.mem_append_left _ (List.mem_append_left _ (List.mem_append_right _ h))))))
end
section
theorem inlX1 : ∀ w ∈ wsX10, w ∈ wsL_law := fun _ h => List.mem_append_left _ (List.mem_append_left _ (List.mem_append_left _ (List.mem_append_left _ (List.mem_append_left _ (List.mem_append_right _ h)))))
theorem inlX2 : ∀ w ∈ wsX20, w ∈ wsL_law := fun _ h => List.mem_append_left _ (List.mem_append_left _ (List.mem_append_left _ (List.mem_append_left _ (List.mem_append_right _ h))))
theorem inlX3 : ∀ w ∈ wsX30, w ∈ wsL_law := fun _ h => List.mem_append_left _ (List.mem_append_right _ h)
theorem inlX4 : ∀ w ∈ wsX40, w ∈ wsL_law := fun _ h => List.mem_append_left _ (List.mem_append_left _ (List.mem_append_left _ (List.mem_append_right _ h)))
theorem inlX5 : ∀ w ∈ wsX50, w ∈ wsL_law := fun _ h => List.mem_append_left _ (List.mem_append_left _ (List.mem_append_left _ (List.mem_append_left _ (List.mem_append_left _ (List.mem_append_left _ (List.mem_append_left _ (List.mem_append_right _ h)))))))
theorem inlX6 : ∀ w ∈ wsX60, w ∈ wsL_law := fun _ h => List.mem_append_left _ (List.mem_append_left _ (List.mem_append_right _ h))
theorem inlX7 : ∀ w ∈ wsX70, w ∈ wsL_law := fun _ h => List.mem_append_left _ (List.mem_append_left _ (List.mem_append_left _ (List.mem_append_left _ (List.mem_append_left _ (List.mem_append_left _ (List.mem_append_left _ (List.mem_append_left _ (List.mem_append_left _ (List.mem_append_right _ h)))))))))
theorem inlX8 : ∀ w ∈ wsX80, w ∈ wsL_law := fun _ h => List.mem_append_left _ (List.mem_append_left _ (List.mem_append_left _ (List.mem_append_left _ (List.mem_append_left _ (List.mem_append_left _ (List.mem_append_left _ (List.mem_append_left _ (List.mem_append_right _ h))))))))
theorem inJx8e188 : ∀ w ∈ wsJx8e1880, w ∈ lw_tbl := by decide +kernel
theorem inJ6 : ∀ w ∈ wsJ60, w ∈ lw_tbl := by decide +kernel
theorem inJ9 : ∀ w ∈ wsJ90, w ∈ lw_tbl := by decide +kernel
theorem inJ10 : ∀ w ∈ wsJ100, w ∈ lw_tbl := by decide +kernel
theorem inJ7 : ∀ w ∈ wsJ70, w ∈ lw_tbl := by decide +kernel
theorem dX0_init_0 : decode cX0_init 0 = .ok (.aload_n 0, 1) := by decide +kernel
theorem dX0_init_1 : decode cX0_init 1 = .ok (.invokespecial 3, 3) := by decide +kernel
theorem dX0_init_4 : decode cX0_init 4 = .ok (.aload_n 0, 1) := by decide +kernel
theorem dX0_init_5 : decode cX0_init 5 = .ok (.bipush 24, 2) := by decide +kernel
theorem dX0_init_7 : decode cX0_init 7 = .ok (.newarray .int, 2) := by decide +kernel
theorem dX0_init_9 : decode cX0_init 9 = .ok (.putfield 9, 3) := by decide +kernel
theorem dX0_init_12 : decode cX0_init 12 = .ok (.aload_n 0, 1) := by decide +kernel
theorem dX0_init_13 : decode cX0_init 13 = .ok (.bipush 24, 2) := by decide +kernel
theorem dX0_init_15 : decode cX0_init 15 = .ok (.newarray .int, 2) := by decide +kernel
theorem dX0_init_17 : decode cX0_init 17 = .ok (.putfield 15, 3) := by decide +kernel
theorem dX0_init_20 : decode cX0_init 20 = .ok (.aload_n 0, 1) := by decide +kernel
theorem dX0_init_21 : decode cX0_init 21 = .ok (.bipush 25, 2) := by decide +kernel
theorem dX0_init_23 : decode cX0_init 23 = .ok (.newarray .int, 2) := by decide +kernel
theorem dX0_init_25 : decode cX0_init 25 = .ok (.putfield 18, 3) := by decide +kernel
theorem dX0_init_28 : decode cX0_init 28 = .ok (.return_, 1) := by decide +kernel
set_option maxRecDepth 20000 in
theorem ggX0_takePicture_X5_beginOf : GoodIn wsX0_takePicture wsX5_beginOf := goodIn_r _ [10, 11, 12, 90, 91, 92, 93, 94, 95, 96] (by decide +kernel) (by decide +kernel)
set_option maxRecDepth 20000 in
theorem gX0_takePicture_X5_beginOf : GoodIn wsX0_takePicture (wsV RX0 21 RX5 yX5_beginOf wsX5_beginOf) := goodIn_app (goodIn_of _ (by decide +kernel)) ggX0_takePicture_X5_beginOf
set_option maxRecDepth 20000 in
theorem ggX0_takePicture_X0_exposeLine : GoodIn wsX0_takePicture wsX0_exposeLine := goodIn_r _ [17, 18, 19, 20, 21, 22, 23, 24, 25, 9, 26, 27, 28, 12, 29, 30, 31, 32, 33, 34, 16, 35, 36, 37, 38, 39, 40, 41, 42, 43, 44, 45, 46, 47, 48, 49, 50, 51, 52, 53, 54, 55, 56, 57, 58, 59, 60, 61, 62, 63, 64, 65, 66, 67, 68, 69, 70, 71, 72, 73, 74, 90, 91, 92, 93, 94, 95, 96, 97, 98, 99, 100, 101, 102, 103, 104, 105, 106, 107, 108, 109] (by decide +kernel) (by decide +kernel)
set_option maxRecDepth 20000 in
theorem gX0_takePicture_X0_exposeLine : GoodIn wsX0_takePicture (wsV RX0 30 RX0 yX0_exposeLine wsX0_exposeLine) := goodIn_app (goodIn_of _ (by decide +kernel)) ggX0_takePicture_X0_exposeLine
set_option maxRecDepth 20000 in
theorem ggX0_takePicture_X3_putLine : GoodIn wsX0_takePicture wsX3_putLine := goodIn_r _ [79, 80, 81, 82, 83, 84, 110] (by decide +kernel) (by decide +kernel)
set_option maxRecDepth 20000 in
theorem gX0_takePicture_X3_putLine : GoodIn wsX0_takePicture (wsV RX0 38 RX3 yX3_putLine wsX3_putLine) := goodIn_app (goodIn_of _ (by decide +kernel)) ggX0_takePicture_X3_putLine
set_option maxRecDepth 20000 in
theorem ggX0_takePicture_X5_endOfPicture : GoodIn wsX0_takePicture wsX5_endOfPicture := goodIn_r _ [88, 12, 89, 7, 8, 9, 10, 11, 90, 91, 92, 93, 94, 95, 96] (by decide +kernel) (by decide +kernel)
set_option maxRecDepth 20000 in
theorem gX0_takePicture_X5_endOfPicture : GoodIn wsX0_takePicture (wsV RX0 44 RX5 yX5_endOfPicture wsX5_endOfPicture) := goodIn_app (goodIn_of _ (by decide +kernel)) ggX0_takePicture_X5_endOfPicture
theorem dX0_takePicture_0 : decode cX0_takePicture 0 = .ok (.iconst 0, 1) := by decide +kernel
theorem dX0_takePicture_1 : decode cX0_takePicture 1 = .ok (.istore_n 2, 1) := by decide +kernel
theorem dX0_takePicture_2 : decode cX0_takePicture 2 = .ok (.iload_n 2, 1) := by decide +kernel
theorem dX0_takePicture_3 : decode cX0_takePicture 3 = .ok (.bipush 16, 2) := by decide +kernel
theorem dX0_takePicture_5 : decode cX0_takePicture 5 = .ok (.if_icmp .ge 42, 3) := by decide +kernel
theorem dX0_takePicture_8 : decode cX0_takePicture 8 = .ok (.aload_n 0, 1) := by decide +kernel
theorem dX0_takePicture_9 : decode cX0_takePicture 9 = .ok (.aload_n 1, 1) := by decide +kernel
theorem dX0_takePicture_10 : decode cX0_takePicture 10 = .ok (.iload_n 2, 1) := by decide +kernel
theorem dX0_takePicture_11 : decode cX0_takePicture 11 = .ok (.aload_n 1, 1) := by decide +kernel
theorem dX0_takePicture_12 : decode cX0_takePicture 12 = .ok (.iload_n 2, 1) := by decide +kernel
theorem dX0_takePicture_13 : decode cX0_takePicture 13 = .ok (.invokevirtual 21, 3) := by decide +kernel
theorem dX0_takePicture_16 : decode cX0_takePicture 16 = .ok (.aload_n 1, 1) := by decide +kernel
theorem dX0_takePicture_17 : decode cX0_takePicture 17 = .ok (.getfield 27, 3) := by decide +kernel
theorem dX0_takePicture_20 : decode cX0_takePicture 20 = .ok (.iconst 1, 1) := by decide +kernel
theorem dX0_takePicture_21 : decode cX0_takePicture 21 = .ok (.iaload, 1) := by decide +kernel
theorem dX0_takePicture_22 : decode cX0_takePicture 22 = .ok (.aload_n 0, 1) := by decide +kernel
theorem dX0_takePicture_23 : decode cX0_takePicture 23 = .ok (.getfield 9, 3) := by decide +kernel
theorem dX0_takePicture_26 : decode cX0_takePicture 26 = .ok (.invokevirtual 30, 3) := by decide +kernel
theorem dX0_takePicture_29 : decode cX0_takePicture 29 = .ok (.aload_n 1, 1) := by decide +kernel
theorem dX0_takePicture_30 : decode cX0_takePicture 30 = .ok (.getfield 34, 3) := by decide +kernel
theorem dX0_takePicture_33 : decode cX0_takePicture 33 = .ok (.iload_n 2, 1) := by decide +kernel
theorem dX0_takePicture_34 : decode cX0_takePicture 34 = .ok (.aload_n 0, 1) := by decide +kernel
theorem dX0_takePicture_35 : decode cX0_takePicture 35 = .ok (.getfield 9, 3) := by decide +kernel
theorem dX0_takePicture_38 : decode cX0_takePicture 38 = .ok (.invokevirtual 38, 3) := by decide +kernel
theorem dX0_takePicture_41 : decode cX0_takePicture 41 = .ok (.iinc 2 1, 3) := by decide +kernel
theorem dX0_takePicture_44 : decode cX0_takePicture 44 = .ok (.goto (-42), 3) := by decide +kernel
theorem dX0_takePicture_47 : decode cX0_takePicture 47 = .ok (.aload_n 1, 1) := by decide +kernel
theorem dX0_takePicture_48 : decode cX0_takePicture 48 = .ok (.aload_n 1, 1) := by decide +kernel
theorem dX0_takePicture_49 : decode cX0_takePicture 49 = .ok (.invokevirtual 44, 3) := by decide +kernel
theorem dX0_takePicture_52 : decode cX0_takePicture 52 = .ok (.putfield 48, 3) := by decide +kernel
theorem dX0_takePicture_55 : decode cX0_takePicture 55 = .ok (.aload_n 1, 1) := by decide +kernel
theorem dX0_takePicture_56 : decode cX0_takePicture 56 = .ok (.dup, 1) := by decide +kernel
theorem dX0_takePicture_57 : decode cX0_takePicture 57 = .ok (.getfield 52, 3) := by decide +kernel
theorem dX0_takePicture_60 : decode cX0_takePicture 60 = .ok (.iconst 1, 1) := by decide +kernel
theorem dX0_takePicture_61 : decode cX0_takePicture 61 = .ok (.iadd, 1) := by decide +kernel
theorem dX0_takePicture_62 : decode cX0_takePicture 62 = .ok (.putfield 52, 3) := by decide +kernel
theorem dX0_takePicture_65 : decode cX0_takePicture 65 = .ok (.return_, 1) := by decide +kernel
set_option maxRecDepth 20000 in
theorem ggX0_pixelsBent_X5_beginOf : GoodIn wsX0_pixelsBent wsX5_beginOf := goodIn_r _ [9, 10, 11, 74, 75, 76, 77, 78, 79, 80] (by decide +kernel) (by decide +kernel)
set_option maxRecDepth 20000 in
theorem gX0_pixelsBent_X5_beginOf : GoodIn wsX0_pixelsBent (wsV RX0 21 RX5 yX5_beginOf wsX5_beginOf) := goodIn_app (goodIn_of _ (by decide +kernel)) ggX0_pixelsBent_X5_beginOf
set_option maxRecDepth 20000 in
theorem ggX0_pixelsBent_X0_exposeLine : GoodIn wsX0_pixelsBent wsX0_exposeLine := goodIn_r _ [16, 17, 18, 19, 20, 21, 22, 23, 24, 8, 25, 26, 27, 11, 28, 29, 30, 31, 32, 33, 15, 34, 35, 36, 37, 38, 39, 40, 41, 42, 43, 44, 45, 46, 47, 48, 49, 50, 51, 52, 53, 54, 55, 56, 57, 58, 59, 60, 61, 62, 63, 64, 65, 66, 67, 68, 69, 70, 71, 72, 73, 74, 75, 76, 77, 78, 79, 80, 81, 82, 83, 84, 85, 86, 87, 88, 89, 90, 91, 92, 93] (by decide +kernel) (by decide +kernel)
set_option maxRecDepth 20000 in
theorem gX0_pixelsBent_X0_exposeLine : GoodIn wsX0_pixelsBent (wsV RX0 30 RX0 yX0_exposeLine wsX0_exposeLine) := goodIn_app (goodIn_of _ (by decide +kernel)) ggX0_pixelsBent_X0_exposeLine
theorem dX0_pixelsBent_0 : decode cX0_pixelsBent 0 = .ok (.iconst 0, 1) := by decide +kernel
theorem dX0_pixelsBent_1 : decode cX0_pixelsBent 1 = .ok (.istore_n 2, 1) := by decide +kernel
theorem dX0_pixelsBent_2 : decode cX0_pixelsBent 2 = .ok (.iconst 0, 1) := by decide +kernel
theorem dX0_pixelsBent_3 : decode cX0_pixelsBent 3 = .ok (.istore_n 3, 1) := by decide +kernel
theorem dX0_pixelsBent_4 : decode cX0_pixelsBent 4 = .ok (.iload_n 3, 1) := by decide +kernel
theorem dX0_pixelsBent_5 : decode cX0_pixelsBent 5 = .ok (.bipush 16, 2) := by decide +kernel
theorem dX0_pixelsBent_7 : decode cX0_pixelsBent 7 = .ok (.if_icmp .ge 86, 3) := by decide +kernel
theorem dX0_pixelsBent_10 : decode cX0_pixelsBent 10 = .ok (.aload_n 0, 1) := by decide +kernel
theorem dX0_pixelsBent_11 : decode cX0_pixelsBent 11 = .ok (.aload_n 1, 1) := by decide +kernel
theorem dX0_pixelsBent_12 : decode cX0_pixelsBent 12 = .ok (.iload_n 3, 1) := by decide +kernel
theorem dX0_pixelsBent_13 : decode cX0_pixelsBent 13 = .ok (.aload_n 1, 1) := by decide +kernel
theorem dX0_pixelsBent_14 : decode cX0_pixelsBent 14 = .ok (.iload_n 3, 1) := by decide +kernel
theorem dX0_pixelsBent_15 : decode cX0_pixelsBent 15 = .ok (.invokevirtual 21, 3) := by decide +kernel
theorem dX0_pixelsBent_18 : decode cX0_pixelsBent 18 = .ok (.aload_n 1, 1) := by decide +kernel
theorem dX0_pixelsBent_19 : decode cX0_pixelsBent 19 = .ok (.getfield 27, 3) := by decide +kernel
theorem dX0_pixelsBent_22 : decode cX0_pixelsBent 22 = .ok (.iconst 1, 1) := by decide +kernel
theorem dX0_pixelsBent_23 : decode cX0_pixelsBent 23 = .ok (.iaload, 1) := by decide +kernel
theorem dX0_pixelsBent_24 : decode cX0_pixelsBent 24 = .ok (.aload_n 0, 1) := by decide +kernel
theorem dX0_pixelsBent_25 : decode cX0_pixelsBent 25 = .ok (.getfield 9, 3) := by decide +kernel
theorem dX0_pixelsBent_28 : decode cX0_pixelsBent 28 = .ok (.invokevirtual 30, 3) := by decide +kernel
theorem dX0_pixelsBent_31 : decode cX0_pixelsBent 31 = .ok (.aload_n 0, 1) := by decide +kernel
theorem dX0_pixelsBent_32 : decode cX0_pixelsBent 32 = .ok (.aload_n 1, 1) := by decide +kernel
theorem dX0_pixelsBent_33 : decode cX0_pixelsBent 33 = .ok (.iload_n 3, 1) := by decide +kernel
theorem dX0_pixelsBent_34 : decode cX0_pixelsBent 34 = .ok (.aload_n 1, 1) := by decide +kernel
theorem dX0_pixelsBent_35 : decode cX0_pixelsBent 35 = .ok (.getfield 48, 3) := by decide +kernel
theorem dX0_pixelsBent_38 : decode cX0_pixelsBent 38 = .ok (.aload_n 1, 1) := by decide +kernel
theorem dX0_pixelsBent_39 : decode cX0_pixelsBent 39 = .ok (.getfield 27, 3) := by decide +kernel
theorem dX0_pixelsBent_42 : decode cX0_pixelsBent 42 = .ok (.iconst 1, 1) := by decide +kernel
theorem dX0_pixelsBent_43 : decode cX0_pixelsBent 43 = .ok (.iaload, 1) := by decide +kernel
theorem dX0_pixelsBent_44 : decode cX0_pixelsBent 44 = .ok (.aload_n 0, 1) := by decide +kernel
theorem dX0_pixelsBent_45 : decode cX0_pixelsBent 45 = .ok (.getfield 15, 3) := by decide +kernel
theorem dX0_pixelsBent_48 : decode cX0_pixelsBent 48 = .ok (.invokevirtual 30, 3) := by decide +kernel
theorem dX0_pixelsBent_51 : decode cX0_pixelsBent 51 = .ok (.iconst 0, 1) := by decide +kernel
theorem dX0_pixelsBent_52 : decode cX0_pixelsBent 52 = .ok (.istore 4, 2) := by decide +kernel
theorem dX0_pixelsBent_54 : decode cX0_pixelsBent 54 = .ok (.iload 4, 2) := by decide +kernel
theorem dX0_pixelsBent_56 : decode cX0_pixelsBent 56 = .ok (.bipush 24, 2) := by decide +kernel
theorem dX0_pixelsBent_58 : decode cX0_pixelsBent 58 = .ok (.if_icmp .ge 29, 3) := by decide +kernel
theorem dX0_pixelsBent_61 : decode cX0_pixelsBent 61 = .ok (.aload_n 0, 1) := by decide +kernel
theorem dX0_pixelsBent_62 : decode cX0_pixelsBent 62 = .ok (.getfield 9, 3) := by decide +kernel
theorem dX0_pixelsBent_65 : decode cX0_pixelsBent 65 = .ok (.iload 4, 2) := by decide +kernel
theorem dX0_pixelsBent_67 : decode cX0_pixelsBent 67 = .ok (.iaload, 1) := by decide +kernel
theorem dX0_pixelsBent_68 : decode cX0_pixelsBent 68 = .ok (.aload_n 0, 1) := by decide +kernel
theorem dX0_pixelsBent_69 : decode cX0_pixelsBent 69 = .ok (.getfield 15, 3) := by decide +kernel
theorem dX0_pixelsBent_72 : decode cX0_pixelsBent 72 = .ok (.iload 4, 2) := by decide +kernel
theorem dX0_pixelsBent_74 : decode cX0_pixelsBent 74 = .ok (.iaload, 1) := by decide +kernel
theorem dX0_pixelsBent_75 : decode cX0_pixelsBent 75 = .ok (.if_icmp .eq 6, 3) := by decide +kernel
theorem dX0_pixelsBent_78 : decode cX0_pixelsBent 78 = .ok (.iinc 2 1, 3) := by decide +kernel
theorem dX0_pixelsBent_81 : decode cX0_pixelsBent 81 = .ok (.iinc 4 1, 3) := by decide +kernel
theorem dX0_pixelsBent_84 : decode cX0_pixelsBent 84 = .ok (.goto (-30), 3) := by decide +kernel
theorem dX0_pixelsBent_87 : decode cX0_pixelsBent 87 = .ok (.iinc 3 1, 3) := by decide +kernel
theorem dX0_pixelsBent_90 : decode cX0_pixelsBent 90 = .ok (.goto (-86), 3) := by decide +kernel
theorem dX0_pixelsBent_93 : decode cX0_pixelsBent 93 = .ok (.iload_n 2, 1) := by decide +kernel
theorem dX0_pixelsBent_94 : decode cX0_pixelsBent 94 = .ok (.ireturn, 1) := by decide +kernel
set_option maxRecDepth 20000 in
theorem ggX0_brightnessAt_X0_exposeLine : GoodIn wsX0_brightnessAt wsX0_exposeLine := goodIn_r _ [6, 7, 8, 9, 10, 11, 12, 13, 14, 15, 16, 17, 18, 19, 20, 21, 22, 23, 24, 25, 5, 26, 27, 28, 29, 30, 31, 32, 33, 34, 35, 36, 37, 38, 39, 40, 41, 42, 43, 44, 45, 46, 47, 48, 49, 50, 51, 52, 53, 54, 55, 56, 57, 58, 59, 60, 61, 62, 63, 64, 65, 69, 70, 71, 72, 73, 74, 75, 66, 67, 68, 76, 77, 78, 79, 80, 81, 82, 83, 84, 85] (by decide +kernel) (by decide +kernel)
set_option maxRecDepth 20000 in
theorem gX0_brightnessAt_X0_exposeLine : GoodIn wsX0_brightnessAt (wsV RX0 30 RX0 yX0_exposeLine wsX0_exposeLine) := goodIn_app (goodIn_of _ (by decide +kernel)) ggX0_brightnessAt_X0_exposeLine
theorem dX0_brightnessAt_0 : decode cX0_brightnessAt 0 = .ok (.aload_n 0, 1) := by decide +kernel
theorem dX0_brightnessAt_1 : decode cX0_brightnessAt 1 = .ok (.aload_n 1, 1) := by decide +kernel
theorem dX0_brightnessAt_2 : decode cX0_brightnessAt 2 = .ok (.iload_n 2, 1) := by decide +kernel
theorem dX0_brightnessAt_3 : decode cX0_brightnessAt 3 = .ok (.iload 4, 2) := by decide +kernel
theorem dX0_brightnessAt_5 : decode cX0_brightnessAt 5 = .ok (.iconst 1, 1) := by decide +kernel
theorem dX0_brightnessAt_6 : decode cX0_brightnessAt 6 = .ok (.aload_n 0, 1) := by decide +kernel
theorem dX0_brightnessAt_7 : decode cX0_brightnessAt 7 = .ok (.getfield 15, 3) := by decide +kernel
theorem dX0_brightnessAt_10 : decode cX0_brightnessAt 10 = .ok (.invokevirtual 30, 3) := by decide +kernel
theorem dX0_brightnessAt_13 : decode cX0_brightnessAt 13 = .ok (.aload_n 0, 1) := by decide +kernel
theorem dX0_brightnessAt_14 : decode cX0_brightnessAt 14 = .ok (.getfield 15, 3) := by decide +kernel
theorem dX0_brightnessAt_17 : decode cX0_brightnessAt 17 = .ok (.iload_n 3, 1) := by decide +kernel
theorem dX0_brightnessAt_18 : decode cX0_brightnessAt 18 = .ok (.iaload, 1) := by decide +kernel
theorem dX0_brightnessAt_19 : decode cX0_brightnessAt 19 = .ok (.ireturn, 1) := by decide +kernel
set_option maxRecDepth 20000 in
theorem ggX0_exposeLine_J7_fill_53178 : GoodIn wsX0_exposeLine wsJ7_fill_53178 := goodIn_r _ [5] (by decide +kernel) (by decide +kernel)
set_option maxRecDepth 20000 in
theorem gX0_exposeLine_J7_fill_53178 : GoodIn wsX0_exposeLine (va_wsS RX0 55 yJ7_fill_53178 wsJ7_fill_53178) := goodIn_app (goodIn_of _ (by decide +kernel)) ggX0_exposeLine_J7_fill_53178
set_option maxRecDepth 20000 in
theorem ggX0_exposeLine_X5_lightAt : GoodIn wsX0_exposeLine wsX5_lightAt := goodIn_r _ [10, 11, 12, 13, 14, 15, 16, 61, 62, 63, 64, 65, 66, 67] (by decide +kernel) (by decide +kernel)
set_option maxRecDepth 20000 in
theorem gX0_exposeLine_X5_lightAt : GoodIn wsX0_exposeLine (wsV RX0 61 RX5 yX5_lightAt wsX5_lightAt) := goodIn_app (goodIn_of _ (by decide +kernel)) ggX0_exposeLine_X5_lightAt
set_option maxRecDepth 20000 in
theorem ggX0_exposeLine_X0_findRises : GoodIn wsX0_exposeLine wsX0_findRises := goodIn_r _ [21, 22, 23, 24, 25, 2, 3, 4, 5, 26, 27, 28, 29, 30, 31, 32, 14, 15, 16, 33, 34, 35, 36, 37, 38, 39, 40, 41, 42, 43, 44, 45, 46, 47, 48, 20, 49, 50, 51, 52, 53, 54, 55, 56, 68, 69, 70, 71, 72, 73, 74, 75, 76, 77, 78, 79, 80] (by decide +kernel) (by decide +kernel)
set_option maxRecDepth 20000 in
theorem gX0_exposeLine_X0_findRises : GoodIn wsX0_exposeLine (wsV RX0 68 RX0 yX0_findRises wsX0_findRises) := goodIn_app (goodIn_of _ (by decide +kernel)) ggX0_exposeLine_X0_findRises
set_option maxRecDepth 20000 in
theorem ggX0_exposeLine_X0_addLight : GoodIn wsX0_exposeLine wsX0_addLight := goodIn_r _ [60, 22, 50, 51, 52, 53, 68, 69, 70] (by decide +kernel) (by decide +kernel)
set_option maxRecDepth 20000 in
theorem gX0_exposeLine_X0_addLight : GoodIn wsX0_exposeLine (wsV RX0 72 RX0 yX0_addLight wsX0_addLight) := goodIn_app (goodIn_of _ (by decide +kernel)) ggX0_exposeLine_X0_addLight
theorem dX0_exposeLine_0 : decode cX0_exposeLine 0 = .ok (.aload 5, 2) := by decide +kernel
theorem dX0_exposeLine_2 : decode cX0_exposeLine 2 = .ok (.iconst 0, 1) := by decide +kernel
theorem dX0_exposeLine_3 : decode cX0_exposeLine 3 = .ok (.invokestatic 55, 3) := by decide +kernel
theorem dX0_exposeLine_6 : decode cX0_exposeLine 6 = .ok (.iload_n 3, 1) := by decide +kernel
theorem dX0_exposeLine_7 : decode cX0_exposeLine 7 = .ok (.istore 6, 2) := by decide +kernel
theorem dX0_exposeLine_9 : decode cX0_exposeLine 9 = .ok (.iload 6, 2) := by decide +kernel
theorem dX0_exposeLine_11 : decode cX0_exposeLine 11 = .ok (.iload_n 3, 1) := by decide +kernel
theorem dX0_exposeLine_12 : decode cX0_exposeLine 12 = .ok (.iload 4, 2) := by decide +kernel
theorem dX0_exposeLine_14 : decode cX0_exposeLine 14 = .ok (.iadd, 1) := by decide +kernel
theorem dX0_exposeLine_15 : decode cX0_exposeLine 15 = .ok (.if_icmp .ge 41, 3) := by decide +kernel
theorem dX0_exposeLine_18 : decode cX0_exposeLine 18 = .ok (.aload_n 1, 1) := by decide +kernel
theorem dX0_exposeLine_19 : decode cX0_exposeLine 19 = .ok (.iload 6, 2) := by decide +kernel
theorem dX0_exposeLine_21 : decode cX0_exposeLine 21 = .ok (.invokevirtual 61, 3) := by decide +kernel
theorem dX0_exposeLine_24 : decode cX0_exposeLine 24 = .ok (.istore 7, 2) := by decide +kernel
theorem dX0_exposeLine_26 : decode cX0_exposeLine 26 = .ok (.iload 7, 2) := by decide +kernel
theorem dX0_exposeLine_28 : decode cX0_exposeLine 28 = .ok (.ifCond .eq 22, 3) := by decide +kernel
theorem dX0_exposeLine_31 : decode cX0_exposeLine 31 = .ok (.aload_n 0, 1) := by decide +kernel
theorem dX0_exposeLine_32 : decode cX0_exposeLine 32 = .ok (.aload_n 1, 1) := by decide +kernel
theorem dX0_exposeLine_33 : decode cX0_exposeLine 33 = .ok (.getfield 64, 3) := by decide +kernel
theorem dX0_exposeLine_36 : decode cX0_exposeLine 36 = .ok (.iload_n 2, 1) := by decide +kernel
theorem dX0_exposeLine_37 : decode cX0_exposeLine 37 = .ok (.iload 6, 2) := by decide +kernel
theorem dX0_exposeLine_39 : decode cX0_exposeLine 39 = .ok (.invokevirtual 68, 3) := by decide +kernel
theorem dX0_exposeLine_42 : decode cX0_exposeLine 42 = .ok (.aload_n 0, 1) := by decide +kernel
theorem dX0_exposeLine_43 : decode cX0_exposeLine 43 = .ok (.iload 7, 2) := by decide +kernel
theorem dX0_exposeLine_45 : decode cX0_exposeLine 45 = .ok (.aload 5, 2) := by decide +kernel
theorem dX0_exposeLine_47 : decode cX0_exposeLine 47 = .ok (.invokevirtual 72, 3) := by decide +kernel
theorem dX0_exposeLine_50 : decode cX0_exposeLine 50 = .ok (.iinc 6 1, 3) := by decide +kernel
theorem dX0_exposeLine_53 : decode cX0_exposeLine 53 = .ok (.goto (-44), 3) := by decide +kernel
theorem dX0_exposeLine_56 : decode cX0_exposeLine 56 = .ok (.return_, 1) := by decide +kernel
theorem dX0_addLight_0 : decode cX0_addLight 0 = .ok (.iconst 0, 1) := by decide +kernel
theorem dX0_addLight_1 : decode cX0_addLight 1 = .ok (.istore_n 3, 1) := by decide +kernel
theorem dX0_addLight_2 : decode cX0_addLight 2 = .ok (.iconst 0, 1) := by decide +kernel
theorem dX0_addLight_3 : decode cX0_addLight 3 = .ok (.istore 4, 2) := by decide +kernel
theorem dX0_addLight_5 : decode cX0_addLight 5 = .ok (.iload 4, 2) := by decide +kernel
theorem dX0_addLight_7 : decode cX0_addLight 7 = .ok (.bipush 24, 2) := by decide +kernel
theorem dX0_addLight_9 : decode cX0_addLight 9 = .ok (.if_icmp .ge 34, 3) := by decide +kernel
theorem dX0_addLight_12 : decode cX0_addLight 12 = .ok (.iload_n 3, 1) := by decide +kernel
theorem dX0_addLight_13 : decode cX0_addLight 13 = .ok (.aload_n 0, 1) := by decide +kernel
theorem dX0_addLight_14 : decode cX0_addLight 14 = .ok (.getfield 18, 3) := by decide +kernel
theorem dX0_addLight_17 : decode cX0_addLight 17 = .ok (.iload 4, 2) := by decide +kernel
theorem dX0_addLight_19 : decode cX0_addLight 19 = .ok (.iaload, 1) := by decide +kernel
theorem dX0_addLight_20 : decode cX0_addLight 20 = .ok (.iadd, 1) := by decide +kernel
theorem dX0_addLight_21 : decode cX0_addLight 21 = .ok (.istore_n 3, 1) := by decide +kernel
theorem dX0_addLight_22 : decode cX0_addLight 22 = .ok (.aload_n 2, 1) := by decide +kernel
theorem dX0_addLight_23 : decode cX0_addLight 23 = .ok (.iload 4, 2) := by decide +kernel
theorem dX0_addLight_25 : decode cX0_addLight 25 = .ok (.dup2, 1) := by decide +kernel
theorem dX0_addLight_26 : decode cX0_addLight 26 = .ok (.iaload, 1) := by decide +kernel
theorem dX0_addLight_27 : decode cX0_addLight 27 = .ok (.bipush 30, 2) := by decide +kernel
theorem dX0_addLight_29 : decode cX0_addLight 29 = .ok (.iload_n 3, 1) := by decide +kernel
theorem dX0_addLight_30 : decode cX0_addLight 30 = .ok (.invokestatic 75, 3) := by decide +kernel
theorem dX0_addLight_33 : decode cX0_addLight 33 = .ok (.iload_n 1, 1) := by decide +kernel
theorem dX0_addLight_34 : decode cX0_addLight 34 = .ok (.imul, 1) := by decide +kernel
theorem dX0_addLight_35 : decode cX0_addLight 35 = .ok (.iadd, 1) := by decide +kernel
theorem dX0_addLight_36 : decode cX0_addLight 36 = .ok (.iastore, 1) := by decide +kernel
theorem dX0_addLight_37 : decode cX0_addLight 37 = .ok (.iinc 4 1, 3) := by decide +kernel
theorem dX0_addLight_40 : decode cX0_addLight 40 = .ok (.goto (-35), 3) := by decide +kernel
theorem dX0_addLight_43 : decode cX0_addLight 43 = .ok (.return_, 1) := by decide +kernel
set_option maxRecDepth 20000 in
theorem ggX0_findRises_J7_fill_53178 : GoodIn wsX0_findRises wsJ7_fill_53178 := goodIn_r _ [8] (by decide +kernel) (by decide +kernel)
set_option maxRecDepth 20000 in
theorem gX0_findRises_J7_fill_53178 : GoodIn wsX0_findRises (va_wsS RX0 55 yJ7_fill_53178 wsJ7_fill_53178) := goodIn_app (goodIn_of _ (by decide +kernel)) ggX0_findRises_J7_fill_53178
set_option maxRecDepth 20000 in
theorem ggX0_findRises_X6_isInLine : GoodIn wsX0_findRises wsX6_isInLine := goodIn_r _ [13, 14, 15, 16, 17, 18, 47, 48, 49, 50, 51, 52, 53, 54, 55, 56] (by decide +kernel) (by decide +kernel)
set_option maxRecDepth 20000 in
theorem gX0_findRises_X6_isInLine : GoodIn wsX0_findRises (wsV RX0 86 RX6 yX6_isInLine wsX6_isInLine) := goodIn_app (goodIn_of _ (by decide +kernel)) ggX0_findRises_X6_isInLine
set_option maxRecDepth 20000 in
theorem ggX0_findRises_X6_leftAt : GoodIn wsX0_findRises wsX6_leftAt := goodIn_r _ [22, 23, 24, 25, 26, 27, 28, 29, 30, 31, 32, 47, 48, 49, 50, 51, 52, 53, 54, 55, 56] (by decide +kernel) (by decide +kernel)
set_option maxRecDepth 20000 in
theorem gX0_findRises_X6_leftAt : GoodIn wsX0_findRises (wsV RX0 90 RX6 yX6_leftAt wsX6_leftAt) := goodIn_app (goodIn_of _ (by decide +kernel)) ggX0_findRises_X6_leftAt
set_option maxRecDepth 20000 in
theorem ggX0_findRises_X0_nearestEdge : GoodIn wsX0_findRises wsX0_nearestEdge := goodIn_r _ [36, 37, 38, 39, 40, 41, 42, 43] (by decide +kernel) (by decide +kernel)
set_option maxRecDepth 20000 in
theorem gX0_findRises_X0_nearestEdge : GoodIn wsX0_findRises (va_wsS RX0 93 yX0_nearestEdge wsX0_nearestEdge) := goodIn_app (goodIn_of _ (by decide +kernel)) ggX0_findRises_X0_nearestEdge
theorem dX0_findRises_0 : decode cX0_findRises 0 = .ok (.aload_n 0, 1) := by decide +kernel
theorem dX0_findRises_1 : decode cX0_findRises 1 = .ok (.getfield 18, 3) := by decide +kernel
theorem dX0_findRises_4 : decode cX0_findRises 4 = .ok (.iconst 0, 1) := by decide +kernel
theorem dX0_findRises_5 : decode cX0_findRises 5 = .ok (.invokestatic 55, 3) := by decide +kernel
theorem dX0_findRises_8 : decode cX0_findRises 8 = .ok (.iconst 0, 1) := by decide +kernel
theorem dX0_findRises_9 : decode cX0_findRises 9 = .ok (.istore 4, 2) := by decide +kernel
theorem dX0_findRises_11 : decode cX0_findRises 11 = .ok (.iload 4, 2) := by decide +kernel
theorem dX0_findRises_13 : decode cX0_findRises 13 = .ok (.aload_n 1, 1) := by decide +kernel
theorem dX0_findRises_14 : decode cX0_findRises 14 = .ok (.getfield 81, 3) := by decide +kernel
theorem dX0_findRises_17 : decode cX0_findRises 17 = .ok (.if_icmp .ge 76, 3) := by decide +kernel
theorem dX0_findRises_20 : decode cX0_findRises 20 = .ok (.aload_n 1, 1) := by decide +kernel
theorem dX0_findRises_21 : decode cX0_findRises 21 = .ok (.iload 4, 2) := by decide +kernel
theorem dX0_findRises_23 : decode cX0_findRises 23 = .ok (.iload_n 2, 1) := by decide +kernel
theorem dX0_findRises_24 : decode cX0_findRises 24 = .ok (.invokevirtual 86, 3) := by decide +kernel
theorem dX0_findRises_27 : decode cX0_findRises 27 = .ok (.ifCond .eq 60, 3) := by decide +kernel
theorem dX0_findRises_30 : decode cX0_findRises 30 = .ok (.aload_n 1, 1) := by decide +kernel
theorem dX0_findRises_31 : decode cX0_findRises 31 = .ok (.iload 4, 2) := by decide +kernel
theorem dX0_findRises_33 : decode cX0_findRises 33 = .ok (.iload_n 3, 1) := by decide +kernel
theorem dX0_findRises_34 : decode cX0_findRises 34 = .ok (.invokevirtual 90, 3) := by decide +kernel
theorem dX0_findRises_37 : decode cX0_findRises 37 = .ok (.istore 5, 2) := by decide +kernel
theorem dX0_findRises_39 : decode cX0_findRises 39 = .ok (.aload_n 0, 1) := by decide +kernel
theorem dX0_findRises_40 : decode cX0_findRises 40 = .ok (.getfield 18, 3) := by decide +kernel
theorem dX0_findRises_43 : decode cX0_findRises 43 = .ok (.iload 5, 2) := by decide +kernel
theorem dX0_findRises_45 : decode cX0_findRises 45 = .ok (.invokestatic 93, 3) := by decide +kernel
theorem dX0_findRises_48 : decode cX0_findRises 48 = .ok (.dup2, 1) := by decide +kernel
theorem dX0_findRises_49 : decode cX0_findRises 49 = .ok (.iaload, 1) := by decide +kernel
theorem dX0_findRises_50 : decode cX0_findRises 50 = .ok (.aload_n 1, 1) := by decide +kernel
theorem dX0_findRises_51 : decode cX0_findRises 51 = .ok (.getfield 96, 3) := by decide +kernel
theorem dX0_findRises_54 : decode cX0_findRises 54 = .ok (.iload 4, 2) := by decide +kernel
theorem dX0_findRises_56 : decode cX0_findRises 56 = .ok (.iaload, 1) := by decide +kernel
theorem dX0_findRises_57 : decode cX0_findRises 57 = .ok (.iadd, 1) := by decide +kernel
theorem dX0_findRises_58 : decode cX0_findRises 58 = .ok (.iastore, 1) := by decide +kernel
theorem dX0_findRises_59 : decode cX0_findRises 59 = .ok (.aload_n 0, 1) := by decide +kernel
theorem dX0_findRises_60 : decode cX0_findRises 60 = .ok (.getfield 18, 3) := by decide +kernel
theorem dX0_findRises_63 : decode cX0_findRises 63 = .ok (.iload 5, 2) := by decide +kernel
theorem dX0_findRises_65 : decode cX0_findRises 65 = .ok (.aload_n 1, 1) := by decide +kernel
theorem dX0_findRises_66 : decode cX0_findRises 66 = .ok (.getfield 99, 3) := by decide +kernel
theorem dX0_findRises_69 : decode cX0_findRises 69 = .ok (.iload 4, 2) := by decide +kernel
theorem dX0_findRises_71 : decode cX0_findRises 71 = .ok (.iaload, 1) := by decide +kernel
theorem dX0_findRises_72 : decode cX0_findRises 72 = .ok (.iadd, 1) := by decide +kernel
theorem dX0_findRises_73 : decode cX0_findRises 73 = .ok (.invokestatic 93, 3) := by decide +kernel
theorem dX0_findRises_76 : decode cX0_findRises 76 = .ok (.dup2, 1) := by decide +kernel
theorem dX0_findRises_77 : decode cX0_findRises 77 = .ok (.iaload, 1) := by decide +kernel
theorem dX0_findRises_78 : decode cX0_findRises 78 = .ok (.aload_n 1, 1) := by decide +kernel
theorem dX0_findRises_79 : decode cX0_findRises 79 = .ok (.getfield 96, 3) := by decide +kernel
theorem dX0_findRises_82 : decode cX0_findRises 82 = .ok (.iload 4, 2) := by decide +kernel
theorem dX0_findRises_84 : decode cX0_findRises 84 = .ok (.iaload, 1) := by decide +kernel
theorem dX0_findRises_85 : decode cX0_findRises 85 = .ok (.isub, 1) := by decide +kernel
theorem dX0_findRises_86 : decode cX0_findRises 86 = .ok (.iastore, 1) := by decide +kernel
theorem dX0_findRises_87 : decode cX0_findRises 87 = .ok (.iinc 4 1, 3) := by decide +kernel
theorem dX0_findRises_90 : decode cX0_findRises 90 = .ok (.goto (-79), 3) := by decide +kernel
theorem dX0_findRises_93 : decode cX0_findRises 93 = .ok (.return_, 1) := by decide +kernel
theorem dX0_nearestEdge_0 : decode cX0_nearestEdge 0 = .ok (.iconst 0, 1) := by decide +kernel
theorem dX0_nearestEdge_1 : decode cX0_nearestEdge 1 = .ok (.bipush 24, 2) := by decide +kernel
theorem dX0_nearestEdge_3 : decode cX0_nearestEdge 3 = .ok (.iload_n 0, 1) := by decide +kernel
theorem dX0_nearestEdge_4 : decode cX0_nearestEdge 4 = .ok (.invokestatic 75, 3) := by decide +kernel
theorem dX0_nearestEdge_7 : decode cX0_nearestEdge 7 = .ok (.invokestatic 102, 3) := by decide +kernel
theorem dX0_nearestEdge_10 : decode cX0_nearestEdge 10 = .ok (.ireturn, 1) := by decide +kernel
theorem dX1_init_0 : decode cX1_init 0 = .ok (.aload_n 0, 1) := by decide +kernel
theorem dX1_init_1 : decode cX1_init 1 = .ok (.invokespecial 3, 3) := by decide +kernel
theorem dX1_init_4 : decode cX1_init 4 = .ok (.aload_n 0, 1) := by decide +kernel
theorem dX1_init_5 : decode cX1_init 5 = .ok (.bipush 6, 2) := by decide +kernel
theorem dX1_init_7 : decode cX1_init 7 = .ok (.anewarray 9, 3) := by decide +kernel
theorem dX1_init_10 : decode cX1_init 10 = .ok (.putfield 11, 3) := by decide +kernel
theorem dX1_init_13 : decode cX1_init 13 = .ok (.aload_n 0, 1) := by decide +kernel
theorem dX1_init_14 : decode cX1_init 14 = .ok (.iconst 0, 1) := by decide +kernel
theorem dX1_init_15 : decode cX1_init 15 = .ok (.putfield 17, 3) := by decide +kernel
theorem dX1_init_18 : decode cX1_init 18 = .ok (.aload_n 0, 1) := by decide +kernel
theorem dX1_init_19 : decode cX1_init 19 = .ok (.iconst 0, 1) := by decide +kernel
theorem dX1_init_20 : decode cX1_init 20 = .ok (.putfield 21, 3) := by decide +kernel
theorem dX1_init_23 : decode cX1_init 23 = .ok (.return_, 1) := by decide +kernel
set_option maxRecDepth 20000 in
theorem ggX1_record_X5_init : GoodIn wsX1_record wsX5_init := goodIn_r _ [12, 13, 14, 15, 16, 17, 18, 19, 20, 21, 22, 23, 24, 25, 26, 27, 28, 29, 30, 31, 32, 33, 34, 35, 36, 37, 38, 39, 40, 41, 42, 43, 44, 45, 46, 47, 48, 49, 50, 51, 74, 75, 76, 77, 78, 79, 80, 81, 82, 83, 84, 85, 86, 87, 88, 89, 90, 91] (by decide +kernel) (by decide +kernel)
set_option maxRecDepth 20000 in
theorem gX1_record_X5_init_n24 : GoodIn wsX1_record (wsX5_init) := ggX1_record_X5_init
set_option maxRecDepth 20000 in
theorem ggX1_record_X5_copyFrom : GoodIn wsX1_record wsX5_copyFrom := goodIn_r _ [55, 22, 56, 57, 58, 59, 26, 30, 31, 32, 33, 34, 60, 61, 62, 25, 63, 64, 39, 65, 40, 41, 42, 43, 44, 45, 46, 47, 66, 67, 68, 29, 69, 51, 70, 74, 75, 76, 77, 78, 79, 80, 81, 82, 83, 84, 85, 86, 87, 88, 89, 90, 91] (by decide +kernel) (by decide +kernel)
set_option maxRecDepth 20000 in
theorem gX1_record_X5_copyFrom : GoodIn wsX1_record (wsV RX1 25 RX5 yX5_copyFrom wsX5_copyFrom) := goodIn_app (goodIn_of _ (by decide +kernel)) ggX1_record_X5_copyFrom
theorem dX1_record_0 : decode cX1_record 0 = .ok (.aload_n 0, 1) := by decide +kernel
theorem dX1_record_1 : decode cX1_record 1 = .ok (.getfield 11, 3) := by decide +kernel
theorem dX1_record_4 : decode cX1_record 4 = .ok (.aload_n 0, 1) := by decide +kernel
theorem dX1_record_5 : decode cX1_record 5 = .ok (.getfield 17, 3) := by decide +kernel
theorem dX1_record_8 : decode cX1_record 8 = .ok (.aaload, 1) := by decide +kernel
theorem dX1_record_9 : decode cX1_record 9 = .ok (.astore_n 2, 1) := by decide +kernel
theorem dX1_record_10 : decode cX1_record 10 = .ok (.aload_n 2, 1) := by decide +kernel
theorem dX1_record_11 : decode cX1_record 11 = .ok (.ifnonnull 21, 3) := by decide +kernel
theorem dX1_record_14 : decode cX1_record 14 = .ok (.new 9, 3) := by decide +kernel
theorem dX1_record_17 : decode cX1_record 17 = .ok (.dup, 1) := by decide +kernel
theorem dX1_record_18 : decode cX1_record 18 = .ok (.invokespecial 24, 3) := by decide +kernel
theorem dX1_record_21 : decode cX1_record 21 = .ok (.astore_n 2, 1) := by decide +kernel
theorem dX1_record_22 : decode cX1_record 22 = .ok (.aload_n 0, 1) := by decide +kernel
theorem dX1_record_23 : decode cX1_record 23 = .ok (.getfield 11, 3) := by decide +kernel
theorem dX1_record_26 : decode cX1_record 26 = .ok (.aload_n 0, 1) := by decide +kernel
theorem dX1_record_27 : decode cX1_record 27 = .ok (.getfield 17, 3) := by decide +kernel
theorem dX1_record_30 : decode cX1_record 30 = .ok (.aload_n 2, 1) := by decide +kernel
theorem dX1_record_31 : decode cX1_record 31 = .ok (.aastore, 1) := by decide +kernel
theorem dX1_record_32 : decode cX1_record 32 = .ok (.aload_n 2, 1) := by decide +kernel
theorem dX1_record_33 : decode cX1_record 33 = .ok (.aload_n 1, 1) := by decide +kernel
theorem dX1_record_34 : decode cX1_record 34 = .ok (.invokevirtual 25, 3) := by decide +kernel
theorem dX1_record_37 : decode cX1_record 37 = .ok (.aload_n 0, 1) := by decide +kernel
theorem dX1_record_38 : decode cX1_record 38 = .ok (.aload_n 0, 1) := by decide +kernel
theorem dX1_record_39 : decode cX1_record 39 = .ok (.getfield 17, 3) := by decide +kernel
theorem dX1_record_42 : decode cX1_record 42 = .ok (.iconst 5, 1) := by decide +kernel
theorem dX1_record_43 : decode cX1_record 43 = .ok (.if_icmp .ne 7, 3) := by decide +kernel
theorem dX1_record_46 : decode cX1_record 46 = .ok (.iconst 0, 1) := by decide +kernel
theorem dX1_record_47 : decode cX1_record 47 = .ok (.goto 9, 3) := by decide +kernel
theorem dX1_record_50 : decode cX1_record 50 = .ok (.aload_n 0, 1) := by decide +kernel
theorem dX1_record_51 : decode cX1_record 51 = .ok (.getfield 17, 3) := by decide +kernel
theorem dX1_record_54 : decode cX1_record 54 = .ok (.iconst 1, 1) := by decide +kernel
theorem dX1_record_55 : decode cX1_record 55 = .ok (.iadd, 1) := by decide +kernel
theorem dX1_record_56 : decode cX1_record 56 = .ok (.putfield 17, 3) := by decide +kernel
theorem dX1_record_59 : decode cX1_record 59 = .ok (.aload_n 0, 1) := by decide +kernel
theorem dX1_record_60 : decode cX1_record 60 = .ok (.bipush 6, 2) := by decide +kernel
theorem dX1_record_62 : decode cX1_record 62 = .ok (.aload_n 0, 1) := by decide +kernel
theorem dX1_record_63 : decode cX1_record 63 = .ok (.getfield 21, 3) := by decide +kernel
theorem dX1_record_66 : decode cX1_record 66 = .ok (.iconst 1, 1) := by decide +kernel
theorem dX1_record_67 : decode cX1_record 67 = .ok (.iadd, 1) := by decide +kernel
theorem dX1_record_68 : decode cX1_record 68 = .ok (.invokestatic 29, 3) := by decide +kernel
theorem dX1_record_71 : decode cX1_record 71 = .ok (.putfield 21, 3) := by decide +kernel
theorem dX1_record_74 : decode cX1_record 74 = .ok (.return_, 1) := by decide +kernel
set_option maxRecDepth 20000 in
theorem ggX1_takeBack_X5_copyFrom : GoodIn wsX1_takeBack wsX5_copyFrom := goodIn_r _ [8, 9, 10, 11, 12, 13, 14, 15, 16, 17, 18, 19, 20, 21, 22, 23, 24, 25, 26, 27, 28, 29, 30, 31, 32, 33, 34, 35, 36, 37, 38, 39, 40, 41, 42, 46, 47, 48, 49, 50, 51, 52, 53, 54, 55, 56, 57, 58, 59, 60, 61, 62, 63] (by decide +kernel) (by decide +kernel)
set_option maxRecDepth 20000 in
theorem gX1_takeBack_X5_copyFrom : GoodIn wsX1_takeBack (wsV RX1 25 RX5 yX5_copyFrom wsX5_copyFrom) := goodIn_app (goodIn_of _ (by decide +kernel)) ggX1_takeBack_X5_copyFrom
theorem dX1_takeBack_0 : decode cX1_takeBack 0 = .ok (.aload_n 0, 1) := by decide +kernel
theorem dX1_takeBack_1 : decode cX1_takeBack 1 = .ok (.getfield 17, 3) := by decide +kernel
theorem dX1_takeBack_4 : decode cX1_takeBack 4 = .ok (.ifCond .ne 7, 3) := by decide +kernel
theorem dX1_takeBack_7 : decode cX1_takeBack 7 = .ok (.iconst 5, 1) := by decide +kernel
theorem dX1_takeBack_8 : decode cX1_takeBack 8 = .ok (.goto 9, 3) := by decide +kernel
theorem dX1_takeBack_11 : decode cX1_takeBack 11 = .ok (.aload_n 0, 1) := by decide +kernel
theorem dX1_takeBack_12 : decode cX1_takeBack 12 = .ok (.getfield 17, 3) := by decide +kernel
theorem dX1_takeBack_15 : decode cX1_takeBack 15 = .ok (.iconst 1, 1) := by decide +kernel
theorem dX1_takeBack_16 : decode cX1_takeBack 16 = .ok (.isub, 1) := by decide +kernel
theorem dX1_takeBack_17 : decode cX1_takeBack 17 = .ok (.istore_n 2, 1) := by decide +kernel
theorem dX1_takeBack_18 : decode cX1_takeBack 18 = .ok (.aload_n 0, 1) := by decide +kernel
theorem dX1_takeBack_19 : decode cX1_takeBack 19 = .ok (.getfield 11, 3) := by decide +kernel
theorem dX1_takeBack_22 : decode cX1_takeBack 22 = .ok (.iload_n 2, 1) := by decide +kernel
theorem dX1_takeBack_23 : decode cX1_takeBack 23 = .ok (.aaload, 1) := by decide +kernel
theorem dX1_takeBack_24 : decode cX1_takeBack 24 = .ok (.astore_n 3, 1) := by decide +kernel
theorem dX1_takeBack_25 : decode cX1_takeBack 25 = .ok (.aload_n 0, 1) := by decide +kernel
theorem dX1_takeBack_26 : decode cX1_takeBack 26 = .ok (.getfield 21, 3) := by decide +kernel
theorem dX1_takeBack_29 : decode cX1_takeBack 29 = .ok (.ifCond .eq 7, 3) := by decide +kernel
theorem dX1_takeBack_32 : decode cX1_takeBack 32 = .ok (.aload_n 3, 1) := by decide +kernel
theorem dX1_takeBack_33 : decode cX1_takeBack 33 = .ok (.ifnonnull 5, 3) := by decide +kernel
theorem dX1_takeBack_36 : decode cX1_takeBack 36 = .ok (.iconst 0, 1) := by decide +kernel
theorem dX1_takeBack_37 : decode cX1_takeBack 37 = .ok (.ireturn, 1) := by decide +kernel
theorem dX1_takeBack_38 : decode cX1_takeBack 38 = .ok (.aload_n 1, 1) := by decide +kernel
theorem dX1_takeBack_39 : decode cX1_takeBack 39 = .ok (.aload_n 3, 1) := by decide +kernel
theorem dX1_takeBack_40 : decode cX1_takeBack 40 = .ok (.invokevirtual 25, 3) := by decide +kernel
theorem dX1_takeBack_43 : decode cX1_takeBack 43 = .ok (.aload_n 0, 1) := by decide +kernel
theorem dX1_takeBack_44 : decode cX1_takeBack 44 = .ok (.iload_n 2, 1) := by decide +kernel
theorem dX1_takeBack_45 : decode cX1_takeBack 45 = .ok (.putfield 17, 3) := by decide +kernel
theorem dX1_takeBack_48 : decode cX1_takeBack 48 = .ok (.aload_n 0, 1) := by decide +kernel
theorem dX1_takeBack_49 : decode cX1_takeBack 49 = .ok (.dup, 1) := by decide +kernel
theorem dX1_takeBack_50 : decode cX1_takeBack 50 = .ok (.getfield 21, 3) := by decide +kernel
theorem dX1_takeBack_53 : decode cX1_takeBack 53 = .ok (.iconst 1, 1) := by decide +kernel
theorem dX1_takeBack_54 : decode cX1_takeBack 54 = .ok (.isub, 1) := by decide +kernel
theorem dX1_takeBack_55 : decode cX1_takeBack 55 = .ok (.putfield 21, 3) := by decide +kernel
theorem dX1_takeBack_58 : decode cX1_takeBack 58 = .ok (.iconst 1, 1) := by decide +kernel
theorem dX1_takeBack_59 : decode cX1_takeBack 59 = .ok (.ireturn, 1) := by decide +kernel
theorem dX2_init_0 : decode cX2_init 0 = .ok (.aload_n 0, 1) := by decide +kernel
theorem dX2_init_1 : decode cX2_init 1 = .ok (.invokespecial 3, 3) := by decide +kernel
theorem dX2_init_4 : decode cX2_init 4 = .ok (.aload_n 0, 1) := by decide +kernel
theorem dX2_init_5 : decode cX2_init 5 = .ok (.bipush 80, 2) := by decide +kernel
theorem dX2_init_7 : decode cX2_init 7 = .ok (.newarray .char, 2) := by decide +kernel
theorem dX2_init_9 : decode cX2_init 9 = .ok (.putfield 9, 3) := by decide +kernel
theorem dX2_init_12 : decode cX2_init 12 = .ok (.aload_n 0, 1) := by decide +kernel
theorem dX2_init_13 : decode cX2_init 13 = .ok (.iconst 0, 1) := by decide +kernel
theorem dX2_init_14 : decode cX2_init 14 = .ok (.putfield 15, 3) := by decide +kernel
theorem dX2_init_17 : decode cX2_init 17 = .ok (.return_, 1) := by decide +kernel
set_option maxRecDepth 20000 in
theorem ggX2_charactersIn_X7_within : GoodIn wsX2_charactersIn wsX7_within := goodIn_r _ [4] (by decide +kernel) (by decide +kernel)
set_option maxRecDepth 20000 in
theorem gX2_charactersIn_X7_within_n21 : GoodIn wsX2_charactersIn (wsX7_within) := ggX2_charactersIn_X7_within
theorem dX2_charactersIn_0 : decode cX2_charactersIn 0 = .ok (.iconst 0, 1) := by decide +kernel
theorem dX2_charactersIn_1 : decode cX2_charactersIn 1 = .ok (.istore_n 2, 1) := by decide +kernel
theorem dX2_charactersIn_2 : decode cX2_charactersIn 2 = .ok (.lload_n 0, 1) := by decide +kernel
theorem dX2_charactersIn_3 : decode cX2_charactersIn 3 = .ok (.lstore_n 3, 1) := by decide +kernel
theorem dX2_charactersIn_4 : decode cX2_charactersIn 4 = .ok (.iload_n 2, 1) := by decide +kernel
theorem dX2_charactersIn_5 : decode cX2_charactersIn 5 = .ok (.bipush 8, 2) := by decide +kernel
theorem dX2_charactersIn_7 : decode cX2_charactersIn 7 = .ok (.if_icmp .ge 42, 3) := by decide +kernel
theorem dX2_charactersIn_10 : decode cX2_charactersIn 10 = .ok (.lload_n 3, 1) := by decide +kernel
theorem dX2_charactersIn_11 : decode cX2_charactersIn 11 = .ok (.ldc2_w 19, 3) := by decide +kernel
theorem dX2_charactersIn_14 : decode cX2_charactersIn 14 = .ok (.land, 1) := by decide +kernel
theorem dX2_charactersIn_15 : decode cX2_charactersIn 15 = .ok (.lconst 0, 1) := by decide +kernel
theorem dX2_charactersIn_16 : decode cX2_charactersIn 16 = .ok (.lcmp, 1) := by decide +kernel
theorem dX2_charactersIn_17 : decode cX2_charactersIn 17 = .ok (.ifCond .eq 32, 3) := by decide +kernel
theorem dX2_charactersIn_20 : decode cX2_charactersIn 20 = .ok (.lload_n 3, 1) := by decide +kernel
theorem dX2_charactersIn_21 : decode cX2_charactersIn 21 = .ok (.ldc2_w 19, 3) := by decide +kernel
theorem dX2_charactersIn_24 : decode cX2_charactersIn 24 = .ok (.land, 1) := by decide +kernel
theorem dX2_charactersIn_25 : decode cX2_charactersIn 25 = .ok (.l2i, 1) := by decide +kernel
theorem dX2_charactersIn_26 : decode cX2_charactersIn 26 = .ok (.bipush 33, 2) := by decide +kernel
theorem dX2_charactersIn_28 : decode cX2_charactersIn 28 = .ok (.bipush 126, 2) := by decide +kernel
theorem dX2_charactersIn_30 : decode cX2_charactersIn 30 = .ok (.invokestatic 21, 3) := by decide +kernel
theorem dX2_charactersIn_33 : decode cX2_charactersIn 33 = .ok (.ifCond .ne 5, 3) := by decide +kernel
theorem dX2_charactersIn_36 : decode cX2_charactersIn 36 = .ok (.iconst 0, 1) := by decide +kernel
theorem dX2_charactersIn_37 : decode cX2_charactersIn 37 = .ok (.ireturn, 1) := by decide +kernel
theorem dX2_charactersIn_38 : decode cX2_charactersIn 38 = .ok (.lload_n 3, 1) := by decide +kernel
theorem dX2_charactersIn_39 : decode cX2_charactersIn 39 = .ok (.bipush 8, 2) := by decide +kernel
theorem dX2_charactersIn_41 : decode cX2_charactersIn 41 = .ok (.lushr, 1) := by decide +kernel
theorem dX2_charactersIn_42 : decode cX2_charactersIn 42 = .ok (.lstore_n 3, 1) := by decide +kernel
theorem dX2_charactersIn_43 : decode cX2_charactersIn 43 = .ok (.iinc 2 1, 3) := by decide +kernel
theorem dX2_charactersIn_46 : decode cX2_charactersIn 46 = .ok (.goto (-42), 3) := by decide +kernel
theorem dX2_charactersIn_49 : decode cX2_charactersIn 49 = .ok (.lload_n 3, 1) := by decide +kernel
theorem dX2_charactersIn_50 : decode cX2_charactersIn 50 = .ok (.lconst 0, 1) := by decide +kernel
theorem dX2_charactersIn_51 : decode cX2_charactersIn 51 = .ok (.lcmp, 1) := by decide +kernel
theorem dX2_charactersIn_52 : decode cX2_charactersIn 52 = .ok (.ifCond .ne 7, 3) := by decide +kernel
theorem dX2_charactersIn_55 : decode cX2_charactersIn 55 = .ok (.iload_n 2, 1) := by decide +kernel
theorem dX2_charactersIn_56 : decode cX2_charactersIn 56 = .ok (.goto 4, 3) := by decide +kernel
theorem dX2_charactersIn_59 : decode cX2_charactersIn 59 = .ok (.iconst 0, 1) := by decide +kernel
theorem dX2_charactersIn_60 : decode cX2_charactersIn 60 = .ok (.ireturn, 1) := by decide +kernel
theorem dX2_append_0 : decode cX2_append 0 = .ok (.iload_n 3, 1) := by decide +kernel
theorem dX2_append_1 : decode cX2_append 1 = .ok (.iconst 1, 1) := by decide +kernel
theorem dX2_append_2 : decode cX2_append 2 = .ok (.isub, 1) := by decide +kernel
theorem dX2_append_3 : decode cX2_append 3 = .ok (.istore 4, 2) := by decide +kernel
theorem dX2_append_5 : decode cX2_append 5 = .ok (.iload 4, 2) := by decide +kernel
theorem dX2_append_7 : decode cX2_append 7 = .ok (.ifCond .lt 41, 3) := by decide +kernel
theorem dX2_append_10 : decode cX2_append 10 = .ok (.aload_n 0, 1) := by decide +kernel
theorem dX2_append_11 : decode cX2_append 11 = .ok (.getfield 9, 3) := by decide +kernel
theorem dX2_append_14 : decode cX2_append 14 = .ok (.aload_n 0, 1) := by decide +kernel
theorem dX2_append_15 : decode cX2_append 15 = .ok (.getfield 15, 3) := by decide +kernel
theorem dX2_append_18 : decode cX2_append 18 = .ok (.lload_n 1, 1) := by decide +kernel
theorem dX2_append_19 : decode cX2_append 19 = .ok (.bipush 8, 2) := by decide +kernel
theorem dX2_append_21 : decode cX2_append 21 = .ok (.iload 4, 2) := by decide +kernel
theorem dX2_append_23 : decode cX2_append 23 = .ok (.imul, 1) := by decide +kernel
theorem dX2_append_24 : decode cX2_append 24 = .ok (.lushr, 1) := by decide +kernel
theorem dX2_append_25 : decode cX2_append 25 = .ok (.ldc2_w 19, 3) := by decide +kernel
theorem dX2_append_28 : decode cX2_append 28 = .ok (.land, 1) := by decide +kernel
theorem dX2_append_29 : decode cX2_append 29 = .ok (.l2i, 1) := by decide +kernel
theorem dX2_append_30 : decode cX2_append 30 = .ok (.i2c, 1) := by decide +kernel
theorem dX2_append_31 : decode cX2_append 31 = .ok (.castore, 1) := by decide +kernel
theorem dX2_append_32 : decode cX2_append 32 = .ok (.aload_n 0, 1) := by decide +kernel
theorem dX2_append_33 : decode cX2_append 33 = .ok (.dup, 1) := by decide +kernel
theorem dX2_append_34 : decode cX2_append 34 = .ok (.getfield 15, 3) := by decide +kernel
theorem dX2_append_37 : decode cX2_append 37 = .ok (.iconst 1, 1) := by decide +kernel
theorem dX2_append_38 : decode cX2_append 38 = .ok (.iadd, 1) := by decide +kernel
theorem dX2_append_39 : decode cX2_append 39 = .ok (.putfield 15, 3) := by decide +kernel
theorem dX2_append_42 : decode cX2_append 42 = .ok (.iinc 4 (-1), 3) := by decide +kernel
theorem dX2_append_45 : decode cX2_append 45 = .ok (.goto (-40), 3) := by decide +kernel
theorem dX2_append_48 : decode cX2_append 48 = .ok (.return_, 1) := by decide +kernel
theorem dX2_characterAt_0 : decode cX2_characterAt 0 = .ok (.iload_n 1, 1) := by decide +kernel
theorem dX2_characterAt_1 : decode cX2_characterAt 1 = .ok (.ifCond .lt 20, 3) := by decide +kernel
theorem dX2_characterAt_4 : decode cX2_characterAt 4 = .ok (.iload_n 1, 1) := by decide +kernel
theorem dX2_characterAt_5 : decode cX2_characterAt 5 = .ok (.aload_n 0, 1) := by decide +kernel
theorem dX2_characterAt_6 : decode cX2_characterAt 6 = .ok (.getfield 15, 3) := by decide +kernel
theorem dX2_characterAt_9 : decode cX2_characterAt 9 = .ok (.if_icmp .ge 12, 3) := by decide +kernel
theorem dX2_characterAt_12 : decode cX2_characterAt 12 = .ok (.aload_n 0, 1) := by decide +kernel
theorem dX2_characterAt_13 : decode cX2_characterAt 13 = .ok (.getfield 9, 3) := by decide +kernel
theorem dX2_characterAt_16 : decode cX2_characterAt 16 = .ok (.iload_n 1, 1) := by decide +kernel
theorem dX2_characterAt_17 : decode cX2_characterAt 17 = .ok (.caload, 1) := by decide +kernel
theorem dX2_characterAt_18 : decode cX2_characterAt 18 = .ok (.goto 5, 3) := by decide +kernel
theorem dX2_characterAt_21 : decode cX2_characterAt 21 = .ok (.bipush 32, 2) := by decide +kernel
theorem dX2_characterAt_23 : decode cX2_characterAt 23 = .ok (.ireturn, 1) := by decide +kernel
theorem dX3_init_0 : decode cX3_init 0 = .ok (.aload_n 0, 1) := by decide +kernel
theorem dX3_init_1 : decode cX3_init 1 = .ok (.invokespecial 3, 3) := by decide +kernel
theorem dX3_init_4 : decode cX3_init 4 = .ok (.aload_n 0, 1) := by decide +kernel
theorem dX3_init_5 : decode cX3_init 5 = .ok (.sipush 384, 3) := by decide +kernel
theorem dX3_init_8 : decode cX3_init 8 = .ok (.newarray .int, 2) := by decide +kernel
theorem dX3_init_10 : decode cX3_init 10 = .ok (.putfield 9, 3) := by decide +kernel
theorem dX3_init_13 : decode cX3_init 13 = .ok (.return_, 1) := by decide +kernel
theorem dX3_pixelAt_0 : decode cX3_pixelAt 0 = .ok (.aload_n 0, 1) := by decide +kernel
theorem dX3_pixelAt_1 : decode cX3_pixelAt 1 = .ok (.getfield 9, 3) := by decide +kernel
theorem dX3_pixelAt_4 : decode cX3_pixelAt 4 = .ok (.iload_n 1, 1) := by decide +kernel
theorem dX3_pixelAt_5 : decode cX3_pixelAt 5 = .ok (.bipush 24, 2) := by decide +kernel
theorem dX3_pixelAt_7 : decode cX3_pixelAt 7 = .ok (.imul, 1) := by decide +kernel
theorem dX3_pixelAt_8 : decode cX3_pixelAt 8 = .ok (.iload_n 2, 1) := by decide +kernel
theorem dX3_pixelAt_9 : decode cX3_pixelAt 9 = .ok (.iadd, 1) := by decide +kernel
theorem dX3_pixelAt_10 : decode cX3_pixelAt 10 = .ok (.iaload, 1) := by decide +kernel
theorem dX3_pixelAt_11 : decode cX3_pixelAt 11 = .ok (.ireturn, 1) := by decide +kernel
theorem dX3_putLine_0 : decode cX3_putLine 0 = .ok (.aload_n 2, 1) := by decide +kernel
theorem dX3_putLine_1 : decode cX3_putLine 1 = .ok (.iconst 0, 1) := by decide +kernel
theorem dX3_putLine_2 : decode cX3_putLine 2 = .ok (.aload_n 0, 1) := by decide +kernel
theorem dX3_putLine_3 : decode cX3_putLine 3 = .ok (.getfield 9, 3) := by decide +kernel
theorem dX3_putLine_6 : decode cX3_putLine 6 = .ok (.iload_n 1, 1) := by decide +kernel
theorem dX3_putLine_7 : decode cX3_putLine 7 = .ok (.bipush 24, 2) := by decide +kernel
theorem dX3_putLine_9 : decode cX3_putLine 9 = .ok (.imul, 1) := by decide +kernel
theorem dX3_putLine_10 : decode cX3_putLine 10 = .ok (.bipush 24, 2) := by decide +kernel
theorem dX3_putLine_12 : decode cX3_putLine 12 = .ok (.invokestatic 15, 3) := by decide +kernel
theorem dX3_putLine_15 : decode cX3_putLine 15 = .ok (.return_, 1) := by decide +kernel
set_option maxRecDepth 20000 in
theorem ggX3_columnsNotDark_X3_pixelAt : GoodIn wsX3_columnsNotDark wsX3_pixelAt := goodIn_r _ [5, 6, 7] (by decide +kernel) (by decide +kernel)
set_option maxRecDepth 20000 in
theorem gX3_columnsNotDark_X3_pixelAt : GoodIn wsX3_columnsNotDark (wsV RX3 21 RX3 yX3_pixelAt wsX3_pixelAt) := goodIn_app (goodIn_of _ (by decide +kernel)) ggX3_columnsNotDark_X3_pixelAt
theorem dX3_columnsNotDark_0 : decode cX3_columnsNotDark 0 = .ok (.iconst 0, 1) := by decide +kernel
theorem dX3_columnsNotDark_1 : decode cX3_columnsNotDark 1 = .ok (.istore_n 2, 1) := by decide +kernel
theorem dX3_columnsNotDark_2 : decode cX3_columnsNotDark 2 = .ok (.iconst 0, 1) := by decide +kernel
theorem dX3_columnsNotDark_3 : decode cX3_columnsNotDark 3 = .ok (.istore_n 3, 1) := by decide +kernel
theorem dX3_columnsNotDark_4 : decode cX3_columnsNotDark 4 = .ok (.iload_n 3, 1) := by decide +kernel
theorem dX3_columnsNotDark_5 : decode cX3_columnsNotDark 5 = .ok (.bipush 24, 2) := by decide +kernel
theorem dX3_columnsNotDark_7 : decode cX3_columnsNotDark 7 = .ok (.if_icmp .ge 24, 3) := by decide +kernel
theorem dX3_columnsNotDark_10 : decode cX3_columnsNotDark 10 = .ok (.aload_n 0, 1) := by decide +kernel
theorem dX3_columnsNotDark_11 : decode cX3_columnsNotDark 11 = .ok (.iload_n 1, 1) := by decide +kernel
theorem dX3_columnsNotDark_12 : decode cX3_columnsNotDark 12 = .ok (.iload_n 3, 1) := by decide +kernel
theorem dX3_columnsNotDark_13 : decode cX3_columnsNotDark 13 = .ok (.invokevirtual 21, 3) := by decide +kernel
theorem dX3_columnsNotDark_16 : decode cX3_columnsNotDark 16 = .ok (.ifCond .eq 9, 3) := by decide +kernel
theorem dX3_columnsNotDark_19 : decode cX3_columnsNotDark 19 = .ok (.iload_n 2, 1) := by decide +kernel
theorem dX3_columnsNotDark_20 : decode cX3_columnsNotDark 20 = .ok (.iconst 1, 1) := by decide +kernel
theorem dX3_columnsNotDark_21 : decode cX3_columnsNotDark 21 = .ok (.iload_n 3, 1) := by decide +kernel
theorem dX3_columnsNotDark_22 : decode cX3_columnsNotDark 22 = .ok (.ishl, 1) := by decide +kernel
theorem dX3_columnsNotDark_23 : decode cX3_columnsNotDark 23 = .ok (.ior, 1) := by decide +kernel
theorem dX3_columnsNotDark_24 : decode cX3_columnsNotDark 24 = .ok (.istore_n 2, 1) := by decide +kernel
theorem dX3_columnsNotDark_25 : decode cX3_columnsNotDark 25 = .ok (.iinc 3 1, 3) := by decide +kernel
theorem dX3_columnsNotDark_28 : decode cX3_columnsNotDark 28 = .ok (.goto (-24), 3) := by decide +kernel
theorem dX3_columnsNotDark_31 : decode cX3_columnsNotDark 31 = .ok (.iload_n 2, 1) := by decide +kernel
theorem dX3_columnsNotDark_32 : decode cX3_columnsNotDark 32 = .ok (.ireturn, 1) := by decide +kernel
set_option maxRecDepth 20000 in
theorem ggX3_sumOfLine_X3_pixelAt : GoodIn wsX3_sumOfLine wsX3_pixelAt := goodIn_r _ [5, 6, 7] (by decide +kernel) (by decide +kernel)
set_option maxRecDepth 20000 in
theorem gX3_sumOfLine_X3_pixelAt : GoodIn wsX3_sumOfLine (wsV RX3 21 RX3 yX3_pixelAt wsX3_pixelAt) := goodIn_app (goodIn_of _ (by decide +kernel)) ggX3_sumOfLine_X3_pixelAt
theorem dX3_sumOfLine_0 : decode cX3_sumOfLine 0 = .ok (.iconst 0, 1) := by decide +kernel
theorem dX3_sumOfLine_1 : decode cX3_sumOfLine 1 = .ok (.istore_n 2, 1) := by decide +kernel
theorem dX3_sumOfLine_2 : decode cX3_sumOfLine 2 = .ok (.iconst 0, 1) := by decide +kernel
theorem dX3_sumOfLine_3 : decode cX3_sumOfLine 3 = .ok (.istore_n 3, 1) := by decide +kernel
theorem dX3_sumOfLine_4 : decode cX3_sumOfLine 4 = .ok (.iload_n 3, 1) := by decide +kernel
theorem dX3_sumOfLine_5 : decode cX3_sumOfLine 5 = .ok (.bipush 24, 2) := by decide +kernel
theorem dX3_sumOfLine_7 : decode cX3_sumOfLine 7 = .ok (.if_icmp .ge 18, 3) := by decide +kernel
theorem dX3_sumOfLine_10 : decode cX3_sumOfLine 10 = .ok (.iload_n 2, 1) := by decide +kernel
theorem dX3_sumOfLine_11 : decode cX3_sumOfLine 11 = .ok (.aload_n 0, 1) := by decide +kernel
theorem dX3_sumOfLine_12 : decode cX3_sumOfLine 12 = .ok (.iload_n 1, 1) := by decide +kernel
theorem dX3_sumOfLine_13 : decode cX3_sumOfLine 13 = .ok (.iload_n 3, 1) := by decide +kernel
theorem dX3_sumOfLine_14 : decode cX3_sumOfLine 14 = .ok (.invokevirtual 21, 3) := by decide +kernel
theorem dX3_sumOfLine_17 : decode cX3_sumOfLine 17 = .ok (.iadd, 1) := by decide +kernel
theorem dX3_sumOfLine_18 : decode cX3_sumOfLine 18 = .ok (.istore_n 2, 1) := by decide +kernel
theorem dX3_sumOfLine_19 : decode cX3_sumOfLine 19 = .ok (.iinc 3 1, 3) := by decide +kernel
theorem dX3_sumOfLine_22 : decode cX3_sumOfLine 22 = .ok (.goto (-18), 3) := by decide +kernel
theorem dX3_sumOfLine_25 : decode cX3_sumOfLine 25 = .ok (.iload_n 2, 1) := by decide +kernel
theorem dX3_sumOfLine_26 : decode cX3_sumOfLine 26 = .ok (.ireturn, 1) := by decide +kernel
set_option maxRecDepth 20000 in
theorem ggX3_leftmostNotDark_X3_pixelAt : GoodIn wsX3_leftmostNotDark wsX3_pixelAt := goodIn_r _ [5, 6, 7] (by decide +kernel) (by decide +kernel)
set_option maxRecDepth 20000 in
theorem gX3_leftmostNotDark_X3_pixelAt : GoodIn wsX3_leftmostNotDark (wsV RX3 21 RX3 yX3_pixelAt wsX3_pixelAt) := goodIn_app (goodIn_of _ (by decide +kernel)) ggX3_leftmostNotDark_X3_pixelAt
theorem dX3_leftmostNotDark_0 : decode cX3_leftmostNotDark 0 = .ok (.iconst 0, 1) := by decide +kernel
theorem dX3_leftmostNotDark_1 : decode cX3_leftmostNotDark 1 = .ok (.istore_n 2, 1) := by decide +kernel
theorem dX3_leftmostNotDark_2 : decode cX3_leftmostNotDark 2 = .ok (.iload_n 2, 1) := by decide +kernel
theorem dX3_leftmostNotDark_3 : decode cX3_leftmostNotDark 3 = .ok (.bipush 24, 2) := by decide +kernel
theorem dX3_leftmostNotDark_5 : decode cX3_leftmostNotDark 5 = .ok (.if_icmp .ge 20, 3) := by decide +kernel
theorem dX3_leftmostNotDark_8 : decode cX3_leftmostNotDark 8 = .ok (.aload_n 0, 1) := by decide +kernel
theorem dX3_leftmostNotDark_9 : decode cX3_leftmostNotDark 9 = .ok (.iload_n 1, 1) := by decide +kernel
theorem dX3_leftmostNotDark_10 : decode cX3_leftmostNotDark 10 = .ok (.iload_n 2, 1) := by decide +kernel
theorem dX3_leftmostNotDark_11 : decode cX3_leftmostNotDark 11 = .ok (.invokevirtual 21, 3) := by decide +kernel
theorem dX3_leftmostNotDark_14 : decode cX3_leftmostNotDark 14 = .ok (.ifCond .eq 5, 3) := by decide +kernel
theorem dX3_leftmostNotDark_17 : decode cX3_leftmostNotDark 17 = .ok (.iload_n 2, 1) := by decide +kernel
theorem dX3_leftmostNotDark_18 : decode cX3_leftmostNotDark 18 = .ok (.ireturn, 1) := by decide +kernel
theorem dX3_leftmostNotDark_19 : decode cX3_leftmostNotDark 19 = .ok (.iinc 2 1, 3) := by decide +kernel
theorem dX3_leftmostNotDark_22 : decode cX3_leftmostNotDark 22 = .ok (.goto (-20), 3) := by decide +kernel
theorem dX3_leftmostNotDark_25 : decode cX3_leftmostNotDark 25 = .ok (.bipush (-6), 2) := by decide +kernel
theorem dX3_leftmostNotDark_27 : decode cX3_leftmostNotDark 27 = .ok (.ireturn, 1) := by decide +kernel
set_option maxRecDepth 20000 in
theorem ggX3_sumOfAll_X3_sumOfLine : GoodIn wsX3_sumOfAll wsX3_sumOfLine := goodIn_r _ [5, 6, 7, 8, 4, 9, 10, 11] (by decide +kernel) (by decide +kernel)
set_option maxRecDepth 20000 in
theorem gX3_sumOfAll_X3_sumOfLine : GoodIn wsX3_sumOfAll (wsV RX3 25 RX3 yX3_sumOfLine wsX3_sumOfLine) := goodIn_app (goodIn_of _ (by decide +kernel)) ggX3_sumOfAll_X3_sumOfLine
theorem dX3_sumOfAll_0 : decode cX3_sumOfAll 0 = .ok (.iconst 0, 1) := by decide +kernel
theorem dX3_sumOfAll_1 : decode cX3_sumOfAll 1 = .ok (.istore_n 1, 1) := by decide +kernel
theorem dX3_sumOfAll_2 : decode cX3_sumOfAll 2 = .ok (.iconst 0, 1) := by decide +kernel
theorem dX3_sumOfAll_3 : decode cX3_sumOfAll 3 = .ok (.istore_n 2, 1) := by decide +kernel
theorem dX3_sumOfAll_4 : decode cX3_sumOfAll 4 = .ok (.iload_n 2, 1) := by decide +kernel
theorem dX3_sumOfAll_5 : decode cX3_sumOfAll 5 = .ok (.bipush 16, 2) := by decide +kernel
theorem dX3_sumOfAll_7 : decode cX3_sumOfAll 7 = .ok (.if_icmp .ge 17, 3) := by decide +kernel
theorem dX3_sumOfAll_10 : decode cX3_sumOfAll 10 = .ok (.iload_n 1, 1) := by decide +kernel
theorem dX3_sumOfAll_11 : decode cX3_sumOfAll 11 = .ok (.aload_n 0, 1) := by decide +kernel
theorem dX3_sumOfAll_12 : decode cX3_sumOfAll 12 = .ok (.iload_n 2, 1) := by decide +kernel
theorem dX3_sumOfAll_13 : decode cX3_sumOfAll 13 = .ok (.invokevirtual 25, 3) := by decide +kernel
theorem dX3_sumOfAll_16 : decode cX3_sumOfAll 16 = .ok (.iadd, 1) := by decide +kernel
theorem dX3_sumOfAll_17 : decode cX3_sumOfAll 17 = .ok (.istore_n 1, 1) := by decide +kernel
theorem dX3_sumOfAll_18 : decode cX3_sumOfAll 18 = .ok (.iinc 2 1, 3) := by decide +kernel
theorem dX3_sumOfAll_21 : decode cX3_sumOfAll 21 = .ok (.goto (-17), 3) := by decide +kernel
theorem dX3_sumOfAll_24 : decode cX3_sumOfAll 24 = .ok (.iload_n 1, 1) := by decide +kernel
theorem dX3_sumOfAll_25 : decode cX3_sumOfAll 25 = .ok (.ireturn, 1) := by decide +kernel
set_option maxRecDepth 20000 in
theorem ggX3_darkLines_X3_columnsNotDark : GoodIn wsX3_darkLines wsX3_columnsNotDark := goodIn_r _ [5, 6, 7, 8, 4, 9, 10, 11] (by decide +kernel) (by decide +kernel)
set_option maxRecDepth 20000 in
theorem gX3_darkLines_X3_columnsNotDark : GoodIn wsX3_darkLines (wsV RX3 29 RX3 yX3_columnsNotDark wsX3_columnsNotDark) := goodIn_app (goodIn_of _ (by decide +kernel)) ggX3_darkLines_X3_columnsNotDark
theorem dX3_darkLines_0 : decode cX3_darkLines 0 = .ok (.iconst 0, 1) := by decide +kernel
theorem dX3_darkLines_1 : decode cX3_darkLines 1 = .ok (.istore_n 1, 1) := by decide +kernel
theorem dX3_darkLines_2 : decode cX3_darkLines 2 = .ok (.iconst 0, 1) := by decide +kernel
theorem dX3_darkLines_3 : decode cX3_darkLines 3 = .ok (.istore_n 2, 1) := by decide +kernel
theorem dX3_darkLines_4 : decode cX3_darkLines 4 = .ok (.iload_n 2, 1) := by decide +kernel
theorem dX3_darkLines_5 : decode cX3_darkLines 5 = .ok (.bipush 16, 2) := by decide +kernel
theorem dX3_darkLines_7 : decode cX3_darkLines 7 = .ok (.if_icmp .ge 23, 3) := by decide +kernel
theorem dX3_darkLines_10 : decode cX3_darkLines 10 = .ok (.aload_n 0, 1) := by decide +kernel
theorem dX3_darkLines_11 : decode cX3_darkLines 11 = .ok (.iload_n 2, 1) := by decide +kernel
theorem dX3_darkLines_12 : decode cX3_darkLines 12 = .ok (.invokevirtual 29, 3) := by decide +kernel
theorem dX3_darkLines_15 : decode cX3_darkLines 15 = .ok (.ifCond .ne 9, 3) := by decide +kernel
theorem dX3_darkLines_18 : decode cX3_darkLines 18 = .ok (.iload_n 1, 1) := by decide +kernel
theorem dX3_darkLines_19 : decode cX3_darkLines 19 = .ok (.iconst 1, 1) := by decide +kernel
theorem dX3_darkLines_20 : decode cX3_darkLines 20 = .ok (.iload_n 2, 1) := by decide +kernel
theorem dX3_darkLines_21 : decode cX3_darkLines 21 = .ok (.ishl, 1) := by decide +kernel
theorem dX3_darkLines_22 : decode cX3_darkLines 22 = .ok (.ior, 1) := by decide +kernel
theorem dX3_darkLines_23 : decode cX3_darkLines 23 = .ok (.istore_n 1, 1) := by decide +kernel
theorem dX3_darkLines_24 : decode cX3_darkLines 24 = .ok (.iinc 2 1, 3) := by decide +kernel
theorem dX3_darkLines_27 : decode cX3_darkLines 27 = .ok (.goto (-23), 3) := by decide +kernel
theorem dX3_darkLines_30 : decode cX3_darkLines 30 = .ok (.iload_n 1, 1) := by decide +kernel
theorem dX3_darkLines_31 : decode cX3_darkLines 31 = .ok (.ireturn, 1) := by decide +kernel
set_option maxRecDepth 20000 in
theorem ggX3_brightest_X3_pixelAt : GoodIn wsX3_brightest wsX3_pixelAt := goodIn_r _ [9, 10, 11] (by decide +kernel) (by decide +kernel)
set_option maxRecDepth 20000 in
theorem gX3_brightest_X3_pixelAt : GoodIn wsX3_brightest (wsV RX3 21 RX3 yX3_pixelAt wsX3_pixelAt) := goodIn_app (goodIn_of _ (by decide +kernel)) ggX3_brightest_X3_pixelAt
theorem dX3_brightest_0 : decode cX3_brightest 0 = .ok (.iconst 0, 1) := by decide +kernel
theorem dX3_brightest_1 : decode cX3_brightest 1 = .ok (.istore_n 1, 1) := by decide +kernel
theorem dX3_brightest_2 : decode cX3_brightest 2 = .ok (.iconst 0, 1) := by decide +kernel
theorem dX3_brightest_3 : decode cX3_brightest 3 = .ok (.istore_n 2, 1) := by decide +kernel
theorem dX3_brightest_4 : decode cX3_brightest 4 = .ok (.iload_n 2, 1) := by decide +kernel
theorem dX3_brightest_5 : decode cX3_brightest 5 = .ok (.bipush 16, 2) := by decide +kernel
theorem dX3_brightest_7 : decode cX3_brightest 7 = .ok (.if_icmp .ge 34, 3) := by decide +kernel
theorem dX3_brightest_10 : decode cX3_brightest 10 = .ok (.iconst 0, 1) := by decide +kernel
theorem dX3_brightest_11 : decode cX3_brightest 11 = .ok (.istore_n 3, 1) := by decide +kernel
theorem dX3_brightest_12 : decode cX3_brightest 12 = .ok (.iload_n 3, 1) := by decide +kernel
theorem dX3_brightest_13 : decode cX3_brightest 13 = .ok (.bipush 24, 2) := by decide +kernel
theorem dX3_brightest_15 : decode cX3_brightest 15 = .ok (.if_icmp .ge 20, 3) := by decide +kernel
theorem dX3_brightest_18 : decode cX3_brightest 18 = .ok (.iload_n 1, 1) := by decide +kernel
theorem dX3_brightest_19 : decode cX3_brightest 19 = .ok (.aload_n 0, 1) := by decide +kernel
theorem dX3_brightest_20 : decode cX3_brightest 20 = .ok (.iload_n 2, 1) := by decide +kernel
theorem dX3_brightest_21 : decode cX3_brightest 21 = .ok (.iload_n 3, 1) := by decide +kernel
theorem dX3_brightest_22 : decode cX3_brightest 22 = .ok (.invokevirtual 21, 3) := by decide +kernel
theorem dX3_brightest_25 : decode cX3_brightest 25 = .ok (.invokestatic 32, 3) := by decide +kernel
theorem dX3_brightest_28 : decode cX3_brightest 28 = .ok (.istore_n 1, 1) := by decide +kernel
theorem dX3_brightest_29 : decode cX3_brightest 29 = .ok (.iinc 3 1, 3) := by decide +kernel
theorem dX3_brightest_32 : decode cX3_brightest 32 = .ok (.goto (-20), 3) := by decide +kernel
theorem dX3_brightest_35 : decode cX3_brightest 35 = .ok (.iinc 2 1, 3) := by decide +kernel
theorem dX3_brightest_38 : decode cX3_brightest 38 = .ok (.goto (-34), 3) := by decide +kernel
theorem dX3_brightest_41 : decode cX3_brightest 41 = .ok (.iload_n 1, 1) := by decide +kernel
theorem dX3_brightest_42 : decode cX3_brightest 42 = .ok (.ireturn, 1) := by decide +kernel
set_option maxRecDepth 20000 in
theorem ggX3_bands_X3_columnsNotDark : GoodIn wsX3_bands wsX3_columnsNotDark := goodIn_r _ [5, 6, 7, 8, 4, 9, 10, 11] (by decide +kernel) (by decide +kernel)
set_option maxRecDepth 20000 in
theorem gX3_bands_X3_columnsNotDark : GoodIn wsX3_bands (wsV RX3 29 RX3 yX3_columnsNotDark wsX3_columnsNotDark) := goodIn_app (goodIn_of _ (by decide +kernel)) ggX3_bands_X3_columnsNotDark
theorem dX3_bands_0 : decode cX3_bands 0 = .ok (.iconst 0, 1) := by decide +kernel
theorem dX3_bands_1 : decode cX3_bands 1 = .ok (.istore_n 1, 1) := by decide +kernel
theorem dX3_bands_2 : decode cX3_bands 2 = .ok (.iconst 1, 1) := by decide +kernel
theorem dX3_bands_3 : decode cX3_bands 3 = .ok (.istore_n 2, 1) := by decide +kernel
theorem dX3_bands_4 : decode cX3_bands 4 = .ok (.iload_n 2, 1) := by decide +kernel
theorem dX3_bands_5 : decode cX3_bands 5 = .ok (.bipush 16, 2) := by decide +kernel
theorem dX3_bands_7 : decode cX3_bands 7 = .ok (.if_icmp .ge 43, 3) := by decide +kernel
theorem dX3_bands_10 : decode cX3_bands 10 = .ok (.aload_n 0, 1) := by decide +kernel
theorem dX3_bands_11 : decode cX3_bands 11 = .ok (.iload_n 2, 1) := by decide +kernel
theorem dX3_bands_12 : decode cX3_bands 12 = .ok (.invokevirtual 29, 3) := by decide +kernel
theorem dX3_bands_15 : decode cX3_bands 15 = .ok (.ifCond .ne 7, 3) := by decide +kernel
theorem dX3_bands_18 : decode cX3_bands 18 = .ok (.iconst 1, 1) := by decide +kernel
theorem dX3_bands_19 : decode cX3_bands 19 = .ok (.goto 4, 3) := by decide +kernel
theorem dX3_bands_22 : decode cX3_bands 22 = .ok (.iconst 0, 1) := by decide +kernel
theorem dX3_bands_23 : decode cX3_bands 23 = .ok (.aload_n 0, 1) := by decide +kernel
theorem dX3_bands_24 : decode cX3_bands 24 = .ok (.iload_n 2, 1) := by decide +kernel
theorem dX3_bands_25 : decode cX3_bands 25 = .ok (.iconst 1, 1) := by decide +kernel
theorem dX3_bands_26 : decode cX3_bands 26 = .ok (.isub, 1) := by decide +kernel
theorem dX3_bands_27 : decode cX3_bands 27 = .ok (.invokevirtual 29, 3) := by decide +kernel
theorem dX3_bands_30 : decode cX3_bands 30 = .ok (.ifCond .ne 7, 3) := by decide +kernel
theorem dX3_bands_33 : decode cX3_bands 33 = .ok (.iconst 1, 1) := by decide +kernel
theorem dX3_bands_34 : decode cX3_bands 34 = .ok (.goto 4, 3) := by decide +kernel
theorem dX3_bands_37 : decode cX3_bands 37 = .ok (.iconst 0, 1) := by decide +kernel
theorem dX3_bands_38 : decode cX3_bands 38 = .ok (.if_icmp .eq 6, 3) := by decide +kernel
theorem dX3_bands_41 : decode cX3_bands 41 = .ok (.iinc 1 1, 3) := by decide +kernel
theorem dX3_bands_44 : decode cX3_bands 44 = .ok (.iinc 2 1, 3) := by decide +kernel
theorem dX3_bands_47 : decode cX3_bands 47 = .ok (.goto (-43), 3) := by decide +kernel
theorem dX3_bands_50 : decode cX3_bands 50 = .ok (.iload_n 1, 1) := by decide +kernel
theorem dX3_bands_51 : decode cX3_bands 51 = .ok (.ireturn, 1) := by decide +kernel
theorem dX3_copyFrom_0 : decode cX3_copyFrom 0 = .ok (.aload_n 1, 1) := by decide +kernel
theorem dX3_copyFrom_1 : decode cX3_copyFrom 1 = .ok (.getfield 9, 3) := by decide +kernel
theorem dX3_copyFrom_4 : decode cX3_copyFrom 4 = .ok (.iconst 0, 1) := by decide +kernel
theorem dX3_copyFrom_5 : decode cX3_copyFrom 5 = .ok (.aload_n 0, 1) := by decide +kernel
theorem dX3_copyFrom_6 : decode cX3_copyFrom 6 = .ok (.getfield 9, 3) := by decide +kernel
theorem dX3_copyFrom_9 : decode cX3_copyFrom 9 = .ok (.iconst 0, 1) := by decide +kernel
theorem dX3_copyFrom_10 : decode cX3_copyFrom 10 = .ok (.sipush 384, 3) := by decide +kernel
theorem dX3_copyFrom_13 : decode cX3_copyFrom 13 = .ok (.invokestatic 15, 3) := by decide +kernel
theorem dX3_copyFrom_16 : decode cX3_copyFrom 16 = .ok (.return_, 1) := by decide +kernel
theorem dX4_init_0 : decode cX4_init 0 = .ok (.aload_n 0, 1) := by decide +kernel
theorem dX4_init_1 : decode cX4_init 1 = .ok (.invokespecial 3, 3) := by decide +kernel
theorem dX4_init_4 : decode cX4_init 4 = .ok (.aload_n 0, 1) := by decide +kernel
theorem dX4_init_5 : decode cX4_init 5 = .ok (.iconst 0, 1) := by decide +kernel
theorem dX4_init_6 : decode cX4_init 6 = .ok (.putfield 9, 3) := by decide +kernel
theorem dX4_init_9 : decode cX4_init 9 = .ok (.aload_n 0, 1) := by decide +kernel
theorem dX4_init_10 : decode cX4_init 10 = .ok (.bipush 32, 2) := by decide +kernel
theorem dX4_init_12 : decode cX4_init 12 = .ok (.putfield 15, 3) := by decide +kernel
theorem dX4_init_15 : decode cX4_init 15 = .ok (.aload_n 0, 1) := by decide +kernel
theorem dX4_init_16 : decode cX4_init 16 = .ok (.bipush 7, 2) := by decide +kernel
theorem dX4_init_18 : decode cX4_init 18 = .ok (.newarray .int, 2) := by decide +kernel
theorem dX4_init_20 : decode cX4_init 20 = .ok (.putfield 19, 3) := by decide +kernel
theorem dX4_init_23 : decode cX4_init 23 = .ok (.aload_n 0, 1) := by decide +kernel
theorem dX4_init_24 : decode cX4_init 24 = .ok (.aload_n 1, 1) := by decide +kernel
theorem dX4_init_25 : decode cX4_init 25 = .ok (.putfield 23, 3) := by decide +kernel
theorem dX4_init_28 : decode cX4_init 28 = .ok (.return_, 1) := by decide +kernel
set_option maxRecDepth 20000 in
theorem ggX4_findFault_X4_readOrder : GoodIn wsX4_findFault wsX4_readOrder := goodIn_r _ [8, 2, 1, 9, 10, 11, 12, 13, 14, 15, 16, 17, 18, 19, 7, 20, 21, 22, 23, 24, 25, 26, 27, 28, 29, 30, 31, 32, 33, 34, 35, 36, 37, 38, 39, 40, 41, 42] (by decide +kernel) (by decide +kernel)
set_option maxRecDepth 20000 in
theorem gX4_findFault_X4_readOrder : GoodIn wsX4_findFault (wsV RX4 27 RX4 yX4_readOrder wsX4_readOrder) := goodIn_app (goodIn_of _ (by decide +kernel)) ggX4_findFault_X4_readOrder
set_option maxRecDepth 20000 in
theorem ggX4_findFault_X4_take : GoodIn wsX4_findFault wsX4_take := goodIn_r _ [20, 2, 1, 10, 11, 12, 13, 14, 15, 16, 37, 38, 39, 40, 41, 42] (by decide +kernel) (by decide +kernel)
set_option maxRecDepth 20000 in
theorem gX4_findFault_X4_take : GoodIn wsX4_findFault (wsV RX4 31 RX4 yX4_take wsX4_take) := goodIn_app (goodIn_of _ (by decide +kernel)) ggX4_findFault_X4_take
theorem dX4_findFault_0 : decode cX4_findFault 0 = .ok (.aload_n 0, 1) := by decide +kernel
theorem dX4_findFault_1 : decode cX4_findFault 1 = .ok (.iconst 0, 1) := by decide +kernel
theorem dX4_findFault_2 : decode cX4_findFault 2 = .ok (.putfield 9, 3) := by decide +kernel
theorem dX4_findFault_5 : decode cX4_findFault 5 = .ok (.iconst 1, 1) := by decide +kernel
theorem dX4_findFault_6 : decode cX4_findFault 6 = .ok (.istore_n 1, 1) := by decide +kernel
theorem dX4_findFault_7 : decode cX4_findFault 7 = .ok (.iconst 0, 1) := by decide +kernel
theorem dX4_findFault_8 : decode cX4_findFault 8 = .ok (.istore_n 2, 1) := by decide +kernel
theorem dX4_findFault_9 : decode cX4_findFault 9 = .ok (.iload_n 1, 1) := by decide +kernel
theorem dX4_findFault_10 : decode cX4_findFault 10 = .ok (.ifCond .eq 34, 3) := by decide +kernel
theorem dX4_findFault_13 : decode cX4_findFault 13 = .ok (.iload_n 2, 1) := by decide +kernel
theorem dX4_findFault_14 : decode cX4_findFault 14 = .ok (.bipush 80, 2) := by decide +kernel
theorem dX4_findFault_16 : decode cX4_findFault 16 = .ok (.if_icmp .ge 28, 3) := by decide +kernel
theorem dX4_findFault_19 : decode cX4_findFault 19 = .ok (.aload_n 0, 1) := by decide +kernel
theorem dX4_findFault_20 : decode cX4_findFault 20 = .ok (.invokevirtual 27, 3) := by decide +kernel
theorem dX4_findFault_23 : decode cX4_findFault 23 = .ok (.ifCond .ne 8, 3) := by decide +kernel
theorem dX4_findFault_26 : decode cX4_findFault 26 = .ok (.aload_n 0, 1) := by decide +kernel
theorem dX4_findFault_27 : decode cX4_findFault 27 = .ok (.getfield 9, 3) := by decide +kernel
theorem dX4_findFault_30 : decode cX4_findFault 30 = .ok (.ireturn, 1) := by decide +kernel
theorem dX4_findFault_31 : decode cX4_findFault 31 = .ok (.aload_n 0, 1) := by decide +kernel
theorem dX4_findFault_32 : decode cX4_findFault 32 = .ok (.bipush 59, 2) := by decide +kernel
theorem dX4_findFault_34 : decode cX4_findFault 34 = .ok (.invokevirtual 31, 3) := by decide +kernel
theorem dX4_findFault_37 : decode cX4_findFault 37 = .ok (.istore_n 1, 1) := by decide +kernel
theorem dX4_findFault_38 : decode cX4_findFault 38 = .ok (.iinc 2 1, 3) := by decide +kernel
theorem dX4_findFault_41 : decode cX4_findFault 41 = .ok (.goto (-32), 3) := by decide +kernel
theorem dX4_findFault_44 : decode cX4_findFault 44 = .ok (.aload_n 0, 1) := by decide +kernel
theorem dX4_findFault_45 : decode cX4_findFault 45 = .ok (.getfield 9, 3) := by decide +kernel
theorem dX4_findFault_48 : decode cX4_findFault 48 = .ok (.aload_n 0, 1) := by decide +kernel
theorem dX4_findFault_49 : decode cX4_findFault 49 = .ok (.getfield 23, 3) := by decide +kernel
theorem dX4_findFault_52 : decode cX4_findFault 52 = .ok (.getfield 35, 3) := by decide +kernel
theorem dX4_findFault_55 : decode cX4_findFault 55 = .ok (.if_icmp .ne 8, 3) := by decide +kernel
theorem dX4_findFault_58 : decode cX4_findFault 58 = .ok (.bipush (-6), 2) := by decide +kernel
theorem dX4_findFault_60 : decode cX4_findFault 60 = .ok (.goto 7, 3) := by decide +kernel
theorem dX4_findFault_63 : decode cX4_findFault 63 = .ok (.aload_n 0, 1) := by decide +kernel
theorem dX4_findFault_64 : decode cX4_findFault 64 = .ok (.getfield 9, 3) := by decide +kernel
theorem dX4_findFault_67 : decode cX4_findFault 67 = .ok (.ireturn, 1) := by decide +kernel
set_option maxRecDepth 20000 in
theorem ggX4_readOrder_X2_characterAt : GoodIn wsX4_readOrder wsX2_characterAt := goodIn_r _ [8, 9, 10, 36, 37] (by decide +kernel) (by decide +kernel)
set_option maxRecDepth 20000 in
theorem gX4_readOrder_X2_characterAt : GoodIn wsX4_readOrder (wsV RX4 40 RX2 yX2_characterAt wsX2_characterAt) := goodIn_app (goodIn_of _ (by decide +kernel)) ggX4_readOrder_X2_characterAt
set_option maxRecDepth 20000 in
theorem ggX4_readOrder_X4_take : GoodIn wsX4_readOrder wsX4_take := goodIn_r _ [15, 1, 2, 4, 5, 6, 7, 8, 9, 10, 32, 33, 34, 35, 36, 37] (by decide +kernel) (by decide +kernel)
set_option maxRecDepth 20000 in
theorem gX4_readOrder_X4_take : GoodIn wsX4_readOrder (wsV RX4 31 RX4 yX4_take wsX4_take) := goodIn_app (goodIn_of _ (by decide +kernel)) ggX4_readOrder_X4_take
set_option maxRecDepth 20000 in
theorem ggX4_readOrder_X4_readThing : GoodIn wsX4_readOrder wsX4_readThing := goodIn_r _ [19, 20, 21, 22, 23, 14, 24, 1, 2, 25, 26, 27, 28, 4, 5, 6, 7, 8, 9, 10, 29, 30, 31, 11, 12, 13, 15, 32, 33, 34, 35, 36, 37] (by decide +kernel) (by decide +kernel)
set_option maxRecDepth 20000 in
theorem gX4_readOrder_X4_readThing : GoodIn wsX4_readOrder (wsV RX4 44 RX4 yX4_readThing wsX4_readThing) := goodIn_app (goodIn_of _ (by decide +kernel)) ggX4_readOrder_X4_readThing
set_option maxRecDepth 20000 in
theorem ggX4_readOrder_X4_readNumber : GoodIn wsX4_readOrder wsX4_readNumber := goodIn_r _ [24, 1, 2, 20, 25, 26, 27, 14, 28, 4, 5, 6, 7, 8, 9, 10, 29, 30, 31, 32, 33, 34, 35, 36, 37] (by decide +kernel) (by decide +kernel)
set_option maxRecDepth 20000 in
theorem gX4_readOrder_X4_readNumber : GoodIn wsX4_readOrder (wsV RX4 47 RX4 yX4_readNumber wsX4_readNumber) := goodIn_app (goodIn_of _ (by decide +kernel)) ggX4_readOrder_X4_readNumber
theorem dX4_readOrder_0 : decode cX4_readOrder 0 = .ok (.aload_n 0, 1) := by decide +kernel
theorem dX4_readOrder_1 : decode cX4_readOrder 1 = .ok (.aload_n 0, 1) := by decide +kernel
theorem dX4_readOrder_2 : decode cX4_readOrder 2 = .ok (.getfield 23, 3) := by decide +kernel
theorem dX4_readOrder_5 : decode cX4_readOrder 5 = .ok (.aload_n 0, 1) := by decide +kernel
theorem dX4_readOrder_6 : decode cX4_readOrder 6 = .ok (.getfield 9, 3) := by decide +kernel
theorem dX4_readOrder_9 : decode cX4_readOrder 9 = .ok (.invokevirtual 40, 3) := by decide +kernel
theorem dX4_readOrder_12 : decode cX4_readOrder 12 = .ok (.putfield 15, 3) := by decide +kernel
theorem dX4_readOrder_15 : decode cX4_readOrder 15 = .ok (.aload_n 0, 1) := by decide +kernel
theorem dX4_readOrder_16 : decode cX4_readOrder 16 = .ok (.bipush 103, 2) := by decide +kernel
theorem dX4_readOrder_18 : decode cX4_readOrder 18 = .ok (.invokevirtual 31, 3) := by decide +kernel
theorem dX4_readOrder_21 : decode cX4_readOrder 21 = .ok (.ifCond .eq 8, 3) := by decide +kernel
theorem dX4_readOrder_24 : decode cX4_readOrder 24 = .ok (.aload_n 0, 1) := by decide +kernel
theorem dX4_readOrder_25 : decode cX4_readOrder 25 = .ok (.invokevirtual 44, 3) := by decide +kernel
theorem dX4_readOrder_28 : decode cX4_readOrder 28 = .ok (.ireturn, 1) := by decide +kernel
theorem dX4_readOrder_29 : decode cX4_readOrder 29 = .ok (.aload_n 0, 1) := by decide +kernel
theorem dX4_readOrder_30 : decode cX4_readOrder 30 = .ok (.bipush 102, 2) := by decide +kernel
theorem dX4_readOrder_32 : decode cX4_readOrder 32 = .ok (.invokevirtual 31, 3) := by decide +kernel
theorem dX4_readOrder_35 : decode cX4_readOrder 35 = .ok (.ifCond .eq 34, 3) := by decide +kernel
theorem dX4_readOrder_38 : decode cX4_readOrder 38 = .ok (.aload_n 0, 1) := by decide +kernel
theorem dX4_readOrder_39 : decode cX4_readOrder 39 = .ok (.iconst 0, 1) := by decide +kernel
theorem dX4_readOrder_40 : decode cX4_readOrder 40 = .ok (.invokevirtual 47, 3) := by decide +kernel
theorem dX4_readOrder_43 : decode cX4_readOrder 43 = .ok (.ifCond .eq 24, 3) := by decide +kernel
theorem dX4_readOrder_46 : decode cX4_readOrder 46 = .ok (.aload_n 0, 1) := by decide +kernel
theorem dX4_readOrder_47 : decode cX4_readOrder 47 = .ok (.bipush 46, 2) := by decide +kernel
theorem dX4_readOrder_49 : decode cX4_readOrder 49 = .ok (.invokevirtual 31, 3) := by decide +kernel
theorem dX4_readOrder_52 : decode cX4_readOrder 52 = .ok (.ifCond .eq 15, 3) := by decide +kernel
theorem dX4_readOrder_55 : decode cX4_readOrder 55 = .ok (.aload_n 0, 1) := by decide +kernel
theorem dX4_readOrder_56 : decode cX4_readOrder 56 = .ok (.iconst 1, 1) := by decide +kernel
theorem dX4_readOrder_57 : decode cX4_readOrder 57 = .ok (.invokevirtual 47, 3) := by decide +kernel
theorem dX4_readOrder_60 : decode cX4_readOrder 60 = .ok (.ifCond .eq 7, 3) := by decide +kernel
theorem dX4_readOrder_63 : decode cX4_readOrder 63 = .ok (.iconst 1, 1) := by decide +kernel
theorem dX4_readOrder_64 : decode cX4_readOrder 64 = .ok (.goto 4, 3) := by decide +kernel
theorem dX4_readOrder_67 : decode cX4_readOrder 67 = .ok (.iconst 0, 1) := by decide +kernel
theorem dX4_readOrder_68 : decode cX4_readOrder 68 = .ok (.ireturn, 1) := by decide +kernel
theorem dX4_readOrder_69 : decode cX4_readOrder 69 = .ok (.aload_n 0, 1) := by decide +kernel
theorem dX4_readOrder_70 : decode cX4_readOrder 70 = .ok (.bipush 119, 2) := by decide +kernel
theorem dX4_readOrder_72 : decode cX4_readOrder 72 = .ok (.invokevirtual 31, 3) := by decide +kernel
theorem dX4_readOrder_75 : decode cX4_readOrder 75 = .ok (.ifCond .eq 9, 3) := by decide +kernel
theorem dX4_readOrder_78 : decode cX4_readOrder 78 = .ok (.aload_n 0, 1) := by decide +kernel
theorem dX4_readOrder_79 : decode cX4_readOrder 79 = .ok (.iconst 0, 1) := by decide +kernel
theorem dX4_readOrder_80 : decode cX4_readOrder 80 = .ok (.invokevirtual 47, 3) := by decide +kernel
theorem dX4_readOrder_83 : decode cX4_readOrder 83 = .ok (.ireturn, 1) := by decide +kernel
theorem dX4_readOrder_84 : decode cX4_readOrder 84 = .ok (.aload_n 0, 1) := by decide +kernel
theorem dX4_readOrder_85 : decode cX4_readOrder 85 = .ok (.bipush 112, 2) := by decide +kernel
theorem dX4_readOrder_87 : decode cX4_readOrder 87 = .ok (.invokevirtual 31, 3) := by decide +kernel
theorem dX4_readOrder_90 : decode cX4_readOrder 90 = .ok (.ireturn, 1) := by decide +kernel
set_option maxRecDepth 20000 in
theorem ggX4_take_X2_characterAt : GoodIn wsX4_take wsX2_characterAt := goodIn_r _ [7, 8, 9, 14, 15] (by decide +kernel) (by decide +kernel)
set_option maxRecDepth 20000 in
theorem gX4_take_X2_characterAt : GoodIn wsX4_take (wsV RX4 40 RX2 yX2_characterAt wsX2_characterAt) := goodIn_app (goodIn_of _ (by decide +kernel)) ggX4_take_X2_characterAt
theorem dX4_take_0 : decode cX4_take 0 = .ok (.aload_n 0, 1) := by decide +kernel
theorem dX4_take_1 : decode cX4_take 1 = .ok (.getfield 23, 3) := by decide +kernel
theorem dX4_take_4 : decode cX4_take 4 = .ok (.aload_n 0, 1) := by decide +kernel
theorem dX4_take_5 : decode cX4_take 5 = .ok (.getfield 9, 3) := by decide +kernel
end
section
theorem dX4_take_8 : decode cX4_take 8 = .ok (.invokevirtual 40, 3) := by decide +kernel
theorem dX4_take_11 : decode cX4_take 11 = .ok (.iload_n 1, 1) := by decide +kernel
theorem dX4_take_12 : decode cX4_take 12 = .ok (.if_icmp .eq 5, 3) := by decide +kernel
theorem dX4_take_15 : decode cX4_take 15 = .ok (.iconst 0, 1) := by decide +kernel
theorem dX4_take_16 : decode cX4_take 16 = .ok (.ireturn, 1) := by decide +kernel
theorem dX4_take_17 : decode cX4_take 17 = .ok (.aload_n 0, 1) := by decide +kernel
theorem dX4_take_18 : decode cX4_take 18 = .ok (.dup, 1) := by decide +kernel
theorem dX4_take_19 : decode cX4_take 19 = .ok (.getfield 9, 3) := by decide +kernel
theorem dX4_take_22 : decode cX4_take 22 = .ok (.iconst 1, 1) := by decide +kernel
theorem dX4_take_23 : decode cX4_take 23 = .ok (.iadd, 1) := by decide +kernel
theorem dX4_take_24 : decode cX4_take 24 = .ok (.putfield 9, 3) := by decide +kernel
theorem dX4_take_27 : decode cX4_take 27 = .ok (.iconst 1, 1) := by decide +kernel
theorem dX4_take_28 : decode cX4_take 28 = .ok (.ireturn, 1) := by decide +kernel
set_option maxRecDepth 20000 in
theorem ggX4_readThing_X4_readNumber : GoodIn wsX4_readThing wsX4_readNumber := goodIn_r _ [6, 7, 8, 1, 9, 10, 11, 5, 12, 13, 14, 15, 16, 17, 18, 19, 20, 21, 22, 27, 28, 29, 30, 31, 32] (by decide +kernel) (by decide +kernel)
set_option maxRecDepth 20000 in
theorem gX4_readThing_X4_readNumber : GoodIn wsX4_readThing (wsV RX4 47 RX4 yX4_readNumber wsX4_readNumber) := goodIn_app (goodIn_of _ (by decide +kernel)) ggX4_readThing_X4_readNumber
set_option maxRecDepth 20000 in
theorem ggX4_readThing_X4_take : GoodIn wsX4_readThing wsX4_take := goodIn_r _ [26, 7, 8, 13, 14, 15, 16, 17, 18, 19, 27, 28, 29, 30, 31, 32] (by decide +kernel) (by decide +kernel)
set_option maxRecDepth 20000 in
theorem gX4_readThing_X4_take : GoodIn wsX4_readThing (wsV RX4 31 RX4 yX4_take wsX4_take) := goodIn_app (goodIn_of _ (by decide +kernel)) ggX4_readThing_X4_take
set_option maxRecDepth 20000 in
theorem ggX4_readThing_X4_readDigit : GoodIn wsX4_readThing wsX4_readDigit := goodIn_r _ [12, 7, 8, 1, 13, 14, 15, 16, 17, 18, 19, 20, 21, 5, 22, 27, 28, 29, 30, 31, 32] (by decide +kernel) (by decide +kernel)
set_option maxRecDepth 20000 in
theorem gX4_readThing_X4_readDigit : GoodIn wsX4_readThing (wsV RX4 51 RX4 yX4_readDigit wsX4_readDigit) := goodIn_app (goodIn_of _ (by decide +kernel)) ggX4_readThing_X4_readDigit
theorem dX4_readThing_0 : decode cX4_readThing 0 = .ok (.aload_n 0, 1) := by decide +kernel
theorem dX4_readThing_1 : decode cX4_readThing 1 = .ok (.getfield 19, 3) := by decide +kernel
theorem dX4_readThing_4 : decode cX4_readThing 4 = .ok (.iconst 5, 1) := by decide +kernel
theorem dX4_readThing_5 : decode cX4_readThing 5 = .ok (.iconst 0, 1) := by decide +kernel
theorem dX4_readThing_6 : decode cX4_readThing 6 = .ok (.iastore, 1) := by decide +kernel
theorem dX4_readThing_7 : decode cX4_readThing 7 = .ok (.aload_n 0, 1) := by decide +kernel
theorem dX4_readThing_8 : decode cX4_readThing 8 = .ok (.getfield 19, 3) := by decide +kernel
theorem dX4_readThing_11 : decode cX4_readThing 11 = .ok (.bipush 6, 2) := by decide +kernel
theorem dX4_readThing_13 : decode cX4_readThing 13 = .ok (.bipush (-6), 2) := by decide +kernel
theorem dX4_readThing_15 : decode cX4_readThing 15 = .ok (.iastore, 1) := by decide +kernel
theorem dX4_readThing_16 : decode cX4_readThing 16 = .ok (.aload_n 0, 1) := by decide +kernel
theorem dX4_readThing_17 : decode cX4_readThing 17 = .ok (.iconst 0, 1) := by decide +kernel
theorem dX4_readThing_18 : decode cX4_readThing 18 = .ok (.invokevirtual 47, 3) := by decide +kernel
theorem dX4_readThing_21 : decode cX4_readThing 21 = .ok (.ifCond .eq 75, 3) := by decide +kernel
theorem dX4_readThing_24 : decode cX4_readThing 24 = .ok (.aload_n 0, 1) := by decide +kernel
theorem dX4_readThing_25 : decode cX4_readThing 25 = .ok (.bipush 44, 2) := by decide +kernel
theorem dX4_readThing_27 : decode cX4_readThing 27 = .ok (.invokevirtual 31, 3) := by decide +kernel
theorem dX4_readThing_30 : decode cX4_readThing 30 = .ok (.ifCond .eq 66, 3) := by decide +kernel
theorem dX4_readThing_33 : decode cX4_readThing 33 = .ok (.aload_n 0, 1) := by decide +kernel
theorem dX4_readThing_34 : decode cX4_readThing 34 = .ok (.iconst 1, 1) := by decide +kernel
theorem dX4_readThing_35 : decode cX4_readThing 35 = .ok (.invokevirtual 47, 3) := by decide +kernel
theorem dX4_readThing_38 : decode cX4_readThing 38 = .ok (.ifCond .eq 58, 3) := by decide +kernel
theorem dX4_readThing_41 : decode cX4_readThing 41 = .ok (.aload_n 0, 1) := by decide +kernel
theorem dX4_readThing_42 : decode cX4_readThing 42 = .ok (.bipush 44, 2) := by decide +kernel
theorem dX4_readThing_44 : decode cX4_readThing 44 = .ok (.invokevirtual 31, 3) := by decide +kernel
theorem dX4_readThing_47 : decode cX4_readThing 47 = .ok (.ifCond .eq 49, 3) := by decide +kernel
theorem dX4_readThing_50 : decode cX4_readThing 50 = .ok (.aload_n 0, 1) := by decide +kernel
theorem dX4_readThing_51 : decode cX4_readThing 51 = .ok (.iconst 2, 1) := by decide +kernel
theorem dX4_readThing_52 : decode cX4_readThing 52 = .ok (.invokevirtual 47, 3) := by decide +kernel
theorem dX4_readThing_55 : decode cX4_readThing 55 = .ok (.ifCond .eq 41, 3) := by decide +kernel
theorem dX4_readThing_58 : decode cX4_readThing 58 = .ok (.aload_n 0, 1) := by decide +kernel
theorem dX4_readThing_59 : decode cX4_readThing 59 = .ok (.bipush 44, 2) := by decide +kernel
theorem dX4_readThing_61 : decode cX4_readThing 61 = .ok (.invokevirtual 31, 3) := by decide +kernel
theorem dX4_readThing_64 : decode cX4_readThing 64 = .ok (.ifCond .eq 32, 3) := by decide +kernel
theorem dX4_readThing_67 : decode cX4_readThing 67 = .ok (.aload_n 0, 1) := by decide +kernel
theorem dX4_readThing_68 : decode cX4_readThing 68 = .ok (.iconst 3, 1) := by decide +kernel
theorem dX4_readThing_69 : decode cX4_readThing 69 = .ok (.invokevirtual 47, 3) := by decide +kernel
theorem dX4_readThing_72 : decode cX4_readThing 72 = .ok (.ifCond .eq 24, 3) := by decide +kernel
theorem dX4_readThing_75 : decode cX4_readThing 75 = .ok (.aload_n 0, 1) := by decide +kernel
theorem dX4_readThing_76 : decode cX4_readThing 76 = .ok (.bipush 42, 2) := by decide +kernel
theorem dX4_readThing_78 : decode cX4_readThing 78 = .ok (.invokevirtual 31, 3) := by decide +kernel
theorem dX4_readThing_81 : decode cX4_readThing 81 = .ok (.ifCond .eq 15, 3) := by decide +kernel
theorem dX4_readThing_84 : decode cX4_readThing 84 = .ok (.aload_n 0, 1) := by decide +kernel
theorem dX4_readThing_85 : decode cX4_readThing 85 = .ok (.iconst 4, 1) := by decide +kernel
theorem dX4_readThing_86 : decode cX4_readThing 86 = .ok (.invokevirtual 51, 3) := by decide +kernel
theorem dX4_readThing_89 : decode cX4_readThing 89 = .ok (.ifCond .eq 7, 3) := by decide +kernel
theorem dX4_readThing_92 : decode cX4_readThing 92 = .ok (.iconst 1, 1) := by decide +kernel
theorem dX4_readThing_93 : decode cX4_readThing 93 = .ok (.goto 4, 3) := by decide +kernel
theorem dX4_readThing_96 : decode cX4_readThing 96 = .ok (.iconst 0, 1) := by decide +kernel
theorem dX4_readThing_97 : decode cX4_readThing 97 = .ok (.istore_n 1, 1) := by decide +kernel
theorem dX4_readThing_98 : decode cX4_readThing 98 = .ok (.iload_n 1, 1) := by decide +kernel
theorem dX4_readThing_99 : decode cX4_readThing 99 = .ok (.ifCond .eq 16, 3) := by decide +kernel
theorem dX4_readThing_102 : decode cX4_readThing 102 = .ok (.aload_n 0, 1) := by decide +kernel
theorem dX4_readThing_103 : decode cX4_readThing 103 = .ok (.bipush 45, 2) := by decide +kernel
theorem dX4_readThing_105 : decode cX4_readThing 105 = .ok (.invokevirtual 31, 3) := by decide +kernel
theorem dX4_readThing_108 : decode cX4_readThing 108 = .ok (.ifCond .eq 7, 3) := by decide +kernel
theorem dX4_readThing_111 : decode cX4_readThing 111 = .ok (.iconst 1, 1) := by decide +kernel
theorem dX4_readThing_112 : decode cX4_readThing 112 = .ok (.goto 4, 3) := by decide +kernel
theorem dX4_readThing_115 : decode cX4_readThing 115 = .ok (.iconst 0, 1) := by decide +kernel
theorem dX4_readThing_116 : decode cX4_readThing 116 = .ok (.istore_n 2, 1) := by decide +kernel
theorem dX4_readThing_117 : decode cX4_readThing 117 = .ok (.iload_n 2, 1) := by decide +kernel
theorem dX4_readThing_118 : decode cX4_readThing 118 = .ok (.ifCond .ne 16, 3) := by decide +kernel
theorem dX4_readThing_121 : decode cX4_readThing 121 = .ok (.iload_n 1, 1) := by decide +kernel
theorem dX4_readThing_122 : decode cX4_readThing 122 = .ok (.ifCond .eq 18, 3) := by decide +kernel
theorem dX4_readThing_125 : decode cX4_readThing 125 = .ok (.aload_n 0, 1) := by decide +kernel
theorem dX4_readThing_126 : decode cX4_readThing 126 = .ok (.bipush 43, 2) := by decide +kernel
theorem dX4_readThing_128 : decode cX4_readThing 128 = .ok (.invokevirtual 31, 3) := by decide +kernel
theorem dX4_readThing_131 : decode cX4_readThing 131 = .ok (.ifCond .eq 9, 3) := by decide +kernel
theorem dX4_readThing_134 : decode cX4_readThing 134 = .ok (.aload_n 0, 1) := by decide +kernel
theorem dX4_readThing_135 : decode cX4_readThing 135 = .ok (.iconst 5, 1) := by decide +kernel
theorem dX4_readThing_136 : decode cX4_readThing 136 = .ok (.invokevirtual 47, 3) := by decide +kernel
theorem dX4_readThing_139 : decode cX4_readThing 139 = .ok (.istore_n 1, 1) := by decide +kernel
theorem dX4_readThing_140 : decode cX4_readThing 140 = .ok (.iload_n 2, 1) := by decide +kernel
theorem dX4_readThing_141 : decode cX4_readThing 141 = .ok (.ifCond .eq 16, 3) := by decide +kernel
theorem dX4_readThing_144 : decode cX4_readThing 144 = .ok (.aload_n 0, 1) := by decide +kernel
theorem dX4_readThing_145 : decode cX4_readThing 145 = .ok (.getfield 19, 3) := by decide +kernel
theorem dX4_readThing_148 : decode cX4_readThing 148 = .ok (.iconst 5, 1) := by decide +kernel
theorem dX4_readThing_149 : decode cX4_readThing 149 = .ok (.aload_n 0, 1) := by decide +kernel
theorem dX4_readThing_150 : decode cX4_readThing 150 = .ok (.getfield 19, 3) := by decide +kernel
theorem dX4_readThing_153 : decode cX4_readThing 153 = .ok (.iconst 5, 1) := by decide +kernel
theorem dX4_readThing_154 : decode cX4_readThing 154 = .ok (.iaload, 1) := by decide +kernel
theorem dX4_readThing_155 : decode cX4_readThing 155 = .ok (.ineg, 1) := by decide +kernel
theorem dX4_readThing_156 : decode cX4_readThing 156 = .ok (.iastore, 1) := by decide +kernel
theorem dX4_readThing_157 : decode cX4_readThing 157 = .ok (.iload_n 1, 1) := by decide +kernel
theorem dX4_readThing_158 : decode cX4_readThing 158 = .ok (.ifCond .eq 25, 3) := by decide +kernel
theorem dX4_readThing_161 : decode cX4_readThing 161 = .ok (.aload_n 0, 1) := by decide +kernel
theorem dX4_readThing_162 : decode cX4_readThing 162 = .ok (.bipush 64, 2) := by decide +kernel
theorem dX4_readThing_164 : decode cX4_readThing 164 = .ok (.invokevirtual 31, 3) := by decide +kernel
theorem dX4_readThing_167 : decode cX4_readThing 167 = .ok (.ifCond .eq 12, 3) := by decide +kernel
theorem dX4_readThing_170 : decode cX4_readThing 170 = .ok (.aload_n 0, 1) := by decide +kernel
theorem dX4_readThing_171 : decode cX4_readThing 171 = .ok (.bipush 6, 2) := by decide +kernel
theorem dX4_readThing_173 : decode cX4_readThing 173 = .ok (.invokevirtual 51, 3) := by decide +kernel
theorem dX4_readThing_176 : decode cX4_readThing 176 = .ok (.ifCond .eq 7, 3) := by decide +kernel
theorem dX4_readThing_179 : decode cX4_readThing 179 = .ok (.iconst 1, 1) := by decide +kernel
theorem dX4_readThing_180 : decode cX4_readThing 180 = .ok (.goto 4, 3) := by decide +kernel
theorem dX4_readThing_183 : decode cX4_readThing 183 = .ok (.iconst 0, 1) := by decide +kernel
theorem dX4_readThing_184 : decode cX4_readThing 184 = .ok (.ireturn, 1) := by decide +kernel
set_option maxRecDepth 20000 in
theorem ggX4_readDigit_X2_characterAt : GoodIn wsX4_readDigit wsX2_characterAt := goodIn_r _ [8, 9, 10, 19, 20] (by decide +kernel) (by decide +kernel)
set_option maxRecDepth 20000 in
theorem gX4_readDigit_X2_characterAt : GoodIn wsX4_readDigit (wsV RX4 40 RX2 yX2_characterAt wsX2_characterAt) := goodIn_app (goodIn_of _ (by decide +kernel)) ggX4_readDigit_X2_characterAt
set_option maxRecDepth 20000 in
theorem ggX4_readDigit_X4_isDigit : GoodIn wsX4_readDigit wsX4_isDigit := goodIn_r _ [14] (by decide +kernel) (by decide +kernel)
set_option maxRecDepth 20000 in
theorem gX4_readDigit_X4_isDigit : GoodIn wsX4_readDigit (va_wsS RX4 54 yX4_isDigit wsX4_isDigit) := goodIn_app (goodIn_of _ (by decide +kernel)) ggX4_readDigit_X4_isDigit
theorem dX4_readDigit_0 : decode cX4_readDigit 0 = .ok (.aload_n 0, 1) := by decide +kernel
theorem dX4_readDigit_1 : decode cX4_readDigit 1 = .ok (.getfield 23, 3) := by decide +kernel
theorem dX4_readDigit_4 : decode cX4_readDigit 4 = .ok (.aload_n 0, 1) := by decide +kernel
theorem dX4_readDigit_5 : decode cX4_readDigit 5 = .ok (.getfield 9, 3) := by decide +kernel
theorem dX4_readDigit_8 : decode cX4_readDigit 8 = .ok (.invokevirtual 40, 3) := by decide +kernel
theorem dX4_readDigit_11 : decode cX4_readDigit 11 = .ok (.istore_n 2, 1) := by decide +kernel
theorem dX4_readDigit_12 : decode cX4_readDigit 12 = .ok (.iload_n 2, 1) := by decide +kernel
theorem dX4_readDigit_13 : decode cX4_readDigit 13 = .ok (.invokestatic 54, 3) := by decide +kernel
theorem dX4_readDigit_16 : decode cX4_readDigit 16 = .ok (.ifCond .ne 5, 3) := by decide +kernel
theorem dX4_readDigit_19 : decode cX4_readDigit 19 = .ok (.iconst 0, 1) := by decide +kernel
theorem dX4_readDigit_20 : decode cX4_readDigit 20 = .ok (.ireturn, 1) := by decide +kernel
theorem dX4_readDigit_21 : decode cX4_readDigit 21 = .ok (.aload_n 0, 1) := by decide +kernel
theorem dX4_readDigit_22 : decode cX4_readDigit 22 = .ok (.getfield 19, 3) := by decide +kernel
theorem dX4_readDigit_25 : decode cX4_readDigit 25 = .ok (.iload_n 1, 1) := by decide +kernel
theorem dX4_readDigit_26 : decode cX4_readDigit 26 = .ok (.iload_n 2, 1) := by decide +kernel
theorem dX4_readDigit_27 : decode cX4_readDigit 27 = .ok (.bipush 48, 2) := by decide +kernel
theorem dX4_readDigit_29 : decode cX4_readDigit 29 = .ok (.isub, 1) := by decide +kernel
theorem dX4_readDigit_30 : decode cX4_readDigit 30 = .ok (.iastore, 1) := by decide +kernel
theorem dX4_readDigit_31 : decode cX4_readDigit 31 = .ok (.aload_n 0, 1) := by decide +kernel
theorem dX4_readDigit_32 : decode cX4_readDigit 32 = .ok (.dup, 1) := by decide +kernel
theorem dX4_readDigit_33 : decode cX4_readDigit 33 = .ok (.getfield 9, 3) := by decide +kernel
theorem dX4_readDigit_36 : decode cX4_readDigit 36 = .ok (.iconst 1, 1) := by decide +kernel
theorem dX4_readDigit_37 : decode cX4_readDigit 37 = .ok (.iadd, 1) := by decide +kernel
theorem dX4_readDigit_38 : decode cX4_readDigit 38 = .ok (.putfield 9, 3) := by decide +kernel
theorem dX4_readDigit_41 : decode cX4_readDigit 41 = .ok (.iconst 1, 1) := by decide +kernel
theorem dX4_readDigit_42 : decode cX4_readDigit 42 = .ok (.ireturn, 1) := by decide +kernel
set_option maxRecDepth 20000 in
theorem ggX4_readNumber_X4_readDigit : GoodIn wsX4_readNumber wsX4_readDigit := goodIn_r _ [8, 1, 2, 3, 9, 10, 11, 12, 13, 14, 15, 16, 17, 7, 18, 19, 20, 21, 22, 23, 24] (by decide +kernel) (by decide +kernel)
set_option maxRecDepth 20000 in
theorem gX4_readNumber_X4_readDigit : GoodIn wsX4_readNumber (wsV RX4 51 RX4 yX4_readDigit wsX4_readDigit) := goodIn_app (goodIn_of _ (by decide +kernel)) ggX4_readNumber_X4_readDigit
set_option maxRecDepth 20000 in
theorem ggX4_readNumber_X2_characterAt : GoodIn wsX4_readNumber wsX2_characterAt := goodIn_r _ [13, 14, 15, 23, 24] (by decide +kernel) (by decide +kernel)
set_option maxRecDepth 20000 in
theorem gX4_readNumber_X2_characterAt : GoodIn wsX4_readNumber (wsV RX4 40 RX2 yX2_characterAt wsX2_characterAt) := goodIn_app (goodIn_of _ (by decide +kernel)) ggX4_readNumber_X2_characterAt
set_option maxRecDepth 20000 in
theorem ggX4_readNumber_X4_isDigit : GoodIn wsX4_readNumber wsX4_isDigit := goodIn_r _ [18] (by decide +kernel) (by decide +kernel)
set_option maxRecDepth 20000 in
theorem gX4_readNumber_X4_isDigit : GoodIn wsX4_readNumber (va_wsS RX4 54 yX4_isDigit wsX4_isDigit) := goodIn_app (goodIn_of _ (by decide +kernel)) ggX4_readNumber_X4_isDigit
theorem dX4_readNumber_0 : decode cX4_readNumber 0 = .ok (.aload_n 0, 1) := by decide +kernel
theorem dX4_readNumber_1 : decode cX4_readNumber 1 = .ok (.iload_n 1, 1) := by decide +kernel
theorem dX4_readNumber_2 : decode cX4_readNumber 2 = .ok (.invokevirtual 51, 3) := by decide +kernel
theorem dX4_readNumber_5 : decode cX4_readNumber 5 = .ok (.ifCond .ne 5, 3) := by decide +kernel
theorem dX4_readNumber_8 : decode cX4_readNumber 8 = .ok (.iconst 0, 1) := by decide +kernel
theorem dX4_readNumber_9 : decode cX4_readNumber 9 = .ok (.ireturn, 1) := by decide +kernel
theorem dX4_readNumber_10 : decode cX4_readNumber 10 = .ok (.aload_n 0, 1) := by decide +kernel
theorem dX4_readNumber_11 : decode cX4_readNumber 11 = .ok (.getfield 23, 3) := by decide +kernel
theorem dX4_readNumber_14 : decode cX4_readNumber 14 = .ok (.aload_n 0, 1) := by decide +kernel
theorem dX4_readNumber_15 : decode cX4_readNumber 15 = .ok (.getfield 9, 3) := by decide +kernel
theorem dX4_readNumber_18 : decode cX4_readNumber 18 = .ok (.invokevirtual 40, 3) := by decide +kernel
theorem dX4_readNumber_21 : decode cX4_readNumber 21 = .ok (.istore_n 2, 1) := by decide +kernel
theorem dX4_readNumber_22 : decode cX4_readNumber 22 = .ok (.aload_n 0, 1) := by decide +kernel
theorem dX4_readNumber_23 : decode cX4_readNumber 23 = .ok (.getfield 19, 3) := by decide +kernel
theorem dX4_readNumber_26 : decode cX4_readNumber 26 = .ok (.iload_n 1, 1) := by decide +kernel
theorem dX4_readNumber_27 : decode cX4_readNumber 27 = .ok (.iaload, 1) := by decide +kernel
theorem dX4_readNumber_28 : decode cX4_readNumber 28 = .ok (.ifCond .eq 40, 3) := by decide +kernel
theorem dX4_readNumber_31 : decode cX4_readNumber 31 = .ok (.iload_n 2, 1) := by decide +kernel
theorem dX4_readNumber_32 : decode cX4_readNumber 32 = .ok (.invokestatic 54, 3) := by decide +kernel
theorem dX4_readNumber_35 : decode cX4_readNumber 35 = .ok (.ifCond .eq 33, 3) := by decide +kernel
theorem dX4_readNumber_38 : decode cX4_readNumber 38 = .ok (.aload_n 0, 1) := by decide +kernel
theorem dX4_readNumber_39 : decode cX4_readNumber 39 = .ok (.getfield 19, 3) := by decide +kernel
theorem dX4_readNumber_42 : decode cX4_readNumber 42 = .ok (.iload_n 1, 1) := by decide +kernel
theorem dX4_readNumber_43 : decode cX4_readNumber 43 = .ok (.aload_n 0, 1) := by decide +kernel
theorem dX4_readNumber_44 : decode cX4_readNumber 44 = .ok (.getfield 19, 3) := by decide +kernel
theorem dX4_readNumber_47 : decode cX4_readNumber 47 = .ok (.iload_n 1, 1) := by decide +kernel
theorem dX4_readNumber_48 : decode cX4_readNumber 48 = .ok (.iaload, 1) := by decide +kernel
theorem dX4_readNumber_49 : decode cX4_readNumber 49 = .ok (.bipush 10, 2) := by decide +kernel
theorem dX4_readNumber_51 : decode cX4_readNumber 51 = .ok (.imul, 1) := by decide +kernel
theorem dX4_readNumber_52 : decode cX4_readNumber 52 = .ok (.iload_n 2, 1) := by decide +kernel
theorem dX4_readNumber_53 : decode cX4_readNumber 53 = .ok (.bipush 48, 2) := by decide +kernel
theorem dX4_readNumber_55 : decode cX4_readNumber 55 = .ok (.isub, 1) := by decide +kernel
theorem dX4_readNumber_56 : decode cX4_readNumber 56 = .ok (.iadd, 1) := by decide +kernel
theorem dX4_readNumber_57 : decode cX4_readNumber 57 = .ok (.iastore, 1) := by decide +kernel
theorem dX4_readNumber_58 : decode cX4_readNumber 58 = .ok (.aload_n 0, 1) := by decide +kernel
theorem dX4_readNumber_59 : decode cX4_readNumber 59 = .ok (.dup, 1) := by decide +kernel
theorem dX4_readNumber_60 : decode cX4_readNumber 60 = .ok (.getfield 9, 3) := by decide +kernel
theorem dX4_readNumber_63 : decode cX4_readNumber 63 = .ok (.iconst 1, 1) := by decide +kernel
theorem dX4_readNumber_64 : decode cX4_readNumber 64 = .ok (.iadd, 1) := by decide +kernel
theorem dX4_readNumber_65 : decode cX4_readNumber 65 = .ok (.putfield 9, 3) := by decide +kernel
theorem dX4_readNumber_68 : decode cX4_readNumber 68 = .ok (.iconst 1, 1) := by decide +kernel
theorem dX4_readNumber_69 : decode cX4_readNumber 69 = .ok (.ireturn, 1) := by decide +kernel
theorem dX4_isDigit_0 : decode cX4_isDigit 0 = .ok (.iload_n 0, 1) := by decide +kernel
theorem dX4_isDigit_1 : decode cX4_isDigit 1 = .ok (.bipush 48, 2) := by decide +kernel
theorem dX4_isDigit_3 : decode cX4_isDigit 3 = .ok (.if_icmp .lt 13, 3) := by decide +kernel
theorem dX4_isDigit_6 : decode cX4_isDigit 6 = .ok (.iload_n 0, 1) := by decide +kernel
theorem dX4_isDigit_7 : decode cX4_isDigit 7 = .ok (.bipush 57, 2) := by decide +kernel
theorem dX4_isDigit_9 : decode cX4_isDigit 9 = .ok (.if_icmp .gt 7, 3) := by decide +kernel
theorem dX4_isDigit_12 : decode cX4_isDigit 12 = .ok (.iconst 1, 1) := by decide +kernel
theorem dX4_isDigit_13 : decode cX4_isDigit 13 = .ok (.goto 4, 3) := by decide +kernel
theorem dX4_isDigit_16 : decode cX4_isDigit 16 = .ok (.iconst 0, 1) := by decide +kernel
theorem dX4_isDigit_17 : decode cX4_isDigit 17 = .ok (.ireturn, 1) := by decide +kernel
set_option maxRecDepth 20000 in
theorem ggX5_init_X6_init : GoodIn wsX5_init wsX6_init := goodIn_r _ [24, 25, 2, 3, 26, 27, 28, 29, 30, 31, 32, 33, 34, 35, 47, 48, 49, 50, 51, 52, 53, 54, 55, 56] (by decide +kernel) (by decide +kernel)
set_option maxRecDepth 20000 in
theorem gX5_init_X6_init_n25 : GoodIn wsX5_init (wsX6_init) := ggX5_init_X6_init
set_option maxRecDepth 20000 in
theorem ggX5_init_X3_init : GoodIn wsX5_init wsX3_init := goodIn_r _ [37, 38, 2, 3, 26, 39, 57] (by decide +kernel) (by decide +kernel)
set_option maxRecDepth 20000 in
theorem gX5_init_X3_init_n32 : GoodIn wsX5_init (wsX3_init) := ggX5_init_X3_init
theorem dX5_init_0 : decode cX5_init 0 = .ok (.aload_n 0, 1) := by decide +kernel
theorem dX5_init_1 : decode cX5_init 1 = .ok (.invokespecial 3, 3) := by decide +kernel
theorem dX5_init_4 : decode cX5_init 4 = .ok (.aload_n 0, 1) := by decide +kernel
theorem dX5_init_5 : decode cX5_init 5 = .ok (.getstatic 9, 3) := by decide +kernel
theorem dX5_init_8 : decode cX5_init 8 = .ok (.invokevirtual 13, 3) := by decide +kernel
theorem dX5_init_11 : decode cX5_init 11 = .ok (.checkcast 14, 3) := by decide +kernel
theorem dX5_init_14 : decode cX5_init 14 = .ok (.putfield 18, 3) := by decide +kernel
theorem dX5_init_17 : decode cX5_init 17 = .ok (.aload_n 0, 1) := by decide +kernel
theorem dX5_init_18 : decode cX5_init 18 = .ok (.new 23, 3) := by decide +kernel
theorem dX5_init_21 : decode cX5_init 21 = .ok (.dup, 1) := by decide +kernel
theorem dX5_init_22 : decode cX5_init 22 = .ok (.invokespecial 25, 3) := by decide +kernel
theorem dX5_init_25 : decode cX5_init 25 = .ok (.putfield 26, 3) := by decide +kernel
theorem dX5_init_28 : decode cX5_init 28 = .ok (.aload_n 0, 1) := by decide +kernel
theorem dX5_init_29 : decode cX5_init 29 = .ok (.new 30, 3) := by decide +kernel
theorem dX5_init_32 : decode cX5_init 32 = .ok (.dup, 1) := by decide +kernel
theorem dX5_init_33 : decode cX5_init 33 = .ok (.invokespecial 32, 3) := by decide +kernel
theorem dX5_init_36 : decode cX5_init 36 = .ok (.putfield 33, 3) := by decide +kernel
theorem dX5_init_39 : decode cX5_init 39 = .ok (.aload_n 0, 1) := by decide +kernel
theorem dX5_init_40 : decode cX5_init 40 = .ok (.iconst 0, 1) := by decide +kernel
theorem dX5_init_41 : decode cX5_init 41 = .ok (.putfield 37, 3) := by decide +kernel
theorem dX5_init_44 : decode cX5_init 44 = .ok (.aload_n 0, 1) := by decide +kernel
theorem dX5_init_45 : decode cX5_init 45 = .ok (.iconst 0, 1) := by decide +kernel
theorem dX5_init_46 : decode cX5_init 46 = .ok (.putfield 41, 3) := by decide +kernel
theorem dX5_init_49 : decode cX5_init 49 = .ok (.aload_n 0, 1) := by decide +kernel
theorem dX5_init_50 : decode cX5_init 50 = .ok (.bipush (-6), 2) := by decide +kernel
theorem dX5_init_52 : decode cX5_init 52 = .ok (.putfield 44, 3) := by decide +kernel
theorem dX5_init_55 : decode cX5_init 55 = .ok (.aload_n 0, 1) := by decide +kernel
theorem dX5_init_56 : decode cX5_init 56 = .ok (.iconst 0, 1) := by decide +kernel
theorem dX5_init_57 : decode cX5_init 57 = .ok (.putfield 47, 3) := by decide +kernel
theorem dX5_init_60 : decode cX5_init 60 = .ok (.return_, 1) := by decide +kernel
theorem dX5_beginOf_0 : decode cX5_beginOf 0 = .ok (.aload_n 0, 1) := by decide +kernel
theorem dX5_beginOf_1 : decode cX5_beginOf 1 = .ok (.getfield 37, 3) := by decide +kernel
theorem dX5_beginOf_4 : decode cX5_beginOf 4 = .ok (.iload_n 1, 1) := by decide +kernel
theorem dX5_beginOf_5 : decode cX5_beginOf 5 = .ok (.aload_n 0, 1) := by decide +kernel
theorem dX5_beginOf_6 : decode cX5_beginOf 6 = .ok (.getfield 18, 3) := by decide +kernel
theorem dX5_beginOf_9 : decode cX5_beginOf 9 = .ok (.iconst 0, 1) := by decide +kernel
theorem dX5_beginOf_10 : decode cX5_beginOf 10 = .ok (.iaload, 1) := by decide +kernel
theorem dX5_beginOf_11 : decode cX5_beginOf 11 = .ok (.imul, 1) := by decide +kernel
theorem dX5_beginOf_12 : decode cX5_beginOf 12 = .ok (.iadd, 1) := by decide +kernel
theorem dX5_beginOf_13 : decode cX5_beginOf 13 = .ok (.ireturn, 1) := by decide +kernel
set_option maxRecDepth 20000 in
theorem ggX5_endOfPicture_X5_beginOf : GoodIn wsX5_endOfPicture wsX5_beginOf := goodIn_r _ [6, 7, 1, 8, 9, 10, 11, 12, 13, 14] (by decide +kernel) (by decide +kernel)
set_option maxRecDepth 20000 in
theorem gX5_endOfPicture_X5_beginOf : GoodIn wsX5_endOfPicture (wsV RX5 50 RX5 yX5_beginOf wsX5_beginOf) := goodIn_app (goodIn_of _ (by decide +kernel)) ggX5_endOfPicture_X5_beginOf
theorem dX5_endOfPicture_0 : decode cX5_endOfPicture 0 = .ok (.aload_n 0, 1) := by decide +kernel
theorem dX5_endOfPicture_1 : decode cX5_endOfPicture 1 = .ok (.bipush 15, 2) := by decide +kernel
theorem dX5_endOfPicture_3 : decode cX5_endOfPicture 3 = .ok (.invokevirtual 50, 3) := by decide +kernel
theorem dX5_endOfPicture_6 : decode cX5_endOfPicture 6 = .ok (.aload_n 0, 1) := by decide +kernel
theorem dX5_endOfPicture_7 : decode cX5_endOfPicture 7 = .ok (.getfield 18, 3) := by decide +kernel
theorem dX5_endOfPicture_10 : decode cX5_endOfPicture 10 = .ok (.iconst 1, 1) := by decide +kernel
theorem dX5_endOfPicture_11 : decode cX5_endOfPicture 11 = .ok (.iaload, 1) := by decide +kernel
theorem dX5_endOfPicture_12 : decode cX5_endOfPicture 12 = .ok (.iadd, 1) := by decide +kernel
theorem dX5_endOfPicture_13 : decode cX5_endOfPicture 13 = .ok (.ireturn, 1) := by decide +kernel
theorem dX5_setFlash_0 : decode cX5_setFlash 0 = .ok (.aload_n 0, 1) := by decide +kernel
theorem dX5_setFlash_1 : decode cX5_setFlash 1 = .ok (.aload_n 0, 1) := by decide +kernel
theorem dX5_setFlash_2 : decode cX5_setFlash 2 = .ok (.getfield 37, 3) := by decide +kernel
theorem dX5_setFlash_5 : decode cX5_setFlash 5 = .ok (.iload_n 1, 1) := by decide +kernel
theorem dX5_setFlash_6 : decode cX5_setFlash 6 = .ok (.iadd, 1) := by decide +kernel
theorem dX5_setFlash_7 : decode cX5_setFlash 7 = .ok (.putfield 44, 3) := by decide +kernel
theorem dX5_setFlash_10 : decode cX5_setFlash 10 = .ok (.aload_n 0, 1) := by decide +kernel
theorem dX5_setFlash_11 : decode cX5_setFlash 11 = .ok (.iload_n 2, 1) := by decide +kernel
theorem dX5_setFlash_12 : decode cX5_setFlash 12 = .ok (.putfield 47, 3) := by decide +kernel
theorem dX5_setFlash_15 : decode cX5_setFlash 15 = .ok (.return_, 1) := by decide +kernel
set_option maxRecDepth 20000 in
theorem ggX5_lightAt_X7_within : GoodIn wsX5_lightAt wsX7_within := goodIn_r _ [6] (by decide +kernel) (by decide +kernel)
set_option maxRecDepth 20000 in
theorem gX5_lightAt_X7_within_n54 : GoodIn wsX5_lightAt (wsX7_within) := ggX5_lightAt_X7_within
theorem dX5_lightAt_0 : decode cX5_lightAt 0 = .ok (.iload_n 1, 1) := by decide +kernel
theorem dX5_lightAt_1 : decode cX5_lightAt 1 = .ok (.aload_n 0, 1) := by decide +kernel
theorem dX5_lightAt_2 : decode cX5_lightAt 2 = .ok (.getfield 44, 3) := by decide +kernel
theorem dX5_lightAt_5 : decode cX5_lightAt 5 = .ok (.aload_n 0, 1) := by decide +kernel
theorem dX5_lightAt_6 : decode cX5_lightAt 6 = .ok (.getfield 44, 3) := by decide +kernel
theorem dX5_lightAt_9 : decode cX5_lightAt 9 = .ok (.aload_n 0, 1) := by decide +kernel
theorem dX5_lightAt_10 : decode cX5_lightAt 10 = .ok (.getfield 47, 3) := by decide +kernel
theorem dX5_lightAt_13 : decode cX5_lightAt 13 = .ok (.iadd, 1) := by decide +kernel
theorem dX5_lightAt_14 : decode cX5_lightAt 14 = .ok (.iconst 1, 1) := by decide +kernel
theorem dX5_lightAt_15 : decode cX5_lightAt 15 = .ok (.isub, 1) := by decide +kernel
theorem dX5_lightAt_16 : decode cX5_lightAt 16 = .ok (.invokestatic 54, 3) := by decide +kernel
theorem dX5_lightAt_19 : decode cX5_lightAt 19 = .ok (.ifCond .eq 5, 3) := by decide +kernel
theorem dX5_lightAt_22 : decode cX5_lightAt 22 = .ok (.iconst 3, 1) := by decide +kernel
theorem dX5_lightAt_23 : decode cX5_lightAt 23 = .ok (.ireturn, 1) := by decide +kernel
theorem dX5_lightAt_24 : decode cX5_lightAt 24 = .ok (.aload_n 0, 1) := by decide +kernel
theorem dX5_lightAt_25 : decode cX5_lightAt 25 = .ok (.getfield 18, 3) := by decide +kernel
theorem dX5_lightAt_28 : decode cX5_lightAt 28 = .ok (.iconst 2, 1) := by decide +kernel
theorem dX5_lightAt_29 : decode cX5_lightAt 29 = .ok (.iaload, 1) := by decide +kernel
theorem dX5_lightAt_30 : decode cX5_lightAt 30 = .ok (.istore_n 2, 1) := by decide +kernel
theorem dX5_lightAt_31 : decode cX5_lightAt 31 = .ok (.iload_n 2, 1) := by decide +kernel
theorem dX5_lightAt_32 : decode cX5_lightAt 32 = .ok (.ifCond .le 14, 3) := by decide +kernel
theorem dX5_lightAt_35 : decode cX5_lightAt 35 = .ok (.iload_n 1, 1) := by decide +kernel
theorem dX5_lightAt_36 : decode cX5_lightAt 36 = .ok (.iload_n 2, 1) := by decide +kernel
theorem dX5_lightAt_37 : decode cX5_lightAt 37 = .ok (.irem, 1) := by decide +kernel
theorem dX5_lightAt_38 : decode cX5_lightAt 38 = .ok (.iload_n 2, 1) := by decide +kernel
theorem dX5_lightAt_39 : decode cX5_lightAt 39 = .ok (.iconst 2, 1) := by decide +kernel
theorem dX5_lightAt_40 : decode cX5_lightAt 40 = .ok (.idiv, 1) := by decide +kernel
theorem dX5_lightAt_41 : decode cX5_lightAt 41 = .ok (.if_icmp .lt 5, 3) := by decide +kernel
theorem dX5_lightAt_44 : decode cX5_lightAt 44 = .ok (.iconst 0, 1) := by decide +kernel
theorem dX5_lightAt_45 : decode cX5_lightAt 45 = .ok (.ireturn, 1) := by decide +kernel
theorem dX5_lightAt_46 : decode cX5_lightAt 46 = .ok (.iconst 1, 1) := by decide +kernel
theorem dX5_lightAt_47 : decode cX5_lightAt 47 = .ok (.ireturn, 1) := by decide +kernel
set_option maxRecDepth 20000 in
theorem ggX5_linesFlashed_X5_beginOf : GoodIn wsX5_linesFlashed wsX5_beginOf := goodIn_r _ [6, 7, 1, 8, 9, 10, 11, 12, 13, 14] (by decide +kernel) (by decide +kernel)
set_option maxRecDepth 20000 in
theorem gX5_linesFlashed_X5_beginOf : GoodIn wsX5_linesFlashed (wsV RX5 50 RX5 yX5_beginOf wsX5_beginOf) := goodIn_app (goodIn_of _ (by decide +kernel)) ggX5_linesFlashed_X5_beginOf
theorem dX5_linesFlashed_0 : decode cX5_linesFlashed 0 = .ok (.iconst 0, 1) := by decide +kernel
theorem dX5_linesFlashed_1 : decode cX5_linesFlashed 1 = .ok (.istore_n 3, 1) := by decide +kernel
theorem dX5_linesFlashed_2 : decode cX5_linesFlashed 2 = .ok (.iconst 0, 1) := by decide +kernel
theorem dX5_linesFlashed_3 : decode cX5_linesFlashed 3 = .ok (.istore 4, 2) := by decide +kernel
theorem dX5_linesFlashed_5 : decode cX5_linesFlashed 5 = .ok (.iload 4, 2) := by decide +kernel
theorem dX5_linesFlashed_7 : decode cX5_linesFlashed 7 = .ok (.bipush 16, 2) := by decide +kernel
theorem dX5_linesFlashed_9 : decode cX5_linesFlashed 9 = .ok (.if_icmp .ge 45, 3) := by decide +kernel
theorem dX5_linesFlashed_12 : decode cX5_linesFlashed 12 = .ok (.aload_n 0, 1) := by decide +kernel
theorem dX5_linesFlashed_13 : decode cX5_linesFlashed 13 = .ok (.iload 4, 2) := by decide +kernel
theorem dX5_linesFlashed_15 : decode cX5_linesFlashed 15 = .ok (.invokevirtual 50, 3) := by decide +kernel
theorem dX5_linesFlashed_18 : decode cX5_linesFlashed 18 = .ok (.istore 5, 2) := by decide +kernel
theorem dX5_linesFlashed_20 : decode cX5_linesFlashed 20 = .ok (.iload 5, 2) := by decide +kernel
theorem dX5_linesFlashed_22 : decode cX5_linesFlashed 22 = .ok (.iload_n 1, 1) := by decide +kernel
theorem dX5_linesFlashed_23 : decode cX5_linesFlashed 23 = .ok (.iload_n 2, 1) := by decide +kernel
theorem dX5_linesFlashed_24 : decode cX5_linesFlashed 24 = .ok (.iadd, 1) := by decide +kernel
theorem dX5_linesFlashed_25 : decode cX5_linesFlashed 25 = .ok (.if_icmp .ge 23, 3) := by decide +kernel
theorem dX5_linesFlashed_28 : decode cX5_linesFlashed 28 = .ok (.iload_n 1, 1) := by decide +kernel
theorem dX5_linesFlashed_29 : decode cX5_linesFlashed 29 = .ok (.iload 5, 2) := by decide +kernel
theorem dX5_linesFlashed_31 : decode cX5_linesFlashed 31 = .ok (.aload_n 0, 1) := by decide +kernel
theorem dX5_linesFlashed_32 : decode cX5_linesFlashed 32 = .ok (.getfield 18, 3) := by decide +kernel
theorem dX5_linesFlashed_35 : decode cX5_linesFlashed 35 = .ok (.iconst 1, 1) := by decide +kernel
theorem dX5_linesFlashed_36 : decode cX5_linesFlashed 36 = .ok (.iaload, 1) := by decide +kernel
theorem dX5_linesFlashed_37 : decode cX5_linesFlashed 37 = .ok (.iadd, 1) := by decide +kernel
theorem dX5_linesFlashed_38 : decode cX5_linesFlashed 38 = .ok (.if_icmp .ge 10, 3) := by decide +kernel
theorem dX5_linesFlashed_41 : decode cX5_linesFlashed 41 = .ok (.iload_n 3, 1) := by decide +kernel
theorem dX5_linesFlashed_42 : decode cX5_linesFlashed 42 = .ok (.iconst 1, 1) := by decide +kernel
theorem dX5_linesFlashed_43 : decode cX5_linesFlashed 43 = .ok (.iload 4, 2) := by decide +kernel
theorem dX5_linesFlashed_45 : decode cX5_linesFlashed 45 = .ok (.ishl, 1) := by decide +kernel
theorem dX5_linesFlashed_46 : decode cX5_linesFlashed 46 = .ok (.ior, 1) := by decide +kernel
theorem dX5_linesFlashed_47 : decode cX5_linesFlashed 47 = .ok (.istore_n 3, 1) := by decide +kernel
theorem dX5_linesFlashed_48 : decode cX5_linesFlashed 48 = .ok (.iinc 4 1, 3) := by decide +kernel
theorem dX5_linesFlashed_51 : decode cX5_linesFlashed 51 = .ok (.goto (-46), 3) := by decide +kernel
theorem dX5_linesFlashed_54 : decode cX5_linesFlashed 54 = .ok (.iload_n 3, 1) := by decide +kernel
theorem dX5_linesFlashed_55 : decode cX5_linesFlashed 55 = .ok (.ireturn, 1) := by decide +kernel
set_option maxRecDepth 20000 in
theorem ggX5_copyFrom_X6_copyFrom : GoodIn wsX5_copyFrom wsX6_copyFrom := goodIn_r _ [16, 17, 18, 19, 3, 4, 5, 20, 21, 22, 23, 24, 25, 26, 27, 42, 43, 44, 45, 46, 47, 48, 49, 50, 51] (by decide +kernel) (by decide +kernel)
set_option maxRecDepth 20000 in
theorem gX5_copyFrom_X6_copyFrom : GoodIn wsX5_copyFrom (wsV RX5 64 RX6 yX6_copyFrom wsX6_copyFrom) := goodIn_app (goodIn_of _ (by decide +kernel)) ggX5_copyFrom_X6_copyFrom
set_option maxRecDepth 20000 in
theorem ggX5_copyFrom_X3_copyFrom : GoodIn wsX5_copyFrom wsX3_copyFrom := goodIn_r _ [32, 33, 34, 3, 4, 5, 52] (by decide +kernel) (by decide +kernel)
set_option maxRecDepth 20000 in
theorem gX5_copyFrom_X3_copyFrom : GoodIn wsX5_copyFrom (wsV RX5 68 RX3 yX3_copyFrom wsX3_copyFrom) := goodIn_app (goodIn_of _ (by decide +kernel)) ggX5_copyFrom_X3_copyFrom
theorem dX5_copyFrom_0 : decode cX5_copyFrom 0 = .ok (.aload_n 1, 1) := by decide +kernel
theorem dX5_copyFrom_1 : decode cX5_copyFrom 1 = .ok (.getfield 18, 3) := by decide +kernel
theorem dX5_copyFrom_4 : decode cX5_copyFrom 4 = .ok (.iconst 0, 1) := by decide +kernel
theorem dX5_copyFrom_5 : decode cX5_copyFrom 5 = .ok (.aload_n 0, 1) := by decide +kernel
theorem dX5_copyFrom_6 : decode cX5_copyFrom 6 = .ok (.getfield 18, 3) := by decide +kernel
theorem dX5_copyFrom_9 : decode cX5_copyFrom 9 = .ok (.iconst 0, 1) := by decide +kernel
theorem dX5_copyFrom_10 : decode cX5_copyFrom 10 = .ok (.iconst 4, 1) := by decide +kernel
theorem dX5_copyFrom_11 : decode cX5_copyFrom 11 = .ok (.invokestatic 58, 3) := by decide +kernel
theorem dX5_copyFrom_14 : decode cX5_copyFrom 14 = .ok (.aload_n 0, 1) := by decide +kernel
theorem dX5_copyFrom_15 : decode cX5_copyFrom 15 = .ok (.getfield 26, 3) := by decide +kernel
theorem dX5_copyFrom_18 : decode cX5_copyFrom 18 = .ok (.aload_n 1, 1) := by decide +kernel
theorem dX5_copyFrom_19 : decode cX5_copyFrom 19 = .ok (.getfield 26, 3) := by decide +kernel
theorem dX5_copyFrom_22 : decode cX5_copyFrom 22 = .ok (.invokevirtual 64, 3) := by decide +kernel
theorem dX5_copyFrom_25 : decode cX5_copyFrom 25 = .ok (.aload_n 0, 1) := by decide +kernel
theorem dX5_copyFrom_26 : decode cX5_copyFrom 26 = .ok (.getfield 33, 3) := by decide +kernel
theorem dX5_copyFrom_29 : decode cX5_copyFrom 29 = .ok (.aload_n 1, 1) := by decide +kernel
theorem dX5_copyFrom_30 : decode cX5_copyFrom 30 = .ok (.getfield 33, 3) := by decide +kernel
theorem dX5_copyFrom_33 : decode cX5_copyFrom 33 = .ok (.invokevirtual 68, 3) := by decide +kernel
theorem dX5_copyFrom_36 : decode cX5_copyFrom 36 = .ok (.aload_n 0, 1) := by decide +kernel
theorem dX5_copyFrom_37 : decode cX5_copyFrom 37 = .ok (.aload_n 1, 1) := by decide +kernel
theorem dX5_copyFrom_38 : decode cX5_copyFrom 38 = .ok (.getfield 37, 3) := by decide +kernel
theorem dX5_copyFrom_41 : decode cX5_copyFrom 41 = .ok (.putfield 37, 3) := by decide +kernel
theorem dX5_copyFrom_44 : decode cX5_copyFrom 44 = .ok (.aload_n 0, 1) := by decide +kernel
theorem dX5_copyFrom_45 : decode cX5_copyFrom 45 = .ok (.aload_n 1, 1) := by decide +kernel
theorem dX5_copyFrom_46 : decode cX5_copyFrom 46 = .ok (.getfield 41, 3) := by decide +kernel
theorem dX5_copyFrom_49 : decode cX5_copyFrom 49 = .ok (.putfield 41, 3) := by decide +kernel
theorem dX5_copyFrom_52 : decode cX5_copyFrom 52 = .ok (.aload_n 0, 1) := by decide +kernel
theorem dX5_copyFrom_53 : decode cX5_copyFrom 53 = .ok (.aload_n 1, 1) := by decide +kernel
theorem dX5_copyFrom_54 : decode cX5_copyFrom 54 = .ok (.getfield 44, 3) := by decide +kernel
theorem dX5_copyFrom_57 : decode cX5_copyFrom 57 = .ok (.putfield 44, 3) := by decide +kernel
theorem dX5_copyFrom_60 : decode cX5_copyFrom 60 = .ok (.aload_n 0, 1) := by decide +kernel
theorem dX5_copyFrom_61 : decode cX5_copyFrom 61 = .ok (.aload_n 1, 1) := by decide +kernel
theorem dX5_copyFrom_62 : decode cX5_copyFrom 62 = .ok (.getfield 47, 3) := by decide +kernel
theorem dX5_copyFrom_65 : decode cX5_copyFrom 65 = .ok (.putfield 47, 3) := by decide +kernel
theorem dX5_copyFrom_68 : decode cX5_copyFrom 68 = .ok (.return_, 1) := by decide +kernel
theorem dX6_init_0 : decode cX6_init 0 = .ok (.aload_n 0, 1) := by decide +kernel
theorem dX6_init_1 : decode cX6_init 1 = .ok (.invokespecial 3, 3) := by decide +kernel
theorem dX6_init_4 : decode cX6_init 4 = .ok (.aload_n 0, 1) := by decide +kernel
theorem dX6_init_5 : decode cX6_init 5 = .ok (.bipush 8, 2) := by decide +kernel
theorem dX6_init_7 : decode cX6_init 7 = .ok (.newarray .int, 2) := by decide +kernel
theorem dX6_init_9 : decode cX6_init 9 = .ok (.putfield 9, 3) := by decide +kernel
theorem dX6_init_12 : decode cX6_init 12 = .ok (.aload_n 0, 1) := by decide +kernel
theorem dX6_init_13 : decode cX6_init 13 = .ok (.bipush 8, 2) := by decide +kernel
theorem dX6_init_15 : decode cX6_init 15 = .ok (.newarray .int, 2) := by decide +kernel
theorem dX6_init_17 : decode cX6_init 17 = .ok (.putfield 15, 3) := by decide +kernel
theorem dX6_init_20 : decode cX6_init 20 = .ok (.aload_n 0, 1) := by decide +kernel
theorem dX6_init_21 : decode cX6_init 21 = .ok (.bipush 8, 2) := by decide +kernel
theorem dX6_init_23 : decode cX6_init 23 = .ok (.newarray .int, 2) := by decide +kernel
theorem dX6_init_25 : decode cX6_init 25 = .ok (.putfield 18, 3) := by decide +kernel
theorem dX6_init_28 : decode cX6_init 28 = .ok (.aload_n 0, 1) := by decide +kernel
theorem dX6_init_29 : decode cX6_init 29 = .ok (.bipush 8, 2) := by decide +kernel
theorem dX6_init_31 : decode cX6_init 31 = .ok (.newarray .int, 2) := by decide +kernel
theorem dX6_init_33 : decode cX6_init 33 = .ok (.putfield 21, 3) := by decide +kernel
theorem dX6_init_36 : decode cX6_init 36 = .ok (.aload_n 0, 1) := by decide +kernel
theorem dX6_init_37 : decode cX6_init 37 = .ok (.bipush 8, 2) := by decide +kernel
theorem dX6_init_39 : decode cX6_init 39 = .ok (.newarray .int, 2) := by decide +kernel
theorem dX6_init_41 : decode cX6_init 41 = .ok (.putfield 24, 3) := by decide +kernel
theorem dX6_init_44 : decode cX6_init 44 = .ok (.aload_n 0, 1) := by decide +kernel
theorem dX6_init_45 : decode cX6_init 45 = .ok (.bipush 8, 2) := by decide +kernel
theorem dX6_init_47 : decode cX6_init 47 = .ok (.newarray .int, 2) := by decide +kernel
theorem dX6_init_49 : decode cX6_init 49 = .ok (.putfield 27, 3) := by decide +kernel
theorem dX6_init_52 : decode cX6_init 52 = .ok (.aload_n 0, 1) := by decide +kernel
theorem dX6_init_53 : decode cX6_init 53 = .ok (.bipush 8, 2) := by decide +kernel
theorem dX6_init_55 : decode cX6_init 55 = .ok (.newarray .int, 2) := by decide +kernel
theorem dX6_init_57 : decode cX6_init 57 = .ok (.putfield 30, 3) := by decide +kernel
theorem dX6_init_60 : decode cX6_init 60 = .ok (.aload_n 0, 1) := by decide +kernel
theorem dX6_init_61 : decode cX6_init 61 = .ok (.bipush 8, 2) := by decide +kernel
theorem dX6_init_63 : decode cX6_init 63 = .ok (.newarray .int, 2) := by decide +kernel
theorem dX6_init_65 : decode cX6_init 65 = .ok (.putfield 33, 3) := by decide +kernel
theorem dX6_init_68 : decode cX6_init 68 = .ok (.aload_n 0, 1) := by decide +kernel
theorem dX6_init_69 : decode cX6_init 69 = .ok (.bipush 8, 2) := by decide +kernel
theorem dX6_init_71 : decode cX6_init 71 = .ok (.newarray .int, 2) := by decide +kernel
theorem dX6_init_73 : decode cX6_init 73 = .ok (.putfield 36, 3) := by decide +kernel
theorem dX6_init_76 : decode cX6_init 76 = .ok (.return_, 1) := by decide +kernel
theorem dX6_add_0 : decode cX6_add 0 = .ok (.aload_n 0, 1) := by decide +kernel
theorem dX6_add_1 : decode cX6_add 1 = .ok (.getfield 39, 3) := by decide +kernel
theorem dX6_add_4 : decode cX6_add 4 = .ok (.istore 7, 2) := by decide +kernel
theorem dX6_add_6 : decode cX6_add 6 = .ok (.aload_n 0, 1) := by decide +kernel
theorem dX6_add_7 : decode cX6_add 7 = .ok (.getfield 9, 3) := by decide +kernel
theorem dX6_add_10 : decode cX6_add 10 = .ok (.iload 7, 2) := by decide +kernel
theorem dX6_add_12 : decode cX6_add 12 = .ok (.iload_n 1, 1) := by decide +kernel
theorem dX6_add_13 : decode cX6_add 13 = .ok (.iastore, 1) := by decide +kernel
theorem dX6_add_14 : decode cX6_add 14 = .ok (.aload_n 0, 1) := by decide +kernel
theorem dX6_add_15 : decode cX6_add 15 = .ok (.getfield 15, 3) := by decide +kernel
theorem dX6_add_18 : decode cX6_add 18 = .ok (.iload 7, 2) := by decide +kernel
theorem dX6_add_20 : decode cX6_add 20 = .ok (.iload_n 3, 1) := by decide +kernel
theorem dX6_add_21 : decode cX6_add 21 = .ok (.iastore, 1) := by decide +kernel
theorem dX6_add_22 : decode cX6_add 22 = .ok (.aload_n 0, 1) := by decide +kernel
theorem dX6_add_23 : decode cX6_add 23 = .ok (.getfield 18, 3) := by decide +kernel
theorem dX6_add_26 : decode cX6_add 26 = .ok (.iload 7, 2) := by decide +kernel
theorem dX6_add_28 : decode cX6_add 28 = .ok (.iload 4, 2) := by decide +kernel
theorem dX6_add_30 : decode cX6_add 30 = .ok (.iastore, 1) := by decide +kernel
theorem dX6_add_31 : decode cX6_add 31 = .ok (.aload_n 0, 1) := by decide +kernel
theorem dX6_add_32 : decode cX6_add 32 = .ok (.getfield 21, 3) := by decide +kernel
theorem dX6_add_35 : decode cX6_add 35 = .ok (.iload 7, 2) := by decide +kernel
theorem dX6_add_37 : decode cX6_add 37 = .ok (.iload 5, 2) := by decide +kernel
theorem dX6_add_39 : decode cX6_add 39 = .ok (.iastore, 1) := by decide +kernel
theorem dX6_add_40 : decode cX6_add 40 = .ok (.aload_n 0, 1) := by decide +kernel
theorem dX6_add_41 : decode cX6_add 41 = .ok (.getfield 24, 3) := by decide +kernel
theorem dX6_add_44 : decode cX6_add 44 = .ok (.iload 7, 2) := by decide +kernel
theorem dX6_add_46 : decode cX6_add 46 = .ok (.iconst 0, 1) := by decide +kernel
theorem dX6_add_47 : decode cX6_add 47 = .ok (.iastore, 1) := by decide +kernel
theorem dX6_add_48 : decode cX6_add 48 = .ok (.aload_n 0, 1) := by decide +kernel
theorem dX6_add_49 : decode cX6_add 49 = .ok (.getfield 27, 3) := by decide +kernel
theorem dX6_add_52 : decode cX6_add 52 = .ok (.iload 7, 2) := by decide +kernel
theorem dX6_add_54 : decode cX6_add 54 = .ok (.iload 6, 2) := by decide +kernel
theorem dX6_add_56 : decode cX6_add 56 = .ok (.iastore, 1) := by decide +kernel
theorem dX6_add_57 : decode cX6_add 57 = .ok (.aload_n 0, 1) := by decide +kernel
theorem dX6_add_58 : decode cX6_add 58 = .ok (.getfield 30, 3) := by decide +kernel
theorem dX6_add_61 : decode cX6_add 61 = .ok (.iload 7, 2) := by decide +kernel
theorem dX6_add_63 : decode cX6_add 63 = .ok (.iload_n 2, 1) := by decide +kernel
theorem dX6_add_64 : decode cX6_add 64 = .ok (.iastore, 1) := by decide +kernel
theorem dX6_add_65 : decode cX6_add 65 = .ok (.aload_n 0, 1) := by decide +kernel
theorem dX6_add_66 : decode cX6_add 66 = .ok (.getfield 33, 3) := by decide +kernel
theorem dX6_add_69 : decode cX6_add 69 = .ok (.iload 7, 2) := by decide +kernel
theorem dX6_add_71 : decode cX6_add 71 = .ok (.bipush (-6), 2) := by decide +kernel
theorem dX6_add_73 : decode cX6_add 73 = .ok (.iastore, 1) := by decide +kernel
theorem dX6_add_74 : decode cX6_add 74 = .ok (.aload_n 0, 1) := by decide +kernel
theorem dX6_add_75 : decode cX6_add 75 = .ok (.getfield 36, 3) := by decide +kernel
theorem dX6_add_78 : decode cX6_add 78 = .ok (.iload 7, 2) := by decide +kernel
theorem dX6_add_80 : decode cX6_add 80 = .ok (.iconst 0, 1) := by decide +kernel
theorem dX6_add_81 : decode cX6_add 81 = .ok (.iastore, 1) := by decide +kernel
theorem dX6_add_82 : decode cX6_add 82 = .ok (.aload_n 0, 1) := by decide +kernel
theorem dX6_add_83 : decode cX6_add 83 = .ok (.dup, 1) := by decide +kernel
theorem dX6_add_84 : decode cX6_add 84 = .ok (.getfield 39, 3) := by decide +kernel
theorem dX6_add_87 : decode cX6_add 87 = .ok (.iconst 1, 1) := by decide +kernel
theorem dX6_add_88 : decode cX6_add 88 = .ok (.iadd, 1) := by decide +kernel
theorem dX6_add_89 : decode cX6_add 89 = .ok (.putfield 39, 3) := by decide +kernel
theorem dX6_add_92 : decode cX6_add 92 = .ok (.iload 7, 2) := by decide +kernel
theorem dX6_add_94 : decode cX6_add 94 = .ok (.ireturn, 1) := by decide +kernel
set_option maxRecDepth 20000 in
theorem ggX6_comeAnew_X6_leftAt : GoodIn wsX6_comeAnew wsX6_leftAt := goodIn_r _ [10, 11, 1, 3, 2, 5, 4, 12, 13, 14, 15, 16, 17, 18, 19, 20, 21, 22, 23, 24, 25] (by decide +kernel) (by decide +kernel)
set_option maxRecDepth 20000 in
theorem gX6_comeAnew_X6_leftAt : GoodIn wsX6_comeAnew (wsV RX6 43 RX6 yX6_leftAt wsX6_leftAt) := goodIn_app (goodIn_of _ (by decide +kernel)) ggX6_comeAnew_X6_leftAt
theorem dX6_comeAnew_0 : decode cX6_comeAnew 0 = .ok (.aload_n 0, 1) := by decide +kernel
theorem dX6_comeAnew_1 : decode cX6_comeAnew 1 = .ok (.getfield 30, 3) := by decide +kernel
theorem dX6_comeAnew_4 : decode cX6_comeAnew 4 = .ok (.iload_n 1, 1) := by decide +kernel
theorem dX6_comeAnew_5 : decode cX6_comeAnew 5 = .ok (.aload_n 0, 1) := by decide +kernel
theorem dX6_comeAnew_6 : decode cX6_comeAnew 6 = .ok (.iload_n 1, 1) := by decide +kernel
theorem dX6_comeAnew_7 : decode cX6_comeAnew 7 = .ok (.iload 4, 2) := by decide +kernel
theorem dX6_comeAnew_9 : decode cX6_comeAnew 9 = .ok (.invokevirtual 43, 3) := by decide +kernel
theorem dX6_comeAnew_12 : decode cX6_comeAnew 12 = .ok (.iastore, 1) := by decide +kernel
theorem dX6_comeAnew_13 : decode cX6_comeAnew 13 = .ok (.aload_n 0, 1) := by decide +kernel
theorem dX6_comeAnew_14 : decode cX6_comeAnew 14 = .ok (.getfield 27, 3) := by decide +kernel
theorem dX6_comeAnew_17 : decode cX6_comeAnew 17 = .ok (.iload_n 1, 1) := by decide +kernel
theorem dX6_comeAnew_18 : decode cX6_comeAnew 18 = .ok (.iload 4, 2) := by decide +kernel
theorem dX6_comeAnew_20 : decode cX6_comeAnew 20 = .ok (.iastore, 1) := by decide +kernel
theorem dX6_comeAnew_21 : decode cX6_comeAnew 21 = .ok (.aload_n 0, 1) := by decide +kernel
theorem dX6_comeAnew_22 : decode cX6_comeAnew 22 = .ok (.getfield 24, 3) := by decide +kernel
theorem dX6_comeAnew_25 : decode cX6_comeAnew 25 = .ok (.iload_n 1, 1) := by decide +kernel
theorem dX6_comeAnew_26 : decode cX6_comeAnew 26 = .ok (.iload_n 2, 1) := by decide +kernel
theorem dX6_comeAnew_27 : decode cX6_comeAnew 27 = .ok (.iastore, 1) := by decide +kernel
theorem dX6_comeAnew_28 : decode cX6_comeAnew 28 = .ok (.aload_n 0, 1) := by decide +kernel
theorem dX6_comeAnew_29 : decode cX6_comeAnew 29 = .ok (.getfield 33, 3) := by decide +kernel
theorem dX6_comeAnew_32 : decode cX6_comeAnew 32 = .ok (.iload_n 1, 1) := by decide +kernel
theorem dX6_comeAnew_33 : decode cX6_comeAnew 33 = .ok (.iload_n 3, 1) := by decide +kernel
theorem dX6_comeAnew_34 : decode cX6_comeAnew 34 = .ok (.iastore, 1) := by decide +kernel
theorem dX6_comeAnew_35 : decode cX6_comeAnew 35 = .ok (.aload_n 0, 1) := by decide +kernel
theorem dX6_comeAnew_36 : decode cX6_comeAnew 36 = .ok (.getfield 36, 3) := by decide +kernel
theorem dX6_comeAnew_39 : decode cX6_comeAnew 39 = .ok (.iload_n 1, 1) := by decide +kernel
theorem dX6_comeAnew_40 : decode cX6_comeAnew 40 = .ok (.aload_n 0, 1) := by decide +kernel
theorem dX6_comeAnew_41 : decode cX6_comeAnew 41 = .ok (.iload_n 3, 1) := by decide +kernel
theorem dX6_comeAnew_42 : decode cX6_comeAnew 42 = .ok (.iload 4, 2) := by decide +kernel
theorem dX6_comeAnew_44 : decode cX6_comeAnew 44 = .ok (.invokevirtual 43, 3) := by decide +kernel
theorem dX6_comeAnew_47 : decode cX6_comeAnew 47 = .ok (.iastore, 1) := by decide +kernel
theorem dX6_comeAnew_48 : decode cX6_comeAnew 48 = .ok (.return_, 1) := by decide +kernel
set_option maxRecDepth 20000 in
theorem ggX6_leftAt_J9_floorDiv_7cf53 : GoodIn wsX6_leftAt wsJ9_floorDiv_7cf53 := goodIn_r _ [10] (by decide +kernel) (by decide +kernel)
set_option maxRecDepth 20000 in
theorem gX6_leftAt_J9_floorDiv_7cf53 : GoodIn wsX6_leftAt (va_wsS RX6 47 yJ9_floorDiv_7cf53 wsJ9_floorDiv_7cf53) := goodIn_app (goodIn_of _ (by decide +kernel)) ggX6_leftAt_J9_floorDiv_7cf53
theorem dX6_leftAt_0 : decode cX6_leftAt 0 = .ok (.iconst 0, 1) := by decide +kernel
theorem dX6_leftAt_1 : decode cX6_leftAt 1 = .ok (.istore_n 3, 1) := by decide +kernel
theorem dX6_leftAt_2 : decode cX6_leftAt 2 = .ok (.iload_n 1, 1) := by decide +kernel
theorem dX6_leftAt_3 : decode cX6_leftAt 3 = .ok (.istore 4, 2) := by decide +kernel
theorem dX6_leftAt_5 : decode cX6_leftAt 5 = .ok (.iconst 0, 1) := by decide +kernel
theorem dX6_leftAt_6 : decode cX6_leftAt 6 = .ok (.istore 5, 2) := by decide +kernel
theorem dX6_leftAt_8 : decode cX6_leftAt 8 = .ok (.iload 5, 2) := by decide +kernel
theorem dX6_leftAt_10 : decode cX6_leftAt 10 = .ok (.bipush 8, 2) := by decide +kernel
theorem dX6_leftAt_12 : decode cX6_leftAt 12 = .ok (.if_icmp .ge 73, 3) := by decide +kernel
theorem dX6_leftAt_15 : decode cX6_leftAt 15 = .ok (.iload 4, 2) := by decide +kernel
theorem dX6_leftAt_17 : decode cX6_leftAt 17 = .ok (.ifCond .lt 68, 3) := by decide +kernel
theorem dX6_leftAt_20 : decode cX6_leftAt 20 = .ok (.iload 4, 2) := by decide +kernel
theorem dX6_leftAt_22 : decode cX6_leftAt 22 = .ok (.aload_n 0, 1) := by decide +kernel
theorem dX6_leftAt_23 : decode cX6_leftAt 23 = .ok (.getfield 39, 3) := by decide +kernel
theorem dX6_leftAt_26 : decode cX6_leftAt 26 = .ok (.if_icmp .ge 59, 3) := by decide +kernel
theorem dX6_leftAt_29 : decode cX6_leftAt 29 = .ok (.iload_n 3, 1) := by decide +kernel
theorem dX6_leftAt_30 : decode cX6_leftAt 30 = .ok (.aload_n 0, 1) := by decide +kernel
theorem dX6_leftAt_31 : decode cX6_leftAt 31 = .ok (.getfield 30, 3) := by decide +kernel
theorem dX6_leftAt_34 : decode cX6_leftAt 34 = .ok (.iload 4, 2) := by decide +kernel
theorem dX6_leftAt_36 : decode cX6_leftAt 36 = .ok (.iaload, 1) := by decide +kernel
theorem dX6_leftAt_37 : decode cX6_leftAt 37 = .ok (.aload_n 0, 1) := by decide +kernel
theorem dX6_leftAt_38 : decode cX6_leftAt 38 = .ok (.getfield 24, 3) := by decide +kernel
theorem dX6_leftAt_41 : decode cX6_leftAt 41 = .ok (.iload 4, 2) := by decide +kernel
theorem dX6_leftAt_43 : decode cX6_leftAt 43 = .ok (.iaload, 1) := by decide +kernel
theorem dX6_leftAt_44 : decode cX6_leftAt 44 = .ok (.iload_n 2, 1) := by decide +kernel
theorem dX6_leftAt_45 : decode cX6_leftAt 45 = .ok (.aload_n 0, 1) := by decide +kernel
theorem dX6_leftAt_46 : decode cX6_leftAt 46 = .ok (.getfield 27, 3) := by decide +kernel
theorem dX6_leftAt_49 : decode cX6_leftAt 49 = .ok (.iload 4, 2) := by decide +kernel
theorem dX6_leftAt_51 : decode cX6_leftAt 51 = .ok (.iaload, 1) := by decide +kernel
theorem dX6_leftAt_52 : decode cX6_leftAt 52 = .ok (.isub, 1) := by decide +kernel
theorem dX6_leftAt_53 : decode cX6_leftAt 53 = .ok (.imul, 1) := by decide +kernel
theorem dX6_leftAt_54 : decode cX6_leftAt 54 = .ok (.bipush 10, 2) := by decide +kernel
theorem dX6_leftAt_56 : decode cX6_leftAt 56 = .ok (.invokestatic 47, 3) := by decide +kernel
theorem dX6_leftAt_59 : decode cX6_leftAt 59 = .ok (.iadd, 1) := by decide +kernel
theorem dX6_leftAt_60 : decode cX6_leftAt 60 = .ok (.aload_n 0, 1) := by decide +kernel
theorem dX6_leftAt_61 : decode cX6_leftAt 61 = .ok (.getfield 36, 3) := by decide +kernel
theorem dX6_leftAt_64 : decode cX6_leftAt 64 = .ok (.iload 4, 2) := by decide +kernel
theorem dX6_leftAt_66 : decode cX6_leftAt 66 = .ok (.iaload, 1) := by decide +kernel
theorem dX6_leftAt_67 : decode cX6_leftAt 67 = .ok (.isub, 1) := by decide +kernel
theorem dX6_leftAt_68 : decode cX6_leftAt 68 = .ok (.iadd, 1) := by decide +kernel
theorem dX6_leftAt_69 : decode cX6_leftAt 69 = .ok (.istore_n 3, 1) := by decide +kernel
theorem dX6_leftAt_70 : decode cX6_leftAt 70 = .ok (.aload_n 0, 1) := by decide +kernel
theorem dX6_leftAt_71 : decode cX6_leftAt 71 = .ok (.getfield 33, 3) := by decide +kernel
theorem dX6_leftAt_74 : decode cX6_leftAt 74 = .ok (.iload 4, 2) := by decide +kernel
theorem dX6_leftAt_76 : decode cX6_leftAt 76 = .ok (.iaload, 1) := by decide +kernel
theorem dX6_leftAt_77 : decode cX6_leftAt 77 = .ok (.istore 4, 2) := by decide +kernel
theorem dX6_leftAt_79 : decode cX6_leftAt 79 = .ok (.iinc 5 1, 3) := by decide +kernel
theorem dX6_leftAt_82 : decode cX6_leftAt 82 = .ok (.goto (-74), 3) := by decide +kernel
theorem dX6_leftAt_85 : decode cX6_leftAt 85 = .ok (.iload_n 3, 1) := by decide +kernel
theorem dX6_leftAt_86 : decode cX6_leftAt 86 = .ok (.ireturn, 1) := by decide +kernel
theorem dX6_speedWithAllUnder_0 : decode cX6_speedWithAllUnder 0 = .ok (.iconst 0, 1) := by decide +kernel
theorem dX6_speedWithAllUnder_1 : decode cX6_speedWithAllUnder 1 = .ok (.istore_n 2, 1) := by decide +kernel
theorem dX6_speedWithAllUnder_2 : decode cX6_speedWithAllUnder 2 = .ok (.iload_n 1, 1) := by decide +kernel
theorem dX6_speedWithAllUnder_3 : decode cX6_speedWithAllUnder 3 = .ok (.istore_n 3, 1) := by decide +kernel
theorem dX6_speedWithAllUnder_4 : decode cX6_speedWithAllUnder 4 = .ok (.iconst 0, 1) := by decide +kernel
theorem dX6_speedWithAllUnder_5 : decode cX6_speedWithAllUnder 5 = .ok (.istore 4, 2) := by decide +kernel
theorem dX6_speedWithAllUnder_7 : decode cX6_speedWithAllUnder 7 = .ok (.iload 4, 2) := by decide +kernel
theorem dX6_speedWithAllUnder_9 : decode cX6_speedWithAllUnder 9 = .ok (.bipush 8, 2) := by decide +kernel
theorem dX6_speedWithAllUnder_11 : decode cX6_speedWithAllUnder 11 = .ok (.if_icmp .ge 37, 3) := by decide +kernel
theorem dX6_speedWithAllUnder_14 : decode cX6_speedWithAllUnder 14 = .ok (.iload_n 3, 1) := by decide +kernel
theorem dX6_speedWithAllUnder_15 : decode cX6_speedWithAllUnder 15 = .ok (.ifCond .lt 33, 3) := by decide +kernel
theorem dX6_speedWithAllUnder_18 : decode cX6_speedWithAllUnder 18 = .ok (.iload_n 3, 1) := by decide +kernel
theorem dX6_speedWithAllUnder_19 : decode cX6_speedWithAllUnder 19 = .ok (.aload_n 0, 1) := by decide +kernel
theorem dX6_speedWithAllUnder_20 : decode cX6_speedWithAllUnder 20 = .ok (.getfield 39, 3) := by decide +kernel
theorem dX6_speedWithAllUnder_23 : decode cX6_speedWithAllUnder 23 = .ok (.if_icmp .ge 25, 3) := by decide +kernel
theorem dX6_speedWithAllUnder_26 : decode cX6_speedWithAllUnder 26 = .ok (.iload_n 2, 1) := by decide +kernel
theorem dX6_speedWithAllUnder_27 : decode cX6_speedWithAllUnder 27 = .ok (.aload_n 0, 1) := by decide +kernel
theorem dX6_speedWithAllUnder_28 : decode cX6_speedWithAllUnder 28 = .ok (.getfield 24, 3) := by decide +kernel
theorem dX6_speedWithAllUnder_31 : decode cX6_speedWithAllUnder 31 = .ok (.iload_n 3, 1) := by decide +kernel
theorem dX6_speedWithAllUnder_32 : decode cX6_speedWithAllUnder 32 = .ok (.iaload, 1) := by decide +kernel
theorem dX6_speedWithAllUnder_33 : decode cX6_speedWithAllUnder 33 = .ok (.iadd, 1) := by decide +kernel
theorem dX6_speedWithAllUnder_34 : decode cX6_speedWithAllUnder 34 = .ok (.istore_n 2, 1) := by decide +kernel
theorem dX6_speedWithAllUnder_35 : decode cX6_speedWithAllUnder 35 = .ok (.aload_n 0, 1) := by decide +kernel
theorem dX6_speedWithAllUnder_36 : decode cX6_speedWithAllUnder 36 = .ok (.getfield 33, 3) := by decide +kernel
theorem dX6_speedWithAllUnder_39 : decode cX6_speedWithAllUnder 39 = .ok (.iload_n 3, 1) := by decide +kernel
theorem dX6_speedWithAllUnder_40 : decode cX6_speedWithAllUnder 40 = .ok (.iaload, 1) := by decide +kernel
theorem dX6_speedWithAllUnder_41 : decode cX6_speedWithAllUnder 41 = .ok (.istore_n 3, 1) := by decide +kernel
theorem dX6_speedWithAllUnder_42 : decode cX6_speedWithAllUnder 42 = .ok (.iinc 4 1, 3) := by decide +kernel
theorem dX6_speedWithAllUnder_45 : decode cX6_speedWithAllUnder 45 = .ok (.goto (-38), 3) := by decide +kernel
theorem dX6_speedWithAllUnder_48 : decode cX6_speedWithAllUnder 48 = .ok (.iload_n 2, 1) := by decide +kernel
theorem dX6_speedWithAllUnder_49 : decode cX6_speedWithAllUnder 49 = .ok (.ireturn, 1) := by decide +kernel
set_option maxRecDepth 20000 in
theorem ggX6_isInLine_X7_within : GoodIn wsX6_isInLine wsX7_within := goodIn_r _ [5] (by decide +kernel) (by decide +kernel)
set_option maxRecDepth 20000 in
theorem gX6_isInLine_X7_within_n52 : GoodIn wsX6_isInLine (wsX7_within) := ggX6_isInLine_X7_within
theorem dX6_isInLine_0 : decode cX6_isInLine 0 = .ok (.iload_n 2, 1) := by decide +kernel
theorem dX6_isInLine_1 : decode cX6_isInLine 1 = .ok (.aload_n 0, 1) := by decide +kernel
theorem dX6_isInLine_2 : decode cX6_isInLine 2 = .ok (.getfield 9, 3) := by decide +kernel
theorem dX6_isInLine_5 : decode cX6_isInLine 5 = .ok (.iload_n 1, 1) := by decide +kernel
theorem dX6_isInLine_6 : decode cX6_isInLine 6 = .ok (.iaload, 1) := by decide +kernel
theorem dX6_isInLine_7 : decode cX6_isInLine 7 = .ok (.aload_n 0, 1) := by decide +kernel
theorem dX6_isInLine_8 : decode cX6_isInLine 8 = .ok (.getfield 9, 3) := by decide +kernel
theorem dX6_isInLine_11 : decode cX6_isInLine 11 = .ok (.iload_n 1, 1) := by decide +kernel
theorem dX6_isInLine_12 : decode cX6_isInLine 12 = .ok (.iaload, 1) := by decide +kernel
theorem dX6_isInLine_13 : decode cX6_isInLine 13 = .ok (.aload_n 0, 1) := by decide +kernel
theorem dX6_isInLine_14 : decode cX6_isInLine 14 = .ok (.getfield 15, 3) := by decide +kernel
theorem dX6_isInLine_17 : decode cX6_isInLine 17 = .ok (.iload_n 1, 1) := by decide +kernel
theorem dX6_isInLine_18 : decode cX6_isInLine 18 = .ok (.iaload, 1) := by decide +kernel
theorem dX6_isInLine_19 : decode cX6_isInLine 19 = .ok (.iadd, 1) := by decide +kernel
theorem dX6_isInLine_20 : decode cX6_isInLine 20 = .ok (.iconst 1, 1) := by decide +kernel
theorem dX6_isInLine_21 : decode cX6_isInLine 21 = .ok (.isub, 1) := by decide +kernel
theorem dX6_isInLine_22 : decode cX6_isInLine 22 = .ok (.invokestatic 52, 3) := by decide +kernel
theorem dX6_isInLine_25 : decode cX6_isInLine 25 = .ok (.ireturn, 1) := by decide +kernel
theorem dX6_copyFrom_0 : decode cX6_copyFrom 0 = .ok (.aload_n 0, 1) := by decide +kernel
theorem dX6_copyFrom_1 : decode cX6_copyFrom 1 = .ok (.aload_n 1, 1) := by decide +kernel
theorem dX6_copyFrom_2 : decode cX6_copyFrom 2 = .ok (.getfield 39, 3) := by decide +kernel
theorem dX6_copyFrom_5 : decode cX6_copyFrom 5 = .ok (.putfield 39, 3) := by decide +kernel
theorem dX6_copyFrom_8 : decode cX6_copyFrom 8 = .ok (.aload_n 1, 1) := by decide +kernel
theorem dX6_copyFrom_9 : decode cX6_copyFrom 9 = .ok (.getfield 9, 3) := by decide +kernel
theorem dX6_copyFrom_12 : decode cX6_copyFrom 12 = .ok (.iconst 0, 1) := by decide +kernel
theorem dX6_copyFrom_13 : decode cX6_copyFrom 13 = .ok (.aload_n 0, 1) := by decide +kernel
theorem dX6_copyFrom_14 : decode cX6_copyFrom 14 = .ok (.getfield 9, 3) := by decide +kernel
theorem dX6_copyFrom_17 : decode cX6_copyFrom 17 = .ok (.iconst 0, 1) := by decide +kernel
theorem dX6_copyFrom_18 : decode cX6_copyFrom 18 = .ok (.bipush 8, 2) := by decide +kernel
theorem dX6_copyFrom_20 : decode cX6_copyFrom 20 = .ok (.invokestatic 56, 3) := by decide +kernel
theorem dX6_copyFrom_23 : decode cX6_copyFrom 23 = .ok (.aload_n 1, 1) := by decide +kernel
theorem dX6_copyFrom_24 : decode cX6_copyFrom 24 = .ok (.getfield 15, 3) := by decide +kernel
theorem dX6_copyFrom_27 : decode cX6_copyFrom 27 = .ok (.iconst 0, 1) := by decide +kernel
theorem dX6_copyFrom_28 : decode cX6_copyFrom 28 = .ok (.aload_n 0, 1) := by decide +kernel
theorem dX6_copyFrom_29 : decode cX6_copyFrom 29 = .ok (.getfield 15, 3) := by decide +kernel
theorem dX6_copyFrom_32 : decode cX6_copyFrom 32 = .ok (.iconst 0, 1) := by decide +kernel
theorem dX6_copyFrom_33 : decode cX6_copyFrom 33 = .ok (.bipush 8, 2) := by decide +kernel
theorem dX6_copyFrom_35 : decode cX6_copyFrom 35 = .ok (.invokestatic 56, 3) := by decide +kernel
theorem dX6_copyFrom_38 : decode cX6_copyFrom 38 = .ok (.aload_n 1, 1) := by decide +kernel
theorem dX6_copyFrom_39 : decode cX6_copyFrom 39 = .ok (.getfield 18, 3) := by decide +kernel
theorem dX6_copyFrom_42 : decode cX6_copyFrom 42 = .ok (.iconst 0, 1) := by decide +kernel
theorem dX6_copyFrom_43 : decode cX6_copyFrom 43 = .ok (.aload_n 0, 1) := by decide +kernel
theorem dX6_copyFrom_44 : decode cX6_copyFrom 44 = .ok (.getfield 18, 3) := by decide +kernel
theorem dX6_copyFrom_47 : decode cX6_copyFrom 47 = .ok (.iconst 0, 1) := by decide +kernel
theorem dX6_copyFrom_48 : decode cX6_copyFrom 48 = .ok (.bipush 8, 2) := by decide +kernel
theorem dX6_copyFrom_50 : decode cX6_copyFrom 50 = .ok (.invokestatic 56, 3) := by decide +kernel
theorem dX6_copyFrom_53 : decode cX6_copyFrom 53 = .ok (.aload_n 1, 1) := by decide +kernel
theorem dX6_copyFrom_54 : decode cX6_copyFrom 54 = .ok (.getfield 21, 3) := by decide +kernel
theorem dX6_copyFrom_57 : decode cX6_copyFrom 57 = .ok (.iconst 0, 1) := by decide +kernel
theorem dX6_copyFrom_58 : decode cX6_copyFrom 58 = .ok (.aload_n 0, 1) := by decide +kernel
theorem dX6_copyFrom_59 : decode cX6_copyFrom 59 = .ok (.getfield 21, 3) := by decide +kernel
theorem dX6_copyFrom_62 : decode cX6_copyFrom 62 = .ok (.iconst 0, 1) := by decide +kernel
theorem dX6_copyFrom_63 : decode cX6_copyFrom 63 = .ok (.bipush 8, 2) := by decide +kernel
theorem dX6_copyFrom_65 : decode cX6_copyFrom 65 = .ok (.invokestatic 56, 3) := by decide +kernel
theorem dX6_copyFrom_68 : decode cX6_copyFrom 68 = .ok (.aload_n 1, 1) := by decide +kernel
theorem dX6_copyFrom_69 : decode cX6_copyFrom 69 = .ok (.getfield 24, 3) := by decide +kernel
theorem dX6_copyFrom_72 : decode cX6_copyFrom 72 = .ok (.iconst 0, 1) := by decide +kernel
theorem dX6_copyFrom_73 : decode cX6_copyFrom 73 = .ok (.aload_n 0, 1) := by decide +kernel
theorem dX6_copyFrom_74 : decode cX6_copyFrom 74 = .ok (.getfield 24, 3) := by decide +kernel
theorem dX6_copyFrom_77 : decode cX6_copyFrom 77 = .ok (.iconst 0, 1) := by decide +kernel
theorem dX6_copyFrom_78 : decode cX6_copyFrom 78 = .ok (.bipush 8, 2) := by decide +kernel
theorem dX6_copyFrom_80 : decode cX6_copyFrom 80 = .ok (.invokestatic 56, 3) := by decide +kernel
theorem dX6_copyFrom_83 : decode cX6_copyFrom 83 = .ok (.aload_n 1, 1) := by decide +kernel
theorem dX6_copyFrom_84 : decode cX6_copyFrom 84 = .ok (.getfield 27, 3) := by decide +kernel
theorem dX6_copyFrom_87 : decode cX6_copyFrom 87 = .ok (.iconst 0, 1) := by decide +kernel
theorem dX6_copyFrom_88 : decode cX6_copyFrom 88 = .ok (.aload_n 0, 1) := by decide +kernel
theorem dX6_copyFrom_89 : decode cX6_copyFrom 89 = .ok (.getfield 27, 3) := by decide +kernel
theorem dX6_copyFrom_92 : decode cX6_copyFrom 92 = .ok (.iconst 0, 1) := by decide +kernel
theorem dX6_copyFrom_93 : decode cX6_copyFrom 93 = .ok (.bipush 8, 2) := by decide +kernel
theorem dX6_copyFrom_95 : decode cX6_copyFrom 95 = .ok (.invokestatic 56, 3) := by decide +kernel
theorem dX6_copyFrom_98 : decode cX6_copyFrom 98 = .ok (.aload_n 1, 1) := by decide +kernel
theorem dX6_copyFrom_99 : decode cX6_copyFrom 99 = .ok (.getfield 30, 3) := by decide +kernel
theorem dX6_copyFrom_102 : decode cX6_copyFrom 102 = .ok (.iconst 0, 1) := by decide +kernel
theorem dX6_copyFrom_103 : decode cX6_copyFrom 103 = .ok (.aload_n 0, 1) := by decide +kernel
theorem dX6_copyFrom_104 : decode cX6_copyFrom 104 = .ok (.getfield 30, 3) := by decide +kernel
theorem dX6_copyFrom_107 : decode cX6_copyFrom 107 = .ok (.iconst 0, 1) := by decide +kernel
theorem dX6_copyFrom_108 : decode cX6_copyFrom 108 = .ok (.bipush 8, 2) := by decide +kernel
theorem dX6_copyFrom_110 : decode cX6_copyFrom 110 = .ok (.invokestatic 56, 3) := by decide +kernel
theorem dX6_copyFrom_113 : decode cX6_copyFrom 113 = .ok (.aload_n 1, 1) := by decide +kernel
theorem dX6_copyFrom_114 : decode cX6_copyFrom 114 = .ok (.getfield 33, 3) := by decide +kernel
theorem dX6_copyFrom_117 : decode cX6_copyFrom 117 = .ok (.iconst 0, 1) := by decide +kernel
theorem dX6_copyFrom_118 : decode cX6_copyFrom 118 = .ok (.aload_n 0, 1) := by decide +kernel
theorem dX6_copyFrom_119 : decode cX6_copyFrom 119 = .ok (.getfield 33, 3) := by decide +kernel
theorem dX6_copyFrom_122 : decode cX6_copyFrom 122 = .ok (.iconst 0, 1) := by decide +kernel
theorem dX6_copyFrom_123 : decode cX6_copyFrom 123 = .ok (.bipush 8, 2) := by decide +kernel
theorem dX6_copyFrom_125 : decode cX6_copyFrom 125 = .ok (.invokestatic 56, 3) := by decide +kernel
theorem dX6_copyFrom_128 : decode cX6_copyFrom 128 = .ok (.aload_n 1, 1) := by decide +kernel
theorem dX6_copyFrom_129 : decode cX6_copyFrom 129 = .ok (.getfield 36, 3) := by decide +kernel
theorem dX6_copyFrom_132 : decode cX6_copyFrom 132 = .ok (.iconst 0, 1) := by decide +kernel
theorem dX6_copyFrom_133 : decode cX6_copyFrom 133 = .ok (.aload_n 0, 1) := by decide +kernel
theorem dX6_copyFrom_134 : decode cX6_copyFrom 134 = .ok (.getfield 36, 3) := by decide +kernel
theorem dX6_copyFrom_137 : decode cX6_copyFrom 137 = .ok (.iconst 0, 1) := by decide +kernel
theorem dX6_copyFrom_138 : decode cX6_copyFrom 138 = .ok (.bipush 8, 2) := by decide +kernel
theorem dX6_copyFrom_140 : decode cX6_copyFrom 140 = .ok (.invokestatic 56, 3) := by decide +kernel
theorem dX6_copyFrom_143 : decode cX6_copyFrom 143 = .ok (.return_, 1) := by decide +kernel
set_option maxRecDepth 20000 in
theorem ggX7_init_X5_init : GoodIn wsX7_init wsX5_init := goodIn_r _ [26, 27, 2, 3, 28, 29, 30, 31, 32, 33, 34, 35, 36, 37, 38, 39, 40, 41, 42, 43, 44, 45, 46, 47, 48, 49, 50, 51, 52, 53, 54, 55, 56, 57, 58, 59, 60, 61, 62, 63, 91, 92, 93, 94, 95, 96, 97, 116, 117, 118, 119, 120, 121, 122, 123, 124, 125, 126] (by decide +kernel) (by decide +kernel)
set_option maxRecDepth 20000 in
theorem gX7_init_X5_init_n9 : GoodIn wsX7_init (wsX5_init) := ggX7_init_X5_init
set_option maxRecDepth 20000 in
theorem ggX7_init_X0_init : GoodIn wsX7_init wsX0_init := goodIn_r _ [65, 66, 2, 3, 50, 67, 68, 69, 104, 105, 106] (by decide +kernel) (by decide +kernel)
set_option maxRecDepth 20000 in
theorem gX7_init_X0_init_n18 : GoodIn wsX7_init (wsX0_init) := ggX7_init_X0_init
set_option maxRecDepth 20000 in
theorem ggX7_init_X1_init : GoodIn wsX7_init wsX1_init := goodIn_r _ [71, 72, 2, 3, 73, 74, 75, 76, 107, 108, 109] (by decide +kernel) (by decide +kernel)
set_option maxRecDepth 20000 in
theorem gX7_init_X1_init_n25 : GoodIn wsX7_init (wsX1_init) := ggX7_init_X1_init
set_option maxRecDepth 20000 in
theorem ggX7_init_X2_init : GoodIn wsX7_init wsX2_init := goodIn_r _ [78, 79, 2, 3, 80, 81, 82, 110, 111] (by decide +kernel) (by decide +kernel)
set_option maxRecDepth 20000 in
theorem gX7_init_X2_init_n36 : GoodIn wsX7_init (wsX2_init) := ggX7_init_X2_init
set_option maxRecDepth 20000 in
theorem ggX7_init_X4_init : GoodIn wsX7_init wsX4_init := goodIn_r _ [85, 86, 2, 3, 87, 88, 50, 89, 90, 112, 113, 114, 115] (by decide +kernel) (by decide +kernel)
set_option maxRecDepth 20000 in
theorem gX7_init_X4_init : GoodIn wsX7_init (wsX4_init) := ggX7_init_X4_init
theorem dX7_init_0 : decode cX7_init 0 = .ok (.aload_n 0, 1) := by decide +kernel
theorem dX7_init_1 : decode cX7_init 1 = .ok (.invokespecial 1, 3) := by decide +kernel
theorem dX7_init_4 : decode cX7_init 4 = .ok (.aload_n 0, 1) := by decide +kernel
theorem dX7_init_5 : decode cX7_init 5 = .ok (.new 7, 3) := by decide +kernel
theorem dX7_init_8 : decode cX7_init 8 = .ok (.dup, 1) := by decide +kernel
theorem dX7_init_9 : decode cX7_init 9 = .ok (.invokespecial 9, 3) := by decide +kernel
theorem dX7_init_12 : decode cX7_init 12 = .ok (.putfield 10, 3) := by decide +kernel
theorem dX7_init_15 : decode cX7_init 15 = .ok (.aload_n 0, 1) := by decide +kernel
theorem dX7_init_16 : decode cX7_init 16 = .ok (.new 16, 3) := by decide +kernel
theorem dX7_init_19 : decode cX7_init 19 = .ok (.dup, 1) := by decide +kernel
theorem dX7_init_20 : decode cX7_init 20 = .ok (.invokespecial 18, 3) := by decide +kernel
theorem dX7_init_23 : decode cX7_init 23 = .ok (.putfield 19, 3) := by decide +kernel
theorem dX7_init_26 : decode cX7_init 26 = .ok (.aload_n 0, 1) := by decide +kernel
theorem dX7_init_27 : decode cX7_init 27 = .ok (.new 23, 3) := by decide +kernel
theorem dX7_init_30 : decode cX7_init 30 = .ok (.dup, 1) := by decide +kernel
theorem dX7_init_31 : decode cX7_init 31 = .ok (.invokespecial 25, 3) := by decide +kernel
theorem dX7_init_34 : decode cX7_init 34 = .ok (.putfield 26, 3) := by decide +kernel
theorem dX7_init_37 : decode cX7_init 37 = .ok (.aload_n 0, 1) := by decide +kernel
theorem dX7_init_38 : decode cX7_init 38 = .ok (.iconst 2, 1) := by decide +kernel
theorem dX7_init_39 : decode cX7_init 39 = .ok (.anewarray 7, 3) := by decide +kernel
theorem dX7_init_42 : decode cX7_init 42 = .ok (.putfield 30, 3) := by decide +kernel
theorem dX7_init_45 : decode cX7_init 45 = .ok (.aload_n 0, 1) := by decide +kernel
theorem dX7_init_46 : decode cX7_init 46 = .ok (.new 34, 3) := by decide +kernel
theorem dX7_init_49 : decode cX7_init 49 = .ok (.dup, 1) := by decide +kernel
theorem dX7_init_50 : decode cX7_init 50 = .ok (.invokespecial 36, 3) := by decide +kernel
theorem dX7_init_53 : decode cX7_init 53 = .ok (.putfield 37, 3) := by decide +kernel
theorem dX7_init_56 : decode cX7_init 56 = .ok (.aload_n 0, 1) := by decide +kernel
theorem dX7_init_57 : decode cX7_init 57 = .ok (.new 41, 3) := by decide +kernel
theorem dX7_init_60 : decode cX7_init 60 = .ok (.dup, 1) := by decide +kernel
theorem dX7_init_61 : decode cX7_init 61 = .ok (.aload_n 0, 1) := by decide +kernel
theorem dX7_init_62 : decode cX7_init 62 = .ok (.getfield 37, 3) := by decide +kernel
theorem dX7_init_65 : decode cX7_init 65 = .ok (.invokespecial 43, 3) := by decide +kernel
theorem dX7_init_68 : decode cX7_init 68 = .ok (.putfield 46, 3) := by decide +kernel
theorem dX7_init_71 : decode cX7_init 71 = .ok (.return_, 1) := by decide +kernel
set_option maxRecDepth 20000 in
theorem ggX7_set_X7_within : GoodIn wsX7_set wsX7_within := goodIn_r _ [9] (by decide +kernel) (by decide +kernel)
set_option maxRecDepth 20000 in
theorem gX7_set_X7_within : GoodIn wsX7_set (va_wsS RX7 50 yX7_within wsX7_within) := goodIn_app (goodIn_of _ (by decide +kernel)) ggX7_set_X7_within
set_option maxRecDepth 20000 in
theorem ggX7_set_X1_record : GoodIn wsX7_set wsX1_record := goodIn_r _ [14, 15, 16, 17, 18, 19, 20, 21, 22, 23, 24, 25, 26, 27, 28, 29, 30, 31, 32, 33, 34, 35, 36, 37, 38, 39, 40, 41, 42, 43, 44, 45, 46, 47, 48, 49, 50, 51, 52, 53, 54, 55, 56, 57, 58, 59, 60, 61, 62, 63, 64, 65, 66, 67, 68, 69, 70, 71, 72, 73, 74, 75, 76, 77, 78, 79, 80, 81, 82, 83, 84, 98, 99, 100, 91, 92, 93, 94, 95, 96, 97, 101, 102, 103, 104, 105, 106, 107, 108, 109, 110, 111] (by decide +kernel) (by decide +kernel)
set_option maxRecDepth 20000 in
theorem gX7_set_X1_record : GoodIn wsX7_set (wsV RX7 61 RX1 yX1_record wsX1_record) := goodIn_app (goodIn_of _ (by decide +kernel)) ggX7_set_X1_record
theorem dX7_set_0 : decode cX7_set 0 = .ok (.iload_n 1, 1) := by decide +kernel
theorem dX7_set_1 : decode cX7_set 1 = .ok (.iconst 0, 1) := by decide +kernel
theorem dX7_set_2 : decode cX7_set 2 = .ok (.iconst 3, 1) := by decide +kernel
theorem dX7_set_3 : decode cX7_set 3 = .ok (.invokestatic 50, 3) := by decide +kernel
theorem dX7_set_6 : decode cX7_set 6 = .ok (.ifCond .eq 20, 3) := by decide +kernel
theorem dX7_set_9 : decode cX7_set 9 = .ok (.iload_n 2, 1) := by decide +kernel
theorem dX7_set_10 : decode cX7_set 10 = .ok (.getstatic 54, 3) := by decide +kernel
theorem dX7_set_13 : decode cX7_set 13 = .ok (.iload_n 1, 1) := by decide +kernel
theorem dX7_set_14 : decode cX7_set 14 = .ok (.iaload, 1) := by decide +kernel
theorem dX7_set_15 : decode cX7_set 15 = .ok (.getstatic 58, 3) := by decide +kernel
theorem dX7_set_18 : decode cX7_set 18 = .ok (.iload_n 1, 1) := by decide +kernel
theorem dX7_set_19 : decode cX7_set 19 = .ok (.iaload, 1) := by decide +kernel
theorem dX7_set_20 : decode cX7_set 20 = .ok (.invokestatic 50, 3) := by decide +kernel
theorem dX7_set_23 : decode cX7_set 23 = .ok (.ifCond .ne 6, 3) := by decide +kernel
theorem dX7_set_26 : decode cX7_set 26 = .ok (.bipush (-2), 2) := by decide +kernel
theorem dX7_set_28 : decode cX7_set 28 = .ok (.ireturn, 1) := by decide +kernel
theorem dX7_set_29 : decode cX7_set 29 = .ok (.aload_n 0, 1) := by decide +kernel
theorem dX7_set_30 : decode cX7_set 30 = .ok (.getfield 26, 3) := by decide +kernel
theorem dX7_set_33 : decode cX7_set 33 = .ok (.aload_n 0, 1) := by decide +kernel
theorem dX7_set_34 : decode cX7_set 34 = .ok (.getfield 10, 3) := by decide +kernel
theorem dX7_set_37 : decode cX7_set 37 = .ok (.invokevirtual 61, 3) := by decide +kernel
theorem dX7_set_40 : decode cX7_set 40 = .ok (.aload_n 0, 1) := by decide +kernel
theorem dX7_set_41 : decode cX7_set 41 = .ok (.getfield 10, 3) := by decide +kernel
theorem dX7_set_44 : decode cX7_set 44 = .ok (.getfield 65, 3) := by decide +kernel
theorem dX7_set_47 : decode cX7_set 47 = .ok (.iload_n 1, 1) := by decide +kernel
theorem dX7_set_48 : decode cX7_set 48 = .ok (.iaload, 1) := by decide +kernel
theorem dX7_set_49 : decode cX7_set 49 = .ok (.istore_n 3, 1) := by decide +kernel
theorem dX7_set_50 : decode cX7_set 50 = .ok (.aload_n 0, 1) := by decide +kernel
theorem dX7_set_51 : decode cX7_set 51 = .ok (.getfield 10, 3) := by decide +kernel
theorem dX7_set_54 : decode cX7_set 54 = .ok (.getfield 65, 3) := by decide +kernel
theorem dX7_set_57 : decode cX7_set 57 = .ok (.iload_n 1, 1) := by decide +kernel
theorem dX7_set_58 : decode cX7_set 58 = .ok (.iload_n 2, 1) := by decide +kernel
theorem dX7_set_59 : decode cX7_set 59 = .ok (.iastore, 1) := by decide +kernel
theorem dX7_set_60 : decode cX7_set 60 = .ok (.iload_n 3, 1) := by decide +kernel
theorem dX7_set_61 : decode cX7_set 61 = .ok (.ireturn, 1) := by decide +kernel
set_option maxRecDepth 20000 in
theorem ggX7_thing_X7_errorOfThing : GoodIn wsX7_thing wsX7_errorOfThing := goodIn_r _ [9, 2, 3, 10, 11, 12, 8, 13, 14, 15, 16, 96, 97, 98, 99, 100, 101, 102, 103, 104, 105, 106, 107, 108, 109, 110, 111, 112, 113, 114, 115, 116, 117, 118] (by decide +kernel) (by decide +kernel)
set_option maxRecDepth 20000 in
theorem gX7_thing_X7_errorOfThing : GoodIn wsX7_thing (wsV RX7 68 RX7 yX7_errorOfThing wsX7_errorOfThing) := goodIn_app (goodIn_of _ (by decide +kernel)) ggX7_thing_X7_errorOfThing
set_option maxRecDepth 20000 in
theorem ggX7_thing_X1_record : GoodIn wsX7_thing wsX1_record := goodIn_r _ [21, 22, 23, 24, 25, 26, 27, 28, 29, 30, 31, 32, 33, 34, 35, 36, 37, 38, 39, 40, 41, 42, 43, 44, 45, 46, 47, 48, 49, 50, 51, 52, 53, 54, 55, 56, 57, 58, 59, 60, 61, 62, 63, 64, 65, 66, 67, 68, 69, 70, 71, 72, 73, 74, 75, 76, 77, 78, 79, 80, 81, 82, 83, 84, 85, 86, 87, 88, 89, 90, 91, 119, 120, 121, 102, 103, 104, 105, 106, 107, 108, 109, 110, 111, 112, 113, 114, 115, 116, 117, 118, 122] (by decide +kernel) (by decide +kernel)
set_option maxRecDepth 20000 in
theorem gX7_thing_X1_record : GoodIn wsX7_thing (wsV RX7 61 RX1 yX1_record wsX1_record) := goodIn_app (goodIn_of _ (by decide +kernel)) ggX7_thing_X1_record
set_option maxRecDepth 20000 in
theorem ggX7_thing_X6_add : GoodIn wsX7_thing wsX6_add := goodIn_r _ [95, 85, 60, 61, 62, 63, 64, 65, 66, 67, 68, 109, 110, 111, 112, 113, 114, 115, 116, 117, 118] (by decide +kernel) (by decide +kernel)
set_option maxRecDepth 20000 in
theorem gX7_thing_X6_add : GoodIn wsX7_thing (wsV RX7 80 RX6 yX6_add wsX6_add) := goodIn_app (goodIn_of _ (by decide +kernel)) ggX7_thing_X6_add
theorem dX7_thing_0 : decode cX7_thing 0 = .ok (.aload_n 0, 1) := by decide +kernel
theorem dX7_thing_1 : decode cX7_thing 1 = .ok (.iload_n 1, 1) := by decide +kernel
theorem dX7_thing_2 : decode cX7_thing 2 = .ok (.iload_n 2, 1) := by decide +kernel
theorem dX7_thing_3 : decode cX7_thing 3 = .ok (.iload_n 3, 1) := by decide +kernel
theorem dX7_thing_4 : decode cX7_thing 4 = .ok (.iload 4, 2) := by decide +kernel
theorem dX7_thing_6 : decode cX7_thing 6 = .ok (.iload 5, 2) := by decide +kernel
theorem dX7_thing_8 : decode cX7_thing 8 = .ok (.invokevirtual 68, 3) := by decide +kernel
theorem dX7_thing_11 : decode cX7_thing 11 = .ok (.istore 6, 2) := by decide +kernel
theorem dX7_thing_13 : decode cX7_thing 13 = .ok (.iload 6, 2) := by decide +kernel
theorem dX7_thing_15 : decode cX7_thing 15 = .ok (.ifCond .eq 6, 3) := by decide +kernel
theorem dX7_thing_18 : decode cX7_thing 18 = .ok (.iload 6, 2) := by decide +kernel
theorem dX7_thing_20 : decode cX7_thing 20 = .ok (.ireturn, 1) := by decide +kernel
theorem dX7_thing_21 : decode cX7_thing 21 = .ok (.aload_n 0, 1) := by decide +kernel
theorem dX7_thing_22 : decode cX7_thing 22 = .ok (.getfield 26, 3) := by decide +kernel
theorem dX7_thing_25 : decode cX7_thing 25 = .ok (.aload_n 0, 1) := by decide +kernel
theorem dX7_thing_26 : decode cX7_thing 26 = .ok (.getfield 10, 3) := by decide +kernel
theorem dX7_thing_29 : decode cX7_thing 29 = .ok (.invokevirtual 61, 3) := by decide +kernel
theorem dX7_thing_32 : decode cX7_thing 32 = .ok (.aload_n 0, 1) := by decide +kernel
end
section
theorem dX7_thing_33 : decode cX7_thing 33 = .ok (.getfield 10, 3) := by decide +kernel
theorem dX7_thing_36 : decode cX7_thing 36 = .ok (.getfield 72, 3) := by decide +kernel
theorem dX7_thing_39 : decode cX7_thing 39 = .ok (.iload_n 1, 1) := by decide +kernel
theorem dX7_thing_40 : decode cX7_thing 40 = .ok (.iload_n 2, 1) := by decide +kernel
theorem dX7_thing_41 : decode cX7_thing 41 = .ok (.iload_n 3, 1) := by decide +kernel
theorem dX7_thing_42 : decode cX7_thing 42 = .ok (.iload 4, 2) := by decide +kernel
theorem dX7_thing_44 : decode cX7_thing 44 = .ok (.iload 5, 2) := by decide +kernel
theorem dX7_thing_46 : decode cX7_thing 46 = .ok (.aload_n 0, 1) := by decide +kernel
theorem dX7_thing_47 : decode cX7_thing 47 = .ok (.getfield 10, 3) := by decide +kernel
theorem dX7_thing_50 : decode cX7_thing 50 = .ok (.getfield 76, 3) := by decide +kernel
theorem dX7_thing_53 : decode cX7_thing 53 = .ok (.invokevirtual 80, 3) := by decide +kernel
theorem dX7_thing_56 : decode cX7_thing 56 = .ok (.ireturn, 1) := by decide +kernel
set_option maxRecDepth 20000 in
theorem ggX7_speed_X7_isThing : GoodIn wsX7_speed wsX7_isThing := goodIn_r _ [11, 2, 3, 12, 13, 14, 10, 15, 106, 107, 108, 109, 110, 111, 112, 113, 114, 115, 116, 117, 118, 119, 120, 121, 122, 123, 124, 125, 126, 127, 128] (by decide +kernel) (by decide +kernel)
set_option maxRecDepth 20000 in
theorem gX7_speed_X7_isThing : GoodIn wsX7_speed (wsV RX7 86 RX7 yX7_isThing wsX7_isThing) := goodIn_app (goodIn_of _ (by decide +kernel)) ggX7_speed_X7_isThing
set_option maxRecDepth 20000 in
theorem ggX7_speed_X7_isSpeed : GoodIn wsX7_speed wsX7_isSpeed := goodIn_r _ [18, 13, 14, 10, 15] (by decide +kernel) (by decide +kernel)
set_option maxRecDepth 20000 in
theorem gX7_speed_X7_isSpeed : GoodIn wsX7_speed (va_wsS RX7 90 yX7_isSpeed wsX7_isSpeed) := goodIn_app (goodIn_of _ (by decide +kernel)) ggX7_speed_X7_isSpeed
set_option maxRecDepth 20000 in
theorem ggX7_speed_X1_record : GoodIn wsX7_speed wsX1_record := goodIn_r _ [23, 24, 25, 26, 27, 28, 29, 30, 31, 32, 33, 34, 35, 36, 37, 38, 39, 40, 41, 42, 43, 44, 45, 46, 47, 48, 49, 50, 51, 52, 53, 54, 55, 56, 57, 58, 59, 60, 61, 62, 63, 64, 65, 66, 67, 68, 69, 70, 71, 72, 73, 74, 75, 76, 77, 78, 79, 80, 81, 82, 83, 84, 85, 86, 87, 88, 89, 90, 91, 92, 93, 129, 130, 131, 112, 113, 114, 115, 116, 117, 118, 119, 120, 121, 122, 123, 124, 125, 126, 127, 128, 132] (by decide +kernel) (by decide +kernel)
set_option maxRecDepth 20000 in
theorem gX7_speed_X1_record : GoodIn wsX7_speed (wsV RX7 61 RX1 yX1_record wsX1_record) := goodIn_app (goodIn_of _ (by decide +kernel)) ggX7_speed_X1_record
set_option maxRecDepth 20000 in
theorem ggX7_speed_X6_comeAnew : GoodIn wsX7_speed wsX6_comeAnew := goodIn_r _ [97, 68, 67, 66, 69, 70, 98, 99, 100, 48, 101, 87, 102, 103, 104, 105, 119, 120, 121, 122, 123, 124, 125, 126, 127, 128] (by decide +kernel) (by decide +kernel)
set_option maxRecDepth 20000 in
theorem gX7_speed_X6_comeAnew : GoodIn wsX7_speed (wsV RX7 99 RX6 yX6_comeAnew wsX6_comeAnew) := goodIn_app (goodIn_of _ (by decide +kernel)) ggX7_speed_X6_comeAnew
theorem dX7_speed_0 : decode cX7_speed 0 = .ok (.aload_n 0, 1) := by decide +kernel
theorem dX7_speed_1 : decode cX7_speed 1 = .ok (.iload_n 1, 1) := by decide +kernel
theorem dX7_speed_2 : decode cX7_speed 2 = .ok (.invokevirtual 86, 3) := by decide +kernel
theorem dX7_speed_5 : decode cX7_speed 5 = .ok (.ifCond .ne 5, 3) := by decide +kernel
theorem dX7_speed_8 : decode cX7_speed 8 = .ok (.iconst (-1), 1) := by decide +kernel
theorem dX7_speed_9 : decode cX7_speed 9 = .ok (.ireturn, 1) := by decide +kernel
theorem dX7_speed_10 : decode cX7_speed 10 = .ok (.iload_n 2, 1) := by decide +kernel
theorem dX7_speed_11 : decode cX7_speed 11 = .ok (.invokestatic 90, 3) := by decide +kernel
theorem dX7_speed_14 : decode cX7_speed 14 = .ok (.ifCond .ne 6, 3) := by decide +kernel
theorem dX7_speed_17 : decode cX7_speed 17 = .ok (.bipush (-2), 2) := by decide +kernel
theorem dX7_speed_19 : decode cX7_speed 19 = .ok (.ireturn, 1) := by decide +kernel
theorem dX7_speed_20 : decode cX7_speed 20 = .ok (.aload_n 0, 1) := by decide +kernel
theorem dX7_speed_21 : decode cX7_speed 21 = .ok (.getfield 26, 3) := by decide +kernel
theorem dX7_speed_24 : decode cX7_speed 24 = .ok (.aload_n 0, 1) := by decide +kernel
theorem dX7_speed_25 : decode cX7_speed 25 = .ok (.getfield 10, 3) := by decide +kernel
theorem dX7_speed_28 : decode cX7_speed 28 = .ok (.invokevirtual 61, 3) := by decide +kernel
theorem dX7_speed_31 : decode cX7_speed 31 = .ok (.aload_n 0, 1) := by decide +kernel
theorem dX7_speed_32 : decode cX7_speed 32 = .ok (.getfield 10, 3) := by decide +kernel
theorem dX7_speed_35 : decode cX7_speed 35 = .ok (.getfield 72, 3) := by decide +kernel
theorem dX7_speed_38 : decode cX7_speed 38 = .ok (.getfield 93, 3) := by decide +kernel
theorem dX7_speed_41 : decode cX7_speed 41 = .ok (.iload_n 1, 1) := by decide +kernel
theorem dX7_speed_42 : decode cX7_speed 42 = .ok (.iaload, 1) := by decide +kernel
theorem dX7_speed_43 : decode cX7_speed 43 = .ok (.istore_n 3, 1) := by decide +kernel
theorem dX7_speed_44 : decode cX7_speed 44 = .ok (.aload_n 0, 1) := by decide +kernel
theorem dX7_speed_45 : decode cX7_speed 45 = .ok (.getfield 10, 3) := by decide +kernel
theorem dX7_speed_48 : decode cX7_speed 48 = .ok (.getfield 72, 3) := by decide +kernel
theorem dX7_speed_51 : decode cX7_speed 51 = .ok (.iload_n 1, 1) := by decide +kernel
theorem dX7_speed_52 : decode cX7_speed 52 = .ok (.iload_n 2, 1) := by decide +kernel
theorem dX7_speed_53 : decode cX7_speed 53 = .ok (.aload_n 0, 1) := by decide +kernel
theorem dX7_speed_54 : decode cX7_speed 54 = .ok (.getfield 10, 3) := by decide +kernel
theorem dX7_speed_57 : decode cX7_speed 57 = .ok (.getfield 72, 3) := by decide +kernel
theorem dX7_speed_60 : decode cX7_speed 60 = .ok (.getfield 96, 3) := by decide +kernel
theorem dX7_speed_63 : decode cX7_speed 63 = .ok (.iload_n 1, 1) := by decide +kernel
theorem dX7_speed_64 : decode cX7_speed 64 = .ok (.iaload, 1) := by decide +kernel
theorem dX7_speed_65 : decode cX7_speed 65 = .ok (.aload_n 0, 1) := by decide +kernel
theorem dX7_speed_66 : decode cX7_speed 66 = .ok (.getfield 10, 3) := by decide +kernel
theorem dX7_speed_69 : decode cX7_speed 69 = .ok (.getfield 76, 3) := by decide +kernel
theorem dX7_speed_72 : decode cX7_speed 72 = .ok (.invokevirtual 99, 3) := by decide +kernel
theorem dX7_speed_75 : decode cX7_speed 75 = .ok (.iload_n 3, 1) := by decide +kernel
theorem dX7_speed_76 : decode cX7_speed 76 = .ok (.bipush 100, 2) := by decide +kernel
theorem dX7_speed_78 : decode cX7_speed 78 = .ok (.iadd, 1) := by decide +kernel
theorem dX7_speed_79 : decode cX7_speed 79 = .ok (.ireturn, 1) := by decide +kernel
set_option maxRecDepth 20000 in
theorem ggX7_ride_X7_isThing : GoodIn wsX7_ride wsX7_isThing := goodIn_r _ [11, 2, 3, 12, 13, 14, 10, 15, 106, 107, 108, 109, 110, 111, 112, 113, 114, 115, 116, 117, 118, 119, 120, 121, 122, 123, 124, 125, 126, 127, 128] (by decide +kernel) (by decide +kernel)
set_option maxRecDepth 20000 in
theorem gX7_ride_X7_isThing : GoodIn wsX7_ride (wsV RX7 86 RX7 yX7_isThing wsX7_isThing) := goodIn_app (goodIn_of _ (by decide +kernel)) ggX7_ride_X7_isThing
set_option maxRecDepth 20000 in
theorem ggX7_ride_X7_canRide : GoodIn wsX7_ride wsX7_canRide := goodIn_r _ [18, 13, 14, 10, 15] (by decide +kernel) (by decide +kernel)
set_option maxRecDepth 20000 in
theorem gX7_ride_X7_canRide : GoodIn wsX7_ride (va_wsS RX7 103 yX7_canRide wsX7_canRide) := goodIn_app (goodIn_of _ (by decide +kernel)) ggX7_ride_X7_canRide
set_option maxRecDepth 20000 in
theorem ggX7_ride_X1_record : GoodIn wsX7_ride wsX1_record := goodIn_r _ [23, 24, 25, 26, 27, 28, 29, 30, 31, 32, 33, 34, 35, 36, 37, 38, 39, 40, 41, 42, 43, 44, 45, 46, 47, 48, 49, 50, 51, 52, 53, 54, 55, 56, 57, 58, 59, 60, 61, 62, 63, 64, 65, 66, 67, 68, 69, 70, 71, 72, 73, 74, 75, 76, 77, 78, 79, 80, 81, 82, 83, 84, 85, 86, 87, 88, 89, 90, 91, 92, 93, 129, 130, 131, 112, 113, 114, 115, 116, 117, 118, 119, 120, 121, 122, 123, 124, 125, 126, 127, 128, 132] (by decide +kernel) (by decide +kernel)
set_option maxRecDepth 20000 in
theorem gX7_ride_X1_record : GoodIn wsX7_ride (wsV RX7 61 RX1 yX1_record wsX1_record) := goodIn_app (goodIn_of _ (by decide +kernel)) ggX7_ride_X1_record
set_option maxRecDepth 20000 in
theorem ggX7_ride_X6_comeAnew : GoodIn wsX7_ride wsX6_comeAnew := goodIn_r _ [97, 68, 67, 66, 69, 70, 98, 99, 100, 48, 101, 87, 102, 103, 104, 105, 119, 120, 121, 122, 123, 124, 125, 126, 127, 128] (by decide +kernel) (by decide +kernel)
set_option maxRecDepth 20000 in
theorem gX7_ride_X6_comeAnew : GoodIn wsX7_ride (wsV RX7 99 RX6 yX6_comeAnew wsX6_comeAnew) := goodIn_app (goodIn_of _ (by decide +kernel)) ggX7_ride_X6_comeAnew
theorem dX7_ride_0 : decode cX7_ride 0 = .ok (.aload_n 0, 1) := by decide +kernel
theorem dX7_ride_1 : decode cX7_ride 1 = .ok (.iload_n 1, 1) := by decide +kernel
theorem dX7_ride_2 : decode cX7_ride 2 = .ok (.invokevirtual 86, 3) := by decide +kernel
theorem dX7_ride_5 : decode cX7_ride 5 = .ok (.ifCond .ne 5, 3) := by decide +kernel
theorem dX7_ride_8 : decode cX7_ride 8 = .ok (.iconst (-1), 1) := by decide +kernel
theorem dX7_ride_9 : decode cX7_ride 9 = .ok (.ireturn, 1) := by decide +kernel
theorem dX7_ride_10 : decode cX7_ride 10 = .ok (.iload_n 1, 1) := by decide +kernel
theorem dX7_ride_11 : decode cX7_ride 11 = .ok (.iload_n 2, 1) := by decide +kernel
theorem dX7_ride_12 : decode cX7_ride 12 = .ok (.invokestatic 103, 3) := by decide +kernel
theorem dX7_ride_15 : decode cX7_ride 15 = .ok (.ifCond .ne 6, 3) := by decide +kernel
theorem dX7_ride_18 : decode cX7_ride 18 = .ok (.bipush (-2), 2) := by decide +kernel
theorem dX7_ride_20 : decode cX7_ride 20 = .ok (.ireturn, 1) := by decide +kernel
theorem dX7_ride_21 : decode cX7_ride 21 = .ok (.aload_n 0, 1) := by decide +kernel
theorem dX7_ride_22 : decode cX7_ride 22 = .ok (.getfield 26, 3) := by decide +kernel
theorem dX7_ride_25 : decode cX7_ride 25 = .ok (.aload_n 0, 1) := by decide +kernel
theorem dX7_ride_26 : decode cX7_ride 26 = .ok (.getfield 10, 3) := by decide +kernel
theorem dX7_ride_29 : decode cX7_ride 29 = .ok (.invokevirtual 61, 3) := by decide +kernel
theorem dX7_ride_32 : decode cX7_ride 32 = .ok (.aload_n 0, 1) := by decide +kernel
theorem dX7_ride_33 : decode cX7_ride 33 = .ok (.getfield 10, 3) := by decide +kernel
theorem dX7_ride_36 : decode cX7_ride 36 = .ok (.getfield 72, 3) := by decide +kernel
theorem dX7_ride_39 : decode cX7_ride 39 = .ok (.getfield 96, 3) := by decide +kernel
theorem dX7_ride_42 : decode cX7_ride 42 = .ok (.iload_n 1, 1) := by decide +kernel
theorem dX7_ride_43 : decode cX7_ride 43 = .ok (.iaload, 1) := by decide +kernel
theorem dX7_ride_44 : decode cX7_ride 44 = .ok (.istore_n 3, 1) := by decide +kernel
theorem dX7_ride_45 : decode cX7_ride 45 = .ok (.aload_n 0, 1) := by decide +kernel
theorem dX7_ride_46 : decode cX7_ride 46 = .ok (.getfield 10, 3) := by decide +kernel
theorem dX7_ride_49 : decode cX7_ride 49 = .ok (.getfield 72, 3) := by decide +kernel
theorem dX7_ride_52 : decode cX7_ride 52 = .ok (.iload_n 1, 1) := by decide +kernel
theorem dX7_ride_53 : decode cX7_ride 53 = .ok (.aload_n 0, 1) := by decide +kernel
theorem dX7_ride_54 : decode cX7_ride 54 = .ok (.getfield 10, 3) := by decide +kernel
theorem dX7_ride_57 : decode cX7_ride 57 = .ok (.getfield 72, 3) := by decide +kernel
theorem dX7_ride_60 : decode cX7_ride 60 = .ok (.getfield 93, 3) := by decide +kernel
theorem dX7_ride_63 : decode cX7_ride 63 = .ok (.iload_n 1, 1) := by decide +kernel
theorem dX7_ride_64 : decode cX7_ride 64 = .ok (.iaload, 1) := by decide +kernel
theorem dX7_ride_65 : decode cX7_ride 65 = .ok (.iload_n 2, 1) := by decide +kernel
theorem dX7_ride_66 : decode cX7_ride 66 = .ok (.aload_n 0, 1) := by decide +kernel
theorem dX7_ride_67 : decode cX7_ride 67 = .ok (.getfield 10, 3) := by decide +kernel
theorem dX7_ride_70 : decode cX7_ride 70 = .ok (.getfield 76, 3) := by decide +kernel
theorem dX7_ride_73 : decode cX7_ride 73 = .ok (.invokevirtual 99, 3) := by decide +kernel
theorem dX7_ride_76 : decode cX7_ride 76 = .ok (.iload_n 3, 1) := by decide +kernel
theorem dX7_ride_77 : decode cX7_ride 77 = .ok (.ireturn, 1) := by decide +kernel
set_option maxRecDepth 20000 in
theorem ggX7_flash_X7_errorOfFlash : GoodIn wsX7_flash wsX7_errorOfFlash := goodIn_r _ [8, 9, 10, 7, 11] (by decide +kernel) (by decide +kernel)
set_option maxRecDepth 20000 in
theorem gX7_flash_X7_errorOfFlash : GoodIn wsX7_flash (wsV RX7 107 RX7 yX7_errorOfFlash wsX7_errorOfFlash) := goodIn_app (goodIn_of _ (by decide +kernel)) ggX7_flash_X7_errorOfFlash
set_option maxRecDepth 20000 in
theorem ggX7_flash_X1_record : GoodIn wsX7_flash wsX1_record := goodIn_r _ [16, 17, 18, 19, 20, 21, 22, 23, 24, 25, 26, 27, 28, 29, 30, 31, 32, 33, 34, 35, 36, 37, 38, 39, 40, 41, 42, 43, 44, 45, 46, 47, 48, 49, 50, 51, 52, 53, 54, 55, 56, 57, 58, 59, 60, 61, 62, 63, 64, 65, 66, 67, 68, 69, 70, 71, 72, 73, 74, 75, 76, 77, 78, 79, 80, 81, 82, 83, 84, 85, 86, 104, 105, 106, 97, 98, 99, 100, 101, 102, 103, 107, 108, 109, 110, 111, 112, 113, 114, 115, 116, 117] (by decide +kernel) (by decide +kernel)
set_option maxRecDepth 20000 in
theorem gX7_flash_X1_record : GoodIn wsX7_flash (wsV RX7 61 RX1 yX1_record wsX1_record) := goodIn_app (goodIn_of _ (by decide +kernel)) ggX7_flash_X1_record
set_option maxRecDepth 20000 in
theorem ggX7_flash_X5_setFlash : GoodIn wsX7_flash wsX5_setFlash := goodIn_r _ [90, 47, 49, 50, 97, 98, 99, 100, 101, 102, 103] (by decide +kernel) (by decide +kernel)
set_option maxRecDepth 20000 in
theorem gX7_flash_X5_setFlash : GoodIn wsX7_flash (wsV RX7 111 RX5 yX5_setFlash wsX5_setFlash) := goodIn_app (goodIn_of _ (by decide +kernel)) ggX7_flash_X5_setFlash
theorem dX7_flash_0 : decode cX7_flash 0 = .ok (.aload_n 0, 1) := by decide +kernel
theorem dX7_flash_1 : decode cX7_flash 1 = .ok (.iload_n 1, 1) := by decide +kernel
theorem dX7_flash_2 : decode cX7_flash 2 = .ok (.iload_n 2, 1) := by decide +kernel
theorem dX7_flash_3 : decode cX7_flash 3 = .ok (.invokevirtual 107, 3) := by decide +kernel
theorem dX7_flash_6 : decode cX7_flash 6 = .ok (.istore_n 3, 1) := by decide +kernel
theorem dX7_flash_7 : decode cX7_flash 7 = .ok (.iload_n 3, 1) := by decide +kernel
theorem dX7_flash_8 : decode cX7_flash 8 = .ok (.ifCond .eq 5, 3) := by decide +kernel
theorem dX7_flash_11 : decode cX7_flash 11 = .ok (.iload_n 3, 1) := by decide +kernel
theorem dX7_flash_12 : decode cX7_flash 12 = .ok (.ireturn, 1) := by decide +kernel
theorem dX7_flash_13 : decode cX7_flash 13 = .ok (.aload_n 0, 1) := by decide +kernel
theorem dX7_flash_14 : decode cX7_flash 14 = .ok (.getfield 26, 3) := by decide +kernel
theorem dX7_flash_17 : decode cX7_flash 17 = .ok (.aload_n 0, 1) := by decide +kernel
theorem dX7_flash_18 : decode cX7_flash 18 = .ok (.getfield 10, 3) := by decide +kernel
theorem dX7_flash_21 : decode cX7_flash 21 = .ok (.invokevirtual 61, 3) := by decide +kernel
theorem dX7_flash_24 : decode cX7_flash 24 = .ok (.aload_n 0, 1) := by decide +kernel
theorem dX7_flash_25 : decode cX7_flash 25 = .ok (.getfield 10, 3) := by decide +kernel
theorem dX7_flash_28 : decode cX7_flash 28 = .ok (.iload_n 1, 1) := by decide +kernel
theorem dX7_flash_29 : decode cX7_flash 29 = .ok (.iload_n 2, 1) := by decide +kernel
theorem dX7_flash_30 : decode cX7_flash 30 = .ok (.invokevirtual 111, 3) := by decide +kernel
theorem dX7_flash_33 : decode cX7_flash 33 = .ok (.aload_n 0, 1) := by decide +kernel
theorem dX7_flash_34 : decode cX7_flash 34 = .ok (.getfield 10, 3) := by decide +kernel
theorem dX7_flash_37 : decode cX7_flash 37 = .ok (.getfield 115, 3) := by decide +kernel
theorem dX7_flash_40 : decode cX7_flash 40 = .ok (.ireturn, 1) := by decide +kernel
set_option maxRecDepth 20000 in
theorem ggX7_pass_X7_errorOfPass : GoodIn wsX7_pass wsX7_errorOfPass := goodIn_r _ [8, 2, 3, 9, 10, 7, 11, 87, 88, 89, 90, 91, 92, 93, 94, 95, 96, 97, 98, 99] (by decide +kernel) (by decide +kernel)
set_option maxRecDepth 20000 in
theorem gX7_pass_X7_errorOfPass : GoodIn wsX7_pass (wsV RX7 118 RX7 yX7_errorOfPass wsX7_errorOfPass) := goodIn_app (goodIn_of _ (by decide +kernel)) ggX7_pass_X7_errorOfPass
set_option maxRecDepth 20000 in
theorem ggX7_pass_X1_record : GoodIn wsX7_pass wsX1_record := goodIn_r _ [16, 17, 18, 19, 20, 21, 22, 23, 24, 25, 26, 27, 28, 29, 30, 31, 32, 33, 34, 35, 36, 37, 38, 39, 40, 41, 42, 43, 44, 45, 46, 47, 48, 49, 50, 51, 52, 53, 54, 55, 56, 57, 58, 59, 60, 61, 62, 63, 64, 65, 66, 67, 68, 69, 70, 71, 72, 73, 74, 75, 76, 77, 78, 79, 80, 81, 82, 83, 84, 85, 86, 100, 101, 102, 93, 94, 95, 96, 97, 98, 99, 103, 104, 105, 106, 107, 108, 109, 110, 111, 112, 113] (by decide +kernel) (by decide +kernel)
set_option maxRecDepth 20000 in
theorem gX7_pass_X1_record : GoodIn wsX7_pass (wsV RX7 61 RX1 yX1_record wsX1_record) := goodIn_app (goodIn_of _ (by decide +kernel)) ggX7_pass_X1_record
theorem dX7_pass_0 : decode cX7_pass 0 = .ok (.aload_n 0, 1) := by decide +kernel
theorem dX7_pass_1 : decode cX7_pass 1 = .ok (.iload_n 1, 1) := by decide +kernel
theorem dX7_pass_2 : decode cX7_pass 2 = .ok (.invokevirtual 118, 3) := by decide +kernel
theorem dX7_pass_5 : decode cX7_pass 5 = .ok (.istore_n 2, 1) := by decide +kernel
theorem dX7_pass_6 : decode cX7_pass 6 = .ok (.iload_n 2, 1) := by decide +kernel
theorem dX7_pass_7 : decode cX7_pass 7 = .ok (.ifCond .eq 5, 3) := by decide +kernel
theorem dX7_pass_10 : decode cX7_pass 10 = .ok (.iload_n 2, 1) := by decide +kernel
theorem dX7_pass_11 : decode cX7_pass 11 = .ok (.ireturn, 1) := by decide +kernel
theorem dX7_pass_12 : decode cX7_pass 12 = .ok (.aload_n 0, 1) := by decide +kernel
theorem dX7_pass_13 : decode cX7_pass 13 = .ok (.getfield 26, 3) := by decide +kernel
theorem dX7_pass_16 : decode cX7_pass 16 = .ok (.aload_n 0, 1) := by decide +kernel
theorem dX7_pass_17 : decode cX7_pass 17 = .ok (.getfield 10, 3) := by decide +kernel
theorem dX7_pass_20 : decode cX7_pass 20 = .ok (.invokevirtual 61, 3) := by decide +kernel
theorem dX7_pass_23 : decode cX7_pass 23 = .ok (.aload_n 0, 1) := by decide +kernel
theorem dX7_pass_24 : decode cX7_pass 24 = .ok (.getfield 10, 3) := by decide +kernel
theorem dX7_pass_27 : decode cX7_pass 27 = .ok (.dup, 1) := by decide +kernel
theorem dX7_pass_28 : decode cX7_pass 28 = .ok (.getfield 76, 3) := by decide +kernel
theorem dX7_pass_31 : decode cX7_pass 31 = .ok (.iload_n 1, 1) := by decide +kernel
theorem dX7_pass_32 : decode cX7_pass 32 = .ok (.iadd, 1) := by decide +kernel
theorem dX7_pass_33 : decode cX7_pass 33 = .ok (.putfield 76, 3) := by decide +kernel
theorem dX7_pass_36 : decode cX7_pass 36 = .ok (.aload_n 0, 1) := by decide +kernel
theorem dX7_pass_37 : decode cX7_pass 37 = .ok (.getfield 10, 3) := by decide +kernel
theorem dX7_pass_40 : decode cX7_pass 40 = .ok (.getfield 76, 3) := by decide +kernel
theorem dX7_pass_43 : decode cX7_pass 43 = .ok (.ireturn, 1) := by decide +kernel
set_option maxRecDepth 20000 in
theorem ggX7_shoot_X7_errorOfShoot : GoodIn wsX7_shoot wsX7_errorOfShoot := goodIn_r _ [9, 2, 10, 11, 12, 13, 14, 15, 16, 17, 18, 19, 20, 167, 168, 169, 170, 171, 172, 173, 174, 175, 176, 177, 178, 179] (by decide +kernel) (by decide +kernel)
set_option maxRecDepth 20000 in
theorem gX7_shoot_X7_errorOfShoot : GoodIn wsX7_shoot (wsV RX7 122 RX7 yX7_errorOfShoot wsX7_errorOfShoot) := goodIn_app (goodIn_of _ (by decide +kernel)) ggX7_shoot_X7_errorOfShoot
set_option maxRecDepth 20000 in
theorem ggX7_shoot_X1_record : GoodIn wsX7_shoot wsX1_record := goodIn_r _ [25, 26, 27, 28, 29, 13, 30, 31, 32, 33, 34, 35, 36, 37, 38, 39, 40, 41, 42, 43, 44, 45, 15, 46, 47, 48, 49, 50, 51, 52, 53, 20, 54, 55, 56, 57, 58, 59, 60, 61, 62, 63, 64, 65, 66, 67, 68, 69, 70, 71, 72, 73, 74, 75, 76, 77, 78, 79, 80, 81, 82, 83, 84, 85, 86, 87, 88, 89, 90, 91, 92, 180, 181, 182, 173, 174, 175, 176, 177, 178, 179, 183, 184, 185, 186, 187, 188, 189, 190, 191, 192, 193] (by decide +kernel) (by decide +kernel)
set_option maxRecDepth 20000 in
theorem gX7_shoot_X1_record : GoodIn wsX7_shoot (wsV RX7 61 RX1 yX1_record wsX1_record) := goodIn_app (goodIn_of _ (by decide +kernel)) ggX7_shoot_X1_record
set_option maxRecDepth 20000 in
theorem ggX7_shoot_X0_takePicture : GoodIn wsX7_shoot wsX0_takePicture := goodIn_r _ [97, 98, 99, 100, 101, 102, 103, 17, 18, 13, 19, 20, 15, 104, 105, 106, 96, 107, 108, 109, 110, 111, 112, 113, 114, 115, 116, 55, 56, 117, 8, 118, 119, 120, 121, 122, 123, 124, 125, 126, 127, 128, 129, 48, 130, 61, 62, 131, 132, 133, 134, 86, 67, 65, 66, 69, 68, 135, 136, 137, 138, 139, 140, 141, 142, 32, 33, 34, 143, 144, 145, 146, 147, 148, 149, 150, 151, 152, 52, 153, 73, 92, 79, 80, 81, 154, 11, 12, 14, 16, 173, 174, 175, 176, 177, 178, 179, 194, 195, 196, 183, 184, 185, 186, 187, 188, 189, 190, 191, 192, 193] (by decide +kernel) (by decide +kernel)
set_option maxRecDepth 20000 in
theorem gX7_shoot_X0_takePicture : GoodIn wsX7_shoot (wsV RX7 126 RX0 yX0_takePicture wsX0_takePicture) := goodIn_app (goodIn_of _ (by decide +kernel)) ggX7_shoot_X0_takePicture
set_option maxRecDepth 20000 in
theorem ggX7_shoot_X3_sumOfAll : GoodIn wsX7_shoot wsX3_sumOfAll := goodIn_r _ [158, 159, 160, 161, 52, 162, 163, 164, 165, 166, 73, 193] (by decide +kernel) (by decide +kernel)
set_option maxRecDepth 20000 in
theorem gX7_shoot_X3_sumOfAll : GoodIn wsX7_shoot (wsV RX7 133 RX3 yX3_sumOfAll wsX3_sumOfAll) := goodIn_app (goodIn_of _ (by decide +kernel)) ggX7_shoot_X3_sumOfAll
theorem dX7_shoot_0 : decode cX7_shoot 0 = .ok (.aload_n 0, 1) := by decide +kernel
theorem dX7_shoot_1 : decode cX7_shoot 1 = .ok (.invokevirtual 122, 3) := by decide +kernel
theorem dX7_shoot_4 : decode cX7_shoot 4 = .ok (.istore_n 1, 1) := by decide +kernel
theorem dX7_shoot_5 : decode cX7_shoot 5 = .ok (.iload_n 1, 1) := by decide +kernel
theorem dX7_shoot_6 : decode cX7_shoot 6 = .ok (.ifCond .eq 5, 3) := by decide +kernel
theorem dX7_shoot_9 : decode cX7_shoot 9 = .ok (.iload_n 1, 1) := by decide +kernel
theorem dX7_shoot_10 : decode cX7_shoot 10 = .ok (.ireturn, 1) := by decide +kernel
theorem dX7_shoot_11 : decode cX7_shoot 11 = .ok (.aload_n 0, 1) := by decide +kernel
theorem dX7_shoot_12 : decode cX7_shoot 12 = .ok (.getfield 26, 3) := by decide +kernel
theorem dX7_shoot_15 : decode cX7_shoot 15 = .ok (.aload_n 0, 1) := by decide +kernel
theorem dX7_shoot_16 : decode cX7_shoot 16 = .ok (.getfield 10, 3) := by decide +kernel
theorem dX7_shoot_19 : decode cX7_shoot 19 = .ok (.invokevirtual 61, 3) := by decide +kernel
theorem dX7_shoot_22 : decode cX7_shoot 22 = .ok (.aload_n 0, 1) := by decide +kernel
theorem dX7_shoot_23 : decode cX7_shoot 23 = .ok (.getfield 19, 3) := by decide +kernel
theorem dX7_shoot_26 : decode cX7_shoot 26 = .ok (.aload_n 0, 1) := by decide +kernel
theorem dX7_shoot_27 : decode cX7_shoot 27 = .ok (.getfield 10, 3) := by decide +kernel
theorem dX7_shoot_30 : decode cX7_shoot 30 = .ok (.invokevirtual 126, 3) := by decide +kernel
theorem dX7_shoot_33 : decode cX7_shoot 33 = .ok (.aload_n 0, 1) := by decide +kernel
theorem dX7_shoot_34 : decode cX7_shoot 34 = .ok (.getfield 10, 3) := by decide +kernel
theorem dX7_shoot_37 : decode cX7_shoot 37 = .ok (.getfield 129, 3) := by decide +kernel
theorem dX7_shoot_40 : decode cX7_shoot 40 = .ok (.invokevirtual 133, 3) := by decide +kernel
theorem dX7_shoot_43 : decode cX7_shoot 43 = .ok (.ireturn, 1) := by decide +kernel
set_option maxRecDepth 20000 in
theorem ggX7_of_X7_isThing : GoodIn wsX7_of wsX7_isThing := goodIn_r _ [14, 1, 2, 15, 16, 17, 13, 18, 38, 39, 40, 41, 42, 43, 44, 45, 46, 47, 48, 49, 50, 51, 52, 53, 54, 55, 56, 57, 58, 59, 60] (by decide +kernel) (by decide +kernel)
set_option maxRecDepth 20000 in
theorem gX7_of_X7_isThing : GoodIn wsX7_of (wsV RX7 86 RX7 yX7_isThing wsX7_isThing) := goodIn_app (goodIn_of _ (by decide +kernel)) ggX7_of_X7_isThing
set_option maxRecDepth 20000 in
theorem ggX7_of_X6_leftAt : GoodIn wsX7_of wsX6_leftAt := goodIn_r _ [23, 24, 25, 26, 27, 28, 29, 30, 31, 32, 33, 51, 52, 53, 54, 55, 56, 57, 58, 59, 60] (by decide +kernel) (by decide +kernel)
set_option maxRecDepth 20000 in
theorem gX7_of_X6_leftAt : GoodIn wsX7_of (wsV RX7 141 RX6 yX6_leftAt wsX6_leftAt) := goodIn_app (goodIn_of _ (by decide +kernel)) ggX7_of_X6_leftAt
set_option maxRecDepth 20000 in
theorem ggX7_of_X6_speedWithAllUnder : GoodIn wsX7_of wsX6_speedWithAllUnder := goodIn_r _ [37, 24, 26, 29, 51, 52, 53, 54, 55, 56, 57, 58, 59, 60] (by decide +kernel) (by decide +kernel)
set_option maxRecDepth 20000 in
theorem gX7_of_X6_speedWithAllUnder : GoodIn wsX7_of (wsV RX7 153 RX6 yX6_speedWithAllUnder wsX6_speedWithAllUnder) := goodIn_app (goodIn_of _ (by decide +kernel)) ggX7_of_X6_speedWithAllUnder
theorem dX7_of_0 : decode cX7_of 0 = .ok (.aload_n 0, 1) := by decide +kernel
theorem dX7_of_1 : decode cX7_of 1 = .ok (.iload_n 1, 1) := by decide +kernel
theorem dX7_of_2 : decode cX7_of 2 = .ok (.invokevirtual 86, 3) := by decide +kernel
theorem dX7_of_5 : decode cX7_of 5 = .ok (.ifCond .ne 5, 3) := by decide +kernel
theorem dX7_of_8 : decode cX7_of 8 = .ok (.iconst (-1), 1) := by decide +kernel
theorem dX7_of_9 : decode cX7_of 9 = .ok (.ireturn, 1) := by decide +kernel
theorem dX7_of_10 : decode cX7_of 10 = .ok (.aload_n 0, 1) := by decide +kernel
theorem dX7_of_11 : decode cX7_of 11 = .ok (.getfield 10, 3) := by decide +kernel
theorem dX7_of_14 : decode cX7_of 14 = .ok (.getfield 72, 3) := by decide +kernel
theorem dX7_of_17 : decode cX7_of 17 = .ok (.astore_n 3, 1) := by decide +kernel
theorem dX7_of_18 : decode cX7_of 18 = .ok (.iload_n 2, 1) := by decide +kernel
theorem dX7_of_19 : decode cX7_of 19 = .ok (.tableswitch 117 0 7 #[45, 52, 69, 76, 83, 90, 100, 107], 45) := by decide +kernel
theorem dX7_of_64 : decode cX7_of 64 = .ok (.aload_n 3, 1) := by decide +kernel
theorem dX7_of_65 : decode cX7_of 65 = .ok (.getfield 138, 3) := by decide +kernel
theorem dX7_of_68 : decode cX7_of 68 = .ok (.iload_n 1, 1) := by decide +kernel
theorem dX7_of_69 : decode cX7_of 69 = .ok (.iaload, 1) := by decide +kernel
theorem dX7_of_70 : decode cX7_of 70 = .ok (.ireturn, 1) := by decide +kernel
theorem dX7_of_71 : decode cX7_of 71 = .ok (.aload_n 3, 1) := by decide +kernel
theorem dX7_of_72 : decode cX7_of 72 = .ok (.iload_n 1, 1) := by decide +kernel
theorem dX7_of_73 : decode cX7_of 73 = .ok (.aload_n 0, 1) := by decide +kernel
theorem dX7_of_74 : decode cX7_of 74 = .ok (.getfield 10, 3) := by decide +kernel
theorem dX7_of_77 : decode cX7_of 77 = .ok (.getfield 76, 3) := by decide +kernel
theorem dX7_of_80 : decode cX7_of 80 = .ok (.invokevirtual 141, 3) := by decide +kernel
theorem dX7_of_83 : decode cX7_of 83 = .ok (.sipush 1000, 3) := by decide +kernel
theorem dX7_of_86 : decode cX7_of 86 = .ok (.iadd, 1) := by decide +kernel
theorem dX7_of_87 : decode cX7_of 87 = .ok (.ireturn, 1) := by decide +kernel
theorem dX7_of_88 : decode cX7_of 88 = .ok (.aload_n 3, 1) := by decide +kernel
theorem dX7_of_89 : decode cX7_of 89 = .ok (.getfield 144, 3) := by decide +kernel
theorem dX7_of_92 : decode cX7_of 92 = .ok (.iload_n 1, 1) := by decide +kernel
theorem dX7_of_93 : decode cX7_of 93 = .ok (.iaload, 1) := by decide +kernel
theorem dX7_of_94 : decode cX7_of 94 = .ok (.ireturn, 1) := by decide +kernel
theorem dX7_of_95 : decode cX7_of 95 = .ok (.aload_n 3, 1) := by decide +kernel
theorem dX7_of_96 : decode cX7_of 96 = .ok (.getfield 147, 3) := by decide +kernel
theorem dX7_of_99 : decode cX7_of 99 = .ok (.iload_n 1, 1) := by decide +kernel
theorem dX7_of_100 : decode cX7_of 100 = .ok (.iaload, 1) := by decide +kernel
theorem dX7_of_101 : decode cX7_of 101 = .ok (.ireturn, 1) := by decide +kernel
theorem dX7_of_102 : decode cX7_of 102 = .ok (.aload_n 3, 1) := by decide +kernel
theorem dX7_of_103 : decode cX7_of 103 = .ok (.getfield 150, 3) := by decide +kernel
theorem dX7_of_106 : decode cX7_of 106 = .ok (.iload_n 1, 1) := by decide +kernel
theorem dX7_of_107 : decode cX7_of 107 = .ok (.iaload, 1) := by decide +kernel
theorem dX7_of_108 : decode cX7_of 108 = .ok (.ireturn, 1) := by decide +kernel
theorem dX7_of_109 : decode cX7_of 109 = .ok (.aload_n 3, 1) := by decide +kernel
theorem dX7_of_110 : decode cX7_of 110 = .ok (.getfield 93, 3) := by decide +kernel
theorem dX7_of_113 : decode cX7_of 113 = .ok (.iload_n 1, 1) := by decide +kernel
theorem dX7_of_114 : decode cX7_of 114 = .ok (.iaload, 1) := by decide +kernel
theorem dX7_of_115 : decode cX7_of 115 = .ok (.bipush 100, 2) := by decide +kernel
theorem dX7_of_117 : decode cX7_of 117 = .ok (.iadd, 1) := by decide +kernel
theorem dX7_of_118 : decode cX7_of 118 = .ok (.ireturn, 1) := by decide +kernel
theorem dX7_of_119 : decode cX7_of 119 = .ok (.aload_n 3, 1) := by decide +kernel
theorem dX7_of_120 : decode cX7_of 120 = .ok (.getfield 96, 3) := by decide +kernel
theorem dX7_of_123 : decode cX7_of 123 = .ok (.iload_n 1, 1) := by decide +kernel
theorem dX7_of_124 : decode cX7_of 124 = .ok (.iaload, 1) := by decide +kernel
theorem dX7_of_125 : decode cX7_of 125 = .ok (.ireturn, 1) := by decide +kernel
theorem dX7_of_126 : decode cX7_of 126 = .ok (.aload_n 3, 1) := by decide +kernel
theorem dX7_of_127 : decode cX7_of 127 = .ok (.iload_n 1, 1) := by decide +kernel
theorem dX7_of_128 : decode cX7_of 128 = .ok (.invokevirtual 153, 3) := by decide +kernel
theorem dX7_of_131 : decode cX7_of 131 = .ok (.sipush 1000, 3) := by decide +kernel
theorem dX7_of_134 : decode cX7_of 134 = .ok (.iadd, 1) := by decide +kernel
theorem dX7_of_135 : decode cX7_of 135 = .ok (.ireturn, 1) := by decide +kernel
theorem dX7_of_136 : decode cX7_of 136 = .ok (.bipush (-2), 2) := by decide +kernel
theorem dX7_of_138 : decode cX7_of 138 = .ok (.ireturn, 1) := by decide +kernel
set_option maxRecDepth 20000 in
theorem ggX7_pixel_X7_isPlace : GoodIn wsX7_pixel wsX7_isPlace := goodIn_r _ [6, 7, 8, 5, 9] (by decide +kernel) (by decide +kernel)
set_option maxRecDepth 20000 in
theorem gX7_pixel_X7_isPlace : GoodIn wsX7_pixel (va_wsS RX7 156 yX7_isPlace wsX7_isPlace) := goodIn_app (goodIn_of _ (by decide +kernel)) ggX7_pixel_X7_isPlace
set_option maxRecDepth 20000 in
theorem ggX7_pixel_X3_pixelAt : GoodIn wsX7_pixel wsX3_pixelAt := goodIn_r _ [14, 15, 29] (by decide +kernel) (by decide +kernel)
set_option maxRecDepth 20000 in
theorem gX7_pixel_X3_pixelAt : GoodIn wsX7_pixel (wsV RX7 159 RX3 yX3_pixelAt wsX3_pixelAt) := goodIn_app (goodIn_of _ (by decide +kernel)) ggX7_pixel_X3_pixelAt
theorem dX7_pixel_0 : decode cX7_pixel 0 = .ok (.iload_n 1, 1) := by decide +kernel
theorem dX7_pixel_1 : decode cX7_pixel 1 = .ok (.iload_n 2, 1) := by decide +kernel
theorem dX7_pixel_2 : decode cX7_pixel 2 = .ok (.invokestatic 156, 3) := by decide +kernel
theorem dX7_pixel_5 : decode cX7_pixel 5 = .ok (.ifCond .ne 5, 3) := by decide +kernel
theorem dX7_pixel_8 : decode cX7_pixel 8 = .ok (.iconst (-1), 1) := by decide +kernel
theorem dX7_pixel_9 : decode cX7_pixel 9 = .ok (.ireturn, 1) := by decide +kernel
theorem dX7_pixel_10 : decode cX7_pixel 10 = .ok (.aload_n 0, 1) := by decide +kernel
theorem dX7_pixel_11 : decode cX7_pixel 11 = .ok (.getfield 10, 3) := by decide +kernel
theorem dX7_pixel_14 : decode cX7_pixel 14 = .ok (.getfield 129, 3) := by decide +kernel
theorem dX7_pixel_17 : decode cX7_pixel 17 = .ok (.iload_n 1, 1) := by decide +kernel
theorem dX7_pixel_18 : decode cX7_pixel 18 = .ok (.iload_n 2, 1) := by decide +kernel
theorem dX7_pixel_19 : decode cX7_pixel 19 = .ok (.invokevirtual 159, 3) := by decide +kernel
theorem dX7_pixel_22 : decode cX7_pixel 22 = .ok (.ireturn, 1) := by decide +kernel
set_option maxRecDepth 20000 in
theorem ggX7_joined_X7_isPlace : GoodIn wsX7_joined wsX7_isPlace := goodIn_r _ [11, 12, 13, 10, 14] (by decide +kernel) (by decide +kernel)
set_option maxRecDepth 20000 in
theorem gX7_joined_X7_isPlace : GoodIn wsX7_joined (va_wsS RX7 156 yX7_isPlace wsX7_isPlace) := goodIn_app (goodIn_of _ (by decide +kernel)) ggX7_joined_X7_isPlace
set_option maxRecDepth 20000 in
theorem ggX7_joined_X3_pixelAt : GoodIn wsX7_joined wsX3_pixelAt := goodIn_r _ [19, 20, 34] (by decide +kernel) (by decide +kernel)
set_option maxRecDepth 20000 in
theorem gX7_joined_X3_pixelAt : GoodIn wsX7_joined (wsV RX7 159 RX3 yX3_pixelAt wsX3_pixelAt) := goodIn_app (goodIn_of _ (by decide +kernel)) ggX7_joined_X3_pixelAt
theorem dX7_joined_0 : decode cX7_joined 0 = .ok (.aload_n 0, 1) := by decide +kernel
theorem dX7_joined_1 : decode cX7_joined 1 = .ok (.getfield 10, 3) := by decide +kernel
theorem dX7_joined_4 : decode cX7_joined 4 = .ok (.getfield 65, 3) := by decide +kernel
theorem dX7_joined_7 : decode cX7_joined 7 = .ok (.iconst 3, 1) := by decide +kernel
theorem dX7_joined_8 : decode cX7_joined 8 = .ok (.iaload, 1) := by decide +kernel
theorem dX7_joined_9 : decode cX7_joined 9 = .ok (.istore_n 3, 1) := by decide +kernel
theorem dX7_joined_10 : decode cX7_joined 10 = .ok (.iload_n 1, 1) := by decide +kernel
theorem dX7_joined_11 : decode cX7_joined 11 = .ok (.iload_n 2, 1) := by decide +kernel
theorem dX7_joined_12 : decode cX7_joined 12 = .ok (.invokestatic 156, 3) := by decide +kernel
theorem dX7_joined_15 : decode cX7_joined 15 = .ok (.ifCond .eq 11, 3) := by decide +kernel
theorem dX7_joined_18 : decode cX7_joined 18 = .ok (.iload_n 1, 1) := by decide +kernel
theorem dX7_joined_19 : decode cX7_joined 19 = .ok (.iload_n 3, 1) := by decide +kernel
theorem dX7_joined_20 : decode cX7_joined 20 = .ok (.imul, 1) := by decide +kernel
theorem dX7_joined_21 : decode cX7_joined 21 = .ok (.bipush 16, 2) := by decide +kernel
theorem dX7_joined_23 : decode cX7_joined 23 = .ok (.if_icmp .lt 5, 3) := by decide +kernel
theorem dX7_joined_26 : decode cX7_joined 26 = .ok (.iconst (-1), 1) := by decide +kernel
theorem dX7_joined_27 : decode cX7_joined 27 = .ok (.ireturn, 1) := by decide +kernel
theorem dX7_joined_28 : decode cX7_joined 28 = .ok (.bipush 16, 2) := by decide +kernel
theorem dX7_joined_30 : decode cX7_joined 30 = .ok (.iload_n 1, 1) := by decide +kernel
theorem dX7_joined_31 : decode cX7_joined 31 = .ok (.iload_n 3, 1) := by decide +kernel
theorem dX7_joined_32 : decode cX7_joined 32 = .ok (.imul, 1) := by decide +kernel
theorem dX7_joined_33 : decode cX7_joined 33 = .ok (.iload_n 3, 1) := by decide +kernel
theorem dX7_joined_34 : decode cX7_joined 34 = .ok (.iadd, 1) := by decide +kernel
theorem dX7_joined_35 : decode cX7_joined 35 = .ok (.invokestatic 162, 3) := by decide +kernel
theorem dX7_joined_38 : decode cX7_joined 38 = .ok (.istore 4, 2) := by decide +kernel
theorem dX7_joined_40 : decode cX7_joined 40 = .ok (.iconst 0, 1) := by decide +kernel
theorem dX7_joined_41 : decode cX7_joined 41 = .ok (.istore 5, 2) := by decide +kernel
theorem dX7_joined_43 : decode cX7_joined 43 = .ok (.iload_n 1, 1) := by decide +kernel
theorem dX7_joined_44 : decode cX7_joined 44 = .ok (.iload_n 3, 1) := by decide +kernel
theorem dX7_joined_45 : decode cX7_joined 45 = .ok (.imul, 1) := by decide +kernel
theorem dX7_joined_46 : decode cX7_joined 46 = .ok (.istore 6, 2) := by decide +kernel
theorem dX7_joined_48 : decode cX7_joined 48 = .ok (.iload 6, 2) := by decide +kernel
theorem dX7_joined_50 : decode cX7_joined 50 = .ok (.iload 4, 2) := by decide +kernel
theorem dX7_joined_52 : decode cX7_joined 52 = .ok (.if_icmp .ge 27, 3) := by decide +kernel
theorem dX7_joined_55 : decode cX7_joined 55 = .ok (.iload 5, 2) := by decide +kernel
theorem dX7_joined_57 : decode cX7_joined 57 = .ok (.aload_n 0, 1) := by decide +kernel
theorem dX7_joined_58 : decode cX7_joined 58 = .ok (.getfield 10, 3) := by decide +kernel
theorem dX7_joined_61 : decode cX7_joined 61 = .ok (.getfield 129, 3) := by decide +kernel
theorem dX7_joined_64 : decode cX7_joined 64 = .ok (.iload 6, 2) := by decide +kernel
theorem dX7_joined_66 : decode cX7_joined 66 = .ok (.iload_n 2, 1) := by decide +kernel
theorem dX7_joined_67 : decode cX7_joined 67 = .ok (.invokevirtual 159, 3) := by decide +kernel
theorem dX7_joined_70 : decode cX7_joined 70 = .ok (.iadd, 1) := by decide +kernel
theorem dX7_joined_71 : decode cX7_joined 71 = .ok (.istore 5, 2) := by decide +kernel
theorem dX7_joined_73 : decode cX7_joined 73 = .ok (.iinc 6 1, 3) := by decide +kernel
theorem dX7_joined_76 : decode cX7_joined 76 = .ok (.goto (-28), 3) := by decide +kernel
theorem dX7_joined_79 : decode cX7_joined 79 = .ok (.iload 5, 2) := by decide +kernel
theorem dX7_joined_81 : decode cX7_joined 81 = .ok (.ireturn, 1) := by decide +kernel
set_option maxRecDepth 20000 in
theorem ggX7_ofLine_X7_within : GoodIn wsX7_ofLine wsX7_within := goodIn_r _ [6] (by decide +kernel) (by decide +kernel)
set_option maxRecDepth 20000 in
theorem gX7_ofLine_X7_within : GoodIn wsX7_ofLine (va_wsS RX7 50 yX7_within wsX7_within) := goodIn_app (goodIn_of _ (by decide +kernel)) ggX7_ofLine_X7_within
set_option maxRecDepth 20000 in
theorem ggX7_ofLine_X3_columnsNotDark : GoodIn wsX7_ofLine wsX3_columnsNotDark := goodIn_r _ [11, 12, 13, 14, 10, 15, 16, 38] (by decide +kernel) (by decide +kernel)
set_option maxRecDepth 20000 in
theorem gX7_ofLine_X3_columnsNotDark : GoodIn wsX7_ofLine (wsV RX7 167 RX3 yX3_columnsNotDark wsX3_columnsNotDark) := goodIn_app (goodIn_of _ (by decide +kernel)) ggX7_ofLine_X3_columnsNotDark
set_option maxRecDepth 20000 in
theorem ggX7_ofLine_X3_sumOfLine : GoodIn wsX7_ofLine wsX3_sumOfLine := goodIn_r _ [20, 12, 13, 14, 10, 15, 16, 38] (by decide +kernel) (by decide +kernel)
set_option maxRecDepth 20000 in
theorem gX7_ofLine_X3_sumOfLine : GoodIn wsX7_ofLine (wsV RX7 170 RX3 yX3_sumOfLine wsX3_sumOfLine) := goodIn_app (goodIn_of _ (by decide +kernel)) ggX7_ofLine_X3_sumOfLine
set_option maxRecDepth 20000 in
theorem ggX7_ofLine_X3_leftmostNotDark : GoodIn wsX7_ofLine wsX3_leftmostNotDark := goodIn_r _ [24, 12, 13, 14, 10, 15, 16, 38] (by decide +kernel) (by decide +kernel)
set_option maxRecDepth 20000 in
theorem gX7_ofLine_X3_leftmostNotDark : GoodIn wsX7_ofLine (wsV RX7 173 RX3 yX3_leftmostNotDark wsX3_leftmostNotDark) := goodIn_app (goodIn_of _ (by decide +kernel)) ggX7_ofLine_X3_leftmostNotDark
theorem dX7_ofLine_0 : decode cX7_ofLine 0 = .ok (.iload_n 1, 1) := by decide +kernel
theorem dX7_ofLine_1 : decode cX7_ofLine 1 = .ok (.iconst 0, 1) := by decide +kernel
theorem dX7_ofLine_2 : decode cX7_ofLine 2 = .ok (.bipush 15, 2) := by decide +kernel
theorem dX7_ofLine_4 : decode cX7_ofLine 4 = .ok (.invokestatic 50, 3) := by decide +kernel
theorem dX7_ofLine_7 : decode cX7_ofLine 7 = .ok (.ifCond .ne 5, 3) := by decide +kernel
theorem dX7_ofLine_10 : decode cX7_ofLine 10 = .ok (.iconst (-1), 1) := by decide +kernel
theorem dX7_ofLine_11 : decode cX7_ofLine 11 = .ok (.ireturn, 1) := by decide +kernel
theorem dX7_ofLine_12 : decode cX7_ofLine 12 = .ok (.iload_n 2, 1) := by decide +kernel
theorem dX7_ofLine_13 : decode cX7_ofLine 13 = .ok (.tableswitch 63 0 2 #[27, 39, 51], 27) := by decide +kernel
theorem dX7_ofLine_40 : decode cX7_ofLine 40 = .ok (.aload_n 0, 1) := by decide +kernel
theorem dX7_ofLine_41 : decode cX7_ofLine 41 = .ok (.getfield 10, 3) := by decide +kernel
theorem dX7_ofLine_44 : decode cX7_ofLine 44 = .ok (.getfield 129, 3) := by decide +kernel
theorem dX7_ofLine_47 : decode cX7_ofLine 47 = .ok (.iload_n 1, 1) := by decide +kernel
theorem dX7_ofLine_48 : decode cX7_ofLine 48 = .ok (.invokevirtual 167, 3) := by decide +kernel
theorem dX7_ofLine_51 : decode cX7_ofLine 51 = .ok (.ireturn, 1) := by decide +kernel
theorem dX7_ofLine_52 : decode cX7_ofLine 52 = .ok (.aload_n 0, 1) := by decide +kernel
theorem dX7_ofLine_53 : decode cX7_ofLine 53 = .ok (.getfield 10, 3) := by decide +kernel
theorem dX7_ofLine_56 : decode cX7_ofLine 56 = .ok (.getfield 129, 3) := by decide +kernel
theorem dX7_ofLine_59 : decode cX7_ofLine 59 = .ok (.iload_n 1, 1) := by decide +kernel
theorem dX7_ofLine_60 : decode cX7_ofLine 60 = .ok (.invokevirtual 170, 3) := by decide +kernel
theorem dX7_ofLine_63 : decode cX7_ofLine 63 = .ok (.ireturn, 1) := by decide +kernel
theorem dX7_ofLine_64 : decode cX7_ofLine 64 = .ok (.aload_n 0, 1) := by decide +kernel
theorem dX7_ofLine_65 : decode cX7_ofLine 65 = .ok (.getfield 10, 3) := by decide +kernel
theorem dX7_ofLine_68 : decode cX7_ofLine 68 = .ok (.getfield 129, 3) := by decide +kernel
theorem dX7_ofLine_71 : decode cX7_ofLine 71 = .ok (.iload_n 1, 1) := by decide +kernel
theorem dX7_ofLine_72 : decode cX7_ofLine 72 = .ok (.invokevirtual 173, 3) := by decide +kernel
theorem dX7_ofLine_75 : decode cX7_ofLine 75 = .ok (.ireturn, 1) := by decide +kernel
theorem dX7_ofLine_76 : decode cX7_ofLine 76 = .ok (.bipush (-2), 2) := by decide +kernel
theorem dX7_ofLine_78 : decode cX7_ofLine 78 = .ok (.ireturn, 1) := by decide +kernel
set_option maxRecDepth 20000 in
theorem ggX7_count_X3_darkLines : GoodIn wsX7_count wsX3_darkLines := goodIn_r _ [18, 19, 20, 21, 17, 22, 23, 24, 25, 26, 27, 68] (by decide +kernel) (by decide +kernel)
set_option maxRecDepth 20000 in
theorem gX7_count_X3_darkLines : GoodIn wsX7_count (wsV RX7 182 RX3 yX3_darkLines wsX3_darkLines) := goodIn_app (goodIn_of _ (by decide +kernel)) ggX7_count_X3_darkLines
set_option maxRecDepth 20000 in
theorem ggX7_count_X3_brightest : GoodIn wsX7_count wsX3_brightest := goodIn_r _ [31, 32, 33, 34, 35, 23, 24, 25, 17, 26, 27, 68] (by decide +kernel) (by decide +kernel)
set_option maxRecDepth 20000 in
theorem gX7_count_X3_brightest : GoodIn wsX7_count (wsV RX7 185 RX3 yX3_brightest wsX3_brightest) := goodIn_app (goodIn_of _ (by decide +kernel)) ggX7_count_X3_brightest
set_option maxRecDepth 20000 in
theorem ggX7_count_X3_bands : GoodIn wsX7_count wsX3_bands := goodIn_r _ [39, 19, 20, 21, 17, 22, 23, 24, 25, 26, 27, 68] (by decide +kernel) (by decide +kernel)
set_option maxRecDepth 20000 in
theorem gX7_count_X3_bands : GoodIn wsX7_count (wsV RX7 188 RX3 yX3_bands wsX3_bands) := goodIn_app (goodIn_of _ (by decide +kernel)) ggX7_count_X3_bands
theorem dX7_count_0 : decode cX7_count 0 = .ok (.iload_n 1, 1) := by decide +kernel
theorem dX7_count_1 : decode cX7_count 1 = .ok (.tableswitch 203 0 13 #[71, 79, 90, 98, 109, 120, 131, 139, 147, 157, 167, 177, 187, 195], 71) := by decide +kernel
theorem dX7_count_72 : decode cX7_count 72 = .ok (.aload_n 0, 1) := by decide +kernel
theorem dX7_count_73 : decode cX7_count 73 = .ok (.getfield 10, 3) := by decide +kernel
theorem dX7_count_76 : decode cX7_count 76 = .ok (.getfield 76, 3) := by decide +kernel
theorem dX7_count_79 : decode cX7_count 79 = .ok (.ireturn, 1) := by decide +kernel
theorem dX7_count_80 : decode cX7_count 80 = .ok (.aload_n 0, 1) := by decide +kernel
theorem dX7_count_81 : decode cX7_count 81 = .ok (.getfield 10, 3) := by decide +kernel
theorem dX7_count_84 : decode cX7_count 84 = .ok (.getfield 72, 3) := by decide +kernel
theorem dX7_count_87 : decode cX7_count 87 = .ok (.getfield 176, 3) := by decide +kernel
theorem dX7_count_90 : decode cX7_count 90 = .ok (.ireturn, 1) := by decide +kernel
theorem dX7_count_91 : decode cX7_count 91 = .ok (.aload_n 0, 1) := by decide +kernel
theorem dX7_count_92 : decode cX7_count 92 = .ok (.getfield 10, 3) := by decide +kernel
theorem dX7_count_95 : decode cX7_count 95 = .ok (.getfield 179, 3) := by decide +kernel
theorem dX7_count_98 : decode cX7_count 98 = .ok (.ireturn, 1) := by decide +kernel
theorem dX7_count_99 : decode cX7_count 99 = .ok (.aload_n 0, 1) := by decide +kernel
theorem dX7_count_100 : decode cX7_count 100 = .ok (.getfield 10, 3) := by decide +kernel
theorem dX7_count_103 : decode cX7_count 103 = .ok (.getfield 129, 3) := by decide +kernel
theorem dX7_count_106 : decode cX7_count 106 = .ok (.invokevirtual 182, 3) := by decide +kernel
theorem dX7_count_109 : decode cX7_count 109 = .ok (.ireturn, 1) := by decide +kernel
theorem dX7_count_110 : decode cX7_count 110 = .ok (.aload_n 0, 1) := by decide +kernel
theorem dX7_count_111 : decode cX7_count 111 = .ok (.getfield 10, 3) := by decide +kernel
theorem dX7_count_114 : decode cX7_count 114 = .ok (.getfield 129, 3) := by decide +kernel
theorem dX7_count_117 : decode cX7_count 117 = .ok (.invokevirtual 185, 3) := by decide +kernel
theorem dX7_count_120 : decode cX7_count 120 = .ok (.ireturn, 1) := by decide +kernel
theorem dX7_count_121 : decode cX7_count 121 = .ok (.aload_n 0, 1) := by decide +kernel
theorem dX7_count_122 : decode cX7_count 122 = .ok (.getfield 10, 3) := by decide +kernel
theorem dX7_count_125 : decode cX7_count 125 = .ok (.getfield 129, 3) := by decide +kernel
theorem dX7_count_128 : decode cX7_count 128 = .ok (.invokevirtual 188, 3) := by decide +kernel
theorem dX7_count_131 : decode cX7_count 131 = .ok (.ireturn, 1) := by decide +kernel
theorem dX7_count_132 : decode cX7_count 132 = .ok (.aload_n 0, 1) := by decide +kernel
theorem dX7_count_133 : decode cX7_count 133 = .ok (.getfield 10, 3) := by decide +kernel
theorem dX7_count_136 : decode cX7_count 136 = .ok (.getfield 115, 3) := by decide +kernel
theorem dX7_count_139 : decode cX7_count 139 = .ok (.ireturn, 1) := by decide +kernel
theorem dX7_count_140 : decode cX7_count 140 = .ok (.aload_n 0, 1) := by decide +kernel
theorem dX7_count_141 : decode cX7_count 141 = .ok (.getfield 10, 3) := by decide +kernel
theorem dX7_count_144 : decode cX7_count 144 = .ok (.getfield 191, 3) := by decide +kernel
theorem dX7_count_147 : decode cX7_count 147 = .ok (.ireturn, 1) := by decide +kernel
theorem dX7_count_148 : decode cX7_count 148 = .ok (.aload_n 0, 1) := by decide +kernel
theorem dX7_count_149 : decode cX7_count 149 = .ok (.getfield 10, 3) := by decide +kernel
theorem dX7_count_152 : decode cX7_count 152 = .ok (.getfield 65, 3) := by decide +kernel
theorem dX7_count_155 : decode cX7_count 155 = .ok (.iconst 0, 1) := by decide +kernel
theorem dX7_count_156 : decode cX7_count 156 = .ok (.iaload, 1) := by decide +kernel
theorem dX7_count_157 : decode cX7_count 157 = .ok (.ireturn, 1) := by decide +kernel
theorem dX7_count_158 : decode cX7_count 158 = .ok (.aload_n 0, 1) := by decide +kernel
theorem dX7_count_159 : decode cX7_count 159 = .ok (.getfield 10, 3) := by decide +kernel
theorem dX7_count_162 : decode cX7_count 162 = .ok (.getfield 65, 3) := by decide +kernel
theorem dX7_count_165 : decode cX7_count 165 = .ok (.iconst 1, 1) := by decide +kernel
theorem dX7_count_166 : decode cX7_count 166 = .ok (.iaload, 1) := by decide +kernel
theorem dX7_count_167 : decode cX7_count 167 = .ok (.ireturn, 1) := by decide +kernel
theorem dX7_count_168 : decode cX7_count 168 = .ok (.aload_n 0, 1) := by decide +kernel
theorem dX7_count_169 : decode cX7_count 169 = .ok (.getfield 10, 3) := by decide +kernel
theorem dX7_count_172 : decode cX7_count 172 = .ok (.getfield 65, 3) := by decide +kernel
theorem dX7_count_175 : decode cX7_count 175 = .ok (.iconst 2, 1) := by decide +kernel
theorem dX7_count_176 : decode cX7_count 176 = .ok (.iaload, 1) := by decide +kernel
theorem dX7_count_177 : decode cX7_count 177 = .ok (.ireturn, 1) := by decide +kernel
theorem dX7_count_178 : decode cX7_count 178 = .ok (.aload_n 0, 1) := by decide +kernel
theorem dX7_count_179 : decode cX7_count 179 = .ok (.getfield 10, 3) := by decide +kernel
theorem dX7_count_182 : decode cX7_count 182 = .ok (.getfield 65, 3) := by decide +kernel
theorem dX7_count_185 : decode cX7_count 185 = .ok (.iconst 3, 1) := by decide +kernel
theorem dX7_count_186 : decode cX7_count 186 = .ok (.iaload, 1) := by decide +kernel
theorem dX7_count_187 : decode cX7_count 187 = .ok (.ireturn, 1) := by decide +kernel
theorem dX7_count_188 : decode cX7_count 188 = .ok (.aload_n 0, 1) := by decide +kernel
theorem dX7_count_189 : decode cX7_count 189 = .ok (.getfield 37, 3) := by decide +kernel
theorem dX7_count_192 : decode cX7_count 192 = .ok (.getfield 194, 3) := by decide +kernel
theorem dX7_count_195 : decode cX7_count 195 = .ok (.ireturn, 1) := by decide +kernel
theorem dX7_count_196 : decode cX7_count 196 = .ok (.aload_n 0, 1) := by decide +kernel
theorem dX7_count_197 : decode cX7_count 197 = .ok (.getfield 26, 3) := by decide +kernel
theorem dX7_count_200 : decode cX7_count 200 = .ok (.getfield 197, 3) := by decide +kernel
theorem dX7_count_203 : decode cX7_count 203 = .ok (.ireturn, 1) := by decide +kernel
theorem dX7_count_204 : decode cX7_count 204 = .ok (.bipush (-2), 2) := by decide +kernel
theorem dX7_count_206 : decode cX7_count 206 = .ok (.ireturn, 1) := by decide +kernel
set_option maxRecDepth 20000 in
theorem ggX7_seen_X7_isPlace : GoodIn wsX7_seen wsX7_isPlace := goodIn_r _ [7, 8, 9, 6, 10] (by decide +kernel) (by decide +kernel)
set_option maxRecDepth 20000 in
theorem gX7_seen_X7_isPlace : GoodIn wsX7_seen (va_wsS RX7 156 yX7_isPlace wsX7_isPlace) := goodIn_app (goodIn_of _ (by decide +kernel)) ggX7_seen_X7_isPlace
set_option maxRecDepth 20000 in
theorem ggX7_seen_X7_within : GoodIn wsX7_seen wsX7_within := goodIn_r _ [10] (by decide +kernel) (by decide +kernel)
set_option maxRecDepth 20000 in
theorem gX7_seen_X7_within : GoodIn wsX7_seen (va_wsS RX7 50 yX7_within wsX7_within) := goodIn_app (goodIn_of _ (by decide +kernel)) ggX7_seen_X7_within
set_option maxRecDepth 20000 in
theorem ggX7_seen_X0_brightnessAt : GoodIn wsX7_seen wsX0_brightnessAt := goodIn_r _ [15, 16, 17, 18, 19, 14, 20, 21, 22, 23, 24, 25, 26, 27, 28, 29, 30, 31, 32, 33, 9, 6, 10, 34, 35, 36, 37, 38, 39, 40, 41, 42, 43, 44, 45, 46, 47, 48, 49, 50, 51, 52, 53, 54, 55, 56, 57, 58, 59, 60, 61, 62, 63, 64, 65, 66, 67, 68, 69, 70, 71, 72, 73, 74, 75, 76, 90, 91, 92, 83, 84, 85, 86, 87, 88, 89, 93, 94, 95, 96, 97, 98, 99, 100, 101, 102] (by decide +kernel) (by decide +kernel)
set_option maxRecDepth 20000 in
theorem gX7_seen_X0_brightnessAt : GoodIn wsX7_seen (wsV RX7 198 RX0 yX0_brightnessAt wsX0_brightnessAt) := goodIn_app (goodIn_of _ (by decide +kernel)) ggX7_seen_X0_brightnessAt
theorem dX7_seen_0 : decode cX7_seen 0 = .ok (.iload_n 1, 1) := by decide +kernel
theorem dX7_seen_1 : decode cX7_seen 1 = .ok (.iload_n 2, 1) := by decide +kernel
theorem dX7_seen_2 : decode cX7_seen 2 = .ok (.invokestatic 156, 3) := by decide +kernel
theorem dX7_seen_5 : decode cX7_seen 5 = .ok (.ifCond .ne 5, 3) := by decide +kernel
theorem dX7_seen_8 : decode cX7_seen 8 = .ok (.iconst (-1), 1) := by decide +kernel
theorem dX7_seen_9 : decode cX7_seen 9 = .ok (.ireturn, 1) := by decide +kernel
theorem dX7_seen_10 : decode cX7_seen 10 = .ok (.iload_n 3, 1) := by decide +kernel
theorem dX7_seen_11 : decode cX7_seen 11 = .ok (.iconst 0, 1) := by decide +kernel
theorem dX7_seen_12 : decode cX7_seen 12 = .ok (.bipush 99, 2) := by decide +kernel
theorem dX7_seen_14 : decode cX7_seen 14 = .ok (.invokestatic 50, 3) := by decide +kernel
theorem dX7_seen_17 : decode cX7_seen 17 = .ok (.ifCond .ne 6, 3) := by decide +kernel
theorem dX7_seen_20 : decode cX7_seen 20 = .ok (.bipush (-2), 2) := by decide +kernel
theorem dX7_seen_22 : decode cX7_seen 22 = .ok (.ireturn, 1) := by decide +kernel
theorem dX7_seen_23 : decode cX7_seen 23 = .ok (.aload_n 0, 1) := by decide +kernel
theorem dX7_seen_24 : decode cX7_seen 24 = .ok (.getfield 19, 3) := by decide +kernel
theorem dX7_seen_27 : decode cX7_seen 27 = .ok (.aload_n 0, 1) := by decide +kernel
theorem dX7_seen_28 : decode cX7_seen 28 = .ok (.getfield 10, 3) := by decide +kernel
theorem dX7_seen_31 : decode cX7_seen 31 = .ok (.iload_n 1, 1) := by decide +kernel
theorem dX7_seen_32 : decode cX7_seen 32 = .ok (.iload_n 2, 1) := by decide +kernel
theorem dX7_seen_33 : decode cX7_seen 33 = .ok (.aload_n 0, 1) := by decide +kernel
theorem dX7_seen_34 : decode cX7_seen 34 = .ok (.getfield 10, 3) := by decide +kernel
theorem dX7_seen_37 : decode cX7_seen 37 = .ok (.getfield 76, 3) := by decide +kernel
theorem dX7_seen_40 : decode cX7_seen 40 = .ok (.iload_n 3, 1) := by decide +kernel
theorem dX7_seen_41 : decode cX7_seen 41 = .ok (.iadd, 1) := by decide +kernel
theorem dX7_seen_42 : decode cX7_seen 42 = .ok (.invokevirtual 198, 3) := by decide +kernel
theorem dX7_seen_45 : decode cX7_seen 45 = .ok (.ireturn, 1) := by decide +kernel
set_option maxRecDepth 20000 in
theorem ggX7_leans_X7_isThing : GoodIn wsX7_leans wsX7_isThing := goodIn_r _ [9, 1, 2, 10, 11, 12, 8, 13, 36, 37, 38, 39, 40, 41, 42, 43, 44, 45, 46, 47, 48, 49, 50, 51, 52, 53, 54, 55, 56, 57, 58] (by decide +kernel) (by decide +kernel)
set_option maxRecDepth 20000 in
theorem gX7_leans_X7_isThing : GoodIn wsX7_leans (wsV RX7 86 RX7 yX7_isThing wsX7_isThing) := goodIn_app (goodIn_of _ (by decide +kernel)) ggX7_leans_X7_isThing
set_option maxRecDepth 20000 in
theorem ggX7_leans_X5_beginOf : GoodIn wsX7_leans wsX5_beginOf := goodIn_r _ [18, 19, 20, 42, 43, 44, 45, 46, 47, 48] (by decide +kernel) (by decide +kernel)
set_option maxRecDepth 20000 in
theorem gX7_leans_X5_beginOf : GoodIn wsX7_leans (wsV RX7 202 RX5 yX5_beginOf wsX5_beginOf) := goodIn_app (goodIn_of _ (by decide +kernel)) ggX7_leans_X5_beginOf
set_option maxRecDepth 20000 in
theorem ggX7_leans_X6_leftAt : GoodIn wsX7_leans wsX6_leftAt := goodIn_r _ [25, 26, 27, 28, 29, 30, 31, 32, 33, 34, 35, 49, 50, 51, 52, 53, 54, 55, 56, 57, 58] (by decide +kernel) (by decide +kernel)
set_option maxRecDepth 20000 in
theorem gX7_leans_X6_leftAt : GoodIn wsX7_leans (wsV RX7 141 RX6 yX6_leftAt wsX6_leftAt) := goodIn_app (goodIn_of _ (by decide +kernel)) ggX7_leans_X6_leftAt
theorem dX7_leans_0 : decode cX7_leans 0 = .ok (.aload_n 0, 1) := by decide +kernel
theorem dX7_leans_1 : decode cX7_leans 1 = .ok (.iload_n 1, 1) := by decide +kernel
theorem dX7_leans_2 : decode cX7_leans 2 = .ok (.invokevirtual 86, 3) := by decide +kernel
theorem dX7_leans_5 : decode cX7_leans 5 = .ok (.ifCond .ne 5, 3) := by decide +kernel
theorem dX7_leans_8 : decode cX7_leans 8 = .ok (.iconst (-1), 1) := by decide +kernel
theorem dX7_leans_9 : decode cX7_leans 9 = .ok (.ireturn, 1) := by decide +kernel
theorem dX7_leans_10 : decode cX7_leans 10 = .ok (.aload_n 0, 1) := by decide +kernel
theorem dX7_leans_11 : decode cX7_leans 11 = .ok (.getfield 10, 3) := by decide +kernel
theorem dX7_leans_14 : decode cX7_leans 14 = .ok (.getfield 72, 3) := by decide +kernel
theorem dX7_leans_17 : decode cX7_leans 17 = .ok (.astore_n 2, 1) := by decide +kernel
theorem dX7_leans_18 : decode cX7_leans 18 = .ok (.aload_n 2, 1) := by decide +kernel
theorem dX7_leans_19 : decode cX7_leans 19 = .ok (.getfield 138, 3) := by decide +kernel
theorem dX7_leans_22 : decode cX7_leans 22 = .ok (.iload_n 1, 1) := by decide +kernel
theorem dX7_leans_23 : decode cX7_leans 23 = .ok (.iaload, 1) := by decide +kernel
theorem dX7_leans_24 : decode cX7_leans 24 = .ok (.istore_n 3, 1) := by decide +kernel
theorem dX7_leans_25 : decode cX7_leans 25 = .ok (.iload_n 3, 1) := by decide +kernel
theorem dX7_leans_26 : decode cX7_leans 26 = .ok (.aload_n 2, 1) := by decide +kernel
theorem dX7_leans_27 : decode cX7_leans 27 = .ok (.getfield 144, 3) := by decide +kernel
theorem dX7_leans_30 : decode cX7_leans 30 = .ok (.iload_n 1, 1) := by decide +kernel
theorem dX7_leans_31 : decode cX7_leans 31 = .ok (.iaload, 1) := by decide +kernel
theorem dX7_leans_32 : decode cX7_leans 32 = .ok (.iadd, 1) := by decide +kernel
theorem dX7_leans_33 : decode cX7_leans 33 = .ok (.iconst 1, 1) := by decide +kernel
theorem dX7_leans_34 : decode cX7_leans 34 = .ok (.isub, 1) := by decide +kernel
theorem dX7_leans_35 : decode cX7_leans 35 = .ok (.istore 4, 2) := by decide +kernel
theorem dX7_leans_37 : decode cX7_leans 37 = .ok (.aload_n 2, 1) := by decide +kernel
theorem dX7_leans_38 : decode cX7_leans 38 = .ok (.iload_n 1, 1) := by decide +kernel
theorem dX7_leans_39 : decode cX7_leans 39 = .ok (.aload_n 0, 1) := by decide +kernel
theorem dX7_leans_40 : decode cX7_leans 40 = .ok (.getfield 10, 3) := by decide +kernel
theorem dX7_leans_43 : decode cX7_leans 43 = .ok (.iload_n 3, 1) := by decide +kernel
theorem dX7_leans_44 : decode cX7_leans 44 = .ok (.invokevirtual 202, 3) := by decide +kernel
theorem dX7_leans_47 : decode cX7_leans 47 = .ok (.invokevirtual 141, 3) := by decide +kernel
theorem dX7_leans_50 : decode cX7_leans 50 = .ok (.istore 5, 2) := by decide +kernel
theorem dX7_leans_52 : decode cX7_leans 52 = .ok (.aload_n 2, 1) := by decide +kernel
theorem dX7_leans_53 : decode cX7_leans 53 = .ok (.iload_n 1, 1) := by decide +kernel
theorem dX7_leans_54 : decode cX7_leans 54 = .ok (.aload_n 0, 1) := by decide +kernel
theorem dX7_leans_55 : decode cX7_leans 55 = .ok (.getfield 10, 3) := by decide +kernel
theorem dX7_leans_58 : decode cX7_leans 58 = .ok (.iload 4, 2) := by decide +kernel
theorem dX7_leans_60 : decode cX7_leans 60 = .ok (.invokevirtual 202, 3) := by decide +kernel
theorem dX7_leans_63 : decode cX7_leans 63 = .ok (.invokevirtual 141, 3) := by decide +kernel
theorem dX7_leans_66 : decode cX7_leans 66 = .ok (.iload 5, 2) := by decide +kernel
theorem dX7_leans_68 : decode cX7_leans 68 = .ok (.isub, 1) := by decide +kernel
theorem dX7_leans_69 : decode cX7_leans 69 = .ok (.sipush 1000, 3) := by decide +kernel
theorem dX7_leans_72 : decode cX7_leans 72 = .ok (.iadd, 1) := by decide +kernel
theorem dX7_leans_73 : decode cX7_leans 73 = .ok (.ireturn, 1) := by decide +kernel
set_option maxRecDepth 20000 in
theorem ggX7_bent_X0_pixelsBent : GoodIn wsX7_bent wsX0_pixelsBent := goodIn_r _ [7, 8, 9, 10, 11, 12, 13, 14, 15, 16, 17, 18, 19, 20, 21, 6, 22, 23, 24, 25, 26, 27, 28, 29, 30, 31, 32, 33, 34, 35, 36, 37, 38, 39, 40, 41, 42, 43, 44, 45, 46, 47, 48, 49, 50, 51, 52, 53, 54, 55, 56, 57, 58, 59, 60, 61, 62, 63, 64, 65, 66, 67, 68, 69, 70, 71, 72, 73, 74, 75, 76, 77, 78, 79, 86, 87, 88, 89, 90, 91, 92, 93, 94, 95, 96, 97, 98, 99, 100, 101, 102, 103, 104, 105] (by decide +kernel) (by decide +kernel)
set_option maxRecDepth 20000 in
theorem gX7_bent_X0_pixelsBent : GoodIn wsX7_bent (wsV RX7 205 RX0 yX0_pixelsBent wsX0_pixelsBent) := goodIn_app (goodIn_of _ (by decide +kernel)) ggX7_bent_X0_pixelsBent
theorem dX7_bent_0 : decode cX7_bent 0 = .ok (.aload_n 0, 1) := by decide +kernel
theorem dX7_bent_1 : decode cX7_bent 1 = .ok (.getfield 19, 3) := by decide +kernel
theorem dX7_bent_4 : decode cX7_bent 4 = .ok (.aload_n 0, 1) := by decide +kernel
theorem dX7_bent_5 : decode cX7_bent 5 = .ok (.getfield 10, 3) := by decide +kernel
theorem dX7_bent_8 : decode cX7_bent 8 = .ok (.invokevirtual 205, 3) := by decide +kernel
theorem dX7_bent_11 : decode cX7_bent 11 = .ok (.ireturn, 1) := by decide +kernel
set_option maxRecDepth 20000 in
theorem ggX7_flashed_X5_linesFlashed : GoodIn wsX7_flashed wsX5_linesFlashed := goodIn_r _ [8, 9, 10, 11, 12, 7, 13, 14, 21, 22, 23, 24, 25, 26, 27] (by decide +kernel) (by decide +kernel)
set_option maxRecDepth 20000 in
theorem gX7_flashed_X5_linesFlashed : GoodIn wsX7_flashed (wsV RX7 209 RX5 yX5_linesFlashed wsX5_linesFlashed) := goodIn_app (goodIn_of _ (by decide +kernel)) ggX7_flashed_X5_linesFlashed
theorem dX7_flashed_0 : decode cX7_flashed 0 = .ok (.aload_n 0, 1) := by decide +kernel
theorem dX7_flashed_1 : decode cX7_flashed 1 = .ok (.getfield 10, 3) := by decide +kernel
theorem dX7_flashed_4 : decode cX7_flashed 4 = .ok (.aload_n 0, 1) := by decide +kernel
theorem dX7_flashed_5 : decode cX7_flashed 5 = .ok (.getfield 10, 3) := by decide +kernel
theorem dX7_flashed_8 : decode cX7_flashed 8 = .ok (.getfield 115, 3) := by decide +kernel
theorem dX7_flashed_11 : decode cX7_flashed 11 = .ok (.aload_n 0, 1) := by decide +kernel
theorem dX7_flashed_12 : decode cX7_flashed 12 = .ok (.getfield 10, 3) := by decide +kernel
theorem dX7_flashed_15 : decode cX7_flashed 15 = .ok (.getfield 191, 3) := by decide +kernel
theorem dX7_flashed_18 : decode cX7_flashed 18 = .ok (.invokevirtual 209, 3) := by decide +kernel
theorem dX7_flashed_21 : decode cX7_flashed 21 = .ok (.ireturn, 1) := by decide +kernel
set_option maxRecDepth 20000 in
theorem ggX7_bestFlash_X7_within : GoodIn wsX7_bestFlash wsX7_within := goodIn_r _ [6] (by decide +kernel) (by decide +kernel)
set_option maxRecDepth 20000 in
theorem gX7_bestFlash_X7_within : GoodIn wsX7_bestFlash (va_wsS RX7 50 yX7_within wsX7_within) := goodIn_app (goodIn_of _ (by decide +kernel)) ggX7_bestFlash_X7_within
set_option maxRecDepth 20000 in
theorem ggX7_bestFlash_X5_linesFlashed : GoodIn wsX7_bestFlash wsX5_linesFlashed := goodIn_r _ [11, 12, 13, 14, 15, 10, 16, 17, 31, 32, 33, 34, 35, 36, 37] (by decide +kernel) (by decide +kernel)
set_option maxRecDepth 20000 in
theorem gX7_bestFlash_X5_linesFlashed : GoodIn wsX7_bestFlash (wsV RX7 209 RX5 yX5_linesFlashed wsX5_linesFlashed) := goodIn_app (goodIn_of _ (by decide +kernel)) ggX7_bestFlash_X5_linesFlashed
set_option maxRecDepth 20000 in
theorem ggX7_bestFlash_J6_bitCount_0f7a4 : GoodIn wsX7_bestFlash wsJ6_bitCount_0f7a4 := goodIn_r _ [21, 22, 23, 24] (by decide +kernel) (by decide +kernel)
set_option maxRecDepth 20000 in
theorem gX7_bestFlash_J6_bitCount_0f7a4 : GoodIn wsX7_bestFlash (va_wsS RX7 212 yJ6_bitCount_0f7a4 wsJ6_bitCount_0f7a4) := goodIn_app (goodIn_of _ (by decide +kernel)) ggX7_bestFlash_J6_bitCount_0f7a4
theorem dX7_bestFlash_0 : decode cX7_bestFlash 0 = .ok (.iload_n 1, 1) := by decide +kernel
theorem dX7_bestFlash_1 : decode cX7_bestFlash 1 = .ok (.iconst 1, 1) := by decide +kernel
theorem dX7_bestFlash_2 : decode cX7_bestFlash 2 = .ok (.bipush 20, 2) := by decide +kernel
theorem dX7_bestFlash_4 : decode cX7_bestFlash 4 = .ok (.invokestatic 50, 3) := by decide +kernel
theorem dX7_bestFlash_7 : decode cX7_bestFlash 7 = .ok (.ifCond .eq 12, 3) := by decide +kernel
theorem dX7_bestFlash_10 : decode cX7_bestFlash 10 = .ok (.iload_n 2, 1) := by decide +kernel
theorem dX7_bestFlash_11 : decode cX7_bestFlash 11 = .ok (.iconst 0, 1) := by decide +kernel
theorem dX7_bestFlash_12 : decode cX7_bestFlash 12 = .ok (.iconst 1, 1) := by decide +kernel
theorem dX7_bestFlash_13 : decode cX7_bestFlash 13 = .ok (.invokestatic 50, 3) := by decide +kernel
theorem dX7_bestFlash_16 : decode cX7_bestFlash 16 = .ok (.ifCond .ne 6, 3) := by decide +kernel
theorem dX7_bestFlash_19 : decode cX7_bestFlash 19 = .ok (.bipush (-2), 2) := by decide +kernel
theorem dX7_bestFlash_21 : decode cX7_bestFlash 21 = .ok (.ireturn, 1) := by decide +kernel
theorem dX7_bestFlash_22 : decode cX7_bestFlash 22 = .ok (.iconst 0, 1) := by decide +kernel
theorem dX7_bestFlash_23 : decode cX7_bestFlash 23 = .ok (.istore_n 3, 1) := by decide +kernel
theorem dX7_bestFlash_24 : decode cX7_bestFlash 24 = .ok (.iconst 0, 1) := by decide +kernel
theorem dX7_bestFlash_25 : decode cX7_bestFlash 25 = .ok (.istore 4, 2) := by decide +kernel
theorem dX7_bestFlash_27 : decode cX7_bestFlash 27 = .ok (.iconst 0, 1) := by decide +kernel
theorem dX7_bestFlash_28 : decode cX7_bestFlash 28 = .ok (.istore 5, 2) := by decide +kernel
theorem dX7_bestFlash_30 : decode cX7_bestFlash 30 = .ok (.iload 5, 2) := by decide +kernel
theorem dX7_bestFlash_32 : decode cX7_bestFlash 32 = .ok (.bipush 99, 2) := by decide +kernel
theorem dX7_bestFlash_34 : decode cX7_bestFlash 34 = .ok (.if_icmp .gt 46, 3) := by decide +kernel
theorem dX7_bestFlash_37 : decode cX7_bestFlash 37 = .ok (.aload_n 0, 1) := by decide +kernel
theorem dX7_bestFlash_38 : decode cX7_bestFlash 38 = .ok (.getfield 10, 3) := by decide +kernel
theorem dX7_bestFlash_41 : decode cX7_bestFlash 41 = .ok (.aload_n 0, 1) := by decide +kernel
theorem dX7_bestFlash_42 : decode cX7_bestFlash 42 = .ok (.getfield 10, 3) := by decide +kernel
theorem dX7_bestFlash_45 : decode cX7_bestFlash 45 = .ok (.getfield 76, 3) := by decide +kernel
theorem dX7_bestFlash_48 : decode cX7_bestFlash 48 = .ok (.iload 5, 2) := by decide +kernel
theorem dX7_bestFlash_50 : decode cX7_bestFlash 50 = .ok (.iadd, 1) := by decide +kernel
theorem dX7_bestFlash_51 : decode cX7_bestFlash 51 = .ok (.iload_n 1, 1) := by decide +kernel
theorem dX7_bestFlash_52 : decode cX7_bestFlash 52 = .ok (.invokevirtual 209, 3) := by decide +kernel
theorem dX7_bestFlash_55 : decode cX7_bestFlash 55 = .ok (.invokestatic 212, 3) := by decide +kernel
theorem dX7_bestFlash_58 : decode cX7_bestFlash 58 = .ok (.istore 6, 2) := by decide +kernel
theorem dX7_bestFlash_60 : decode cX7_bestFlash 60 = .ok (.iload 6, 2) := by decide +kernel
theorem dX7_bestFlash_62 : decode cX7_bestFlash 62 = .ok (.iload 4, 2) := by decide +kernel
theorem dX7_bestFlash_64 : decode cX7_bestFlash 64 = .ok (.if_icmp .le 10, 3) := by decide +kernel
theorem dX7_bestFlash_67 : decode cX7_bestFlash 67 = .ok (.iload 6, 2) := by decide +kernel
theorem dX7_bestFlash_69 : decode cX7_bestFlash 69 = .ok (.istore 4, 2) := by decide +kernel
theorem dX7_bestFlash_71 : decode cX7_bestFlash 71 = .ok (.iload 5, 2) := by decide +kernel
theorem dX7_bestFlash_73 : decode cX7_bestFlash 73 = .ok (.istore_n 3, 1) := by decide +kernel
theorem dX7_bestFlash_74 : decode cX7_bestFlash 74 = .ok (.iinc 5 1, 3) := by decide +kernel
theorem dX7_bestFlash_77 : decode cX7_bestFlash 77 = .ok (.goto (-47), 3) := by decide +kernel
theorem dX7_bestFlash_80 : decode cX7_bestFlash 80 = .ok (.iload_n 2, 1) := by decide +kernel
theorem dX7_bestFlash_81 : decode cX7_bestFlash 81 = .ok (.ifCond .ne 7, 3) := by decide +kernel
theorem dX7_bestFlash_84 : decode cX7_bestFlash 84 = .ok (.iload_n 3, 1) := by decide +kernel
theorem dX7_bestFlash_85 : decode cX7_bestFlash 85 = .ok (.goto 5, 3) := by decide +kernel
theorem dX7_bestFlash_88 : decode cX7_bestFlash 88 = .ok (.iload 4, 2) := by decide +kernel
theorem dX7_bestFlash_90 : decode cX7_bestFlash 90 = .ok (.ireturn, 1) := by decide +kernel
set_option maxRecDepth 20000 in
theorem ggX7_put_X2_charactersIn : GoodIn wsX7_put wsX2_charactersIn := goodIn_r _ [6, 7, 8, 9, 10] (by decide +kernel) (by decide +kernel)
set_option maxRecDepth 20000 in
theorem gX7_put_X2_charactersIn : GoodIn wsX7_put (va_wsS RX7 217 yX2_charactersIn wsX2_charactersIn) := goodIn_app (goodIn_of _ (by decide +kernel)) ggX7_put_X2_charactersIn
set_option maxRecDepth 20000 in
theorem ggX7_put_X2_append : GoodIn wsX7_put wsX2_append := goodIn_r _ [14, 15, 16, 7, 23, 24] (by decide +kernel) (by decide +kernel)
set_option maxRecDepth 20000 in
theorem gX7_put_X2_append : GoodIn wsX7_put (wsV RX7 221 RX2 yX2_append wsX2_append) := goodIn_app (goodIn_of _ (by decide +kernel)) ggX7_put_X2_append
theorem dX7_put_0 : decode cX7_put 0 = .ok (.lload_n 1, 1) := by decide +kernel
theorem dX7_put_1 : decode cX7_put 1 = .ok (.invokestatic 217, 3) := by decide +kernel
theorem dX7_put_4 : decode cX7_put 4 = .ok (.istore_n 3, 1) := by decide +kernel
theorem dX7_put_5 : decode cX7_put 5 = .ok (.iload_n 3, 1) := by decide +kernel
theorem dX7_put_6 : decode cX7_put 6 = .ok (.ifCond .ne 6, 3) := by decide +kernel
theorem dX7_put_9 : decode cX7_put 9 = .ok (.bipush (-2), 2) := by decide +kernel
theorem dX7_put_11 : decode cX7_put 11 = .ok (.ireturn, 1) := by decide +kernel
theorem dX7_put_12 : decode cX7_put 12 = .ok (.aload_n 0, 1) := by decide +kernel
theorem dX7_put_13 : decode cX7_put 13 = .ok (.getfield 37, 3) := by decide +kernel
theorem dX7_put_16 : decode cX7_put 16 = .ok (.getfield 194, 3) := by decide +kernel
theorem dX7_put_19 : decode cX7_put 19 = .ok (.iload_n 3, 1) := by decide +kernel
theorem dX7_put_20 : decode cX7_put 20 = .ok (.iadd, 1) := by decide +kernel
theorem dX7_put_21 : decode cX7_put 21 = .ok (.bipush 80, 2) := by decide +kernel
theorem dX7_put_23 : decode cX7_put 23 = .ok (.if_icmp .le 6, 3) := by decide +kernel
theorem dX7_put_26 : decode cX7_put 26 = .ok (.bipush (-4), 2) := by decide +kernel
theorem dX7_put_28 : decode cX7_put 28 = .ok (.ireturn, 1) := by decide +kernel
theorem dX7_put_29 : decode cX7_put 29 = .ok (.aload_n 0, 1) := by decide +kernel
theorem dX7_put_30 : decode cX7_put 30 = .ok (.getfield 37, 3) := by decide +kernel
theorem dX7_put_33 : decode cX7_put 33 = .ok (.lload_n 1, 1) := by decide +kernel
theorem dX7_put_34 : decode cX7_put 34 = .ok (.iload_n 3, 1) := by decide +kernel
theorem dX7_put_35 : decode cX7_put 35 = .ok (.invokevirtual 221, 3) := by decide +kernel
theorem dX7_put_38 : decode cX7_put 38 = .ok (.aload_n 0, 1) := by decide +kernel
theorem dX7_put_39 : decode cX7_put 39 = .ok (.getfield 37, 3) := by decide +kernel
theorem dX7_put_42 : decode cX7_put 42 = .ok (.getfield 194, 3) := by decide +kernel
theorem dX7_put_45 : decode cX7_put 45 = .ok (.ireturn, 1) := by decide +kernel
theorem dX7_wipe_0 : decode cX7_wipe 0 = .ok (.aload_n 0, 1) := by decide +kernel
theorem dX7_wipe_1 : decode cX7_wipe 1 = .ok (.getfield 37, 3) := by decide +kernel
theorem dX7_wipe_4 : decode cX7_wipe 4 = .ok (.getfield 194, 3) := by decide +kernel
theorem dX7_wipe_7 : decode cX7_wipe 7 = .ok (.istore_n 1, 1) := by decide +kernel
theorem dX7_wipe_8 : decode cX7_wipe 8 = .ok (.aload_n 0, 1) := by decide +kernel
theorem dX7_wipe_9 : decode cX7_wipe 9 = .ok (.getfield 37, 3) := by decide +kernel
theorem dX7_wipe_12 : decode cX7_wipe 12 = .ok (.iconst 0, 1) := by decide +kernel
theorem dX7_wipe_13 : decode cX7_wipe 13 = .ok (.putfield 194, 3) := by decide +kernel
theorem dX7_wipe_16 : decode cX7_wipe 16 = .ok (.iload_n 1, 1) := by decide +kernel
theorem dX7_wipe_17 : decode cX7_wipe 17 = .ok (.ireturn, 1) := by decide +kernel
set_option maxRecDepth 20000 in
theorem ggX7_fault_X4_findFault : GoodIn wsX7_fault wsX4_findFault := goodIn_r _ [6, 7, 8, 9, 10, 11, 12, 5, 13, 14, 15, 16, 17, 18, 19, 20, 21, 22, 23, 24, 25, 26, 27, 28, 29, 30, 31, 32, 33, 34, 35, 36, 37, 38, 39, 40, 41, 48, 49, 50, 51, 52, 53] (by decide +kernel) (by decide +kernel)
set_option maxRecDepth 20000 in
theorem gX7_fault_X4_findFault : GoodIn wsX7_fault (wsV RX7 225 RX4 yX4_findFault wsX4_findFault) := goodIn_app (goodIn_of _ (by decide +kernel)) ggX7_fault_X4_findFault
theorem dX7_fault_0 : decode cX7_fault 0 = .ok (.aload_n 0, 1) := by decide +kernel
theorem dX7_fault_1 : decode cX7_fault 1 = .ok (.getfield 46, 3) := by decide +kernel
theorem dX7_fault_4 : decode cX7_fault 4 = .ok (.invokevirtual 225, 3) := by decide +kernel
theorem dX7_fault_7 : decode cX7_fault 7 = .ok (.ireturn, 1) := by decide +kernel
set_option maxRecDepth 20000 in
theorem ggX7_carryOut_X4_findFault : GoodIn wsX7_carryOut wsX4_findFault := goodIn_r _ [11, 12, 13, 14, 15, 16, 17, 10, 18, 19, 20, 21, 22, 23, 24, 25, 26, 27, 28, 29, 30, 31, 32, 33, 34, 35, 36, 37, 38, 39, 40, 41, 42, 43, 44, 45, 46, 262, 263, 264, 265, 266, 267] (by decide +kernel) (by decide +kernel)
set_option maxRecDepth 20000 in
theorem gX7_carryOut_X4_findFault : GoodIn wsX7_carryOut (wsV RX7 225 RX4 yX4_findFault wsX4_findFault) := goodIn_app (goodIn_of _ (by decide +kernel)) ggX7_carryOut_X4_findFault
set_option maxRecDepth 20000 in
theorem ggX7_carryOut_X1_record : GoodIn wsX7_carryOut wsX1_record := goodIn_r _ [51, 52, 53, 54, 55, 56, 57, 58, 59, 60, 61, 62, 63, 64, 65, 66, 67, 68, 69, 70, 71, 72, 73, 74, 75, 76, 77, 78, 79, 80, 81, 82, 83, 84, 85, 86, 87, 88, 89, 90, 91, 92, 93, 94, 95, 96, 97, 98, 99, 100, 101, 102, 103, 104, 105, 106, 107, 108, 109, 110, 111, 112, 113, 114, 115, 116, 117, 118, 119, 120, 121, 268, 269, 270, 271, 272, 273, 274, 275, 276, 277, 278, 279, 280, 281, 282, 283, 284, 285, 286, 287, 288] (by decide +kernel) (by decide +kernel)
set_option maxRecDepth 20000 in
theorem gX7_carryOut_X1_record : GoodIn wsX7_carryOut (wsV RX7 61 RX1 yX1_record wsX1_record) := goodIn_app (goodIn_of _ (by decide +kernel)) ggX7_carryOut_X1_record
set_option maxRecDepth 20000 in
theorem ggX7_carryOut_X4_readOrder : GoodIn wsX7_carryOut wsX4_readOrder := goodIn_r _ [18, 13, 12, 19, 20, 21, 22, 23, 24, 25, 26, 27, 28, 29, 10, 30, 31, 32, 33, 34, 35, 36, 37, 38, 39, 40, 41, 42, 43, 44, 45, 46, 262, 263, 264, 265, 266, 267] (by decide +kernel) (by decide +kernel)
set_option maxRecDepth 20000 in
theorem gX7_carryOut_X4_readOrder : GoodIn wsX7_carryOut (wsV RX7 231 RX4 yX4_readOrder wsX4_readOrder) := goodIn_app (goodIn_of _ (by decide +kernel)) ggX7_carryOut_X4_readOrder
set_option maxRecDepth 20000 in
theorem ggX7_carryOut_X7_carryOutOrder : GoodIn wsX7_carryOut wsX7_carryOutOrder := goodIn_r _ [127, 1, 128, 129, 3, 130, 131, 132, 126, 133, 134, 135, 136, 137, 138, 139, 140, 141, 142, 143, 144, 145, 146, 147, 148, 149, 150, 151, 152, 153, 154, 155, 156, 76, 157, 115, 90, 91, 92, 93, 94, 95, 96, 97, 98, 158, 159, 160, 161, 162, 163, 164, 165, 166, 167, 168, 169, 170, 171, 172, 173, 174, 175, 176, 177, 178, 179, 180, 56, 181, 82, 84, 85, 182, 183, 184, 185, 186, 187, 188, 189, 190, 191, 192, 193, 194, 195, 196, 197, 73, 198, 199, 200, 201, 202, 203, 204, 205, 206, 207, 208, 209, 210, 211, 212, 213, 214, 215, 216, 217, 218, 219, 220, 221, 222, 223, 224, 225, 226, 227, 228, 229, 230, 231, 232, 233, 234, 235, 236, 237, 238, 239, 240, 241, 242, 59, 60, 61, 243, 244, 245, 246, 247, 248, 249, 250, 251, 252, 80, 253, 102, 121, 108, 109, 110, 254, 256, 257, 258, 259, 260, 261, 262, 263, 264, 265, 271, 272, 273, 274, 275, 276, 277, 278, 279, 280, 281, 282, 283, 284, 285, 286, 287, 289, 290, 291, 288] (by decide +kernel) (by decide +kernel)
set_option maxRecDepth 20000 in
theorem gX7_carryOut_X7_carryOutOrder : GoodIn wsX7_carryOut (wsV RX7 235 RX7 yX7_carryOutOrder wsX7_carryOutOrder) := goodIn_app (goodIn_of _ (by decide +kernel)) ggX7_carryOut_X7_carryOutOrder
set_option maxRecDepth 20000 in
theorem ggX7_carryOut_X4_take : GoodIn wsX7_carryOut wsX4_take := goodIn_r _ [30, 13, 12, 20, 21, 22, 23, 24, 25, 26, 262, 263, 264, 265, 266, 267] (by decide +kernel) (by decide +kernel)
set_option maxRecDepth 20000 in
theorem gX7_carryOut_X4_take : GoodIn wsX7_carryOut (wsV RX7 238 RX4 yX4_take wsX4_take) := goodIn_app (goodIn_of _ (by decide +kernel)) ggX7_carryOut_X4_take
theorem dX7_carryOut_0 : decode cX7_carryOut 0 = .ok (.aload_n 0, 1) := by decide +kernel
theorem dX7_carryOut_1 : decode cX7_carryOut 1 = .ok (.getfield 46, 3) := by decide +kernel
theorem dX7_carryOut_4 : decode cX7_carryOut 4 = .ok (.invokevirtual 225, 3) := by decide +kernel
theorem dX7_carryOut_7 : decode cX7_carryOut 7 = .ok (.bipush (-6), 2) := by decide +kernel
theorem dX7_carryOut_9 : decode cX7_carryOut 9 = .ok (.if_icmp .eq 6, 3) := by decide +kernel
theorem dX7_carryOut_12 : decode cX7_carryOut 12 = .ok (.bipush (-3), 2) := by decide +kernel
theorem dX7_carryOut_14 : decode cX7_carryOut 14 = .ok (.ireturn, 1) := by decide +kernel
theorem dX7_carryOut_15 : decode cX7_carryOut 15 = .ok (.aload_n 0, 1) := by decide +kernel
theorem dX7_carryOut_16 : decode cX7_carryOut 16 = .ok (.getfield 26, 3) := by decide +kernel
theorem dX7_carryOut_19 : decode cX7_carryOut 19 = .ok (.aload_n 0, 1) := by decide +kernel
theorem dX7_carryOut_20 : decode cX7_carryOut 20 = .ok (.getfield 10, 3) := by decide +kernel
theorem dX7_carryOut_23 : decode cX7_carryOut 23 = .ok (.invokevirtual 61, 3) := by decide +kernel
theorem dX7_carryOut_26 : decode cX7_carryOut 26 = .ok (.iconst 0, 1) := by decide +kernel
theorem dX7_carryOut_27 : decode cX7_carryOut 27 = .ok (.istore_n 1, 1) := by decide +kernel
theorem dX7_carryOut_28 : decode cX7_carryOut 28 = .ok (.aload_n 0, 1) := by decide +kernel
theorem dX7_carryOut_29 : decode cX7_carryOut 29 = .ok (.getfield 46, 3) := by decide +kernel
theorem dX7_carryOut_32 : decode cX7_carryOut 32 = .ok (.iconst 0, 1) := by decide +kernel
theorem dX7_carryOut_33 : decode cX7_carryOut 33 = .ok (.putfield 228, 3) := by decide +kernel
theorem dX7_carryOut_36 : decode cX7_carryOut 36 = .ok (.iconst 1, 1) := by decide +kernel
theorem dX7_carryOut_37 : decode cX7_carryOut 37 = .ok (.istore_n 2, 1) := by decide +kernel
theorem dX7_carryOut_38 : decode cX7_carryOut 38 = .ok (.iconst 0, 1) := by decide +kernel
theorem dX7_carryOut_39 : decode cX7_carryOut 39 = .ok (.istore_n 3, 1) := by decide +kernel
theorem dX7_carryOut_40 : decode cX7_carryOut 40 = .ok (.iload_n 2, 1) := by decide +kernel
theorem dX7_carryOut_41 : decode cX7_carryOut 41 = .ok (.ifCond .eq 55, 3) := by decide +kernel
theorem dX7_carryOut_44 : decode cX7_carryOut 44 = .ok (.iload_n 3, 1) := by decide +kernel
theorem dX7_carryOut_45 : decode cX7_carryOut 45 = .ok (.bipush 80, 2) := by decide +kernel
theorem dX7_carryOut_47 : decode cX7_carryOut 47 = .ok (.if_icmp .ge 49, 3) := by decide +kernel
theorem dX7_carryOut_50 : decode cX7_carryOut 50 = .ok (.aload_n 0, 1) := by decide +kernel
theorem dX7_carryOut_51 : decode cX7_carryOut 51 = .ok (.getfield 46, 3) := by decide +kernel
theorem dX7_carryOut_54 : decode cX7_carryOut 54 = .ok (.invokevirtual 231, 3) := by decide +kernel
theorem dX7_carryOut_57 : decode cX7_carryOut 57 = .ok (.ifCond .eq 14, 3) := by decide +kernel
theorem dX7_carryOut_60 : decode cX7_carryOut 60 = .ok (.aload_n 0, 1) := by decide +kernel
theorem dX7_carryOut_61 : decode cX7_carryOut 61 = .ok (.invokevirtual 235, 3) := by decide +kernel
theorem dX7_carryOut_64 : decode cX7_carryOut 64 = .ok (.ifCond .ne 7, 3) := by decide +kernel
theorem dX7_carryOut_67 : decode cX7_carryOut 67 = .ok (.iconst 1, 1) := by decide +kernel
theorem dX7_carryOut_68 : decode cX7_carryOut 68 = .ok (.goto 4, 3) := by decide +kernel
theorem dX7_carryOut_71 : decode cX7_carryOut 71 = .ok (.iconst 0, 1) := by decide +kernel
theorem dX7_carryOut_72 : decode cX7_carryOut 72 = .ok (.istore_n 2, 1) := by decide +kernel
theorem dX7_carryOut_73 : decode cX7_carryOut 73 = .ok (.iload_n 2, 1) := by decide +kernel
theorem dX7_carryOut_74 : decode cX7_carryOut 74 = .ok (.ifCond .eq 16, 3) := by decide +kernel
theorem dX7_carryOut_77 : decode cX7_carryOut 77 = .ok (.iinc 1 1, 3) := by decide +kernel
theorem dX7_carryOut_80 : decode cX7_carryOut 80 = .ok (.aload_n 0, 1) := by decide +kernel
theorem dX7_carryOut_81 : decode cX7_carryOut 81 = .ok (.getfield 46, 3) := by decide +kernel
theorem dX7_carryOut_84 : decode cX7_carryOut 84 = .ok (.bipush 59, 2) := by decide +kernel
theorem dX7_carryOut_86 : decode cX7_carryOut 86 = .ok (.invokevirtual 238, 3) := by decide +kernel
theorem dX7_carryOut_89 : decode cX7_carryOut 89 = .ok (.istore_n 2, 1) := by decide +kernel
theorem dX7_carryOut_90 : decode cX7_carryOut 90 = .ok (.iinc 3 1, 3) := by decide +kernel
theorem dX7_carryOut_93 : decode cX7_carryOut 93 = .ok (.goto (-53), 3) := by decide +kernel
theorem dX7_carryOut_96 : decode cX7_carryOut 96 = .ok (.aload_n 0, 1) := by decide +kernel
theorem dX7_carryOut_97 : decode cX7_carryOut 97 = .ok (.getfield 37, 3) := by decide +kernel
theorem dX7_carryOut_100 : decode cX7_carryOut 100 = .ok (.iconst 0, 1) := by decide +kernel
theorem dX7_carryOut_101 : decode cX7_carryOut 101 = .ok (.putfield 194, 3) := by decide +kernel
theorem dX7_carryOut_104 : decode cX7_carryOut 104 = .ok (.iload_n 1, 1) := by decide +kernel
theorem dX7_carryOut_105 : decode cX7_carryOut 105 = .ok (.ireturn, 1) := by decide +kernel
set_option maxRecDepth 20000 in
theorem ggX7_undo_X1_takeBack : GoodIn wsX7_undo wsX1_takeBack := goodIn_r _ [8, 9, 10, 11, 12, 13, 14, 15, 16, 17, 18, 19, 20, 21, 22, 23, 24, 25, 26, 27, 28, 29, 30, 31, 32, 33, 34, 35, 36, 37, 38, 39, 40, 41, 42, 43, 44, 45, 46, 47, 48, 49, 50, 57, 58, 59, 60, 61, 62, 63, 64, 65, 66, 67, 68, 69, 70, 71, 72, 73, 74, 75, 76, 77] (by decide +kernel) (by decide +kernel)
set_option maxRecDepth 20000 in
theorem gX7_undo_X1_takeBack : GoodIn wsX7_undo (wsV RX7 242 RX1 yX1_takeBack wsX1_takeBack) := goodIn_app (goodIn_of _ (by decide +kernel)) ggX7_undo_X1_takeBack
theorem dX7_undo_0 : decode cX7_undo 0 = .ok (.aload_n 0, 1) := by decide +kernel
theorem dX7_undo_1 : decode cX7_undo 1 = .ok (.getfield 26, 3) := by decide +kernel
theorem dX7_undo_4 : decode cX7_undo 4 = .ok (.aload_n 0, 1) := by decide +kernel
theorem dX7_undo_5 : decode cX7_undo 5 = .ok (.getfield 10, 3) := by decide +kernel
theorem dX7_undo_8 : decode cX7_undo 8 = .ok (.invokevirtual 242, 3) := by decide +kernel
theorem dX7_undo_11 : decode cX7_undo 11 = .ok (.ifCond .ne 6, 3) := by decide +kernel
theorem dX7_undo_14 : decode cX7_undo 14 = .ok (.bipush (-5), 2) := by decide +kernel
theorem dX7_undo_16 : decode cX7_undo 16 = .ok (.ireturn, 1) := by decide +kernel
theorem dX7_undo_17 : decode cX7_undo 17 = .ok (.aload_n 0, 1) := by decide +kernel
theorem dX7_undo_18 : decode cX7_undo 18 = .ok (.getfield 26, 3) := by decide +kernel
theorem dX7_undo_21 : decode cX7_undo 21 = .ok (.getfield 197, 3) := by decide +kernel
theorem dX7_undo_24 : decode cX7_undo 24 = .ok (.ireturn, 1) := by decide +kernel
set_option maxRecDepth 20000 in
theorem ggX7_save_X7_within : GoodIn wsX7_save wsX7_within := goodIn_r _ [11] (by decide +kernel) (by decide +kernel)
set_option maxRecDepth 20000 in
theorem gX7_save_X7_within : GoodIn wsX7_save (va_wsS RX7 50 yX7_within wsX7_within) := goodIn_app (goodIn_of _ (by decide +kernel)) ggX7_save_X7_within
set_option maxRecDepth 20000 in
theorem ggX7_save_X5_init : GoodIn wsX7_save wsX5_init := goodIn_r _ [13, 14, 15, 16, 17, 18, 19, 20, 21, 22, 23, 24, 25, 26, 27, 28, 29, 30, 31, 32, 33, 34, 35, 36, 37, 38, 39, 40, 41, 42, 43, 44, 45, 46, 47, 48, 49, 50, 51, 52, 78, 79, 80, 81, 82, 83, 84, 85, 86, 87, 88, 89, 90, 91, 92, 93, 94, 95] (by decide +kernel) (by decide +kernel)
set_option maxRecDepth 20000 in
theorem gX7_save_X5_init_n9 : GoodIn wsX7_save (wsX5_init) := ggX7_save_X5_init
set_option maxRecDepth 20000 in
theorem ggX7_save_X5_copyFrom : GoodIn wsX7_save wsX5_copyFrom := goodIn_r _ [56, 23, 57, 58, 59, 60, 27, 31, 32, 33, 34, 35, 61, 62, 63, 26, 64, 65, 40, 66, 41, 42, 43, 44, 45, 46, 47, 48, 67, 68, 69, 30, 70, 52, 71, 78, 79, 80, 81, 82, 83, 84, 85, 86, 87, 88, 89, 90, 91, 92, 93, 94, 95] (by decide +kernel) (by decide +kernel)
set_option maxRecDepth 20000 in
theorem gX7_save_X5_copyFrom : GoodIn wsX7_save (wsV RX7 246 RX5 yX5_copyFrom wsX5_copyFrom) := goodIn_app (goodIn_of _ (by decide +kernel)) ggX7_save_X5_copyFrom
theorem dX7_save_0 : decode cX7_save 0 = .ok (.iload_n 1, 1) := by decide +kernel
theorem dX7_save_1 : decode cX7_save 1 = .ok (.iconst 0, 1) := by decide +kernel
theorem dX7_save_2 : decode cX7_save 2 = .ok (.iconst 1, 1) := by decide +kernel
theorem dX7_save_3 : decode cX7_save 3 = .ok (.invokestatic 50, 3) := by decide +kernel
theorem dX7_save_6 : decode cX7_save 6 = .ok (.ifCond .ne 6, 3) := by decide +kernel
theorem dX7_save_9 : decode cX7_save 9 = .ok (.bipush (-2), 2) := by decide +kernel
theorem dX7_save_11 : decode cX7_save 11 = .ok (.ireturn, 1) := by decide +kernel
theorem dX7_save_12 : decode cX7_save 12 = .ok (.aload_n 0, 1) := by decide +kernel
theorem dX7_save_13 : decode cX7_save 13 = .ok (.getfield 30, 3) := by decide +kernel
theorem dX7_save_16 : decode cX7_save 16 = .ok (.iload_n 1, 1) := by decide +kernel
end
section
theorem dX7_save_17 : decode cX7_save 17 = .ok (.aaload, 1) := by decide +kernel
theorem dX7_save_18 : decode cX7_save 18 = .ok (.astore_n 2, 1) := by decide +kernel
theorem dX7_save_19 : decode cX7_save 19 = .ok (.aload_n 2, 1) := by decide +kernel
theorem dX7_save_20 : decode cX7_save 20 = .ok (.ifnonnull 18, 3) := by decide +kernel
theorem dX7_save_23 : decode cX7_save 23 = .ok (.new 7, 3) := by decide +kernel
theorem dX7_save_26 : decode cX7_save 26 = .ok (.dup, 1) := by decide +kernel
theorem dX7_save_27 : decode cX7_save 27 = .ok (.invokespecial 9, 3) := by decide +kernel
theorem dX7_save_30 : decode cX7_save 30 = .ok (.astore_n 2, 1) := by decide +kernel
theorem dX7_save_31 : decode cX7_save 31 = .ok (.aload_n 0, 1) := by decide +kernel
theorem dX7_save_32 : decode cX7_save 32 = .ok (.getfield 30, 3) := by decide +kernel
theorem dX7_save_35 : decode cX7_save 35 = .ok (.iload_n 1, 1) := by decide +kernel
theorem dX7_save_36 : decode cX7_save 36 = .ok (.aload_n 2, 1) := by decide +kernel
theorem dX7_save_37 : decode cX7_save 37 = .ok (.aastore, 1) := by decide +kernel
theorem dX7_save_38 : decode cX7_save 38 = .ok (.aload_n 2, 1) := by decide +kernel
theorem dX7_save_39 : decode cX7_save 39 = .ok (.aload_n 0, 1) := by decide +kernel
theorem dX7_save_40 : decode cX7_save 40 = .ok (.getfield 10, 3) := by decide +kernel
theorem dX7_save_43 : decode cX7_save 43 = .ok (.invokevirtual 246, 3) := by decide +kernel
theorem dX7_save_46 : decode cX7_save 46 = .ok (.aload_n 0, 1) := by decide +kernel
theorem dX7_save_47 : decode cX7_save 47 = .ok (.getfield 10, 3) := by decide +kernel
theorem dX7_save_50 : decode cX7_save 50 = .ok (.getfield 72, 3) := by decide +kernel
theorem dX7_save_53 : decode cX7_save 53 = .ok (.getfield 176, 3) := by decide +kernel
theorem dX7_save_56 : decode cX7_save 56 = .ok (.ireturn, 1) := by decide +kernel
set_option maxRecDepth 20000 in
theorem ggX7_restore_X7_within : GoodIn wsX7_restore wsX7_within := goodIn_r _ [9] (by decide +kernel) (by decide +kernel)
set_option maxRecDepth 20000 in
theorem gX7_restore_X7_within : GoodIn wsX7_restore (va_wsS RX7 50 yX7_within wsX7_within) := goodIn_app (goodIn_of _ (by decide +kernel)) ggX7_restore_X7_within
set_option maxRecDepth 20000 in
theorem ggX7_restore_X1_record : GoodIn wsX7_restore wsX1_record := goodIn_r _ [14, 15, 16, 17, 18, 19, 20, 21, 22, 23, 24, 25, 26, 27, 28, 29, 30, 31, 32, 33, 34, 35, 36, 37, 38, 39, 40, 41, 42, 43, 44, 45, 46, 47, 48, 49, 50, 51, 52, 53, 54, 55, 56, 57, 58, 59, 60, 61, 62, 63, 64, 65, 66, 67, 68, 69, 70, 71, 72, 73, 74, 75, 76, 77, 78, 79, 80, 81, 82, 83, 84, 109, 110, 111, 92, 93, 94, 95, 96, 97, 98, 99, 100, 101, 102, 103, 104, 105, 106, 107, 108, 112] (by decide +kernel) (by decide +kernel)
set_option maxRecDepth 20000 in
theorem gX7_restore_X1_record : GoodIn wsX7_restore (wsV RX7 61 RX1 yX1_record wsX1_record) := goodIn_app (goodIn_of _ (by decide +kernel)) ggX7_restore_X1_record
set_option maxRecDepth 20000 in
theorem ggX7_restore_X5_copyFrom : GoodIn wsX7_restore wsX5_copyFrom := goodIn_r _ [69, 36, 70, 71, 72, 73, 40, 44, 45, 46, 47, 48, 74, 75, 76, 39, 77, 78, 53, 79, 54, 55, 56, 57, 58, 59, 60, 61, 80, 81, 82, 43, 83, 65, 84, 92, 93, 94, 95, 96, 97, 98, 99, 100, 101, 102, 103, 104, 105, 106, 107, 108, 112] (by decide +kernel) (by decide +kernel)
set_option maxRecDepth 20000 in
theorem gX7_restore_X5_copyFrom : GoodIn wsX7_restore (wsV RX7 246 RX5 yX5_copyFrom wsX5_copyFrom) := goodIn_app (goodIn_of _ (by decide +kernel)) ggX7_restore_X5_copyFrom
theorem dX7_restore_0 : decode cX7_restore 0 = .ok (.iload_n 1, 1) := by decide +kernel
theorem dX7_restore_1 : decode cX7_restore 1 = .ok (.iconst 0, 1) := by decide +kernel
theorem dX7_restore_2 : decode cX7_restore 2 = .ok (.iconst 1, 1) := by decide +kernel
theorem dX7_restore_3 : decode cX7_restore 3 = .ok (.invokestatic 50, 3) := by decide +kernel
theorem dX7_restore_6 : decode cX7_restore 6 = .ok (.ifCond .ne 6, 3) := by decide +kernel
theorem dX7_restore_9 : decode cX7_restore 9 = .ok (.bipush (-2), 2) := by decide +kernel
theorem dX7_restore_11 : decode cX7_restore 11 = .ok (.ireturn, 1) := by decide +kernel
theorem dX7_restore_12 : decode cX7_restore 12 = .ok (.aload_n 0, 1) := by decide +kernel
theorem dX7_restore_13 : decode cX7_restore 13 = .ok (.getfield 30, 3) := by decide +kernel
theorem dX7_restore_16 : decode cX7_restore 16 = .ok (.iload_n 1, 1) := by decide +kernel
theorem dX7_restore_17 : decode cX7_restore 17 = .ok (.aaload, 1) := by decide +kernel
theorem dX7_restore_18 : decode cX7_restore 18 = .ok (.astore_n 2, 1) := by decide +kernel
theorem dX7_restore_19 : decode cX7_restore 19 = .ok (.aload_n 2, 1) := by decide +kernel
theorem dX7_restore_20 : decode cX7_restore 20 = .ok (.ifnonnull 6, 3) := by decide +kernel
theorem dX7_restore_23 : decode cX7_restore 23 = .ok (.bipush (-5), 2) := by decide +kernel
theorem dX7_restore_25 : decode cX7_restore 25 = .ok (.ireturn, 1) := by decide +kernel
theorem dX7_restore_26 : decode cX7_restore 26 = .ok (.aload_n 0, 1) := by decide +kernel
theorem dX7_restore_27 : decode cX7_restore 27 = .ok (.getfield 26, 3) := by decide +kernel
theorem dX7_restore_30 : decode cX7_restore 30 = .ok (.aload_n 0, 1) := by decide +kernel
theorem dX7_restore_31 : decode cX7_restore 31 = .ok (.getfield 10, 3) := by decide +kernel
theorem dX7_restore_34 : decode cX7_restore 34 = .ok (.invokevirtual 61, 3) := by decide +kernel
theorem dX7_restore_37 : decode cX7_restore 37 = .ok (.aload_n 0, 1) := by decide +kernel
theorem dX7_restore_38 : decode cX7_restore 38 = .ok (.getfield 10, 3) := by decide +kernel
theorem dX7_restore_41 : decode cX7_restore 41 = .ok (.aload_n 2, 1) := by decide +kernel
theorem dX7_restore_42 : decode cX7_restore 42 = .ok (.invokevirtual 246, 3) := by decide +kernel
theorem dX7_restore_45 : decode cX7_restore 45 = .ok (.aload_n 0, 1) := by decide +kernel
theorem dX7_restore_46 : decode cX7_restore 46 = .ok (.getfield 10, 3) := by decide +kernel
theorem dX7_restore_49 : decode cX7_restore 49 = .ok (.getfield 72, 3) := by decide +kernel
theorem dX7_restore_52 : decode cX7_restore 52 = .ok (.getfield 176, 3) := by decide +kernel
theorem dX7_restore_55 : decode cX7_restore 55 = .ok (.ireturn, 1) := by decide +kernel
theorem dX7_within_0 : decode cX7_within 0 = .ok (.iload_n 0, 1) := by decide +kernel
theorem dX7_within_1 : decode cX7_within 1 = .ok (.iload_n 1, 1) := by decide +kernel
theorem dX7_within_2 : decode cX7_within 2 = .ok (.if_icmp .lt 12, 3) := by decide +kernel
theorem dX7_within_5 : decode cX7_within 5 = .ok (.iload_n 0, 1) := by decide +kernel
theorem dX7_within_6 : decode cX7_within 6 = .ok (.iload_n 2, 1) := by decide +kernel
theorem dX7_within_7 : decode cX7_within 7 = .ok (.if_icmp .gt 7, 3) := by decide +kernel
theorem dX7_within_10 : decode cX7_within 10 = .ok (.iconst 1, 1) := by decide +kernel
theorem dX7_within_11 : decode cX7_within 11 = .ok (.goto 4, 3) := by decide +kernel
theorem dX7_within_14 : decode cX7_within 14 = .ok (.iconst 0, 1) := by decide +kernel
theorem dX7_within_15 : decode cX7_within 15 = .ok (.ireturn, 1) := by decide +kernel
set_option maxRecDepth 20000 in
theorem ggX7_isPlace_X7_within : GoodIn wsX7_isPlace wsX7_within := goodIn_r _ [4] (by decide +kernel) (by decide +kernel)
set_option maxRecDepth 20000 in
theorem gX7_isPlace_X7_within : GoodIn wsX7_isPlace (va_wsS RX7 50 yX7_within wsX7_within) := goodIn_app (goodIn_of _ (by decide +kernel)) ggX7_isPlace_X7_within
theorem dX7_isPlace_0 : decode cX7_isPlace 0 = .ok (.iload_n 0, 1) := by decide +kernel
theorem dX7_isPlace_1 : decode cX7_isPlace 1 = .ok (.iconst 0, 1) := by decide +kernel
theorem dX7_isPlace_2 : decode cX7_isPlace 2 = .ok (.bipush 15, 2) := by decide +kernel
theorem dX7_isPlace_4 : decode cX7_isPlace 4 = .ok (.invokestatic 50, 3) := by decide +kernel
theorem dX7_isPlace_7 : decode cX7_isPlace 7 = .ok (.ifCond .eq 17, 3) := by decide +kernel
theorem dX7_isPlace_10 : decode cX7_isPlace 10 = .ok (.iload_n 1, 1) := by decide +kernel
theorem dX7_isPlace_11 : decode cX7_isPlace 11 = .ok (.iconst 0, 1) := by decide +kernel
theorem dX7_isPlace_12 : decode cX7_isPlace 12 = .ok (.bipush 23, 2) := by decide +kernel
theorem dX7_isPlace_14 : decode cX7_isPlace 14 = .ok (.invokestatic 50, 3) := by decide +kernel
theorem dX7_isPlace_17 : decode cX7_isPlace 17 = .ok (.ifCond .eq 7, 3) := by decide +kernel
theorem dX7_isPlace_20 : decode cX7_isPlace 20 = .ok (.iconst 1, 1) := by decide +kernel
theorem dX7_isPlace_21 : decode cX7_isPlace 21 = .ok (.goto 4, 3) := by decide +kernel
theorem dX7_isPlace_24 : decode cX7_isPlace 24 = .ok (.iconst 0, 1) := by decide +kernel
theorem dX7_isPlace_25 : decode cX7_isPlace 25 = .ok (.ireturn, 1) := by decide +kernel
set_option maxRecDepth 20000 in
theorem ggX7_isSpeed_X7_within : GoodIn wsX7_isSpeed wsX7_within := goodIn_r _ [4] (by decide +kernel) (by decide +kernel)
set_option maxRecDepth 20000 in
theorem gX7_isSpeed_X7_within : GoodIn wsX7_isSpeed (va_wsS RX7 50 yX7_within wsX7_within) := goodIn_app (goodIn_of _ (by decide +kernel)) ggX7_isSpeed_X7_within
theorem dX7_isSpeed_0 : decode cX7_isSpeed 0 = .ok (.iload_n 0, 1) := by decide +kernel
theorem dX7_isSpeed_1 : decode cX7_isSpeed 1 = .ok (.bipush (-40), 2) := by decide +kernel
theorem dX7_isSpeed_3 : decode cX7_isSpeed 3 = .ok (.bipush 40, 2) := by decide +kernel
theorem dX7_isSpeed_5 : decode cX7_isSpeed 5 = .ok (.invokestatic 50, 3) := by decide +kernel
theorem dX7_isSpeed_8 : decode cX7_isSpeed 8 = .ok (.ireturn, 1) := by decide +kernel
set_option maxRecDepth 20000 in
theorem ggX7_canRide_X7_within : GoodIn wsX7_canRide wsX7_within := goodIn_r _ [4] (by decide +kernel) (by decide +kernel)
set_option maxRecDepth 20000 in
theorem gX7_canRide_X7_within : GoodIn wsX7_canRide (va_wsS RX7 50 yX7_within wsX7_within) := goodIn_app (goodIn_of _ (by decide +kernel)) ggX7_canRide_X7_within
theorem dX7_canRide_0 : decode cX7_canRide 0 = .ok (.iload_n 1, 1) := by decide +kernel
theorem dX7_canRide_1 : decode cX7_canRide 1 = .ok (.bipush (-6), 2) := by decide +kernel
theorem dX7_canRide_3 : decode cX7_canRide 3 = .ok (.if_icmp .eq 14, 3) := by decide +kernel
theorem dX7_canRide_6 : decode cX7_canRide 6 = .ok (.iload_n 1, 1) := by decide +kernel
theorem dX7_canRide_7 : decode cX7_canRide 7 = .ok (.iconst 0, 1) := by decide +kernel
theorem dX7_canRide_8 : decode cX7_canRide 8 = .ok (.iload_n 0, 1) := by decide +kernel
theorem dX7_canRide_9 : decode cX7_canRide 9 = .ok (.iconst 1, 1) := by decide +kernel
theorem dX7_canRide_10 : decode cX7_canRide 10 = .ok (.isub, 1) := by decide +kernel
theorem dX7_canRide_11 : decode cX7_canRide 11 = .ok (.invokestatic 50, 3) := by decide +kernel
theorem dX7_canRide_14 : decode cX7_canRide 14 = .ok (.ifCond .eq 7, 3) := by decide +kernel
theorem dX7_canRide_17 : decode cX7_canRide 17 = .ok (.iconst 1, 1) := by decide +kernel
theorem dX7_canRide_18 : decode cX7_canRide 18 = .ok (.goto 4, 3) := by decide +kernel
theorem dX7_canRide_21 : decode cX7_canRide 21 = .ok (.iconst 0, 1) := by decide +kernel
theorem dX7_canRide_22 : decode cX7_canRide 22 = .ok (.ireturn, 1) := by decide +kernel
set_option maxRecDepth 20000 in
theorem ggX7_isThing_X7_within : GoodIn wsX7_isThing wsX7_within := goodIn_r _ [7] (by decide +kernel) (by decide +kernel)
set_option maxRecDepth 20000 in
theorem gX7_isThing_X7_within : GoodIn wsX7_isThing (va_wsS RX7 50 yX7_within wsX7_within) := goodIn_app (goodIn_of _ (by decide +kernel)) ggX7_isThing_X7_within
theorem dX7_isThing_0 : decode cX7_isThing 0 = .ok (.iload_n 1, 1) := by decide +kernel
theorem dX7_isThing_1 : decode cX7_isThing 1 = .ok (.iconst 0, 1) := by decide +kernel
theorem dX7_isThing_2 : decode cX7_isThing 2 = .ok (.aload_n 0, 1) := by decide +kernel
theorem dX7_isThing_3 : decode cX7_isThing 3 = .ok (.getfield 10, 3) := by decide +kernel
theorem dX7_isThing_6 : decode cX7_isThing 6 = .ok (.getfield 72, 3) := by decide +kernel
theorem dX7_isThing_9 : decode cX7_isThing 9 = .ok (.getfield 176, 3) := by decide +kernel
theorem dX7_isThing_12 : decode cX7_isThing 12 = .ok (.iconst 1, 1) := by decide +kernel
theorem dX7_isThing_13 : decode cX7_isThing 13 = .ok (.isub, 1) := by decide +kernel
theorem dX7_isThing_14 : decode cX7_isThing 14 = .ok (.invokestatic 50, 3) := by decide +kernel
theorem dX7_isThing_17 : decode cX7_isThing 17 = .ok (.ireturn, 1) := by decide +kernel
set_option maxRecDepth 20000 in
theorem ggX7_errorOfThing_X7_isPlace : GoodIn wsX7_errorOfThing wsX7_isPlace := goodIn_r _ [7, 8, 9, 6, 10] (by decide +kernel) (by decide +kernel)
set_option maxRecDepth 20000 in
theorem gX7_errorOfThing_X7_isPlace : GoodIn wsX7_errorOfThing (va_wsS RX7 156 yX7_isPlace wsX7_isPlace) := goodIn_app (goodIn_of _ (by decide +kernel)) ggX7_errorOfThing_X7_isPlace
set_option maxRecDepth 20000 in
theorem ggX7_errorOfThing_X7_within : GoodIn wsX7_errorOfThing wsX7_within := goodIn_r _ [10] (by decide +kernel) (by decide +kernel)
set_option maxRecDepth 20000 in
theorem gX7_errorOfThing_X7_within : GoodIn wsX7_errorOfThing (va_wsS RX7 50 yX7_within wsX7_within) := goodIn_app (goodIn_of _ (by decide +kernel)) ggX7_errorOfThing_X7_within
theorem dX7_errorOfThing_0 : decode cX7_errorOfThing 0 = .ok (.iload_n 1, 1) := by decide +kernel
theorem dX7_errorOfThing_1 : decode cX7_errorOfThing 1 = .ok (.iload_n 2, 1) := by decide +kernel
theorem dX7_errorOfThing_2 : decode cX7_errorOfThing 2 = .ok (.invokestatic 156, 3) := by decide +kernel
theorem dX7_errorOfThing_5 : decode cX7_errorOfThing 5 = .ok (.ifCond .eq 35, 3) := by decide +kernel
theorem dX7_errorOfThing_8 : decode cX7_errorOfThing 8 = .ok (.iload_n 3, 1) := by decide +kernel
theorem dX7_errorOfThing_9 : decode cX7_errorOfThing 9 = .ok (.iconst 1, 1) := by decide +kernel
theorem dX7_errorOfThing_10 : decode cX7_errorOfThing 10 = .ok (.bipush 16, 2) := by decide +kernel
theorem dX7_errorOfThing_12 : decode cX7_errorOfThing 12 = .ok (.invokestatic 50, 3) := by decide +kernel
theorem dX7_errorOfThing_15 : decode cX7_errorOfThing 15 = .ok (.ifCond .eq 25, 3) := by decide +kernel
theorem dX7_errorOfThing_18 : decode cX7_errorOfThing 18 = .ok (.iload 4, 2) := by decide +kernel
theorem dX7_errorOfThing_20 : decode cX7_errorOfThing 20 = .ok (.iconst 1, 1) := by decide +kernel
theorem dX7_errorOfThing_21 : decode cX7_errorOfThing 21 = .ok (.bipush 24, 2) := by decide +kernel
theorem dX7_errorOfThing_23 : decode cX7_errorOfThing 23 = .ok (.invokestatic 50, 3) := by decide +kernel
theorem dX7_errorOfThing_26 : decode cX7_errorOfThing 26 = .ok (.ifCond .eq 14, 3) := by decide +kernel
theorem dX7_errorOfThing_29 : decode cX7_errorOfThing 29 = .ok (.iload 5, 2) := by decide +kernel
theorem dX7_errorOfThing_31 : decode cX7_errorOfThing 31 = .ok (.iconst 1, 1) := by decide +kernel
theorem dX7_errorOfThing_32 : decode cX7_errorOfThing 32 = .ok (.bipush 9, 2) := by decide +kernel
theorem dX7_errorOfThing_34 : decode cX7_errorOfThing 34 = .ok (.invokestatic 50, 3) := by decide +kernel
theorem dX7_errorOfThing_37 : decode cX7_errorOfThing 37 = .ok (.ifCond .ne 6, 3) := by decide +kernel
theorem dX7_errorOfThing_40 : decode cX7_errorOfThing 40 = .ok (.bipush (-2), 2) := by decide +kernel
theorem dX7_errorOfThing_42 : decode cX7_errorOfThing 42 = .ok (.ireturn, 1) := by decide +kernel
theorem dX7_errorOfThing_43 : decode cX7_errorOfThing 43 = .ok (.aload_n 0, 1) := by decide +kernel
theorem dX7_errorOfThing_44 : decode cX7_errorOfThing 44 = .ok (.getfield 10, 3) := by decide +kernel
theorem dX7_errorOfThing_47 : decode cX7_errorOfThing 47 = .ok (.getfield 72, 3) := by decide +kernel
theorem dX7_errorOfThing_50 : decode cX7_errorOfThing 50 = .ok (.getfield 176, 3) := by decide +kernel
theorem dX7_errorOfThing_53 : decode cX7_errorOfThing 53 = .ok (.bipush 8, 2) := by decide +kernel
theorem dX7_errorOfThing_55 : decode cX7_errorOfThing 55 = .ok (.if_icmp .ge 7, 3) := by decide +kernel
theorem dX7_errorOfThing_58 : decode cX7_errorOfThing 58 = .ok (.iconst 0, 1) := by decide +kernel
theorem dX7_errorOfThing_59 : decode cX7_errorOfThing 59 = .ok (.goto 5, 3) := by decide +kernel
theorem dX7_errorOfThing_62 : decode cX7_errorOfThing 62 = .ok (.bipush (-4), 2) := by decide +kernel
theorem dX7_errorOfThing_64 : decode cX7_errorOfThing 64 = .ok (.ireturn, 1) := by decide +kernel
set_option maxRecDepth 20000 in
theorem ggX7_errorOfFlash_X7_within : GoodIn wsX7_errorOfFlash wsX7_within := goodIn_r _ [4] (by decide +kernel) (by decide +kernel)
set_option maxRecDepth 20000 in
theorem gX7_errorOfFlash_X7_within : GoodIn wsX7_errorOfFlash (va_wsS RX7 50 yX7_within wsX7_within) := goodIn_app (goodIn_of _ (by decide +kernel)) ggX7_errorOfFlash_X7_within
theorem dX7_errorOfFlash_0 : decode cX7_errorOfFlash 0 = .ok (.iload_n 1, 1) := by decide +kernel
theorem dX7_errorOfFlash_1 : decode cX7_errorOfFlash 1 = .ok (.iconst 0, 1) := by decide +kernel
theorem dX7_errorOfFlash_2 : decode cX7_errorOfFlash 2 = .ok (.bipush 99, 2) := by decide +kernel
theorem dX7_errorOfFlash_4 : decode cX7_errorOfFlash 4 = .ok (.invokestatic 50, 3) := by decide +kernel
theorem dX7_errorOfFlash_7 : decode cX7_errorOfFlash 7 = .ok (.ifCond .eq 17, 3) := by decide +kernel
theorem dX7_errorOfFlash_10 : decode cX7_errorOfFlash 10 = .ok (.iload_n 2, 1) := by decide +kernel
theorem dX7_errorOfFlash_11 : decode cX7_errorOfFlash 11 = .ok (.iconst 1, 1) := by decide +kernel
theorem dX7_errorOfFlash_12 : decode cX7_errorOfFlash 12 = .ok (.bipush 20, 2) := by decide +kernel
theorem dX7_errorOfFlash_14 : decode cX7_errorOfFlash 14 = .ok (.invokestatic 50, 3) := by decide +kernel
theorem dX7_errorOfFlash_17 : decode cX7_errorOfFlash 17 = .ok (.ifCond .eq 7, 3) := by decide +kernel
theorem dX7_errorOfFlash_20 : decode cX7_errorOfFlash 20 = .ok (.iconst 0, 1) := by decide +kernel
theorem dX7_errorOfFlash_21 : decode cX7_errorOfFlash 21 = .ok (.goto 5, 3) := by decide +kernel
theorem dX7_errorOfFlash_24 : decode cX7_errorOfFlash 24 = .ok (.bipush (-2), 2) := by decide +kernel
theorem dX7_errorOfFlash_26 : decode cX7_errorOfFlash 26 = .ok (.ireturn, 1) := by decide +kernel
set_option maxRecDepth 20000 in
theorem ggX7_errorOfPass_X7_within : GoodIn wsX7_errorOfPass wsX7_within := goodIn_r _ [6] (by decide +kernel) (by decide +kernel)
set_option maxRecDepth 20000 in
theorem gX7_errorOfPass_X7_within : GoodIn wsX7_errorOfPass (va_wsS RX7 50 yX7_within wsX7_within) := goodIn_app (goodIn_of _ (by decide +kernel)) ggX7_errorOfPass_X7_within
theorem dX7_errorOfPass_0 : decode cX7_errorOfPass 0 = .ok (.iload_n 1, 1) := by decide +kernel
theorem dX7_errorOfPass_1 : decode cX7_errorOfPass 1 = .ok (.iconst 1, 1) := by decide +kernel
theorem dX7_errorOfPass_2 : decode cX7_errorOfPass 2 = .ok (.bipush 99, 2) := by decide +kernel
theorem dX7_errorOfPass_4 : decode cX7_errorOfPass 4 = .ok (.invokestatic 50, 3) := by decide +kernel
theorem dX7_errorOfPass_7 : decode cX7_errorOfPass 7 = .ok (.ifCond .ne 6, 3) := by decide +kernel
theorem dX7_errorOfPass_10 : decode cX7_errorOfPass 10 = .ok (.bipush (-2), 2) := by decide +kernel
theorem dX7_errorOfPass_12 : decode cX7_errorOfPass 12 = .ok (.ireturn, 1) := by decide +kernel
theorem dX7_errorOfPass_13 : decode cX7_errorOfPass 13 = .ok (.aload_n 0, 1) := by decide +kernel
theorem dX7_errorOfPass_14 : decode cX7_errorOfPass 14 = .ok (.getfield 10, 3) := by decide +kernel
theorem dX7_errorOfPass_17 : decode cX7_errorOfPass 17 = .ok (.getfield 76, 3) := by decide +kernel
theorem dX7_errorOfPass_20 : decode cX7_errorOfPass 20 = .ok (.iload_n 1, 1) := by decide +kernel
theorem dX7_errorOfPass_21 : decode cX7_errorOfPass 21 = .ok (.iadd, 1) := by decide +kernel
theorem dX7_errorOfPass_22 : decode cX7_errorOfPass 22 = .ok (.sipush 9999, 3) := by decide +kernel
theorem dX7_errorOfPass_25 : decode cX7_errorOfPass 25 = .ok (.if_icmp .gt 7, 3) := by decide +kernel
theorem dX7_errorOfPass_28 : decode cX7_errorOfPass 28 = .ok (.iconst 0, 1) := by decide +kernel
theorem dX7_errorOfPass_29 : decode cX7_errorOfPass 29 = .ok (.goto 5, 3) := by decide +kernel
theorem dX7_errorOfPass_32 : decode cX7_errorOfPass 32 = .ok (.bipush (-5), 2) := by decide +kernel
theorem dX7_errorOfPass_34 : decode cX7_errorOfPass 34 = .ok (.ireturn, 1) := by decide +kernel
set_option maxRecDepth 20000 in
theorem ggX7_errorOfShoot_X5_endOfPicture : GoodIn wsX7_errorOfShoot wsX5_endOfPicture := goodIn_r _ [6, 7, 8, 9, 10, 5, 11, 12, 19, 20, 21, 22, 23, 24, 25] (by decide +kernel) (by decide +kernel)
set_option maxRecDepth 20000 in
theorem gX7_errorOfShoot_X5_endOfPicture : GoodIn wsX7_errorOfShoot (wsV RX7 249 RX5 yX5_endOfPicture wsX5_endOfPicture) := goodIn_app (goodIn_of _ (by decide +kernel)) ggX7_errorOfShoot_X5_endOfPicture
theorem dX7_errorOfShoot_0 : decode cX7_errorOfShoot 0 = .ok (.aload_n 0, 1) := by decide +kernel
theorem dX7_errorOfShoot_1 : decode cX7_errorOfShoot 1 = .ok (.getfield 10, 3) := by decide +kernel
theorem dX7_errorOfShoot_4 : decode cX7_errorOfShoot 4 = .ok (.invokevirtual 249, 3) := by decide +kernel
theorem dX7_errorOfShoot_7 : decode cX7_errorOfShoot 7 = .ok (.sipush 9999, 3) := by decide +kernel
theorem dX7_errorOfShoot_10 : decode cX7_errorOfShoot 10 = .ok (.if_icmp .gt 7, 3) := by decide +kernel
theorem dX7_errorOfShoot_13 : decode cX7_errorOfShoot 13 = .ok (.iconst 0, 1) := by decide +kernel
theorem dX7_errorOfShoot_14 : decode cX7_errorOfShoot 14 = .ok (.goto 5, 3) := by decide +kernel
theorem dX7_errorOfShoot_17 : decode cX7_errorOfShoot 17 = .ok (.bipush (-5), 2) := by decide +kernel
theorem dX7_errorOfShoot_19 : decode cX7_errorOfShoot 19 = .ok (.ireturn, 1) := by decide +kernel
set_option maxRecDepth 20000 in
theorem ggX7_carryOutOrder_X7_carryOutThing : GoodIn wsX7_carryOutOrder wsX7_carryOutThing := goodIn_r _ [9, 1, 10, 4, 11, 12, 13, 14, 15, 16, 8, 17, 18, 19, 20, 21, 22, 23, 24, 25, 26, 27, 28, 29, 30, 31, 32, 33, 34, 35, 36, 37, 38, 39, 40, 41, 42, 43, 44, 45, 46, 47, 48, 49, 50, 51, 52, 53, 54, 55, 56, 156, 157, 158, 159, 160, 161, 162, 163, 164, 165, 166, 167, 168, 169, 170, 171, 172, 173, 174, 175, 176, 177, 178, 179, 180, 181, 182] (by decide +kernel) (by decide +kernel)
set_option maxRecDepth 20000 in
theorem gX7_carryOutOrder_X7_carryOutThing : GoodIn wsX7_carryOutOrder (wsV RX7 256 RX7 yX7_carryOutThing wsX7_carryOutThing) := goodIn_app (goodIn_of _ (by decide +kernel)) ggX7_carryOutOrder_X7_carryOutThing
set_option maxRecDepth 20000 in
theorem ggX7_carryOutOrder_X7_carryOutFlash : GoodIn wsX7_carryOutOrder wsX7_carryOutFlash := goodIn_r _ [60, 1, 10, 4, 61, 62, 63, 8, 64, 21, 22, 23, 65, 66, 67, 68, 69, 70, 71, 72, 156, 157, 158, 159, 160, 161, 162, 163, 164, 165, 166, 167, 168, 169, 170, 171, 172] (by decide +kernel) (by decide +kernel)
set_option maxRecDepth 20000 in
theorem gX7_carryOutOrder_X7_carryOutFlash : GoodIn wsX7_carryOutOrder (wsV RX7 259 RX7 yX7_carryOutFlash wsX7_carryOutFlash) := goodIn_app (goodIn_of _ (by decide +kernel)) ggX7_carryOutOrder_X7_carryOutFlash
set_option maxRecDepth 20000 in
theorem ggX7_carryOutOrder_X7_carryOutPass : GoodIn wsX7_carryOutOrder wsX7_carryOutPass := goodIn_r _ [76, 1, 10, 4, 13, 77, 78, 79, 8, 80, 21, 22, 23, 156, 157, 158, 159, 160, 161, 162, 163, 164, 165, 166, 167, 168, 169, 170, 171, 172] (by decide +kernel) (by decide +kernel)
set_option maxRecDepth 20000 in
theorem gX7_carryOutOrder_X7_carryOutPass : GoodIn wsX7_carryOutOrder (wsV RX7 262 RX7 yX7_carryOutPass wsX7_carryOutPass) := goodIn_app (goodIn_of _ (by decide +kernel)) ggX7_carryOutOrder_X7_carryOutPass
set_option maxRecDepth 20000 in
theorem ggX7_carryOutOrder_X7_errorOfShoot : GoodIn wsX7_carryOutOrder wsX7_errorOfShoot := goodIn_r _ [84, 4, 85, 86, 87, 68, 88, 89, 90, 91, 92, 93, 70, 156, 157, 158, 159, 160, 161, 166, 167, 168, 169, 170, 171, 172] (by decide +kernel) (by decide +kernel)
set_option maxRecDepth 20000 in
theorem gX7_carryOutOrder_X7_errorOfShoot : GoodIn wsX7_carryOutOrder (wsV RX7 122 RX7 yX7_errorOfShoot wsX7_errorOfShoot) := goodIn_app (goodIn_of _ (by decide +kernel)) ggX7_carryOutOrder_X7_errorOfShoot
set_option maxRecDepth 20000 in
theorem ggX7_carryOutOrder_X0_takePicture : GoodIn wsX7_carryOutOrder wsX0_takePicture := goodIn_r _ [98, 99, 100, 101, 102, 103, 104, 91, 92, 68, 93, 70, 89, 105, 106, 107, 97, 108, 109, 110, 111, 112, 113, 114, 115, 116, 117, 71, 72, 22, 8, 23, 118, 119, 120, 121, 122, 123, 124, 125, 126, 127, 128, 33, 129, 36, 37, 130, 50, 51, 52, 35, 42, 40, 41, 44, 43, 53, 54, 55, 56, 131, 132, 133, 134, 135, 136, 137, 138, 139, 140, 141, 142, 143, 144, 145, 146, 147, 148, 149, 150, 151, 152, 153, 154, 155, 86, 87, 88, 90, 166, 167, 168, 169, 170, 171, 172, 183, 184, 185, 173, 174, 175, 176, 177, 178, 179, 180, 181, 182, 186] (by decide +kernel) (by decide +kernel)
set_option maxRecDepth 20000 in
theorem gX7_carryOutOrder_X0_takePicture : GoodIn wsX7_carryOutOrder (wsV RX7 126 RX0 yX0_takePicture wsX0_takePicture) := goodIn_app (goodIn_of _ (by decide +kernel)) ggX7_carryOutOrder_X0_takePicture
theorem dX7_carryOutOrder_0 : decode cX7_carryOutOrder 0 = .ok (.aload_n 0, 1) := by decide +kernel
theorem dX7_carryOutOrder_1 : decode cX7_carryOutOrder 1 = .ok (.getfield 46, 3) := by decide +kernel
theorem dX7_carryOutOrder_4 : decode cX7_carryOutOrder 4 = .ok (.getfield 252, 3) := by decide +kernel
theorem dX7_carryOutOrder_7 : decode cX7_carryOutOrder 7 = .ok (.bipush 103, 2) := by decide +kernel
theorem dX7_carryOutOrder_9 : decode cX7_carryOutOrder 9 = .ok (.if_icmp .ne 8, 3) := by decide +kernel
theorem dX7_carryOutOrder_12 : decode cX7_carryOutOrder 12 = .ok (.aload_n 0, 1) := by decide +kernel
theorem dX7_carryOutOrder_13 : decode cX7_carryOutOrder 13 = .ok (.invokevirtual 256, 3) := by decide +kernel
theorem dX7_carryOutOrder_16 : decode cX7_carryOutOrder 16 = .ok (.ireturn, 1) := by decide +kernel
theorem dX7_carryOutOrder_17 : decode cX7_carryOutOrder 17 = .ok (.aload_n 0, 1) := by decide +kernel
theorem dX7_carryOutOrder_18 : decode cX7_carryOutOrder 18 = .ok (.getfield 46, 3) := by decide +kernel
theorem dX7_carryOutOrder_21 : decode cX7_carryOutOrder 21 = .ok (.getfield 252, 3) := by decide +kernel
theorem dX7_carryOutOrder_24 : decode cX7_carryOutOrder 24 = .ok (.bipush 102, 2) := by decide +kernel
theorem dX7_carryOutOrder_26 : decode cX7_carryOutOrder 26 = .ok (.if_icmp .ne 8, 3) := by decide +kernel
theorem dX7_carryOutOrder_29 : decode cX7_carryOutOrder 29 = .ok (.aload_n 0, 1) := by decide +kernel
theorem dX7_carryOutOrder_30 : decode cX7_carryOutOrder 30 = .ok (.invokevirtual 259, 3) := by decide +kernel
theorem dX7_carryOutOrder_33 : decode cX7_carryOutOrder 33 = .ok (.ireturn, 1) := by decide +kernel
theorem dX7_carryOutOrder_34 : decode cX7_carryOutOrder 34 = .ok (.aload_n 0, 1) := by decide +kernel
theorem dX7_carryOutOrder_35 : decode cX7_carryOutOrder 35 = .ok (.getfield 46, 3) := by decide +kernel
theorem dX7_carryOutOrder_38 : decode cX7_carryOutOrder 38 = .ok (.getfield 252, 3) := by decide +kernel
theorem dX7_carryOutOrder_41 : decode cX7_carryOutOrder 41 = .ok (.bipush 119, 2) := by decide +kernel
theorem dX7_carryOutOrder_43 : decode cX7_carryOutOrder 43 = .ok (.if_icmp .ne 8, 3) := by decide +kernel
theorem dX7_carryOutOrder_46 : decode cX7_carryOutOrder 46 = .ok (.aload_n 0, 1) := by decide +kernel
theorem dX7_carryOutOrder_47 : decode cX7_carryOutOrder 47 = .ok (.invokevirtual 262, 3) := by decide +kernel
theorem dX7_carryOutOrder_50 : decode cX7_carryOutOrder 50 = .ok (.ireturn, 1) := by decide +kernel
theorem dX7_carryOutOrder_51 : decode cX7_carryOutOrder 51 = .ok (.aload_n 0, 1) := by decide +kernel
theorem dX7_carryOutOrder_52 : decode cX7_carryOutOrder 52 = .ok (.invokevirtual 122, 3) := by decide +kernel
theorem dX7_carryOutOrder_55 : decode cX7_carryOutOrder 55 = .ok (.istore_n 1, 1) := by decide +kernel
theorem dX7_carryOutOrder_56 : decode cX7_carryOutOrder 56 = .ok (.iload_n 1, 1) := by decide +kernel
theorem dX7_carryOutOrder_57 : decode cX7_carryOutOrder 57 = .ok (.ifCond .ne 14, 3) := by decide +kernel
theorem dX7_carryOutOrder_60 : decode cX7_carryOutOrder 60 = .ok (.aload_n 0, 1) := by decide +kernel
theorem dX7_carryOutOrder_61 : decode cX7_carryOutOrder 61 = .ok (.getfield 19, 3) := by decide +kernel
theorem dX7_carryOutOrder_64 : decode cX7_carryOutOrder 64 = .ok (.aload_n 0, 1) := by decide +kernel
theorem dX7_carryOutOrder_65 : decode cX7_carryOutOrder 65 = .ok (.getfield 10, 3) := by decide +kernel
theorem dX7_carryOutOrder_68 : decode cX7_carryOutOrder 68 = .ok (.invokevirtual 126, 3) := by decide +kernel
theorem dX7_carryOutOrder_71 : decode cX7_carryOutOrder 71 = .ok (.iload_n 1, 1) := by decide +kernel
theorem dX7_carryOutOrder_72 : decode cX7_carryOutOrder 72 = .ok (.ireturn, 1) := by decide +kernel
set_option maxRecDepth 20000 in
theorem ggX7_carryOutThing_X7_errorOfThing : GoodIn wsX7_carryOutThing wsX7_errorOfThing := goodIn_r _ [11, 3, 4, 5, 12, 13, 10, 14, 15, 16, 17, 51, 52, 53, 54, 55, 56, 61, 62, 63, 64, 65, 66, 67, 68, 69, 70, 71, 72, 73, 74, 75, 76, 77] (by decide +kernel) (by decide +kernel)
set_option maxRecDepth 20000 in
theorem gX7_carryOutThing_X7_errorOfThing : GoodIn wsX7_carryOutThing (wsV RX7 68 RX7 yX7_errorOfThing wsX7_errorOfThing) := goodIn_app (goodIn_of _ (by decide +kernel)) ggX7_carryOutThing_X7_errorOfThing
set_option maxRecDepth 20000 in
theorem ggX7_carryOutThing_X7_isSpeed : GoodIn wsX7_carryOutThing wsX7_isSpeed := goodIn_r _ [20, 15, 16, 10, 17] (by decide +kernel) (by decide +kernel)
set_option maxRecDepth 20000 in
theorem gX7_carryOutThing_X7_isSpeed : GoodIn wsX7_carryOutThing (va_wsS RX7 90 yX7_isSpeed wsX7_isSpeed) := goodIn_app (goodIn_of _ (by decide +kernel)) ggX7_carryOutThing_X7_isSpeed
set_option maxRecDepth 20000 in
theorem ggX7_carryOutThing_X7_canRide : GoodIn wsX7_carryOutThing wsX7_canRide := goodIn_r _ [23, 15, 16, 10, 17] (by decide +kernel) (by decide +kernel)
set_option maxRecDepth 20000 in
theorem gX7_carryOutThing_X7_canRide : GoodIn wsX7_carryOutThing (va_wsS RX7 103 yX7_canRide wsX7_canRide) := goodIn_app (goodIn_of _ (by decide +kernel)) ggX7_carryOutThing_X7_canRide
set_option maxRecDepth 20000 in
theorem ggX7_carryOutThing_X6_add : GoodIn wsX7_carryOutThing wsX6_add := goodIn_r _ [28, 29, 30, 31, 32, 33, 34, 35, 36, 37, 38, 68, 69, 70, 71, 72, 73, 74, 75, 76, 77] (by decide +kernel) (by decide +kernel)
set_option maxRecDepth 20000 in
theorem gX7_carryOutThing_X6_add : GoodIn wsX7_carryOutThing (wsV RX7 80 RX6 yX6_add wsX6_add) := goodIn_app (goodIn_of _ (by decide +kernel)) ggX7_carryOutThing_X6_add
set_option maxRecDepth 20000 in
theorem ggX7_carryOutThing_X6_comeAnew : GoodIn wsX7_carryOutThing wsX6_comeAnew := goodIn_r _ [42, 36, 35, 34, 37, 38, 43, 44, 45, 27, 46, 29, 47, 48, 49, 50, 68, 69, 70, 71, 72, 73, 74, 75, 76, 77] (by decide +kernel) (by decide +kernel)
set_option maxRecDepth 20000 in
theorem gX7_carryOutThing_X6_comeAnew : GoodIn wsX7_carryOutThing (wsV RX7 99 RX6 yX6_comeAnew wsX6_comeAnew) := goodIn_app (goodIn_of _ (by decide +kernel)) ggX7_carryOutThing_X6_comeAnew
theorem dX7_carryOutThing_0 : decode cX7_carryOutThing 0 = .ok (.aload_n 0, 1) := by decide +kernel
theorem dX7_carryOutThing_1 : decode cX7_carryOutThing 1 = .ok (.getfield 46, 3) := by decide +kernel
theorem dX7_carryOutThing_4 : decode cX7_carryOutThing 4 = .ok (.getfield 265, 3) := by decide +kernel
theorem dX7_carryOutThing_7 : decode cX7_carryOutThing 7 = .ok (.astore_n 1, 1) := by decide +kernel
theorem dX7_carryOutThing_8 : decode cX7_carryOutThing 8 = .ok (.aload_n 0, 1) := by decide +kernel
theorem dX7_carryOutThing_9 : decode cX7_carryOutThing 9 = .ok (.getfield 10, 3) := by decide +kernel
theorem dX7_carryOutThing_12 : decode cX7_carryOutThing 12 = .ok (.getfield 72, 3) := by decide +kernel
theorem dX7_carryOutThing_15 : decode cX7_carryOutThing 15 = .ok (.astore_n 2, 1) := by decide +kernel
theorem dX7_carryOutThing_16 : decode cX7_carryOutThing 16 = .ok (.aload_n 1, 1) := by decide +kernel
theorem dX7_carryOutThing_17 : decode cX7_carryOutThing 17 = .ok (.iconst 5, 1) := by decide +kernel
theorem dX7_carryOutThing_18 : decode cX7_carryOutThing 18 = .ok (.iaload, 1) := by decide +kernel
theorem dX7_carryOutThing_19 : decode cX7_carryOutThing 19 = .ok (.istore_n 3, 1) := by decide +kernel
theorem dX7_carryOutThing_20 : decode cX7_carryOutThing 20 = .ok (.aload_n 1, 1) := by decide +kernel
theorem dX7_carryOutThing_21 : decode cX7_carryOutThing 21 = .ok (.bipush 6, 2) := by decide +kernel
theorem dX7_carryOutThing_23 : decode cX7_carryOutThing 23 = .ok (.iaload, 1) := by decide +kernel
theorem dX7_carryOutThing_24 : decode cX7_carryOutThing 24 = .ok (.istore 4, 2) := by decide +kernel
theorem dX7_carryOutThing_26 : decode cX7_carryOutThing 26 = .ok (.aload_n 0, 1) := by decide +kernel
theorem dX7_carryOutThing_27 : decode cX7_carryOutThing 27 = .ok (.aload_n 1, 1) := by decide +kernel
theorem dX7_carryOutThing_28 : decode cX7_carryOutThing 28 = .ok (.iconst 0, 1) := by decide +kernel
theorem dX7_carryOutThing_29 : decode cX7_carryOutThing 29 = .ok (.iaload, 1) := by decide +kernel
theorem dX7_carryOutThing_30 : decode cX7_carryOutThing 30 = .ok (.aload_n 1, 1) := by decide +kernel
theorem dX7_carryOutThing_31 : decode cX7_carryOutThing 31 = .ok (.iconst 1, 1) := by decide +kernel
theorem dX7_carryOutThing_32 : decode cX7_carryOutThing 32 = .ok (.iaload, 1) := by decide +kernel
theorem dX7_carryOutThing_33 : decode cX7_carryOutThing 33 = .ok (.aload_n 1, 1) := by decide +kernel
theorem dX7_carryOutThing_34 : decode cX7_carryOutThing 34 = .ok (.iconst 2, 1) := by decide +kernel
theorem dX7_carryOutThing_35 : decode cX7_carryOutThing 35 = .ok (.iaload, 1) := by decide +kernel
theorem dX7_carryOutThing_36 : decode cX7_carryOutThing 36 = .ok (.aload_n 1, 1) := by decide +kernel
theorem dX7_carryOutThing_37 : decode cX7_carryOutThing 37 = .ok (.iconst 3, 1) := by decide +kernel
theorem dX7_carryOutThing_38 : decode cX7_carryOutThing 38 = .ok (.iaload, 1) := by decide +kernel
theorem dX7_carryOutThing_39 : decode cX7_carryOutThing 39 = .ok (.aload_n 1, 1) := by decide +kernel
theorem dX7_carryOutThing_40 : decode cX7_carryOutThing 40 = .ok (.iconst 4, 1) := by decide +kernel
theorem dX7_carryOutThing_41 : decode cX7_carryOutThing 41 = .ok (.iaload, 1) := by decide +kernel
theorem dX7_carryOutThing_42 : decode cX7_carryOutThing 42 = .ok (.invokevirtual 68, 3) := by decide +kernel
theorem dX7_carryOutThing_45 : decode cX7_carryOutThing 45 = .ok (.istore 5, 2) := by decide +kernel
theorem dX7_carryOutThing_47 : decode cX7_carryOutThing 47 = .ok (.iload 5, 2) := by decide +kernel
theorem dX7_carryOutThing_49 : decode cX7_carryOutThing 49 = .ok (.ifCond .eq 6, 3) := by decide +kernel
theorem dX7_carryOutThing_52 : decode cX7_carryOutThing 52 = .ok (.iload 5, 2) := by decide +kernel
theorem dX7_carryOutThing_54 : decode cX7_carryOutThing 54 = .ok (.ireturn, 1) := by decide +kernel
theorem dX7_carryOutThing_55 : decode cX7_carryOutThing 55 = .ok (.iload_n 3, 1) := by decide +kernel
theorem dX7_carryOutThing_56 : decode cX7_carryOutThing 56 = .ok (.invokestatic 90, 3) := by decide +kernel
theorem dX7_carryOutThing_59 : decode cX7_carryOutThing 59 = .ok (.ifCond .eq 15, 3) := by decide +kernel
theorem dX7_carryOutThing_62 : decode cX7_carryOutThing 62 = .ok (.aload_n 2, 1) := by decide +kernel
theorem dX7_carryOutThing_63 : decode cX7_carryOutThing 63 = .ok (.getfield 176, 3) := by decide +kernel
theorem dX7_carryOutThing_66 : decode cX7_carryOutThing 66 = .ok (.iload 4, 2) := by decide +kernel
theorem dX7_carryOutThing_68 : decode cX7_carryOutThing 68 = .ok (.invokestatic 103, 3) := by decide +kernel
theorem dX7_carryOutThing_71 : decode cX7_carryOutThing 71 = .ok (.ifCond .ne 6, 3) := by decide +kernel
theorem dX7_carryOutThing_74 : decode cX7_carryOutThing 74 = .ok (.bipush (-2), 2) := by decide +kernel
theorem dX7_carryOutThing_76 : decode cX7_carryOutThing 76 = .ok (.ireturn, 1) := by decide +kernel
theorem dX7_carryOutThing_77 : decode cX7_carryOutThing 77 = .ok (.aload_n 2, 1) := by decide +kernel
theorem dX7_carryOutThing_78 : decode cX7_carryOutThing 78 = .ok (.aload_n 1, 1) := by decide +kernel
theorem dX7_carryOutThing_79 : decode cX7_carryOutThing 79 = .ok (.iconst 0, 1) := by decide +kernel
theorem dX7_carryOutThing_80 : decode cX7_carryOutThing 80 = .ok (.iaload, 1) := by decide +kernel
theorem dX7_carryOutThing_81 : decode cX7_carryOutThing 81 = .ok (.aload_n 1, 1) := by decide +kernel
theorem dX7_carryOutThing_82 : decode cX7_carryOutThing 82 = .ok (.iconst 1, 1) := by decide +kernel
theorem dX7_carryOutThing_83 : decode cX7_carryOutThing 83 = .ok (.iaload, 1) := by decide +kernel
theorem dX7_carryOutThing_84 : decode cX7_carryOutThing 84 = .ok (.aload_n 1, 1) := by decide +kernel
theorem dX7_carryOutThing_85 : decode cX7_carryOutThing 85 = .ok (.iconst 2, 1) := by decide +kernel
theorem dX7_carryOutThing_86 : decode cX7_carryOutThing 86 = .ok (.iaload, 1) := by decide +kernel
theorem dX7_carryOutThing_87 : decode cX7_carryOutThing 87 = .ok (.aload_n 1, 1) := by decide +kernel
theorem dX7_carryOutThing_88 : decode cX7_carryOutThing 88 = .ok (.iconst 3, 1) := by decide +kernel
theorem dX7_carryOutThing_89 : decode cX7_carryOutThing 89 = .ok (.iaload, 1) := by decide +kernel
theorem dX7_carryOutThing_90 : decode cX7_carryOutThing 90 = .ok (.aload_n 1, 1) := by decide +kernel
theorem dX7_carryOutThing_91 : decode cX7_carryOutThing 91 = .ok (.iconst 4, 1) := by decide +kernel
theorem dX7_carryOutThing_92 : decode cX7_carryOutThing 92 = .ok (.iaload, 1) := by decide +kernel
theorem dX7_carryOutThing_93 : decode cX7_carryOutThing 93 = .ok (.aload_n 0, 1) := by decide +kernel
theorem dX7_carryOutThing_94 : decode cX7_carryOutThing 94 = .ok (.getfield 10, 3) := by decide +kernel
theorem dX7_carryOutThing_97 : decode cX7_carryOutThing 97 = .ok (.getfield 76, 3) := by decide +kernel
theorem dX7_carryOutThing_100 : decode cX7_carryOutThing 100 = .ok (.invokevirtual 80, 3) := by decide +kernel
theorem dX7_carryOutThing_103 : decode cX7_carryOutThing 103 = .ok (.istore 6, 2) := by decide +kernel
theorem dX7_carryOutThing_105 : decode cX7_carryOutThing 105 = .ok (.aload_n 2, 1) := by decide +kernel
theorem dX7_carryOutThing_106 : decode cX7_carryOutThing 106 = .ok (.iload 6, 2) := by decide +kernel
theorem dX7_carryOutThing_108 : decode cX7_carryOutThing 108 = .ok (.iload_n 3, 1) := by decide +kernel
theorem dX7_carryOutThing_109 : decode cX7_carryOutThing 109 = .ok (.iload 4, 2) := by decide +kernel
theorem dX7_carryOutThing_111 : decode cX7_carryOutThing 111 = .ok (.aload_n 0, 1) := by decide +kernel
theorem dX7_carryOutThing_112 : decode cX7_carryOutThing 112 = .ok (.getfield 10, 3) := by decide +kernel
theorem dX7_carryOutThing_115 : decode cX7_carryOutThing 115 = .ok (.getfield 76, 3) := by decide +kernel
theorem dX7_carryOutThing_118 : decode cX7_carryOutThing 118 = .ok (.invokevirtual 99, 3) := by decide +kernel
theorem dX7_carryOutThing_121 : decode cX7_carryOutThing 121 = .ok (.iconst 0, 1) := by decide +kernel
theorem dX7_carryOutThing_122 : decode cX7_carryOutThing 122 = .ok (.ireturn, 1) := by decide +kernel
set_option maxRecDepth 20000 in
theorem ggX7_carryOutFlash_X7_errorOfFlash : GoodIn wsX7_carryOutFlash wsX7_errorOfFlash := goodIn_r _ [8, 9, 10, 7, 11] (by decide +kernel) (by decide +kernel)
set_option maxRecDepth 20000 in
theorem gX7_carryOutFlash_X7_errorOfFlash : GoodIn wsX7_carryOutFlash (wsV RX7 107 RX7 yX7_errorOfFlash wsX7_errorOfFlash) := goodIn_app (goodIn_of _ (by decide +kernel)) ggX7_carryOutFlash_X7_errorOfFlash
set_option maxRecDepth 20000 in
theorem ggX7_carryOutFlash_X5_setFlash : GoodIn wsX7_carryOutFlash wsX5_setFlash := goodIn_r _ [16, 17, 18, 19, 30, 31, 32, 33, 34, 35, 36] (by decide +kernel) (by decide +kernel)
set_option maxRecDepth 20000 in
theorem gX7_carryOutFlash_X5_setFlash : GoodIn wsX7_carryOutFlash (wsV RX7 111 RX5 yX5_setFlash wsX5_setFlash) := goodIn_app (goodIn_of _ (by decide +kernel)) ggX7_carryOutFlash_X5_setFlash
theorem dX7_carryOutFlash_0 : decode cX7_carryOutFlash 0 = .ok (.aload_n 0, 1) := by decide +kernel
theorem dX7_carryOutFlash_1 : decode cX7_carryOutFlash 1 = .ok (.getfield 46, 3) := by decide +kernel
theorem dX7_carryOutFlash_4 : decode cX7_carryOutFlash 4 = .ok (.getfield 265, 3) := by decide +kernel
theorem dX7_carryOutFlash_7 : decode cX7_carryOutFlash 7 = .ok (.iconst 0, 1) := by decide +kernel
theorem dX7_carryOutFlash_8 : decode cX7_carryOutFlash 8 = .ok (.iaload, 1) := by decide +kernel
theorem dX7_carryOutFlash_9 : decode cX7_carryOutFlash 9 = .ok (.istore_n 1, 1) := by decide +kernel
theorem dX7_carryOutFlash_10 : decode cX7_carryOutFlash 10 = .ok (.aload_n 0, 1) := by decide +kernel
theorem dX7_carryOutFlash_11 : decode cX7_carryOutFlash 11 = .ok (.getfield 46, 3) := by decide +kernel
theorem dX7_carryOutFlash_14 : decode cX7_carryOutFlash 14 = .ok (.getfield 265, 3) := by decide +kernel
theorem dX7_carryOutFlash_17 : decode cX7_carryOutFlash 17 = .ok (.iconst 1, 1) := by decide +kernel
theorem dX7_carryOutFlash_18 : decode cX7_carryOutFlash 18 = .ok (.iaload, 1) := by decide +kernel
theorem dX7_carryOutFlash_19 : decode cX7_carryOutFlash 19 = .ok (.istore_n 2, 1) := by decide +kernel
theorem dX7_carryOutFlash_20 : decode cX7_carryOutFlash 20 = .ok (.aload_n 0, 1) := by decide +kernel
theorem dX7_carryOutFlash_21 : decode cX7_carryOutFlash 21 = .ok (.iload_n 1, 1) := by decide +kernel
theorem dX7_carryOutFlash_22 : decode cX7_carryOutFlash 22 = .ok (.iload_n 2, 1) := by decide +kernel
theorem dX7_carryOutFlash_23 : decode cX7_carryOutFlash 23 = .ok (.invokevirtual 107, 3) := by decide +kernel
theorem dX7_carryOutFlash_26 : decode cX7_carryOutFlash 26 = .ok (.istore_n 3, 1) := by decide +kernel
theorem dX7_carryOutFlash_27 : decode cX7_carryOutFlash 27 = .ok (.iload_n 3, 1) := by decide +kernel
theorem dX7_carryOutFlash_28 : decode cX7_carryOutFlash 28 = .ok (.ifCond .ne 12, 3) := by decide +kernel
theorem dX7_carryOutFlash_31 : decode cX7_carryOutFlash 31 = .ok (.aload_n 0, 1) := by decide +kernel
theorem dX7_carryOutFlash_32 : decode cX7_carryOutFlash 32 = .ok (.getfield 10, 3) := by decide +kernel
theorem dX7_carryOutFlash_35 : decode cX7_carryOutFlash 35 = .ok (.iload_n 1, 1) := by decide +kernel
theorem dX7_carryOutFlash_36 : decode cX7_carryOutFlash 36 = .ok (.iload_n 2, 1) := by decide +kernel
theorem dX7_carryOutFlash_37 : decode cX7_carryOutFlash 37 = .ok (.invokevirtual 111, 3) := by decide +kernel
theorem dX7_carryOutFlash_40 : decode cX7_carryOutFlash 40 = .ok (.iload_n 3, 1) := by decide +kernel
theorem dX7_carryOutFlash_41 : decode cX7_carryOutFlash 41 = .ok (.ireturn, 1) := by decide +kernel
set_option maxRecDepth 20000 in
theorem ggX7_carryOutPass_X7_errorOfPass : GoodIn wsX7_carryOutPass wsX7_errorOfPass := goodIn_r _ [9, 3, 4, 10, 11, 8, 12, 13, 14, 15, 16, 17, 18, 23, 24, 25, 26, 27, 28, 29] (by decide +kernel) (by decide +kernel)
set_option maxRecDepth 20000 in
theorem gX7_carryOutPass_X7_errorOfPass : GoodIn wsX7_carryOutPass (wsV RX7 118 RX7 yX7_errorOfPass wsX7_errorOfPass) := goodIn_app (goodIn_of _ (by decide +kernel)) ggX7_carryOutPass_X7_errorOfPass
theorem dX7_carryOutPass_0 : decode cX7_carryOutPass 0 = .ok (.aload_n 0, 1) := by decide +kernel
theorem dX7_carryOutPass_1 : decode cX7_carryOutPass 1 = .ok (.getfield 46, 3) := by decide +kernel
theorem dX7_carryOutPass_4 : decode cX7_carryOutPass 4 = .ok (.getfield 265, 3) := by decide +kernel
theorem dX7_carryOutPass_7 : decode cX7_carryOutPass 7 = .ok (.iconst 0, 1) := by decide +kernel
theorem dX7_carryOutPass_8 : decode cX7_carryOutPass 8 = .ok (.iaload, 1) := by decide +kernel
theorem dX7_carryOutPass_9 : decode cX7_carryOutPass 9 = .ok (.istore_n 1, 1) := by decide +kernel
theorem dX7_carryOutPass_10 : decode cX7_carryOutPass 10 = .ok (.aload_n 0, 1) := by decide +kernel
theorem dX7_carryOutPass_11 : decode cX7_carryOutPass 11 = .ok (.iload_n 1, 1) := by decide +kernel
theorem dX7_carryOutPass_12 : decode cX7_carryOutPass 12 = .ok (.invokevirtual 118, 3) := by decide +kernel
theorem dX7_carryOutPass_15 : decode cX7_carryOutPass 15 = .ok (.istore_n 2, 1) := by decide +kernel
theorem dX7_carryOutPass_16 : decode cX7_carryOutPass 16 = .ok (.iload_n 2, 1) := by decide +kernel
theorem dX7_carryOutPass_17 : decode cX7_carryOutPass 17 = .ok (.ifCond .ne 16, 3) := by decide +kernel
theorem dX7_carryOutPass_20 : decode cX7_carryOutPass 20 = .ok (.aload_n 0, 1) := by decide +kernel
theorem dX7_carryOutPass_21 : decode cX7_carryOutPass 21 = .ok (.getfield 10, 3) := by decide +kernel
theorem dX7_carryOutPass_24 : decode cX7_carryOutPass 24 = .ok (.dup, 1) := by decide +kernel
theorem dX7_carryOutPass_25 : decode cX7_carryOutPass 25 = .ok (.getfield 76, 3) := by decide +kernel
theorem dX7_carryOutPass_28 : decode cX7_carryOutPass 28 = .ok (.iload_n 1, 1) := by decide +kernel
theorem dX7_carryOutPass_29 : decode cX7_carryOutPass 29 = .ok (.iadd, 1) := by decide +kernel
theorem dX7_carryOutPass_30 : decode cX7_carryOutPass 30 = .ok (.putfield 76, 3) := by decide +kernel
theorem dX7_carryOutPass_33 : decode cX7_carryOutPass 33 = .ok (.iload_n 2, 1) := by decide +kernel
theorem dX7_carryOutPass_34 : decode cX7_carryOutPass 34 = .ok (.ireturn, 1) := by decide +kernel
theorem dX8_init_0 : decode cX8_init 0 = .ok (.aload_n 0, 1) := by decide +kernel
theorem dX8_init_1 : decode cX8_init 1 = .ok (.invokespecial 1, 3) := by decide +kernel
theorem dX8_init_4 : decode cX8_init 4 = .ok (.aload_n 0, 1) := by decide +kernel
theorem dX8_init_5 : decode cX8_init 5 = .ok (.sipush 465, 3) := by decide +kernel
theorem dX8_init_8 : decode cX8_init 8 = .ok (.newarray .int, 2) := by decide +kernel
theorem dX8_init_10 : decode cX8_init 10 = .ok (.putfield 7, 3) := by decide +kernel
theorem dX8_init_13 : decode cX8_init 13 = .ok (.aload_n 0, 1) := by decide +kernel
theorem dX8_init_14 : decode cX8_init 14 = .ok (.sipush 2790, 3) := by decide +kernel
theorem dX8_init_17 : decode cX8_init 17 = .ok (.newarray .int, 2) := by decide +kernel
theorem dX8_init_19 : decode cX8_init 19 = .ok (.putfield 13, 3) := by decide +kernel
theorem dX8_init_22 : decode cX8_init 22 = .ok (.aload_n 0, 1) := by decide +kernel
theorem dX8_init_23 : decode cX8_init 23 = .ok (.sipush 930, 3) := by decide +kernel
theorem dX8_init_26 : decode cX8_init 26 = .ok (.newarray .int, 2) := by decide +kernel
theorem dX8_init_28 : decode cX8_init 28 = .ok (.putfield 16, 3) := by decide +kernel
theorem dX8_init_31 : decode cX8_init 31 = .ok (.aload_n 0, 1) := by decide +kernel
theorem dX8_init_32 : decode cX8_init 32 = .ok (.iconst 2, 1) := by decide +kernel
theorem dX8_init_33 : decode cX8_init 33 = .ok (.newarray .boolean, 2) := by decide +kernel
theorem dX8_init_35 : decode cX8_init 35 = .ok (.putfield 19, 3) := by decide +kernel
theorem dX8_init_38 : decode cX8_init 38 = .ok (.aload_n 0, 1) := by decide +kernel
theorem dX8_init_39 : decode cX8_init 39 = .ok (.bipush 80, 2) := by decide +kernel
theorem dX8_init_41 : decode cX8_init 41 = .ok (.newarray .int, 2) := by decide +kernel
theorem dX8_init_43 : decode cX8_init 43 = .ok (.putfield 23, 3) := by decide +kernel
theorem dX8_init_46 : decode cX8_init 46 = .ok (.aload_n 0, 1) := by decide +kernel
theorem dX8_init_47 : decode cX8_init 47 = .ok (.getfield 7, 3) := by decide +kernel
theorem dX8_init_50 : decode cX8_init 50 = .ok (.iconst 0, 1) := by decide +kernel
theorem dX8_init_51 : decode cX8_init 51 = .ok (.iconst 2, 1) := by decide +kernel
theorem dX8_init_52 : decode cX8_init 52 = .ok (.iastore, 1) := by decide +kernel
theorem dX8_init_53 : decode cX8_init 53 = .ok (.aload_n 0, 1) := by decide +kernel
theorem dX8_init_54 : decode cX8_init 54 = .ok (.getfield 7, 3) := by decide +kernel
theorem dX8_init_57 : decode cX8_init 57 = .ok (.iconst 1, 1) := by decide +kernel
theorem dX8_init_58 : decode cX8_init 58 = .ok (.iconst 4, 1) := by decide +kernel
theorem dX8_init_59 : decode cX8_init 59 = .ok (.iastore, 1) := by decide +kernel
theorem dX8_init_60 : decode cX8_init 60 = .ok (.aload_n 0, 1) := by decide +kernel
theorem dX8_init_61 : decode cX8_init 61 = .ok (.getfield 7, 3) := by decide +kernel
theorem dX8_init_64 : decode cX8_init 64 = .ok (.iconst 3, 1) := by decide +kernel
theorem dX8_init_65 : decode cX8_init 65 = .ok (.iconst 1, 1) := by decide +kernel
theorem dX8_init_66 : decode cX8_init 66 = .ok (.iastore, 1) := by decide +kernel
theorem dX8_init_67 : decode cX8_init 67 = .ok (.aload_n 0, 1) := by decide +kernel
theorem dX8_init_68 : decode cX8_init 68 = .ok (.getfield 7, 3) := by decide +kernel
theorem dX8_init_71 : decode cX8_init 71 = .ok (.bipush 7, 2) := by decide +kernel
theorem dX8_init_73 : decode cX8_init 73 = .ok (.iconst (-1), 1) := by decide +kernel
theorem dX8_init_74 : decode cX8_init 74 = .ok (.iastore, 1) := by decide +kernel
theorem dX8_init_75 : decode cX8_init 75 = .ok (.return_, 1) := by decide +kernel
theorem dX8_in_0 : decode cX8_in 0 = .ok (.iload_n 0, 1) := by decide +kernel
theorem dX8_in_1 : decode cX8_in 1 = .ok (.iload_n 1, 1) := by decide +kernel
theorem dX8_in_2 : decode cX8_in 2 = .ok (.if_icmp .lt 12, 3) := by decide +kernel
theorem dX8_in_5 : decode cX8_in 5 = .ok (.iload_n 0, 1) := by decide +kernel
theorem dX8_in_6 : decode cX8_in 6 = .ok (.iload_n 2, 1) := by decide +kernel
theorem dX8_in_7 : decode cX8_in 7 = .ok (.if_icmp .gt 7, 3) := by decide +kernel
theorem dX8_in_10 : decode cX8_in 10 = .ok (.iconst 1, 1) := by decide +kernel
theorem dX8_in_11 : decode cX8_in 11 = .ok (.goto 4, 3) := by decide +kernel
theorem dX8_in_14 : decode cX8_in 14 = .ok (.iconst 0, 1) := by decide +kernel
theorem dX8_in_15 : decode cX8_in 15 = .ok (.ireturn, 1) := by decide +kernel
theorem dX8_remembers_0 : decode cX8_remembers 0 = .ok (.aload_n 0, 1) := by decide +kernel
theorem dX8_remembers_1 : decode cX8_remembers 1 = .ok (.getfield 26, 3) := by decide +kernel
theorem dX8_remembers_4 : decode cX8_remembers 4 = .ok (.bipush 6, 2) := by decide +kernel
theorem dX8_remembers_6 : decode cX8_remembers 6 = .ok (.if_icmp .ne 44, 3) := by decide +kernel
theorem dX8_remembers_9 : decode cX8_remembers 9 = .ok (.iconst 0, 1) := by decide +kernel
theorem dX8_remembers_10 : decode cX8_remembers 10 = .ok (.istore_n 1, 1) := by decide +kernel
theorem dX8_remembers_11 : decode cX8_remembers 11 = .ok (.iload_n 1, 1) := by decide +kernel
theorem dX8_remembers_12 : decode cX8_remembers 12 = .ok (.sipush 2325, 3) := by decide +kernel
theorem dX8_remembers_15 : decode cX8_remembers 15 = .ok (.if_icmp .ge 25, 3) := by decide +kernel
theorem dX8_remembers_18 : decode cX8_remembers 18 = .ok (.aload_n 0, 1) := by decide +kernel
theorem dX8_remembers_19 : decode cX8_remembers 19 = .ok (.getfield 13, 3) := by decide +kernel
theorem dX8_remembers_22 : decode cX8_remembers 22 = .ok (.iload_n 1, 1) := by decide +kernel
theorem dX8_remembers_23 : decode cX8_remembers 23 = .ok (.aload_n 0, 1) := by decide +kernel
theorem dX8_remembers_24 : decode cX8_remembers 24 = .ok (.getfield 13, 3) := by decide +kernel
theorem dX8_remembers_27 : decode cX8_remembers 27 = .ok (.sipush 465, 3) := by decide +kernel
theorem dX8_remembers_30 : decode cX8_remembers 30 = .ok (.iload_n 1, 1) := by decide +kernel
theorem dX8_remembers_31 : decode cX8_remembers 31 = .ok (.iadd, 1) := by decide +kernel
theorem dX8_remembers_32 : decode cX8_remembers 32 = .ok (.iaload, 1) := by decide +kernel
theorem dX8_remembers_33 : decode cX8_remembers 33 = .ok (.iastore, 1) := by decide +kernel
theorem dX8_remembers_34 : decode cX8_remembers 34 = .ok (.iinc 1 1, 3) := by decide +kernel
theorem dX8_remembers_37 : decode cX8_remembers 37 = .ok (.goto (-26), 3) := by decide +kernel
theorem dX8_remembers_40 : decode cX8_remembers 40 = .ok (.aload_n 0, 1) := by decide +kernel
theorem dX8_remembers_41 : decode cX8_remembers 41 = .ok (.dup, 1) := by decide +kernel
theorem dX8_remembers_42 : decode cX8_remembers 42 = .ok (.getfield 26, 3) := by decide +kernel
theorem dX8_remembers_45 : decode cX8_remembers 45 = .ok (.iconst 1, 1) := by decide +kernel
theorem dX8_remembers_46 : decode cX8_remembers 46 = .ok (.isub, 1) := by decide +kernel
theorem dX8_remembers_47 : decode cX8_remembers 47 = .ok (.putfield 26, 3) := by decide +kernel
theorem dX8_remembers_50 : decode cX8_remembers 50 = .ok (.iconst 0, 1) := by decide +kernel
theorem dX8_remembers_51 : decode cX8_remembers 51 = .ok (.istore_n 1, 1) := by decide +kernel
theorem dX8_remembers_52 : decode cX8_remembers 52 = .ok (.iload_n 1, 1) := by decide +kernel
theorem dX8_remembers_53 : decode cX8_remembers 53 = .ok (.sipush 465, 3) := by decide +kernel
theorem dX8_remembers_56 : decode cX8_remembers 56 = .ok (.if_icmp .ge 30, 3) := by decide +kernel
theorem dX8_remembers_59 : decode cX8_remembers 59 = .ok (.aload_n 0, 1) := by decide +kernel
theorem dX8_remembers_60 : decode cX8_remembers 60 = .ok (.getfield 13, 3) := by decide +kernel
theorem dX8_remembers_63 : decode cX8_remembers 63 = .ok (.sipush 465, 3) := by decide +kernel
theorem dX8_remembers_66 : decode cX8_remembers 66 = .ok (.aload_n 0, 1) := by decide +kernel
theorem dX8_remembers_67 : decode cX8_remembers 67 = .ok (.getfield 26, 3) := by decide +kernel
theorem dX8_remembers_70 : decode cX8_remembers 70 = .ok (.imul, 1) := by decide +kernel
theorem dX8_remembers_71 : decode cX8_remembers 71 = .ok (.iload_n 1, 1) := by decide +kernel
theorem dX8_remembers_72 : decode cX8_remembers 72 = .ok (.iadd, 1) := by decide +kernel
theorem dX8_remembers_73 : decode cX8_remembers 73 = .ok (.aload_n 0, 1) := by decide +kernel
theorem dX8_remembers_74 : decode cX8_remembers 74 = .ok (.getfield 7, 3) := by decide +kernel
theorem dX8_remembers_77 : decode cX8_remembers 77 = .ok (.iload_n 1, 1) := by decide +kernel
theorem dX8_remembers_78 : decode cX8_remembers 78 = .ok (.iaload, 1) := by decide +kernel
theorem dX8_remembers_79 : decode cX8_remembers 79 = .ok (.iastore, 1) := by decide +kernel
theorem dX8_remembers_80 : decode cX8_remembers 80 = .ok (.iinc 1 1, 3) := by decide +kernel
theorem dX8_remembers_83 : decode cX8_remembers 83 = .ok (.goto (-31), 3) := by decide +kernel
theorem dX8_remembers_86 : decode cX8_remembers 86 = .ok (.aload_n 0, 1) := by decide +kernel
theorem dX8_remembers_87 : decode cX8_remembers 87 = .ok (.dup, 1) := by decide +kernel
theorem dX8_remembers_88 : decode cX8_remembers 88 = .ok (.getfield 26, 3) := by decide +kernel
theorem dX8_remembers_91 : decode cX8_remembers 91 = .ok (.iconst 1, 1) := by decide +kernel
theorem dX8_remembers_92 : decode cX8_remembers 92 = .ok (.iadd, 1) := by decide +kernel
theorem dX8_remembers_93 : decode cX8_remembers 93 = .ok (.putfield 26, 3) := by decide +kernel
theorem dX8_remembers_96 : decode cX8_remembers 96 = .ok (.return_, 1) := by decide +kernel
set_option maxRecDepth 20000 in
theorem ggX8_isThing_X8_in : GoodIn wsX8_isThing wsX8_in := goodIn_r _ [5] (by decide +kernel) (by decide +kernel)
set_option maxRecDepth 20000 in
theorem gX8_isThing_X8_in : GoodIn wsX8_isThing (va_wsS RX8 30 yX8_in wsX8_in) := goodIn_app (goodIn_of _ (by decide +kernel)) ggX8_isThing_X8_in
theorem dX8_isThing_0 : decode cX8_isThing 0 = .ok (.iload_n 1, 1) := by decide +kernel
theorem dX8_isThing_1 : decode cX8_isThing 1 = .ok (.iconst 0, 1) := by decide +kernel
theorem dX8_isThing_2 : decode cX8_isThing 2 = .ok (.aload_n 0, 1) := by decide +kernel
theorem dX8_isThing_3 : decode cX8_isThing 3 = .ok (.getfield 7, 3) := by decide +kernel
theorem dX8_isThing_6 : decode cX8_isThing 6 = .ok (.iconst 5, 1) := by decide +kernel
theorem dX8_isThing_7 : decode cX8_isThing 7 = .ok (.iaload, 1) := by decide +kernel
theorem dX8_isThing_8 : decode cX8_isThing 8 = .ok (.iconst 1, 1) := by decide +kernel
theorem dX8_isThing_9 : decode cX8_isThing 9 = .ok (.isub, 1) := by decide +kernel
theorem dX8_isThing_10 : decode cX8_isThing 10 = .ok (.invokestatic 30, 3) := by decide +kernel
theorem dX8_isThing_13 : decode cX8_isThing 13 = .ok (.ireturn, 1) := by decide +kernel
theorem dX8_its_0 : decode cX8_its 0 = .ok (.aload_n 0, 1) := by decide +kernel
theorem dX8_its_1 : decode cX8_its 1 = .ok (.getfield 7, 3) := by decide +kernel
theorem dX8_its_4 : decode cX8_its 4 = .ok (.bipush 9, 2) := by decide +kernel
theorem dX8_its_6 : decode cX8_its 6 = .ok (.bipush 9, 2) := by decide +kernel
theorem dX8_its_8 : decode cX8_its 8 = .ok (.iload_n 1, 1) := by decide +kernel
theorem dX8_its_9 : decode cX8_its 9 = .ok (.imul, 1) := by decide +kernel
theorem dX8_its_10 : decode cX8_its 10 = .ok (.iadd, 1) := by decide +kernel
theorem dX8_its_11 : decode cX8_its 11 = .ok (.iload_n 2, 1) := by decide +kernel
theorem dX8_its_12 : decode cX8_its 12 = .ok (.iadd, 1) := by decide +kernel
theorem dX8_its_13 : decode cX8_its 13 = .ok (.iaload, 1) := by decide +kernel
theorem dX8_its_14 : decode cX8_its 14 = .ok (.ireturn, 1) := by decide +kernel
theorem dX8_tenth_0 : decode cX8_tenth 0 = .ok (.iload_n 0, 1) := by decide +kernel
theorem dX8_tenth_1 : decode cX8_tenth 1 = .ok (.ifCond .lt 10, 3) := by decide +kernel
theorem dX8_tenth_4 : decode cX8_tenth 4 = .ok (.iload_n 0, 1) := by decide +kernel
theorem dX8_tenth_5 : decode cX8_tenth 5 = .ok (.bipush 10, 2) := by decide +kernel
theorem dX8_tenth_7 : decode cX8_tenth 7 = .ok (.idiv, 1) := by decide +kernel
theorem dX8_tenth_8 : decode cX8_tenth 8 = .ok (.goto 11, 3) := by decide +kernel
theorem dX8_tenth_11 : decode cX8_tenth 11 = .ok (.bipush 9, 2) := by decide +kernel
theorem dX8_tenth_13 : decode cX8_tenth 13 = .ok (.iload_n 0, 1) := by decide +kernel
theorem dX8_tenth_14 : decode cX8_tenth 14 = .ok (.isub, 1) := by decide +kernel
theorem dX8_tenth_15 : decode cX8_tenth 15 = .ok (.bipush 10, 2) := by decide +kernel
theorem dX8_tenth_17 : decode cX8_tenth 17 = .ok (.idiv, 1) := by decide +kernel
theorem dX8_tenth_18 : decode cX8_tenth 18 = .ok (.ineg, 1) := by decide +kernel
theorem dX8_tenth_19 : decode cX8_tenth 19 = .ok (.ireturn, 1) := by decide +kernel
set_option maxRecDepth 20000 in
theorem ggX8_left_X8_its : GoodIn wsX8_left wsX8_its := goodIn_r _ [5, 6, 10, 11, 12, 13, 14, 15, 16] (by decide +kernel) (by decide +kernel)
set_option maxRecDepth 20000 in
theorem gX8_left_X8_its : GoodIn wsX8_left (wsV RX8 34 RX8 yX8_its wsX8_its) := goodIn_app (goodIn_of _ (by decide +kernel)) ggX8_left_X8_its
set_option maxRecDepth 20000 in
theorem ggX8_left_X8_tenth : GoodIn wsX8_left wsX8_tenth := goodIn_r _ [9] (by decide +kernel) (by decide +kernel)
set_option maxRecDepth 20000 in
theorem gX8_left_X8_tenth : GoodIn wsX8_left (va_wsS RX8 38 yX8_tenth wsX8_tenth) := goodIn_app (goodIn_of _ (by decide +kernel)) ggX8_left_X8_tenth
theorem dX8_left_0 : decode cX8_left 0 = .ok (.iconst 0, 1) := by decide +kernel
theorem dX8_left_1 : decode cX8_left 1 = .ok (.istore_n 3, 1) := by decide +kernel
theorem dX8_left_2 : decode cX8_left 2 = .ok (.iload_n 1, 1) := by decide +kernel
theorem dX8_left_3 : decode cX8_left 3 = .ok (.istore 4, 2) := by decide +kernel
theorem dX8_left_5 : decode cX8_left 5 = .ok (.iload 4, 2) := by decide +kernel
theorem dX8_left_7 : decode cX8_left 7 = .ok (.ifCond .lt 74, 3) := by decide +kernel
theorem dX8_left_10 : decode cX8_left 10 = .ok (.iload_n 3, 1) := by decide +kernel
theorem dX8_left_11 : decode cX8_left 11 = .ok (.aload_n 0, 1) := by decide +kernel
theorem dX8_left_12 : decode cX8_left 12 = .ok (.iload 4, 2) := by decide +kernel
theorem dX8_left_14 : decode cX8_left 14 = .ok (.iconst 1, 1) := by decide +kernel
theorem dX8_left_15 : decode cX8_left 15 = .ok (.invokevirtual 34, 3) := by decide +kernel
theorem dX8_left_18 : decode cX8_left 18 = .ok (.aload_n 0, 1) := by decide +kernel
theorem dX8_left_19 : decode cX8_left 19 = .ok (.iload 4, 2) := by decide +kernel
theorem dX8_left_21 : decode cX8_left 21 = .ok (.iconst 5, 1) := by decide +kernel
theorem dX8_left_22 : decode cX8_left 22 = .ok (.invokevirtual 34, 3) := by decide +kernel
theorem dX8_left_25 : decode cX8_left 25 = .ok (.iload_n 2, 1) := by decide +kernel
theorem dX8_left_26 : decode cX8_left 26 = .ok (.aload_n 0, 1) := by decide +kernel
theorem dX8_left_27 : decode cX8_left 27 = .ok (.iload 4, 2) := by decide +kernel
theorem dX8_left_29 : decode cX8_left 29 = .ok (.bipush 6, 2) := by decide +kernel
theorem dX8_left_31 : decode cX8_left 31 = .ok (.invokevirtual 34, 3) := by decide +kernel
theorem dX8_left_34 : decode cX8_left 34 = .ok (.isub, 1) := by decide +kernel
theorem dX8_left_35 : decode cX8_left 35 = .ok (.imul, 1) := by decide +kernel
theorem dX8_left_36 : decode cX8_left 36 = .ok (.invokestatic 38, 3) := by decide +kernel
theorem dX8_left_39 : decode cX8_left 39 = .ok (.iadd, 1) := by decide +kernel
theorem dX8_left_40 : decode cX8_left 40 = .ok (.iadd, 1) := by decide +kernel
theorem dX8_left_41 : decode cX8_left 41 = .ok (.istore_n 3, 1) := by decide +kernel
theorem dX8_left_42 : decode cX8_left 42 = .ok (.iload_n 3, 1) := by decide +kernel
theorem dX8_left_43 : decode cX8_left 43 = .ok (.aload_n 0, 1) := by decide +kernel
theorem dX8_left_44 : decode cX8_left 44 = .ok (.iload 4, 2) := by decide +kernel
theorem dX8_left_46 : decode cX8_left 46 = .ok (.bipush 7, 2) := by decide +kernel
theorem dX8_left_48 : decode cX8_left 48 = .ok (.invokevirtual 34, 3) := by decide +kernel
theorem dX8_left_51 : decode cX8_left 51 = .ok (.ifCond .lt 14, 3) := by decide +kernel
theorem dX8_left_54 : decode cX8_left 54 = .ok (.aload_n 0, 1) := by decide +kernel
theorem dX8_left_55 : decode cX8_left 55 = .ok (.iload 4, 2) := by decide +kernel
theorem dX8_left_57 : decode cX8_left 57 = .ok (.bipush 8, 2) := by decide +kernel
theorem dX8_left_59 : decode cX8_left 59 = .ok (.invokevirtual 34, 3) := by decide +kernel
theorem dX8_left_62 : decode cX8_left 62 = .ok (.goto 4, 3) := by decide +kernel
theorem dX8_left_65 : decode cX8_left 65 = .ok (.iconst 0, 1) := by decide +kernel
theorem dX8_left_66 : decode cX8_left 66 = .ok (.isub, 1) := by decide +kernel
theorem dX8_left_67 : decode cX8_left 67 = .ok (.istore_n 3, 1) := by decide +kernel
theorem dX8_left_68 : decode cX8_left 68 = .ok (.aload_n 0, 1) := by decide +kernel
theorem dX8_left_69 : decode cX8_left 69 = .ok (.iload 4, 2) := by decide +kernel
theorem dX8_left_71 : decode cX8_left 71 = .ok (.bipush 7, 2) := by decide +kernel
theorem dX8_left_73 : decode cX8_left 73 = .ok (.invokevirtual 34, 3) := by decide +kernel
theorem dX8_left_76 : decode cX8_left 76 = .ok (.istore 4, 2) := by decide +kernel
theorem dX8_left_78 : decode cX8_left 78 = .ok (.goto (-73), 3) := by decide +kernel
theorem dX8_left_81 : decode cX8_left 81 = .ok (.iload_n 3, 1) := by decide +kernel
theorem dX8_left_82 : decode cX8_left 82 = .ok (.ireturn, 1) := by decide +kernel
set_option maxRecDepth 20000 in
theorem ggX8_anew_X8_left : GoodIn wsX8_anew wsX8_left := goodIn_r _ [6, 7, 8, 9, 5, 10, 1, 11, 12, 13, 14, 15, 16, 17, 18, 19, 20] (by decide +kernel) (by decide +kernel)
set_option maxRecDepth 20000 in
theorem gX8_anew_X8_left : GoodIn wsX8_anew (wsV RX8 42 RX8 yX8_left wsX8_left) := goodIn_app (goodIn_of _ (by decide +kernel)) ggX8_anew_X8_left
theorem dX8_anew_0 : decode cX8_anew 0 = .ok (.bipush 9, 2) := by decide +kernel
theorem dX8_anew_2 : decode cX8_anew 2 = .ok (.bipush 9, 2) := by decide +kernel
theorem dX8_anew_4 : decode cX8_anew 4 = .ok (.iload_n 1, 1) := by decide +kernel
theorem dX8_anew_5 : decode cX8_anew 5 = .ok (.imul, 1) := by decide +kernel
theorem dX8_anew_6 : decode cX8_anew 6 = .ok (.iadd, 1) := by decide +kernel
theorem dX8_anew_7 : decode cX8_anew 7 = .ok (.istore 4, 2) := by decide +kernel
theorem dX8_anew_9 : decode cX8_anew 9 = .ok (.aload_n 0, 1) := by decide +kernel
theorem dX8_anew_10 : decode cX8_anew 10 = .ok (.getfield 7, 3) := by decide +kernel
theorem dX8_anew_13 : decode cX8_anew 13 = .ok (.iload 4, 2) := by decide +kernel
theorem dX8_anew_15 : decode cX8_anew 15 = .ok (.iconst 1, 1) := by decide +kernel
theorem dX8_anew_16 : decode cX8_anew 16 = .ok (.iadd, 1) := by decide +kernel
theorem dX8_anew_17 : decode cX8_anew 17 = .ok (.aload_n 0, 1) := by decide +kernel
theorem dX8_anew_18 : decode cX8_anew 18 = .ok (.iload_n 1, 1) := by decide +kernel
theorem dX8_anew_19 : decode cX8_anew 19 = .ok (.aload_n 0, 1) := by decide +kernel
theorem dX8_anew_20 : decode cX8_anew 20 = .ok (.getfield 7, 3) := by decide +kernel
theorem dX8_anew_23 : decode cX8_anew 23 = .ok (.iconst 4, 1) := by decide +kernel
theorem dX8_anew_24 : decode cX8_anew 24 = .ok (.iaload, 1) := by decide +kernel
theorem dX8_anew_25 : decode cX8_anew 25 = .ok (.invokevirtual 42, 3) := by decide +kernel
theorem dX8_anew_28 : decode cX8_anew 28 = .ok (.iastore, 1) := by decide +kernel
theorem dX8_anew_29 : decode cX8_anew 29 = .ok (.aload_n 0, 1) := by decide +kernel
theorem dX8_anew_30 : decode cX8_anew 30 = .ok (.getfield 7, 3) := by decide +kernel
theorem dX8_anew_33 : decode cX8_anew 33 = .ok (.iload 4, 2) := by decide +kernel
theorem dX8_anew_35 : decode cX8_anew 35 = .ok (.iconst 5, 1) := by decide +kernel
theorem dX8_anew_36 : decode cX8_anew 36 = .ok (.iadd, 1) := by decide +kernel
theorem dX8_anew_37 : decode cX8_anew 37 = .ok (.iload_n 2, 1) := by decide +kernel
theorem dX8_anew_38 : decode cX8_anew 38 = .ok (.iastore, 1) := by decide +kernel
theorem dX8_anew_39 : decode cX8_anew 39 = .ok (.aload_n 0, 1) := by decide +kernel
theorem dX8_anew_40 : decode cX8_anew 40 = .ok (.getfield 7, 3) := by decide +kernel
theorem dX8_anew_43 : decode cX8_anew 43 = .ok (.iload 4, 2) := by decide +kernel
theorem dX8_anew_45 : decode cX8_anew 45 = .ok (.bipush 6, 2) := by decide +kernel
theorem dX8_anew_47 : decode cX8_anew 47 = .ok (.iadd, 1) := by decide +kernel
theorem dX8_anew_48 : decode cX8_anew 48 = .ok (.aload_n 0, 1) := by decide +kernel
theorem dX8_anew_49 : decode cX8_anew 49 = .ok (.getfield 7, 3) := by decide +kernel
theorem dX8_anew_52 : decode cX8_anew 52 = .ok (.iconst 4, 1) := by decide +kernel
theorem dX8_anew_53 : decode cX8_anew 53 = .ok (.iaload, 1) := by decide +kernel
theorem dX8_anew_54 : decode cX8_anew 54 = .ok (.iastore, 1) := by decide +kernel
theorem dX8_anew_55 : decode cX8_anew 55 = .ok (.aload_n 0, 1) := by decide +kernel
theorem dX8_anew_56 : decode cX8_anew 56 = .ok (.getfield 7, 3) := by decide +kernel
theorem dX8_anew_59 : decode cX8_anew 59 = .ok (.iload 4, 2) := by decide +kernel
theorem dX8_anew_61 : decode cX8_anew 61 = .ok (.bipush 7, 2) := by decide +kernel
theorem dX8_anew_63 : decode cX8_anew 63 = .ok (.iadd, 1) := by decide +kernel
theorem dX8_anew_64 : decode cX8_anew 64 = .ok (.iload_n 3, 1) := by decide +kernel
theorem dX8_anew_65 : decode cX8_anew 65 = .ok (.iastore, 1) := by decide +kernel
theorem dX8_anew_66 : decode cX8_anew 66 = .ok (.aload_n 0, 1) := by decide +kernel
theorem dX8_anew_67 : decode cX8_anew 67 = .ok (.getfield 7, 3) := by decide +kernel
theorem dX8_anew_70 : decode cX8_anew 70 = .ok (.iload 4, 2) := by decide +kernel
theorem dX8_anew_72 : decode cX8_anew 72 = .ok (.bipush 8, 2) := by decide +kernel
theorem dX8_anew_74 : decode cX8_anew 74 = .ok (.iadd, 1) := by decide +kernel
theorem dX8_anew_75 : decode cX8_anew 75 = .ok (.iload_n 3, 1) := by decide +kernel
theorem dX8_anew_76 : decode cX8_anew 76 = .ok (.ifCond .lt 17, 3) := by decide +kernel
theorem dX8_anew_79 : decode cX8_anew 79 = .ok (.aload_n 0, 1) := by decide +kernel
theorem dX8_anew_80 : decode cX8_anew 80 = .ok (.iload_n 3, 1) := by decide +kernel
theorem dX8_anew_81 : decode cX8_anew 81 = .ok (.aload_n 0, 1) := by decide +kernel
theorem dX8_anew_82 : decode cX8_anew 82 = .ok (.getfield 7, 3) := by decide +kernel
theorem dX8_anew_85 : decode cX8_anew 85 = .ok (.iconst 4, 1) := by decide +kernel
theorem dX8_anew_86 : decode cX8_anew 86 = .ok (.iaload, 1) := by decide +kernel
theorem dX8_anew_87 : decode cX8_anew 87 = .ok (.invokevirtual 42, 3) := by decide +kernel
theorem dX8_anew_90 : decode cX8_anew 90 = .ok (.goto 4, 3) := by decide +kernel
theorem dX8_anew_93 : decode cX8_anew 93 = .ok (.iconst 0, 1) := by decide +kernel
theorem dX8_anew_94 : decode cX8_anew 94 = .ok (.iastore, 1) := by decide +kernel
theorem dX8_anew_95 : decode cX8_anew 95 = .ok (.return_, 1) := by decide +kernel
set_option maxRecDepth 20000 in
theorem ggX8_covers_X8_its : GoodIn wsX8_covers wsX8_its := goodIn_r _ [5, 6, 17, 18, 19, 20, 21, 22, 23] (by decide +kernel) (by decide +kernel)
set_option maxRecDepth 20000 in
theorem gX8_covers_X8_its : GoodIn wsX8_covers (wsV RX8 34 RX8 yX8_its wsX8_its) := goodIn_app (goodIn_of _ (by decide +kernel)) ggX8_covers_X8_its
set_option maxRecDepth 20000 in
theorem ggX8_covers_X8_in : GoodIn wsX8_covers wsX8_in := goodIn_r _ [9] (by decide +kernel) (by decide +kernel)
set_option maxRecDepth 20000 in
theorem gX8_covers_X8_in : GoodIn wsX8_covers (va_wsS RX8 30 yX8_in wsX8_in) := goodIn_app (goodIn_of _ (by decide +kernel)) ggX8_covers_X8_in
set_option maxRecDepth 20000 in
theorem ggX8_covers_X8_left : GoodIn wsX8_covers wsX8_left := goodIn_r _ [13, 1, 2, 3, 4, 5, 6, 14, 15, 16, 17, 18, 19, 20, 21, 22, 23] (by decide +kernel) (by decide +kernel)
set_option maxRecDepth 20000 in
theorem gX8_covers_X8_left : GoodIn wsX8_covers (wsV RX8 42 RX8 yX8_left wsX8_left) := goodIn_app (goodIn_of _ (by decide +kernel)) ggX8_covers_X8_left
theorem dX8_covers_0 : decode cX8_covers 0 = .ok (.iload_n 2, 1) := by decide +kernel
theorem dX8_covers_1 : decode cX8_covers 1 = .ok (.aload_n 0, 1) := by decide +kernel
theorem dX8_covers_2 : decode cX8_covers 2 = .ok (.iload_n 1, 1) := by decide +kernel
theorem dX8_covers_3 : decode cX8_covers 3 = .ok (.iconst 0, 1) := by decide +kernel
theorem dX8_covers_4 : decode cX8_covers 4 = .ok (.invokevirtual 34, 3) := by decide +kernel
theorem dX8_covers_7 : decode cX8_covers 7 = .ok (.aload_n 0, 1) := by decide +kernel
theorem dX8_covers_8 : decode cX8_covers 8 = .ok (.iload_n 1, 1) := by decide +kernel
theorem dX8_covers_9 : decode cX8_covers 9 = .ok (.iconst 0, 1) := by decide +kernel
theorem dX8_covers_10 : decode cX8_covers 10 = .ok (.invokevirtual 34, 3) := by decide +kernel
theorem dX8_covers_13 : decode cX8_covers 13 = .ok (.aload_n 0, 1) := by decide +kernel
theorem dX8_covers_14 : decode cX8_covers 14 = .ok (.iload_n 1, 1) := by decide +kernel
theorem dX8_covers_15 : decode cX8_covers 15 = .ok (.iconst 2, 1) := by decide +kernel
theorem dX8_covers_16 : decode cX8_covers 16 = .ok (.invokevirtual 34, 3) := by decide +kernel
theorem dX8_covers_19 : decode cX8_covers 19 = .ok (.iadd, 1) := by decide +kernel
theorem dX8_covers_20 : decode cX8_covers 20 = .ok (.iconst 1, 1) := by decide +kernel
theorem dX8_covers_21 : decode cX8_covers 21 = .ok (.isub, 1) := by decide +kernel
theorem dX8_covers_22 : decode cX8_covers 22 = .ok (.invokestatic 30, 3) := by decide +kernel
theorem dX8_covers_25 : decode cX8_covers 25 = .ok (.ifCond .ne 5, 3) := by decide +kernel
theorem dX8_covers_28 : decode cX8_covers 28 = .ok (.iconst 0, 1) := by decide +kernel
theorem dX8_covers_29 : decode cX8_covers 29 = .ok (.ireturn, 1) := by decide +kernel
theorem dX8_covers_30 : decode cX8_covers 30 = .ok (.aload_n 0, 1) := by decide +kernel
theorem dX8_covers_31 : decode cX8_covers 31 = .ok (.iload_n 1, 1) := by decide +kernel
theorem dX8_covers_32 : decode cX8_covers 32 = .ok (.iload 4, 2) := by decide +kernel
theorem dX8_covers_34 : decode cX8_covers 34 = .ok (.invokevirtual 42, 3) := by decide +kernel
theorem dX8_covers_37 : decode cX8_covers 37 = .ok (.istore 5, 2) := by decide +kernel
theorem dX8_covers_39 : decode cX8_covers 39 = .ok (.iload_n 3, 1) := by decide +kernel
theorem dX8_covers_40 : decode cX8_covers 40 = .ok (.iload 5, 2) := by decide +kernel
theorem dX8_covers_42 : decode cX8_covers 42 = .ok (.iload 5, 2) := by decide +kernel
theorem dX8_covers_44 : decode cX8_covers 44 = .ok (.aload_n 0, 1) := by decide +kernel
theorem dX8_covers_45 : decode cX8_covers 45 = .ok (.iload_n 1, 1) := by decide +kernel
theorem dX8_covers_46 : decode cX8_covers 46 = .ok (.iconst 3, 1) := by decide +kernel
theorem dX8_covers_47 : decode cX8_covers 47 = .ok (.invokevirtual 34, 3) := by decide +kernel
theorem dX8_covers_50 : decode cX8_covers 50 = .ok (.iadd, 1) := by decide +kernel
theorem dX8_covers_51 : decode cX8_covers 51 = .ok (.iconst 1, 1) := by decide +kernel
theorem dX8_covers_52 : decode cX8_covers 52 = .ok (.isub, 1) := by decide +kernel
theorem dX8_covers_53 : decode cX8_covers 53 = .ok (.invokestatic 30, 3) := by decide +kernel
theorem dX8_covers_56 : decode cX8_covers 56 = .ok (.ireturn, 1) := by decide +kernel
set_option maxRecDepth 20000 in
theorem ggX8_burns_X8_in : GoodIn wsX8_burns wsX8_in := goodIn_r _ [5] (by decide +kernel) (by decide +kernel)
set_option maxRecDepth 20000 in
theorem gX8_burns_X8_in : GoodIn wsX8_burns (va_wsS RX8 30 yX8_in wsX8_in) := goodIn_app (goodIn_of _ (by decide +kernel)) ggX8_burns_X8_in
theorem dX8_burns_0 : decode cX8_burns 0 = .ok (.aload_n 0, 1) := by decide +kernel
theorem dX8_burns_1 : decode cX8_burns 1 = .ok (.getfield 7, 3) := by decide +kernel
theorem dX8_burns_4 : decode cX8_burns 4 = .ok (.bipush 7, 2) := by decide +kernel
theorem dX8_burns_6 : decode cX8_burns 6 = .ok (.iaload, 1) := by decide +kernel
theorem dX8_burns_7 : decode cX8_burns 7 = .ok (.ifCond .lt 38, 3) := by decide +kernel
theorem dX8_burns_10 : decode cX8_burns 10 = .ok (.iload_n 1, 1) := by decide +kernel
theorem dX8_burns_11 : decode cX8_burns 11 = .ok (.aload_n 0, 1) := by decide +kernel
theorem dX8_burns_12 : decode cX8_burns 12 = .ok (.getfield 7, 3) := by decide +kernel
theorem dX8_burns_15 : decode cX8_burns 15 = .ok (.bipush 7, 2) := by decide +kernel
theorem dX8_burns_17 : decode cX8_burns 17 = .ok (.iaload, 1) := by decide +kernel
theorem dX8_burns_18 : decode cX8_burns 18 = .ok (.aload_n 0, 1) := by decide +kernel
theorem dX8_burns_19 : decode cX8_burns 19 = .ok (.getfield 7, 3) := by decide +kernel
theorem dX8_burns_22 : decode cX8_burns 22 = .ok (.bipush 7, 2) := by decide +kernel
theorem dX8_burns_24 : decode cX8_burns 24 = .ok (.iaload, 1) := by decide +kernel
theorem dX8_burns_25 : decode cX8_burns 25 = .ok (.aload_n 0, 1) := by decide +kernel
theorem dX8_burns_26 : decode cX8_burns 26 = .ok (.getfield 7, 3) := by decide +kernel
theorem dX8_burns_29 : decode cX8_burns 29 = .ok (.bipush 8, 2) := by decide +kernel
theorem dX8_burns_31 : decode cX8_burns 31 = .ok (.iaload, 1) := by decide +kernel
theorem dX8_burns_32 : decode cX8_burns 32 = .ok (.iadd, 1) := by decide +kernel
theorem dX8_burns_33 : decode cX8_burns 33 = .ok (.iconst 1, 1) := by decide +kernel
theorem dX8_burns_34 : decode cX8_burns 34 = .ok (.isub, 1) := by decide +kernel
theorem dX8_burns_35 : decode cX8_burns 35 = .ok (.invokestatic 30, 3) := by decide +kernel
theorem dX8_burns_38 : decode cX8_burns 38 = .ok (.ifCond .eq 7, 3) := by decide +kernel
theorem dX8_burns_41 : decode cX8_burns 41 = .ok (.iconst 1, 1) := by decide +kernel
theorem dX8_burns_42 : decode cX8_burns 42 = .ok (.goto 4, 3) := by decide +kernel
theorem dX8_burns_45 : decode cX8_burns 45 = .ok (.iconst 0, 1) := by decide +kernel
theorem dX8_burns_46 : decode cX8_burns 46 = .ok (.ireturn, 1) := by decide +kernel
set_option maxRecDepth 20000 in
theorem ggX8_light_X8_burns : GoodIn wsX8_light wsX8_burns := goodIn_r _ [6, 1, 7, 8, 5, 9, 10, 11, 12, 13, 14, 15, 16] (by decide +kernel) (by decide +kernel)
set_option maxRecDepth 20000 in
theorem gX8_light_X8_burns : GoodIn wsX8_light (wsV RX8 45 RX8 yX8_burns wsX8_burns) := goodIn_app (goodIn_of _ (by decide +kernel)) ggX8_light_X8_burns
theorem dX8_light_0 : decode cX8_light 0 = .ok (.aload_n 0, 1) := by decide +kernel
theorem dX8_light_1 : decode cX8_light 1 = .ok (.iload_n 1, 1) := by decide +kernel
theorem dX8_light_2 : decode cX8_light 2 = .ok (.invokevirtual 45, 3) := by decide +kernel
theorem dX8_light_5 : decode cX8_light 5 = .ok (.ifCond .eq 5, 3) := by decide +kernel
theorem dX8_light_8 : decode cX8_light 8 = .ok (.iconst 3, 1) := by decide +kernel
theorem dX8_light_9 : decode cX8_light 9 = .ok (.ireturn, 1) := by decide +kernel
theorem dX8_light_10 : decode cX8_light 10 = .ok (.aload_n 0, 1) := by decide +kernel
theorem dX8_light_11 : decode cX8_light 11 = .ok (.getfield 7, 3) := by decide +kernel
theorem dX8_light_14 : decode cX8_light 14 = .ok (.iconst 2, 1) := by decide +kernel
theorem dX8_light_15 : decode cX8_light 15 = .ok (.iaload, 1) := by decide +kernel
theorem dX8_light_16 : decode cX8_light 16 = .ok (.ifCond .le 26, 3) := by decide +kernel
theorem dX8_light_19 : decode cX8_light 19 = .ok (.iload_n 1, 1) := by decide +kernel
theorem dX8_light_20 : decode cX8_light 20 = .ok (.aload_n 0, 1) := by decide +kernel
theorem dX8_light_21 : decode cX8_light 21 = .ok (.getfield 7, 3) := by decide +kernel
theorem dX8_light_24 : decode cX8_light 24 = .ok (.iconst 2, 1) := by decide +kernel
theorem dX8_light_25 : decode cX8_light 25 = .ok (.iaload, 1) := by decide +kernel
theorem dX8_light_26 : decode cX8_light 26 = .ok (.irem, 1) := by decide +kernel
theorem dX8_light_27 : decode cX8_light 27 = .ok (.aload_n 0, 1) := by decide +kernel
theorem dX8_light_28 : decode cX8_light 28 = .ok (.getfield 7, 3) := by decide +kernel
theorem dX8_light_31 : decode cX8_light 31 = .ok (.iconst 2, 1) := by decide +kernel
theorem dX8_light_32 : decode cX8_light 32 = .ok (.iaload, 1) := by decide +kernel
theorem dX8_light_33 : decode cX8_light 33 = .ok (.iconst 2, 1) := by decide +kernel
theorem dX8_light_34 : decode cX8_light 34 = .ok (.idiv, 1) := by decide +kernel
theorem dX8_light_35 : decode cX8_light 35 = .ok (.if_icmp .lt 7, 3) := by decide +kernel
theorem dX8_light_38 : decode cX8_light 38 = .ok (.iconst 1, 1) := by decide +kernel
theorem dX8_light_39 : decode cX8_light 39 = .ok (.goto 4, 3) := by decide +kernel
theorem dX8_light_42 : decode cX8_light 42 = .ok (.iconst 0, 1) := by decide +kernel
theorem dX8_light_43 : decode cX8_light 43 = .ok (.istore_n 2, 1) := by decide +kernel
theorem dX8_light_44 : decode cX8_light 44 = .ok (.iload_n 2, 1) := by decide +kernel
theorem dX8_light_45 : decode cX8_light 45 = .ok (.ifCond .eq 7, 3) := by decide +kernel
theorem dX8_light_48 : decode cX8_light 48 = .ok (.iconst 0, 1) := by decide +kernel
theorem dX8_light_49 : decode cX8_light 49 = .ok (.goto 4, 3) := by decide +kernel
theorem dX8_light_52 : decode cX8_light 52 = .ok (.iconst 1, 1) := by decide +kernel
theorem dX8_light_53 : decode cX8_light 53 = .ok (.ireturn, 1) := by decide +kernel
set_option maxRecDepth 20000 in
theorem ggX8_seenAt_X8_covers : GoodIn wsX8_seenAt wsX8_covers := goodIn_r _ [6, 7, 8, 9, 5, 10, 1, 11, 12, 13, 14, 15, 16, 17, 18, 19, 20, 29, 30, 31, 32, 33, 34, 35] (by decide +kernel) (by decide +kernel)
set_option maxRecDepth 20000 in
theorem gX8_seenAt_X8_covers : GoodIn wsX8_seenAt (wsV RX8 49 RX8 yX8_covers wsX8_covers) := goodIn_app (goodIn_of _ (by decide +kernel)) ggX8_seenAt_X8_covers
set_option maxRecDepth 20000 in
theorem ggX8_seenAt_X8_its : GoodIn wsX8_seenAt wsX8_its := goodIn_r _ [10, 1, 29, 30, 31, 32, 33, 34, 35] (by decide +kernel) (by decide +kernel)
set_option maxRecDepth 20000 in
theorem gX8_seenAt_X8_its : GoodIn wsX8_seenAt (wsV RX8 34 RX8 yX8_its wsX8_its) := goodIn_app (goodIn_of _ (by decide +kernel)) ggX8_seenAt_X8_its
set_option maxRecDepth 20000 in
theorem ggX8_seenAt_X8_light : GoodIn wsX8_seenAt wsX8_light := goodIn_r _ [24, 1, 25, 26, 27, 5, 28, 11, 12, 13, 29, 30, 31, 32, 33, 34, 35] (by decide +kernel) (by decide +kernel)
set_option maxRecDepth 20000 in
theorem gX8_seenAt_X8_light : GoodIn wsX8_seenAt (wsV RX8 53 RX8 yX8_light wsX8_light) := goodIn_app (goodIn_of _ (by decide +kernel)) ggX8_seenAt_X8_light
theorem dX8_seenAt_0 : decode cX8_seenAt 0 = .ok (.iconst 0, 1) := by decide +kernel
theorem dX8_seenAt_1 : decode cX8_seenAt 1 = .ok (.istore 4, 2) := by decide +kernel
theorem dX8_seenAt_3 : decode cX8_seenAt 3 = .ok (.iconst 0, 1) := by decide +kernel
theorem dX8_seenAt_4 : decode cX8_seenAt 4 = .ok (.istore 5, 2) := by decide +kernel
theorem dX8_seenAt_6 : decode cX8_seenAt 6 = .ok (.iload 5, 2) := by decide +kernel
theorem dX8_seenAt_8 : decode cX8_seenAt 8 = .ok (.aload_n 0, 1) := by decide +kernel
theorem dX8_seenAt_9 : decode cX8_seenAt 9 = .ok (.getfield 7, 3) := by decide +kernel
theorem dX8_seenAt_12 : decode cX8_seenAt 12 = .ok (.iconst 5, 1) := by decide +kernel
theorem dX8_seenAt_13 : decode cX8_seenAt 13 = .ok (.iaload, 1) := by decide +kernel
theorem dX8_seenAt_14 : decode cX8_seenAt 14 = .ok (.if_icmp .ge 37, 3) := by decide +kernel
theorem dX8_seenAt_17 : decode cX8_seenAt 17 = .ok (.iload 4, 2) := by decide +kernel
theorem dX8_seenAt_19 : decode cX8_seenAt 19 = .ok (.aload_n 0, 1) := by decide +kernel
theorem dX8_seenAt_20 : decode cX8_seenAt 20 = .ok (.iload 5, 2) := by decide +kernel
theorem dX8_seenAt_22 : decode cX8_seenAt 22 = .ok (.iload_n 1, 1) := by decide +kernel
theorem dX8_seenAt_23 : decode cX8_seenAt 23 = .ok (.iload_n 2, 1) := by decide +kernel
end
section
theorem dX8_seenAt_24 : decode cX8_seenAt 24 = .ok (.iload_n 3, 1) := by decide +kernel
theorem dX8_seenAt_25 : decode cX8_seenAt 25 = .ok (.invokevirtual 49, 3) := by decide +kernel
theorem dX8_seenAt_28 : decode cX8_seenAt 28 = .ok (.ifCond .eq 13, 3) := by decide +kernel
theorem dX8_seenAt_31 : decode cX8_seenAt 31 = .ok (.aload_n 0, 1) := by decide +kernel
theorem dX8_seenAt_32 : decode cX8_seenAt 32 = .ok (.iload 5, 2) := by decide +kernel
theorem dX8_seenAt_34 : decode cX8_seenAt 34 = .ok (.iconst 4, 1) := by decide +kernel
theorem dX8_seenAt_35 : decode cX8_seenAt 35 = .ok (.invokevirtual 34, 3) := by decide +kernel
theorem dX8_seenAt_38 : decode cX8_seenAt 38 = .ok (.goto 4, 3) := by decide +kernel
theorem dX8_seenAt_41 : decode cX8_seenAt 41 = .ok (.iconst 0, 1) := by decide +kernel
theorem dX8_seenAt_42 : decode cX8_seenAt 42 = .ok (.iadd, 1) := by decide +kernel
theorem dX8_seenAt_43 : decode cX8_seenAt 43 = .ok (.istore 4, 2) := by decide +kernel
theorem dX8_seenAt_45 : decode cX8_seenAt 45 = .ok (.iinc 5 1, 3) := by decide +kernel
theorem dX8_seenAt_48 : decode cX8_seenAt 48 = .ok (.goto (-42), 3) := by decide +kernel
theorem dX8_seenAt_51 : decode cX8_seenAt 51 = .ok (.iload 4, 2) := by decide +kernel
theorem dX8_seenAt_53 : decode cX8_seenAt 53 = .ok (.bipush 30, 2) := by decide +kernel
theorem dX8_seenAt_55 : decode cX8_seenAt 55 = .ok (.if_icmp .ge 8, 3) := by decide +kernel
theorem dX8_seenAt_58 : decode cX8_seenAt 58 = .ok (.iload 4, 2) := by decide +kernel
theorem dX8_seenAt_60 : decode cX8_seenAt 60 = .ok (.goto 5, 3) := by decide +kernel
theorem dX8_seenAt_63 : decode cX8_seenAt 63 = .ok (.bipush 30, 2) := by decide +kernel
theorem dX8_seenAt_65 : decode cX8_seenAt 65 = .ok (.aload_n 0, 1) := by decide +kernel
theorem dX8_seenAt_66 : decode cX8_seenAt 66 = .ok (.iload_n 3, 1) := by decide +kernel
theorem dX8_seenAt_67 : decode cX8_seenAt 67 = .ok (.invokevirtual 53, 3) := by decide +kernel
theorem dX8_seenAt_70 : decode cX8_seenAt 70 = .ok (.imul, 1) := by decide +kernel
theorem dX8_seenAt_71 : decode cX8_seenAt 71 = .ok (.ireturn, 1) := by decide +kernel
set_option maxRecDepth 20000 in
theorem ggX8_exposed_X8_seenAt : GoodIn wsX8_exposed wsX8_seenAt := goodIn_r _ [6, 1, 7, 8, 9, 5, 10, 11, 12, 13, 14, 15, 16, 17, 18, 19, 20, 21, 22, 23, 24, 25, 26, 27, 28, 29, 30, 31, 32, 33, 34, 35, 36, 37, 38, 39] (by decide +kernel) (by decide +kernel)
set_option maxRecDepth 20000 in
theorem gX8_exposed_X8_seenAt : GoodIn wsX8_exposed (wsV RX8 56 RX8 yX8_seenAt wsX8_seenAt) := goodIn_app (goodIn_of _ (by decide +kernel)) ggX8_exposed_X8_seenAt
theorem dX8_exposed_0 : decode cX8_exposed 0 = .ok (.iconst 0, 1) := by decide +kernel
theorem dX8_exposed_1 : decode cX8_exposed 1 = .ok (.istore 4, 2) := by decide +kernel
theorem dX8_exposed_3 : decode cX8_exposed 3 = .ok (.iconst 0, 1) := by decide +kernel
theorem dX8_exposed_4 : decode cX8_exposed 4 = .ok (.istore 5, 2) := by decide +kernel
theorem dX8_exposed_6 : decode cX8_exposed 6 = .ok (.iload 5, 2) := by decide +kernel
theorem dX8_exposed_8 : decode cX8_exposed 8 = .ok (.aload_n 0, 1) := by decide +kernel
theorem dX8_exposed_9 : decode cX8_exposed 9 = .ok (.getfield 7, 3) := by decide +kernel
theorem dX8_exposed_12 : decode cX8_exposed 12 = .ok (.iconst 1, 1) := by decide +kernel
theorem dX8_exposed_13 : decode cX8_exposed 13 = .ok (.iaload, 1) := by decide +kernel
theorem dX8_exposed_14 : decode cX8_exposed 14 = .ok (.if_icmp .ge 24, 3) := by decide +kernel
theorem dX8_exposed_17 : decode cX8_exposed 17 = .ok (.iload 4, 2) := by decide +kernel
theorem dX8_exposed_19 : decode cX8_exposed 19 = .ok (.aload_n 0, 1) := by decide +kernel
theorem dX8_exposed_20 : decode cX8_exposed 20 = .ok (.iload_n 1, 1) := by decide +kernel
theorem dX8_exposed_21 : decode cX8_exposed 21 = .ok (.iload_n 2, 1) := by decide +kernel
theorem dX8_exposed_22 : decode cX8_exposed 22 = .ok (.iload_n 3, 1) := by decide +kernel
theorem dX8_exposed_23 : decode cX8_exposed 23 = .ok (.iload 5, 2) := by decide +kernel
theorem dX8_exposed_25 : decode cX8_exposed 25 = .ok (.iadd, 1) := by decide +kernel
theorem dX8_exposed_26 : decode cX8_exposed 26 = .ok (.invokevirtual 56, 3) := by decide +kernel
theorem dX8_exposed_29 : decode cX8_exposed 29 = .ok (.iadd, 1) := by decide +kernel
theorem dX8_exposed_30 : decode cX8_exposed 30 = .ok (.istore 4, 2) := by decide +kernel
theorem dX8_exposed_32 : decode cX8_exposed 32 = .ok (.iinc 5 1, 3) := by decide +kernel
theorem dX8_exposed_35 : decode cX8_exposed 35 = .ok (.goto (-29), 3) := by decide +kernel
theorem dX8_exposed_38 : decode cX8_exposed 38 = .ok (.iload 4, 2) := by decide +kernel
theorem dX8_exposed_40 : decode cX8_exposed 40 = .ok (.ireturn, 1) := by decide +kernel
set_option maxRecDepth 20000 in
theorem ggX8_set_X8_in : GoodIn wsX8_set wsX8_in := goodIn_r _ [5] (by decide +kernel) (by decide +kernel)
set_option maxRecDepth 20000 in
theorem gX8_set_X8_in : GoodIn wsX8_set (va_wsS RX8 30 yX8_in wsX8_in) := goodIn_app (goodIn_of _ (by decide +kernel)) ggX8_set_X8_in
set_option maxRecDepth 20000 in
theorem ggX8_set_X8_remembers : GoodIn wsX8_set wsX8_remembers := goodIn_r _ [9, 10, 11, 1, 12, 13, 14, 15, 16, 17, 18] (by decide +kernel) (by decide +kernel)
set_option maxRecDepth 20000 in
theorem gX8_set_X8_remembers : GoodIn wsX8_set (wsV RX8 60 RX8 yX8_remembers wsX8_remembers) := goodIn_app (goodIn_of _ (by decide +kernel)) ggX8_set_X8_remembers
theorem dX8_set_0 : decode cX8_set 0 = .ok (.iload_n 1, 1) := by decide +kernel
theorem dX8_set_1 : decode cX8_set 1 = .ok (.ifCond .ne 13, 3) := by decide +kernel
theorem dX8_set_4 : decode cX8_set 4 = .ok (.iload_n 2, 1) := by decide +kernel
theorem dX8_set_5 : decode cX8_set 5 = .ok (.iconst 0, 1) := by decide +kernel
theorem dX8_set_6 : decode cX8_set 6 = .ok (.bipush 9, 2) := by decide +kernel
theorem dX8_set_8 : decode cX8_set 8 = .ok (.invokestatic 30, 3) := by decide +kernel
theorem dX8_set_11 : decode cX8_set 11 = .ok (.goto 52, 3) := by decide +kernel
theorem dX8_set_14 : decode cX8_set 14 = .ok (.iload_n 1, 1) := by decide +kernel
theorem dX8_set_15 : decode cX8_set 15 = .ok (.iconst 1, 1) := by decide +kernel
theorem dX8_set_16 : decode cX8_set 16 = .ok (.if_icmp .ne 13, 3) := by decide +kernel
theorem dX8_set_19 : decode cX8_set 19 = .ok (.iload_n 2, 1) := by decide +kernel
theorem dX8_set_20 : decode cX8_set 20 = .ok (.iconst 1, 1) := by decide +kernel
theorem dX8_set_21 : decode cX8_set 21 = .ok (.bipush 20, 2) := by decide +kernel
theorem dX8_set_23 : decode cX8_set 23 = .ok (.invokestatic 30, 3) := by decide +kernel
theorem dX8_set_26 : decode cX8_set 26 = .ok (.goto 37, 3) := by decide +kernel
theorem dX8_set_29 : decode cX8_set 29 = .ok (.iload_n 1, 1) := by decide +kernel
theorem dX8_set_30 : decode cX8_set 30 = .ok (.iconst 2, 1) := by decide +kernel
theorem dX8_set_31 : decode cX8_set 31 = .ok (.if_icmp .ne 13, 3) := by decide +kernel
theorem dX8_set_34 : decode cX8_set 34 = .ok (.iload_n 2, 1) := by decide +kernel
theorem dX8_set_35 : decode cX8_set 35 = .ok (.iconst 0, 1) := by decide +kernel
theorem dX8_set_36 : decode cX8_set 36 = .ok (.bipush 40, 2) := by decide +kernel
theorem dX8_set_38 : decode cX8_set 38 = .ok (.invokestatic 30, 3) := by decide +kernel
theorem dX8_set_41 : decode cX8_set 41 = .ok (.goto 22, 3) := by decide +kernel
theorem dX8_set_44 : decode cX8_set 44 = .ok (.iload_n 1, 1) := by decide +kernel
theorem dX8_set_45 : decode cX8_set 45 = .ok (.iconst 3, 1) := by decide +kernel
theorem dX8_set_46 : decode cX8_set 46 = .ok (.if_icmp .ne 16, 3) := by decide +kernel
theorem dX8_set_49 : decode cX8_set 49 = .ok (.iload_n 2, 1) := by decide +kernel
theorem dX8_set_50 : decode cX8_set 50 = .ok (.iconst 1, 1) := by decide +kernel
theorem dX8_set_51 : decode cX8_set 51 = .ok (.iconst 4, 1) := by decide +kernel
theorem dX8_set_52 : decode cX8_set 52 = .ok (.invokestatic 30, 3) := by decide +kernel
theorem dX8_set_55 : decode cX8_set 55 = .ok (.ifCond .eq 7, 3) := by decide +kernel
theorem dX8_set_58 : decode cX8_set 58 = .ok (.iconst 1, 1) := by decide +kernel
theorem dX8_set_59 : decode cX8_set 59 = .ok (.goto 4, 3) := by decide +kernel
theorem dX8_set_62 : decode cX8_set 62 = .ok (.iconst 0, 1) := by decide +kernel
theorem dX8_set_63 : decode cX8_set 63 = .ok (.istore_n 3, 1) := by decide +kernel
theorem dX8_set_64 : decode cX8_set 64 = .ok (.iload_n 3, 1) := by decide +kernel
theorem dX8_set_65 : decode cX8_set 65 = .ok (.ifCond .ne 6, 3) := by decide +kernel
theorem dX8_set_68 : decode cX8_set 68 = .ok (.bipush (-2), 2) := by decide +kernel
theorem dX8_set_70 : decode cX8_set 70 = .ok (.ireturn, 1) := by decide +kernel
theorem dX8_set_71 : decode cX8_set 71 = .ok (.aload_n 0, 1) := by decide +kernel
theorem dX8_set_72 : decode cX8_set 72 = .ok (.invokevirtual 60, 3) := by decide +kernel
theorem dX8_set_75 : decode cX8_set 75 = .ok (.aload_n 0, 1) := by decide +kernel
theorem dX8_set_76 : decode cX8_set 76 = .ok (.getfield 7, 3) := by decide +kernel
theorem dX8_set_79 : decode cX8_set 79 = .ok (.iload_n 1, 1) := by decide +kernel
theorem dX8_set_80 : decode cX8_set 80 = .ok (.iaload, 1) := by decide +kernel
theorem dX8_set_81 : decode cX8_set 81 = .ok (.istore 4, 2) := by decide +kernel
theorem dX8_set_83 : decode cX8_set 83 = .ok (.aload_n 0, 1) := by decide +kernel
theorem dX8_set_84 : decode cX8_set 84 = .ok (.getfield 7, 3) := by decide +kernel
theorem dX8_set_87 : decode cX8_set 87 = .ok (.iload_n 1, 1) := by decide +kernel
theorem dX8_set_88 : decode cX8_set 88 = .ok (.iload_n 2, 1) := by decide +kernel
theorem dX8_set_89 : decode cX8_set 89 = .ok (.iastore, 1) := by decide +kernel
theorem dX8_set_90 : decode cX8_set 90 = .ok (.iload 4, 2) := by decide +kernel
theorem dX8_set_92 : decode cX8_set 92 = .ok (.ireturn, 1) := by decide +kernel
set_option maxRecDepth 20000 in
theorem ggX8_whyNotThing_X8_in : GoodIn wsX8_whyNotThing wsX8_in := goodIn_r _ [5] (by decide +kernel) (by decide +kernel)
set_option maxRecDepth 20000 in
theorem gX8_whyNotThing_X8_in : GoodIn wsX8_whyNotThing (va_wsS RX8 30 yX8_in wsX8_in) := goodIn_app (goodIn_of _ (by decide +kernel)) ggX8_whyNotThing_X8_in
theorem dX8_whyNotThing_0 : decode cX8_whyNotThing 0 = .ok (.iload_n 1, 1) := by decide +kernel
theorem dX8_whyNotThing_1 : decode cX8_whyNotThing 1 = .ok (.iconst 0, 1) := by decide +kernel
theorem dX8_whyNotThing_2 : decode cX8_whyNotThing 2 = .ok (.bipush 15, 2) := by decide +kernel
theorem dX8_whyNotThing_4 : decode cX8_whyNotThing 4 = .ok (.invokestatic 30, 3) := by decide +kernel
theorem dX8_whyNotThing_7 : decode cX8_whyNotThing 7 = .ok (.ifCond .eq 49, 3) := by decide +kernel
theorem dX8_whyNotThing_10 : decode cX8_whyNotThing 10 = .ok (.iload_n 2, 1) := by decide +kernel
theorem dX8_whyNotThing_11 : decode cX8_whyNotThing 11 = .ok (.iconst 0, 1) := by decide +kernel
theorem dX8_whyNotThing_12 : decode cX8_whyNotThing 12 = .ok (.bipush 23, 2) := by decide +kernel
theorem dX8_whyNotThing_14 : decode cX8_whyNotThing 14 = .ok (.invokestatic 30, 3) := by decide +kernel
theorem dX8_whyNotThing_17 : decode cX8_whyNotThing 17 = .ok (.ifCond .eq 39, 3) := by decide +kernel
theorem dX8_whyNotThing_20 : decode cX8_whyNotThing 20 = .ok (.iload_n 3, 1) := by decide +kernel
theorem dX8_whyNotThing_21 : decode cX8_whyNotThing 21 = .ok (.iconst 1, 1) := by decide +kernel
theorem dX8_whyNotThing_22 : decode cX8_whyNotThing 22 = .ok (.bipush 16, 2) := by decide +kernel
theorem dX8_whyNotThing_24 : decode cX8_whyNotThing 24 = .ok (.invokestatic 30, 3) := by decide +kernel
theorem dX8_whyNotThing_27 : decode cX8_whyNotThing 27 = .ok (.ifCond .eq 29, 3) := by decide +kernel
theorem dX8_whyNotThing_30 : decode cX8_whyNotThing 30 = .ok (.iload 4, 2) := by decide +kernel
theorem dX8_whyNotThing_32 : decode cX8_whyNotThing 32 = .ok (.iconst 1, 1) := by decide +kernel
theorem dX8_whyNotThing_33 : decode cX8_whyNotThing 33 = .ok (.bipush 24, 2) := by decide +kernel
theorem dX8_whyNotThing_35 : decode cX8_whyNotThing 35 = .ok (.invokestatic 30, 3) := by decide +kernel
theorem dX8_whyNotThing_38 : decode cX8_whyNotThing 38 = .ok (.ifCond .eq 18, 3) := by decide +kernel
theorem dX8_whyNotThing_41 : decode cX8_whyNotThing 41 = .ok (.iload 5, 2) := by decide +kernel
theorem dX8_whyNotThing_43 : decode cX8_whyNotThing 43 = .ok (.iconst 1, 1) := by decide +kernel
theorem dX8_whyNotThing_44 : decode cX8_whyNotThing 44 = .ok (.bipush 9, 2) := by decide +kernel
theorem dX8_whyNotThing_46 : decode cX8_whyNotThing 46 = .ok (.invokestatic 30, 3) := by decide +kernel
theorem dX8_whyNotThing_49 : decode cX8_whyNotThing 49 = .ok (.ifCond .eq 7, 3) := by decide +kernel
theorem dX8_whyNotThing_52 : decode cX8_whyNotThing 52 = .ok (.iconst 1, 1) := by decide +kernel
theorem dX8_whyNotThing_53 : decode cX8_whyNotThing 53 = .ok (.goto 4, 3) := by decide +kernel
theorem dX8_whyNotThing_56 : decode cX8_whyNotThing 56 = .ok (.iconst 0, 1) := by decide +kernel
theorem dX8_whyNotThing_57 : decode cX8_whyNotThing 57 = .ok (.istore 6, 2) := by decide +kernel
theorem dX8_whyNotThing_59 : decode cX8_whyNotThing 59 = .ok (.iload 6, 2) := by decide +kernel
theorem dX8_whyNotThing_61 : decode cX8_whyNotThing 61 = .ok (.ifCond .ne 8, 3) := by decide +kernel
theorem dX8_whyNotThing_64 : decode cX8_whyNotThing 64 = .ok (.bipush (-2), 2) := by decide +kernel
theorem dX8_whyNotThing_66 : decode cX8_whyNotThing 66 = .ok (.goto 20, 3) := by decide +kernel
theorem dX8_whyNotThing_69 : decode cX8_whyNotThing 69 = .ok (.aload_n 0, 1) := by decide +kernel
theorem dX8_whyNotThing_70 : decode cX8_whyNotThing 70 = .ok (.getfield 7, 3) := by decide +kernel
theorem dX8_whyNotThing_73 : decode cX8_whyNotThing 73 = .ok (.iconst 5, 1) := by decide +kernel
theorem dX8_whyNotThing_74 : decode cX8_whyNotThing 74 = .ok (.iaload, 1) := by decide +kernel
theorem dX8_whyNotThing_75 : decode cX8_whyNotThing 75 = .ok (.bipush 8, 2) := by decide +kernel
theorem dX8_whyNotThing_77 : decode cX8_whyNotThing 77 = .ok (.if_icmp .ne 8, 3) := by decide +kernel
theorem dX8_whyNotThing_80 : decode cX8_whyNotThing 80 = .ok (.bipush (-4), 2) := by decide +kernel
theorem dX8_whyNotThing_82 : decode cX8_whyNotThing 82 = .ok (.goto 4, 3) := by decide +kernel
theorem dX8_whyNotThing_85 : decode cX8_whyNotThing 85 = .ok (.iconst 0, 1) := by decide +kernel
theorem dX8_whyNotThing_86 : decode cX8_whyNotThing 86 = .ok (.ireturn, 1) := by decide +kernel
theorem dX8_comes_0 : decode cX8_comes 0 = .ok (.bipush 9, 2) := by decide +kernel
theorem dX8_comes_2 : decode cX8_comes 2 = .ok (.bipush 9, 2) := by decide +kernel
theorem dX8_comes_4 : decode cX8_comes 4 = .ok (.aload_n 0, 1) := by decide +kernel
theorem dX8_comes_5 : decode cX8_comes 5 = .ok (.getfield 7, 3) := by decide +kernel
theorem dX8_comes_8 : decode cX8_comes 8 = .ok (.iconst 5, 1) := by decide +kernel
theorem dX8_comes_9 : decode cX8_comes 9 = .ok (.iaload, 1) := by decide +kernel
theorem dX8_comes_10 : decode cX8_comes 10 = .ok (.imul, 1) := by decide +kernel
theorem dX8_comes_11 : decode cX8_comes 11 = .ok (.iadd, 1) := by decide +kernel
theorem dX8_comes_12 : decode cX8_comes 12 = .ok (.istore 6, 2) := by decide +kernel
theorem dX8_comes_14 : decode cX8_comes 14 = .ok (.aload_n 0, 1) := by decide +kernel
theorem dX8_comes_15 : decode cX8_comes 15 = .ok (.getfield 7, 3) := by decide +kernel
theorem dX8_comes_18 : decode cX8_comes 18 = .ok (.iload 6, 2) := by decide +kernel
theorem dX8_comes_20 : decode cX8_comes 20 = .ok (.iconst 0, 1) := by decide +kernel
theorem dX8_comes_21 : decode cX8_comes 21 = .ok (.iadd, 1) := by decide +kernel
theorem dX8_comes_22 : decode cX8_comes 22 = .ok (.iload_n 1, 1) := by decide +kernel
theorem dX8_comes_23 : decode cX8_comes 23 = .ok (.iastore, 1) := by decide +kernel
theorem dX8_comes_24 : decode cX8_comes 24 = .ok (.aload_n 0, 1) := by decide +kernel
theorem dX8_comes_25 : decode cX8_comes 25 = .ok (.getfield 7, 3) := by decide +kernel
theorem dX8_comes_28 : decode cX8_comes 28 = .ok (.iload 6, 2) := by decide +kernel
theorem dX8_comes_30 : decode cX8_comes 30 = .ok (.iconst 1, 1) := by decide +kernel
theorem dX8_comes_31 : decode cX8_comes 31 = .ok (.iadd, 1) := by decide +kernel
theorem dX8_comes_32 : decode cX8_comes 32 = .ok (.iload_n 2, 1) := by decide +kernel
theorem dX8_comes_33 : decode cX8_comes 33 = .ok (.iastore, 1) := by decide +kernel
theorem dX8_comes_34 : decode cX8_comes 34 = .ok (.aload_n 0, 1) := by decide +kernel
theorem dX8_comes_35 : decode cX8_comes 35 = .ok (.getfield 7, 3) := by decide +kernel
theorem dX8_comes_38 : decode cX8_comes 38 = .ok (.iload 6, 2) := by decide +kernel
theorem dX8_comes_40 : decode cX8_comes 40 = .ok (.iconst 2, 1) := by decide +kernel
theorem dX8_comes_41 : decode cX8_comes 41 = .ok (.iadd, 1) := by decide +kernel
theorem dX8_comes_42 : decode cX8_comes 42 = .ok (.iload_n 3, 1) := by decide +kernel
theorem dX8_comes_43 : decode cX8_comes 43 = .ok (.iastore, 1) := by decide +kernel
theorem dX8_comes_44 : decode cX8_comes 44 = .ok (.aload_n 0, 1) := by decide +kernel
theorem dX8_comes_45 : decode cX8_comes 45 = .ok (.getfield 7, 3) := by decide +kernel
theorem dX8_comes_48 : decode cX8_comes 48 = .ok (.iload 6, 2) := by decide +kernel
theorem dX8_comes_50 : decode cX8_comes 50 = .ok (.iconst 3, 1) := by decide +kernel
theorem dX8_comes_51 : decode cX8_comes 51 = .ok (.iadd, 1) := by decide +kernel
theorem dX8_comes_52 : decode cX8_comes 52 = .ok (.iload 4, 2) := by decide +kernel
theorem dX8_comes_54 : decode cX8_comes 54 = .ok (.iastore, 1) := by decide +kernel
theorem dX8_comes_55 : decode cX8_comes 55 = .ok (.aload_n 0, 1) := by decide +kernel
theorem dX8_comes_56 : decode cX8_comes 56 = .ok (.getfield 7, 3) := by decide +kernel
theorem dX8_comes_59 : decode cX8_comes 59 = .ok (.iload 6, 2) := by decide +kernel
theorem dX8_comes_61 : decode cX8_comes 61 = .ok (.iconst 4, 1) := by decide +kernel
theorem dX8_comes_62 : decode cX8_comes 62 = .ok (.iadd, 1) := by decide +kernel
theorem dX8_comes_63 : decode cX8_comes 63 = .ok (.iload 5, 2) := by decide +kernel
theorem dX8_comes_65 : decode cX8_comes 65 = .ok (.iastore, 1) := by decide +kernel
theorem dX8_comes_66 : decode cX8_comes 66 = .ok (.aload_n 0, 1) := by decide +kernel
theorem dX8_comes_67 : decode cX8_comes 67 = .ok (.getfield 7, 3) := by decide +kernel
theorem dX8_comes_70 : decode cX8_comes 70 = .ok (.iload 6, 2) := by decide +kernel
theorem dX8_comes_72 : decode cX8_comes 72 = .ok (.iconst 5, 1) := by decide +kernel
theorem dX8_comes_73 : decode cX8_comes 73 = .ok (.iadd, 1) := by decide +kernel
theorem dX8_comes_74 : decode cX8_comes 74 = .ok (.iconst 0, 1) := by decide +kernel
theorem dX8_comes_75 : decode cX8_comes 75 = .ok (.iastore, 1) := by decide +kernel
theorem dX8_comes_76 : decode cX8_comes 76 = .ok (.aload_n 0, 1) := by decide +kernel
theorem dX8_comes_77 : decode cX8_comes 77 = .ok (.getfield 7, 3) := by decide +kernel
theorem dX8_comes_80 : decode cX8_comes 80 = .ok (.iload 6, 2) := by decide +kernel
theorem dX8_comes_82 : decode cX8_comes 82 = .ok (.bipush 6, 2) := by decide +kernel
theorem dX8_comes_84 : decode cX8_comes 84 = .ok (.iadd, 1) := by decide +kernel
theorem dX8_comes_85 : decode cX8_comes 85 = .ok (.aload_n 0, 1) := by decide +kernel
theorem dX8_comes_86 : decode cX8_comes 86 = .ok (.getfield 7, 3) := by decide +kernel
theorem dX8_comes_89 : decode cX8_comes 89 = .ok (.iconst 4, 1) := by decide +kernel
theorem dX8_comes_90 : decode cX8_comes 90 = .ok (.iaload, 1) := by decide +kernel
theorem dX8_comes_91 : decode cX8_comes 91 = .ok (.iastore, 1) := by decide +kernel
theorem dX8_comes_92 : decode cX8_comes 92 = .ok (.aload_n 0, 1) := by decide +kernel
theorem dX8_comes_93 : decode cX8_comes 93 = .ok (.getfield 7, 3) := by decide +kernel
theorem dX8_comes_96 : decode cX8_comes 96 = .ok (.iload 6, 2) := by decide +kernel
theorem dX8_comes_98 : decode cX8_comes 98 = .ok (.bipush 7, 2) := by decide +kernel
theorem dX8_comes_100 : decode cX8_comes 100 = .ok (.iadd, 1) := by decide +kernel
theorem dX8_comes_101 : decode cX8_comes 101 = .ok (.iconst (-1), 1) := by decide +kernel
theorem dX8_comes_102 : decode cX8_comes 102 = .ok (.iastore, 1) := by decide +kernel
theorem dX8_comes_103 : decode cX8_comes 103 = .ok (.aload_n 0, 1) := by decide +kernel
theorem dX8_comes_104 : decode cX8_comes 104 = .ok (.getfield 7, 3) := by decide +kernel
theorem dX8_comes_107 : decode cX8_comes 107 = .ok (.iload 6, 2) := by decide +kernel
theorem dX8_comes_109 : decode cX8_comes 109 = .ok (.bipush 8, 2) := by decide +kernel
theorem dX8_comes_111 : decode cX8_comes 111 = .ok (.iadd, 1) := by decide +kernel
theorem dX8_comes_112 : decode cX8_comes 112 = .ok (.iconst 0, 1) := by decide +kernel
theorem dX8_comes_113 : decode cX8_comes 113 = .ok (.iastore, 1) := by decide +kernel
theorem dX8_comes_114 : decode cX8_comes 114 = .ok (.aload_n 0, 1) := by decide +kernel
theorem dX8_comes_115 : decode cX8_comes 115 = .ok (.getfield 7, 3) := by decide +kernel
theorem dX8_comes_118 : decode cX8_comes 118 = .ok (.iconst 5, 1) := by decide +kernel
theorem dX8_comes_119 : decode cX8_comes 119 = .ok (.dup2, 1) := by decide +kernel
theorem dX8_comes_120 : decode cX8_comes 120 = .ok (.iaload, 1) := by decide +kernel
theorem dX8_comes_121 : decode cX8_comes 121 = .ok (.iconst 1, 1) := by decide +kernel
theorem dX8_comes_122 : decode cX8_comes 122 = .ok (.iadd, 1) := by decide +kernel
theorem dX8_comes_123 : decode cX8_comes 123 = .ok (.iastore, 1) := by decide +kernel
theorem dX8_comes_124 : decode cX8_comes 124 = .ok (.aload_n 0, 1) := by decide +kernel
theorem dX8_comes_125 : decode cX8_comes 125 = .ok (.getfield 7, 3) := by decide +kernel
theorem dX8_comes_128 : decode cX8_comes 128 = .ok (.iconst 5, 1) := by decide +kernel
theorem dX8_comes_129 : decode cX8_comes 129 = .ok (.iaload, 1) := by decide +kernel
theorem dX8_comes_130 : decode cX8_comes 130 = .ok (.iconst 1, 1) := by decide +kernel
theorem dX8_comes_131 : decode cX8_comes 131 = .ok (.isub, 1) := by decide +kernel
theorem dX8_comes_132 : decode cX8_comes 132 = .ok (.ireturn, 1) := by decide +kernel
set_option maxRecDepth 20000 in
theorem ggX8_thing_X8_whyNotThing : GoodIn wsX8_thing wsX8_whyNotThing := goodIn_r _ [5, 6, 7, 8, 4, 9, 20, 21, 22, 23, 24, 25, 26] (by decide +kernel) (by decide +kernel)
set_option maxRecDepth 20000 in
theorem gX8_thing_X8_whyNotThing : GoodIn wsX8_thing (wsV RX8 63 RX8 yX8_whyNotThing wsX8_whyNotThing) := goodIn_app (goodIn_of _ (by decide +kernel)) ggX8_thing_X8_whyNotThing
set_option maxRecDepth 20000 in
theorem ggX8_thing_X8_remembers : GoodIn wsX8_thing wsX8_remembers := goodIn_r _ [13, 14, 15, 6, 20, 21, 22, 23, 24, 25, 26] (by decide +kernel) (by decide +kernel)
set_option maxRecDepth 20000 in
theorem gX8_thing_X8_remembers : GoodIn wsX8_thing (wsV RX8 60 RX8 yX8_remembers wsX8_remembers) := goodIn_app (goodIn_of _ (by decide +kernel)) ggX8_thing_X8_remembers
set_option maxRecDepth 20000 in
theorem ggX8_thing_X8_comes : GoodIn wsX8_thing wsX8_comes := goodIn_r _ [19, 6, 20, 21, 22, 23, 24, 25, 26] (by decide +kernel) (by decide +kernel)
set_option maxRecDepth 20000 in
theorem gX8_thing_X8_comes : GoodIn wsX8_thing (wsV RX8 67 RX8 yX8_comes wsX8_comes) := goodIn_app (goodIn_of _ (by decide +kernel)) ggX8_thing_X8_comes
theorem dX8_thing_0 : decode cX8_thing 0 = .ok (.aload_n 0, 1) := by decide +kernel
theorem dX8_thing_1 : decode cX8_thing 1 = .ok (.iload_n 1, 1) := by decide +kernel
theorem dX8_thing_2 : decode cX8_thing 2 = .ok (.iload_n 2, 1) := by decide +kernel
theorem dX8_thing_3 : decode cX8_thing 3 = .ok (.iload_n 3, 1) := by decide +kernel
theorem dX8_thing_4 : decode cX8_thing 4 = .ok (.iload 4, 2) := by decide +kernel
theorem dX8_thing_6 : decode cX8_thing 6 = .ok (.iload 5, 2) := by decide +kernel
theorem dX8_thing_8 : decode cX8_thing 8 = .ok (.invokevirtual 63, 3) := by decide +kernel
theorem dX8_thing_11 : decode cX8_thing 11 = .ok (.istore 6, 2) := by decide +kernel
theorem dX8_thing_13 : decode cX8_thing 13 = .ok (.iload 6, 2) := by decide +kernel
theorem dX8_thing_15 : decode cX8_thing 15 = .ok (.ifCond .ge 6, 3) := by decide +kernel
theorem dX8_thing_18 : decode cX8_thing 18 = .ok (.iload 6, 2) := by decide +kernel
theorem dX8_thing_20 : decode cX8_thing 20 = .ok (.ireturn, 1) := by decide +kernel
theorem dX8_thing_21 : decode cX8_thing 21 = .ok (.aload_n 0, 1) := by decide +kernel
theorem dX8_thing_22 : decode cX8_thing 22 = .ok (.invokevirtual 60, 3) := by decide +kernel
theorem dX8_thing_25 : decode cX8_thing 25 = .ok (.aload_n 0, 1) := by decide +kernel
theorem dX8_thing_26 : decode cX8_thing 26 = .ok (.iload_n 1, 1) := by decide +kernel
theorem dX8_thing_27 : decode cX8_thing 27 = .ok (.iload_n 2, 1) := by decide +kernel
theorem dX8_thing_28 : decode cX8_thing 28 = .ok (.iload_n 3, 1) := by decide +kernel
theorem dX8_thing_29 : decode cX8_thing 29 = .ok (.iload 4, 2) := by decide +kernel
theorem dX8_thing_31 : decode cX8_thing 31 = .ok (.iload 5, 2) := by decide +kernel
theorem dX8_thing_33 : decode cX8_thing 33 = .ok (.invokevirtual 67, 3) := by decide +kernel
theorem dX8_thing_36 : decode cX8_thing 36 = .ok (.ireturn, 1) := by decide +kernel
set_option maxRecDepth 20000 in
theorem ggX8_speed_X8_isThing : GoodIn wsX8_speed wsX8_isThing := goodIn_r _ [5, 6, 7, 8, 4, 9, 31, 32, 33, 34, 35, 36, 37] (by decide +kernel) (by decide +kernel)
set_option maxRecDepth 20000 in
theorem gX8_speed_X8_isThing : GoodIn wsX8_speed (wsV RX8 70 RX8 yX8_isThing wsX8_isThing) := goodIn_app (goodIn_of _ (by decide +kernel)) ggX8_speed_X8_isThing
set_option maxRecDepth 20000 in
theorem ggX8_speed_X8_in : GoodIn wsX8_speed wsX8_in := goodIn_r _ [9] (by decide +kernel) (by decide +kernel)
set_option maxRecDepth 20000 in
theorem gX8_speed_X8_in : GoodIn wsX8_speed (va_wsS RX8 30 yX8_in wsX8_in) := goodIn_app (goodIn_of _ (by decide +kernel)) ggX8_speed_X8_in
set_option maxRecDepth 20000 in
theorem ggX8_speed_X8_remembers : GoodIn wsX8_speed wsX8_remembers := goodIn_r _ [13, 14, 15, 6, 31, 32, 33, 34, 35, 36, 37] (by decide +kernel) (by decide +kernel)
set_option maxRecDepth 20000 in
theorem gX8_speed_X8_remembers : GoodIn wsX8_speed (wsV RX8 60 RX8 yX8_remembers wsX8_remembers) := goodIn_app (goodIn_of _ (by decide +kernel)) ggX8_speed_X8_remembers
set_option maxRecDepth 20000 in
theorem ggX8_speed_X8_its : GoodIn wsX8_speed wsX8_its := goodIn_r _ [19, 6, 31, 32, 33, 34, 35, 36, 37] (by decide +kernel) (by decide +kernel)
set_option maxRecDepth 20000 in
theorem gX8_speed_X8_its : GoodIn wsX8_speed (wsV RX8 34 RX8 yX8_its wsX8_its) := goodIn_app (goodIn_of _ (by decide +kernel)) ggX8_speed_X8_its
set_option maxRecDepth 20000 in
theorem ggX8_speed_X8_anew : GoodIn wsX8_speed wsX8_anew := goodIn_r _ [23, 6, 24, 25, 26, 4, 27, 16, 17, 18, 19, 28, 29, 30, 31, 32, 33, 34, 35, 36, 37] (by decide +kernel) (by decide +kernel)
set_option maxRecDepth 20000 in
theorem gX8_speed_X8_anew : GoodIn wsX8_speed (wsV RX8 73 RX8 yX8_anew wsX8_anew) := goodIn_app (goodIn_of _ (by decide +kernel)) ggX8_speed_X8_anew
theorem dX8_speed_0 : decode cX8_speed 0 = .ok (.aload_n 0, 1) := by decide +kernel
theorem dX8_speed_1 : decode cX8_speed 1 = .ok (.iload_n 1, 1) := by decide +kernel
theorem dX8_speed_2 : decode cX8_speed 2 = .ok (.invokevirtual 70, 3) := by decide +kernel
theorem dX8_speed_5 : decode cX8_speed 5 = .ok (.ifCond .ne 5, 3) := by decide +kernel
theorem dX8_speed_8 : decode cX8_speed 8 = .ok (.iconst (-1), 1) := by decide +kernel
theorem dX8_speed_9 : decode cX8_speed 9 = .ok (.ireturn, 1) := by decide +kernel
theorem dX8_speed_10 : decode cX8_speed 10 = .ok (.iload_n 2, 1) := by decide +kernel
theorem dX8_speed_11 : decode cX8_speed 11 = .ok (.bipush (-40), 2) := by decide +kernel
theorem dX8_speed_13 : decode cX8_speed 13 = .ok (.bipush 40, 2) := by decide +kernel
theorem dX8_speed_15 : decode cX8_speed 15 = .ok (.invokestatic 30, 3) := by decide +kernel
theorem dX8_speed_18 : decode cX8_speed 18 = .ok (.ifCond .ne 6, 3) := by decide +kernel
theorem dX8_speed_21 : decode cX8_speed 21 = .ok (.bipush (-2), 2) := by decide +kernel
theorem dX8_speed_23 : decode cX8_speed 23 = .ok (.ireturn, 1) := by decide +kernel
theorem dX8_speed_24 : decode cX8_speed 24 = .ok (.aload_n 0, 1) := by decide +kernel
theorem dX8_speed_25 : decode cX8_speed 25 = .ok (.invokevirtual 60, 3) := by decide +kernel
theorem dX8_speed_28 : decode cX8_speed 28 = .ok (.aload_n 0, 1) := by decide +kernel
theorem dX8_speed_29 : decode cX8_speed 29 = .ok (.iload_n 1, 1) := by decide +kernel
theorem dX8_speed_30 : decode cX8_speed 30 = .ok (.iconst 5, 1) := by decide +kernel
theorem dX8_speed_31 : decode cX8_speed 31 = .ok (.invokevirtual 34, 3) := by decide +kernel
theorem dX8_speed_34 : decode cX8_speed 34 = .ok (.istore_n 3, 1) := by decide +kernel
theorem dX8_speed_35 : decode cX8_speed 35 = .ok (.aload_n 0, 1) := by decide +kernel
theorem dX8_speed_36 : decode cX8_speed 36 = .ok (.iload_n 1, 1) := by decide +kernel
theorem dX8_speed_37 : decode cX8_speed 37 = .ok (.iload_n 2, 1) := by decide +kernel
theorem dX8_speed_38 : decode cX8_speed 38 = .ok (.aload_n 0, 1) := by decide +kernel
theorem dX8_speed_39 : decode cX8_speed 39 = .ok (.iload_n 1, 1) := by decide +kernel
theorem dX8_speed_40 : decode cX8_speed 40 = .ok (.bipush 7, 2) := by decide +kernel
theorem dX8_speed_42 : decode cX8_speed 42 = .ok (.invokevirtual 34, 3) := by decide +kernel
theorem dX8_speed_45 : decode cX8_speed 45 = .ok (.invokevirtual 73, 3) := by decide +kernel
theorem dX8_speed_48 : decode cX8_speed 48 = .ok (.iload_n 3, 1) := by decide +kernel
theorem dX8_speed_49 : decode cX8_speed 49 = .ok (.bipush 100, 2) := by decide +kernel
theorem dX8_speed_51 : decode cX8_speed 51 = .ok (.iadd, 1) := by decide +kernel
theorem dX8_speed_52 : decode cX8_speed 52 = .ok (.ireturn, 1) := by decide +kernel
set_option maxRecDepth 20000 in
theorem ggX8_ride_X8_isThing : GoodIn wsX8_ride wsX8_isThing := goodIn_r _ [5, 6, 7, 8, 4, 9, 31, 32, 33, 34, 35, 36, 37] (by decide +kernel) (by decide +kernel)
set_option maxRecDepth 20000 in
theorem gX8_ride_X8_isThing : GoodIn wsX8_ride (wsV RX8 70 RX8 yX8_isThing wsX8_isThing) := goodIn_app (goodIn_of _ (by decide +kernel)) ggX8_ride_X8_isThing
set_option maxRecDepth 20000 in
theorem ggX8_ride_X8_in : GoodIn wsX8_ride wsX8_in := goodIn_r _ [9] (by decide +kernel) (by decide +kernel)
set_option maxRecDepth 20000 in
theorem gX8_ride_X8_in : GoodIn wsX8_ride (va_wsS RX8 30 yX8_in wsX8_in) := goodIn_app (goodIn_of _ (by decide +kernel)) ggX8_ride_X8_in
set_option maxRecDepth 20000 in
theorem ggX8_ride_X8_remembers : GoodIn wsX8_ride wsX8_remembers := goodIn_r _ [13, 14, 15, 6, 31, 32, 33, 34, 35, 36, 37] (by decide +kernel) (by decide +kernel)
set_option maxRecDepth 20000 in
theorem gX8_ride_X8_remembers : GoodIn wsX8_ride (wsV RX8 60 RX8 yX8_remembers wsX8_remembers) := goodIn_app (goodIn_of _ (by decide +kernel)) ggX8_ride_X8_remembers
set_option maxRecDepth 20000 in
theorem ggX8_ride_X8_its : GoodIn wsX8_ride wsX8_its := goodIn_r _ [19, 6, 31, 32, 33, 34, 35, 36, 37] (by decide +kernel) (by decide +kernel)
set_option maxRecDepth 20000 in
theorem gX8_ride_X8_its : GoodIn wsX8_ride (wsV RX8 34 RX8 yX8_its wsX8_its) := goodIn_app (goodIn_of _ (by decide +kernel)) ggX8_ride_X8_its
set_option maxRecDepth 20000 in
theorem ggX8_ride_X8_anew : GoodIn wsX8_ride wsX8_anew := goodIn_r _ [23, 6, 24, 25, 26, 4, 27, 16, 17, 18, 19, 28, 29, 30, 31, 32, 33, 34, 35, 36, 37] (by decide +kernel) (by decide +kernel)
set_option maxRecDepth 20000 in
theorem gX8_ride_X8_anew : GoodIn wsX8_ride (wsV RX8 73 RX8 yX8_anew wsX8_anew) := goodIn_app (goodIn_of _ (by decide +kernel)) ggX8_ride_X8_anew
theorem dX8_ride_0 : decode cX8_ride 0 = .ok (.aload_n 0, 1) := by decide +kernel
theorem dX8_ride_1 : decode cX8_ride 1 = .ok (.iload_n 1, 1) := by decide +kernel
theorem dX8_ride_2 : decode cX8_ride 2 = .ok (.invokevirtual 70, 3) := by decide +kernel
theorem dX8_ride_5 : decode cX8_ride 5 = .ok (.ifCond .ne 5, 3) := by decide +kernel
theorem dX8_ride_8 : decode cX8_ride 8 = .ok (.iconst (-1), 1) := by decide +kernel
theorem dX8_ride_9 : decode cX8_ride 9 = .ok (.ireturn, 1) := by decide +kernel
theorem dX8_ride_10 : decode cX8_ride 10 = .ok (.iload_n 2, 1) := by decide +kernel
theorem dX8_ride_11 : decode cX8_ride 11 = .ok (.bipush (-6), 2) := by decide +kernel
theorem dX8_ride_13 : decode cX8_ride 13 = .ok (.if_icmp .eq 17, 3) := by decide +kernel
theorem dX8_ride_16 : decode cX8_ride 16 = .ok (.iload_n 2, 1) := by decide +kernel
theorem dX8_ride_17 : decode cX8_ride 17 = .ok (.iconst 0, 1) := by decide +kernel
theorem dX8_ride_18 : decode cX8_ride 18 = .ok (.iload_n 1, 1) := by decide +kernel
theorem dX8_ride_19 : decode cX8_ride 19 = .ok (.iconst 1, 1) := by decide +kernel
theorem dX8_ride_20 : decode cX8_ride 20 = .ok (.isub, 1) := by decide +kernel
theorem dX8_ride_21 : decode cX8_ride 21 = .ok (.invokestatic 30, 3) := by decide +kernel
theorem dX8_ride_24 : decode cX8_ride 24 = .ok (.ifCond .ne 6, 3) := by decide +kernel
theorem dX8_ride_27 : decode cX8_ride 27 = .ok (.bipush (-2), 2) := by decide +kernel
theorem dX8_ride_29 : decode cX8_ride 29 = .ok (.ireturn, 1) := by decide +kernel
theorem dX8_ride_30 : decode cX8_ride 30 = .ok (.aload_n 0, 1) := by decide +kernel
theorem dX8_ride_31 : decode cX8_ride 31 = .ok (.invokevirtual 60, 3) := by decide +kernel
theorem dX8_ride_34 : decode cX8_ride 34 = .ok (.aload_n 0, 1) := by decide +kernel
theorem dX8_ride_35 : decode cX8_ride 35 = .ok (.iload_n 1, 1) := by decide +kernel
theorem dX8_ride_36 : decode cX8_ride 36 = .ok (.bipush 7, 2) := by decide +kernel
theorem dX8_ride_38 : decode cX8_ride 38 = .ok (.invokevirtual 34, 3) := by decide +kernel
theorem dX8_ride_41 : decode cX8_ride 41 = .ok (.istore_n 3, 1) := by decide +kernel
theorem dX8_ride_42 : decode cX8_ride 42 = .ok (.aload_n 0, 1) := by decide +kernel
theorem dX8_ride_43 : decode cX8_ride 43 = .ok (.iload_n 1, 1) := by decide +kernel
theorem dX8_ride_44 : decode cX8_ride 44 = .ok (.aload_n 0, 1) := by decide +kernel
theorem dX8_ride_45 : decode cX8_ride 45 = .ok (.iload_n 1, 1) := by decide +kernel
theorem dX8_ride_46 : decode cX8_ride 46 = .ok (.iconst 5, 1) := by decide +kernel
theorem dX8_ride_47 : decode cX8_ride 47 = .ok (.invokevirtual 34, 3) := by decide +kernel
theorem dX8_ride_50 : decode cX8_ride 50 = .ok (.iload_n 2, 1) := by decide +kernel
theorem dX8_ride_51 : decode cX8_ride 51 = .ok (.bipush (-6), 2) := by decide +kernel
theorem dX8_ride_53 : decode cX8_ride 53 = .ok (.if_icmp .ne 7, 3) := by decide +kernel
theorem dX8_ride_56 : decode cX8_ride 56 = .ok (.iconst (-1), 1) := by decide +kernel
theorem dX8_ride_57 : decode cX8_ride 57 = .ok (.goto 4, 3) := by decide +kernel
theorem dX8_ride_60 : decode cX8_ride 60 = .ok (.iload_n 2, 1) := by decide +kernel
theorem dX8_ride_61 : decode cX8_ride 61 = .ok (.invokevirtual 73, 3) := by decide +kernel
theorem dX8_ride_64 : decode cX8_ride 64 = .ok (.iload_n 3, 1) := by decide +kernel
theorem dX8_ride_65 : decode cX8_ride 65 = .ok (.ifCond .ge 8, 3) := by decide +kernel
theorem dX8_ride_68 : decode cX8_ride 68 = .ok (.bipush (-6), 2) := by decide +kernel
theorem dX8_ride_70 : decode cX8_ride 70 = .ok (.goto 4, 3) := by decide +kernel
theorem dX8_ride_73 : decode cX8_ride 73 = .ok (.iload_n 3, 1) := by decide +kernel
theorem dX8_ride_74 : decode cX8_ride 74 = .ok (.ireturn, 1) := by decide +kernel
set_option maxRecDepth 20000 in
theorem ggX8_isFlash_X8_in : GoodIn wsX8_isFlash wsX8_in := goodIn_r _ [4] (by decide +kernel) (by decide +kernel)
set_option maxRecDepth 20000 in
theorem gX8_isFlash_X8_in : GoodIn wsX8_isFlash (va_wsS RX8 30 yX8_in wsX8_in) := goodIn_app (goodIn_of _ (by decide +kernel)) ggX8_isFlash_X8_in
theorem dX8_isFlash_0 : decode cX8_isFlash 0 = .ok (.iload_n 0, 1) := by decide +kernel
theorem dX8_isFlash_1 : decode cX8_isFlash 1 = .ok (.iconst 0, 1) := by decide +kernel
theorem dX8_isFlash_2 : decode cX8_isFlash 2 = .ok (.bipush 99, 2) := by decide +kernel
theorem dX8_isFlash_4 : decode cX8_isFlash 4 = .ok (.invokestatic 30, 3) := by decide +kernel
theorem dX8_isFlash_7 : decode cX8_isFlash 7 = .ok (.ifCond .eq 17, 3) := by decide +kernel
theorem dX8_isFlash_10 : decode cX8_isFlash 10 = .ok (.iload_n 1, 1) := by decide +kernel
theorem dX8_isFlash_11 : decode cX8_isFlash 11 = .ok (.iconst 1, 1) := by decide +kernel
theorem dX8_isFlash_12 : decode cX8_isFlash 12 = .ok (.bipush 20, 2) := by decide +kernel
theorem dX8_isFlash_14 : decode cX8_isFlash 14 = .ok (.invokestatic 30, 3) := by decide +kernel
theorem dX8_isFlash_17 : decode cX8_isFlash 17 = .ok (.ifCond .eq 7, 3) := by decide +kernel
theorem dX8_isFlash_20 : decode cX8_isFlash 20 = .ok (.iconst 1, 1) := by decide +kernel
theorem dX8_isFlash_21 : decode cX8_isFlash 21 = .ok (.goto 4, 3) := by decide +kernel
theorem dX8_isFlash_24 : decode cX8_isFlash 24 = .ok (.iconst 0, 1) := by decide +kernel
theorem dX8_isFlash_25 : decode cX8_isFlash 25 = .ok (.ireturn, 1) := by decide +kernel
theorem dX8_flashes_0 : decode cX8_flashes 0 = .ok (.aload_n 0, 1) := by decide +kernel
theorem dX8_flashes_1 : decode cX8_flashes 1 = .ok (.getfield 7, 3) := by decide +kernel
theorem dX8_flashes_4 : decode cX8_flashes 4 = .ok (.bipush 7, 2) := by decide +kernel
theorem dX8_flashes_6 : decode cX8_flashes 6 = .ok (.aload_n 0, 1) := by decide +kernel
theorem dX8_flashes_7 : decode cX8_flashes 7 = .ok (.getfield 7, 3) := by decide +kernel
theorem dX8_flashes_10 : decode cX8_flashes 10 = .ok (.iconst 4, 1) := by decide +kernel
theorem dX8_flashes_11 : decode cX8_flashes 11 = .ok (.iaload, 1) := by decide +kernel
theorem dX8_flashes_12 : decode cX8_flashes 12 = .ok (.iload_n 1, 1) := by decide +kernel
theorem dX8_flashes_13 : decode cX8_flashes 13 = .ok (.iadd, 1) := by decide +kernel
theorem dX8_flashes_14 : decode cX8_flashes 14 = .ok (.iastore, 1) := by decide +kernel
theorem dX8_flashes_15 : decode cX8_flashes 15 = .ok (.aload_n 0, 1) := by decide +kernel
theorem dX8_flashes_16 : decode cX8_flashes 16 = .ok (.getfield 7, 3) := by decide +kernel
theorem dX8_flashes_19 : decode cX8_flashes 19 = .ok (.bipush 8, 2) := by decide +kernel
theorem dX8_flashes_21 : decode cX8_flashes 21 = .ok (.iload_n 2, 1) := by decide +kernel
theorem dX8_flashes_22 : decode cX8_flashes 22 = .ok (.iastore, 1) := by decide +kernel
theorem dX8_flashes_23 : decode cX8_flashes 23 = .ok (.aload_n 0, 1) := by decide +kernel
theorem dX8_flashes_24 : decode cX8_flashes 24 = .ok (.getfield 7, 3) := by decide +kernel
theorem dX8_flashes_27 : decode cX8_flashes 27 = .ok (.bipush 7, 2) := by decide +kernel
theorem dX8_flashes_29 : decode cX8_flashes 29 = .ok (.iaload, 1) := by decide +kernel
theorem dX8_flashes_30 : decode cX8_flashes 30 = .ok (.ireturn, 1) := by decide +kernel
set_option maxRecDepth 20000 in
theorem ggX8_flash_X8_isFlash : GoodIn wsX8_flash wsX8_isFlash := goodIn_r _ [4, 5, 6, 3, 7] (by decide +kernel) (by decide +kernel)
set_option maxRecDepth 20000 in
theorem gX8_flash_X8_isFlash : GoodIn wsX8_flash (va_wsS RX8 77 yX8_isFlash wsX8_isFlash) := goodIn_app (goodIn_of _ (by decide +kernel)) ggX8_flash_X8_isFlash
set_option maxRecDepth 20000 in
theorem ggX8_flash_X8_remembers : GoodIn wsX8_flash wsX8_remembers := goodIn_r _ [11, 12, 13, 14, 19, 20, 21, 22, 23, 24, 25] (by decide +kernel) (by decide +kernel)
set_option maxRecDepth 20000 in
theorem gX8_flash_X8_remembers : GoodIn wsX8_flash (wsV RX8 60 RX8 yX8_remembers wsX8_remembers) := goodIn_app (goodIn_of _ (by decide +kernel)) ggX8_flash_X8_remembers
set_option maxRecDepth 20000 in
theorem ggX8_flash_X8_flashes : GoodIn wsX8_flash wsX8_flashes := goodIn_r _ [18, 14, 19, 20, 21, 22, 23, 24, 25] (by decide +kernel) (by decide +kernel)
set_option maxRecDepth 20000 in
theorem gX8_flash_X8_flashes : GoodIn wsX8_flash (wsV RX8 81 RX8 yX8_flashes wsX8_flashes) := goodIn_app (goodIn_of _ (by decide +kernel)) ggX8_flash_X8_flashes
theorem dX8_flash_0 : decode cX8_flash 0 = .ok (.iload_n 1, 1) := by decide +kernel
theorem dX8_flash_1 : decode cX8_flash 1 = .ok (.iload_n 2, 1) := by decide +kernel
theorem dX8_flash_2 : decode cX8_flash 2 = .ok (.invokestatic 77, 3) := by decide +kernel
theorem dX8_flash_5 : decode cX8_flash 5 = .ok (.ifCond .ne 6, 3) := by decide +kernel
theorem dX8_flash_8 : decode cX8_flash 8 = .ok (.bipush (-2), 2) := by decide +kernel
theorem dX8_flash_10 : decode cX8_flash 10 = .ok (.ireturn, 1) := by decide +kernel
theorem dX8_flash_11 : decode cX8_flash 11 = .ok (.aload_n 0, 1) := by decide +kernel
theorem dX8_flash_12 : decode cX8_flash 12 = .ok (.invokevirtual 60, 3) := by decide +kernel
theorem dX8_flash_15 : decode cX8_flash 15 = .ok (.aload_n 0, 1) := by decide +kernel
theorem dX8_flash_16 : decode cX8_flash 16 = .ok (.iload_n 1, 1) := by decide +kernel
theorem dX8_flash_17 : decode cX8_flash 17 = .ok (.iload_n 2, 1) := by decide +kernel
theorem dX8_flash_18 : decode cX8_flash 18 = .ok (.invokevirtual 81, 3) := by decide +kernel
theorem dX8_flash_21 : decode cX8_flash 21 = .ok (.ireturn, 1) := by decide +kernel
set_option maxRecDepth 20000 in
theorem ggX8_whyNotPass_X8_in : GoodIn wsX8_whyNotPass wsX8_in := goodIn_r _ [5] (by decide +kernel) (by decide +kernel)
set_option maxRecDepth 20000 in
theorem gX8_whyNotPass_X8_in : GoodIn wsX8_whyNotPass (va_wsS RX8 30 yX8_in wsX8_in) := goodIn_app (goodIn_of _ (by decide +kernel)) ggX8_whyNotPass_X8_in
theorem dX8_whyNotPass_0 : decode cX8_whyNotPass 0 = .ok (.iload_n 1, 1) := by decide +kernel
theorem dX8_whyNotPass_1 : decode cX8_whyNotPass 1 = .ok (.iconst 1, 1) := by decide +kernel
theorem dX8_whyNotPass_2 : decode cX8_whyNotPass 2 = .ok (.bipush 99, 2) := by decide +kernel
theorem dX8_whyNotPass_4 : decode cX8_whyNotPass 4 = .ok (.invokestatic 30, 3) := by decide +kernel
theorem dX8_whyNotPass_7 : decode cX8_whyNotPass 7 = .ok (.ifCond .ne 8, 3) := by decide +kernel
theorem dX8_whyNotPass_10 : decode cX8_whyNotPass 10 = .ok (.bipush (-2), 2) := by decide +kernel
theorem dX8_whyNotPass_12 : decode cX8_whyNotPass 12 = .ok (.goto 23, 3) := by decide +kernel
theorem dX8_whyNotPass_15 : decode cX8_whyNotPass 15 = .ok (.aload_n 0, 1) := by decide +kernel
theorem dX8_whyNotPass_16 : decode cX8_whyNotPass 16 = .ok (.getfield 7, 3) := by decide +kernel
theorem dX8_whyNotPass_19 : decode cX8_whyNotPass 19 = .ok (.iconst 4, 1) := by decide +kernel
theorem dX8_whyNotPass_20 : decode cX8_whyNotPass 20 = .ok (.iaload, 1) := by decide +kernel
theorem dX8_whyNotPass_21 : decode cX8_whyNotPass 21 = .ok (.iload_n 1, 1) := by decide +kernel
theorem dX8_whyNotPass_22 : decode cX8_whyNotPass 22 = .ok (.iadd, 1) := by decide +kernel
theorem dX8_whyNotPass_23 : decode cX8_whyNotPass 23 = .ok (.sipush 9999, 3) := by decide +kernel
theorem dX8_whyNotPass_26 : decode cX8_whyNotPass 26 = .ok (.if_icmp .le 8, 3) := by decide +kernel
theorem dX8_whyNotPass_29 : decode cX8_whyNotPass 29 = .ok (.bipush (-5), 2) := by decide +kernel
theorem dX8_whyNotPass_31 : decode cX8_whyNotPass 31 = .ok (.goto 4, 3) := by decide +kernel
theorem dX8_whyNotPass_34 : decode cX8_whyNotPass 34 = .ok (.iconst 0, 1) := by decide +kernel
theorem dX8_whyNotPass_35 : decode cX8_whyNotPass 35 = .ok (.ireturn, 1) := by decide +kernel
set_option maxRecDepth 20000 in
theorem ggX8_pass_X8_whyNotPass : GoodIn wsX8_pass wsX8_whyNotPass := goodIn_r _ [6, 1, 7, 8, 5, 9, 16, 17, 18, 19, 20, 21, 22] (by decide +kernel) (by decide +kernel)
set_option maxRecDepth 20000 in
theorem gX8_pass_X8_whyNotPass : GoodIn wsX8_pass (wsV RX8 84 RX8 yX8_whyNotPass wsX8_whyNotPass) := goodIn_app (goodIn_of _ (by decide +kernel)) ggX8_pass_X8_whyNotPass
set_option maxRecDepth 20000 in
theorem ggX8_pass_X8_remembers : GoodIn wsX8_pass wsX8_remembers := goodIn_r _ [13, 14, 15, 1, 16, 17, 18, 19, 20, 21, 22] (by decide +kernel) (by decide +kernel)
set_option maxRecDepth 20000 in
theorem gX8_pass_X8_remembers : GoodIn wsX8_pass (wsV RX8 60 RX8 yX8_remembers wsX8_remembers) := goodIn_app (goodIn_of _ (by decide +kernel)) ggX8_pass_X8_remembers
theorem dX8_pass_0 : decode cX8_pass 0 = .ok (.aload_n 0, 1) := by decide +kernel
theorem dX8_pass_1 : decode cX8_pass 1 = .ok (.iload_n 1, 1) := by decide +kernel
theorem dX8_pass_2 : decode cX8_pass 2 = .ok (.invokevirtual 84, 3) := by decide +kernel
theorem dX8_pass_5 : decode cX8_pass 5 = .ok (.istore_n 2, 1) := by decide +kernel
theorem dX8_pass_6 : decode cX8_pass 6 = .ok (.iload_n 2, 1) := by decide +kernel
theorem dX8_pass_7 : decode cX8_pass 7 = .ok (.ifCond .ge 5, 3) := by decide +kernel
theorem dX8_pass_10 : decode cX8_pass 10 = .ok (.iload_n 2, 1) := by decide +kernel
theorem dX8_pass_11 : decode cX8_pass 11 = .ok (.ireturn, 1) := by decide +kernel
theorem dX8_pass_12 : decode cX8_pass 12 = .ok (.aload_n 0, 1) := by decide +kernel
theorem dX8_pass_13 : decode cX8_pass 13 = .ok (.invokevirtual 60, 3) := by decide +kernel
theorem dX8_pass_16 : decode cX8_pass 16 = .ok (.aload_n 0, 1) := by decide +kernel
theorem dX8_pass_17 : decode cX8_pass 17 = .ok (.getfield 7, 3) := by decide +kernel
theorem dX8_pass_20 : decode cX8_pass 20 = .ok (.iconst 4, 1) := by decide +kernel
theorem dX8_pass_21 : decode cX8_pass 21 = .ok (.dup2, 1) := by decide +kernel
theorem dX8_pass_22 : decode cX8_pass 22 = .ok (.iaload, 1) := by decide +kernel
theorem dX8_pass_23 : decode cX8_pass 23 = .ok (.iload_n 1, 1) := by decide +kernel
theorem dX8_pass_24 : decode cX8_pass 24 = .ok (.iadd, 1) := by decide +kernel
theorem dX8_pass_25 : decode cX8_pass 25 = .ok (.iastore, 1) := by decide +kernel
theorem dX8_pass_26 : decode cX8_pass 26 = .ok (.aload_n 0, 1) := by decide +kernel
theorem dX8_pass_27 : decode cX8_pass 27 = .ok (.getfield 7, 3) := by decide +kernel
theorem dX8_pass_30 : decode cX8_pass 30 = .ok (.iconst 4, 1) := by decide +kernel
theorem dX8_pass_31 : decode cX8_pass 31 = .ok (.iaload, 1) := by decide +kernel
theorem dX8_pass_32 : decode cX8_pass 32 = .ok (.ireturn, 1) := by decide +kernel
theorem dX8_whyNotShoot_0 : decode cX8_whyNotShoot 0 = .ok (.aload_n 0, 1) := by decide +kernel
theorem dX8_whyNotShoot_1 : decode cX8_whyNotShoot 1 = .ok (.getfield 7, 3) := by decide +kernel
theorem dX8_whyNotShoot_4 : decode cX8_whyNotShoot 4 = .ok (.iconst 4, 1) := by decide +kernel
theorem dX8_whyNotShoot_5 : decode cX8_whyNotShoot 5 = .ok (.iaload, 1) := by decide +kernel
theorem dX8_whyNotShoot_6 : decode cX8_whyNotShoot 6 = .ok (.bipush 15, 2) := by decide +kernel
theorem dX8_whyNotShoot_8 : decode cX8_whyNotShoot 8 = .ok (.aload_n 0, 1) := by decide +kernel
theorem dX8_whyNotShoot_9 : decode cX8_whyNotShoot 9 = .ok (.getfield 7, 3) := by decide +kernel
theorem dX8_whyNotShoot_12 : decode cX8_whyNotShoot 12 = .ok (.iconst 0, 1) := by decide +kernel
theorem dX8_whyNotShoot_13 : decode cX8_whyNotShoot 13 = .ok (.iaload, 1) := by decide +kernel
theorem dX8_whyNotShoot_14 : decode cX8_whyNotShoot 14 = .ok (.imul, 1) := by decide +kernel
theorem dX8_whyNotShoot_15 : decode cX8_whyNotShoot 15 = .ok (.iadd, 1) := by decide +kernel
theorem dX8_whyNotShoot_16 : decode cX8_whyNotShoot 16 = .ok (.aload_n 0, 1) := by decide +kernel
theorem dX8_whyNotShoot_17 : decode cX8_whyNotShoot 17 = .ok (.getfield 7, 3) := by decide +kernel
theorem dX8_whyNotShoot_20 : decode cX8_whyNotShoot 20 = .ok (.iconst 1, 1) := by decide +kernel
theorem dX8_whyNotShoot_21 : decode cX8_whyNotShoot 21 = .ok (.iaload, 1) := by decide +kernel
theorem dX8_whyNotShoot_22 : decode cX8_whyNotShoot 22 = .ok (.iadd, 1) := by decide +kernel
theorem dX8_whyNotShoot_23 : decode cX8_whyNotShoot 23 = .ok (.sipush 9999, 3) := by decide +kernel
theorem dX8_whyNotShoot_26 : decode cX8_whyNotShoot 26 = .ok (.if_icmp .le 8, 3) := by decide +kernel
theorem dX8_whyNotShoot_29 : decode cX8_whyNotShoot 29 = .ok (.bipush (-5), 2) := by decide +kernel
theorem dX8_whyNotShoot_31 : decode cX8_whyNotShoot 31 = .ok (.goto 4, 3) := by decide +kernel
theorem dX8_whyNotShoot_34 : decode cX8_whyNotShoot 34 = .ok (.iconst 0, 1) := by decide +kernel
theorem dX8_whyNotShoot_35 : decode cX8_whyNotShoot 35 = .ok (.ireturn, 1) := by decide +kernel
set_option maxRecDepth 20000 in
theorem ggX8_shoots_X8_exposed : GoodIn wsX8_shoots wsX8_exposed := goodIn_r _ [6, 1, 7, 8, 9, 5, 10, 11, 12, 13, 14, 15, 16, 17, 18, 19, 20, 21, 22, 23, 24, 25, 26, 27, 28, 29, 30, 31, 32, 33, 34, 35, 36, 37, 38, 39, 40, 41, 42, 43] (by decide +kernel) (by decide +kernel)
set_option maxRecDepth 20000 in
theorem gX8_shoots_X8_exposed : GoodIn wsX8_shoots (wsV RX8 87 RX8 yX8_exposed wsX8_exposed) := goodIn_app (goodIn_of _ (by decide +kernel)) ggX8_shoots_X8_exposed
theorem dX8_shoots_0 : decode cX8_shoots 0 = .ok (.iconst 0, 1) := by decide +kernel
theorem dX8_shoots_1 : decode cX8_shoots 1 = .ok (.istore_n 1, 1) := by decide +kernel
theorem dX8_shoots_2 : decode cX8_shoots 2 = .ok (.iconst 0, 1) := by decide +kernel
theorem dX8_shoots_3 : decode cX8_shoots 3 = .ok (.istore_n 2, 1) := by decide +kernel
theorem dX8_shoots_4 : decode cX8_shoots 4 = .ok (.iload_n 2, 1) := by decide +kernel
theorem dX8_shoots_5 : decode cX8_shoots 5 = .ok (.sipush 384, 3) := by decide +kernel
theorem dX8_shoots_8 : decode cX8_shoots 8 = .ok (.if_icmp .ge 54, 3) := by decide +kernel
theorem dX8_shoots_11 : decode cX8_shoots 11 = .ok (.aload_n 0, 1) := by decide +kernel
theorem dX8_shoots_12 : decode cX8_shoots 12 = .ok (.iload_n 2, 1) := by decide +kernel
theorem dX8_shoots_13 : decode cX8_shoots 13 = .ok (.bipush 24, 2) := by decide +kernel
theorem dX8_shoots_15 : decode cX8_shoots 15 = .ok (.idiv, 1) := by decide +kernel
theorem dX8_shoots_16 : decode cX8_shoots 16 = .ok (.iload_n 2, 1) := by decide +kernel
theorem dX8_shoots_17 : decode cX8_shoots 17 = .ok (.bipush 24, 2) := by decide +kernel
theorem dX8_shoots_19 : decode cX8_shoots 19 = .ok (.irem, 1) := by decide +kernel
theorem dX8_shoots_20 : decode cX8_shoots 20 = .ok (.aload_n 0, 1) := by decide +kernel
theorem dX8_shoots_21 : decode cX8_shoots 21 = .ok (.getfield 7, 3) := by decide +kernel
theorem dX8_shoots_24 : decode cX8_shoots 24 = .ok (.iconst 4, 1) := by decide +kernel
theorem dX8_shoots_25 : decode cX8_shoots 25 = .ok (.iaload, 1) := by decide +kernel
theorem dX8_shoots_26 : decode cX8_shoots 26 = .ok (.iload_n 2, 1) := by decide +kernel
theorem dX8_shoots_27 : decode cX8_shoots 27 = .ok (.bipush 24, 2) := by decide +kernel
theorem dX8_shoots_29 : decode cX8_shoots 29 = .ok (.idiv, 1) := by decide +kernel
theorem dX8_shoots_30 : decode cX8_shoots 30 = .ok (.aload_n 0, 1) := by decide +kernel
theorem dX8_shoots_31 : decode cX8_shoots 31 = .ok (.getfield 7, 3) := by decide +kernel
theorem dX8_shoots_34 : decode cX8_shoots 34 = .ok (.iconst 0, 1) := by decide +kernel
theorem dX8_shoots_35 : decode cX8_shoots 35 = .ok (.iaload, 1) := by decide +kernel
theorem dX8_shoots_36 : decode cX8_shoots 36 = .ok (.imul, 1) := by decide +kernel
theorem dX8_shoots_37 : decode cX8_shoots 37 = .ok (.iadd, 1) := by decide +kernel
theorem dX8_shoots_38 : decode cX8_shoots 38 = .ok (.invokevirtual 87, 3) := by decide +kernel
theorem dX8_shoots_41 : decode cX8_shoots 41 = .ok (.istore_n 3, 1) := by decide +kernel
theorem dX8_shoots_42 : decode cX8_shoots 42 = .ok (.aload_n 0, 1) := by decide +kernel
theorem dX8_shoots_43 : decode cX8_shoots 43 = .ok (.getfield 7, 3) := by decide +kernel
theorem dX8_shoots_46 : decode cX8_shoots 46 = .ok (.bipush 81, 2) := by decide +kernel
theorem dX8_shoots_48 : decode cX8_shoots 48 = .ok (.iload_n 2, 1) := by decide +kernel
theorem dX8_shoots_49 : decode cX8_shoots 49 = .ok (.iadd, 1) := by decide +kernel
theorem dX8_shoots_50 : decode cX8_shoots 50 = .ok (.iload_n 3, 1) := by decide +kernel
theorem dX8_shoots_51 : decode cX8_shoots 51 = .ok (.iastore, 1) := by decide +kernel
theorem dX8_shoots_52 : decode cX8_shoots 52 = .ok (.iload_n 1, 1) := by decide +kernel
theorem dX8_shoots_53 : decode cX8_shoots 53 = .ok (.iload_n 3, 1) := by decide +kernel
theorem dX8_shoots_54 : decode cX8_shoots 54 = .ok (.iadd, 1) := by decide +kernel
theorem dX8_shoots_55 : decode cX8_shoots 55 = .ok (.istore_n 1, 1) := by decide +kernel
theorem dX8_shoots_56 : decode cX8_shoots 56 = .ok (.iinc 2 1, 3) := by decide +kernel
theorem dX8_shoots_59 : decode cX8_shoots 59 = .ok (.goto (-55), 3) := by decide +kernel
theorem dX8_shoots_62 : decode cX8_shoots 62 = .ok (.aload_n 0, 1) := by decide +kernel
theorem dX8_shoots_63 : decode cX8_shoots 63 = .ok (.getfield 7, 3) := by decide +kernel
theorem dX8_shoots_66 : decode cX8_shoots 66 = .ok (.iconst 4, 1) := by decide +kernel
theorem dX8_shoots_67 : decode cX8_shoots 67 = .ok (.dup2, 1) := by decide +kernel
theorem dX8_shoots_68 : decode cX8_shoots 68 = .ok (.iaload, 1) := by decide +kernel
theorem dX8_shoots_69 : decode cX8_shoots 69 = .ok (.bipush 15, 2) := by decide +kernel
theorem dX8_shoots_71 : decode cX8_shoots 71 = .ok (.aload_n 0, 1) := by decide +kernel
theorem dX8_shoots_72 : decode cX8_shoots 72 = .ok (.getfield 7, 3) := by decide +kernel
theorem dX8_shoots_75 : decode cX8_shoots 75 = .ok (.iconst 0, 1) := by decide +kernel
theorem dX8_shoots_76 : decode cX8_shoots 76 = .ok (.iaload, 1) := by decide +kernel
theorem dX8_shoots_77 : decode cX8_shoots 77 = .ok (.imul, 1) := by decide +kernel
theorem dX8_shoots_78 : decode cX8_shoots 78 = .ok (.aload_n 0, 1) := by decide +kernel
theorem dX8_shoots_79 : decode cX8_shoots 79 = .ok (.getfield 7, 3) := by decide +kernel
theorem dX8_shoots_82 : decode cX8_shoots 82 = .ok (.iconst 1, 1) := by decide +kernel
theorem dX8_shoots_83 : decode cX8_shoots 83 = .ok (.iaload, 1) := by decide +kernel
theorem dX8_shoots_84 : decode cX8_shoots 84 = .ok (.iadd, 1) := by decide +kernel
theorem dX8_shoots_85 : decode cX8_shoots 85 = .ok (.iadd, 1) := by decide +kernel
theorem dX8_shoots_86 : decode cX8_shoots 86 = .ok (.iastore, 1) := by decide +kernel
theorem dX8_shoots_87 : decode cX8_shoots 87 = .ok (.aload_n 0, 1) := by decide +kernel
theorem dX8_shoots_88 : decode cX8_shoots 88 = .ok (.getfield 7, 3) := by decide +kernel
theorem dX8_shoots_91 : decode cX8_shoots 91 = .ok (.bipush 6, 2) := by decide +kernel
theorem dX8_shoots_93 : decode cX8_shoots 93 = .ok (.dup2, 1) := by decide +kernel
theorem dX8_shoots_94 : decode cX8_shoots 94 = .ok (.iaload, 1) := by decide +kernel
theorem dX8_shoots_95 : decode cX8_shoots 95 = .ok (.iconst 1, 1) := by decide +kernel
theorem dX8_shoots_96 : decode cX8_shoots 96 = .ok (.iadd, 1) := by decide +kernel
theorem dX8_shoots_97 : decode cX8_shoots 97 = .ok (.iastore, 1) := by decide +kernel
theorem dX8_shoots_98 : decode cX8_shoots 98 = .ok (.iload_n 1, 1) := by decide +kernel
theorem dX8_shoots_99 : decode cX8_shoots 99 = .ok (.ireturn, 1) := by decide +kernel
set_option maxRecDepth 20000 in
theorem ggX8_shoot_X8_whyNotShoot : GoodIn wsX8_shoot wsX8_whyNotShoot := goodIn_r _ [5, 6, 51, 52, 53, 54, 55, 56, 57] (by decide +kernel) (by decide +kernel)
set_option maxRecDepth 20000 in
theorem gX8_shoot_X8_whyNotShoot : GoodIn wsX8_shoot (wsV RX8 90 RX8 yX8_whyNotShoot wsX8_whyNotShoot) := goodIn_app (goodIn_of _ (by decide +kernel)) ggX8_shoot_X8_whyNotShoot
set_option maxRecDepth 20000 in
theorem ggX8_shoot_X8_remembers : GoodIn wsX8_shoot wsX8_remembers := goodIn_r _ [10, 11, 12, 6, 51, 52, 53, 54, 55, 56, 57] (by decide +kernel) (by decide +kernel)
set_option maxRecDepth 20000 in
theorem gX8_shoot_X8_remembers : GoodIn wsX8_shoot (wsV RX8 60 RX8 yX8_remembers wsX8_remembers) := goodIn_app (goodIn_of _ (by decide +kernel)) ggX8_shoot_X8_remembers
set_option maxRecDepth 20000 in
theorem ggX8_shoot_X8_shoots : GoodIn wsX8_shoot wsX8_shoots := goodIn_r _ [16, 6, 17, 18, 19, 4, 20, 21, 22, 23, 24, 25, 26, 27, 28, 29, 30, 31, 32, 33, 34, 35, 36, 37, 38, 39, 40, 41, 42, 43, 44, 45, 46, 47, 48, 49, 50, 51, 52, 53, 54, 55, 56, 57] (by decide +kernel) (by decide +kernel)
set_option maxRecDepth 20000 in
theorem gX8_shoot_X8_shoots : GoodIn wsX8_shoot (wsV RX8 94 RX8 yX8_shoots wsX8_shoots) := goodIn_app (goodIn_of _ (by decide +kernel)) ggX8_shoot_X8_shoots
theorem dX8_shoot_0 : decode cX8_shoot 0 = .ok (.aload_n 0, 1) := by decide +kernel
theorem dX8_shoot_1 : decode cX8_shoot 1 = .ok (.invokevirtual 90, 3) := by decide +kernel
theorem dX8_shoot_4 : decode cX8_shoot 4 = .ok (.ifCond .ge 6, 3) := by decide +kernel
theorem dX8_shoot_7 : decode cX8_shoot 7 = .ok (.bipush (-5), 2) := by decide +kernel
theorem dX8_shoot_9 : decode cX8_shoot 9 = .ok (.ireturn, 1) := by decide +kernel
theorem dX8_shoot_10 : decode cX8_shoot 10 = .ok (.aload_n 0, 1) := by decide +kernel
theorem dX8_shoot_11 : decode cX8_shoot 11 = .ok (.invokevirtual 60, 3) := by decide +kernel
theorem dX8_shoot_14 : decode cX8_shoot 14 = .ok (.aload_n 0, 1) := by decide +kernel
theorem dX8_shoot_15 : decode cX8_shoot 15 = .ok (.invokevirtual 94, 3) := by decide +kernel
theorem dX8_shoot_18 : decode cX8_shoot 18 = .ok (.ireturn, 1) := by decide +kernel
set_option maxRecDepth 20000 in
theorem ggX8_of_X8_isThing : GoodIn wsX8_of wsX8_isThing := goodIn_r _ [6, 1, 7, 8, 5, 9, 25, 26, 27, 28, 29, 30, 31] (by decide +kernel) (by decide +kernel)
set_option maxRecDepth 20000 in
theorem gX8_of_X8_isThing : GoodIn wsX8_of (wsV RX8 70 RX8 yX8_isThing wsX8_isThing) := goodIn_app (goodIn_of _ (by decide +kernel)) ggX8_of_X8_isThing
set_option maxRecDepth 20000 in
theorem ggX8_of_X8_its : GoodIn wsX8_of wsX8_its := goodIn_r _ [13, 1, 25, 26, 27, 28, 29, 30, 31] (by decide +kernel) (by decide +kernel)
set_option maxRecDepth 20000 in
theorem gX8_of_X8_its : GoodIn wsX8_of (wsV RX8 34 RX8 yX8_its wsX8_its) := goodIn_app (goodIn_of _ (by decide +kernel)) ggX8_of_X8_its
set_option maxRecDepth 20000 in
theorem ggX8_of_X8_left : GoodIn wsX8_of wsX8_left := goodIn_r _ [17, 10, 11, 12, 5, 13, 1, 18, 19, 20, 25, 26, 27, 28, 29, 30, 31] (by decide +kernel) (by decide +kernel)
set_option maxRecDepth 20000 in
theorem gX8_of_X8_left : GoodIn wsX8_of (wsV RX8 42 RX8 yX8_left wsX8_left) := goodIn_app (goodIn_of _ (by decide +kernel)) ggX8_of_X8_left
set_option maxRecDepth 20000 in
theorem ggX8_of_X8_goes : GoodIn wsX8_of wsX8_goes := goodIn_r _ [24, 10, 11, 12, 5, 13, 1, 25, 26, 27, 28, 29, 30, 31] (by decide +kernel) (by decide +kernel)
set_option maxRecDepth 20000 in
theorem gX8_of_X8_goes : GoodIn wsX8_of (wsV RX8 97 RX8 yX8_goes wsX8_goes) := goodIn_app (goodIn_of _ (by decide +kernel)) ggX8_of_X8_goes
theorem dX8_of_0 : decode cX8_of 0 = .ok (.aload_n 0, 1) := by decide +kernel
theorem dX8_of_1 : decode cX8_of 1 = .ok (.iload_n 1, 1) := by decide +kernel
theorem dX8_of_2 : decode cX8_of 2 = .ok (.invokevirtual 70, 3) := by decide +kernel
theorem dX8_of_5 : decode cX8_of 5 = .ok (.ifCond .ne 5, 3) := by decide +kernel
theorem dX8_of_8 : decode cX8_of 8 = .ok (.iconst (-1), 1) := by decide +kernel
theorem dX8_of_9 : decode cX8_of 9 = .ok (.ireturn, 1) := by decide +kernel
theorem dX8_of_10 : decode cX8_of 10 = .ok (.iload_n 2, 1) := by decide +kernel
theorem dX8_of_11 : decode cX8_of 11 = .ok (.tableswitch 111 0 7 #[45, 52, 45, 45, 45, 68, 78, 101], 45) := by decide +kernel
theorem dX8_of_56 : decode cX8_of 56 = .ok (.aload_n 0, 1) := by decide +kernel
theorem dX8_of_57 : decode cX8_of 57 = .ok (.iload_n 1, 1) := by decide +kernel
theorem dX8_of_58 : decode cX8_of 58 = .ok (.iload_n 2, 1) := by decide +kernel
theorem dX8_of_59 : decode cX8_of 59 = .ok (.invokevirtual 34, 3) := by decide +kernel
theorem dX8_of_62 : decode cX8_of 62 = .ok (.ireturn, 1) := by decide +kernel
theorem dX8_of_63 : decode cX8_of 63 = .ok (.aload_n 0, 1) := by decide +kernel
theorem dX8_of_64 : decode cX8_of 64 = .ok (.iload_n 1, 1) := by decide +kernel
theorem dX8_of_65 : decode cX8_of 65 = .ok (.aload_n 0, 1) := by decide +kernel
theorem dX8_of_66 : decode cX8_of 66 = .ok (.getfield 7, 3) := by decide +kernel
theorem dX8_of_69 : decode cX8_of 69 = .ok (.iconst 4, 1) := by decide +kernel
theorem dX8_of_70 : decode cX8_of 70 = .ok (.iaload, 1) := by decide +kernel
theorem dX8_of_71 : decode cX8_of 71 = .ok (.invokevirtual 42, 3) := by decide +kernel
theorem dX8_of_74 : decode cX8_of 74 = .ok (.sipush 1000, 3) := by decide +kernel
theorem dX8_of_77 : decode cX8_of 77 = .ok (.iadd, 1) := by decide +kernel
theorem dX8_of_78 : decode cX8_of 78 = .ok (.ireturn, 1) := by decide +kernel
theorem dX8_of_79 : decode cX8_of 79 = .ok (.aload_n 0, 1) := by decide +kernel
theorem dX8_of_80 : decode cX8_of 80 = .ok (.iload_n 1, 1) := by decide +kernel
theorem dX8_of_81 : decode cX8_of 81 = .ok (.iconst 5, 1) := by decide +kernel
theorem dX8_of_82 : decode cX8_of 82 = .ok (.invokevirtual 34, 3) := by decide +kernel
theorem dX8_of_85 : decode cX8_of 85 = .ok (.bipush 100, 2) := by decide +kernel
theorem dX8_of_87 : decode cX8_of 87 = .ok (.iadd, 1) := by decide +kernel
theorem dX8_of_88 : decode cX8_of 88 = .ok (.ireturn, 1) := by decide +kernel
theorem dX8_of_89 : decode cX8_of 89 = .ok (.aload_n 0, 1) := by decide +kernel
theorem dX8_of_90 : decode cX8_of 90 = .ok (.iload_n 1, 1) := by decide +kernel
theorem dX8_of_91 : decode cX8_of 91 = .ok (.bipush 7, 2) := by decide +kernel
theorem dX8_of_93 : decode cX8_of 93 = .ok (.invokevirtual 34, 3) := by decide +kernel
theorem dX8_of_96 : decode cX8_of 96 = .ok (.ifCond .ge 8, 3) := by decide +kernel
theorem dX8_of_99 : decode cX8_of 99 = .ok (.bipush (-6), 2) := by decide +kernel
theorem dX8_of_101 : decode cX8_of 101 = .ok (.goto 10, 3) := by decide +kernel
theorem dX8_of_104 : decode cX8_of 104 = .ok (.aload_n 0, 1) := by decide +kernel
theorem dX8_of_105 : decode cX8_of 105 = .ok (.iload_n 1, 1) := by decide +kernel
theorem dX8_of_106 : decode cX8_of 106 = .ok (.bipush 7, 2) := by decide +kernel
theorem dX8_of_108 : decode cX8_of 108 = .ok (.invokevirtual 34, 3) := by decide +kernel
theorem dX8_of_111 : decode cX8_of 111 = .ok (.ireturn, 1) := by decide +kernel
theorem dX8_of_112 : decode cX8_of 112 = .ok (.aload_n 0, 1) := by decide +kernel
theorem dX8_of_113 : decode cX8_of 113 = .ok (.iload_n 1, 1) := by decide +kernel
theorem dX8_of_114 : decode cX8_of 114 = .ok (.invokevirtual 97, 3) := by decide +kernel
theorem dX8_of_117 : decode cX8_of 117 = .ok (.sipush 1000, 3) := by decide +kernel
theorem dX8_of_120 : decode cX8_of 120 = .ok (.iadd, 1) := by decide +kernel
theorem dX8_of_121 : decode cX8_of 121 = .ok (.ireturn, 1) := by decide +kernel
theorem dX8_of_122 : decode cX8_of 122 = .ok (.bipush (-2), 2) := by decide +kernel
theorem dX8_of_124 : decode cX8_of 124 = .ok (.ireturn, 1) := by decide +kernel
set_option maxRecDepth 20000 in
theorem ggX8_goes_X8_its : GoodIn wsX8_goes wsX8_its := goodIn_r _ [5, 6, 7, 8, 9, 10, 11, 12, 13] (by decide +kernel) (by decide +kernel)
set_option maxRecDepth 20000 in
theorem gX8_goes_X8_its : GoodIn wsX8_goes (wsV RX8 34 RX8 yX8_its wsX8_its) := goodIn_app (goodIn_of _ (by decide +kernel)) ggX8_goes_X8_its
theorem dX8_goes_0 : decode cX8_goes 0 = .ok (.iconst 0, 1) := by decide +kernel
theorem dX8_goes_1 : decode cX8_goes 1 = .ok (.istore_n 2, 1) := by decide +kernel
theorem dX8_goes_2 : decode cX8_goes 2 = .ok (.iload_n 1, 1) := by decide +kernel
theorem dX8_goes_3 : decode cX8_goes 3 = .ok (.istore_n 3, 1) := by decide +kernel
theorem dX8_goes_4 : decode cX8_goes 4 = .ok (.iload_n 3, 1) := by decide +kernel
theorem dX8_goes_5 : decode cX8_goes 5 = .ok (.ifCond .lt 23, 3) := by decide +kernel
theorem dX8_goes_8 : decode cX8_goes 8 = .ok (.iload_n 2, 1) := by decide +kernel
theorem dX8_goes_9 : decode cX8_goes 9 = .ok (.aload_n 0, 1) := by decide +kernel
theorem dX8_goes_10 : decode cX8_goes 10 = .ok (.iload_n 3, 1) := by decide +kernel
theorem dX8_goes_11 : decode cX8_goes 11 = .ok (.iconst 5, 1) := by decide +kernel
theorem dX8_goes_12 : decode cX8_goes 12 = .ok (.invokevirtual 34, 3) := by decide +kernel
theorem dX8_goes_15 : decode cX8_goes 15 = .ok (.iadd, 1) := by decide +kernel
theorem dX8_goes_16 : decode cX8_goes 16 = .ok (.istore_n 2, 1) := by decide +kernel
theorem dX8_goes_17 : decode cX8_goes 17 = .ok (.aload_n 0, 1) := by decide +kernel
theorem dX8_goes_18 : decode cX8_goes 18 = .ok (.iload_n 3, 1) := by decide +kernel
theorem dX8_goes_19 : decode cX8_goes 19 = .ok (.bipush 7, 2) := by decide +kernel
theorem dX8_goes_21 : decode cX8_goes 21 = .ok (.invokevirtual 34, 3) := by decide +kernel
theorem dX8_goes_24 : decode cX8_goes 24 = .ok (.istore_n 3, 1) := by decide +kernel
theorem dX8_goes_25 : decode cX8_goes 25 = .ok (.goto (-21), 3) := by decide +kernel
theorem dX8_goes_28 : decode cX8_goes 28 = .ok (.iload_n 2, 1) := by decide +kernel
theorem dX8_goes_29 : decode cX8_goes 29 = .ok (.ireturn, 1) := by decide +kernel
set_option maxRecDepth 20000 in
theorem ggX8_isPixel_X8_in : GoodIn wsX8_isPixel wsX8_in := goodIn_r _ [4] (by decide +kernel) (by decide +kernel)
set_option maxRecDepth 20000 in
theorem gX8_isPixel_X8_in : GoodIn wsX8_isPixel (va_wsS RX8 30 yX8_in wsX8_in) := goodIn_app (goodIn_of _ (by decide +kernel)) ggX8_isPixel_X8_in
theorem dX8_isPixel_0 : decode cX8_isPixel 0 = .ok (.iload_n 0, 1) := by decide +kernel
theorem dX8_isPixel_1 : decode cX8_isPixel 1 = .ok (.iconst 0, 1) := by decide +kernel
theorem dX8_isPixel_2 : decode cX8_isPixel 2 = .ok (.bipush 15, 2) := by decide +kernel
theorem dX8_isPixel_4 : decode cX8_isPixel 4 = .ok (.invokestatic 30, 3) := by decide +kernel
theorem dX8_isPixel_7 : decode cX8_isPixel 7 = .ok (.ifCond .eq 17, 3) := by decide +kernel
theorem dX8_isPixel_10 : decode cX8_isPixel 10 = .ok (.iload_n 1, 1) := by decide +kernel
theorem dX8_isPixel_11 : decode cX8_isPixel 11 = .ok (.iconst 0, 1) := by decide +kernel
theorem dX8_isPixel_12 : decode cX8_isPixel 12 = .ok (.bipush 23, 2) := by decide +kernel
theorem dX8_isPixel_14 : decode cX8_isPixel 14 = .ok (.invokestatic 30, 3) := by decide +kernel
theorem dX8_isPixel_17 : decode cX8_isPixel 17 = .ok (.ifCond .eq 7, 3) := by decide +kernel
theorem dX8_isPixel_20 : decode cX8_isPixel 20 = .ok (.iconst 1, 1) := by decide +kernel
theorem dX8_isPixel_21 : decode cX8_isPixel 21 = .ok (.goto 4, 3) := by decide +kernel
theorem dX8_isPixel_24 : decode cX8_isPixel 24 = .ok (.iconst 0, 1) := by decide +kernel
theorem dX8_isPixel_25 : decode cX8_isPixel 25 = .ok (.ireturn, 1) := by decide +kernel
set_option maxRecDepth 20000 in
theorem ggX8_pixel_X8_isPixel : GoodIn wsX8_pixel wsX8_isPixel := goodIn_r _ [5, 6, 7, 4, 8] (by decide +kernel) (by decide +kernel)
set_option maxRecDepth 20000 in
theorem gX8_pixel_X8_isPixel : GoodIn wsX8_pixel (va_wsS RX8 100 yX8_isPixel wsX8_isPixel) := goodIn_app (goodIn_of _ (by decide +kernel)) ggX8_pixel_X8_isPixel
theorem dX8_pixel_0 : decode cX8_pixel 0 = .ok (.iload_n 1, 1) := by decide +kernel
theorem dX8_pixel_1 : decode cX8_pixel 1 = .ok (.iload_n 2, 1) := by decide +kernel
theorem dX8_pixel_2 : decode cX8_pixel 2 = .ok (.invokestatic 100, 3) := by decide +kernel
theorem dX8_pixel_5 : decode cX8_pixel 5 = .ok (.ifCond .eq 20, 3) := by decide +kernel
theorem dX8_pixel_8 : decode cX8_pixel 8 = .ok (.aload_n 0, 1) := by decide +kernel
theorem dX8_pixel_9 : decode cX8_pixel 9 = .ok (.getfield 7, 3) := by decide +kernel
theorem dX8_pixel_12 : decode cX8_pixel 12 = .ok (.bipush 81, 2) := by decide +kernel
theorem dX8_pixel_14 : decode cX8_pixel 14 = .ok (.bipush 24, 2) := by decide +kernel
theorem dX8_pixel_16 : decode cX8_pixel 16 = .ok (.iload_n 1, 1) := by decide +kernel
theorem dX8_pixel_17 : decode cX8_pixel 17 = .ok (.imul, 1) := by decide +kernel
theorem dX8_pixel_18 : decode cX8_pixel 18 = .ok (.iadd, 1) := by decide +kernel
theorem dX8_pixel_19 : decode cX8_pixel 19 = .ok (.iload_n 2, 1) := by decide +kernel
theorem dX8_pixel_20 : decode cX8_pixel 20 = .ok (.iadd, 1) := by decide +kernel
theorem dX8_pixel_21 : decode cX8_pixel 21 = .ok (.iaload, 1) := by decide +kernel
theorem dX8_pixel_22 : decode cX8_pixel 22 = .ok (.goto 4, 3) := by decide +kernel
theorem dX8_pixel_25 : decode cX8_pixel 25 = .ok (.iconst (-1), 1) := by decide +kernel
theorem dX8_pixel_26 : decode cX8_pixel 26 = .ok (.ireturn, 1) := by decide +kernel
set_option maxRecDepth 20000 in
theorem ggX8_joined_X8_isPixel : GoodIn wsX8_joined wsX8_isPixel := goodIn_r _ [5, 6, 7, 4, 8] (by decide +kernel) (by decide +kernel)
set_option maxRecDepth 20000 in
theorem gX8_joined_X8_isPixel : GoodIn wsX8_joined (va_wsS RX8 100 yX8_isPixel wsX8_isPixel) := goodIn_app (goodIn_of _ (by decide +kernel)) ggX8_joined_X8_isPixel
theorem dX8_joined_0 : decode cX8_joined 0 = .ok (.iload_n 1, 1) := by decide +kernel
theorem dX8_joined_1 : decode cX8_joined 1 = .ok (.iload_n 2, 1) := by decide +kernel
theorem dX8_joined_2 : decode cX8_joined 2 = .ok (.invokestatic 100, 3) := by decide +kernel
theorem dX8_joined_5 : decode cX8_joined 5 = .ok (.ifCond .eq 16, 3) := by decide +kernel
theorem dX8_joined_8 : decode cX8_joined 8 = .ok (.iload_n 1, 1) := by decide +kernel
theorem dX8_joined_9 : decode cX8_joined 9 = .ok (.aload_n 0, 1) := by decide +kernel
theorem dX8_joined_10 : decode cX8_joined 10 = .ok (.getfield 7, 3) := by decide +kernel
theorem dX8_joined_13 : decode cX8_joined 13 = .ok (.iconst 3, 1) := by decide +kernel
theorem dX8_joined_14 : decode cX8_joined 14 = .ok (.iaload, 1) := by decide +kernel
theorem dX8_joined_15 : decode cX8_joined 15 = .ok (.imul, 1) := by decide +kernel
theorem dX8_joined_16 : decode cX8_joined 16 = .ok (.bipush 16, 2) := by decide +kernel
theorem dX8_joined_18 : decode cX8_joined 18 = .ok (.if_icmp .lt 5, 3) := by decide +kernel
theorem dX8_joined_21 : decode cX8_joined 21 = .ok (.iconst (-1), 1) := by decide +kernel
theorem dX8_joined_22 : decode cX8_joined 22 = .ok (.ireturn, 1) := by decide +kernel
theorem dX8_joined_23 : decode cX8_joined 23 = .ok (.iconst 0, 1) := by decide +kernel
theorem dX8_joined_24 : decode cX8_joined 24 = .ok (.istore_n 3, 1) := by decide +kernel
theorem dX8_joined_25 : decode cX8_joined 25 = .ok (.iload_n 1, 1) := by decide +kernel
theorem dX8_joined_26 : decode cX8_joined 26 = .ok (.aload_n 0, 1) := by decide +kernel
theorem dX8_joined_27 : decode cX8_joined 27 = .ok (.getfield 7, 3) := by decide +kernel
theorem dX8_joined_30 : decode cX8_joined 30 = .ok (.iconst 3, 1) := by decide +kernel
theorem dX8_joined_31 : decode cX8_joined 31 = .ok (.iaload, 1) := by decide +kernel
theorem dX8_joined_32 : decode cX8_joined 32 = .ok (.imul, 1) := by decide +kernel
theorem dX8_joined_33 : decode cX8_joined 33 = .ok (.istore 4, 2) := by decide +kernel
theorem dX8_joined_35 : decode cX8_joined 35 = .ok (.iload 4, 2) := by decide +kernel
theorem dX8_joined_37 : decode cX8_joined 37 = .ok (.iload_n 1, 1) := by decide +kernel
theorem dX8_joined_38 : decode cX8_joined 38 = .ok (.aload_n 0, 1) := by decide +kernel
theorem dX8_joined_39 : decode cX8_joined 39 = .ok (.getfield 7, 3) := by decide +kernel
theorem dX8_joined_42 : decode cX8_joined 42 = .ok (.iconst 3, 1) := by decide +kernel
theorem dX8_joined_43 : decode cX8_joined 43 = .ok (.iaload, 1) := by decide +kernel
theorem dX8_joined_44 : decode cX8_joined 44 = .ok (.imul, 1) := by decide +kernel
theorem dX8_joined_45 : decode cX8_joined 45 = .ok (.aload_n 0, 1) := by decide +kernel
theorem dX8_joined_46 : decode cX8_joined 46 = .ok (.getfield 7, 3) := by decide +kernel
theorem dX8_joined_49 : decode cX8_joined 49 = .ok (.iconst 3, 1) := by decide +kernel
theorem dX8_joined_50 : decode cX8_joined 50 = .ok (.iaload, 1) := by decide +kernel
theorem dX8_joined_51 : decode cX8_joined 51 = .ok (.iadd, 1) := by decide +kernel
theorem dX8_joined_52 : decode cX8_joined 52 = .ok (.if_icmp .ge 34, 3) := by decide +kernel
theorem dX8_joined_55 : decode cX8_joined 55 = .ok (.iload 4, 2) := by decide +kernel
theorem dX8_joined_57 : decode cX8_joined 57 = .ok (.bipush 16, 2) := by decide +kernel
theorem dX8_joined_59 : decode cX8_joined 59 = .ok (.if_icmp .ge 27, 3) := by decide +kernel
theorem dX8_joined_62 : decode cX8_joined 62 = .ok (.iload_n 3, 1) := by decide +kernel
theorem dX8_joined_63 : decode cX8_joined 63 = .ok (.aload_n 0, 1) := by decide +kernel
theorem dX8_joined_64 : decode cX8_joined 64 = .ok (.getfield 7, 3) := by decide +kernel
theorem dX8_joined_67 : decode cX8_joined 67 = .ok (.bipush 81, 2) := by decide +kernel
theorem dX8_joined_69 : decode cX8_joined 69 = .ok (.bipush 24, 2) := by decide +kernel
theorem dX8_joined_71 : decode cX8_joined 71 = .ok (.iload 4, 2) := by decide +kernel
theorem dX8_joined_73 : decode cX8_joined 73 = .ok (.imul, 1) := by decide +kernel
theorem dX8_joined_74 : decode cX8_joined 74 = .ok (.iadd, 1) := by decide +kernel
theorem dX8_joined_75 : decode cX8_joined 75 = .ok (.iload_n 2, 1) := by decide +kernel
theorem dX8_joined_76 : decode cX8_joined 76 = .ok (.iadd, 1) := by decide +kernel
theorem dX8_joined_77 : decode cX8_joined 77 = .ok (.iaload, 1) := by decide +kernel
theorem dX8_joined_78 : decode cX8_joined 78 = .ok (.iadd, 1) := by decide +kernel
theorem dX8_joined_79 : decode cX8_joined 79 = .ok (.istore_n 3, 1) := by decide +kernel
theorem dX8_joined_80 : decode cX8_joined 80 = .ok (.iinc 4 1, 3) := by decide +kernel
theorem dX8_joined_83 : decode cX8_joined 83 = .ok (.goto (-48), 3) := by decide +kernel
theorem dX8_joined_86 : decode cX8_joined 86 = .ok (.iload_n 3, 1) := by decide +kernel
theorem dX8_joined_87 : decode cX8_joined 87 = .ok (.ireturn, 1) := by decide +kernel
theorem dX8_lit_0 : decode cX8_lit 0 = .ok (.iconst 0, 1) := by decide +kernel
theorem dX8_lit_1 : decode cX8_lit 1 = .ok (.istore_n 2, 1) := by decide +kernel
theorem dX8_lit_2 : decode cX8_lit 2 = .ok (.iconst 0, 1) := by decide +kernel
theorem dX8_lit_3 : decode cX8_lit 3 = .ok (.istore_n 3, 1) := by decide +kernel
theorem dX8_lit_4 : decode cX8_lit 4 = .ok (.iload_n 3, 1) := by decide +kernel
theorem dX8_lit_5 : decode cX8_lit 5 = .ok (.bipush 24, 2) := by decide +kernel
theorem dX8_lit_7 : decode cX8_lit 7 = .ok (.if_icmp .ge 36, 3) := by decide +kernel
theorem dX8_lit_10 : decode cX8_lit 10 = .ok (.iload_n 2, 1) := by decide +kernel
theorem dX8_lit_11 : decode cX8_lit 11 = .ok (.aload_n 0, 1) := by decide +kernel
theorem dX8_lit_12 : decode cX8_lit 12 = .ok (.getfield 7, 3) := by decide +kernel
theorem dX8_lit_15 : decode cX8_lit 15 = .ok (.bipush 81, 2) := by decide +kernel
theorem dX8_lit_17 : decode cX8_lit 17 = .ok (.bipush 24, 2) := by decide +kernel
theorem dX8_lit_19 : decode cX8_lit 19 = .ok (.iload_n 1, 1) := by decide +kernel
theorem dX8_lit_20 : decode cX8_lit 20 = .ok (.imul, 1) := by decide +kernel
theorem dX8_lit_21 : decode cX8_lit 21 = .ok (.iadd, 1) := by decide +kernel
theorem dX8_lit_22 : decode cX8_lit 22 = .ok (.iload_n 3, 1) := by decide +kernel
theorem dX8_lit_23 : decode cX8_lit 23 = .ok (.iadd, 1) := by decide +kernel
theorem dX8_lit_24 : decode cX8_lit 24 = .ok (.iaload, 1) := by decide +kernel
theorem dX8_lit_25 : decode cX8_lit 25 = .ok (.ifCond .le 9, 3) := by decide +kernel
theorem dX8_lit_28 : decode cX8_lit 28 = .ok (.iconst 1, 1) := by decide +kernel
theorem dX8_lit_29 : decode cX8_lit 29 = .ok (.iload_n 3, 1) := by decide +kernel
theorem dX8_lit_30 : decode cX8_lit 30 = .ok (.ishl, 1) := by decide +kernel
theorem dX8_lit_31 : decode cX8_lit 31 = .ok (.goto 4, 3) := by decide +kernel
theorem dX8_lit_34 : decode cX8_lit 34 = .ok (.iconst 0, 1) := by decide +kernel
theorem dX8_lit_35 : decode cX8_lit 35 = .ok (.ior, 1) := by decide +kernel
end
section
theorem dX8_lit_36 : decode cX8_lit 36 = .ok (.istore_n 2, 1) := by decide +kernel
theorem dX8_lit_37 : decode cX8_lit 37 = .ok (.iinc 3 1, 3) := by decide +kernel
theorem dX8_lit_40 : decode cX8_lit 40 = .ok (.goto (-36), 3) := by decide +kernel
theorem dX8_lit_43 : decode cX8_lit 43 = .ok (.iload_n 2, 1) := by decide +kernel
theorem dX8_lit_44 : decode cX8_lit 44 = .ok (.ireturn, 1) := by decide +kernel
theorem dX8_sumOf_0 : decode cX8_sumOf 0 = .ok (.iconst 0, 1) := by decide +kernel
theorem dX8_sumOf_1 : decode cX8_sumOf 1 = .ok (.istore_n 2, 1) := by decide +kernel
theorem dX8_sumOf_2 : decode cX8_sumOf 2 = .ok (.iconst 0, 1) := by decide +kernel
theorem dX8_sumOf_3 : decode cX8_sumOf 3 = .ok (.istore_n 3, 1) := by decide +kernel
theorem dX8_sumOf_4 : decode cX8_sumOf 4 = .ok (.iload_n 3, 1) := by decide +kernel
theorem dX8_sumOf_5 : decode cX8_sumOf 5 = .ok (.bipush 24, 2) := by decide +kernel
theorem dX8_sumOf_7 : decode cX8_sumOf 7 = .ok (.if_icmp .ge 26, 3) := by decide +kernel
theorem dX8_sumOf_10 : decode cX8_sumOf 10 = .ok (.iload_n 2, 1) := by decide +kernel
theorem dX8_sumOf_11 : decode cX8_sumOf 11 = .ok (.aload_n 0, 1) := by decide +kernel
theorem dX8_sumOf_12 : decode cX8_sumOf 12 = .ok (.getfield 7, 3) := by decide +kernel
theorem dX8_sumOf_15 : decode cX8_sumOf 15 = .ok (.bipush 81, 2) := by decide +kernel
theorem dX8_sumOf_17 : decode cX8_sumOf 17 = .ok (.bipush 24, 2) := by decide +kernel
theorem dX8_sumOf_19 : decode cX8_sumOf 19 = .ok (.iload_n 1, 1) := by decide +kernel
theorem dX8_sumOf_20 : decode cX8_sumOf 20 = .ok (.imul, 1) := by decide +kernel
theorem dX8_sumOf_21 : decode cX8_sumOf 21 = .ok (.iadd, 1) := by decide +kernel
theorem dX8_sumOf_22 : decode cX8_sumOf 22 = .ok (.iload_n 3, 1) := by decide +kernel
theorem dX8_sumOf_23 : decode cX8_sumOf 23 = .ok (.iadd, 1) := by decide +kernel
theorem dX8_sumOf_24 : decode cX8_sumOf 24 = .ok (.iaload, 1) := by decide +kernel
theorem dX8_sumOf_25 : decode cX8_sumOf 25 = .ok (.iadd, 1) := by decide +kernel
theorem dX8_sumOf_26 : decode cX8_sumOf 26 = .ok (.istore_n 2, 1) := by decide +kernel
theorem dX8_sumOf_27 : decode cX8_sumOf 27 = .ok (.iinc 3 1, 3) := by decide +kernel
theorem dX8_sumOf_30 : decode cX8_sumOf 30 = .ok (.goto (-26), 3) := by decide +kernel
theorem dX8_sumOf_33 : decode cX8_sumOf 33 = .ok (.iload_n 2, 1) := by decide +kernel
theorem dX8_sumOf_34 : decode cX8_sumOf 34 = .ok (.ireturn, 1) := by decide +kernel
theorem dX8_leftmost_0 : decode cX8_leftmost 0 = .ok (.iconst 0, 1) := by decide +kernel
theorem dX8_leftmost_1 : decode cX8_leftmost 1 = .ok (.istore_n 2, 1) := by decide +kernel
theorem dX8_leftmost_2 : decode cX8_leftmost 2 = .ok (.iload_n 2, 1) := by decide +kernel
theorem dX8_leftmost_3 : decode cX8_leftmost 3 = .ok (.bipush 24, 2) := by decide +kernel
theorem dX8_leftmost_5 : decode cX8_leftmost 5 = .ok (.if_icmp .ge 28, 3) := by decide +kernel
theorem dX8_leftmost_8 : decode cX8_leftmost 8 = .ok (.aload_n 0, 1) := by decide +kernel
theorem dX8_leftmost_9 : decode cX8_leftmost 9 = .ok (.getfield 7, 3) := by decide +kernel
theorem dX8_leftmost_12 : decode cX8_leftmost 12 = .ok (.bipush 81, 2) := by decide +kernel
theorem dX8_leftmost_14 : decode cX8_leftmost 14 = .ok (.bipush 24, 2) := by decide +kernel
theorem dX8_leftmost_16 : decode cX8_leftmost 16 = .ok (.iload_n 1, 1) := by decide +kernel
theorem dX8_leftmost_17 : decode cX8_leftmost 17 = .ok (.imul, 1) := by decide +kernel
theorem dX8_leftmost_18 : decode cX8_leftmost 18 = .ok (.iadd, 1) := by decide +kernel
theorem dX8_leftmost_19 : decode cX8_leftmost 19 = .ok (.iload_n 2, 1) := by decide +kernel
theorem dX8_leftmost_20 : decode cX8_leftmost 20 = .ok (.iadd, 1) := by decide +kernel
theorem dX8_leftmost_21 : decode cX8_leftmost 21 = .ok (.iaload, 1) := by decide +kernel
theorem dX8_leftmost_22 : decode cX8_leftmost 22 = .ok (.ifCond .le 5, 3) := by decide +kernel
theorem dX8_leftmost_25 : decode cX8_leftmost 25 = .ok (.iload_n 2, 1) := by decide +kernel
theorem dX8_leftmost_26 : decode cX8_leftmost 26 = .ok (.ireturn, 1) := by decide +kernel
theorem dX8_leftmost_27 : decode cX8_leftmost 27 = .ok (.iinc 2 1, 3) := by decide +kernel
theorem dX8_leftmost_30 : decode cX8_leftmost 30 = .ok (.goto (-28), 3) := by decide +kernel
theorem dX8_leftmost_33 : decode cX8_leftmost 33 = .ok (.bipush (-6), 2) := by decide +kernel
theorem dX8_leftmost_35 : decode cX8_leftmost 35 = .ok (.ireturn, 1) := by decide +kernel
set_option maxRecDepth 20000 in
theorem ggX8_ofLine_X8_in : GoodIn wsX8_ofLine wsX8_in := goodIn_r _ [4] (by decide +kernel) (by decide +kernel)
set_option maxRecDepth 20000 in
theorem gX8_ofLine_X8_in : GoodIn wsX8_ofLine (va_wsS RX8 30 yX8_in wsX8_in) := goodIn_app (goodIn_of _ (by decide +kernel)) ggX8_ofLine_X8_in
set_option maxRecDepth 20000 in
theorem ggX8_ofLine_X8_lit : GoodIn wsX8_ofLine wsX8_lit := goodIn_r _ [8, 9, 18, 19, 20, 21, 22, 23, 24] (by decide +kernel) (by decide +kernel)
set_option maxRecDepth 20000 in
theorem gX8_ofLine_X8_lit : GoodIn wsX8_ofLine (wsV RX8 103 RX8 yX8_lit wsX8_lit) := goodIn_app (goodIn_of _ (by decide +kernel)) ggX8_ofLine_X8_lit
set_option maxRecDepth 20000 in
theorem ggX8_ofLine_X8_sumOf : GoodIn wsX8_ofLine wsX8_sumOf := goodIn_r _ [13, 9, 18, 19, 20, 21, 22, 23, 24] (by decide +kernel) (by decide +kernel)
set_option maxRecDepth 20000 in
theorem gX8_ofLine_X8_sumOf : GoodIn wsX8_ofLine (wsV RX8 106 RX8 yX8_sumOf wsX8_sumOf) := goodIn_app (goodIn_of _ (by decide +kernel)) ggX8_ofLine_X8_sumOf
set_option maxRecDepth 20000 in
theorem ggX8_ofLine_X8_leftmost : GoodIn wsX8_ofLine wsX8_leftmost := goodIn_r _ [17, 9, 18, 19, 20, 21, 22, 23, 24] (by decide +kernel) (by decide +kernel)
set_option maxRecDepth 20000 in
theorem gX8_ofLine_X8_leftmost : GoodIn wsX8_ofLine (wsV RX8 109 RX8 yX8_leftmost wsX8_leftmost) := goodIn_app (goodIn_of _ (by decide +kernel)) ggX8_ofLine_X8_leftmost
theorem dX8_ofLine_0 : decode cX8_ofLine 0 = .ok (.iload_n 1, 1) := by decide +kernel
theorem dX8_ofLine_1 : decode cX8_ofLine 1 = .ok (.iconst 0, 1) := by decide +kernel
theorem dX8_ofLine_2 : decode cX8_ofLine 2 = .ok (.bipush 15, 2) := by decide +kernel
theorem dX8_ofLine_4 : decode cX8_ofLine 4 = .ok (.invokestatic 30, 3) := by decide +kernel
theorem dX8_ofLine_7 : decode cX8_ofLine 7 = .ok (.ifCond .ne 5, 3) := by decide +kernel
theorem dX8_ofLine_10 : decode cX8_ofLine 10 = .ok (.iconst (-1), 1) := by decide +kernel
theorem dX8_ofLine_11 : decode cX8_ofLine 11 = .ok (.ireturn, 1) := by decide +kernel
theorem dX8_ofLine_12 : decode cX8_ofLine 12 = .ok (.iload_n 2, 1) := by decide +kernel
theorem dX8_ofLine_13 : decode cX8_ofLine 13 = .ok (.ifCond .ne 11, 3) := by decide +kernel
theorem dX8_ofLine_16 : decode cX8_ofLine 16 = .ok (.aload_n 0, 1) := by decide +kernel
theorem dX8_ofLine_17 : decode cX8_ofLine 17 = .ok (.iload_n 1, 1) := by decide +kernel
theorem dX8_ofLine_18 : decode cX8_ofLine 18 = .ok (.invokevirtual 103, 3) := by decide +kernel
theorem dX8_ofLine_21 : decode cX8_ofLine 21 = .ok (.goto 31, 3) := by decide +kernel
theorem dX8_ofLine_24 : decode cX8_ofLine 24 = .ok (.iload_n 2, 1) := by decide +kernel
theorem dX8_ofLine_25 : decode cX8_ofLine 25 = .ok (.iconst 1, 1) := by decide +kernel
theorem dX8_ofLine_26 : decode cX8_ofLine 26 = .ok (.if_icmp .ne 11, 3) := by decide +kernel
theorem dX8_ofLine_29 : decode cX8_ofLine 29 = .ok (.aload_n 0, 1) := by decide +kernel
theorem dX8_ofLine_30 : decode cX8_ofLine 30 = .ok (.iload_n 1, 1) := by decide +kernel
theorem dX8_ofLine_31 : decode cX8_ofLine 31 = .ok (.invokevirtual 106, 3) := by decide +kernel
theorem dX8_ofLine_34 : decode cX8_ofLine 34 = .ok (.goto 18, 3) := by decide +kernel
theorem dX8_ofLine_37 : decode cX8_ofLine 37 = .ok (.iload_n 2, 1) := by decide +kernel
theorem dX8_ofLine_38 : decode cX8_ofLine 38 = .ok (.iconst 2, 1) := by decide +kernel
theorem dX8_ofLine_39 : decode cX8_ofLine 39 = .ok (.if_icmp .ne 11, 3) := by decide +kernel
theorem dX8_ofLine_42 : decode cX8_ofLine 42 = .ok (.aload_n 0, 1) := by decide +kernel
theorem dX8_ofLine_43 : decode cX8_ofLine 43 = .ok (.iload_n 1, 1) := by decide +kernel
theorem dX8_ofLine_44 : decode cX8_ofLine 44 = .ok (.invokevirtual 109, 3) := by decide +kernel
theorem dX8_ofLine_47 : decode cX8_ofLine 47 = .ok (.goto 5, 3) := by decide +kernel
theorem dX8_ofLine_50 : decode cX8_ofLine 50 = .ok (.bipush (-2), 2) := by decide +kernel
theorem dX8_ofLine_52 : decode cX8_ofLine 52 = .ok (.ireturn, 1) := by decide +kernel
set_option maxRecDepth 20000 in
theorem ggX8_darkLines_X8_lit : GoodIn wsX8_darkLines wsX8_lit := goodIn_r _ [5, 6, 7, 8, 9, 10, 11, 12, 13] (by decide +kernel) (by decide +kernel)
set_option maxRecDepth 20000 in
theorem gX8_darkLines_X8_lit : GoodIn wsX8_darkLines (wsV RX8 103 RX8 yX8_lit wsX8_lit) := goodIn_app (goodIn_of _ (by decide +kernel)) ggX8_darkLines_X8_lit
theorem dX8_darkLines_0 : decode cX8_darkLines 0 = .ok (.iconst 0, 1) := by decide +kernel
theorem dX8_darkLines_1 : decode cX8_darkLines 1 = .ok (.istore_n 1, 1) := by decide +kernel
theorem dX8_darkLines_2 : decode cX8_darkLines 2 = .ok (.iconst 0, 1) := by decide +kernel
theorem dX8_darkLines_3 : decode cX8_darkLines 3 = .ok (.istore_n 2, 1) := by decide +kernel
theorem dX8_darkLines_4 : decode cX8_darkLines 4 = .ok (.iload_n 2, 1) := by decide +kernel
theorem dX8_darkLines_5 : decode cX8_darkLines 5 = .ok (.bipush 16, 2) := by decide +kernel
theorem dX8_darkLines_7 : decode cX8_darkLines 7 = .ok (.if_icmp .ge 27, 3) := by decide +kernel
theorem dX8_darkLines_10 : decode cX8_darkLines 10 = .ok (.iload_n 1, 1) := by decide +kernel
theorem dX8_darkLines_11 : decode cX8_darkLines 11 = .ok (.aload_n 0, 1) := by decide +kernel
theorem dX8_darkLines_12 : decode cX8_darkLines 12 = .ok (.iload_n 2, 1) := by decide +kernel
theorem dX8_darkLines_13 : decode cX8_darkLines 13 = .ok (.invokevirtual 103, 3) := by decide +kernel
theorem dX8_darkLines_16 : decode cX8_darkLines 16 = .ok (.ifCond .ne 9, 3) := by decide +kernel
theorem dX8_darkLines_19 : decode cX8_darkLines 19 = .ok (.iconst 1, 1) := by decide +kernel
theorem dX8_darkLines_20 : decode cX8_darkLines 20 = .ok (.iload_n 2, 1) := by decide +kernel
theorem dX8_darkLines_21 : decode cX8_darkLines 21 = .ok (.ishl, 1) := by decide +kernel
theorem dX8_darkLines_22 : decode cX8_darkLines 22 = .ok (.goto 4, 3) := by decide +kernel
theorem dX8_darkLines_25 : decode cX8_darkLines 25 = .ok (.iconst 0, 1) := by decide +kernel
theorem dX8_darkLines_26 : decode cX8_darkLines 26 = .ok (.ior, 1) := by decide +kernel
theorem dX8_darkLines_27 : decode cX8_darkLines 27 = .ok (.istore_n 1, 1) := by decide +kernel
theorem dX8_darkLines_28 : decode cX8_darkLines 28 = .ok (.iinc 2 1, 3) := by decide +kernel
theorem dX8_darkLines_31 : decode cX8_darkLines 31 = .ok (.goto (-27), 3) := by decide +kernel
theorem dX8_darkLines_34 : decode cX8_darkLines 34 = .ok (.iload_n 1, 1) := by decide +kernel
theorem dX8_darkLines_35 : decode cX8_darkLines 35 = .ok (.ireturn, 1) := by decide +kernel
theorem dX8_brightest_0 : decode cX8_brightest 0 = .ok (.iconst 0, 1) := by decide +kernel
theorem dX8_brightest_1 : decode cX8_brightest 1 = .ok (.istore_n 1, 1) := by decide +kernel
theorem dX8_brightest_2 : decode cX8_brightest 2 = .ok (.iconst 0, 1) := by decide +kernel
theorem dX8_brightest_3 : decode cX8_brightest 3 = .ok (.istore_n 2, 1) := by decide +kernel
theorem dX8_brightest_4 : decode cX8_brightest 4 = .ok (.iload_n 2, 1) := by decide +kernel
theorem dX8_brightest_5 : decode cX8_brightest 5 = .ok (.sipush 384, 3) := by decide +kernel
theorem dX8_brightest_8 : decode cX8_brightest 8 = .ok (.if_icmp .ge 36, 3) := by decide +kernel
theorem dX8_brightest_11 : decode cX8_brightest 11 = .ok (.aload_n 0, 1) := by decide +kernel
theorem dX8_brightest_12 : decode cX8_brightest 12 = .ok (.getfield 7, 3) := by decide +kernel
theorem dX8_brightest_15 : decode cX8_brightest 15 = .ok (.bipush 81, 2) := by decide +kernel
theorem dX8_brightest_17 : decode cX8_brightest 17 = .ok (.iload_n 2, 1) := by decide +kernel
theorem dX8_brightest_18 : decode cX8_brightest 18 = .ok (.iadd, 1) := by decide +kernel
theorem dX8_brightest_19 : decode cX8_brightest 19 = .ok (.iaload, 1) := by decide +kernel
theorem dX8_brightest_20 : decode cX8_brightest 20 = .ok (.iload_n 1, 1) := by decide +kernel
theorem dX8_brightest_21 : decode cX8_brightest 21 = .ok (.if_icmp .le 15, 3) := by decide +kernel
theorem dX8_brightest_24 : decode cX8_brightest 24 = .ok (.aload_n 0, 1) := by decide +kernel
theorem dX8_brightest_25 : decode cX8_brightest 25 = .ok (.getfield 7, 3) := by decide +kernel
theorem dX8_brightest_28 : decode cX8_brightest 28 = .ok (.bipush 81, 2) := by decide +kernel
theorem dX8_brightest_30 : decode cX8_brightest 30 = .ok (.iload_n 2, 1) := by decide +kernel
theorem dX8_brightest_31 : decode cX8_brightest 31 = .ok (.iadd, 1) := by decide +kernel
theorem dX8_brightest_32 : decode cX8_brightest 32 = .ok (.iaload, 1) := by decide +kernel
theorem dX8_brightest_33 : decode cX8_brightest 33 = .ok (.goto 4, 3) := by decide +kernel
theorem dX8_brightest_36 : decode cX8_brightest 36 = .ok (.iload_n 1, 1) := by decide +kernel
theorem dX8_brightest_37 : decode cX8_brightest 37 = .ok (.istore_n 1, 1) := by decide +kernel
theorem dX8_brightest_38 : decode cX8_brightest 38 = .ok (.iinc 2 1, 3) := by decide +kernel
theorem dX8_brightest_41 : decode cX8_brightest 41 = .ok (.goto (-37), 3) := by decide +kernel
theorem dX8_brightest_44 : decode cX8_brightest 44 = .ok (.iload_n 1, 1) := by decide +kernel
theorem dX8_brightest_45 : decode cX8_brightest 45 = .ok (.ireturn, 1) := by decide +kernel
set_option maxRecDepth 20000 in
theorem ggX8_bands_X8_lit : GoodIn wsX8_bands wsX8_lit := goodIn_r _ [5, 6, 7, 8, 9, 10, 11, 12, 13] (by decide +kernel) (by decide +kernel)
set_option maxRecDepth 20000 in
theorem gX8_bands_X8_lit : GoodIn wsX8_bands (wsV RX8 103 RX8 yX8_lit wsX8_lit) := goodIn_app (goodIn_of _ (by decide +kernel)) ggX8_bands_X8_lit
theorem dX8_bands_0 : decode cX8_bands 0 = .ok (.iconst 0, 1) := by decide +kernel
theorem dX8_bands_1 : decode cX8_bands 1 = .ok (.istore_n 1, 1) := by decide +kernel
theorem dX8_bands_2 : decode cX8_bands 2 = .ok (.iconst 1, 1) := by decide +kernel
theorem dX8_bands_3 : decode cX8_bands 3 = .ok (.istore_n 2, 1) := by decide +kernel
theorem dX8_bands_4 : decode cX8_bands 4 = .ok (.iload_n 2, 1) := by decide +kernel
theorem dX8_bands_5 : decode cX8_bands 5 = .ok (.bipush 16, 2) := by decide +kernel
theorem dX8_bands_7 : decode cX8_bands 7 = .ok (.if_icmp .ge 48, 3) := by decide +kernel
theorem dX8_bands_10 : decode cX8_bands 10 = .ok (.iload_n 1, 1) := by decide +kernel
theorem dX8_bands_11 : decode cX8_bands 11 = .ok (.aload_n 0, 1) := by decide +kernel
theorem dX8_bands_12 : decode cX8_bands 12 = .ok (.iload_n 2, 1) := by decide +kernel
theorem dX8_bands_13 : decode cX8_bands 13 = .ok (.invokevirtual 103, 3) := by decide +kernel
theorem dX8_bands_16 : decode cX8_bands 16 = .ok (.ifCond .ne 7, 3) := by decide +kernel
theorem dX8_bands_19 : decode cX8_bands 19 = .ok (.iconst 1, 1) := by decide +kernel
theorem dX8_bands_20 : decode cX8_bands 20 = .ok (.goto 4, 3) := by decide +kernel
theorem dX8_bands_23 : decode cX8_bands 23 = .ok (.iconst 0, 1) := by decide +kernel
theorem dX8_bands_24 : decode cX8_bands 24 = .ok (.aload_n 0, 1) := by decide +kernel
theorem dX8_bands_25 : decode cX8_bands 25 = .ok (.iload_n 2, 1) := by decide +kernel
theorem dX8_bands_26 : decode cX8_bands 26 = .ok (.iconst 1, 1) := by decide +kernel
theorem dX8_bands_27 : decode cX8_bands 27 = .ok (.isub, 1) := by decide +kernel
theorem dX8_bands_28 : decode cX8_bands 28 = .ok (.invokevirtual 103, 3) := by decide +kernel
theorem dX8_bands_31 : decode cX8_bands 31 = .ok (.ifCond .ne 7, 3) := by decide +kernel
theorem dX8_bands_34 : decode cX8_bands 34 = .ok (.iconst 1, 1) := by decide +kernel
theorem dX8_bands_35 : decode cX8_bands 35 = .ok (.goto 4, 3) := by decide +kernel
theorem dX8_bands_38 : decode cX8_bands 38 = .ok (.iconst 0, 1) := by decide +kernel
theorem dX8_bands_39 : decode cX8_bands 39 = .ok (.if_icmp .ne 7, 3) := by decide +kernel
theorem dX8_bands_42 : decode cX8_bands 42 = .ok (.iconst 0, 1) := by decide +kernel
theorem dX8_bands_43 : decode cX8_bands 43 = .ok (.goto 4, 3) := by decide +kernel
theorem dX8_bands_46 : decode cX8_bands 46 = .ok (.iconst 1, 1) := by decide +kernel
theorem dX8_bands_47 : decode cX8_bands 47 = .ok (.iadd, 1) := by decide +kernel
theorem dX8_bands_48 : decode cX8_bands 48 = .ok (.istore_n 1, 1) := by decide +kernel
theorem dX8_bands_49 : decode cX8_bands 49 = .ok (.iinc 2 1, 3) := by decide +kernel
theorem dX8_bands_52 : decode cX8_bands 52 = .ok (.goto (-48), 3) := by decide +kernel
theorem dX8_bands_55 : decode cX8_bands 55 = .ok (.iload_n 1, 1) := by decide +kernel
theorem dX8_bands_56 : decode cX8_bands 56 = .ok (.ireturn, 1) := by decide +kernel
set_option maxRecDepth 20000 in
theorem ggX8_count_X8_darkLines : GoodIn wsX8_count wsX8_darkLines := goodIn_r _ [8, 9, 10, 11, 7, 12, 1, 24, 25, 26, 27, 28, 29, 30] (by decide +kernel) (by decide +kernel)
set_option maxRecDepth 20000 in
theorem gX8_count_X8_darkLines : GoodIn wsX8_count (wsV RX8 112 RX8 yX8_darkLines wsX8_darkLines) := goodIn_app (goodIn_of _ (by decide +kernel)) ggX8_count_X8_darkLines
set_option maxRecDepth 20000 in
theorem ggX8_count_X8_brightest : GoodIn wsX8_count wsX8_brightest := goodIn_r _ [16, 1, 24, 25, 26, 27, 28, 29, 30] (by decide +kernel) (by decide +kernel)
set_option maxRecDepth 20000 in
theorem gX8_count_X8_brightest : GoodIn wsX8_count (wsV RX8 115 RX8 yX8_brightest wsX8_brightest) := goodIn_app (goodIn_of _ (by decide +kernel)) ggX8_count_X8_brightest
set_option maxRecDepth 20000 in
theorem ggX8_count_X8_bands : GoodIn wsX8_count wsX8_bands := goodIn_r _ [20, 9, 10, 11, 7, 12, 1, 24, 25, 26, 27, 28, 29, 30] (by decide +kernel) (by decide +kernel)
set_option maxRecDepth 20000 in
theorem gX8_count_X8_bands : GoodIn wsX8_count (wsV RX8 118 RX8 yX8_bands wsX8_bands) := goodIn_app (goodIn_of _ (by decide +kernel)) ggX8_count_X8_bands
set_option maxRecDepth 20000 in
theorem ggX8_count_X8_in : GoodIn wsX8_count wsX8_in := goodIn_r _ [23] (by decide +kernel) (by decide +kernel)
set_option maxRecDepth 20000 in
theorem gX8_count_X8_in : GoodIn wsX8_count (va_wsS RX8 30 yX8_in wsX8_in) := goodIn_app (goodIn_of _ (by decide +kernel)) ggX8_count_X8_in
theorem dX8_count_0 : decode cX8_count 0 = .ok (.iload_n 1, 1) := by decide +kernel
theorem dX8_count_1 : decode cX8_count 1 = .ok (.tableswitch 149 0 13 #[71, 78, 85, 93, 98, 103, 108, 131, 149, 149, 149, 149, 139, 144], 71) := by decide +kernel
theorem dX8_count_72 : decode cX8_count 72 = .ok (.aload_n 0, 1) := by decide +kernel
theorem dX8_count_73 : decode cX8_count 73 = .ok (.getfield 7, 3) := by decide +kernel
theorem dX8_count_76 : decode cX8_count 76 = .ok (.iconst 4, 1) := by decide +kernel
theorem dX8_count_77 : decode cX8_count 77 = .ok (.iaload, 1) := by decide +kernel
theorem dX8_count_78 : decode cX8_count 78 = .ok (.ireturn, 1) := by decide +kernel
theorem dX8_count_79 : decode cX8_count 79 = .ok (.aload_n 0, 1) := by decide +kernel
theorem dX8_count_80 : decode cX8_count 80 = .ok (.getfield 7, 3) := by decide +kernel
theorem dX8_count_83 : decode cX8_count 83 = .ok (.iconst 5, 1) := by decide +kernel
theorem dX8_count_84 : decode cX8_count 84 = .ok (.iaload, 1) := by decide +kernel
theorem dX8_count_85 : decode cX8_count 85 = .ok (.ireturn, 1) := by decide +kernel
theorem dX8_count_86 : decode cX8_count 86 = .ok (.aload_n 0, 1) := by decide +kernel
theorem dX8_count_87 : decode cX8_count 87 = .ok (.getfield 7, 3) := by decide +kernel
theorem dX8_count_90 : decode cX8_count 90 = .ok (.bipush 6, 2) := by decide +kernel
theorem dX8_count_92 : decode cX8_count 92 = .ok (.iaload, 1) := by decide +kernel
theorem dX8_count_93 : decode cX8_count 93 = .ok (.ireturn, 1) := by decide +kernel
theorem dX8_count_94 : decode cX8_count 94 = .ok (.aload_n 0, 1) := by decide +kernel
theorem dX8_count_95 : decode cX8_count 95 = .ok (.invokevirtual 112, 3) := by decide +kernel
theorem dX8_count_98 : decode cX8_count 98 = .ok (.ireturn, 1) := by decide +kernel
theorem dX8_count_99 : decode cX8_count 99 = .ok (.aload_n 0, 1) := by decide +kernel
theorem dX8_count_100 : decode cX8_count 100 = .ok (.invokevirtual 115, 3) := by decide +kernel
theorem dX8_count_103 : decode cX8_count 103 = .ok (.ireturn, 1) := by decide +kernel
theorem dX8_count_104 : decode cX8_count 104 = .ok (.aload_n 0, 1) := by decide +kernel
theorem dX8_count_105 : decode cX8_count 105 = .ok (.invokevirtual 118, 3) := by decide +kernel
theorem dX8_count_108 : decode cX8_count 108 = .ok (.ireturn, 1) := by decide +kernel
theorem dX8_count_109 : decode cX8_count 109 = .ok (.aload_n 0, 1) := by decide +kernel
theorem dX8_count_110 : decode cX8_count 110 = .ok (.getfield 7, 3) := by decide +kernel
theorem dX8_count_113 : decode cX8_count 113 = .ok (.bipush 7, 2) := by decide +kernel
theorem dX8_count_115 : decode cX8_count 115 = .ok (.iaload, 1) := by decide +kernel
theorem dX8_count_116 : decode cX8_count 116 = .ok (.ifCond .ge 8, 3) := by decide +kernel
theorem dX8_count_119 : decode cX8_count 119 = .ok (.bipush (-6), 2) := by decide +kernel
theorem dX8_count_121 : decode cX8_count 121 = .ok (.goto 10, 3) := by decide +kernel
theorem dX8_count_124 : decode cX8_count 124 = .ok (.aload_n 0, 1) := by decide +kernel
theorem dX8_count_125 : decode cX8_count 125 = .ok (.getfield 7, 3) := by decide +kernel
theorem dX8_count_128 : decode cX8_count 128 = .ok (.bipush 7, 2) := by decide +kernel
theorem dX8_count_130 : decode cX8_count 130 = .ok (.iaload, 1) := by decide +kernel
theorem dX8_count_131 : decode cX8_count 131 = .ok (.ireturn, 1) := by decide +kernel
theorem dX8_count_132 : decode cX8_count 132 = .ok (.aload_n 0, 1) := by decide +kernel
theorem dX8_count_133 : decode cX8_count 133 = .ok (.getfield 7, 3) := by decide +kernel
theorem dX8_count_136 : decode cX8_count 136 = .ok (.bipush 8, 2) := by decide +kernel
theorem dX8_count_138 : decode cX8_count 138 = .ok (.iaload, 1) := by decide +kernel
theorem dX8_count_139 : decode cX8_count 139 = .ok (.ireturn, 1) := by decide +kernel
theorem dX8_count_140 : decode cX8_count 140 = .ok (.aload_n 0, 1) := by decide +kernel
theorem dX8_count_141 : decode cX8_count 141 = .ok (.getfield 121, 3) := by decide +kernel
theorem dX8_count_144 : decode cX8_count 144 = .ok (.ireturn, 1) := by decide +kernel
theorem dX8_count_145 : decode cX8_count 145 = .ok (.aload_n 0, 1) := by decide +kernel
theorem dX8_count_146 : decode cX8_count 146 = .ok (.getfield 26, 3) := by decide +kernel
theorem dX8_count_149 : decode cX8_count 149 = .ok (.ireturn, 1) := by decide +kernel
theorem dX8_count_150 : decode cX8_count 150 = .ok (.iload_n 1, 1) := by decide +kernel
theorem dX8_count_151 : decode cX8_count 151 = .ok (.bipush 8, 2) := by decide +kernel
theorem dX8_count_153 : decode cX8_count 153 = .ok (.bipush 11, 2) := by decide +kernel
theorem dX8_count_155 : decode cX8_count 155 = .ok (.invokestatic 30, 3) := by decide +kernel
theorem dX8_count_158 : decode cX8_count 158 = .ok (.ifCond .eq 15, 3) := by decide +kernel
theorem dX8_count_161 : decode cX8_count 161 = .ok (.aload_n 0, 1) := by decide +kernel
theorem dX8_count_162 : decode cX8_count 162 = .ok (.getfield 7, 3) := by decide +kernel
theorem dX8_count_165 : decode cX8_count 165 = .ok (.iload_n 1, 1) := by decide +kernel
theorem dX8_count_166 : decode cX8_count 166 = .ok (.bipush 8, 2) := by decide +kernel
theorem dX8_count_168 : decode cX8_count 168 = .ok (.isub, 1) := by decide +kernel
theorem dX8_count_169 : decode cX8_count 169 = .ok (.iaload, 1) := by decide +kernel
theorem dX8_count_170 : decode cX8_count 170 = .ok (.goto 5, 3) := by decide +kernel
theorem dX8_count_173 : decode cX8_count 173 = .ok (.bipush (-2), 2) := by decide +kernel
theorem dX8_count_175 : decode cX8_count 175 = .ok (.ireturn, 1) := by decide +kernel
set_option maxRecDepth 20000 in
theorem ggX8_seen_X8_isPixel : GoodIn wsX8_seen wsX8_isPixel := goodIn_r _ [5, 6, 7, 4, 8] (by decide +kernel) (by decide +kernel)
set_option maxRecDepth 20000 in
theorem gX8_seen_X8_isPixel : GoodIn wsX8_seen (va_wsS RX8 100 yX8_isPixel wsX8_isPixel) := goodIn_app (goodIn_of _ (by decide +kernel)) ggX8_seen_X8_isPixel
set_option maxRecDepth 20000 in
theorem ggX8_seen_X8_in : GoodIn wsX8_seen wsX8_in := goodIn_r _ [8] (by decide +kernel) (by decide +kernel)
set_option maxRecDepth 20000 in
theorem gX8_seen_X8_in : GoodIn wsX8_seen (va_wsS RX8 30 yX8_in wsX8_in) := goodIn_app (goodIn_of _ (by decide +kernel)) ggX8_seen_X8_in
set_option maxRecDepth 20000 in
theorem ggX8_seen_X8_seenAt : GoodIn wsX8_seen wsX8_seenAt := goodIn_r _ [12, 1, 13, 14, 15, 4, 16, 17, 18, 19, 20, 6, 7, 8, 21, 22, 23, 24, 25, 26, 27, 28, 29, 30, 31, 32, 33, 34, 35, 36, 37, 38, 39, 40, 41, 42] (by decide +kernel) (by decide +kernel)
set_option maxRecDepth 20000 in
theorem gX8_seen_X8_seenAt : GoodIn wsX8_seen (wsV RX8 56 RX8 yX8_seenAt wsX8_seenAt) := goodIn_app (goodIn_of _ (by decide +kernel)) ggX8_seen_X8_seenAt
theorem dX8_seen_0 : decode cX8_seen 0 = .ok (.iload_n 1, 1) := by decide +kernel
theorem dX8_seen_1 : decode cX8_seen 1 = .ok (.iload_n 2, 1) := by decide +kernel
theorem dX8_seen_2 : decode cX8_seen 2 = .ok (.invokestatic 100, 3) := by decide +kernel
theorem dX8_seen_5 : decode cX8_seen 5 = .ok (.ifCond .ne 5, 3) := by decide +kernel
theorem dX8_seen_8 : decode cX8_seen 8 = .ok (.iconst (-1), 1) := by decide +kernel
theorem dX8_seen_9 : decode cX8_seen 9 = .ok (.ireturn, 1) := by decide +kernel
theorem dX8_seen_10 : decode cX8_seen 10 = .ok (.iload_n 3, 1) := by decide +kernel
theorem dX8_seen_11 : decode cX8_seen 11 = .ok (.iconst 0, 1) := by decide +kernel
theorem dX8_seen_12 : decode cX8_seen 12 = .ok (.bipush 99, 2) := by decide +kernel
theorem dX8_seen_14 : decode cX8_seen 14 = .ok (.invokestatic 30, 3) := by decide +kernel
theorem dX8_seen_17 : decode cX8_seen 17 = .ok (.ifCond .eq 20, 3) := by decide +kernel
theorem dX8_seen_20 : decode cX8_seen 20 = .ok (.aload_n 0, 1) := by decide +kernel
theorem dX8_seen_21 : decode cX8_seen 21 = .ok (.iload_n 1, 1) := by decide +kernel
theorem dX8_seen_22 : decode cX8_seen 22 = .ok (.iload_n 2, 1) := by decide +kernel
theorem dX8_seen_23 : decode cX8_seen 23 = .ok (.aload_n 0, 1) := by decide +kernel
theorem dX8_seen_24 : decode cX8_seen 24 = .ok (.getfield 7, 3) := by decide +kernel
theorem dX8_seen_27 : decode cX8_seen 27 = .ok (.iconst 4, 1) := by decide +kernel
theorem dX8_seen_28 : decode cX8_seen 28 = .ok (.iaload, 1) := by decide +kernel
theorem dX8_seen_29 : decode cX8_seen 29 = .ok (.iload_n 3, 1) := by decide +kernel
theorem dX8_seen_30 : decode cX8_seen 30 = .ok (.iadd, 1) := by decide +kernel
theorem dX8_seen_31 : decode cX8_seen 31 = .ok (.invokevirtual 56, 3) := by decide +kernel
theorem dX8_seen_34 : decode cX8_seen 34 = .ok (.goto 5, 3) := by decide +kernel
theorem dX8_seen_37 : decode cX8_seen 37 = .ok (.bipush (-2), 2) := by decide +kernel
theorem dX8_seen_39 : decode cX8_seen 39 = .ok (.ireturn, 1) := by decide +kernel
set_option maxRecDepth 20000 in
theorem ggX8_leans_X8_isThing : GoodIn wsX8_leans wsX8_isThing := goodIn_r _ [6, 1, 7, 8, 5, 9, 21, 22, 23, 24, 25, 26, 27] (by decide +kernel) (by decide +kernel)
set_option maxRecDepth 20000 in
theorem gX8_leans_X8_isThing : GoodIn wsX8_leans (wsV RX8 70 RX8 yX8_isThing wsX8_isThing) := goodIn_app (goodIn_of _ (by decide +kernel)) ggX8_leans_X8_isThing
set_option maxRecDepth 20000 in
theorem ggX8_leans_X8_its : GoodIn wsX8_leans wsX8_its := goodIn_r _ [13, 1, 21, 22, 23, 24, 25, 26, 27] (by decide +kernel) (by decide +kernel)
set_option maxRecDepth 20000 in
theorem gX8_leans_X8_its : GoodIn wsX8_leans (wsV RX8 34 RX8 yX8_its wsX8_its) := goodIn_app (goodIn_of _ (by decide +kernel)) ggX8_leans_X8_its
set_option maxRecDepth 20000 in
theorem ggX8_leans_X8_left : GoodIn wsX8_leans wsX8_left := goodIn_r _ [17, 10, 11, 12, 5, 13, 1, 18, 19, 20, 21, 22, 23, 24, 25, 26, 27] (by decide +kernel) (by decide +kernel)
set_option maxRecDepth 20000 in
theorem gX8_leans_X8_left : GoodIn wsX8_leans (wsV RX8 42 RX8 yX8_left wsX8_left) := goodIn_app (goodIn_of _ (by decide +kernel)) ggX8_leans_X8_left
theorem dX8_leans_0 : decode cX8_leans 0 = .ok (.aload_n 0, 1) := by decide +kernel
theorem dX8_leans_1 : decode cX8_leans 1 = .ok (.iload_n 1, 1) := by decide +kernel
theorem dX8_leans_2 : decode cX8_leans 2 = .ok (.invokevirtual 70, 3) := by decide +kernel
theorem dX8_leans_5 : decode cX8_leans 5 = .ok (.ifCond .ne 5, 3) := by decide +kernel
theorem dX8_leans_8 : decode cX8_leans 8 = .ok (.iconst (-1), 1) := by decide +kernel
theorem dX8_leans_9 : decode cX8_leans 9 = .ok (.ireturn, 1) := by decide +kernel
theorem dX8_leans_10 : decode cX8_leans 10 = .ok (.aload_n 0, 1) := by decide +kernel
theorem dX8_leans_11 : decode cX8_leans 11 = .ok (.getfield 7, 3) := by decide +kernel
theorem dX8_leans_14 : decode cX8_leans 14 = .ok (.iconst 4, 1) := by decide +kernel
theorem dX8_leans_15 : decode cX8_leans 15 = .ok (.iaload, 1) := by decide +kernel
theorem dX8_leans_16 : decode cX8_leans 16 = .ok (.aload_n 0, 1) := by decide +kernel
theorem dX8_leans_17 : decode cX8_leans 17 = .ok (.iload_n 1, 1) := by decide +kernel
theorem dX8_leans_18 : decode cX8_leans 18 = .ok (.iconst 0, 1) := by decide +kernel
theorem dX8_leans_19 : decode cX8_leans 19 = .ok (.invokevirtual 34, 3) := by decide +kernel
theorem dX8_leans_22 : decode cX8_leans 22 = .ok (.aload_n 0, 1) := by decide +kernel
theorem dX8_leans_23 : decode cX8_leans 23 = .ok (.getfield 7, 3) := by decide +kernel
theorem dX8_leans_26 : decode cX8_leans 26 = .ok (.iconst 0, 1) := by decide +kernel
theorem dX8_leans_27 : decode cX8_leans 27 = .ok (.iaload, 1) := by decide +kernel
theorem dX8_leans_28 : decode cX8_leans 28 = .ok (.imul, 1) := by decide +kernel
theorem dX8_leans_29 : decode cX8_leans 29 = .ok (.iadd, 1) := by decide +kernel
theorem dX8_leans_30 : decode cX8_leans 30 = .ok (.istore_n 2, 1) := by decide +kernel
theorem dX8_leans_31 : decode cX8_leans 31 = .ok (.iload_n 2, 1) := by decide +kernel
theorem dX8_leans_32 : decode cX8_leans 32 = .ok (.aload_n 0, 1) := by decide +kernel
theorem dX8_leans_33 : decode cX8_leans 33 = .ok (.iload_n 1, 1) := by decide +kernel
theorem dX8_leans_34 : decode cX8_leans 34 = .ok (.iconst 2, 1) := by decide +kernel
theorem dX8_leans_35 : decode cX8_leans 35 = .ok (.invokevirtual 34, 3) := by decide +kernel
theorem dX8_leans_38 : decode cX8_leans 38 = .ok (.iconst 1, 1) := by decide +kernel
theorem dX8_leans_39 : decode cX8_leans 39 = .ok (.isub, 1) := by decide +kernel
theorem dX8_leans_40 : decode cX8_leans 40 = .ok (.aload_n 0, 1) := by decide +kernel
theorem dX8_leans_41 : decode cX8_leans 41 = .ok (.getfield 7, 3) := by decide +kernel
theorem dX8_leans_44 : decode cX8_leans 44 = .ok (.iconst 0, 1) := by decide +kernel
theorem dX8_leans_45 : decode cX8_leans 45 = .ok (.iaload, 1) := by decide +kernel
theorem dX8_leans_46 : decode cX8_leans 46 = .ok (.imul, 1) := by decide +kernel
theorem dX8_leans_47 : decode cX8_leans 47 = .ok (.iadd, 1) := by decide +kernel
theorem dX8_leans_48 : decode cX8_leans 48 = .ok (.istore_n 3, 1) := by decide +kernel
theorem dX8_leans_49 : decode cX8_leans 49 = .ok (.aload_n 0, 1) := by decide +kernel
theorem dX8_leans_50 : decode cX8_leans 50 = .ok (.iload_n 1, 1) := by decide +kernel
theorem dX8_leans_51 : decode cX8_leans 51 = .ok (.iload_n 3, 1) := by decide +kernel
theorem dX8_leans_52 : decode cX8_leans 52 = .ok (.invokevirtual 42, 3) := by decide +kernel
theorem dX8_leans_55 : decode cX8_leans 55 = .ok (.aload_n 0, 1) := by decide +kernel
theorem dX8_leans_56 : decode cX8_leans 56 = .ok (.iload_n 1, 1) := by decide +kernel
theorem dX8_leans_57 : decode cX8_leans 57 = .ok (.iload_n 2, 1) := by decide +kernel
theorem dX8_leans_58 : decode cX8_leans 58 = .ok (.invokevirtual 42, 3) := by decide +kernel
theorem dX8_leans_61 : decode cX8_leans 61 = .ok (.isub, 1) := by decide +kernel
theorem dX8_leans_62 : decode cX8_leans 62 = .ok (.sipush 1000, 3) := by decide +kernel
theorem dX8_leans_65 : decode cX8_leans 65 = .ok (.iadd, 1) := by decide +kernel
theorem dX8_leans_66 : decode cX8_leans 66 = .ok (.ireturn, 1) := by decide +kernel
set_option maxRecDepth 20000 in
theorem ggX8_bent_X8_exposed : GoodIn wsX8_bent wsX8_exposed := goodIn_r _ [6, 1, 7, 8, 9, 5, 10, 11, 12, 13, 14, 15, 16, 17, 18, 19, 20, 21, 22, 23, 24, 25, 26, 27, 28, 29, 30, 31, 32, 33, 34, 35, 36, 37, 38, 39, 40, 41, 42, 43] (by decide +kernel) (by decide +kernel)
set_option maxRecDepth 20000 in
theorem gX8_bent_X8_exposed : GoodIn wsX8_bent (wsV RX8 87 RX8 yX8_exposed wsX8_exposed) := goodIn_app (goodIn_of _ (by decide +kernel)) ggX8_bent_X8_exposed
theorem dX8_bent_0 : decode cX8_bent 0 = .ok (.iconst 0, 1) := by decide +kernel
theorem dX8_bent_1 : decode cX8_bent 1 = .ok (.istore_n 1, 1) := by decide +kernel
theorem dX8_bent_2 : decode cX8_bent 2 = .ok (.iconst 0, 1) := by decide +kernel
theorem dX8_bent_3 : decode cX8_bent 3 = .ok (.istore_n 2, 1) := by decide +kernel
theorem dX8_bent_4 : decode cX8_bent 4 = .ok (.iload_n 2, 1) := by decide +kernel
theorem dX8_bent_5 : decode cX8_bent 5 = .ok (.sipush 384, 3) := by decide +kernel
theorem dX8_bent_8 : decode cX8_bent 8 = .ok (.if_icmp .ge 70, 3) := by decide +kernel
theorem dX8_bent_11 : decode cX8_bent 11 = .ok (.aload_n 0, 1) := by decide +kernel
theorem dX8_bent_12 : decode cX8_bent 12 = .ok (.iload_n 2, 1) := by decide +kernel
theorem dX8_bent_13 : decode cX8_bent 13 = .ok (.bipush 24, 2) := by decide +kernel
theorem dX8_bent_15 : decode cX8_bent 15 = .ok (.idiv, 1) := by decide +kernel
theorem dX8_bent_16 : decode cX8_bent 16 = .ok (.iload_n 2, 1) := by decide +kernel
theorem dX8_bent_17 : decode cX8_bent 17 = .ok (.bipush 24, 2) := by decide +kernel
theorem dX8_bent_19 : decode cX8_bent 19 = .ok (.irem, 1) := by decide +kernel
theorem dX8_bent_20 : decode cX8_bent 20 = .ok (.aload_n 0, 1) := by decide +kernel
theorem dX8_bent_21 : decode cX8_bent 21 = .ok (.getfield 7, 3) := by decide +kernel
theorem dX8_bent_24 : decode cX8_bent 24 = .ok (.iconst 4, 1) := by decide +kernel
theorem dX8_bent_25 : decode cX8_bent 25 = .ok (.iaload, 1) := by decide +kernel
theorem dX8_bent_26 : decode cX8_bent 26 = .ok (.iload_n 2, 1) := by decide +kernel
theorem dX8_bent_27 : decode cX8_bent 27 = .ok (.bipush 24, 2) := by decide +kernel
theorem dX8_bent_29 : decode cX8_bent 29 = .ok (.idiv, 1) := by decide +kernel
theorem dX8_bent_30 : decode cX8_bent 30 = .ok (.aload_n 0, 1) := by decide +kernel
theorem dX8_bent_31 : decode cX8_bent 31 = .ok (.getfield 7, 3) := by decide +kernel
theorem dX8_bent_34 : decode cX8_bent 34 = .ok (.iconst 0, 1) := by decide +kernel
theorem dX8_bent_35 : decode cX8_bent 35 = .ok (.iaload, 1) := by decide +kernel
theorem dX8_bent_36 : decode cX8_bent 36 = .ok (.imul, 1) := by decide +kernel
theorem dX8_bent_37 : decode cX8_bent 37 = .ok (.iadd, 1) := by decide +kernel
theorem dX8_bent_38 : decode cX8_bent 38 = .ok (.invokevirtual 87, 3) := by decide +kernel
theorem dX8_bent_41 : decode cX8_bent 41 = .ok (.istore_n 3, 1) := by decide +kernel
theorem dX8_bent_42 : decode cX8_bent 42 = .ok (.iload_n 1, 1) := by decide +kernel
theorem dX8_bent_43 : decode cX8_bent 43 = .ok (.iload_n 3, 1) := by decide +kernel
theorem dX8_bent_44 : decode cX8_bent 44 = .ok (.aload_n 0, 1) := by decide +kernel
theorem dX8_bent_45 : decode cX8_bent 45 = .ok (.iload_n 2, 1) := by decide +kernel
theorem dX8_bent_46 : decode cX8_bent 46 = .ok (.bipush 24, 2) := by decide +kernel
theorem dX8_bent_48 : decode cX8_bent 48 = .ok (.idiv, 1) := by decide +kernel
theorem dX8_bent_49 : decode cX8_bent 49 = .ok (.iload_n 2, 1) := by decide +kernel
theorem dX8_bent_50 : decode cX8_bent 50 = .ok (.bipush 24, 2) := by decide +kernel
theorem dX8_bent_52 : decode cX8_bent 52 = .ok (.irem, 1) := by decide +kernel
theorem dX8_bent_53 : decode cX8_bent 53 = .ok (.aload_n 0, 1) := by decide +kernel
theorem dX8_bent_54 : decode cX8_bent 54 = .ok (.getfield 7, 3) := by decide +kernel
theorem dX8_bent_57 : decode cX8_bent 57 = .ok (.iconst 4, 1) := by decide +kernel
theorem dX8_bent_58 : decode cX8_bent 58 = .ok (.iaload, 1) := by decide +kernel
theorem dX8_bent_59 : decode cX8_bent 59 = .ok (.invokevirtual 87, 3) := by decide +kernel
theorem dX8_bent_62 : decode cX8_bent 62 = .ok (.if_icmp .ne 7, 3) := by decide +kernel
theorem dX8_bent_65 : decode cX8_bent 65 = .ok (.iconst 0, 1) := by decide +kernel
theorem dX8_bent_66 : decode cX8_bent 66 = .ok (.goto 4, 3) := by decide +kernel
theorem dX8_bent_69 : decode cX8_bent 69 = .ok (.iconst 1, 1) := by decide +kernel
theorem dX8_bent_70 : decode cX8_bent 70 = .ok (.iadd, 1) := by decide +kernel
theorem dX8_bent_71 : decode cX8_bent 71 = .ok (.istore_n 1, 1) := by decide +kernel
theorem dX8_bent_72 : decode cX8_bent 72 = .ok (.iinc 2 1, 3) := by decide +kernel
theorem dX8_bent_75 : decode cX8_bent 75 = .ok (.goto (-71), 3) := by decide +kernel
theorem dX8_bent_78 : decode cX8_bent 78 = .ok (.iload_n 1, 1) := by decide +kernel
theorem dX8_bent_79 : decode cX8_bent 79 = .ok (.ireturn, 1) := by decide +kernel
set_option maxRecDepth 20000 in
theorem ggX8_burnsIn_X8_in : GoodIn wsX8_burnsIn wsX8_in := goodIn_r _ [5] (by decide +kernel) (by decide +kernel)
set_option maxRecDepth 20000 in
theorem gX8_burnsIn_X8_in : GoodIn wsX8_burnsIn (va_wsS RX8 30 yX8_in wsX8_in) := goodIn_app (goodIn_of _ (by decide +kernel)) ggX8_burnsIn_X8_in
theorem dX8_burnsIn_0 : decode cX8_burnsIn 0 = .ok (.iconst 0, 1) := by decide +kernel
theorem dX8_burnsIn_1 : decode cX8_burnsIn 1 = .ok (.istore_n 3, 1) := by decide +kernel
theorem dX8_burnsIn_2 : decode cX8_burnsIn 2 = .ok (.iconst 0, 1) := by decide +kernel
theorem dX8_burnsIn_3 : decode cX8_burnsIn 3 = .ok (.istore 4, 2) := by decide +kernel
theorem dX8_burnsIn_5 : decode cX8_burnsIn 5 = .ok (.iload 4, 2) := by decide +kernel
theorem dX8_burnsIn_7 : decode cX8_burnsIn 7 = .ok (.bipush 16, 2) := by decide +kernel
theorem dX8_burnsIn_9 : decode cX8_burnsIn 9 = .ok (.if_icmp .ge 71, 3) := by decide +kernel
theorem dX8_burnsIn_12 : decode cX8_burnsIn 12 = .ok (.iconst 0, 1) := by decide +kernel
theorem dX8_burnsIn_13 : decode cX8_burnsIn 13 = .ok (.istore 5, 2) := by decide +kernel
theorem dX8_burnsIn_15 : decode cX8_burnsIn 15 = .ok (.iload 5, 2) := by decide +kernel
theorem dX8_burnsIn_17 : decode cX8_burnsIn 17 = .ok (.aload_n 0, 1) := by decide +kernel
theorem dX8_burnsIn_18 : decode cX8_burnsIn 18 = .ok (.getfield 7, 3) := by decide +kernel
theorem dX8_burnsIn_21 : decode cX8_burnsIn 21 = .ok (.iconst 1, 1) := by decide +kernel
theorem dX8_burnsIn_22 : decode cX8_burnsIn 22 = .ok (.iaload, 1) := by decide +kernel
theorem dX8_burnsIn_23 : decode cX8_burnsIn 23 = .ok (.if_icmp .ge 51, 3) := by decide +kernel
theorem dX8_burnsIn_26 : decode cX8_burnsIn 26 = .ok (.iload_n 3, 1) := by decide +kernel
theorem dX8_burnsIn_27 : decode cX8_burnsIn 27 = .ok (.aload_n 0, 1) := by decide +kernel
theorem dX8_burnsIn_28 : decode cX8_burnsIn 28 = .ok (.getfield 7, 3) := by decide +kernel
theorem dX8_burnsIn_31 : decode cX8_burnsIn 31 = .ok (.iconst 4, 1) := by decide +kernel
theorem dX8_burnsIn_32 : decode cX8_burnsIn 32 = .ok (.iaload, 1) := by decide +kernel
theorem dX8_burnsIn_33 : decode cX8_burnsIn 33 = .ok (.iload 4, 2) := by decide +kernel
theorem dX8_burnsIn_35 : decode cX8_burnsIn 35 = .ok (.aload_n 0, 1) := by decide +kernel
theorem dX8_burnsIn_36 : decode cX8_burnsIn 36 = .ok (.getfield 7, 3) := by decide +kernel
theorem dX8_burnsIn_39 : decode cX8_burnsIn 39 = .ok (.iconst 0, 1) := by decide +kernel
theorem dX8_burnsIn_40 : decode cX8_burnsIn 40 = .ok (.iaload, 1) := by decide +kernel
theorem dX8_burnsIn_41 : decode cX8_burnsIn 41 = .ok (.imul, 1) := by decide +kernel
theorem dX8_burnsIn_42 : decode cX8_burnsIn 42 = .ok (.iadd, 1) := by decide +kernel
theorem dX8_burnsIn_43 : decode cX8_burnsIn 43 = .ok (.iload 5, 2) := by decide +kernel
theorem dX8_burnsIn_45 : decode cX8_burnsIn 45 = .ok (.iadd, 1) := by decide +kernel
theorem dX8_burnsIn_46 : decode cX8_burnsIn 46 = .ok (.iload_n 1, 1) := by decide +kernel
theorem dX8_burnsIn_47 : decode cX8_burnsIn 47 = .ok (.iload_n 1, 1) := by decide +kernel
theorem dX8_burnsIn_48 : decode cX8_burnsIn 48 = .ok (.iload_n 2, 1) := by decide +kernel
theorem dX8_burnsIn_49 : decode cX8_burnsIn 49 = .ok (.iadd, 1) := by decide +kernel
theorem dX8_burnsIn_50 : decode cX8_burnsIn 50 = .ok (.iconst 1, 1) := by decide +kernel
theorem dX8_burnsIn_51 : decode cX8_burnsIn 51 = .ok (.isub, 1) := by decide +kernel
theorem dX8_burnsIn_52 : decode cX8_burnsIn 52 = .ok (.invokestatic 30, 3) := by decide +kernel
theorem dX8_burnsIn_55 : decode cX8_burnsIn 55 = .ok (.ifCond .eq 10, 3) := by decide +kernel
theorem dX8_burnsIn_58 : decode cX8_burnsIn 58 = .ok (.iconst 1, 1) := by decide +kernel
theorem dX8_burnsIn_59 : decode cX8_burnsIn 59 = .ok (.iload 4, 2) := by decide +kernel
theorem dX8_burnsIn_61 : decode cX8_burnsIn 61 = .ok (.ishl, 1) := by decide +kernel
theorem dX8_burnsIn_62 : decode cX8_burnsIn 62 = .ok (.goto 4, 3) := by decide +kernel
theorem dX8_burnsIn_65 : decode cX8_burnsIn 65 = .ok (.iconst 0, 1) := by decide +kernel
theorem dX8_burnsIn_66 : decode cX8_burnsIn 66 = .ok (.ior, 1) := by decide +kernel
theorem dX8_burnsIn_67 : decode cX8_burnsIn 67 = .ok (.istore_n 3, 1) := by decide +kernel
theorem dX8_burnsIn_68 : decode cX8_burnsIn 68 = .ok (.iinc 5 1, 3) := by decide +kernel
theorem dX8_burnsIn_71 : decode cX8_burnsIn 71 = .ok (.goto (-56), 3) := by decide +kernel
theorem dX8_burnsIn_74 : decode cX8_burnsIn 74 = .ok (.iinc 4 1, 3) := by decide +kernel
theorem dX8_burnsIn_77 : decode cX8_burnsIn 77 = .ok (.goto (-72), 3) := by decide +kernel
theorem dX8_burnsIn_80 : decode cX8_burnsIn 80 = .ok (.iload_n 3, 1) := by decide +kernel
theorem dX8_burnsIn_81 : decode cX8_burnsIn 81 = .ok (.ireturn, 1) := by decide +kernel
set_option maxRecDepth 20000 in
theorem ggX8_flashed_X8_burnsIn : GoodIn wsX8_flashed wsX8_burnsIn := goodIn_r _ [6, 1, 7, 8, 5, 9, 10, 11, 12, 13, 14, 15, 16] (by decide +kernel) (by decide +kernel)
set_option maxRecDepth 20000 in
theorem gX8_flashed_X8_burnsIn : GoodIn wsX8_flashed (wsV RX8 124 RX8 yX8_burnsIn wsX8_burnsIn) := goodIn_app (goodIn_of _ (by decide +kernel)) ggX8_flashed_X8_burnsIn
theorem dX8_flashed_0 : decode cX8_flashed 0 = .ok (.aload_n 0, 1) := by decide +kernel
theorem dX8_flashed_1 : decode cX8_flashed 1 = .ok (.getfield 7, 3) := by decide +kernel
theorem dX8_flashed_4 : decode cX8_flashed 4 = .ok (.bipush 7, 2) := by decide +kernel
theorem dX8_flashed_6 : decode cX8_flashed 6 = .ok (.iaload, 1) := by decide +kernel
theorem dX8_flashed_7 : decode cX8_flashed 7 = .ok (.ifCond .ge 7, 3) := by decide +kernel
theorem dX8_flashed_10 : decode cX8_flashed 10 = .ok (.iconst 0, 1) := by decide +kernel
theorem dX8_flashed_11 : decode cX8_flashed 11 = .ok (.goto 21, 3) := by decide +kernel
theorem dX8_flashed_14 : decode cX8_flashed 14 = .ok (.aload_n 0, 1) := by decide +kernel
theorem dX8_flashed_15 : decode cX8_flashed 15 = .ok (.aload_n 0, 1) := by decide +kernel
theorem dX8_flashed_16 : decode cX8_flashed 16 = .ok (.getfield 7, 3) := by decide +kernel
theorem dX8_flashed_19 : decode cX8_flashed 19 = .ok (.bipush 7, 2) := by decide +kernel
theorem dX8_flashed_21 : decode cX8_flashed 21 = .ok (.iaload, 1) := by decide +kernel
theorem dX8_flashed_22 : decode cX8_flashed 22 = .ok (.aload_n 0, 1) := by decide +kernel
theorem dX8_flashed_23 : decode cX8_flashed 23 = .ok (.getfield 7, 3) := by decide +kernel
theorem dX8_flashed_26 : decode cX8_flashed 26 = .ok (.bipush 8, 2) := by decide +kernel
theorem dX8_flashed_28 : decode cX8_flashed 28 = .ok (.iaload, 1) := by decide +kernel
theorem dX8_flashed_29 : decode cX8_flashed 29 = .ok (.invokevirtual 124, 3) := by decide +kernel
theorem dX8_flashed_32 : decode cX8_flashed 32 = .ok (.ireturn, 1) := by decide +kernel
theorem dX8_ones_0 : decode cX8_ones 0 = .ok (.iconst 0, 1) := by decide +kernel
theorem dX8_ones_1 : decode cX8_ones 1 = .ok (.istore_n 1, 1) := by decide +kernel
theorem dX8_ones_2 : decode cX8_ones 2 = .ok (.iconst 0, 1) := by decide +kernel
theorem dX8_ones_3 : decode cX8_ones 3 = .ok (.istore_n 2, 1) := by decide +kernel
theorem dX8_ones_4 : decode cX8_ones 4 = .ok (.iload_n 2, 1) := by decide +kernel
theorem dX8_ones_5 : decode cX8_ones 5 = .ok (.bipush 16, 2) := by decide +kernel
theorem dX8_ones_7 : decode cX8_ones 7 = .ok (.if_icmp .ge 17, 3) := by decide +kernel
theorem dX8_ones_10 : decode cX8_ones 10 = .ok (.iload_n 1, 1) := by decide +kernel
theorem dX8_ones_11 : decode cX8_ones 11 = .ok (.iload_n 0, 1) := by decide +kernel
theorem dX8_ones_12 : decode cX8_ones 12 = .ok (.iload_n 2, 1) := by decide +kernel
theorem dX8_ones_13 : decode cX8_ones 13 = .ok (.ishr, 1) := by decide +kernel
theorem dX8_ones_14 : decode cX8_ones 14 = .ok (.iconst 1, 1) := by decide +kernel
theorem dX8_ones_15 : decode cX8_ones 15 = .ok (.iand, 1) := by decide +kernel
theorem dX8_ones_16 : decode cX8_ones 16 = .ok (.iadd, 1) := by decide +kernel
theorem dX8_ones_17 : decode cX8_ones 17 = .ok (.istore_n 1, 1) := by decide +kernel
theorem dX8_ones_18 : decode cX8_ones 18 = .ok (.iinc 2 1, 3) := by decide +kernel
theorem dX8_ones_21 : decode cX8_ones 21 = .ok (.goto (-17), 3) := by decide +kernel
theorem dX8_ones_24 : decode cX8_ones 24 = .ok (.iload_n 1, 1) := by decide +kernel
theorem dX8_ones_25 : decode cX8_ones 25 = .ok (.ireturn, 1) := by decide +kernel
set_option maxRecDepth 20000 in
theorem ggX8_bestFlash_X8_in : GoodIn wsX8_bestFlash wsX8_in := goodIn_r _ [5] (by decide +kernel) (by decide +kernel)
set_option maxRecDepth 20000 in
theorem gX8_bestFlash_X8_in : GoodIn wsX8_bestFlash (va_wsS RX8 30 yX8_in wsX8_in) := goodIn_app (goodIn_of _ (by decide +kernel)) ggX8_bestFlash_X8_in
set_option maxRecDepth 20000 in
theorem ggX8_bestFlash_X8_burnsIn : GoodIn wsX8_bestFlash wsX8_burnsIn := goodIn_r _ [9, 1, 2, 3, 4, 5, 13, 14, 15, 16, 17, 18, 19] (by decide +kernel) (by decide +kernel)
set_option maxRecDepth 20000 in
theorem gX8_bestFlash_X8_burnsIn : GoodIn wsX8_bestFlash (wsV RX8 124 RX8 yX8_burnsIn wsX8_burnsIn) := goodIn_app (goodIn_of _ (by decide +kernel)) ggX8_bestFlash_X8_burnsIn
set_option maxRecDepth 20000 in
theorem ggX8_bestFlash_X8_ones : GoodIn wsX8_bestFlash wsX8_ones := goodIn_r _ [12] (by decide +kernel) (by decide +kernel)
set_option maxRecDepth 20000 in
theorem gX8_bestFlash_X8_ones : GoodIn wsX8_bestFlash (va_wsS RX8 127 yX8_ones wsX8_ones) := goodIn_app (goodIn_of _ (by decide +kernel)) ggX8_bestFlash_X8_ones
theorem dX8_bestFlash_0 : decode cX8_bestFlash 0 = .ok (.iload_n 1, 1) := by decide +kernel
theorem dX8_bestFlash_1 : decode cX8_bestFlash 1 = .ok (.iconst 1, 1) := by decide +kernel
theorem dX8_bestFlash_2 : decode cX8_bestFlash 2 = .ok (.bipush 20, 2) := by decide +kernel
theorem dX8_bestFlash_4 : decode cX8_bestFlash 4 = .ok (.invokestatic 30, 3) := by decide +kernel
theorem dX8_bestFlash_7 : decode cX8_bestFlash 7 = .ok (.ifCond .eq 12, 3) := by decide +kernel
theorem dX8_bestFlash_10 : decode cX8_bestFlash 10 = .ok (.iload_n 2, 1) := by decide +kernel
theorem dX8_bestFlash_11 : decode cX8_bestFlash 11 = .ok (.iconst 0, 1) := by decide +kernel
theorem dX8_bestFlash_12 : decode cX8_bestFlash 12 = .ok (.iconst 1, 1) := by decide +kernel
theorem dX8_bestFlash_13 : decode cX8_bestFlash 13 = .ok (.invokestatic 30, 3) := by decide +kernel
theorem dX8_bestFlash_16 : decode cX8_bestFlash 16 = .ok (.ifCond .ne 6, 3) := by decide +kernel
theorem dX8_bestFlash_19 : decode cX8_bestFlash 19 = .ok (.bipush (-2), 2) := by decide +kernel
theorem dX8_bestFlash_21 : decode cX8_bestFlash 21 = .ok (.ireturn, 1) := by decide +kernel
theorem dX8_bestFlash_22 : decode cX8_bestFlash 22 = .ok (.iconst 0, 1) := by decide +kernel
theorem dX8_bestFlash_23 : decode cX8_bestFlash 23 = .ok (.istore_n 3, 1) := by decide +kernel
theorem dX8_bestFlash_24 : decode cX8_bestFlash 24 = .ok (.iconst (-1), 1) := by decide +kernel
theorem dX8_bestFlash_25 : decode cX8_bestFlash 25 = .ok (.istore 4, 2) := by decide +kernel
theorem dX8_bestFlash_27 : decode cX8_bestFlash 27 = .ok (.iconst 0, 1) := by decide +kernel
theorem dX8_bestFlash_28 : decode cX8_bestFlash 28 = .ok (.istore 5, 2) := by decide +kernel
theorem dX8_bestFlash_30 : decode cX8_bestFlash 30 = .ok (.iload 5, 2) := by decide +kernel
theorem dX8_bestFlash_32 : decode cX8_bestFlash 32 = .ok (.bipush 99, 2) := by decide +kernel
theorem dX8_bestFlash_34 : decode cX8_bestFlash 34 = .ok (.if_icmp .gt 58, 3) := by decide +kernel
theorem dX8_bestFlash_37 : decode cX8_bestFlash 37 = .ok (.aload_n 0, 1) := by decide +kernel
theorem dX8_bestFlash_38 : decode cX8_bestFlash 38 = .ok (.aload_n 0, 1) := by decide +kernel
theorem dX8_bestFlash_39 : decode cX8_bestFlash 39 = .ok (.getfield 7, 3) := by decide +kernel
theorem dX8_bestFlash_42 : decode cX8_bestFlash 42 = .ok (.iconst 4, 1) := by decide +kernel
theorem dX8_bestFlash_43 : decode cX8_bestFlash 43 = .ok (.iaload, 1) := by decide +kernel
theorem dX8_bestFlash_44 : decode cX8_bestFlash 44 = .ok (.iload 5, 2) := by decide +kernel
theorem dX8_bestFlash_46 : decode cX8_bestFlash 46 = .ok (.iadd, 1) := by decide +kernel
theorem dX8_bestFlash_47 : decode cX8_bestFlash 47 = .ok (.iload_n 1, 1) := by decide +kernel
theorem dX8_bestFlash_48 : decode cX8_bestFlash 48 = .ok (.invokevirtual 124, 3) := by decide +kernel
theorem dX8_bestFlash_51 : decode cX8_bestFlash 51 = .ok (.invokestatic 127, 3) := by decide +kernel
theorem dX8_bestFlash_54 : decode cX8_bestFlash 54 = .ok (.istore 6, 2) := by decide +kernel
theorem dX8_bestFlash_56 : decode cX8_bestFlash 56 = .ok (.iload 6, 2) := by decide +kernel
theorem dX8_bestFlash_58 : decode cX8_bestFlash 58 = .ok (.iload 4, 2) := by decide +kernel
theorem dX8_bestFlash_60 : decode cX8_bestFlash 60 = .ok (.if_icmp .le 8, 3) := by decide +kernel
theorem dX8_bestFlash_63 : decode cX8_bestFlash 63 = .ok (.iload 5, 2) := by decide +kernel
theorem dX8_bestFlash_65 : decode cX8_bestFlash 65 = .ok (.goto 4, 3) := by decide +kernel
theorem dX8_bestFlash_68 : decode cX8_bestFlash 68 = .ok (.iload_n 3, 1) := by decide +kernel
theorem dX8_bestFlash_69 : decode cX8_bestFlash 69 = .ok (.istore_n 3, 1) := by decide +kernel
theorem dX8_bestFlash_70 : decode cX8_bestFlash 70 = .ok (.iload 6, 2) := by decide +kernel
theorem dX8_bestFlash_72 : decode cX8_bestFlash 72 = .ok (.iload 4, 2) := by decide +kernel
theorem dX8_bestFlash_74 : decode cX8_bestFlash 74 = .ok (.if_icmp .le 8, 3) := by decide +kernel
theorem dX8_bestFlash_77 : decode cX8_bestFlash 77 = .ok (.iload 6, 2) := by decide +kernel
theorem dX8_bestFlash_79 : decode cX8_bestFlash 79 = .ok (.goto 5, 3) := by decide +kernel
theorem dX8_bestFlash_82 : decode cX8_bestFlash 82 = .ok (.iload 4, 2) := by decide +kernel
theorem dX8_bestFlash_84 : decode cX8_bestFlash 84 = .ok (.istore 4, 2) := by decide +kernel
theorem dX8_bestFlash_86 : decode cX8_bestFlash 86 = .ok (.iinc 5 1, 3) := by decide +kernel
theorem dX8_bestFlash_89 : decode cX8_bestFlash 89 = .ok (.goto (-59), 3) := by decide +kernel
theorem dX8_bestFlash_92 : decode cX8_bestFlash 92 = .ok (.iload_n 2, 1) := by decide +kernel
theorem dX8_bestFlash_93 : decode cX8_bestFlash 93 = .ok (.ifCond .ne 7, 3) := by decide +kernel
theorem dX8_bestFlash_96 : decode cX8_bestFlash 96 = .ok (.iload_n 3, 1) := by decide +kernel
theorem dX8_bestFlash_97 : decode cX8_bestFlash 97 = .ok (.goto 5, 3) := by decide +kernel
theorem dX8_bestFlash_100 : decode cX8_bestFlash 100 = .ok (.iload 4, 2) := by decide +kernel
theorem dX8_bestFlash_102 : decode cX8_bestFlash 102 = .ok (.ireturn, 1) := by decide +kernel
set_option maxRecDepth 20000 in
theorem ggX8_put_X8_in : GoodIn wsX8_put wsX8_in := goodIn_r _ [7] (by decide +kernel) (by decide +kernel)
set_option maxRecDepth 20000 in
theorem gX8_put_X8_in : GoodIn wsX8_put (va_wsS RX8 30 yX8_in wsX8_in) := goodIn_app (goodIn_of _ (by decide +kernel)) ggX8_put_X8_in
theorem dX8_put_0 : decode cX8_put 0 = .ok (.iconst 0, 1) := by decide +kernel
theorem dX8_put_1 : decode cX8_put 1 = .ok (.istore_n 3, 1) := by decide +kernel
theorem dX8_put_2 : decode cX8_put 2 = .ok (.iconst 1, 1) := by decide +kernel
theorem dX8_put_3 : decode cX8_put 3 = .ok (.istore 4, 2) := by decide +kernel
theorem dX8_put_5 : decode cX8_put 5 = .ok (.iconst 0, 1) := by decide +kernel
theorem dX8_put_6 : decode cX8_put 6 = .ok (.istore 5, 2) := by decide +kernel
theorem dX8_put_8 : decode cX8_put 8 = .ok (.iconst 0, 1) := by decide +kernel
theorem dX8_put_9 : decode cX8_put 9 = .ok (.istore 6, 2) := by decide +kernel
theorem dX8_put_11 : decode cX8_put 11 = .ok (.iload 6, 2) := by decide +kernel
theorem dX8_put_13 : decode cX8_put 13 = .ok (.bipush 8, 2) := by decide +kernel
theorem dX8_put_15 : decode cX8_put 15 = .ok (.if_icmp .ge 90, 3) := by decide +kernel
theorem dX8_put_18 : decode cX8_put 18 = .ok (.lload_n 1, 1) := by decide +kernel
theorem dX8_put_19 : decode cX8_put 19 = .ok (.bipush 8, 2) := by decide +kernel
theorem dX8_put_21 : decode cX8_put 21 = .ok (.iload 6, 2) := by decide +kernel
theorem dX8_put_23 : decode cX8_put 23 = .ok (.imul, 1) := by decide +kernel
theorem dX8_put_24 : decode cX8_put 24 = .ok (.lshr, 1) := by decide +kernel
theorem dX8_put_25 : decode cX8_put 25 = .ok (.ldc2_w 130, 3) := by decide +kernel
theorem dX8_put_28 : decode cX8_put 28 = .ok (.land, 1) := by decide +kernel
theorem dX8_put_29 : decode cX8_put 29 = .ok (.l2i, 1) := by decide +kernel
theorem dX8_put_30 : decode cX8_put 30 = .ok (.istore 7, 2) := by decide +kernel
theorem dX8_put_32 : decode cX8_put 32 = .ok (.iload 5, 2) := by decide +kernel
theorem dX8_put_34 : decode cX8_put 34 = .ok (.ifCond .ne 8, 3) := by decide +kernel
theorem dX8_put_37 : decode cX8_put 37 = .ok (.iload 7, 2) := by decide +kernel
theorem dX8_put_39 : decode cX8_put 39 = .ok (.ifCond .ne 7, 3) := by decide +kernel
theorem dX8_put_42 : decode cX8_put 42 = .ok (.iconst 1, 1) := by decide +kernel
theorem dX8_put_43 : decode cX8_put 43 = .ok (.goto 4, 3) := by decide +kernel
theorem dX8_put_46 : decode cX8_put 46 = .ok (.iconst 0, 1) := by decide +kernel
theorem dX8_put_47 : decode cX8_put 47 = .ok (.istore 5, 2) := by decide +kernel
theorem dX8_put_49 : decode cX8_put 49 = .ok (.iload 4, 2) := by decide +kernel
theorem dX8_put_51 : decode cX8_put 51 = .ok (.ifCond .eq 32, 3) := by decide +kernel
theorem dX8_put_54 : decode cX8_put 54 = .ok (.iload 5, 2) := by decide +kernel
theorem dX8_put_56 : decode cX8_put 56 = .ok (.ifCond .eq 11, 3) := by decide +kernel
theorem dX8_put_59 : decode cX8_put 59 = .ok (.iload 7, 2) := by decide +kernel
theorem dX8_put_61 : decode cX8_put 61 = .ok (.ifCond .ne 22, 3) := by decide +kernel
theorem dX8_put_64 : decode cX8_put 64 = .ok (.goto 15, 3) := by decide +kernel
theorem dX8_put_67 : decode cX8_put 67 = .ok (.iload 7, 2) := by decide +kernel
theorem dX8_put_69 : decode cX8_put 69 = .ok (.bipush 33, 2) := by decide +kernel
theorem dX8_put_71 : decode cX8_put 71 = .ok (.bipush 126, 2) := by decide +kernel
theorem dX8_put_73 : decode cX8_put 73 = .ok (.invokestatic 30, 3) := by decide +kernel
theorem dX8_put_76 : decode cX8_put 76 = .ok (.ifCond .eq 7, 3) := by decide +kernel
theorem dX8_put_79 : decode cX8_put 79 = .ok (.iconst 1, 1) := by decide +kernel
theorem dX8_put_80 : decode cX8_put 80 = .ok (.goto 4, 3) := by decide +kernel
theorem dX8_put_83 : decode cX8_put 83 = .ok (.iconst 0, 1) := by decide +kernel
theorem dX8_put_84 : decode cX8_put 84 = .ok (.istore 4, 2) := by decide +kernel
theorem dX8_put_86 : decode cX8_put 86 = .ok (.iload_n 3, 1) := by decide +kernel
theorem dX8_put_87 : decode cX8_put 87 = .ok (.iload 5, 2) := by decide +kernel
theorem dX8_put_89 : decode cX8_put 89 = .ok (.ifCond .eq 7, 3) := by decide +kernel
theorem dX8_put_92 : decode cX8_put 92 = .ok (.iconst 0, 1) := by decide +kernel
theorem dX8_put_93 : decode cX8_put 93 = .ok (.goto 4, 3) := by decide +kernel
theorem dX8_put_96 : decode cX8_put 96 = .ok (.iconst 1, 1) := by decide +kernel
theorem dX8_put_97 : decode cX8_put 97 = .ok (.iadd, 1) := by decide +kernel
theorem dX8_put_98 : decode cX8_put 98 = .ok (.istore_n 3, 1) := by decide +kernel
theorem dX8_put_99 : decode cX8_put 99 = .ok (.iinc 6 1, 3) := by decide +kernel
theorem dX8_put_102 : decode cX8_put 102 = .ok (.goto (-91), 3) := by decide +kernel
theorem dX8_put_105 : decode cX8_put 105 = .ok (.iload 4, 2) := by decide +kernel
theorem dX8_put_107 : decode cX8_put 107 = .ok (.ifCond .eq 7, 3) := by decide +kernel
theorem dX8_put_110 : decode cX8_put 110 = .ok (.iload_n 3, 1) := by decide +kernel
theorem dX8_put_111 : decode cX8_put 111 = .ok (.ifCond .ne 6, 3) := by decide +kernel
theorem dX8_put_114 : decode cX8_put 114 = .ok (.bipush (-2), 2) := by decide +kernel
theorem dX8_put_116 : decode cX8_put 116 = .ok (.ireturn, 1) := by decide +kernel
theorem dX8_put_117 : decode cX8_put 117 = .ok (.aload_n 0, 1) := by decide +kernel
theorem dX8_put_118 : decode cX8_put 118 = .ok (.getfield 121, 3) := by decide +kernel
theorem dX8_put_121 : decode cX8_put 121 = .ok (.iload_n 3, 1) := by decide +kernel
theorem dX8_put_122 : decode cX8_put 122 = .ok (.iadd, 1) := by decide +kernel
theorem dX8_put_123 : decode cX8_put 123 = .ok (.bipush 80, 2) := by decide +kernel
theorem dX8_put_125 : decode cX8_put 125 = .ok (.if_icmp .le 6, 3) := by decide +kernel
theorem dX8_put_128 : decode cX8_put 128 = .ok (.bipush (-4), 2) := by decide +kernel
theorem dX8_put_130 : decode cX8_put 130 = .ok (.ireturn, 1) := by decide +kernel
theorem dX8_put_131 : decode cX8_put 131 = .ok (.iload_n 3, 1) := by decide +kernel
theorem dX8_put_132 : decode cX8_put 132 = .ok (.iconst 1, 1) := by decide +kernel
theorem dX8_put_133 : decode cX8_put 133 = .ok (.isub, 1) := by decide +kernel
theorem dX8_put_134 : decode cX8_put 134 = .ok (.istore 6, 2) := by decide +kernel
theorem dX8_put_136 : decode cX8_put 136 = .ok (.iload 6, 2) := by decide +kernel
theorem dX8_put_138 : decode cX8_put 138 = .ok (.ifCond .lt 40, 3) := by decide +kernel
theorem dX8_put_141 : decode cX8_put 141 = .ok (.aload_n 0, 1) := by decide +kernel
theorem dX8_put_142 : decode cX8_put 142 = .ok (.getfield 23, 3) := by decide +kernel
theorem dX8_put_145 : decode cX8_put 145 = .ok (.aload_n 0, 1) := by decide +kernel
theorem dX8_put_146 : decode cX8_put 146 = .ok (.getfield 121, 3) := by decide +kernel
theorem dX8_put_149 : decode cX8_put 149 = .ok (.lload_n 1, 1) := by decide +kernel
theorem dX8_put_150 : decode cX8_put 150 = .ok (.bipush 8, 2) := by decide +kernel
theorem dX8_put_152 : decode cX8_put 152 = .ok (.iload 6, 2) := by decide +kernel
theorem dX8_put_154 : decode cX8_put 154 = .ok (.imul, 1) := by decide +kernel
theorem dX8_put_155 : decode cX8_put 155 = .ok (.lshr, 1) := by decide +kernel
theorem dX8_put_156 : decode cX8_put 156 = .ok (.ldc2_w 130, 3) := by decide +kernel
theorem dX8_put_159 : decode cX8_put 159 = .ok (.land, 1) := by decide +kernel
theorem dX8_put_160 : decode cX8_put 160 = .ok (.l2i, 1) := by decide +kernel
theorem dX8_put_161 : decode cX8_put 161 = .ok (.iastore, 1) := by decide +kernel
theorem dX8_put_162 : decode cX8_put 162 = .ok (.aload_n 0, 1) := by decide +kernel
theorem dX8_put_163 : decode cX8_put 163 = .ok (.dup, 1) := by decide +kernel
theorem dX8_put_164 : decode cX8_put 164 = .ok (.getfield 121, 3) := by decide +kernel
theorem dX8_put_167 : decode cX8_put 167 = .ok (.iconst 1, 1) := by decide +kernel
theorem dX8_put_168 : decode cX8_put 168 = .ok (.iadd, 1) := by decide +kernel
theorem dX8_put_169 : decode cX8_put 169 = .ok (.putfield 121, 3) := by decide +kernel
theorem dX8_put_172 : decode cX8_put 172 = .ok (.iinc 6 (-1), 3) := by decide +kernel
theorem dX8_put_175 : decode cX8_put 175 = .ok (.goto (-39), 3) := by decide +kernel
theorem dX8_put_178 : decode cX8_put 178 = .ok (.aload_n 0, 1) := by decide +kernel
theorem dX8_put_179 : decode cX8_put 179 = .ok (.getfield 121, 3) := by decide +kernel
theorem dX8_put_182 : decode cX8_put 182 = .ok (.ireturn, 1) := by decide +kernel
theorem dX8_wipe_0 : decode cX8_wipe 0 = .ok (.aload_n 0, 1) := by decide +kernel
theorem dX8_wipe_1 : decode cX8_wipe 1 = .ok (.getfield 121, 3) := by decide +kernel
theorem dX8_wipe_4 : decode cX8_wipe 4 = .ok (.istore_n 1, 1) := by decide +kernel
theorem dX8_wipe_5 : decode cX8_wipe 5 = .ok (.aload_n 0, 1) := by decide +kernel
theorem dX8_wipe_6 : decode cX8_wipe 6 = .ok (.iconst 0, 1) := by decide +kernel
theorem dX8_wipe_7 : decode cX8_wipe 7 = .ok (.putfield 121, 3) := by decide +kernel
theorem dX8_wipe_10 : decode cX8_wipe 10 = .ok (.iload_n 1, 1) := by decide +kernel
theorem dX8_wipe_11 : decode cX8_wipe 11 = .ok (.ireturn, 1) := by decide +kernel
theorem dX8_sign_0 : decode cX8_sign 0 = .ok (.iload_n 1, 1) := by decide +kernel
theorem dX8_sign_1 : decode cX8_sign 1 = .ok (.aload_n 0, 1) := by decide +kernel
theorem dX8_sign_2 : decode cX8_sign 2 = .ok (.getfield 121, 3) := by decide +kernel
theorem dX8_sign_5 : decode cX8_sign 5 = .ok (.if_icmp .ge 12, 3) := by decide +kernel
theorem dX8_sign_8 : decode cX8_sign 8 = .ok (.aload_n 0, 1) := by decide +kernel
theorem dX8_sign_9 : decode cX8_sign 9 = .ok (.getfield 23, 3) := by decide +kernel
theorem dX8_sign_12 : decode cX8_sign 12 = .ok (.iload_n 1, 1) := by decide +kernel
theorem dX8_sign_13 : decode cX8_sign 13 = .ok (.iaload, 1) := by decide +kernel
theorem dX8_sign_14 : decode cX8_sign 14 = .ok (.goto 4, 3) := by decide +kernel
theorem dX8_sign_17 : decode cX8_sign 17 = .ok (.iconst (-1), 1) := by decide +kernel
theorem dX8_sign_18 : decode cX8_sign 18 = .ok (.ireturn, 1) := by decide +kernel
set_option maxRecDepth 20000 in
theorem ggX8_digit_X8_sign : GoodIn wsX8_digit wsX8_sign := goodIn_r _ [5, 6, 7, 11, 12, 13, 14, 15, 16, 17] (by decide +kernel) (by decide +kernel)
set_option maxRecDepth 20000 in
theorem gX8_digit_X8_sign : GoodIn wsX8_digit (wsV RX8 132 RX8 yX8_sign wsX8_sign) := goodIn_app (goodIn_of _ (by decide +kernel)) ggX8_digit_X8_sign
set_option maxRecDepth 20000 in
theorem ggX8_digit_X8_in : GoodIn wsX8_digit wsX8_in := goodIn_r _ [10] (by decide +kernel) (by decide +kernel)
set_option maxRecDepth 20000 in
theorem gX8_digit_X8_in : GoodIn wsX8_digit (va_wsS RX8 30 yX8_in wsX8_in) := goodIn_app (goodIn_of _ (by decide +kernel)) ggX8_digit_X8_in
theorem dX8_digit_0 : decode cX8_digit 0 = .ok (.aload_n 0, 1) := by decide +kernel
theorem dX8_digit_1 : decode cX8_digit 1 = .ok (.iload_n 1, 1) := by decide +kernel
theorem dX8_digit_2 : decode cX8_digit 2 = .ok (.invokevirtual 132, 3) := by decide +kernel
theorem dX8_digit_5 : decode cX8_digit 5 = .ok (.bipush 48, 2) := by decide +kernel
theorem dX8_digit_7 : decode cX8_digit 7 = .ok (.bipush 57, 2) := by decide +kernel
theorem dX8_digit_9 : decode cX8_digit 9 = .ok (.invokestatic 30, 3) := by decide +kernel
theorem dX8_digit_12 : decode cX8_digit 12 = .ok (.ifCond .eq 14, 3) := by decide +kernel
theorem dX8_digit_15 : decode cX8_digit 15 = .ok (.aload_n 0, 1) := by decide +kernel
theorem dX8_digit_16 : decode cX8_digit 16 = .ok (.iload_n 1, 1) := by decide +kernel
theorem dX8_digit_17 : decode cX8_digit 17 = .ok (.invokevirtual 132, 3) := by decide +kernel
theorem dX8_digit_20 : decode cX8_digit 20 = .ok (.bipush 48, 2) := by decide +kernel
theorem dX8_digit_22 : decode cX8_digit 22 = .ok (.isub, 1) := by decide +kernel
theorem dX8_digit_23 : decode cX8_digit 23 = .ok (.goto 4, 3) := by decide +kernel
theorem dX8_digit_26 : decode cX8_digit 26 = .ok (.iconst (-1), 1) := by decide +kernel
theorem dX8_digit_27 : decode cX8_digit 27 = .ok (.ireturn, 1) := by decide +kernel
set_option maxRecDepth 20000 in
theorem ggX8_numberEnd_X8_digit : GoodIn wsX8_numberEnd wsX8_digit := goodIn_r _ [5, 6, 7, 8, 4, 9, 10, 11, 12, 13, 14, 15, 16, 17, 18, 19, 20, 21] (by decide +kernel) (by decide +kernel)
set_option maxRecDepth 20000 in
theorem gX8_numberEnd_X8_digit : GoodIn wsX8_numberEnd (wsV RX8 135 RX8 yX8_digit wsX8_digit) := goodIn_app (goodIn_of _ (by decide +kernel)) ggX8_numberEnd_X8_digit
theorem dX8_numberEnd_0 : decode cX8_numberEnd 0 = .ok (.iload_n 1, 1) := by decide +kernel
theorem dX8_numberEnd_1 : decode cX8_numberEnd 1 = .ok (.ifCond .ge 5, 3) := by decide +kernel
theorem dX8_numberEnd_4 : decode cX8_numberEnd 4 = .ok (.iload_n 1, 1) := by decide +kernel
theorem dX8_numberEnd_5 : decode cX8_numberEnd 5 = .ok (.ireturn, 1) := by decide +kernel
theorem dX8_numberEnd_6 : decode cX8_numberEnd 6 = .ok (.aload_n 0, 1) := by decide +kernel
theorem dX8_numberEnd_7 : decode cX8_numberEnd 7 = .ok (.iload_n 1, 1) := by decide +kernel
theorem dX8_numberEnd_8 : decode cX8_numberEnd 8 = .ok (.invokevirtual 135, 3) := by decide +kernel
theorem dX8_numberEnd_11 : decode cX8_numberEnd 11 = .ok (.ifCond .ge 7, 3) := by decide +kernel
theorem dX8_numberEnd_14 : decode cX8_numberEnd 14 = .ok (.iconst (-1), 1) := by decide +kernel
theorem dX8_numberEnd_15 : decode cX8_numberEnd 15 = .ok (.iload_n 1, 1) := by decide +kernel
theorem dX8_numberEnd_16 : decode cX8_numberEnd 16 = .ok (.isub, 1) := by decide +kernel
theorem dX8_numberEnd_17 : decode cX8_numberEnd 17 = .ok (.ireturn, 1) := by decide +kernel
theorem dX8_numberEnd_18 : decode cX8_numberEnd 18 = .ok (.aload_n 0, 1) := by decide +kernel
theorem dX8_numberEnd_19 : decode cX8_numberEnd 19 = .ok (.iload_n 1, 1) := by decide +kernel
theorem dX8_numberEnd_20 : decode cX8_numberEnd 20 = .ok (.invokevirtual 135, 3) := by decide +kernel
theorem dX8_numberEnd_23 : decode cX8_numberEnd 23 = .ok (.ifCond .le 19, 3) := by decide +kernel
theorem dX8_numberEnd_26 : decode cX8_numberEnd 26 = .ok (.aload_n 0, 1) := by decide +kernel
theorem dX8_numberEnd_27 : decode cX8_numberEnd 27 = .ok (.iload_n 1, 1) := by decide +kernel
theorem dX8_numberEnd_28 : decode cX8_numberEnd 28 = .ok (.iconst 1, 1) := by decide +kernel
theorem dX8_numberEnd_29 : decode cX8_numberEnd 29 = .ok (.iadd, 1) := by decide +kernel
theorem dX8_numberEnd_30 : decode cX8_numberEnd 30 = .ok (.invokevirtual 135, 3) := by decide +kernel
theorem dX8_numberEnd_33 : decode cX8_numberEnd 33 = .ok (.ifCond .lt 9, 3) := by decide +kernel
theorem dX8_numberEnd_36 : decode cX8_numberEnd 36 = .ok (.iload_n 1, 1) := by decide +kernel
theorem dX8_numberEnd_37 : decode cX8_numberEnd 37 = .ok (.iconst 2, 1) := by decide +kernel
theorem dX8_numberEnd_38 : decode cX8_numberEnd 38 = .ok (.iadd, 1) := by decide +kernel
theorem dX8_numberEnd_39 : decode cX8_numberEnd 39 = .ok (.goto 6, 3) := by decide +kernel
theorem dX8_numberEnd_42 : decode cX8_numberEnd 42 = .ok (.iload_n 1, 1) := by decide +kernel
theorem dX8_numberEnd_43 : decode cX8_numberEnd 43 = .ok (.iconst 1, 1) := by decide +kernel
theorem dX8_numberEnd_44 : decode cX8_numberEnd 44 = .ok (.iadd, 1) := by decide +kernel
theorem dX8_numberEnd_45 : decode cX8_numberEnd 45 = .ok (.ireturn, 1) := by decide +kernel
set_option maxRecDepth 20000 in
theorem ggX8_numberAt_X8_numberEnd : GoodIn wsX8_numberAt wsX8_numberEnd := goodIn_r _ [5, 6, 7, 8, 4, 9, 10, 11, 12, 13, 14, 15, 16, 17, 18, 19, 20, 21, 22, 23, 24, 25] (by decide +kernel) (by decide +kernel)
set_option maxRecDepth 20000 in
theorem gX8_numberAt_X8_numberEnd : GoodIn wsX8_numberAt (wsV RX8 138 RX8 yX8_numberEnd wsX8_numberEnd) := goodIn_app (goodIn_of _ (by decide +kernel)) ggX8_numberAt_X8_numberEnd
set_option maxRecDepth 20000 in
theorem ggX8_numberAt_X8_digit : GoodIn wsX8_numberAt wsX8_digit := goodIn_r _ [9, 10, 11, 12, 4, 13, 14, 15, 16, 17, 18, 19, 20, 21, 22, 23, 24, 25] (by decide +kernel) (by decide +kernel)
set_option maxRecDepth 20000 in
theorem gX8_numberAt_X8_digit : GoodIn wsX8_numberAt (wsV RX8 135 RX8 yX8_digit wsX8_digit) := goodIn_app (goodIn_of _ (by decide +kernel)) ggX8_numberAt_X8_digit
theorem dX8_numberAt_0 : decode cX8_numberAt 0 = .ok (.aload_n 0, 1) := by decide +kernel
theorem dX8_numberAt_1 : decode cX8_numberAt 1 = .ok (.iload_n 1, 1) := by decide +kernel
theorem dX8_numberAt_2 : decode cX8_numberAt 2 = .ok (.invokevirtual 138, 3) := by decide +kernel
theorem dX8_numberAt_5 : decode cX8_numberAt 5 = .ok (.iload_n 1, 1) := by decide +kernel
theorem dX8_numberAt_6 : decode cX8_numberAt 6 = .ok (.iconst 1, 1) := by decide +kernel
theorem dX8_numberAt_7 : decode cX8_numberAt 7 = .ok (.iadd, 1) := by decide +kernel
theorem dX8_numberAt_8 : decode cX8_numberAt 8 = .ok (.if_icmp .ne 11, 3) := by decide +kernel
theorem dX8_numberAt_11 : decode cX8_numberAt 11 = .ok (.aload_n 0, 1) := by decide +kernel
theorem dX8_numberAt_12 : decode cX8_numberAt 12 = .ok (.iload_n 1, 1) := by decide +kernel
theorem dX8_numberAt_13 : decode cX8_numberAt 13 = .ok (.invokevirtual 135, 3) := by decide +kernel
theorem dX8_numberAt_16 : decode cX8_numberAt 16 = .ok (.goto 19, 3) := by decide +kernel
theorem dX8_numberAt_19 : decode cX8_numberAt 19 = .ok (.bipush 10, 2) := by decide +kernel
theorem dX8_numberAt_21 : decode cX8_numberAt 21 = .ok (.aload_n 0, 1) := by decide +kernel
theorem dX8_numberAt_22 : decode cX8_numberAt 22 = .ok (.iload_n 1, 1) := by decide +kernel
theorem dX8_numberAt_23 : decode cX8_numberAt 23 = .ok (.invokevirtual 135, 3) := by decide +kernel
theorem dX8_numberAt_26 : decode cX8_numberAt 26 = .ok (.imul, 1) := by decide +kernel
theorem dX8_numberAt_27 : decode cX8_numberAt 27 = .ok (.aload_n 0, 1) := by decide +kernel
theorem dX8_numberAt_28 : decode cX8_numberAt 28 = .ok (.iload_n 1, 1) := by decide +kernel
theorem dX8_numberAt_29 : decode cX8_numberAt 29 = .ok (.iconst 1, 1) := by decide +kernel
theorem dX8_numberAt_30 : decode cX8_numberAt 30 = .ok (.iadd, 1) := by decide +kernel
theorem dX8_numberAt_31 : decode cX8_numberAt 31 = .ok (.invokevirtual 135, 3) := by decide +kernel
theorem dX8_numberAt_34 : decode cX8_numberAt 34 = .ok (.iadd, 1) := by decide +kernel
theorem dX8_numberAt_35 : decode cX8_numberAt 35 = .ok (.ireturn, 1) := by decide +kernel
set_option maxRecDepth 20000 in
theorem ggX8_behind_X8_sign : GoodIn wsX8_behind wsX8_sign := goodIn_r _ [5, 6, 7, 8, 9, 10, 11, 12, 13, 14] (by decide +kernel) (by decide +kernel)
set_option maxRecDepth 20000 in
theorem gX8_behind_X8_sign : GoodIn wsX8_behind (wsV RX8 132 RX8 yX8_sign wsX8_sign) := goodIn_app (goodIn_of _ (by decide +kernel)) ggX8_behind_X8_sign
theorem dX8_behind_0 : decode cX8_behind 0 = .ok (.iload_n 1, 1) := by decide +kernel
theorem dX8_behind_1 : decode cX8_behind 1 = .ok (.ifCond .ge 7, 3) := by decide +kernel
theorem dX8_behind_4 : decode cX8_behind 4 = .ok (.iload_n 1, 1) := by decide +kernel
theorem dX8_behind_5 : decode cX8_behind 5 = .ok (.goto 21, 3) := by decide +kernel
theorem dX8_behind_8 : decode cX8_behind 8 = .ok (.aload_n 0, 1) := by decide +kernel
theorem dX8_behind_9 : decode cX8_behind 9 = .ok (.iload_n 1, 1) := by decide +kernel
theorem dX8_behind_10 : decode cX8_behind 10 = .ok (.invokevirtual 132, 3) := by decide +kernel
theorem dX8_behind_13 : decode cX8_behind 13 = .ok (.iload_n 2, 1) := by decide +kernel
theorem dX8_behind_14 : decode cX8_behind 14 = .ok (.if_icmp .ne 9, 3) := by decide +kernel
theorem dX8_behind_17 : decode cX8_behind 17 = .ok (.iload_n 1, 1) := by decide +kernel
theorem dX8_behind_18 : decode cX8_behind 18 = .ok (.iconst 1, 1) := by decide +kernel
theorem dX8_behind_19 : decode cX8_behind 19 = .ok (.iadd, 1) := by decide +kernel
theorem dX8_behind_20 : decode cX8_behind 20 = .ok (.goto 6, 3) := by decide +kernel
theorem dX8_behind_23 : decode cX8_behind 23 = .ok (.iconst (-1), 1) := by decide +kernel
theorem dX8_behind_24 : decode cX8_behind 24 = .ok (.iload_n 1, 1) := by decide +kernel
theorem dX8_behind_25 : decode cX8_behind 25 = .ok (.isub, 1) := by decide +kernel
theorem dX8_behind_26 : decode cX8_behind 26 = .ok (.ireturn, 1) := by decide +kernel
set_option maxRecDepth 20000 in
theorem ggX8_digitEnd_X8_digit : GoodIn wsX8_digitEnd wsX8_digit := goodIn_r _ [5, 6, 7, 8, 4, 9, 10, 11, 12, 13, 14, 15, 16, 17, 18, 19, 20, 21] (by decide +kernel) (by decide +kernel)
set_option maxRecDepth 20000 in
theorem gX8_digitEnd_X8_digit : GoodIn wsX8_digitEnd (wsV RX8 135 RX8 yX8_digit wsX8_digit) := goodIn_app (goodIn_of _ (by decide +kernel)) ggX8_digitEnd_X8_digit
theorem dX8_digitEnd_0 : decode cX8_digitEnd 0 = .ok (.iload_n 1, 1) := by decide +kernel
theorem dX8_digitEnd_1 : decode cX8_digitEnd 1 = .ok (.ifCond .ge 7, 3) := by decide +kernel
theorem dX8_digitEnd_4 : decode cX8_digitEnd 4 = .ok (.iload_n 1, 1) := by decide +kernel
theorem dX8_digitEnd_5 : decode cX8_digitEnd 5 = .ok (.goto 20, 3) := by decide +kernel
theorem dX8_digitEnd_8 : decode cX8_digitEnd 8 = .ok (.aload_n 0, 1) := by decide +kernel
theorem dX8_digitEnd_9 : decode cX8_digitEnd 9 = .ok (.iload_n 1, 1) := by decide +kernel
theorem dX8_digitEnd_10 : decode cX8_digitEnd 10 = .ok (.invokevirtual 135, 3) := by decide +kernel
theorem dX8_digitEnd_13 : decode cX8_digitEnd 13 = .ok (.ifCond .ge 9, 3) := by decide +kernel
theorem dX8_digitEnd_16 : decode cX8_digitEnd 16 = .ok (.iconst (-1), 1) := by decide +kernel
theorem dX8_digitEnd_17 : decode cX8_digitEnd 17 = .ok (.iload_n 1, 1) := by decide +kernel
theorem dX8_digitEnd_18 : decode cX8_digitEnd 18 = .ok (.isub, 1) := by decide +kernel
theorem dX8_digitEnd_19 : decode cX8_digitEnd 19 = .ok (.goto 6, 3) := by decide +kernel
theorem dX8_digitEnd_22 : decode cX8_digitEnd 22 = .ok (.iload_n 1, 1) := by decide +kernel
theorem dX8_digitEnd_23 : decode cX8_digitEnd 23 = .ok (.iconst 1, 1) := by decide +kernel
theorem dX8_digitEnd_24 : decode cX8_digitEnd 24 = .ok (.iadd, 1) := by decide +kernel
theorem dX8_digitEnd_25 : decode cX8_digitEnd 25 = .ok (.ireturn, 1) := by decide +kernel
set_option maxRecDepth 20000 in
theorem ggX8_sizesEnd_X8_numberEnd : GoodIn wsX8_sizesEnd wsX8_numberEnd := goodIn_r _ [5, 6, 7, 8, 4, 9, 10, 11, 12, 13, 14, 15, 16, 17, 18, 23, 24, 25, 26, 27, 28, 29] (by decide +kernel) (by decide +kernel)
set_option maxRecDepth 20000 in
theorem gX8_sizesEnd_X8_numberEnd : GoodIn wsX8_sizesEnd (wsV RX8 138 RX8 yX8_numberEnd wsX8_numberEnd) := goodIn_app (goodIn_of _ (by decide +kernel)) ggX8_sizesEnd_X8_numberEnd
set_option maxRecDepth 20000 in
theorem ggX8_sizesEnd_X8_behind : GoodIn wsX8_sizesEnd wsX8_behind := goodIn_r _ [22, 10, 11, 12, 4, 13, 14, 15, 23, 24, 25, 26, 27, 28, 29] (by decide +kernel) (by decide +kernel)
set_option maxRecDepth 20000 in
theorem gX8_sizesEnd_X8_behind : GoodIn wsX8_sizesEnd (wsV RX8 141 RX8 yX8_behind wsX8_behind) := goodIn_app (goodIn_of _ (by decide +kernel)) ggX8_sizesEnd_X8_behind
theorem dX8_sizesEnd_0 : decode cX8_sizesEnd 0 = .ok (.aload_n 0, 1) := by decide +kernel
theorem dX8_sizesEnd_1 : decode cX8_sizesEnd 1 = .ok (.iload_n 1, 1) := by decide +kernel
theorem dX8_sizesEnd_2 : decode cX8_sizesEnd 2 = .ok (.invokevirtual 138, 3) := by decide +kernel
theorem dX8_sizesEnd_5 : decode cX8_sizesEnd 5 = .ok (.istore_n 2, 1) := by decide +kernel
theorem dX8_sizesEnd_6 : decode cX8_sizesEnd 6 = .ok (.iconst 0, 1) := by decide +kernel
theorem dX8_sizesEnd_7 : decode cX8_sizesEnd 7 = .ok (.istore_n 3, 1) := by decide +kernel
theorem dX8_sizesEnd_8 : decode cX8_sizesEnd 8 = .ok (.iload_n 3, 1) := by decide +kernel
theorem dX8_sizesEnd_9 : decode cX8_sizesEnd 9 = .ok (.iconst 3, 1) := by decide +kernel
theorem dX8_sizesEnd_10 : decode cX8_sizesEnd 10 = .ok (.if_icmp .ge 21, 3) := by decide +kernel
theorem dX8_sizesEnd_13 : decode cX8_sizesEnd 13 = .ok (.aload_n 0, 1) := by decide +kernel
theorem dX8_sizesEnd_14 : decode cX8_sizesEnd 14 = .ok (.aload_n 0, 1) := by decide +kernel
end
section
theorem dX8_sizesEnd_15 : decode cX8_sizesEnd 15 = .ok (.iload_n 2, 1) := by decide +kernel
theorem dX8_sizesEnd_16 : decode cX8_sizesEnd 16 = .ok (.bipush 44, 2) := by decide +kernel
theorem dX8_sizesEnd_18 : decode cX8_sizesEnd 18 = .ok (.invokevirtual 141, 3) := by decide +kernel
theorem dX8_sizesEnd_21 : decode cX8_sizesEnd 21 = .ok (.invokevirtual 138, 3) := by decide +kernel
theorem dX8_sizesEnd_24 : decode cX8_sizesEnd 24 = .ok (.istore_n 2, 1) := by decide +kernel
theorem dX8_sizesEnd_25 : decode cX8_sizesEnd 25 = .ok (.iinc 3 1, 3) := by decide +kernel
theorem dX8_sizesEnd_28 : decode cX8_sizesEnd 28 = .ok (.goto (-20), 3) := by decide +kernel
theorem dX8_sizesEnd_31 : decode cX8_sizesEnd 31 = .ok (.iload_n 2, 1) := by decide +kernel
theorem dX8_sizesEnd_32 : decode cX8_sizesEnd 32 = .ok (.ireturn, 1) := by decide +kernel
set_option maxRecDepth 20000 in
theorem ggX8_isSpeed_X8_sign : GoodIn wsX8_isSpeed wsX8_sign := goodIn_r _ [5, 6, 7, 8, 9, 10, 11, 12, 13, 14] (by decide +kernel) (by decide +kernel)
set_option maxRecDepth 20000 in
theorem gX8_isSpeed_X8_sign : GoodIn wsX8_isSpeed (wsV RX8 132 RX8 yX8_sign wsX8_sign) := goodIn_app (goodIn_of _ (by decide +kernel)) ggX8_isSpeed_X8_sign
theorem dX8_isSpeed_0 : decode cX8_isSpeed 0 = .ok (.iload_n 1, 1) := by decide +kernel
theorem dX8_isSpeed_1 : decode cX8_isSpeed 1 = .ok (.ifCond .le 27, 3) := by decide +kernel
theorem dX8_isSpeed_4 : decode cX8_isSpeed 4 = .ok (.aload_n 0, 1) := by decide +kernel
theorem dX8_isSpeed_5 : decode cX8_isSpeed 5 = .ok (.iload_n 1, 1) := by decide +kernel
theorem dX8_isSpeed_6 : decode cX8_isSpeed 6 = .ok (.invokevirtual 132, 3) := by decide +kernel
theorem dX8_isSpeed_9 : decode cX8_isSpeed 9 = .ok (.bipush 43, 2) := by decide +kernel
theorem dX8_isSpeed_11 : decode cX8_isSpeed 11 = .ok (.if_icmp .eq 13, 3) := by decide +kernel
theorem dX8_isSpeed_14 : decode cX8_isSpeed 14 = .ok (.aload_n 0, 1) := by decide +kernel
theorem dX8_isSpeed_15 : decode cX8_isSpeed 15 = .ok (.iload_n 1, 1) := by decide +kernel
theorem dX8_isSpeed_16 : decode cX8_isSpeed 16 = .ok (.invokevirtual 132, 3) := by decide +kernel
theorem dX8_isSpeed_19 : decode cX8_isSpeed 19 = .ok (.bipush 45, 2) := by decide +kernel
theorem dX8_isSpeed_21 : decode cX8_isSpeed 21 = .ok (.if_icmp .ne 7, 3) := by decide +kernel
theorem dX8_isSpeed_24 : decode cX8_isSpeed 24 = .ok (.iconst 1, 1) := by decide +kernel
theorem dX8_isSpeed_25 : decode cX8_isSpeed 25 = .ok (.goto 4, 3) := by decide +kernel
theorem dX8_isSpeed_28 : decode cX8_isSpeed 28 = .ok (.iconst 0, 1) := by decide +kernel
theorem dX8_isSpeed_29 : decode cX8_isSpeed 29 = .ok (.ireturn, 1) := by decide +kernel
set_option maxRecDepth 20000 in
theorem ggX8_orderEnd_X8_sign : GoodIn wsX8_orderEnd wsX8_sign := goodIn_r _ [5, 6, 7, 35, 36, 37, 38, 39, 40, 41] (by decide +kernel) (by decide +kernel)
set_option maxRecDepth 20000 in
theorem gX8_orderEnd_X8_sign : GoodIn wsX8_orderEnd (wsV RX8 132 RX8 yX8_sign wsX8_sign) := goodIn_app (goodIn_of _ (by decide +kernel)) ggX8_orderEnd_X8_sign
set_option maxRecDepth 20000 in
theorem ggX8_orderEnd_X8_sizesEnd : GoodIn wsX8_orderEnd wsX8_sizesEnd := goodIn_r _ [11, 12, 13, 14, 4, 15, 16, 17, 18, 19, 1, 2, 3, 5, 6, 7, 20, 21, 22, 23, 24, 25, 26, 35, 36, 37, 38, 39, 40, 41] (by decide +kernel) (by decide +kernel)
set_option maxRecDepth 20000 in
theorem gX8_orderEnd_X8_sizesEnd : GoodIn wsX8_orderEnd (wsV RX8 144 RX8 yX8_sizesEnd wsX8_sizesEnd) := goodIn_app (goodIn_of _ (by decide +kernel)) ggX8_orderEnd_X8_sizesEnd
set_option maxRecDepth 20000 in
theorem ggX8_orderEnd_X8_behind : GoodIn wsX8_orderEnd wsX8_behind := goodIn_r _ [26, 1, 2, 3, 4, 5, 6, 7, 35, 36, 37, 38, 39, 40, 41] (by decide +kernel) (by decide +kernel)
set_option maxRecDepth 20000 in
theorem gX8_orderEnd_X8_behind : GoodIn wsX8_orderEnd (wsV RX8 141 RX8 yX8_behind wsX8_behind) := goodIn_app (goodIn_of _ (by decide +kernel)) ggX8_orderEnd_X8_behind
set_option maxRecDepth 20000 in
theorem ggX8_orderEnd_X8_digitEnd : GoodIn wsX8_orderEnd wsX8_digitEnd := goodIn_r _ [30, 16, 17, 18, 4, 19, 1, 2, 3, 5, 6, 7, 20, 21, 22, 35, 36, 37, 38, 39, 40, 41] (by decide +kernel) (by decide +kernel)
set_option maxRecDepth 20000 in
theorem gX8_orderEnd_X8_digitEnd : GoodIn wsX8_orderEnd (wsV RX8 147 RX8 yX8_digitEnd wsX8_digitEnd) := goodIn_app (goodIn_of _ (by decide +kernel)) ggX8_orderEnd_X8_digitEnd
set_option maxRecDepth 20000 in
theorem ggX8_orderEnd_X8_isSpeed : GoodIn wsX8_orderEnd wsX8_isSpeed := goodIn_r _ [34, 1, 2, 3, 4, 5, 6, 7, 35, 36, 37, 38, 39, 40, 41] (by decide +kernel) (by decide +kernel)
set_option maxRecDepth 20000 in
theorem gX8_orderEnd_X8_isSpeed : GoodIn wsX8_orderEnd (wsV RX8 150 RX8 yX8_isSpeed wsX8_isSpeed) := goodIn_app (goodIn_of _ (by decide +kernel)) ggX8_orderEnd_X8_isSpeed
set_option maxRecDepth 20000 in
theorem ggX8_orderEnd_X8_numberEnd : GoodIn wsX8_orderEnd wsX8_numberEnd := goodIn_r _ [15, 16, 17, 18, 4, 19, 1, 2, 3, 5, 6, 7, 20, 21, 22, 35, 36, 37, 38, 39, 40, 41] (by decide +kernel) (by decide +kernel)
set_option maxRecDepth 20000 in
theorem gX8_orderEnd_X8_numberEnd : GoodIn wsX8_orderEnd (wsV RX8 138 RX8 yX8_numberEnd wsX8_numberEnd) := goodIn_app (goodIn_of _ (by decide +kernel)) ggX8_orderEnd_X8_numberEnd
theorem dX8_orderEnd_0 : decode cX8_orderEnd 0 = .ok (.aload_n 0, 1) := by decide +kernel
theorem dX8_orderEnd_1 : decode cX8_orderEnd 1 = .ok (.iload_n 1, 1) := by decide +kernel
theorem dX8_orderEnd_2 : decode cX8_orderEnd 2 = .ok (.invokevirtual 132, 3) := by decide +kernel
theorem dX8_orderEnd_5 : decode cX8_orderEnd 5 = .ok (.lookupswitch 137 #[(102, 107), (103, 43), (112, 133), (119, 125)], 43) := by decide +kernel
theorem dX8_orderEnd_48 : decode cX8_orderEnd 48 = .ok (.aload_n 0, 1) := by decide +kernel
theorem dX8_orderEnd_49 : decode cX8_orderEnd 49 = .ok (.aload_n 0, 1) := by decide +kernel
theorem dX8_orderEnd_50 : decode cX8_orderEnd 50 = .ok (.aload_n 0, 1) := by decide +kernel
theorem dX8_orderEnd_51 : decode cX8_orderEnd 51 = .ok (.iload_n 1, 1) := by decide +kernel
theorem dX8_orderEnd_52 : decode cX8_orderEnd 52 = .ok (.iconst 1, 1) := by decide +kernel
theorem dX8_orderEnd_53 : decode cX8_orderEnd 53 = .ok (.iadd, 1) := by decide +kernel
theorem dX8_orderEnd_54 : decode cX8_orderEnd 54 = .ok (.invokevirtual 144, 3) := by decide +kernel
theorem dX8_orderEnd_57 : decode cX8_orderEnd 57 = .ok (.bipush 42, 2) := by decide +kernel
theorem dX8_orderEnd_59 : decode cX8_orderEnd 59 = .ok (.invokevirtual 141, 3) := by decide +kernel
theorem dX8_orderEnd_62 : decode cX8_orderEnd 62 = .ok (.invokevirtual 147, 3) := by decide +kernel
theorem dX8_orderEnd_65 : decode cX8_orderEnd 65 = .ok (.istore_n 2, 1) := by decide +kernel
theorem dX8_orderEnd_66 : decode cX8_orderEnd 66 = .ok (.aload_n 0, 1) := by decide +kernel
theorem dX8_orderEnd_67 : decode cX8_orderEnd 67 = .ok (.iload_n 2, 1) := by decide +kernel
theorem dX8_orderEnd_68 : decode cX8_orderEnd 68 = .ok (.invokevirtual 150, 3) := by decide +kernel
theorem dX8_orderEnd_71 : decode cX8_orderEnd 71 = .ok (.ifCond .eq 13, 3) := by decide +kernel
theorem dX8_orderEnd_74 : decode cX8_orderEnd 74 = .ok (.aload_n 0, 1) := by decide +kernel
theorem dX8_orderEnd_75 : decode cX8_orderEnd 75 = .ok (.iload_n 2, 1) := by decide +kernel
theorem dX8_orderEnd_76 : decode cX8_orderEnd 76 = .ok (.iconst 1, 1) := by decide +kernel
theorem dX8_orderEnd_77 : decode cX8_orderEnd 77 = .ok (.iadd, 1) := by decide +kernel
theorem dX8_orderEnd_78 : decode cX8_orderEnd 78 = .ok (.invokevirtual 138, 3) := by decide +kernel
theorem dX8_orderEnd_81 : decode cX8_orderEnd 81 = .ok (.goto 4, 3) := by decide +kernel
theorem dX8_orderEnd_84 : decode cX8_orderEnd 84 = .ok (.iload_n 2, 1) := by decide +kernel
theorem dX8_orderEnd_85 : decode cX8_orderEnd 85 = .ok (.istore_n 2, 1) := by decide +kernel
theorem dX8_orderEnd_86 : decode cX8_orderEnd 86 = .ok (.iload_n 2, 1) := by decide +kernel
theorem dX8_orderEnd_87 : decode cX8_orderEnd 87 = .ok (.ifCond .le 23, 3) := by decide +kernel
theorem dX8_orderEnd_90 : decode cX8_orderEnd 90 = .ok (.aload_n 0, 1) := by decide +kernel
theorem dX8_orderEnd_91 : decode cX8_orderEnd 91 = .ok (.iload_n 2, 1) := by decide +kernel
theorem dX8_orderEnd_92 : decode cX8_orderEnd 92 = .ok (.invokevirtual 132, 3) := by decide +kernel
theorem dX8_orderEnd_95 : decode cX8_orderEnd 95 = .ok (.bipush 64, 2) := by decide +kernel
theorem dX8_orderEnd_97 : decode cX8_orderEnd 97 = .ok (.if_icmp .ne 13, 3) := by decide +kernel
theorem dX8_orderEnd_100 : decode cX8_orderEnd 100 = .ok (.aload_n 0, 1) := by decide +kernel
theorem dX8_orderEnd_101 : decode cX8_orderEnd 101 = .ok (.iload_n 2, 1) := by decide +kernel
theorem dX8_orderEnd_102 : decode cX8_orderEnd 102 = .ok (.iconst 1, 1) := by decide +kernel
theorem dX8_orderEnd_103 : decode cX8_orderEnd 103 = .ok (.iadd, 1) := by decide +kernel
theorem dX8_orderEnd_104 : decode cX8_orderEnd 104 = .ok (.invokevirtual 147, 3) := by decide +kernel
theorem dX8_orderEnd_107 : decode cX8_orderEnd 107 = .ok (.goto 4, 3) := by decide +kernel
theorem dX8_orderEnd_110 : decode cX8_orderEnd 110 = .ok (.iload_n 2, 1) := by decide +kernel
theorem dX8_orderEnd_111 : decode cX8_orderEnd 111 = .ok (.ireturn, 1) := by decide +kernel
theorem dX8_orderEnd_112 : decode cX8_orderEnd 112 = .ok (.aload_n 0, 1) := by decide +kernel
theorem dX8_orderEnd_113 : decode cX8_orderEnd 113 = .ok (.aload_n 0, 1) := by decide +kernel
theorem dX8_orderEnd_114 : decode cX8_orderEnd 114 = .ok (.aload_n 0, 1) := by decide +kernel
theorem dX8_orderEnd_115 : decode cX8_orderEnd 115 = .ok (.iload_n 1, 1) := by decide +kernel
theorem dX8_orderEnd_116 : decode cX8_orderEnd 116 = .ok (.iconst 1, 1) := by decide +kernel
theorem dX8_orderEnd_117 : decode cX8_orderEnd 117 = .ok (.iadd, 1) := by decide +kernel
theorem dX8_orderEnd_118 : decode cX8_orderEnd 118 = .ok (.invokevirtual 138, 3) := by decide +kernel
theorem dX8_orderEnd_121 : decode cX8_orderEnd 121 = .ok (.bipush 46, 2) := by decide +kernel
theorem dX8_orderEnd_123 : decode cX8_orderEnd 123 = .ok (.invokevirtual 141, 3) := by decide +kernel
theorem dX8_orderEnd_126 : decode cX8_orderEnd 126 = .ok (.invokevirtual 138, 3) := by decide +kernel
theorem dX8_orderEnd_129 : decode cX8_orderEnd 129 = .ok (.ireturn, 1) := by decide +kernel
theorem dX8_orderEnd_130 : decode cX8_orderEnd 130 = .ok (.aload_n 0, 1) := by decide +kernel
theorem dX8_orderEnd_131 : decode cX8_orderEnd 131 = .ok (.iload_n 1, 1) := by decide +kernel
theorem dX8_orderEnd_132 : decode cX8_orderEnd 132 = .ok (.iconst 1, 1) := by decide +kernel
theorem dX8_orderEnd_133 : decode cX8_orderEnd 133 = .ok (.iadd, 1) := by decide +kernel
theorem dX8_orderEnd_134 : decode cX8_orderEnd 134 = .ok (.invokevirtual 138, 3) := by decide +kernel
theorem dX8_orderEnd_137 : decode cX8_orderEnd 137 = .ok (.ireturn, 1) := by decide +kernel
theorem dX8_orderEnd_138 : decode cX8_orderEnd 138 = .ok (.iload_n 1, 1) := by decide +kernel
theorem dX8_orderEnd_139 : decode cX8_orderEnd 139 = .ok (.iconst 1, 1) := by decide +kernel
theorem dX8_orderEnd_140 : decode cX8_orderEnd 140 = .ok (.iadd, 1) := by decide +kernel
theorem dX8_orderEnd_141 : decode cX8_orderEnd 141 = .ok (.ireturn, 1) := by decide +kernel
theorem dX8_orderEnd_142 : decode cX8_orderEnd 142 = .ok (.iconst (-1), 1) := by decide +kernel
theorem dX8_orderEnd_143 : decode cX8_orderEnd 143 = .ok (.iload_n 1, 1) := by decide +kernel
theorem dX8_orderEnd_144 : decode cX8_orderEnd 144 = .ok (.isub, 1) := by decide +kernel
theorem dX8_orderEnd_145 : decode cX8_orderEnd 145 = .ok (.ireturn, 1) := by decide +kernel
set_option maxRecDepth 20000 in
theorem ggX8_fault_X8_orderEnd : GoodIn wsX8_fault wsX8_orderEnd := goodIn_r _ [6, 7, 8, 9, 5, 10, 1, 11, 12, 13, 14, 15, 16, 17, 18, 19, 20, 21, 22, 23, 24, 25, 26, 27, 28, 29, 30, 31, 32, 33, 34, 35, 36, 37, 38, 39, 40, 41, 42, 43, 44, 45] (by decide +kernel) (by decide +kernel)
set_option maxRecDepth 20000 in
theorem gX8_fault_X8_orderEnd : GoodIn wsX8_fault (wsV RX8 153 RX8 yX8_orderEnd wsX8_orderEnd) := goodIn_app (goodIn_of _ (by decide +kernel)) ggX8_fault_X8_orderEnd
set_option maxRecDepth 20000 in
theorem ggX8_fault_X8_sign : GoodIn wsX8_fault wsX8_sign := goodIn_r _ [10, 1, 11, 39, 40, 41, 42, 43, 44, 45] (by decide +kernel) (by decide +kernel)
set_option maxRecDepth 20000 in
theorem gX8_fault_X8_sign : GoodIn wsX8_fault (wsV RX8 132 RX8 yX8_sign wsX8_sign) := goodIn_app (goodIn_of _ (by decide +kernel)) ggX8_fault_X8_sign
theorem dX8_fault_0 : decode cX8_fault 0 = .ok (.iconst 0, 1) := by decide +kernel
theorem dX8_fault_1 : decode cX8_fault 1 = .ok (.istore_n 1, 1) := by decide +kernel
theorem dX8_fault_2 : decode cX8_fault 2 = .ok (.iconst 0, 1) := by decide +kernel
theorem dX8_fault_3 : decode cX8_fault 3 = .ok (.istore_n 2, 1) := by decide +kernel
theorem dX8_fault_4 : decode cX8_fault 4 = .ok (.iload_n 2, 1) := by decide +kernel
theorem dX8_fault_5 : decode cX8_fault 5 = .ok (.bipush 80, 2) := by decide +kernel
theorem dX8_fault_7 : decode cX8_fault 7 = .ok (.if_icmp .ge 50, 3) := by decide +kernel
theorem dX8_fault_10 : decode cX8_fault 10 = .ok (.aload_n 0, 1) := by decide +kernel
theorem dX8_fault_11 : decode cX8_fault 11 = .ok (.iload_n 1, 1) := by decide +kernel
theorem dX8_fault_12 : decode cX8_fault 12 = .ok (.invokevirtual 153, 3) := by decide +kernel
theorem dX8_fault_15 : decode cX8_fault 15 = .ok (.istore_n 3, 1) := by decide +kernel
theorem dX8_fault_16 : decode cX8_fault 16 = .ok (.iload_n 3, 1) := by decide +kernel
theorem dX8_fault_17 : decode cX8_fault 17 = .ok (.ifCond .ge 7, 3) := by decide +kernel
theorem dX8_fault_20 : decode cX8_fault 20 = .ok (.iconst (-1), 1) := by decide +kernel
theorem dX8_fault_21 : decode cX8_fault 21 = .ok (.iload_n 3, 1) := by decide +kernel
theorem dX8_fault_22 : decode cX8_fault 22 = .ok (.isub, 1) := by decide +kernel
theorem dX8_fault_23 : decode cX8_fault 23 = .ok (.ireturn, 1) := by decide +kernel
theorem dX8_fault_24 : decode cX8_fault 24 = .ok (.iload_n 3, 1) := by decide +kernel
theorem dX8_fault_25 : decode cX8_fault 25 = .ok (.aload_n 0, 1) := by decide +kernel
theorem dX8_fault_26 : decode cX8_fault 26 = .ok (.getfield 121, 3) := by decide +kernel
theorem dX8_fault_29 : decode cX8_fault 29 = .ok (.if_icmp .ne 6, 3) := by decide +kernel
theorem dX8_fault_32 : decode cX8_fault 32 = .ok (.bipush (-6), 2) := by decide +kernel
theorem dX8_fault_34 : decode cX8_fault 34 = .ok (.ireturn, 1) := by decide +kernel
theorem dX8_fault_35 : decode cX8_fault 35 = .ok (.aload_n 0, 1) := by decide +kernel
theorem dX8_fault_36 : decode cX8_fault 36 = .ok (.iload_n 3, 1) := by decide +kernel
theorem dX8_fault_37 : decode cX8_fault 37 = .ok (.invokevirtual 132, 3) := by decide +kernel
theorem dX8_fault_40 : decode cX8_fault 40 = .ok (.bipush 59, 2) := by decide +kernel
theorem dX8_fault_42 : decode cX8_fault 42 = .ok (.if_icmp .eq 5, 3) := by decide +kernel
theorem dX8_fault_45 : decode cX8_fault 45 = .ok (.iload_n 3, 1) := by decide +kernel
theorem dX8_fault_46 : decode cX8_fault 46 = .ok (.ireturn, 1) := by decide +kernel
theorem dX8_fault_47 : decode cX8_fault 47 = .ok (.iload_n 3, 1) := by decide +kernel
theorem dX8_fault_48 : decode cX8_fault 48 = .ok (.iconst 1, 1) := by decide +kernel
theorem dX8_fault_49 : decode cX8_fault 49 = .ok (.iadd, 1) := by decide +kernel
theorem dX8_fault_50 : decode cX8_fault 50 = .ok (.istore_n 1, 1) := by decide +kernel
theorem dX8_fault_51 : decode cX8_fault 51 = .ok (.iinc 2 1, 3) := by decide +kernel
theorem dX8_fault_54 : decode cX8_fault 54 = .ok (.goto (-50), 3) := by decide +kernel
theorem dX8_fault_57 : decode cX8_fault 57 = .ok (.bipush (-6), 2) := by decide +kernel
theorem dX8_fault_59 : decode cX8_fault 59 = .ok (.ireturn, 1) := by decide +kernel
set_option maxRecDepth 20000 in
theorem ggX8_comesBy_X8_numberEnd : GoodIn wsX8_comesBy wsX8_numberEnd := goodIn_r _ [6, 7, 8, 9, 5, 10, 11, 12, 13, 14, 15, 16, 17, 18, 19, 51, 52, 53, 54, 55, 56, 57] (by decide +kernel) (by decide +kernel)
set_option maxRecDepth 20000 in
theorem gX8_comesBy_X8_numberEnd : GoodIn wsX8_comesBy (wsV RX8 138 RX8 yX8_numberEnd wsX8_numberEnd) := goodIn_app (goodIn_of _ (by decide +kernel)) ggX8_comesBy_X8_numberEnd
set_option maxRecDepth 20000 in
theorem ggX8_comesBy_X8_isSpeed : GoodIn wsX8_comesBy wsX8_isSpeed := goodIn_r _ [23, 11, 12, 13, 5, 14, 15, 16, 51, 52, 53, 54, 55, 56, 57] (by decide +kernel) (by decide +kernel)
set_option maxRecDepth 20000 in
theorem gX8_comesBy_X8_isSpeed : GoodIn wsX8_comesBy (wsV RX8 150 RX8 yX8_isSpeed wsX8_isSpeed) := goodIn_app (goodIn_of _ (by decide +kernel)) ggX8_comesBy_X8_isSpeed
set_option maxRecDepth 20000 in
theorem ggX8_comesBy_X8_numberAt : GoodIn wsX8_comesBy wsX8_numberAt := goodIn_r _ [27, 2, 3, 4, 5, 6, 7, 8, 9, 10, 11, 12, 13, 14, 15, 16, 17, 18, 19, 51, 52, 53, 54, 55, 56, 57] (by decide +kernel) (by decide +kernel)
set_option maxRecDepth 20000 in
theorem gX8_comesBy_X8_numberAt : GoodIn wsX8_comesBy (wsV RX8 156 RX8 yX8_numberAt wsX8_numberAt) := goodIn_app (goodIn_of _ (by decide +kernel)) ggX8_comesBy_X8_numberAt
set_option maxRecDepth 20000 in
theorem ggX8_comesBy_X8_sign : GoodIn wsX8_comesBy wsX8_sign := goodIn_r _ [14, 15, 16, 51, 52, 53, 54, 55, 56, 57] (by decide +kernel) (by decide +kernel)
set_option maxRecDepth 20000 in
theorem gX8_comesBy_X8_sign : GoodIn wsX8_comesBy (wsV RX8 132 RX8 yX8_sign wsX8_sign) := goodIn_app (goodIn_of _ (by decide +kernel)) ggX8_comesBy_X8_sign
set_option maxRecDepth 20000 in
theorem ggX8_comesBy_X8_digit : GoodIn wsX8_comesBy wsX8_digit := goodIn_r _ [10, 11, 12, 13, 5, 14, 15, 16, 17, 18, 19, 51, 52, 53, 54, 55, 56, 57] (by decide +kernel) (by decide +kernel)
set_option maxRecDepth 20000 in
theorem gX8_comesBy_X8_digit : GoodIn wsX8_comesBy (wsV RX8 135 RX8 yX8_digit wsX8_digit) := goodIn_app (goodIn_of _ (by decide +kernel)) ggX8_comesBy_X8_digit
set_option maxRecDepth 20000 in
theorem ggX8_comesBy_X8_whyNotThing : GoodIn wsX8_comesBy wsX8_whyNotThing := goodIn_r _ [31, 1, 17, 18, 5, 19, 51, 52, 53, 54, 55, 56, 57] (by decide +kernel) (by decide +kernel)
set_option maxRecDepth 20000 in
theorem gX8_comesBy_X8_whyNotThing : GoodIn wsX8_comesBy (wsV RX8 63 RX8 yX8_whyNotThing wsX8_whyNotThing) := goodIn_app (goodIn_of _ (by decide +kernel)) ggX8_comesBy_X8_whyNotThing
set_option maxRecDepth 20000 in
theorem ggX8_comesBy_X8_in : GoodIn wsX8_comesBy wsX8_in := goodIn_r _ [19] (by decide +kernel) (by decide +kernel)
set_option maxRecDepth 20000 in
theorem gX8_comesBy_X8_in : GoodIn wsX8_comesBy (va_wsS RX8 30 yX8_in wsX8_in) := goodIn_app (goodIn_of _ (by decide +kernel)) ggX8_comesBy_X8_in
set_option maxRecDepth 20000 in
theorem ggX8_comesBy_X8_comes : GoodIn wsX8_comesBy wsX8_comes := goodIn_r _ [35, 1, 51, 52, 53, 54, 55, 56, 57] (by decide +kernel) (by decide +kernel)
set_option maxRecDepth 20000 in
theorem gX8_comesBy_X8_comes : GoodIn wsX8_comesBy (wsV RX8 67 RX8 yX8_comes wsX8_comes) := goodIn_app (goodIn_of _ (by decide +kernel)) ggX8_comesBy_X8_comes
set_option maxRecDepth 20000 in
theorem ggX8_comesBy_X8_anew : GoodIn wsX8_comesBy wsX8_anew := goodIn_r _ [39, 1, 40, 41, 42, 5, 43, 44, 45, 46, 47, 48, 49, 50, 51, 52, 53, 54, 55, 56, 57] (by decide +kernel) (by decide +kernel)
set_option maxRecDepth 20000 in
theorem gX8_comesBy_X8_anew : GoodIn wsX8_comesBy (wsV RX8 73 RX8 yX8_anew wsX8_anew) := goodIn_app (goodIn_of _ (by decide +kernel)) ggX8_comesBy_X8_anew
theorem dX8_comesBy_0 : decode cX8_comesBy 0 = .ok (.aload_n 0, 1) := by decide +kernel
theorem dX8_comesBy_1 : decode cX8_comesBy 1 = .ok (.iload_n 1, 1) := by decide +kernel
theorem dX8_comesBy_2 : decode cX8_comesBy 2 = .ok (.iconst 1, 1) := by decide +kernel
theorem dX8_comesBy_3 : decode cX8_comesBy 3 = .ok (.iadd, 1) := by decide +kernel
theorem dX8_comesBy_4 : decode cX8_comesBy 4 = .ok (.invokevirtual 138, 3) := by decide +kernel
theorem dX8_comesBy_7 : decode cX8_comesBy 7 = .ok (.iconst 1, 1) := by decide +kernel
theorem dX8_comesBy_8 : decode cX8_comesBy 8 = .ok (.iadd, 1) := by decide +kernel
theorem dX8_comesBy_9 : decode cX8_comesBy 9 = .ok (.istore_n 2, 1) := by decide +kernel
theorem dX8_comesBy_10 : decode cX8_comesBy 10 = .ok (.aload_n 0, 1) := by decide +kernel
theorem dX8_comesBy_11 : decode cX8_comesBy 11 = .ok (.iload_n 2, 1) := by decide +kernel
theorem dX8_comesBy_12 : decode cX8_comesBy 12 = .ok (.invokevirtual 138, 3) := by decide +kernel
theorem dX8_comesBy_15 : decode cX8_comesBy 15 = .ok (.iconst 1, 1) := by decide +kernel
theorem dX8_comesBy_16 : decode cX8_comesBy 16 = .ok (.iadd, 1) := by decide +kernel
theorem dX8_comesBy_17 : decode cX8_comesBy 17 = .ok (.istore_n 3, 1) := by decide +kernel
theorem dX8_comesBy_18 : decode cX8_comesBy 18 = .ok (.aload_n 0, 1) := by decide +kernel
theorem dX8_comesBy_19 : decode cX8_comesBy 19 = .ok (.iload_n 3, 1) := by decide +kernel
theorem dX8_comesBy_20 : decode cX8_comesBy 20 = .ok (.invokevirtual 138, 3) := by decide +kernel
theorem dX8_comesBy_23 : decode cX8_comesBy 23 = .ok (.iconst 1, 1) := by decide +kernel
theorem dX8_comesBy_24 : decode cX8_comesBy 24 = .ok (.iadd, 1) := by decide +kernel
theorem dX8_comesBy_25 : decode cX8_comesBy 25 = .ok (.istore 4, 2) := by decide +kernel
theorem dX8_comesBy_27 : decode cX8_comesBy 27 = .ok (.aload_n 0, 1) := by decide +kernel
theorem dX8_comesBy_28 : decode cX8_comesBy 28 = .ok (.iload 4, 2) := by decide +kernel
theorem dX8_comesBy_30 : decode cX8_comesBy 30 = .ok (.invokevirtual 138, 3) := by decide +kernel
theorem dX8_comesBy_33 : decode cX8_comesBy 33 = .ok (.iconst 1, 1) := by decide +kernel
theorem dX8_comesBy_34 : decode cX8_comesBy 34 = .ok (.iadd, 1) := by decide +kernel
theorem dX8_comesBy_35 : decode cX8_comesBy 35 = .ok (.istore 5, 2) := by decide +kernel
theorem dX8_comesBy_37 : decode cX8_comesBy 37 = .ok (.iload 5, 2) := by decide +kernel
theorem dX8_comesBy_39 : decode cX8_comesBy 39 = .ok (.iconst 1, 1) := by decide +kernel
theorem dX8_comesBy_40 : decode cX8_comesBy 40 = .ok (.iadd, 1) := by decide +kernel
theorem dX8_comesBy_41 : decode cX8_comesBy 41 = .ok (.istore 6, 2) := by decide +kernel
theorem dX8_comesBy_43 : decode cX8_comesBy 43 = .ok (.aload_n 0, 1) := by decide +kernel
theorem dX8_comesBy_44 : decode cX8_comesBy 44 = .ok (.iload 6, 2) := by decide +kernel
theorem dX8_comesBy_46 : decode cX8_comesBy 46 = .ok (.invokevirtual 150, 3) := by decide +kernel
theorem dX8_comesBy_49 : decode cX8_comesBy 49 = .ok (.ifCond .eq 14, 3) := by decide +kernel
theorem dX8_comesBy_52 : decode cX8_comesBy 52 = .ok (.aload_n 0, 1) := by decide +kernel
theorem dX8_comesBy_53 : decode cX8_comesBy 53 = .ok (.iload 6, 2) := by decide +kernel
theorem dX8_comesBy_55 : decode cX8_comesBy 55 = .ok (.iconst 1, 1) := by decide +kernel
theorem dX8_comesBy_56 : decode cX8_comesBy 56 = .ok (.iadd, 1) := by decide +kernel
theorem dX8_comesBy_57 : decode cX8_comesBy 57 = .ok (.invokevirtual 156, 3) := by decide +kernel
theorem dX8_comesBy_60 : decode cX8_comesBy 60 = .ok (.goto 4, 3) := by decide +kernel
theorem dX8_comesBy_63 : decode cX8_comesBy 63 = .ok (.iconst 0, 1) := by decide +kernel
theorem dX8_comesBy_64 : decode cX8_comesBy 64 = .ok (.istore 7, 2) := by decide +kernel
theorem dX8_comesBy_66 : decode cX8_comesBy 66 = .ok (.aload_n 0, 1) := by decide +kernel
theorem dX8_comesBy_67 : decode cX8_comesBy 67 = .ok (.iload 6, 2) := by decide +kernel
theorem dX8_comesBy_69 : decode cX8_comesBy 69 = .ok (.invokevirtual 150, 3) := by decide +kernel
theorem dX8_comesBy_72 : decode cX8_comesBy 72 = .ok (.ifCond .eq 20, 3) := by decide +kernel
theorem dX8_comesBy_75 : decode cX8_comesBy 75 = .ok (.aload_n 0, 1) := by decide +kernel
theorem dX8_comesBy_76 : decode cX8_comesBy 76 = .ok (.iload 6, 2) := by decide +kernel
theorem dX8_comesBy_78 : decode cX8_comesBy 78 = .ok (.invokevirtual 132, 3) := by decide +kernel
theorem dX8_comesBy_81 : decode cX8_comesBy 81 = .ok (.bipush 45, 2) := by decide +kernel
theorem dX8_comesBy_83 : decode cX8_comesBy 83 = .ok (.if_icmp .ne 9, 3) := by decide +kernel
theorem dX8_comesBy_86 : decode cX8_comesBy 86 = .ok (.iload 7, 2) := by decide +kernel
theorem dX8_comesBy_88 : decode cX8_comesBy 88 = .ok (.ineg, 1) := by decide +kernel
theorem dX8_comesBy_89 : decode cX8_comesBy 89 = .ok (.goto 5, 3) := by decide +kernel
theorem dX8_comesBy_92 : decode cX8_comesBy 92 = .ok (.iload 7, 2) := by decide +kernel
theorem dX8_comesBy_94 : decode cX8_comesBy 94 = .ok (.istore 7, 2) := by decide +kernel
theorem dX8_comesBy_96 : decode cX8_comesBy 96 = .ok (.aload_n 0, 1) := by decide +kernel
theorem dX8_comesBy_97 : decode cX8_comesBy 97 = .ok (.iload 6, 2) := by decide +kernel
theorem dX8_comesBy_99 : decode cX8_comesBy 99 = .ok (.invokevirtual 150, 3) := by decide +kernel
theorem dX8_comesBy_102 : decode cX8_comesBy 102 = .ok (.ifCond .eq 14, 3) := by decide +kernel
theorem dX8_comesBy_105 : decode cX8_comesBy 105 = .ok (.aload_n 0, 1) := by decide +kernel
theorem dX8_comesBy_106 : decode cX8_comesBy 106 = .ok (.iload 6, 2) := by decide +kernel
theorem dX8_comesBy_108 : decode cX8_comesBy 108 = .ok (.iconst 1, 1) := by decide +kernel
theorem dX8_comesBy_109 : decode cX8_comesBy 109 = .ok (.iadd, 1) := by decide +kernel
theorem dX8_comesBy_110 : decode cX8_comesBy 110 = .ok (.invokevirtual 138, 3) := by decide +kernel
theorem dX8_comesBy_113 : decode cX8_comesBy 113 = .ok (.goto 5, 3) := by decide +kernel
theorem dX8_comesBy_116 : decode cX8_comesBy 116 = .ok (.iload 6, 2) := by decide +kernel
theorem dX8_comesBy_118 : decode cX8_comesBy 118 = .ok (.istore 6, 2) := by decide +kernel
theorem dX8_comesBy_120 : decode cX8_comesBy 120 = .ok (.aload_n 0, 1) := by decide +kernel
theorem dX8_comesBy_121 : decode cX8_comesBy 121 = .ok (.iload 6, 2) := by decide +kernel
theorem dX8_comesBy_123 : decode cX8_comesBy 123 = .ok (.invokevirtual 132, 3) := by decide +kernel
theorem dX8_comesBy_126 : decode cX8_comesBy 126 = .ok (.bipush 64, 2) := by decide +kernel
theorem dX8_comesBy_128 : decode cX8_comesBy 128 = .ok (.if_icmp .ne 14, 3) := by decide +kernel
theorem dX8_comesBy_131 : decode cX8_comesBy 131 = .ok (.aload_n 0, 1) := by decide +kernel
theorem dX8_comesBy_132 : decode cX8_comesBy 132 = .ok (.iload 6, 2) := by decide +kernel
theorem dX8_comesBy_134 : decode cX8_comesBy 134 = .ok (.iconst 1, 1) := by decide +kernel
theorem dX8_comesBy_135 : decode cX8_comesBy 135 = .ok (.iadd, 1) := by decide +kernel
theorem dX8_comesBy_136 : decode cX8_comesBy 136 = .ok (.invokevirtual 135, 3) := by decide +kernel
theorem dX8_comesBy_139 : decode cX8_comesBy 139 = .ok (.goto 4, 3) := by decide +kernel
theorem dX8_comesBy_142 : decode cX8_comesBy 142 = .ok (.iconst (-1), 1) := by decide +kernel
theorem dX8_comesBy_143 : decode cX8_comesBy 143 = .ok (.istore 8, 2) := by decide +kernel
theorem dX8_comesBy_145 : decode cX8_comesBy 145 = .ok (.aload_n 0, 1) := by decide +kernel
theorem dX8_comesBy_146 : decode cX8_comesBy 146 = .ok (.aload_n 0, 1) := by decide +kernel
theorem dX8_comesBy_147 : decode cX8_comesBy 147 = .ok (.iload_n 1, 1) := by decide +kernel
theorem dX8_comesBy_148 : decode cX8_comesBy 148 = .ok (.iconst 1, 1) := by decide +kernel
theorem dX8_comesBy_149 : decode cX8_comesBy 149 = .ok (.iadd, 1) := by decide +kernel
theorem dX8_comesBy_150 : decode cX8_comesBy 150 = .ok (.invokevirtual 156, 3) := by decide +kernel
theorem dX8_comesBy_153 : decode cX8_comesBy 153 = .ok (.aload_n 0, 1) := by decide +kernel
theorem dX8_comesBy_154 : decode cX8_comesBy 154 = .ok (.iload_n 2, 1) := by decide +kernel
theorem dX8_comesBy_155 : decode cX8_comesBy 155 = .ok (.invokevirtual 156, 3) := by decide +kernel
theorem dX8_comesBy_158 : decode cX8_comesBy 158 = .ok (.aload_n 0, 1) := by decide +kernel
theorem dX8_comesBy_159 : decode cX8_comesBy 159 = .ok (.iload_n 3, 1) := by decide +kernel
theorem dX8_comesBy_160 : decode cX8_comesBy 160 = .ok (.invokevirtual 156, 3) := by decide +kernel
theorem dX8_comesBy_163 : decode cX8_comesBy 163 = .ok (.aload_n 0, 1) := by decide +kernel
theorem dX8_comesBy_164 : decode cX8_comesBy 164 = .ok (.iload 4, 2) := by decide +kernel
theorem dX8_comesBy_166 : decode cX8_comesBy 166 = .ok (.invokevirtual 156, 3) := by decide +kernel
theorem dX8_comesBy_169 : decode cX8_comesBy 169 = .ok (.aload_n 0, 1) := by decide +kernel
theorem dX8_comesBy_170 : decode cX8_comesBy 170 = .ok (.iload 5, 2) := by decide +kernel
theorem dX8_comesBy_172 : decode cX8_comesBy 172 = .ok (.invokevirtual 135, 3) := by decide +kernel
theorem dX8_comesBy_175 : decode cX8_comesBy 175 = .ok (.invokevirtual 63, 3) := by decide +kernel
theorem dX8_comesBy_178 : decode cX8_comesBy 178 = .ok (.istore 9, 2) := by decide +kernel
theorem dX8_comesBy_180 : decode cX8_comesBy 180 = .ok (.iload 9, 2) := by decide +kernel
theorem dX8_comesBy_182 : decode cX8_comesBy 182 = .ok (.ifCond .ge 6, 3) := by decide +kernel
theorem dX8_comesBy_185 : decode cX8_comesBy 185 = .ok (.iload 9, 2) := by decide +kernel
theorem dX8_comesBy_187 : decode cX8_comesBy 187 = .ok (.ireturn, 1) := by decide +kernel
theorem dX8_comesBy_188 : decode cX8_comesBy 188 = .ok (.iload 7, 2) := by decide +kernel
theorem dX8_comesBy_190 : decode cX8_comesBy 190 = .ok (.bipush (-40), 2) := by decide +kernel
theorem dX8_comesBy_192 : decode cX8_comesBy 192 = .ok (.bipush 40, 2) := by decide +kernel
theorem dX8_comesBy_194 : decode cX8_comesBy 194 = .ok (.invokestatic 30, 3) := by decide +kernel
theorem dX8_comesBy_197 : decode cX8_comesBy 197 = .ok (.ifCond .eq 14, 3) := by decide +kernel
theorem dX8_comesBy_200 : decode cX8_comesBy 200 = .ok (.iload 8, 2) := by decide +kernel
theorem dX8_comesBy_202 : decode cX8_comesBy 202 = .ok (.aload_n 0, 1) := by decide +kernel
theorem dX8_comesBy_203 : decode cX8_comesBy 203 = .ok (.getfield 7, 3) := by decide +kernel
theorem dX8_comesBy_206 : decode cX8_comesBy 206 = .ok (.iconst 5, 1) := by decide +kernel
theorem dX8_comesBy_207 : decode cX8_comesBy 207 = .ok (.iaload, 1) := by decide +kernel
theorem dX8_comesBy_208 : decode cX8_comesBy 208 = .ok (.if_icmp .lt 6, 3) := by decide +kernel
theorem dX8_comesBy_211 : decode cX8_comesBy 211 = .ok (.bipush (-2), 2) := by decide +kernel
theorem dX8_comesBy_213 : decode cX8_comesBy 213 = .ok (.ireturn, 1) := by decide +kernel
theorem dX8_comesBy_214 : decode cX8_comesBy 214 = .ok (.aload_n 0, 1) := by decide +kernel
theorem dX8_comesBy_215 : decode cX8_comesBy 215 = .ok (.aload_n 0, 1) := by decide +kernel
theorem dX8_comesBy_216 : decode cX8_comesBy 216 = .ok (.iload_n 1, 1) := by decide +kernel
theorem dX8_comesBy_217 : decode cX8_comesBy 217 = .ok (.iconst 1, 1) := by decide +kernel
theorem dX8_comesBy_218 : decode cX8_comesBy 218 = .ok (.iadd, 1) := by decide +kernel
theorem dX8_comesBy_219 : decode cX8_comesBy 219 = .ok (.invokevirtual 156, 3) := by decide +kernel
theorem dX8_comesBy_222 : decode cX8_comesBy 222 = .ok (.aload_n 0, 1) := by decide +kernel
theorem dX8_comesBy_223 : decode cX8_comesBy 223 = .ok (.iload_n 2, 1) := by decide +kernel
theorem dX8_comesBy_224 : decode cX8_comesBy 224 = .ok (.invokevirtual 156, 3) := by decide +kernel
theorem dX8_comesBy_227 : decode cX8_comesBy 227 = .ok (.aload_n 0, 1) := by decide +kernel
theorem dX8_comesBy_228 : decode cX8_comesBy 228 = .ok (.iload_n 3, 1) := by decide +kernel
theorem dX8_comesBy_229 : decode cX8_comesBy 229 = .ok (.invokevirtual 156, 3) := by decide +kernel
theorem dX8_comesBy_232 : decode cX8_comesBy 232 = .ok (.aload_n 0, 1) := by decide +kernel
theorem dX8_comesBy_233 : decode cX8_comesBy 233 = .ok (.iload 4, 2) := by decide +kernel
theorem dX8_comesBy_235 : decode cX8_comesBy 235 = .ok (.invokevirtual 156, 3) := by decide +kernel
theorem dX8_comesBy_238 : decode cX8_comesBy 238 = .ok (.aload_n 0, 1) := by decide +kernel
theorem dX8_comesBy_239 : decode cX8_comesBy 239 = .ok (.iload 5, 2) := by decide +kernel
theorem dX8_comesBy_241 : decode cX8_comesBy 241 = .ok (.invokevirtual 135, 3) := by decide +kernel
theorem dX8_comesBy_244 : decode cX8_comesBy 244 = .ok (.invokevirtual 67, 3) := by decide +kernel
theorem dX8_comesBy_247 : decode cX8_comesBy 247 = .ok (.istore 10, 2) := by decide +kernel
theorem dX8_comesBy_249 : decode cX8_comesBy 249 = .ok (.aload_n 0, 1) := by decide +kernel
theorem dX8_comesBy_250 : decode cX8_comesBy 250 = .ok (.iload 10, 2) := by decide +kernel
theorem dX8_comesBy_252 : decode cX8_comesBy 252 = .ok (.iload 7, 2) := by decide +kernel
theorem dX8_comesBy_254 : decode cX8_comesBy 254 = .ok (.iload 8, 2) := by decide +kernel
theorem dX8_comesBy_256 : decode cX8_comesBy 256 = .ok (.invokevirtual 73, 3) := by decide +kernel
theorem dX8_comesBy_259 : decode cX8_comesBy 259 = .ok (.iconst 0, 1) := by decide +kernel
theorem dX8_comesBy_260 : decode cX8_comesBy 260 = .ok (.ireturn, 1) := by decide +kernel
set_option maxRecDepth 20000 in
theorem ggX8_carries_X8_digit : GoodIn wsX8_carries wsX8_digit := goodIn_r _ [6, 7, 8, 9, 5, 10, 11, 12, 13, 14, 15, 94, 95, 96, 97, 98, 99, 100] (by decide +kernel) (by decide +kernel)
set_option maxRecDepth 20000 in
theorem gX8_carries_X8_digit : GoodIn wsX8_carries (wsV RX8 135 RX8 yX8_digit wsX8_digit) := goodIn_app (goodIn_of _ (by decide +kernel)) ggX8_carries_X8_digit
set_option maxRecDepth 20000 in
theorem ggX8_carries_X8_numberAt : GoodIn wsX8_carries wsX8_numberAt := goodIn_r _ [19, 20, 21, 22, 5, 23, 2, 3, 4, 6, 7, 8, 9, 10, 11, 12, 13, 14, 15, 94, 95, 96, 97, 98, 99, 100] (by decide +kernel) (by decide +kernel)
set_option maxRecDepth 20000 in
theorem gX8_carries_X8_numberAt : GoodIn wsX8_carries (wsV RX8 156 RX8 yX8_numberAt wsX8_numberAt) := goodIn_app (goodIn_of _ (by decide +kernel)) ggX8_carries_X8_numberAt
set_option maxRecDepth 20000 in
theorem ggX8_carries_X8_sign : GoodIn wsX8_carries wsX8_sign := goodIn_r _ [10, 11, 12, 94, 95, 96, 97, 98, 99, 100] (by decide +kernel) (by decide +kernel)
set_option maxRecDepth 20000 in
theorem gX8_carries_X8_sign : GoodIn wsX8_carries (wsV RX8 132 RX8 yX8_sign wsX8_sign) := goodIn_app (goodIn_of _ (by decide +kernel)) ggX8_carries_X8_sign
set_option maxRecDepth 20000 in
theorem ggX8_carries_X8_comesBy : GoodIn wsX8_carries wsX8_comesBy := goodIn_r _ [27, 1, 20, 21, 22, 5, 23, 2, 3, 4, 6, 7, 8, 9, 10, 11, 12, 13, 14, 15, 28, 29, 30, 31, 16, 17, 18, 19, 32, 33, 34, 35, 36, 37, 38, 39, 40, 41, 42, 43, 44, 45, 46, 47, 48, 49, 50, 51, 52, 53, 54, 94, 95, 96, 97, 98, 99, 100] (by decide +kernel) (by decide +kernel)
set_option maxRecDepth 20000 in
theorem gX8_carries_X8_comesBy : GoodIn wsX8_carries (wsV RX8 159 RX8 yX8_comesBy wsX8_comesBy) := goodIn_app (goodIn_of _ (by decide +kernel)) ggX8_carries_X8_comesBy
set_option maxRecDepth 20000 in
theorem ggX8_carries_X8_numberEnd : GoodIn wsX8_carries wsX8_numberEnd := goodIn_r _ [23, 2, 3, 4, 5, 6, 7, 8, 9, 10, 11, 12, 13, 14, 15, 94, 95, 96, 97, 98, 99, 100] (by decide +kernel) (by decide +kernel)
set_option maxRecDepth 20000 in
theorem gX8_carries_X8_numberEnd : GoodIn wsX8_carries (wsV RX8 138 RX8 yX8_numberEnd wsX8_numberEnd) := goodIn_app (goodIn_of _ (by decide +kernel)) ggX8_carries_X8_numberEnd
set_option maxRecDepth 20000 in
theorem ggX8_carries_X8_isFlash : GoodIn wsX8_carries wsX8_isFlash := goodIn_r _ [57, 13, 14, 5, 15] (by decide +kernel) (by decide +kernel)
set_option maxRecDepth 20000 in
theorem gX8_carries_X8_isFlash : GoodIn wsX8_carries (va_wsS RX8 77 yX8_isFlash wsX8_isFlash) := goodIn_app (goodIn_of _ (by decide +kernel)) ggX8_carries_X8_isFlash
set_option maxRecDepth 20000 in
theorem ggX8_carries_X8_flashes : GoodIn wsX8_carries wsX8_flashes := goodIn_r _ [61, 1, 94, 95, 96, 97, 98, 99, 100] (by decide +kernel) (by decide +kernel)
set_option maxRecDepth 20000 in
theorem gX8_carries_X8_flashes : GoodIn wsX8_carries (wsV RX8 81 RX8 yX8_flashes wsX8_flashes) := goodIn_app (goodIn_of _ (by decide +kernel)) ggX8_carries_X8_flashes
set_option maxRecDepth 20000 in
theorem ggX8_carries_X8_whyNotPass : GoodIn wsX8_carries wsX8_whyNotPass := goodIn_r _ [65, 1, 13, 14, 5, 15, 94, 95, 96, 97, 98, 99, 100] (by decide +kernel) (by decide +kernel)
set_option maxRecDepth 20000 in
theorem gX8_carries_X8_whyNotPass : GoodIn wsX8_carries (wsV RX8 84 RX8 yX8_whyNotPass wsX8_whyNotPass) := goodIn_app (goodIn_of _ (by decide +kernel)) ggX8_carries_X8_whyNotPass
set_option maxRecDepth 20000 in
theorem ggX8_carries_X8_whyNotShoot : GoodIn wsX8_carries wsX8_whyNotShoot := goodIn_r _ [69, 1, 94, 95, 96, 97, 98, 99, 100] (by decide +kernel) (by decide +kernel)
set_option maxRecDepth 20000 in
theorem gX8_carries_X8_whyNotShoot : GoodIn wsX8_carries (wsV RX8 90 RX8 yX8_whyNotShoot wsX8_whyNotShoot) := goodIn_app (goodIn_of _ (by decide +kernel)) ggX8_carries_X8_whyNotShoot
set_option maxRecDepth 20000 in
theorem ggX8_carries_X8_shoots : GoodIn wsX8_carries wsX8_shoots := goodIn_r _ [73, 1, 74, 75, 76, 5, 77, 78, 79, 80, 81, 82, 83, 84, 85, 48, 49, 50, 51, 13, 14, 15, 44, 45, 46, 47, 52, 53, 54, 86, 87, 88, 89, 90, 91, 92, 93, 94, 95, 96, 97, 98, 99, 100] (by decide +kernel) (by decide +kernel)
set_option maxRecDepth 20000 in
theorem gX8_carries_X8_shoots : GoodIn wsX8_carries (wsV RX8 94 RX8 yX8_shoots wsX8_shoots) := goodIn_app (goodIn_of _ (by decide +kernel)) ggX8_carries_X8_shoots
theorem dX8_carries_0 : decode cX8_carries 0 = .ok (.aload_n 0, 1) := by decide +kernel
theorem dX8_carries_1 : decode cX8_carries 1 = .ok (.iload_n 1, 1) := by decide +kernel
theorem dX8_carries_2 : decode cX8_carries 2 = .ok (.iconst 1, 1) := by decide +kernel
theorem dX8_carries_3 : decode cX8_carries 3 = .ok (.iadd, 1) := by decide +kernel
theorem dX8_carries_4 : decode cX8_carries 4 = .ok (.invokevirtual 135, 3) := by decide +kernel
theorem dX8_carries_7 : decode cX8_carries 7 = .ok (.ifCond .ge 7, 3) := by decide +kernel
theorem dX8_carries_10 : decode cX8_carries 10 = .ok (.iconst 0, 1) := by decide +kernel
theorem dX8_carries_11 : decode cX8_carries 11 = .ok (.goto 10, 3) := by decide +kernel
theorem dX8_carries_14 : decode cX8_carries 14 = .ok (.aload_n 0, 1) := by decide +kernel
theorem dX8_carries_15 : decode cX8_carries 15 = .ok (.iload_n 1, 1) := by decide +kernel
theorem dX8_carries_16 : decode cX8_carries 16 = .ok (.iconst 1, 1) := by decide +kernel
theorem dX8_carries_17 : decode cX8_carries 17 = .ok (.iadd, 1) := by decide +kernel
theorem dX8_carries_18 : decode cX8_carries 18 = .ok (.invokevirtual 156, 3) := by decide +kernel
theorem dX8_carries_21 : decode cX8_carries 21 = .ok (.istore_n 2, 1) := by decide +kernel
theorem dX8_carries_22 : decode cX8_carries 22 = .ok (.iconst 0, 1) := by decide +kernel
theorem dX8_carries_23 : decode cX8_carries 23 = .ok (.istore_n 3, 1) := by decide +kernel
theorem dX8_carries_24 : decode cX8_carries 24 = .ok (.iconst 0, 1) := by decide +kernel
theorem dX8_carries_25 : decode cX8_carries 25 = .ok (.istore 4, 2) := by decide +kernel
theorem dX8_carries_27 : decode cX8_carries 27 = .ok (.aload_n 0, 1) := by decide +kernel
theorem dX8_carries_28 : decode cX8_carries 28 = .ok (.iload_n 1, 1) := by decide +kernel
theorem dX8_carries_29 : decode cX8_carries 29 = .ok (.invokevirtual 132, 3) := by decide +kernel
theorem dX8_carries_32 : decode cX8_carries 32 = .ok (.lookupswitch 118 #[(102, 42), (103, 36), (119, 92)], 36) := by decide +kernel
theorem dX8_carries_68 : decode cX8_carries 68 = .ok (.aload_n 0, 1) := by decide +kernel
theorem dX8_carries_69 : decode cX8_carries 69 = .ok (.iload_n 1, 1) := by decide +kernel
theorem dX8_carries_70 : decode cX8_carries 70 = .ok (.invokevirtual 159, 3) := by decide +kernel
theorem dX8_carries_73 : decode cX8_carries 73 = .ok (.ireturn, 1) := by decide +kernel
theorem dX8_carries_74 : decode cX8_carries 74 = .ok (.aload_n 0, 1) := by decide +kernel
theorem dX8_carries_75 : decode cX8_carries 75 = .ok (.aload_n 0, 1) := by decide +kernel
theorem dX8_carries_76 : decode cX8_carries 76 = .ok (.iload_n 1, 1) := by decide +kernel
theorem dX8_carries_77 : decode cX8_carries 77 = .ok (.iconst 1, 1) := by decide +kernel
theorem dX8_carries_78 : decode cX8_carries 78 = .ok (.iadd, 1) := by decide +kernel
theorem dX8_carries_79 : decode cX8_carries 79 = .ok (.invokevirtual 138, 3) := by decide +kernel
theorem dX8_carries_82 : decode cX8_carries 82 = .ok (.iconst 1, 1) := by decide +kernel
theorem dX8_carries_83 : decode cX8_carries 83 = .ok (.iadd, 1) := by decide +kernel
theorem dX8_carries_84 : decode cX8_carries 84 = .ok (.invokevirtual 156, 3) := by decide +kernel
theorem dX8_carries_87 : decode cX8_carries 87 = .ok (.istore 5, 2) := by decide +kernel
theorem dX8_carries_89 : decode cX8_carries 89 = .ok (.iload_n 2, 1) := by decide +kernel
theorem dX8_carries_90 : decode cX8_carries 90 = .ok (.iload 5, 2) := by decide +kernel
theorem dX8_carries_92 : decode cX8_carries 92 = .ok (.invokestatic 77, 3) := by decide +kernel
theorem dX8_carries_95 : decode cX8_carries 95 = .ok (.ifCond .eq 7, 3) := by decide +kernel
theorem dX8_carries_98 : decode cX8_carries 98 = .ok (.iconst 0, 1) := by decide +kernel
theorem dX8_carries_99 : decode cX8_carries 99 = .ok (.goto 5, 3) := by decide +kernel
theorem dX8_carries_102 : decode cX8_carries 102 = .ok (.bipush (-2), 2) := by decide +kernel
theorem dX8_carries_104 : decode cX8_carries 104 = .ok (.istore_n 3, 1) := by decide +kernel
theorem dX8_carries_105 : decode cX8_carries 105 = .ok (.iload_n 3, 1) := by decide +kernel
theorem dX8_carries_106 : decode cX8_carries 106 = .ok (.ifCond .ge 7, 3) := by decide +kernel
theorem dX8_carries_109 : decode cX8_carries 109 = .ok (.iconst 0, 1) := by decide +kernel
theorem dX8_carries_110 : decode cX8_carries 110 = .ok (.goto 10, 3) := by decide +kernel
theorem dX8_carries_113 : decode cX8_carries 113 = .ok (.aload_n 0, 1) := by decide +kernel
theorem dX8_carries_114 : decode cX8_carries 114 = .ok (.iload_n 2, 1) := by decide +kernel
theorem dX8_carries_115 : decode cX8_carries 115 = .ok (.iload 5, 2) := by decide +kernel
theorem dX8_carries_117 : decode cX8_carries 117 = .ok (.invokevirtual 81, 3) := by decide +kernel
theorem dX8_carries_120 : decode cX8_carries 120 = .ok (.istore 4, 2) := by decide +kernel
theorem dX8_carries_122 : decode cX8_carries 122 = .ok (.iload_n 3, 1) := by decide +kernel
theorem dX8_carries_123 : decode cX8_carries 123 = .ok (.ireturn, 1) := by decide +kernel
theorem dX8_carries_124 : decode cX8_carries 124 = .ok (.aload_n 0, 1) := by decide +kernel
theorem dX8_carries_125 : decode cX8_carries 125 = .ok (.iload_n 2, 1) := by decide +kernel
theorem dX8_carries_126 : decode cX8_carries 126 = .ok (.invokevirtual 84, 3) := by decide +kernel
theorem dX8_carries_129 : decode cX8_carries 129 = .ok (.istore_n 3, 1) := by decide +kernel
theorem dX8_carries_130 : decode cX8_carries 130 = .ok (.aload_n 0, 1) := by decide +kernel
theorem dX8_carries_131 : decode cX8_carries 131 = .ok (.getfield 7, 3) := by decide +kernel
theorem dX8_carries_134 : decode cX8_carries 134 = .ok (.iconst 4, 1) := by decide +kernel
theorem dX8_carries_135 : decode cX8_carries 135 = .ok (.dup2, 1) := by decide +kernel
theorem dX8_carries_136 : decode cX8_carries 136 = .ok (.iaload, 1) := by decide +kernel
theorem dX8_carries_137 : decode cX8_carries 137 = .ok (.iload_n 3, 1) := by decide +kernel
theorem dX8_carries_138 : decode cX8_carries 138 = .ok (.ifCond .ge 7, 3) := by decide +kernel
theorem dX8_carries_141 : decode cX8_carries 141 = .ok (.iconst 0, 1) := by decide +kernel
theorem dX8_carries_142 : decode cX8_carries 142 = .ok (.goto 4, 3) := by decide +kernel
theorem dX8_carries_145 : decode cX8_carries 145 = .ok (.iload_n 2, 1) := by decide +kernel
theorem dX8_carries_146 : decode cX8_carries 146 = .ok (.iadd, 1) := by decide +kernel
theorem dX8_carries_147 : decode cX8_carries 147 = .ok (.iastore, 1) := by decide +kernel
theorem dX8_carries_148 : decode cX8_carries 148 = .ok (.iload_n 3, 1) := by decide +kernel
theorem dX8_carries_149 : decode cX8_carries 149 = .ok (.ireturn, 1) := by decide +kernel
theorem dX8_carries_150 : decode cX8_carries 150 = .ok (.aload_n 0, 1) := by decide +kernel
theorem dX8_carries_151 : decode cX8_carries 151 = .ok (.invokevirtual 90, 3) := by decide +kernel
theorem dX8_carries_154 : decode cX8_carries 154 = .ok (.istore_n 3, 1) := by decide +kernel
theorem dX8_carries_155 : decode cX8_carries 155 = .ok (.iload_n 3, 1) := by decide +kernel
theorem dX8_carries_156 : decode cX8_carries 156 = .ok (.ifCond .ge 7, 3) := by decide +kernel
theorem dX8_carries_159 : decode cX8_carries 159 = .ok (.iconst 0, 1) := by decide +kernel
theorem dX8_carries_160 : decode cX8_carries 160 = .ok (.goto 7, 3) := by decide +kernel
theorem dX8_carries_163 : decode cX8_carries 163 = .ok (.aload_n 0, 1) := by decide +kernel
theorem dX8_carries_164 : decode cX8_carries 164 = .ok (.invokevirtual 94, 3) := by decide +kernel
theorem dX8_carries_167 : decode cX8_carries 167 = .ok (.istore 4, 2) := by decide +kernel
theorem dX8_carries_169 : decode cX8_carries 169 = .ok (.iload_n 3, 1) := by decide +kernel
theorem dX8_carries_170 : decode cX8_carries 170 = .ok (.ireturn, 1) := by decide +kernel
set_option maxRecDepth 20000 in
theorem ggX8_carryOut_X8_fault : GoodIn wsX8_carryOut wsX8_fault := goodIn_r _ [6, 1, 7, 8, 9, 5, 10, 11, 12, 13, 14, 15, 16, 17, 18, 19, 20, 21, 22, 23, 24, 25, 26, 27, 28, 29, 30, 31, 32, 33, 34, 35, 36, 37, 38, 39, 40, 41, 42, 124, 125, 126, 127, 128, 129, 130] (by decide +kernel) (by decide +kernel)
set_option maxRecDepth 20000 in
theorem gX8_carryOut_X8_fault : GoodIn wsX8_carryOut (wsV RX8 162 RX8 yX8_fault wsX8_fault) := goodIn_app (goodIn_of _ (by decide +kernel)) ggX8_carryOut_X8_fault
set_option maxRecDepth 20000 in
theorem ggX8_carryOut_X8_remembers : GoodIn wsX8_carryOut wsX8_remembers := goodIn_r _ [46, 47, 48, 49, 124, 125, 126, 127, 128, 129, 130] (by decide +kernel) (by decide +kernel)
set_option maxRecDepth 20000 in
theorem gX8_carryOut_X8_remembers : GoodIn wsX8_carryOut (wsV RX8 60 RX8 yX8_remembers wsX8_remembers) := goodIn_app (goodIn_of _ (by decide +kernel)) ggX8_carryOut_X8_remembers
set_option maxRecDepth 20000 in
theorem ggX8_carryOut_X8_carries : GoodIn wsX8_carryOut wsX8_carries := goodIn_r _ [53, 49, 24, 25, 26, 5, 27, 11, 12, 13, 14, 1, 15, 28, 29, 30, 54, 55, 56, 57, 20, 21, 22, 23, 58, 59, 60, 61, 39, 40, 41, 42, 62, 63, 64, 65, 66, 67, 68, 69, 70, 71, 72, 73, 74, 75, 76, 77, 78, 79, 80, 81, 82, 83, 84, 85, 86, 87, 88, 89, 90, 91, 92, 93, 94, 95, 96, 97, 98, 99, 100, 101, 102, 103, 104, 105, 106, 107, 108, 109, 110, 111, 112, 113, 114, 115, 116, 117, 118, 119, 120, 121, 122, 123, 124, 125, 126, 127, 128, 129, 130] (by decide +kernel) (by decide +kernel)
set_option maxRecDepth 20000 in
theorem gX8_carryOut_X8_carries : GoodIn wsX8_carryOut (wsV RX8 165 RX8 yX8_carries wsX8_carries) := goodIn_app (goodIn_of _ (by decide +kernel)) ggX8_carryOut_X8_carries
set_option maxRecDepth 20000 in
theorem ggX8_carryOut_X8_orderEnd : GoodIn wsX8_carryOut wsX8_orderEnd := goodIn_r _ [10, 11, 12, 13, 5, 14, 1, 15, 16, 17, 18, 19, 20, 21, 22, 23, 24, 25, 26, 27, 28, 29, 30, 31, 32, 33, 34, 35, 36, 37, 38, 39, 40, 41, 42, 124, 125, 126, 127, 128, 129, 130] (by decide +kernel) (by decide +kernel)
set_option maxRecDepth 20000 in
theorem gX8_carryOut_X8_orderEnd : GoodIn wsX8_carryOut (wsV RX8 153 RX8 yX8_orderEnd wsX8_orderEnd) := goodIn_app (goodIn_of _ (by decide +kernel)) ggX8_carryOut_X8_orderEnd
theorem dX8_carryOut_0 : decode cX8_carryOut 0 = .ok (.aload_n 0, 1) := by decide +kernel
theorem dX8_carryOut_1 : decode cX8_carryOut 1 = .ok (.invokevirtual 162, 3) := by decide +kernel
theorem dX8_carryOut_4 : decode cX8_carryOut 4 = .ok (.bipush (-6), 2) := by decide +kernel
theorem dX8_carryOut_6 : decode cX8_carryOut 6 = .ok (.if_icmp .eq 6, 3) := by decide +kernel
theorem dX8_carryOut_9 : decode cX8_carryOut 9 = .ok (.bipush (-3), 2) := by decide +kernel
theorem dX8_carryOut_11 : decode cX8_carryOut 11 = .ok (.ireturn, 1) := by decide +kernel
theorem dX8_carryOut_12 : decode cX8_carryOut 12 = .ok (.aload_n 0, 1) := by decide +kernel
theorem dX8_carryOut_13 : decode cX8_carryOut 13 = .ok (.invokevirtual 60, 3) := by decide +kernel
theorem dX8_carryOut_16 : decode cX8_carryOut 16 = .ok (.iconst 0, 1) := by decide +kernel
theorem dX8_carryOut_17 : decode cX8_carryOut 17 = .ok (.istore_n 1, 1) := by decide +kernel
theorem dX8_carryOut_18 : decode cX8_carryOut 18 = .ok (.iconst 0, 1) := by decide +kernel
theorem dX8_carryOut_19 : decode cX8_carryOut 19 = .ok (.istore_n 2, 1) := by decide +kernel
theorem dX8_carryOut_20 : decode cX8_carryOut 20 = .ok (.iload_n 2, 1) := by decide +kernel
theorem dX8_carryOut_21 : decode cX8_carryOut 21 = .ok (.aload_n 0, 1) := by decide +kernel
theorem dX8_carryOut_22 : decode cX8_carryOut 22 = .ok (.getfield 121, 3) := by decide +kernel
theorem dX8_carryOut_25 : decode cX8_carryOut 25 = .ok (.if_icmp .ge 25, 3) := by decide +kernel
theorem dX8_carryOut_28 : decode cX8_carryOut 28 = .ok (.aload_n 0, 1) := by decide +kernel
theorem dX8_carryOut_29 : decode cX8_carryOut 29 = .ok (.iload_n 2, 1) := by decide +kernel
theorem dX8_carryOut_30 : decode cX8_carryOut 30 = .ok (.invokevirtual 165, 3) := by decide +kernel
theorem dX8_carryOut_33 : decode cX8_carryOut 33 = .ok (.ifCond .ne 17, 3) := by decide +kernel
theorem dX8_carryOut_36 : decode cX8_carryOut 36 = .ok (.iinc 1 1, 3) := by decide +kernel
theorem dX8_carryOut_39 : decode cX8_carryOut 39 = .ok (.aload_n 0, 1) := by decide +kernel
theorem dX8_carryOut_40 : decode cX8_carryOut 40 = .ok (.iload_n 2, 1) := by decide +kernel
theorem dX8_carryOut_41 : decode cX8_carryOut 41 = .ok (.invokevirtual 153, 3) := by decide +kernel
theorem dX8_carryOut_44 : decode cX8_carryOut 44 = .ok (.iconst 1, 1) := by decide +kernel
theorem dX8_carryOut_45 : decode cX8_carryOut 45 = .ok (.iadd, 1) := by decide +kernel
theorem dX8_carryOut_46 : decode cX8_carryOut 46 = .ok (.istore_n 2, 1) := by decide +kernel
theorem dX8_carryOut_47 : decode cX8_carryOut 47 = .ok (.goto (-27), 3) := by decide +kernel
theorem dX8_carryOut_50 : decode cX8_carryOut 50 = .ok (.aload_n 0, 1) := by decide +kernel
theorem dX8_carryOut_51 : decode cX8_carryOut 51 = .ok (.iconst 0, 1) := by decide +kernel
theorem dX8_carryOut_52 : decode cX8_carryOut 52 = .ok (.putfield 121, 3) := by decide +kernel
theorem dX8_carryOut_55 : decode cX8_carryOut 55 = .ok (.iload_n 1, 1) := by decide +kernel
theorem dX8_carryOut_56 : decode cX8_carryOut 56 = .ok (.ireturn, 1) := by decide +kernel
theorem dX8_undo_0 : decode cX8_undo 0 = .ok (.aload_n 0, 1) := by decide +kernel
theorem dX8_undo_1 : decode cX8_undo 1 = .ok (.getfield 26, 3) := by decide +kernel
theorem dX8_undo_4 : decode cX8_undo 4 = .ok (.ifCond .ne 6, 3) := by decide +kernel
theorem dX8_undo_7 : decode cX8_undo 7 = .ok (.bipush (-5), 2) := by decide +kernel
theorem dX8_undo_9 : decode cX8_undo 9 = .ok (.ireturn, 1) := by decide +kernel
theorem dX8_undo_10 : decode cX8_undo 10 = .ok (.aload_n 0, 1) := by decide +kernel
theorem dX8_undo_11 : decode cX8_undo 11 = .ok (.dup, 1) := by decide +kernel
theorem dX8_undo_12 : decode cX8_undo 12 = .ok (.getfield 26, 3) := by decide +kernel
theorem dX8_undo_15 : decode cX8_undo 15 = .ok (.iconst 1, 1) := by decide +kernel
theorem dX8_undo_16 : decode cX8_undo 16 = .ok (.isub, 1) := by decide +kernel
theorem dX8_undo_17 : decode cX8_undo 17 = .ok (.putfield 26, 3) := by decide +kernel
theorem dX8_undo_20 : decode cX8_undo 20 = .ok (.iconst 0, 1) := by decide +kernel
theorem dX8_undo_21 : decode cX8_undo 21 = .ok (.istore_n 1, 1) := by decide +kernel
theorem dX8_undo_22 : decode cX8_undo 22 = .ok (.iload_n 1, 1) := by decide +kernel
theorem dX8_undo_23 : decode cX8_undo 23 = .ok (.sipush 465, 3) := by decide +kernel
theorem dX8_undo_26 : decode cX8_undo 26 = .ok (.if_icmp .ge 30, 3) := by decide +kernel
theorem dX8_undo_29 : decode cX8_undo 29 = .ok (.aload_n 0, 1) := by decide +kernel
theorem dX8_undo_30 : decode cX8_undo 30 = .ok (.getfield 7, 3) := by decide +kernel
theorem dX8_undo_33 : decode cX8_undo 33 = .ok (.iload_n 1, 1) := by decide +kernel
theorem dX8_undo_34 : decode cX8_undo 34 = .ok (.aload_n 0, 1) := by decide +kernel
theorem dX8_undo_35 : decode cX8_undo 35 = .ok (.getfield 13, 3) := by decide +kernel
theorem dX8_undo_38 : decode cX8_undo 38 = .ok (.sipush 465, 3) := by decide +kernel
theorem dX8_undo_41 : decode cX8_undo 41 = .ok (.aload_n 0, 1) := by decide +kernel
theorem dX8_undo_42 : decode cX8_undo 42 = .ok (.getfield 26, 3) := by decide +kernel
theorem dX8_undo_45 : decode cX8_undo 45 = .ok (.imul, 1) := by decide +kernel
theorem dX8_undo_46 : decode cX8_undo 46 = .ok (.iload_n 1, 1) := by decide +kernel
theorem dX8_undo_47 : decode cX8_undo 47 = .ok (.iadd, 1) := by decide +kernel
theorem dX8_undo_48 : decode cX8_undo 48 = .ok (.iaload, 1) := by decide +kernel
theorem dX8_undo_49 : decode cX8_undo 49 = .ok (.iastore, 1) := by decide +kernel
theorem dX8_undo_50 : decode cX8_undo 50 = .ok (.iinc 1 1, 3) := by decide +kernel
theorem dX8_undo_53 : decode cX8_undo 53 = .ok (.goto (-31), 3) := by decide +kernel
theorem dX8_undo_56 : decode cX8_undo 56 = .ok (.aload_n 0, 1) := by decide +kernel
theorem dX8_undo_57 : decode cX8_undo 57 = .ok (.getfield 26, 3) := by decide +kernel
theorem dX8_undo_60 : decode cX8_undo 60 = .ok (.ireturn, 1) := by decide +kernel
set_option maxRecDepth 20000 in
theorem ggX8_save_X8_in : GoodIn wsX8_save wsX8_in := goodIn_r _ [7] (by decide +kernel) (by decide +kernel)
set_option maxRecDepth 20000 in
theorem gX8_save_X8_in : GoodIn wsX8_save (va_wsS RX8 30 yX8_in wsX8_in) := goodIn_app (goodIn_of _ (by decide +kernel)) ggX8_save_X8_in
theorem dX8_save_0 : decode cX8_save 0 = .ok (.iload_n 1, 1) := by decide +kernel
theorem dX8_save_1 : decode cX8_save 1 = .ok (.iconst 0, 1) := by decide +kernel
theorem dX8_save_2 : decode cX8_save 2 = .ok (.iconst 1, 1) := by decide +kernel
theorem dX8_save_3 : decode cX8_save 3 = .ok (.invokestatic 30, 3) := by decide +kernel
theorem dX8_save_6 : decode cX8_save 6 = .ok (.ifCond .ne 6, 3) := by decide +kernel
theorem dX8_save_9 : decode cX8_save 9 = .ok (.bipush (-2), 2) := by decide +kernel
theorem dX8_save_11 : decode cX8_save 11 = .ok (.ireturn, 1) := by decide +kernel
theorem dX8_save_12 : decode cX8_save 12 = .ok (.iconst 0, 1) := by decide +kernel
theorem dX8_save_13 : decode cX8_save 13 = .ok (.istore_n 2, 1) := by decide +kernel
theorem dX8_save_14 : decode cX8_save 14 = .ok (.iload_n 2, 1) := by decide +kernel
theorem dX8_save_15 : decode cX8_save 15 = .ok (.sipush 465, 3) := by decide +kernel
theorem dX8_save_18 : decode cX8_save 18 = .ok (.if_icmp .ge 27, 3) := by decide +kernel
theorem dX8_save_21 : decode cX8_save 21 = .ok (.aload_n 0, 1) := by decide +kernel
theorem dX8_save_22 : decode cX8_save 22 = .ok (.getfield 16, 3) := by decide +kernel
theorem dX8_save_25 : decode cX8_save 25 = .ok (.sipush 465, 3) := by decide +kernel
theorem dX8_save_28 : decode cX8_save 28 = .ok (.iload_n 1, 1) := by decide +kernel
theorem dX8_save_29 : decode cX8_save 29 = .ok (.imul, 1) := by decide +kernel
theorem dX8_save_30 : decode cX8_save 30 = .ok (.iload_n 2, 1) := by decide +kernel
theorem dX8_save_31 : decode cX8_save 31 = .ok (.iadd, 1) := by decide +kernel
theorem dX8_save_32 : decode cX8_save 32 = .ok (.aload_n 0, 1) := by decide +kernel
theorem dX8_save_33 : decode cX8_save 33 = .ok (.getfield 7, 3) := by decide +kernel
theorem dX8_save_36 : decode cX8_save 36 = .ok (.iload_n 2, 1) := by decide +kernel
theorem dX8_save_37 : decode cX8_save 37 = .ok (.iaload, 1) := by decide +kernel
theorem dX8_save_38 : decode cX8_save 38 = .ok (.iastore, 1) := by decide +kernel
theorem dX8_save_39 : decode cX8_save 39 = .ok (.iinc 2 1, 3) := by decide +kernel
theorem dX8_save_42 : decode cX8_save 42 = .ok (.goto (-28), 3) := by decide +kernel
theorem dX8_save_45 : decode cX8_save 45 = .ok (.aload_n 0, 1) := by decide +kernel
theorem dX8_save_46 : decode cX8_save 46 = .ok (.getfield 19, 3) := by decide +kernel
theorem dX8_save_49 : decode cX8_save 49 = .ok (.iload_n 1, 1) := by decide +kernel
theorem dX8_save_50 : decode cX8_save 50 = .ok (.iconst 1, 1) := by decide +kernel
theorem dX8_save_51 : decode cX8_save 51 = .ok (.bastore, 1) := by decide +kernel
theorem dX8_save_52 : decode cX8_save 52 = .ok (.aload_n 0, 1) := by decide +kernel
theorem dX8_save_53 : decode cX8_save 53 = .ok (.getfield 7, 3) := by decide +kernel
theorem dX8_save_56 : decode cX8_save 56 = .ok (.iconst 5, 1) := by decide +kernel
theorem dX8_save_57 : decode cX8_save 57 = .ok (.iaload, 1) := by decide +kernel
theorem dX8_save_58 : decode cX8_save 58 = .ok (.ireturn, 1) := by decide +kernel
set_option maxRecDepth 20000 in
theorem ggX8_restore_X8_in : GoodIn wsX8_restore wsX8_in := goodIn_r _ [7] (by decide +kernel) (by decide +kernel)
set_option maxRecDepth 20000 in
theorem gX8_restore_X8_in : GoodIn wsX8_restore (va_wsS RX8 30 yX8_in wsX8_in) := goodIn_app (goodIn_of _ (by decide +kernel)) ggX8_restore_X8_in
set_option maxRecDepth 20000 in
theorem ggX8_restore_X8_remembers : GoodIn wsX8_restore wsX8_remembers := goodIn_r _ [11, 12, 13, 2, 14, 15, 16, 17, 18, 19, 20] (by decide +kernel) (by decide +kernel)
set_option maxRecDepth 20000 in
theorem gX8_restore_X8_remembers : GoodIn wsX8_restore (wsV RX8 60 RX8 yX8_remembers wsX8_remembers) := goodIn_app (goodIn_of _ (by decide +kernel)) ggX8_restore_X8_remembers
theorem dX8_restore_0 : decode cX8_restore 0 = .ok (.iload_n 1, 1) := by decide +kernel
theorem dX8_restore_1 : decode cX8_restore 1 = .ok (.iconst 0, 1) := by decide +kernel
theorem dX8_restore_2 : decode cX8_restore 2 = .ok (.iconst 1, 1) := by decide +kernel
theorem dX8_restore_3 : decode cX8_restore 3 = .ok (.invokestatic 30, 3) := by decide +kernel
theorem dX8_restore_6 : decode cX8_restore 6 = .ok (.ifCond .ne 6, 3) := by decide +kernel
theorem dX8_restore_9 : decode cX8_restore 9 = .ok (.bipush (-2), 2) := by decide +kernel
theorem dX8_restore_11 : decode cX8_restore 11 = .ok (.ireturn, 1) := by decide +kernel
theorem dX8_restore_12 : decode cX8_restore 12 = .ok (.aload_n 0, 1) := by decide +kernel
theorem dX8_restore_13 : decode cX8_restore 13 = .ok (.getfield 19, 3) := by decide +kernel
theorem dX8_restore_16 : decode cX8_restore 16 = .ok (.iload_n 1, 1) := by decide +kernel
theorem dX8_restore_17 : decode cX8_restore 17 = .ok (.baload, 1) := by decide +kernel
theorem dX8_restore_18 : decode cX8_restore 18 = .ok (.ifCond .ne 6, 3) := by decide +kernel
theorem dX8_restore_21 : decode cX8_restore 21 = .ok (.bipush (-5), 2) := by decide +kernel
theorem dX8_restore_23 : decode cX8_restore 23 = .ok (.ireturn, 1) := by decide +kernel
theorem dX8_restore_24 : decode cX8_restore 24 = .ok (.aload_n 0, 1) := by decide +kernel
theorem dX8_restore_25 : decode cX8_restore 25 = .ok (.invokevirtual 60, 3) := by decide +kernel
theorem dX8_restore_28 : decode cX8_restore 28 = .ok (.iconst 0, 1) := by decide +kernel
theorem dX8_restore_29 : decode cX8_restore 29 = .ok (.istore_n 2, 1) := by decide +kernel
theorem dX8_restore_30 : decode cX8_restore 30 = .ok (.iload_n 2, 1) := by decide +kernel
theorem dX8_restore_31 : decode cX8_restore 31 = .ok (.sipush 465, 3) := by decide +kernel
theorem dX8_restore_34 : decode cX8_restore 34 = .ok (.if_icmp .ge 27, 3) := by decide +kernel
theorem dX8_restore_37 : decode cX8_restore 37 = .ok (.aload_n 0, 1) := by decide +kernel
theorem dX8_restore_38 : decode cX8_restore 38 = .ok (.getfield 7, 3) := by decide +kernel
theorem dX8_restore_41 : decode cX8_restore 41 = .ok (.iload_n 2, 1) := by decide +kernel
theorem dX8_restore_42 : decode cX8_restore 42 = .ok (.aload_n 0, 1) := by decide +kernel
theorem dX8_restore_43 : decode cX8_restore 43 = .ok (.getfield 16, 3) := by decide +kernel
theorem dX8_restore_46 : decode cX8_restore 46 = .ok (.sipush 465, 3) := by decide +kernel
theorem dX8_restore_49 : decode cX8_restore 49 = .ok (.iload_n 1, 1) := by decide +kernel
theorem dX8_restore_50 : decode cX8_restore 50 = .ok (.imul, 1) := by decide +kernel
theorem dX8_restore_51 : decode cX8_restore 51 = .ok (.iload_n 2, 1) := by decide +kernel
theorem dX8_restore_52 : decode cX8_restore 52 = .ok (.iadd, 1) := by decide +kernel
theorem dX8_restore_53 : decode cX8_restore 53 = .ok (.iaload, 1) := by decide +kernel
theorem dX8_restore_54 : decode cX8_restore 54 = .ok (.iastore, 1) := by decide +kernel
theorem dX8_restore_55 : decode cX8_restore 55 = .ok (.iinc 2 1, 3) := by decide +kernel
theorem dX8_restore_58 : decode cX8_restore 58 = .ok (.goto (-28), 3) := by decide +kernel
theorem dX8_restore_61 : decode cX8_restore 61 = .ok (.aload_n 0, 1) := by decide +kernel
theorem dX8_restore_62 : decode cX8_restore 62 = .ok (.getfield 7, 3) := by decide +kernel
theorem dX8_restore_65 : decode cX8_restore 65 = .ok (.iconst 5, 1) := by decide +kernel
theorem dX8_restore_66 : decode cX8_restore 66 = .ok (.iaload, 1) := by decide +kernel
theorem dX8_restore_67 : decode cX8_restore 67 = .ok (.ireturn, 1) := by decide +kernel
theorem dJ6_bitCount_0f7a4_0 : decode cJ6_bitCount_0f7a4 0 = .ok (.iload_n 0, 1) := by decide +kernel
theorem dJ6_bitCount_0f7a4_1 : decode cJ6_bitCount_0f7a4 1 = .ok (.iload_n 0, 1) := by decide +kernel
theorem dJ6_bitCount_0f7a4_2 : decode cJ6_bitCount_0f7a4 2 = .ok (.iconst 1, 1) := by decide +kernel
theorem dJ6_bitCount_0f7a4_3 : decode cJ6_bitCount_0f7a4 3 = .ok (.iushr, 1) := by decide +kernel
theorem dJ6_bitCount_0f7a4_4 : decode cJ6_bitCount_0f7a4 4 = .ok (.ldc_w 265, 3) := by decide +kernel
theorem dJ6_bitCount_0f7a4_7 : decode cJ6_bitCount_0f7a4 7 = .ok (.iand, 1) := by decide +kernel
theorem dJ6_bitCount_0f7a4_8 : decode cJ6_bitCount_0f7a4 8 = .ok (.isub, 1) := by decide +kernel
theorem dJ6_bitCount_0f7a4_9 : decode cJ6_bitCount_0f7a4 9 = .ok (.istore_n 0, 1) := by decide +kernel
theorem dJ6_bitCount_0f7a4_10 : decode cJ6_bitCount_0f7a4 10 = .ok (.iload_n 0, 1) := by decide +kernel
theorem dJ6_bitCount_0f7a4_11 : decode cJ6_bitCount_0f7a4 11 = .ok (.ldc_w 266, 3) := by decide +kernel
theorem dJ6_bitCount_0f7a4_14 : decode cJ6_bitCount_0f7a4 14 = .ok (.iand, 1) := by decide +kernel
theorem dJ6_bitCount_0f7a4_15 : decode cJ6_bitCount_0f7a4 15 = .ok (.iload_n 0, 1) := by decide +kernel
theorem dJ6_bitCount_0f7a4_16 : decode cJ6_bitCount_0f7a4 16 = .ok (.iconst 2, 1) := by decide +kernel
theorem dJ6_bitCount_0f7a4_17 : decode cJ6_bitCount_0f7a4 17 = .ok (.iushr, 1) := by decide +kernel
theorem dJ6_bitCount_0f7a4_18 : decode cJ6_bitCount_0f7a4 18 = .ok (.ldc_w 266, 3) := by decide +kernel
theorem dJ6_bitCount_0f7a4_21 : decode cJ6_bitCount_0f7a4 21 = .ok (.iand, 1) := by decide +kernel
theorem dJ6_bitCount_0f7a4_22 : decode cJ6_bitCount_0f7a4 22 = .ok (.iadd, 1) := by decide +kernel
theorem dJ6_bitCount_0f7a4_23 : decode cJ6_bitCount_0f7a4 23 = .ok (.istore_n 0, 1) := by decide +kernel
theorem dJ6_bitCount_0f7a4_24 : decode cJ6_bitCount_0f7a4 24 = .ok (.iload_n 0, 1) := by decide +kernel
theorem dJ6_bitCount_0f7a4_25 : decode cJ6_bitCount_0f7a4 25 = .ok (.iload_n 0, 1) := by decide +kernel
theorem dJ6_bitCount_0f7a4_26 : decode cJ6_bitCount_0f7a4 26 = .ok (.iconst 4, 1) := by decide +kernel
theorem dJ6_bitCount_0f7a4_27 : decode cJ6_bitCount_0f7a4 27 = .ok (.iushr, 1) := by decide +kernel
theorem dJ6_bitCount_0f7a4_28 : decode cJ6_bitCount_0f7a4 28 = .ok (.iadd, 1) := by decide +kernel
theorem dJ6_bitCount_0f7a4_29 : decode cJ6_bitCount_0f7a4 29 = .ok (.ldc_w 267, 3) := by decide +kernel
theorem dJ6_bitCount_0f7a4_32 : decode cJ6_bitCount_0f7a4 32 = .ok (.iand, 1) := by decide +kernel
theorem dJ6_bitCount_0f7a4_33 : decode cJ6_bitCount_0f7a4 33 = .ok (.istore_n 0, 1) := by decide +kernel
theorem dJ6_bitCount_0f7a4_34 : decode cJ6_bitCount_0f7a4 34 = .ok (.iload_n 0, 1) := by decide +kernel
theorem dJ6_bitCount_0f7a4_35 : decode cJ6_bitCount_0f7a4 35 = .ok (.iload_n 0, 1) := by decide +kernel
theorem dJ6_bitCount_0f7a4_36 : decode cJ6_bitCount_0f7a4 36 = .ok (.bipush 8, 2) := by decide +kernel
theorem dJ6_bitCount_0f7a4_38 : decode cJ6_bitCount_0f7a4 38 = .ok (.iushr, 1) := by decide +kernel
theorem dJ6_bitCount_0f7a4_39 : decode cJ6_bitCount_0f7a4 39 = .ok (.iadd, 1) := by decide +kernel
theorem dJ6_bitCount_0f7a4_40 : decode cJ6_bitCount_0f7a4 40 = .ok (.istore_n 0, 1) := by decide +kernel
theorem dJ6_bitCount_0f7a4_41 : decode cJ6_bitCount_0f7a4 41 = .ok (.iload_n 0, 1) := by decide +kernel
theorem dJ6_bitCount_0f7a4_42 : decode cJ6_bitCount_0f7a4 42 = .ok (.iload_n 0, 1) := by decide +kernel
theorem dJ6_bitCount_0f7a4_43 : decode cJ6_bitCount_0f7a4 43 = .ok (.bipush 16, 2) := by decide +kernel
theorem dJ6_bitCount_0f7a4_45 : decode cJ6_bitCount_0f7a4 45 = .ok (.iushr, 1) := by decide +kernel
theorem dJ6_bitCount_0f7a4_46 : decode cJ6_bitCount_0f7a4 46 = .ok (.iadd, 1) := by decide +kernel
theorem dJ6_bitCount_0f7a4_47 : decode cJ6_bitCount_0f7a4 47 = .ok (.istore_n 0, 1) := by decide +kernel
theorem dJ6_bitCount_0f7a4_48 : decode cJ6_bitCount_0f7a4 48 = .ok (.iload_n 0, 1) := by decide +kernel
theorem dJ6_bitCount_0f7a4_49 : decode cJ6_bitCount_0f7a4 49 = .ok (.bipush 63, 2) := by decide +kernel
theorem dJ6_bitCount_0f7a4_51 : decode cJ6_bitCount_0f7a4 51 = .ok (.iand, 1) := by decide +kernel
theorem dJ6_bitCount_0f7a4_52 : decode cJ6_bitCount_0f7a4 52 = .ok (.ireturn, 1) := by decide +kernel
theorem dJ9_floorDiv_7cf53_0 : decode cJ9_floorDiv_7cf53 0 = .ok (.iload_n 0, 1) := by decide +kernel
theorem dJ9_floorDiv_7cf53_1 : decode cJ9_floorDiv_7cf53 1 = .ok (.iload_n 1, 1) := by decide +kernel
theorem dJ9_floorDiv_7cf53_2 : decode cJ9_floorDiv_7cf53 2 = .ok (.idiv, 1) := by decide +kernel
theorem dJ9_floorDiv_7cf53_3 : decode cJ9_floorDiv_7cf53 3 = .ok (.istore_n 2, 1) := by decide +kernel
theorem dJ9_floorDiv_7cf53_4 : decode cJ9_floorDiv_7cf53 4 = .ok (.iload_n 0, 1) := by decide +kernel
theorem dJ9_floorDiv_7cf53_5 : decode cJ9_floorDiv_7cf53 5 = .ok (.iload_n 1, 1) := by decide +kernel
theorem dJ9_floorDiv_7cf53_6 : decode cJ9_floorDiv_7cf53 6 = .ok (.ixor, 1) := by decide +kernel
theorem dJ9_floorDiv_7cf53_7 : decode cJ9_floorDiv_7cf53 7 = .ok (.ifCond .ge 14, 3) := by decide +kernel
theorem dJ9_floorDiv_7cf53_10 : decode cJ9_floorDiv_7cf53 10 = .ok (.iload_n 2, 1) := by decide +kernel
theorem dJ9_floorDiv_7cf53_11 : decode cJ9_floorDiv_7cf53 11 = .ok (.iload_n 1, 1) := by decide +kernel
theorem dJ9_floorDiv_7cf53_12 : decode cJ9_floorDiv_7cf53 12 = .ok (.imul, 1) := by decide +kernel
theorem dJ9_floorDiv_7cf53_13 : decode cJ9_floorDiv_7cf53 13 = .ok (.iload_n 0, 1) := by decide +kernel
theorem dJ9_floorDiv_7cf53_14 : decode cJ9_floorDiv_7cf53 14 = .ok (.if_icmp .eq 7, 3) := by decide +kernel
theorem dJ9_floorDiv_7cf53_17 : decode cJ9_floorDiv_7cf53 17 = .ok (.iload_n 2, 1) := by decide +kernel
theorem dJ9_floorDiv_7cf53_18 : decode cJ9_floorDiv_7cf53 18 = .ok (.iconst 1, 1) := by decide +kernel
theorem dJ9_floorDiv_7cf53_19 : decode cJ9_floorDiv_7cf53 19 = .ok (.isub, 1) := by decide +kernel
theorem dJ9_floorDiv_7cf53_20 : decode cJ9_floorDiv_7cf53 20 = .ok (.ireturn, 1) := by decide +kernel
theorem dJ9_floorDiv_7cf53_21 : decode cJ9_floorDiv_7cf53 21 = .ok (.iload_n 2, 1) := by decide +kernel
theorem dJ9_floorDiv_7cf53_22 : decode cJ9_floorDiv_7cf53 22 = .ok (.ireturn, 1) := by decide +kernel
theorem dJ9_max_7cf53_0 : decode cJ9_max_7cf53 0 = .ok (.iload_n 0, 1) := by decide +kernel
theorem dJ9_max_7cf53_1 : decode cJ9_max_7cf53 1 = .ok (.iload_n 1, 1) := by decide +kernel
theorem dJ9_max_7cf53_2 : decode cJ9_max_7cf53 2 = .ok (.if_icmp .lt 7, 3) := by decide +kernel
theorem dJ9_max_7cf53_5 : decode cJ9_max_7cf53 5 = .ok (.iload_n 0, 1) := by decide +kernel
theorem dJ9_max_7cf53_6 : decode cJ9_max_7cf53 6 = .ok (.goto 4, 3) := by decide +kernel
theorem dJ9_max_7cf53_9 : decode cJ9_max_7cf53 9 = .ok (.iload_n 1, 1) := by decide +kernel
theorem dJ9_max_7cf53_10 : decode cJ9_max_7cf53 10 = .ok (.ireturn, 1) := by decide +kernel
theorem dJ9_min_7cf53_0 : decode cJ9_min_7cf53 0 = .ok (.iload_n 0, 1) := by decide +kernel
theorem dJ9_min_7cf53_1 : decode cJ9_min_7cf53 1 = .ok (.iload_n 1, 1) := by decide +kernel
theorem dJ9_min_7cf53_2 : decode cJ9_min_7cf53 2 = .ok (.if_icmp .gt 7, 3) := by decide +kernel
theorem dJ9_min_7cf53_5 : decode cJ9_min_7cf53 5 = .ok (.iload_n 0, 1) := by decide +kernel
theorem dJ9_min_7cf53_6 : decode cJ9_min_7cf53 6 = .ok (.goto 4, 3) := by decide +kernel
theorem dJ9_min_7cf53_9 : decode cJ9_min_7cf53 9 = .ok (.iload_n 1, 1) := by decide +kernel
theorem dJ9_min_7cf53_10 : decode cJ9_min_7cf53 10 = .ok (.ireturn, 1) := by decide +kernel
theorem dJ7_fill_53178_0 : decode cJ7_fill_53178 0 = .ok (.iconst 0, 1) := by decide +kernel
theorem dJ7_fill_53178_1 : decode cJ7_fill_53178 1 = .ok (.istore_n 2, 1) := by decide +kernel
theorem dJ7_fill_53178_2 : decode cJ7_fill_53178 2 = .ok (.aload_n 0, 1) := by decide +kernel
theorem dJ7_fill_53178_3 : decode cJ7_fill_53178 3 = .ok (.arraylength, 1) := by decide +kernel
theorem dJ7_fill_53178_4 : decode cJ7_fill_53178 4 = .ok (.istore_n 3, 1) := by decide +kernel
theorem dJ7_fill_53178_5 : decode cJ7_fill_53178 5 = .ok (.iload_n 2, 1) := by decide +kernel
theorem dJ7_fill_53178_6 : decode cJ7_fill_53178 6 = .ok (.iload_n 3, 1) := by decide +kernel
theorem dJ7_fill_53178_7 : decode cJ7_fill_53178 7 = .ok (.if_icmp .ge 13, 3) := by decide +kernel
theorem dJ7_fill_53178_10 : decode cJ7_fill_53178 10 = .ok (.aload_n 0, 1) := by decide +kernel
theorem dJ7_fill_53178_11 : decode cJ7_fill_53178 11 = .ok (.iload_n 2, 1) := by decide +kernel
theorem dJ7_fill_53178_12 : decode cJ7_fill_53178 12 = .ok (.iload_n 1, 1) := by decide +kernel
theorem dJ7_fill_53178_13 : decode cJ7_fill_53178 13 = .ok (.iastore, 1) := by decide +kernel
theorem dJ7_fill_53178_14 : decode cJ7_fill_53178 14 = .ok (.iinc 2 1, 3) := by decide +kernel
theorem dJ7_fill_53178_17 : decode cJ7_fill_53178 17 = .ok (.goto (-12), 3) := by decide +kernel
theorem dJ7_fill_53178_20 : decode cJ7_fill_53178 20 = .ok (.return_, 1) := by decide +kernel
end
section
theorem dL_law_0 : decode cL_law 0 = .ok (.new 7, 3) := by decide +kernel
theorem dL_law_3 : decode cL_law 3 = .ok (.dup, 1) := by decide +kernel
theorem dL_law_4 : decode cL_law 4 = .ok (.invokespecial 9, 3) := by decide +kernel
theorem dL_law_7 : decode cL_law 7 = .ok (.astore_n 1, 1) := by decide +kernel
theorem dL_law_8 : decode cL_law 8 = .ok (.new 10, 3) := by decide +kernel
theorem dL_law_11 : decode cL_law 11 = .ok (.dup, 1) := by decide +kernel
theorem dL_law_12 : decode cL_law 12 = .ok (.invokespecial 12, 3) := by decide +kernel
theorem dL_law_15 : decode cL_law 15 = .ok (.astore_n 2, 1) := by decide +kernel
theorem dL_law_16 : decode cL_law 16 = .ok (.iconst 0, 1) := by decide +kernel
theorem dL_law_17 : decode cL_law 17 = .ok (.istore_n 3, 1) := by decide +kernel
theorem dL_law_18 : decode cL_law 18 = .ok (.iload_n 3, 1) := by decide +kernel
theorem dL_law_19 : decode cL_law 19 = .ok (.aload_n 0, 1) := by decide +kernel
theorem dL_law_20 : decode cL_law 20 = .ok (.arraylength, 1) := by decide +kernel
theorem dL_law_21 : decode cL_law 21 = .ok (.bipush 6, 2) := by decide +kernel
theorem dL_law_23 : decode cL_law 23 = .ok (.isub, 1) := by decide +kernel
theorem dL_law_24 : decode cL_law 24 = .ok (.if_icmp .gt 788, 3) := by decide +kernel
theorem dL_law_27 : decode cL_law 27 = .ok (.aload_n 0, 1) := by decide +kernel
theorem dL_law_28 : decode cL_law 28 = .ok (.iload_n 3, 1) := by decide +kernel
theorem dL_law_29 : decode cL_law 29 = .ok (.iaload, 1) := by decide +kernel
theorem dL_law_30 : decode cL_law 30 = .ok (.bipush 31, 2) := by decide +kernel
theorem dL_law_32 : decode cL_law 32 = .ok (.iand, 1) := by decide +kernel
theorem dL_law_33 : decode cL_law 33 = .ok (.tableswitch 773 0 23 #[111, 144, 207, 240, 273, 306, 329, 342, 375, 408, 441, 474, 497, 540, 563, 576, 589, 622, 675, 688, 701, 714, 727, 750], 111) := by decide +kernel
theorem dL_law_144 : decode cL_law 144 = .ok (.aload_n 1, 1) := by decide +kernel
theorem dL_law_145 : decode cL_law 145 = .ok (.aload_n 0, 1) := by decide +kernel
theorem dL_law_146 : decode cL_law 146 = .ok (.iload_n 3, 1) := by decide +kernel
theorem dL_law_147 : decode cL_law 147 = .ok (.iconst 1, 1) := by decide +kernel
theorem dL_law_148 : decode cL_law 148 = .ok (.iadd, 1) := by decide +kernel
theorem dL_law_149 : decode cL_law 149 = .ok (.iaload, 1) := by decide +kernel
theorem dL_law_150 : decode cL_law 150 = .ok (.aload_n 0, 1) := by decide +kernel
theorem dL_law_151 : decode cL_law 151 = .ok (.iload_n 3, 1) := by decide +kernel
theorem dL_law_152 : decode cL_law 152 = .ok (.iconst 2, 1) := by decide +kernel
theorem dL_law_153 : decode cL_law 153 = .ok (.iadd, 1) := by decide +kernel
theorem dL_law_154 : decode cL_law 154 = .ok (.iaload, 1) := by decide +kernel
theorem dL_law_155 : decode cL_law 155 = .ok (.invokevirtual 13, 3) := by decide +kernel
theorem dL_law_158 : decode cL_law 158 = .ok (.aload_n 2, 1) := by decide +kernel
theorem dL_law_159 : decode cL_law 159 = .ok (.aload_n 0, 1) := by decide +kernel
theorem dL_law_160 : decode cL_law 160 = .ok (.iload_n 3, 1) := by decide +kernel
theorem dL_law_161 : decode cL_law 161 = .ok (.iconst 1, 1) := by decide +kernel
theorem dL_law_162 : decode cL_law 162 = .ok (.iadd, 1) := by decide +kernel
theorem dL_law_163 : decode cL_law 163 = .ok (.iaload, 1) := by decide +kernel
theorem dL_law_164 : decode cL_law 164 = .ok (.aload_n 0, 1) := by decide +kernel
theorem dL_law_165 : decode cL_law 165 = .ok (.iload_n 3, 1) := by decide +kernel
theorem dL_law_166 : decode cL_law 166 = .ok (.iconst 2, 1) := by decide +kernel
theorem dL_law_167 : decode cL_law 167 = .ok (.iadd, 1) := by decide +kernel
theorem dL_law_168 : decode cL_law 168 = .ok (.iaload, 1) := by decide +kernel
theorem dL_law_169 : decode cL_law 169 = .ok (.invokevirtual 17, 3) := by decide +kernel
theorem dL_law_172 : decode cL_law 172 = .ok (.if_icmp .eq 634, 3) := by decide +kernel
theorem dL_law_175 : decode cL_law 175 = .ok (.iconst 0, 1) := by decide +kernel
theorem dL_law_176 : decode cL_law 176 = .ok (.ireturn, 1) := by decide +kernel
theorem dL_law_177 : decode cL_law 177 = .ok (.aload_n 1, 1) := by decide +kernel
theorem dL_law_178 : decode cL_law 178 = .ok (.aload_n 0, 1) := by decide +kernel
theorem dL_law_179 : decode cL_law 179 = .ok (.iload_n 3, 1) := by decide +kernel
theorem dL_law_180 : decode cL_law 180 = .ok (.iconst 1, 1) := by decide +kernel
theorem dL_law_181 : decode cL_law 181 = .ok (.iadd, 1) := by decide +kernel
theorem dL_law_182 : decode cL_law 182 = .ok (.iaload, 1) := by decide +kernel
theorem dL_law_183 : decode cL_law 183 = .ok (.aload_n 0, 1) := by decide +kernel
theorem dL_law_184 : decode cL_law 184 = .ok (.iload_n 3, 1) := by decide +kernel
theorem dL_law_185 : decode cL_law 185 = .ok (.iconst 2, 1) := by decide +kernel
theorem dL_law_186 : decode cL_law 186 = .ok (.iadd, 1) := by decide +kernel
theorem dL_law_187 : decode cL_law 187 = .ok (.iaload, 1) := by decide +kernel
theorem dL_law_188 : decode cL_law 188 = .ok (.aload_n 0, 1) := by decide +kernel
theorem dL_law_189 : decode cL_law 189 = .ok (.iload_n 3, 1) := by decide +kernel
theorem dL_law_190 : decode cL_law 190 = .ok (.iconst 3, 1) := by decide +kernel
theorem dL_law_191 : decode cL_law 191 = .ok (.iadd, 1) := by decide +kernel
theorem dL_law_192 : decode cL_law 192 = .ok (.iaload, 1) := by decide +kernel
theorem dL_law_193 : decode cL_law 193 = .ok (.aload_n 0, 1) := by decide +kernel
theorem dL_law_194 : decode cL_law 194 = .ok (.iload_n 3, 1) := by decide +kernel
theorem dL_law_195 : decode cL_law 195 = .ok (.iconst 4, 1) := by decide +kernel
theorem dL_law_196 : decode cL_law 196 = .ok (.iadd, 1) := by decide +kernel
theorem dL_law_197 : decode cL_law 197 = .ok (.iaload, 1) := by decide +kernel
theorem dL_law_198 : decode cL_law 198 = .ok (.aload_n 0, 1) := by decide +kernel
theorem dL_law_199 : decode cL_law 199 = .ok (.iload_n 3, 1) := by decide +kernel
theorem dL_law_200 : decode cL_law 200 = .ok (.iconst 5, 1) := by decide +kernel
theorem dL_law_201 : decode cL_law 201 = .ok (.iadd, 1) := by decide +kernel
theorem dL_law_202 : decode cL_law 202 = .ok (.iaload, 1) := by decide +kernel
theorem dL_law_203 : decode cL_law 203 = .ok (.invokevirtual 18, 3) := by decide +kernel
theorem dL_law_206 : decode cL_law 206 = .ok (.aload_n 2, 1) := by decide +kernel
theorem dL_law_207 : decode cL_law 207 = .ok (.aload_n 0, 1) := by decide +kernel
theorem dL_law_208 : decode cL_law 208 = .ok (.iload_n 3, 1) := by decide +kernel
theorem dL_law_209 : decode cL_law 209 = .ok (.iconst 1, 1) := by decide +kernel
theorem dL_law_210 : decode cL_law 210 = .ok (.iadd, 1) := by decide +kernel
theorem dL_law_211 : decode cL_law 211 = .ok (.iaload, 1) := by decide +kernel
theorem dL_law_212 : decode cL_law 212 = .ok (.aload_n 0, 1) := by decide +kernel
theorem dL_law_213 : decode cL_law 213 = .ok (.iload_n 3, 1) := by decide +kernel
theorem dL_law_214 : decode cL_law 214 = .ok (.iconst 2, 1) := by decide +kernel
theorem dL_law_215 : decode cL_law 215 = .ok (.iadd, 1) := by decide +kernel
theorem dL_law_216 : decode cL_law 216 = .ok (.iaload, 1) := by decide +kernel
theorem dL_law_217 : decode cL_law 217 = .ok (.aload_n 0, 1) := by decide +kernel
theorem dL_law_218 : decode cL_law 218 = .ok (.iload_n 3, 1) := by decide +kernel
theorem dL_law_219 : decode cL_law 219 = .ok (.iconst 3, 1) := by decide +kernel
theorem dL_law_220 : decode cL_law 220 = .ok (.iadd, 1) := by decide +kernel
theorem dL_law_221 : decode cL_law 221 = .ok (.iaload, 1) := by decide +kernel
theorem dL_law_222 : decode cL_law 222 = .ok (.aload_n 0, 1) := by decide +kernel
theorem dL_law_223 : decode cL_law 223 = .ok (.iload_n 3, 1) := by decide +kernel
theorem dL_law_224 : decode cL_law 224 = .ok (.iconst 4, 1) := by decide +kernel
theorem dL_law_225 : decode cL_law 225 = .ok (.iadd, 1) := by decide +kernel
theorem dL_law_226 : decode cL_law 226 = .ok (.iaload, 1) := by decide +kernel
theorem dL_law_227 : decode cL_law 227 = .ok (.aload_n 0, 1) := by decide +kernel
theorem dL_law_228 : decode cL_law 228 = .ok (.iload_n 3, 1) := by decide +kernel
theorem dL_law_229 : decode cL_law 229 = .ok (.iconst 5, 1) := by decide +kernel
theorem dL_law_230 : decode cL_law 230 = .ok (.iadd, 1) := by decide +kernel
theorem dL_law_231 : decode cL_law 231 = .ok (.iaload, 1) := by decide +kernel
theorem dL_law_232 : decode cL_law 232 = .ok (.invokevirtual 22, 3) := by decide +kernel
theorem dL_law_235 : decode cL_law 235 = .ok (.if_icmp .eq 571, 3) := by decide +kernel
theorem dL_law_238 : decode cL_law 238 = .ok (.iconst 0, 1) := by decide +kernel
theorem dL_law_239 : decode cL_law 239 = .ok (.ireturn, 1) := by decide +kernel
theorem dL_law_240 : decode cL_law 240 = .ok (.aload_n 1, 1) := by decide +kernel
theorem dL_law_241 : decode cL_law 241 = .ok (.aload_n 0, 1) := by decide +kernel
theorem dL_law_242 : decode cL_law 242 = .ok (.iload_n 3, 1) := by decide +kernel
theorem dL_law_243 : decode cL_law 243 = .ok (.iconst 1, 1) := by decide +kernel
theorem dL_law_244 : decode cL_law 244 = .ok (.iadd, 1) := by decide +kernel
theorem dL_law_245 : decode cL_law 245 = .ok (.iaload, 1) := by decide +kernel
theorem dL_law_246 : decode cL_law 246 = .ok (.aload_n 0, 1) := by decide +kernel
theorem dL_law_247 : decode cL_law 247 = .ok (.iload_n 3, 1) := by decide +kernel
theorem dL_law_248 : decode cL_law 248 = .ok (.iconst 2, 1) := by decide +kernel
theorem dL_law_249 : decode cL_law 249 = .ok (.iadd, 1) := by decide +kernel
theorem dL_law_250 : decode cL_law 250 = .ok (.iaload, 1) := by decide +kernel
theorem dL_law_251 : decode cL_law 251 = .ok (.invokevirtual 23, 3) := by decide +kernel
theorem dL_law_254 : decode cL_law 254 = .ok (.aload_n 2, 1) := by decide +kernel
theorem dL_law_255 : decode cL_law 255 = .ok (.aload_n 0, 1) := by decide +kernel
theorem dL_law_256 : decode cL_law 256 = .ok (.iload_n 3, 1) := by decide +kernel
theorem dL_law_257 : decode cL_law 257 = .ok (.iconst 1, 1) := by decide +kernel
theorem dL_law_258 : decode cL_law 258 = .ok (.iadd, 1) := by decide +kernel
theorem dL_law_259 : decode cL_law 259 = .ok (.iaload, 1) := by decide +kernel
theorem dL_law_260 : decode cL_law 260 = .ok (.aload_n 0, 1) := by decide +kernel
theorem dL_law_261 : decode cL_law 261 = .ok (.iload_n 3, 1) := by decide +kernel
theorem dL_law_262 : decode cL_law 262 = .ok (.iconst 2, 1) := by decide +kernel
theorem dL_law_263 : decode cL_law 263 = .ok (.iadd, 1) := by decide +kernel
theorem dL_law_264 : decode cL_law 264 = .ok (.iaload, 1) := by decide +kernel
theorem dL_law_265 : decode cL_law 265 = .ok (.invokevirtual 26, 3) := by decide +kernel
theorem dL_law_268 : decode cL_law 268 = .ok (.if_icmp .eq 538, 3) := by decide +kernel
theorem dL_law_271 : decode cL_law 271 = .ok (.iconst 0, 1) := by decide +kernel
theorem dL_law_272 : decode cL_law 272 = .ok (.ireturn, 1) := by decide +kernel
theorem dL_law_273 : decode cL_law 273 = .ok (.aload_n 1, 1) := by decide +kernel
theorem dL_law_274 : decode cL_law 274 = .ok (.aload_n 0, 1) := by decide +kernel
theorem dL_law_275 : decode cL_law 275 = .ok (.iload_n 3, 1) := by decide +kernel
theorem dL_law_276 : decode cL_law 276 = .ok (.iconst 1, 1) := by decide +kernel
theorem dL_law_277 : decode cL_law 277 = .ok (.iadd, 1) := by decide +kernel
theorem dL_law_278 : decode cL_law 278 = .ok (.iaload, 1) := by decide +kernel
theorem dL_law_279 : decode cL_law 279 = .ok (.aload_n 0, 1) := by decide +kernel
theorem dL_law_280 : decode cL_law 280 = .ok (.iload_n 3, 1) := by decide +kernel
theorem dL_law_281 : decode cL_law 281 = .ok (.iconst 2, 1) := by decide +kernel
theorem dL_law_282 : decode cL_law 282 = .ok (.iadd, 1) := by decide +kernel
theorem dL_law_283 : decode cL_law 283 = .ok (.iaload, 1) := by decide +kernel
theorem dL_law_284 : decode cL_law 284 = .ok (.invokevirtual 27, 3) := by decide +kernel
theorem dL_law_287 : decode cL_law 287 = .ok (.aload_n 2, 1) := by decide +kernel
theorem dL_law_288 : decode cL_law 288 = .ok (.aload_n 0, 1) := by decide +kernel
theorem dL_law_289 : decode cL_law 289 = .ok (.iload_n 3, 1) := by decide +kernel
theorem dL_law_290 : decode cL_law 290 = .ok (.iconst 1, 1) := by decide +kernel
theorem dL_law_291 : decode cL_law 291 = .ok (.iadd, 1) := by decide +kernel
theorem dL_law_292 : decode cL_law 292 = .ok (.iaload, 1) := by decide +kernel
theorem dL_law_293 : decode cL_law 293 = .ok (.aload_n 0, 1) := by decide +kernel
theorem dL_law_294 : decode cL_law 294 = .ok (.iload_n 3, 1) := by decide +kernel
theorem dL_law_295 : decode cL_law 295 = .ok (.iconst 2, 1) := by decide +kernel
theorem dL_law_296 : decode cL_law 296 = .ok (.iadd, 1) := by decide +kernel
theorem dL_law_297 : decode cL_law 297 = .ok (.iaload, 1) := by decide +kernel
theorem dL_law_298 : decode cL_law 298 = .ok (.invokevirtual 30, 3) := by decide +kernel
theorem dL_law_301 : decode cL_law 301 = .ok (.if_icmp .eq 505, 3) := by decide +kernel
theorem dL_law_304 : decode cL_law 304 = .ok (.iconst 0, 1) := by decide +kernel
theorem dL_law_305 : decode cL_law 305 = .ok (.ireturn, 1) := by decide +kernel
theorem dL_law_306 : decode cL_law 306 = .ok (.aload_n 1, 1) := by decide +kernel
theorem dL_law_307 : decode cL_law 307 = .ok (.aload_n 0, 1) := by decide +kernel
theorem dL_law_308 : decode cL_law 308 = .ok (.iload_n 3, 1) := by decide +kernel
theorem dL_law_309 : decode cL_law 309 = .ok (.iconst 1, 1) := by decide +kernel
theorem dL_law_310 : decode cL_law 310 = .ok (.iadd, 1) := by decide +kernel
theorem dL_law_311 : decode cL_law 311 = .ok (.iaload, 1) := by decide +kernel
theorem dL_law_312 : decode cL_law 312 = .ok (.aload_n 0, 1) := by decide +kernel
theorem dL_law_313 : decode cL_law 313 = .ok (.iload_n 3, 1) := by decide +kernel
theorem dL_law_314 : decode cL_law 314 = .ok (.iconst 2, 1) := by decide +kernel
theorem dL_law_315 : decode cL_law 315 = .ok (.iadd, 1) := by decide +kernel
theorem dL_law_316 : decode cL_law 316 = .ok (.iaload, 1) := by decide +kernel
theorem dL_law_317 : decode cL_law 317 = .ok (.invokevirtual 31, 3) := by decide +kernel
theorem dL_law_320 : decode cL_law 320 = .ok (.aload_n 2, 1) := by decide +kernel
theorem dL_law_321 : decode cL_law 321 = .ok (.aload_n 0, 1) := by decide +kernel
theorem dL_law_322 : decode cL_law 322 = .ok (.iload_n 3, 1) := by decide +kernel
theorem dL_law_323 : decode cL_law 323 = .ok (.iconst 1, 1) := by decide +kernel
theorem dL_law_324 : decode cL_law 324 = .ok (.iadd, 1) := by decide +kernel
theorem dL_law_325 : decode cL_law 325 = .ok (.iaload, 1) := by decide +kernel
theorem dL_law_326 : decode cL_law 326 = .ok (.aload_n 0, 1) := by decide +kernel
theorem dL_law_327 : decode cL_law 327 = .ok (.iload_n 3, 1) := by decide +kernel
theorem dL_law_328 : decode cL_law 328 = .ok (.iconst 2, 1) := by decide +kernel
theorem dL_law_329 : decode cL_law 329 = .ok (.iadd, 1) := by decide +kernel
theorem dL_law_330 : decode cL_law 330 = .ok (.iaload, 1) := by decide +kernel
theorem dL_law_331 : decode cL_law 331 = .ok (.invokevirtual 34, 3) := by decide +kernel
theorem dL_law_334 : decode cL_law 334 = .ok (.if_icmp .eq 472, 3) := by decide +kernel
theorem dL_law_337 : decode cL_law 337 = .ok (.iconst 0, 1) := by decide +kernel
theorem dL_law_338 : decode cL_law 338 = .ok (.ireturn, 1) := by decide +kernel
theorem dL_law_339 : decode cL_law 339 = .ok (.aload_n 1, 1) := by decide +kernel
theorem dL_law_340 : decode cL_law 340 = .ok (.aload_n 0, 1) := by decide +kernel
theorem dL_law_341 : decode cL_law 341 = .ok (.iload_n 3, 1) := by decide +kernel
theorem dL_law_342 : decode cL_law 342 = .ok (.iconst 1, 1) := by decide +kernel
theorem dL_law_343 : decode cL_law 343 = .ok (.iadd, 1) := by decide +kernel
theorem dL_law_344 : decode cL_law 344 = .ok (.iaload, 1) := by decide +kernel
theorem dL_law_345 : decode cL_law 345 = .ok (.invokevirtual 35, 3) := by decide +kernel
theorem dL_law_348 : decode cL_law 348 = .ok (.aload_n 2, 1) := by decide +kernel
theorem dL_law_349 : decode cL_law 349 = .ok (.aload_n 0, 1) := by decide +kernel
theorem dL_law_350 : decode cL_law 350 = .ok (.iload_n 3, 1) := by decide +kernel
theorem dL_law_351 : decode cL_law 351 = .ok (.iconst 1, 1) := by decide +kernel
theorem dL_law_352 : decode cL_law 352 = .ok (.iadd, 1) := by decide +kernel
theorem dL_law_353 : decode cL_law 353 = .ok (.iaload, 1) := by decide +kernel
theorem dL_law_354 : decode cL_law 354 = .ok (.invokevirtual 39, 3) := by decide +kernel
theorem dL_law_357 : decode cL_law 357 = .ok (.if_icmp .eq 449, 3) := by decide +kernel
theorem dL_law_360 : decode cL_law 360 = .ok (.iconst 0, 1) := by decide +kernel
theorem dL_law_361 : decode cL_law 361 = .ok (.ireturn, 1) := by decide +kernel
theorem dL_law_362 : decode cL_law 362 = .ok (.aload_n 1, 1) := by decide +kernel
theorem dL_law_363 : decode cL_law 363 = .ok (.invokevirtual 40, 3) := by decide +kernel
theorem dL_law_366 : decode cL_law 366 = .ok (.aload_n 2, 1) := by decide +kernel
theorem dL_law_367 : decode cL_law 367 = .ok (.invokevirtual 44, 3) := by decide +kernel
theorem dL_law_370 : decode cL_law 370 = .ok (.if_icmp .eq 436, 3) := by decide +kernel
theorem dL_law_373 : decode cL_law 373 = .ok (.iconst 0, 1) := by decide +kernel
theorem dL_law_374 : decode cL_law 374 = .ok (.ireturn, 1) := by decide +kernel
theorem dL_law_375 : decode cL_law 375 = .ok (.aload_n 1, 1) := by decide +kernel
theorem dL_law_376 : decode cL_law 376 = .ok (.aload_n 0, 1) := by decide +kernel
theorem dL_law_377 : decode cL_law 377 = .ok (.iload_n 3, 1) := by decide +kernel
theorem dL_law_378 : decode cL_law 378 = .ok (.iconst 1, 1) := by decide +kernel
theorem dL_law_379 : decode cL_law 379 = .ok (.iadd, 1) := by decide +kernel
theorem dL_law_380 : decode cL_law 380 = .ok (.iaload, 1) := by decide +kernel
theorem dL_law_381 : decode cL_law 381 = .ok (.aload_n 0, 1) := by decide +kernel
theorem dL_law_382 : decode cL_law 382 = .ok (.iload_n 3, 1) := by decide +kernel
theorem dL_law_383 : decode cL_law 383 = .ok (.iconst 2, 1) := by decide +kernel
theorem dL_law_384 : decode cL_law 384 = .ok (.iadd, 1) := by decide +kernel
theorem dL_law_385 : decode cL_law 385 = .ok (.iaload, 1) := by decide +kernel
theorem dL_law_386 : decode cL_law 386 = .ok (.invokevirtual 45, 3) := by decide +kernel
theorem dL_law_389 : decode cL_law 389 = .ok (.aload_n 2, 1) := by decide +kernel
theorem dL_law_390 : decode cL_law 390 = .ok (.aload_n 0, 1) := by decide +kernel
theorem dL_law_391 : decode cL_law 391 = .ok (.iload_n 3, 1) := by decide +kernel
theorem dL_law_392 : decode cL_law 392 = .ok (.iconst 1, 1) := by decide +kernel
theorem dL_law_393 : decode cL_law 393 = .ok (.iadd, 1) := by decide +kernel
theorem dL_law_394 : decode cL_law 394 = .ok (.iaload, 1) := by decide +kernel
theorem dL_law_395 : decode cL_law 395 = .ok (.aload_n 0, 1) := by decide +kernel
theorem dL_law_396 : decode cL_law 396 = .ok (.iload_n 3, 1) := by decide +kernel
theorem dL_law_397 : decode cL_law 397 = .ok (.iconst 2, 1) := by decide +kernel
theorem dL_law_398 : decode cL_law 398 = .ok (.iadd, 1) := by decide +kernel
theorem dL_law_399 : decode cL_law 399 = .ok (.iaload, 1) := by decide +kernel
theorem dL_law_400 : decode cL_law 400 = .ok (.invokevirtual 48, 3) := by decide +kernel
theorem dL_law_403 : decode cL_law 403 = .ok (.if_icmp .eq 403, 3) := by decide +kernel
theorem dL_law_406 : decode cL_law 406 = .ok (.iconst 0, 1) := by decide +kernel
theorem dL_law_407 : decode cL_law 407 = .ok (.ireturn, 1) := by decide +kernel
theorem dL_law_408 : decode cL_law 408 = .ok (.aload_n 1, 1) := by decide +kernel
theorem dL_law_409 : decode cL_law 409 = .ok (.aload_n 0, 1) := by decide +kernel
theorem dL_law_410 : decode cL_law 410 = .ok (.iload_n 3, 1) := by decide +kernel
theorem dL_law_411 : decode cL_law 411 = .ok (.iconst 1, 1) := by decide +kernel
theorem dL_law_412 : decode cL_law 412 = .ok (.iadd, 1) := by decide +kernel
theorem dL_law_413 : decode cL_law 413 = .ok (.iaload, 1) := by decide +kernel
theorem dL_law_414 : decode cL_law 414 = .ok (.aload_n 0, 1) := by decide +kernel
theorem dL_law_415 : decode cL_law 415 = .ok (.iload_n 3, 1) := by decide +kernel
theorem dL_law_416 : decode cL_law 416 = .ok (.iconst 2, 1) := by decide +kernel
theorem dL_law_417 : decode cL_law 417 = .ok (.iadd, 1) := by decide +kernel
theorem dL_law_418 : decode cL_law 418 = .ok (.iaload, 1) := by decide +kernel
theorem dL_law_419 : decode cL_law 419 = .ok (.invokevirtual 49, 3) := by decide +kernel
theorem dL_law_422 : decode cL_law 422 = .ok (.aload_n 2, 1) := by decide +kernel
theorem dL_law_423 : decode cL_law 423 = .ok (.aload_n 0, 1) := by decide +kernel
theorem dL_law_424 : decode cL_law 424 = .ok (.iload_n 3, 1) := by decide +kernel
theorem dL_law_425 : decode cL_law 425 = .ok (.iconst 1, 1) := by decide +kernel
theorem dL_law_426 : decode cL_law 426 = .ok (.iadd, 1) := by decide +kernel
theorem dL_law_427 : decode cL_law 427 = .ok (.iaload, 1) := by decide +kernel
theorem dL_law_428 : decode cL_law 428 = .ok (.aload_n 0, 1) := by decide +kernel
theorem dL_law_429 : decode cL_law 429 = .ok (.iload_n 3, 1) := by decide +kernel
theorem dL_law_430 : decode cL_law 430 = .ok (.iconst 2, 1) := by decide +kernel
theorem dL_law_431 : decode cL_law 431 = .ok (.iadd, 1) := by decide +kernel
theorem dL_law_432 : decode cL_law 432 = .ok (.iaload, 1) := by decide +kernel
theorem dL_law_433 : decode cL_law 433 = .ok (.invokevirtual 52, 3) := by decide +kernel
theorem dL_law_436 : decode cL_law 436 = .ok (.if_icmp .eq 370, 3) := by decide +kernel
theorem dL_law_439 : decode cL_law 439 = .ok (.iconst 0, 1) := by decide +kernel
theorem dL_law_440 : decode cL_law 440 = .ok (.ireturn, 1) := by decide +kernel
theorem dL_law_441 : decode cL_law 441 = .ok (.aload_n 1, 1) := by decide +kernel
theorem dL_law_442 : decode cL_law 442 = .ok (.aload_n 0, 1) := by decide +kernel
theorem dL_law_443 : decode cL_law 443 = .ok (.iload_n 3, 1) := by decide +kernel
theorem dL_law_444 : decode cL_law 444 = .ok (.iconst 1, 1) := by decide +kernel
theorem dL_law_445 : decode cL_law 445 = .ok (.iadd, 1) := by decide +kernel
theorem dL_law_446 : decode cL_law 446 = .ok (.iaload, 1) := by decide +kernel
theorem dL_law_447 : decode cL_law 447 = .ok (.aload_n 0, 1) := by decide +kernel
theorem dL_law_448 : decode cL_law 448 = .ok (.iload_n 3, 1) := by decide +kernel
theorem dL_law_449 : decode cL_law 449 = .ok (.iconst 2, 1) := by decide +kernel
theorem dL_law_450 : decode cL_law 450 = .ok (.iadd, 1) := by decide +kernel
theorem dL_law_451 : decode cL_law 451 = .ok (.iaload, 1) := by decide +kernel
theorem dL_law_452 : decode cL_law 452 = .ok (.invokevirtual 53, 3) := by decide +kernel
theorem dL_law_455 : decode cL_law 455 = .ok (.aload_n 2, 1) := by decide +kernel
theorem dL_law_456 : decode cL_law 456 = .ok (.aload_n 0, 1) := by decide +kernel
theorem dL_law_457 : decode cL_law 457 = .ok (.iload_n 3, 1) := by decide +kernel
theorem dL_law_458 : decode cL_law 458 = .ok (.iconst 1, 1) := by decide +kernel
theorem dL_law_459 : decode cL_law 459 = .ok (.iadd, 1) := by decide +kernel
theorem dL_law_460 : decode cL_law 460 = .ok (.iaload, 1) := by decide +kernel
theorem dL_law_461 : decode cL_law 461 = .ok (.aload_n 0, 1) := by decide +kernel
theorem dL_law_462 : decode cL_law 462 = .ok (.iload_n 3, 1) := by decide +kernel
theorem dL_law_463 : decode cL_law 463 = .ok (.iconst 2, 1) := by decide +kernel
theorem dL_law_464 : decode cL_law 464 = .ok (.iadd, 1) := by decide +kernel
theorem dL_law_465 : decode cL_law 465 = .ok (.iaload, 1) := by decide +kernel
theorem dL_law_466 : decode cL_law 466 = .ok (.invokevirtual 56, 3) := by decide +kernel
theorem dL_law_469 : decode cL_law 469 = .ok (.if_icmp .eq 337, 3) := by decide +kernel
theorem dL_law_472 : decode cL_law 472 = .ok (.iconst 0, 1) := by decide +kernel
theorem dL_law_473 : decode cL_law 473 = .ok (.ireturn, 1) := by decide +kernel
theorem dL_law_474 : decode cL_law 474 = .ok (.aload_n 1, 1) := by decide +kernel
theorem dL_law_475 : decode cL_law 475 = .ok (.aload_n 0, 1) := by decide +kernel
theorem dL_law_476 : decode cL_law 476 = .ok (.iload_n 3, 1) := by decide +kernel
theorem dL_law_477 : decode cL_law 477 = .ok (.iconst 1, 1) := by decide +kernel
theorem dL_law_478 : decode cL_law 478 = .ok (.iadd, 1) := by decide +kernel
theorem dL_law_479 : decode cL_law 479 = .ok (.iaload, 1) := by decide +kernel
theorem dL_law_480 : decode cL_law 480 = .ok (.aload_n 0, 1) := by decide +kernel
theorem dL_law_481 : decode cL_law 481 = .ok (.iload_n 3, 1) := by decide +kernel
theorem dL_law_482 : decode cL_law 482 = .ok (.iconst 2, 1) := by decide +kernel
theorem dL_law_483 : decode cL_law 483 = .ok (.iadd, 1) := by decide +kernel
theorem dL_law_484 : decode cL_law 484 = .ok (.iaload, 1) := by decide +kernel
theorem dL_law_485 : decode cL_law 485 = .ok (.invokevirtual 57, 3) := by decide +kernel
theorem dL_law_488 : decode cL_law 488 = .ok (.aload_n 2, 1) := by decide +kernel
theorem dL_law_489 : decode cL_law 489 = .ok (.aload_n 0, 1) := by decide +kernel
theorem dL_law_490 : decode cL_law 490 = .ok (.iload_n 3, 1) := by decide +kernel
theorem dL_law_491 : decode cL_law 491 = .ok (.iconst 1, 1) := by decide +kernel
theorem dL_law_492 : decode cL_law 492 = .ok (.iadd, 1) := by decide +kernel
theorem dL_law_493 : decode cL_law 493 = .ok (.iaload, 1) := by decide +kernel
theorem dL_law_494 : decode cL_law 494 = .ok (.aload_n 0, 1) := by decide +kernel
theorem dL_law_495 : decode cL_law 495 = .ok (.iload_n 3, 1) := by decide +kernel
theorem dL_law_496 : decode cL_law 496 = .ok (.iconst 2, 1) := by decide +kernel
theorem dL_law_497 : decode cL_law 497 = .ok (.iadd, 1) := by decide +kernel
theorem dL_law_498 : decode cL_law 498 = .ok (.iaload, 1) := by decide +kernel
theorem dL_law_499 : decode cL_law 499 = .ok (.invokevirtual 60, 3) := by decide +kernel
theorem dL_law_502 : decode cL_law 502 = .ok (.if_icmp .eq 304, 3) := by decide +kernel
theorem dL_law_505 : decode cL_law 505 = .ok (.iconst 0, 1) := by decide +kernel
theorem dL_law_506 : decode cL_law 506 = .ok (.ireturn, 1) := by decide +kernel
theorem dL_law_507 : decode cL_law 507 = .ok (.aload_n 1, 1) := by decide +kernel
theorem dL_law_508 : decode cL_law 508 = .ok (.aload_n 0, 1) := by decide +kernel
theorem dL_law_509 : decode cL_law 509 = .ok (.iload_n 3, 1) := by decide +kernel
theorem dL_law_510 : decode cL_law 510 = .ok (.iconst 1, 1) := by decide +kernel
theorem dL_law_511 : decode cL_law 511 = .ok (.iadd, 1) := by decide +kernel
theorem dL_law_512 : decode cL_law 512 = .ok (.iaload, 1) := by decide +kernel
theorem dL_law_513 : decode cL_law 513 = .ok (.invokevirtual 61, 3) := by decide +kernel
theorem dL_law_516 : decode cL_law 516 = .ok (.aload_n 2, 1) := by decide +kernel
theorem dL_law_517 : decode cL_law 517 = .ok (.aload_n 0, 1) := by decide +kernel
theorem dL_law_518 : decode cL_law 518 = .ok (.iload_n 3, 1) := by decide +kernel
theorem dL_law_519 : decode cL_law 519 = .ok (.iconst 1, 1) := by decide +kernel
theorem dL_law_520 : decode cL_law 520 = .ok (.iadd, 1) := by decide +kernel
theorem dL_law_521 : decode cL_law 521 = .ok (.iaload, 1) := by decide +kernel
theorem dL_law_522 : decode cL_law 522 = .ok (.invokevirtual 64, 3) := by decide +kernel
theorem dL_law_525 : decode cL_law 525 = .ok (.if_icmp .eq 281, 3) := by decide +kernel
theorem dL_law_528 : decode cL_law 528 = .ok (.iconst 0, 1) := by decide +kernel
theorem dL_law_529 : decode cL_law 529 = .ok (.ireturn, 1) := by decide +kernel
theorem dL_law_530 : decode cL_law 530 = .ok (.aload_n 1, 1) := by decide +kernel
theorem dL_law_531 : decode cL_law 531 = .ok (.aload_n 0, 1) := by decide +kernel
theorem dL_law_532 : decode cL_law 532 = .ok (.iload_n 3, 1) := by decide +kernel
theorem dL_law_533 : decode cL_law 533 = .ok (.iconst 1, 1) := by decide +kernel
theorem dL_law_534 : decode cL_law 534 = .ok (.iadd, 1) := by decide +kernel
theorem dL_law_535 : decode cL_law 535 = .ok (.iaload, 1) := by decide +kernel
theorem dL_law_536 : decode cL_law 536 = .ok (.aload_n 0, 1) := by decide +kernel
theorem dL_law_537 : decode cL_law 537 = .ok (.iload_n 3, 1) := by decide +kernel
theorem dL_law_538 : decode cL_law 538 = .ok (.iconst 2, 1) := by decide +kernel
theorem dL_law_539 : decode cL_law 539 = .ok (.iadd, 1) := by decide +kernel
theorem dL_law_540 : decode cL_law 540 = .ok (.iaload, 1) := by decide +kernel
theorem dL_law_541 : decode cL_law 541 = .ok (.aload_n 0, 1) := by decide +kernel
theorem dL_law_542 : decode cL_law 542 = .ok (.iload_n 3, 1) := by decide +kernel
theorem dL_law_543 : decode cL_law 543 = .ok (.iconst 3, 1) := by decide +kernel
theorem dL_law_544 : decode cL_law 544 = .ok (.iadd, 1) := by decide +kernel
theorem dL_law_545 : decode cL_law 545 = .ok (.iaload, 1) := by decide +kernel
theorem dL_law_546 : decode cL_law 546 = .ok (.invokevirtual 65, 3) := by decide +kernel
theorem dL_law_549 : decode cL_law 549 = .ok (.aload_n 2, 1) := by decide +kernel
theorem dL_law_550 : decode cL_law 550 = .ok (.aload_n 0, 1) := by decide +kernel
theorem dL_law_551 : decode cL_law 551 = .ok (.iload_n 3, 1) := by decide +kernel
theorem dL_law_552 : decode cL_law 552 = .ok (.iconst 1, 1) := by decide +kernel
theorem dL_law_553 : decode cL_law 553 = .ok (.iadd, 1) := by decide +kernel
theorem dL_law_554 : decode cL_law 554 = .ok (.iaload, 1) := by decide +kernel
theorem dL_law_555 : decode cL_law 555 = .ok (.aload_n 0, 1) := by decide +kernel
theorem dL_law_556 : decode cL_law 556 = .ok (.iload_n 3, 1) := by decide +kernel
theorem dL_law_557 : decode cL_law 557 = .ok (.iconst 2, 1) := by decide +kernel
theorem dL_law_558 : decode cL_law 558 = .ok (.iadd, 1) := by decide +kernel
theorem dL_law_559 : decode cL_law 559 = .ok (.iaload, 1) := by decide +kernel
theorem dL_law_560 : decode cL_law 560 = .ok (.aload_n 0, 1) := by decide +kernel
theorem dL_law_561 : decode cL_law 561 = .ok (.iload_n 3, 1) := by decide +kernel
theorem dL_law_562 : decode cL_law 562 = .ok (.iconst 3, 1) := by decide +kernel
theorem dL_law_563 : decode cL_law 563 = .ok (.iadd, 1) := by decide +kernel
theorem dL_law_564 : decode cL_law 564 = .ok (.iaload, 1) := by decide +kernel
theorem dL_law_565 : decode cL_law 565 = .ok (.invokevirtual 69, 3) := by decide +kernel
theorem dL_law_568 : decode cL_law 568 = .ok (.if_icmp .eq 238, 3) := by decide +kernel
theorem dL_law_571 : decode cL_law 571 = .ok (.iconst 0, 1) := by decide +kernel
theorem dL_law_572 : decode cL_law 572 = .ok (.ireturn, 1) := by decide +kernel
theorem dL_law_573 : decode cL_law 573 = .ok (.aload_n 1, 1) := by decide +kernel
theorem dL_law_574 : decode cL_law 574 = .ok (.aload_n 0, 1) := by decide +kernel
theorem dL_law_575 : decode cL_law 575 = .ok (.iload_n 3, 1) := by decide +kernel
theorem dL_law_576 : decode cL_law 576 = .ok (.iconst 1, 1) := by decide +kernel
theorem dL_law_577 : decode cL_law 577 = .ok (.iadd, 1) := by decide +kernel
theorem dL_law_578 : decode cL_law 578 = .ok (.iaload, 1) := by decide +kernel
theorem dL_law_579 : decode cL_law 579 = .ok (.invokevirtual 70, 3) := by decide +kernel
theorem dL_law_582 : decode cL_law 582 = .ok (.aload_n 2, 1) := by decide +kernel
theorem dL_law_583 : decode cL_law 583 = .ok (.aload_n 0, 1) := by decide +kernel
theorem dL_law_584 : decode cL_law 584 = .ok (.iload_n 3, 1) := by decide +kernel
theorem dL_law_585 : decode cL_law 585 = .ok (.iconst 1, 1) := by decide +kernel
theorem dL_law_586 : decode cL_law 586 = .ok (.iadd, 1) := by decide +kernel
theorem dL_law_587 : decode cL_law 587 = .ok (.iaload, 1) := by decide +kernel
theorem dL_law_588 : decode cL_law 588 = .ok (.invokevirtual 73, 3) := by decide +kernel
theorem dL_law_591 : decode cL_law 591 = .ok (.if_icmp .eq 215, 3) := by decide +kernel
theorem dL_law_594 : decode cL_law 594 = .ok (.iconst 0, 1) := by decide +kernel
theorem dL_law_595 : decode cL_law 595 = .ok (.ireturn, 1) := by decide +kernel
theorem dL_law_596 : decode cL_law 596 = .ok (.aload_n 1, 1) := by decide +kernel
theorem dL_law_597 : decode cL_law 597 = .ok (.invokevirtual 74, 3) := by decide +kernel
theorem dL_law_600 : decode cL_law 600 = .ok (.aload_n 2, 1) := by decide +kernel
theorem dL_law_601 : decode cL_law 601 = .ok (.invokevirtual 77, 3) := by decide +kernel
theorem dL_law_604 : decode cL_law 604 = .ok (.if_icmp .eq 202, 3) := by decide +kernel
theorem dL_law_607 : decode cL_law 607 = .ok (.iconst 0, 1) := by decide +kernel
theorem dL_law_608 : decode cL_law 608 = .ok (.ireturn, 1) := by decide +kernel
theorem dL_law_609 : decode cL_law 609 = .ok (.aload_n 1, 1) := by decide +kernel
theorem dL_law_610 : decode cL_law 610 = .ok (.invokevirtual 78, 3) := by decide +kernel
theorem dL_law_613 : decode cL_law 613 = .ok (.aload_n 2, 1) := by decide +kernel
theorem dL_law_614 : decode cL_law 614 = .ok (.invokevirtual 81, 3) := by decide +kernel
theorem dL_law_617 : decode cL_law 617 = .ok (.if_icmp .eq 189, 3) := by decide +kernel
theorem dL_law_620 : decode cL_law 620 = .ok (.iconst 0, 1) := by decide +kernel
theorem dL_law_621 : decode cL_law 621 = .ok (.ireturn, 1) := by decide +kernel
theorem dL_law_622 : decode cL_law 622 = .ok (.aload_n 1, 1) := by decide +kernel
theorem dL_law_623 : decode cL_law 623 = .ok (.aload_n 0, 1) := by decide +kernel
theorem dL_law_624 : decode cL_law 624 = .ok (.iload_n 3, 1) := by decide +kernel
theorem dL_law_625 : decode cL_law 625 = .ok (.iconst 1, 1) := by decide +kernel
theorem dL_law_626 : decode cL_law 626 = .ok (.iadd, 1) := by decide +kernel
theorem dL_law_627 : decode cL_law 627 = .ok (.iaload, 1) := by decide +kernel
theorem dL_law_628 : decode cL_law 628 = .ok (.aload_n 0, 1) := by decide +kernel
theorem dL_law_629 : decode cL_law 629 = .ok (.iload_n 3, 1) := by decide +kernel
theorem dL_law_630 : decode cL_law 630 = .ok (.iconst 2, 1) := by decide +kernel
theorem dL_law_631 : decode cL_law 631 = .ok (.iadd, 1) := by decide +kernel
theorem dL_law_632 : decode cL_law 632 = .ok (.iaload, 1) := by decide +kernel
theorem dL_law_633 : decode cL_law 633 = .ok (.invokevirtual 82, 3) := by decide +kernel
theorem dL_law_636 : decode cL_law 636 = .ok (.aload_n 2, 1) := by decide +kernel
theorem dL_law_637 : decode cL_law 637 = .ok (.aload_n 0, 1) := by decide +kernel
theorem dL_law_638 : decode cL_law 638 = .ok (.iload_n 3, 1) := by decide +kernel
theorem dL_law_639 : decode cL_law 639 = .ok (.iconst 1, 1) := by decide +kernel
theorem dL_law_640 : decode cL_law 640 = .ok (.iadd, 1) := by decide +kernel
theorem dL_law_641 : decode cL_law 641 = .ok (.iaload, 1) := by decide +kernel
theorem dL_law_642 : decode cL_law 642 = .ok (.aload_n 0, 1) := by decide +kernel
theorem dL_law_643 : decode cL_law 643 = .ok (.iload_n 3, 1) := by decide +kernel
theorem dL_law_644 : decode cL_law 644 = .ok (.iconst 2, 1) := by decide +kernel
theorem dL_law_645 : decode cL_law 645 = .ok (.iadd, 1) := by decide +kernel
theorem dL_law_646 : decode cL_law 646 = .ok (.iaload, 1) := by decide +kernel
theorem dL_law_647 : decode cL_law 647 = .ok (.invokevirtual 85, 3) := by decide +kernel
theorem dL_law_650 : decode cL_law 650 = .ok (.if_icmp .eq 156, 3) := by decide +kernel
theorem dL_law_653 : decode cL_law 653 = .ok (.iconst 0, 1) := by decide +kernel
theorem dL_law_654 : decode cL_law 654 = .ok (.ireturn, 1) := by decide +kernel
theorem dL_law_655 : decode cL_law 655 = .ok (.aload_n 1, 1) := by decide +kernel
theorem dL_law_656 : decode cL_law 656 = .ok (.aload_n 0, 1) := by decide +kernel
theorem dL_law_657 : decode cL_law 657 = .ok (.iload_n 3, 1) := by decide +kernel
theorem dL_law_658 : decode cL_law 658 = .ok (.iconst 1, 1) := by decide +kernel
theorem dL_law_659 : decode cL_law 659 = .ok (.iadd, 1) := by decide +kernel
theorem dL_law_660 : decode cL_law 660 = .ok (.iaload, 1) := by decide +kernel
theorem dL_law_661 : decode cL_law 661 = .ok (.i2l, 1) := by decide +kernel
theorem dL_law_662 : decode cL_law 662 = .ok (.bipush 32, 2) := by decide +kernel
theorem dL_law_664 : decode cL_law 664 = .ok (.lshl, 1) := by decide +kernel
theorem dL_law_665 : decode cL_law 665 = .ok (.aload_n 0, 1) := by decide +kernel
theorem dL_law_666 : decode cL_law 666 = .ok (.iload_n 3, 1) := by decide +kernel
theorem dL_law_667 : decode cL_law 667 = .ok (.iconst 2, 1) := by decide +kernel
theorem dL_law_668 : decode cL_law 668 = .ok (.iadd, 1) := by decide +kernel
theorem dL_law_669 : decode cL_law 669 = .ok (.iaload, 1) := by decide +kernel
theorem dL_law_670 : decode cL_law 670 = .ok (.i2l, 1) := by decide +kernel
theorem dL_law_671 : decode cL_law 671 = .ok (.ldc2_w 86, 3) := by decide +kernel
theorem dL_law_674 : decode cL_law 674 = .ok (.land, 1) := by decide +kernel
theorem dL_law_675 : decode cL_law 675 = .ok (.lor, 1) := by decide +kernel
theorem dL_law_676 : decode cL_law 676 = .ok (.invokevirtual 88, 3) := by decide +kernel
theorem dL_law_679 : decode cL_law 679 = .ok (.aload_n 2, 1) := by decide +kernel
theorem dL_law_680 : decode cL_law 680 = .ok (.aload_n 0, 1) := by decide +kernel
theorem dL_law_681 : decode cL_law 681 = .ok (.iload_n 3, 1) := by decide +kernel
theorem dL_law_682 : decode cL_law 682 = .ok (.iconst 1, 1) := by decide +kernel
theorem dL_law_683 : decode cL_law 683 = .ok (.iadd, 1) := by decide +kernel
theorem dL_law_684 : decode cL_law 684 = .ok (.iaload, 1) := by decide +kernel
theorem dL_law_685 : decode cL_law 685 = .ok (.i2l, 1) := by decide +kernel
theorem dL_law_686 : decode cL_law 686 = .ok (.bipush 32, 2) := by decide +kernel
theorem dL_law_688 : decode cL_law 688 = .ok (.lshl, 1) := by decide +kernel
theorem dL_law_689 : decode cL_law 689 = .ok (.aload_n 0, 1) := by decide +kernel
theorem dL_law_690 : decode cL_law 690 = .ok (.iload_n 3, 1) := by decide +kernel
theorem dL_law_691 : decode cL_law 691 = .ok (.iconst 2, 1) := by decide +kernel
theorem dL_law_692 : decode cL_law 692 = .ok (.iadd, 1) := by decide +kernel
theorem dL_law_693 : decode cL_law 693 = .ok (.iaload, 1) := by decide +kernel
theorem dL_law_694 : decode cL_law 694 = .ok (.i2l, 1) := by decide +kernel
theorem dL_law_695 : decode cL_law 695 = .ok (.ldc2_w 86, 3) := by decide +kernel
theorem dL_law_698 : decode cL_law 698 = .ok (.land, 1) := by decide +kernel
theorem dL_law_699 : decode cL_law 699 = .ok (.lor, 1) := by decide +kernel
theorem dL_law_700 : decode cL_law 700 = .ok (.invokevirtual 92, 3) := by decide +kernel
theorem dL_law_703 : decode cL_law 703 = .ok (.if_icmp .eq 103, 3) := by decide +kernel
theorem dL_law_706 : decode cL_law 706 = .ok (.iconst 0, 1) := by decide +kernel
theorem dL_law_707 : decode cL_law 707 = .ok (.ireturn, 1) := by decide +kernel
theorem dL_law_708 : decode cL_law 708 = .ok (.aload_n 1, 1) := by decide +kernel
theorem dL_law_709 : decode cL_law 709 = .ok (.invokevirtual 93, 3) := by decide +kernel
theorem dL_law_712 : decode cL_law 712 = .ok (.aload_n 2, 1) := by decide +kernel
theorem dL_law_713 : decode cL_law 713 = .ok (.invokevirtual 96, 3) := by decide +kernel
theorem dL_law_716 : decode cL_law 716 = .ok (.if_icmp .eq 90, 3) := by decide +kernel
theorem dL_law_719 : decode cL_law 719 = .ok (.iconst 0, 1) := by decide +kernel
theorem dL_law_720 : decode cL_law 720 = .ok (.ireturn, 1) := by decide +kernel
theorem dL_law_721 : decode cL_law 721 = .ok (.aload_n 1, 1) := by decide +kernel
theorem dL_law_722 : decode cL_law 722 = .ok (.invokevirtual 97, 3) := by decide +kernel
theorem dL_law_725 : decode cL_law 725 = .ok (.aload_n 2, 1) := by decide +kernel
theorem dL_law_726 : decode cL_law 726 = .ok (.invokevirtual 100, 3) := by decide +kernel
theorem dL_law_729 : decode cL_law 729 = .ok (.if_icmp .eq 77, 3) := by decide +kernel
theorem dL_law_732 : decode cL_law 732 = .ok (.iconst 0, 1) := by decide +kernel
theorem dL_law_733 : decode cL_law 733 = .ok (.ireturn, 1) := by decide +kernel
theorem dL_law_734 : decode cL_law 734 = .ok (.aload_n 1, 1) := by decide +kernel
theorem dL_law_735 : decode cL_law 735 = .ok (.invokevirtual 101, 3) := by decide +kernel
theorem dL_law_738 : decode cL_law 738 = .ok (.aload_n 2, 1) := by decide +kernel
theorem dL_law_739 : decode cL_law 739 = .ok (.invokevirtual 104, 3) := by decide +kernel
theorem dL_law_742 : decode cL_law 742 = .ok (.if_icmp .eq 64, 3) := by decide +kernel
theorem dL_law_745 : decode cL_law 745 = .ok (.iconst 0, 1) := by decide +kernel
theorem dL_law_746 : decode cL_law 746 = .ok (.ireturn, 1) := by decide +kernel
theorem dL_law_747 : decode cL_law 747 = .ok (.aload_n 1, 1) := by decide +kernel
theorem dL_law_748 : decode cL_law 748 = .ok (.invokevirtual 105, 3) := by decide +kernel
theorem dL_law_751 : decode cL_law 751 = .ok (.aload_n 2, 1) := by decide +kernel
theorem dL_law_752 : decode cL_law 752 = .ok (.invokevirtual 108, 3) := by decide +kernel
theorem dL_law_755 : decode cL_law 755 = .ok (.if_icmp .eq 51, 3) := by decide +kernel
theorem dL_law_758 : decode cL_law 758 = .ok (.iconst 0, 1) := by decide +kernel
theorem dL_law_759 : decode cL_law 759 = .ok (.ireturn, 1) := by decide +kernel
theorem dL_law_760 : decode cL_law 760 = .ok (.aload_n 1, 1) := by decide +kernel
theorem dL_law_761 : decode cL_law 761 = .ok (.aload_n 0, 1) := by decide +kernel
theorem dL_law_762 : decode cL_law 762 = .ok (.iload_n 3, 1) := by decide +kernel
theorem dL_law_763 : decode cL_law 763 = .ok (.iconst 1, 1) := by decide +kernel
theorem dL_law_764 : decode cL_law 764 = .ok (.iadd, 1) := by decide +kernel
theorem dL_law_765 : decode cL_law 765 = .ok (.iaload, 1) := by decide +kernel
theorem dL_law_766 : decode cL_law 766 = .ok (.invokevirtual 109, 3) := by decide +kernel
theorem dL_law_769 : decode cL_law 769 = .ok (.aload_n 2, 1) := by decide +kernel
theorem dL_law_770 : decode cL_law 770 = .ok (.aload_n 0, 1) := by decide +kernel
theorem dL_law_771 : decode cL_law 771 = .ok (.iload_n 3, 1) := by decide +kernel
theorem dL_law_772 : decode cL_law 772 = .ok (.iconst 1, 1) := by decide +kernel
theorem dL_law_773 : decode cL_law 773 = .ok (.iadd, 1) := by decide +kernel
theorem dL_law_774 : decode cL_law 774 = .ok (.iaload, 1) := by decide +kernel
theorem dL_law_775 : decode cL_law 775 = .ok (.invokevirtual 112, 3) := by decide +kernel
theorem dL_law_778 : decode cL_law 778 = .ok (.if_icmp .eq 28, 3) := by decide +kernel
theorem dL_law_781 : decode cL_law 781 = .ok (.iconst 0, 1) := by decide +kernel
theorem dL_law_782 : decode cL_law 782 = .ok (.ireturn, 1) := by decide +kernel
theorem dL_law_783 : decode cL_law 783 = .ok (.aload_n 1, 1) := by decide +kernel
theorem dL_law_784 : decode cL_law 784 = .ok (.aload_n 0, 1) := by decide +kernel
theorem dL_law_785 : decode cL_law 785 = .ok (.iload_n 3, 1) := by decide +kernel
theorem dL_law_786 : decode cL_law 786 = .ok (.iconst 1, 1) := by decide +kernel
theorem dL_law_787 : decode cL_law 787 = .ok (.iadd, 1) := by decide +kernel
theorem dL_law_788 : decode cL_law 788 = .ok (.iaload, 1) := by decide +kernel
theorem dL_law_789 : decode cL_law 789 = .ok (.invokevirtual 113, 3) := by decide +kernel
theorem dL_law_792 : decode cL_law 792 = .ok (.aload_n 2, 1) := by decide +kernel
theorem dL_law_793 : decode cL_law 793 = .ok (.aload_n 0, 1) := by decide +kernel
theorem dL_law_794 : decode cL_law 794 = .ok (.iload_n 3, 1) := by decide +kernel
theorem dL_law_795 : decode cL_law 795 = .ok (.iconst 1, 1) := by decide +kernel
theorem dL_law_796 : decode cL_law 796 = .ok (.iadd, 1) := by decide +kernel
theorem dL_law_797 : decode cL_law 797 = .ok (.iaload, 1) := by decide +kernel
theorem dL_law_798 : decode cL_law 798 = .ok (.invokevirtual 116, 3) := by decide +kernel
theorem dL_law_801 : decode cL_law 801 = .ok (.if_icmp .eq 5, 3) := by decide +kernel
theorem dL_law_804 : decode cL_law 804 = .ok (.iconst 0, 1) := by decide +kernel
theorem dL_law_805 : decode cL_law 805 = .ok (.ireturn, 1) := by decide +kernel
theorem dL_law_806 : decode cL_law 806 = .ok (.iinc 3 6, 3) := by decide +kernel
theorem dL_law_809 : decode cL_law 809 = .ok (.goto (-791), 3) := by decide +kernel
theorem dL_law_812 : decode cL_law 812 = .ok (.iconst 1, 1) := by decide +kernel
theorem dL_law_813 : decode cL_law 813 = .ok (.ireturn, 1) := by decide +kernel
abbrev vwCl : List vw_C := [(RX0, TX0, 3), (RX1, TX1, 3), (RX2, TX2, 2), (RX3, TX3, 1), (RX4, TX4, 4), (RX5, TX5, 7), (RX6, TX6, 10), (RX7, TX7, 6), (RX8, TX8, 7)]
end
section
/-! words of the pure side: a method's answer is an Option (none: something would throw, or the fuel ends) -/
def gd {α : Type} (i : Int32) (n : Nat) (k : Option α) : Option α := if i < 0 ∨ n ≤ i.toNatClampNeg then none else k
theorem gd_sp {α : Type} {i : Int32} {n : Nat} {k : Option α} {o : α} (h : gd i n k = some o) : vp_in i n ∧ k = some o := by
  unfold gd at h
  by_cases hc : i < 0 ∨ n ≤ i.toNatClampNeg
  · rw [if_pos hc] at h; cases h
  · rw [if_neg hc] at h; exact ⟨hc, h⟩
def gz {α : Type} (y : Int32) (k : Option α) : Option α := if y = 0 then none else k
theorem gz_sp {α : Type} {y : Int32} {k : Option α} {o : α} (h : gz y k = some o) : ¬ y = 0 ∧ k = some o := by
  unfold gz at h
  by_cases hc : y = 0
  · rw [if_pos hc] at h; cases h
  · rw [if_neg hc] at h; exact ⟨hc, h⟩
def gb {α : Type} (y : Int32) (k : Option α) : Option α := if y = 0 ∨ y = 1 then k else none
theorem gb_sp {α : Type} {y : Int32} {k : Option α} {o : α} (h : gb y k = some o) : (y = 0 ∨ y = 1) ∧ k = some o := by
  unfold gb at h
  by_cases hc : y = 0 ∨ y = 1
  · rw [if_pos hc] at h; exact ⟨hc, h⟩
  · rw [if_neg hc] at h; cases h
theorem nar_b {x : Int32} (h : x = 0 ∨ x = 1) : narrow .boolean (.int x) = .int x := by rcases h with rfl | rfl <;> rfl
def gc {α : Type} (y : Int32) (k : Option α) : Option α := if 0 ≤ y ∧ y ≤ 65535 then k else none
theorem gc_sp {α : Type} {y : Int32} {k : Option α} {o : α} (h : gc y k = some o) : (0 ≤ y ∧ y ≤ 65535) ∧ k = some o := by
  unfold gc at h
  by_cases hc : 0 ≤ y ∧ y ≤ 65535
  · rw [if_pos hc] at h; exact ⟨hc, h⟩
  · rw [if_neg hc] at h; cases h
theorem ch_of {x : Int32} (h : 0 ≤ x ∧ x ≤ 65535) : ∃ q : Nat, q < 65536 ∧ x = nI q := by
  obtain ⟨j, h1, h2⟩ := nI_of2 (x := x) (M := 65535) (n := 65535) (by decide) (Int32.not_lt.mpr h.1) h.2
  exact ⟨j, by omega, h2⟩
theorem nar_c {x : Int32} (h : 0 ≤ x ∧ x ≤ 65535) : narrow .char (.int x) = .int x := by
  obtain ⟨q, h1, rfl⟩ := ch_of h
  exact (pk_charN h1).1
theorem fit_c {x : Int32} (h : 0 ≤ x ∧ x ≤ 65535) : fits .char (.int x) = true := by
  obtain ⟨q, h1, rfl⟩ := ch_of h
  exact (pk_charN h1).2
def gr {α : Type} (i : Int32) (n : Nat) (k : Option α) : Option α := if i < 0 ∨ n < i.toNatClampNeg then none else k
theorem gr_sp {α : Type} {i : Int32} {n : Nat} {k : Option α} {o : α} (h : gr i n k = some o) : ¬ i < 0 ∧ i.toNatClampNeg ≤ n ∧ k = some o := by
  unfold gr at h
  by_cases hc : i < 0 ∨ n < i.toNatClampNeg
  · rw [if_pos hc] at h; cases h
  · rw [if_neg hc] at h; exact ⟨fun z => hc (Or.inl z), Nat.not_lt.mp fun z => hc (Or.inr z), h⟩
def bn {α β : Type} (x : Option α) (k : α → Option β) : Option β := match x with
  | none => none
  | some a => k a
theorem bn_sp {α β : Type} {x : Option α} {k : α → Option β} {o : β} (h : bn x k = some o) : ∃ a, x = some a ∧ k a = some o := by
  cases x with
  | none => cases h
  | some a => exact ⟨a, rfl, h⟩
def bd {α β : Type} (a : α) (k : α → Option β) : Option β := k a
theorem bd_sp {α β : Type} {a : α} {k : α → Option β} {o : β} (h : bd a k = some o) : ∃ x, x = a ∧ k x = some o := ⟨a, rfl, h⟩
theorem bd_s2 {α β : Type} {a y : α} {k : α → Option β} {o : β} (h : bd a k = some o) (e : y = a) : k y = some o := by subst e; exact h
def jn {α β : Type} (k : α) (b : α → Option β) : Option β := b k
theorem jn_sp {α β : Type} {k : α} {b : α → Option β} {o : β} (h : jn k b = some o) : ∃ j, j = k ∧ b j = some o := ⟨k, rfl, h⟩
theorem br_p {α : Type} {c : Prop} [Decidable c] {a b : Option α} {o : α} (hc : c) (h : (if c then a else b) = some o) : a = some o := by rwa [if_pos hc] at h
theorem br_n {α : Type} {c : Prop} [Decidable c] {a b : Option α} {o : α} (hc : ¬ c) (h : (if c then a else b) = some o) : b = some o := by rwa [if_neg hc] at h
theorem no_sm {α : Type} {o : α} {P : Prop} (h : (none : Option α) = some o) : P := by cases h
theorem sw_out5 {x : Int} (h0 : ¬ x = 0) (h1 : ¬ x = 1) (h2 : ¬ x = 2) (h3 : ¬ x = 3) (h4 : ¬ x = 4) : x < 0 ∨ 4 < x := by omega
theorem sw_out3 {x : Int} (h0 : ¬ x = 0) (h1 : ¬ x = 1) (h2 : ¬ x = 2) : x < 0 ∨ 2 < x := by omega
theorem sw_out8 {x : Int} (h0 : ¬ x = 0) (h1 : ¬ x = 1) (h2 : ¬ x = 2) (h3 : ¬ x = 3) (h4 : ¬ x = 4) (h5 : ¬ x = 5) (h6 : ¬ x = 6) (h7 : ¬ x = 7) : x < 0 ∨ 7 < x := by omega
theorem sw_out14 {x : Int} (h0 : ¬ x = 0) (h1 : ¬ x = 1) (h2 : ¬ x = 2) (h3 : ¬ x = 3) (h4 : ¬ x = 4) (h5 : ¬ x = 5) (h6 : ¬ x = 6) (h7 : ¬ x = 7) (h8 : ¬ x = 8) (h9 : ¬ x = 9) (h10 : ¬ x = 10) (h11 : ¬ x = 11) (h12 : ¬ x = 12) (h13 : ¬ x = 13) : x < 0 ∨ 13 < x := by omega
/-! the links between nest mates, and the classes -/
def nw (U : State) : Prop := va_Nw (.methodLinkNest RX7 9 yX5_init "LeaningLines") U ∧ va_Nw (.methodLinkNest RX5 25 yX6_init "LeaningLines") U ∧ va_Nw (.methodLinkNest RX5 32 yX3_init "LeaningLines") U ∧ va_Nw (.methodLinkNest RX7 18 yX0_init "LeaningLines") U ∧ va_Nw (.methodLinkNest RX7 25 yX1_init "LeaningLines") U ∧ va_Nw (.methodLinkNest RX7 36 yX2_init "LeaningLines") U ∧ va_Nw (.methodLinkNest RX1 24 yX5_init "LeaningLines") U ∧ va_Nw (.methodLinkNest RX5 54 yX7_within "LeaningLines") U ∧ va_Nw (.methodLinkNest RX6 52 yX7_within "LeaningLines") U ∧ va_Nw (.methodLinkNest RX2 21 yX7_within "LeaningLines") U ∧ va_Nw (.fieldLinkNest RX5 9 "LeaningLines" "FIRST_VALUES" "[I" "LeaningLines") U ∧ va_Nw (.castable "[I" "java/lang/Cloneable") U ∧ va_AO "LeaningLines$Scene" U
theorem nw_warm {s U : State} (hW : s.WarmedH U.vm) (h : nw s) : nw U := by
  obtain ⟨h1, h2, h3, h4, h5, h6, h7, h8, h9, h10, h11, h12, h13⟩ := h
  exact ⟨va_Nw.warmM hW h1, va_Nw.warmM hW h2, va_Nw.warmM hW h3, va_Nw.warmM hW h4, va_Nw.warmM hW h5, va_Nw.warmM hW h6, va_Nw.warmM hW h7, va_Nw.warmM hW h8, va_Nw.warmM hW h9, va_Nw.warmM hW h10, va_Nw.warmF hW h11, va_Nw.warmC hW h12, va_AO.moved hW.alike h13⟩
theorem nw_same {u U : State} (e : u.vm = U.vm) (h : nw u) : nw U := by
  obtain ⟨h1, h2, h3, h4, h5, h6, h7, h8, h9, h10, h11, h12, h13⟩ := h
  exact ⟨va_Nw.same rfl e h1, va_Nw.same rfl e h2, va_Nw.same rfl e h3, va_Nw.same rfl e h4, va_Nw.same rfl e h5, va_Nw.same rfl e h6, va_Nw.same rfl e h7, va_Nw.same rfl e h8, va_Nw.same rfl e h9, va_Nw.same rfl e h10, va_Nw.same rfl e h11, va_Nw.same rfl e h12, va_AO.moved (by rw [← e]; exact Vm.Alike.refl _) h13⟩
abbrev tyL (cI cC cZ cR : ClassId) : List (ClassId × FieldType) := [(cI, .int), (cC, .char), (cZ, .boolean), (cR, .object "LeaningLines$Scene")]
def kk (D : va_G) (cI cC cZ cR : ClassId) (U : State) : Prop := va_K D vwCl (tyL cI cC cZ cR) U ∧ nw U
theorem kk_warm {D : va_G} {cI cC cZ cR : ClassId} {s U : State} (hW : s.WarmedH U.vm) (h : kk D cI cC cZ cR s) : kk D cI cC cZ cR U := ⟨va_K.moved hW.alike h.1, nw_warm hW h.2⟩
def cPc (D : va_G) (cI cC cZ cR : ClassId) (As : List Value) (sz : Nat) (ws : va_W) : Array Value → State → Prop := va_Pc As (fun U => U.heap.size = sz ∧ va_P D vwCl ws U.heap ∧ kk D cI cC cZ cR U ∧ va_D (fun _ => True) ws)
theorem cPc_bl {D : va_G} {cI cC cZ cR : ClassId} {As : List Value} {sz : Nat} {ws : va_W} : FrameBlind (cPc D cI cC cZ cR As sz ws) := fun a U g mk q => by
  obtain ⟨q0, q1, qP, qK, qD⟩ := q
  exact ⟨q0, q1, qP, ⟨va_K.moved (u := U) (U := U.calling g mk a) (Vm.Alike.refl U.vm) qK.1, nw_same (u := U) (U := U.calling g mk a) rfl qK.2⟩, qD⟩
theorem cPc_ps {D : va_G} {cI cC cZ cR : ClassId} {As : List Value} {ws : va_W} {H : Heap} {s : State} {A : Nat → Prop} (hP : va_P D vwCl ws H) (hK : kk D cI cC cZ cR s) (hD : va_D A ws) : PreS s H (cPc D cI cC cZ cR As H.size ws) As :=
  ⟨cPc_bl, fun U hU hW => ⟨rfl, by rw [hU], by rw [hU]; exact hP, kk_warm hW hK, hD.weaken (fun _ _ _ _ => trivial)⟩⟩
theorem cPc_pv {D : va_G} {cI cC cZ cR : ClassId} {b : Addr} {As : List Value} {ws : va_W} {H : Heap} {s : State} {A : Nat → Prop} (hP : va_P D vwCl ws H) (hK : kk D cI cC cZ cR s) (hD : va_D A ws) {ci q0 : Nat} {C : String} {T : u_T} {N : Nat} {fs : List Value} (hc : vwCl[ci]? = some (C, T, N)) (he : ws[q0]? = some (b, .inr (ci, fs))) : PreV s H C b (cPc D cI cC cZ cR (.ref b :: As) H.size ws) As :=
  ⟨cPc_bl, va_recv hK.1 hP hc he, fun U hU hW => ⟨rfl, by rw [hU], by rw [hU]; exact hP, kk_warm hW hK, hD.weaken (fun _ _ _ _ => trivial)⟩⟩
abbrev cB (D : va_G) (ws : va_W) (A : Nat → Prop) : Unit → State → Prop := fun _ t => va_P D vwCl ws t.heap ∧ va_D A ws
abbrev cQi (D : va_G) (ws : va_W) (A : Nat → Prop) (v : Int32) : Array Value → State → Outcome → State → Prop := va_Qi (fun (x : Int32) (_ : Unit) => x = v) (cB D ws A) A
abbrev cQv (D : va_G) (ws : va_W) (A : Nat → Prop) : Array Value → State → Outcome → State → Prop := va_Qv (fun (_ : Unit) => True) (cB D ws A) A
theorem W_absQ {p : Program} {l : Launch} {e : Env} {R : Room} {s : State} {m : MethodId} {args : Array Value} {below : List Frame} {meth : Method} {c : Code} {H : Heap} {locs : List Loc} {cells slots : Nat} {Q : State → Prop} {g : JFrame} (h : ∀ Q' : State → Prop, Q' = Q → W p l e R s m args below meth c H locs cells slots Q' g) : W p l e R s m args below meth c H locs cells slots Q g := h Q rfl
end
section
/-! worlds with a tail that no row names -/
theorem va_P_left {D : va_G} {cl : List vw_C} {a b : va_W} {H : Heap} (h : va_P D cl (a ++ b) H) : va_P D cl a H := fun k q hk => h k q (by rw [List.getElem?_append_left (List.getElem?_eq_some_iff.mp hk).1]; exact hk)
theorem ap_right {α : Type} {a b : List α} {k : Nat} {q : α} (hk : b[k]? = some q) : (a ++ b)[a.length + k]? = some q := by
  rw [List.getElem?_append_right (Nat.le_add_right _ _), Nat.add_sub_cancel_left]; exact hk
theorem ap_left {α : Type} {a b : List α} {k : Nat} {q : α} (hk : a[k]? = some q) : (a ++ b)[k]? = some q := by
  rw [List.getElem?_append_left (List.getElem?_eq_some_iff.mp hk).1]; exact hk
theorem va_P_right {D : va_G} {cl : List vw_C} {a b : va_W} {H : Heap} (h : va_P D cl (a ++ b) H) : va_P D cl b H := fun k q hk => h _ q (ap_right hk)
theorem va_D_left {A : Nat → Prop} {a b : va_W} (h : va_D A (a ++ b)) : va_D A a := ⟨fun i j p q hi hj e => h.1 i j p q (ap_left hi) (ap_left hj) e, fun k q hk => h.2 k q (ap_left hk)⟩
theorem va_D_right {A : Nat → Prop} {a b : va_W} (h : va_D A (a ++ b)) : va_D A b := ⟨fun i j p q hi hj e => by
  have h1 := h.1 _ _ p q (ap_right hi) (ap_right hj) e
  omega, fun k q hk => h.2 _ q (ap_right hk)⟩
theorem va_D_cross {A : Nat → Prop} {a b : va_W} (h : va_D A (a ++ b)) {i j : Nat} {p q : Nat × va_E} (hi : a[i]? = some p) (hj : b[j]? = some q) : p.1 ≠ q.1 := fun e => by
  have h1 := h.1 _ _ p q (ap_left hi) (ap_right hj) e
  have h2 := (List.getElem?_eq_some_iff.mp hi).1
  omega
theorem at_of {is : List Nat} {ws w : va_W} (hs : is.map (fun i => ws[i]?) = w.map some) {k : Nat} {q : Nat × va_E} (hq : w[k]? = some q) : ∃ i, is[k]? = some i ∧ ws[i]? = some q := by
  have h1 : (is.map (fun i => ws[i]?))[k]? = some (some q) := by rw [hs, List.getElem?_map, hq]; rfl
  rw [List.getElem?_map] at h1
  cases hi : is[k]? with
  | none => rw [hi] at h1; cases h1
  | some i => rw [hi] at h1; exact ⟨i, rfl, Option.some.inj h1⟩
theorem va_P_subT {D : va_G} {cl : List vw_C} {X X' T : va_W} {H : Heap} (h : va_P D cl (X ++ T) H) (is : List Nat) (hs : is.filterMap (fun i => X[i]?) = X') : va_P D cl (X' ++ T) H := ((va_P_left h).sub is hs).app (va_P_right h)
theorem va_D_subT {A : Nat → Prop} {X X' T : va_W} (h : va_D A (X ++ T)) (is : List Nat) (hn : va_nd is = true) (hs : is.map (fun i => X[i]?) = X'.map some) : va_D A (X' ++ T) :=
  va_D.app ((va_D_left h).sub is hn hs) (va_D_right h) (fun i j p q hi hj => by
    obtain ⟨k, -, h1⟩ := at_of hs hi
    exact va_D_cross h h1 hj)
theorem va_freeT {A0 : Nat → Prop} {L T wc : va_W} {H0 H : Heap} {locs : List Loc} (hD : va_D A0 (L ++ T)) (hS : va_S A0 H0 H locs) (hA : ∀ q, H0.size ≤ q → A0 q) (isC : List Nat) (hC : isC.map (fun i => L[i]?) = wc.map some) : ∀ q, va_A (wc ++ T) H.size q → A0 q := by
  intro q h
  rcases h with ⟨k, e, h⟩ | h
  · rcases List.mem_append.mp (List.mem_of_getElem? h) with h1 | h1
    · obtain ⟨i, hi⟩ := List.getElem?_of_mem h1
      obtain ⟨j, -, h2⟩ := at_of hC hi
      exact hD.2 _ (q, e) (ap_left h2)
    · obtain ⟨i, hi⟩ := List.getElem?_of_mem h1
      exact hD.2 _ (q, e) (ap_right hi)
  · exact hA q (Nat.le_trans hS.1 h)
theorem jT1 {A0 : Nat → Prop} {D : va_G} {cl : List vw_C} {L T wc R w1 : va_W} {H H1 : Heap} (hP : va_P D cl (L ++ T) H) (hD : va_D A0 (L ++ T)) (isC isR : List Nat) (hC : isC.map (fun i => L[i]?) = wc.map some) (hR : isR.map (fun i => L[i]?) = R.map some) (hn : va_nd isR = true) (hdis : ∀ i ∈ isR, i ∉ isC)
    (hk : ∀ q : Nat, q < H.size → ¬ va_A wc H.size q → H1[q]? = H[q]?) (hF : ∀ q, va_A wc H.size q → A0 q) (hP1 : va_P D cl w1 H1) (hD1 : va_D (va_A wc H.size) w1) : va_P D cl ((R ++ w1) ++ T) H1 ∧ va_D A0 ((R ++ w1) ++ T) := by
  obtain ⟨p1, d1⟩ := va_join (va_P_left hP) (va_D_left hD) isC isR hC hR hn hdis hk hF hP1 hD1
  have ap : ∀ (k : Nat) (q : Nat × va_E), T[k]? = some q → q.1 < H.size ∧ ¬ va_A wc H.size q.1 := by
    intro k q hq
    have hl := ((va_P_right hP) k q hq).lt
    refine ⟨hl, fun h => ?_⟩
    rcases h with ⟨k2, e, h⟩ | h
    · obtain ⟨i, -, h4⟩ := at_of hC h
      exact va_D_cross hD h4 hq rfl
    · omega
  refine ⟨p1.app (fun k q hq => ((va_P_right hP) k q hq).kept (hk q.1 (ap k q hq).1 (ap k q hq).2)), va_D.app d1 (va_D_right hD) ?_⟩
  intro i j p q hi hj e
  rcases List.mem_append.mp (List.mem_of_getElem? hi) with h1 | h1
  · obtain ⟨k, hk1⟩ := List.getElem?_of_mem h1
    obtain ⟨i2, -, h4⟩ := at_of hR hk1
    exact va_D_cross hD h4 hj e
  · obtain ⟨k, hk1⟩ := List.getElem?_of_mem h1
    exact (ap j q hj).2 (by rw [← e]; exact hD1.2 k p hk1)
theorem jT2 {A0 : Nat → Prop} {D : va_G} {cl : List vw_C} {L T T1 wc R w1 : va_W} {H H1 : Heap} (hP : va_P D cl (L ++ T) H) (hD : va_D A0 (L ++ T)) (isC isR : List Nat) (hC : isC.map (fun i => L[i]?) = wc.map some) (hR : isR.map (fun i => L[i]?) = R.map some) (hn : va_nd isR = true) (hdis : ∀ i ∈ isR, i ∉ isC)
    (hk : ∀ q : Nat, q < H.size → ¬ va_A (wc ++ T) H.size q → H1[q]? = H[q]?) (hF : ∀ q, va_A (wc ++ T) H.size q → A0 q) (hP1 : va_P D cl (w1 ++ T1) H1) (hD1 : va_D (va_A (wc ++ T) H.size) (w1 ++ T1)) : va_P D cl ((R ++ w1) ++ T1) H1 ∧ va_D A0 ((R ++ w1) ++ T1) := by
  have ap : ∀ (k : Nat) (q : Nat × va_E), R[k]? = some q → (∃ i : Nat, L[i]? = some q) ∧ q.1 < H.size ∧ ¬ va_A (wc ++ T) H.size q.1 := by
    intro k q hq
    obtain ⟨i, h1, h2⟩ := at_of hR hq
    have hl := ((va_P_left hP) i q h2).lt
    refine ⟨⟨i, h2⟩, hl, fun h => ?_⟩
    rcases h with ⟨k2, e, h⟩ | h
    · rcases List.mem_append.mp (List.mem_of_getElem? h) with h3 | h3
      · obtain ⟨k3, hk3⟩ := List.getElem?_of_mem h3
        obtain ⟨j, h4, h5⟩ := at_of hC hk3
        have hij := hD.1 i j q (q.1, e) (ap_left h2) (ap_left h5) rfl
        subst hij
        exact hdis i (List.mem_of_getElem? h1) (List.mem_of_getElem? h4)
      · obtain ⟨k3, hk3⟩ := List.getElem?_of_mem h3
        exact va_D_cross hD h2 hk3 rfl
    · omega
  rw [List.append_assoc]
  refine ⟨va_P.app (fun k q hq => ?_) hP1, va_D.app ((va_D_left hD).sub isR hn hR) (hD1.weaken (fun k q _ h => hF q.1 h)) (fun i j p q hi hj e => ?_)⟩
  · obtain ⟨⟨i, h2⟩, g1, g2⟩ := ap k q hq
    exact ((va_P_left hP) i q h2).kept (hk q.1 g1 g2)
  · exact (ap i p hi).2.2 (by rw [e]; exact hD1.2 j q hj)
/-! classes of arrays that are made -/
theorem newa_i {D : va_G} {cI cC cZ cR cA : ClassId} {s : State} (h : va_K D vwCl (tyL cI cC cZ cR ++ [(cA, .int)]) s) : cA = cI := Option.some.inj ((va_nm_int (h.2 4 _ rfl).2).symm.trans (va_nm_int (h.2 0 _ rfl).2))
theorem newa_c {D : va_G} {cI cC cZ cR cA : ClassId} {s : State} (h : va_K D vwCl (tyL cI cC cZ cR ++ [(cA, .char)]) s) : cA = cC := Option.some.inj ((va_nm_char (h.2 4 _ rfl).2).symm.trans (va_nm_char (h.2 1 _ rfl).2))
theorem newa_z {D : va_G} {cI cC cZ cR cA : ClassId} {s : State} (h : va_K D vwCl (tyL cI cC cZ cR ++ [(cA, .boolean)]) s) : cA = cZ := Option.some.inj ((va_nm_boolean (h.2 4 _ rfl).2).symm.trans (va_nm_boolean (h.2 2 _ rfl).2))
theorem newa_q {D : va_G} {cI cC cZ cR cA : ClassId} {s : State} (h : va_K D vwCl (tyL cI cC cZ cR ++ [(cA, .object "LeaningLines$Scene")]) s) : cA = cR := by
  obtain ⟨-, -, -, -, -, h1⟩ := (h.2 4 _ rfl).2
  obtain ⟨-, -, -, -, -, h2⟩ := (h.2 3 _ rfl).2
  exact Option.some.inj (h1.symm.trans h2)
/-! the statics: three rows of four numbers -/
def fF : Nat → Int32 := fun j => if j = 0 then 2 else if j = 1 then 4 else if j = 2 then 0 else 1
def fLe : Nat → Int32 := fun j => if j = 0 then 0 else if j = 1 then 1 else if j = 2 then 0 else 1
def fMo : Nat → Int32 := fun j => if j = 0 then 9 else if j = 1 then 20 else if j = 2 then 40 else 4
def stF (cI : ClassId) (t : Nat) (H : Heap) : Prop := ∃ cell : Cell, H[t]? = some cell ∧ cell.vm.isStatics = false ∧ cell.vm ≠ .unknown ∧ cell.cls = cI ∧ cell.slots = (arrV cI 4 (fun j => .int (fF j))).slots
def stt (cI : ClassId) (B : Nat → Prop) (U : State) (H : Heap) : Prop :=
  (∃ t : Nat, va_Z "LeaningLines" "FIRST_VALUES" "[I" (.ref t) B U H ∧ stF cI t H ∧ ¬ B t) ∧ (∃ t : Nat, va_Z "LeaningLines" "LEAST_VALUES" "[I" (.ref t) B U H ∧ va_T .int t 4 (fun j => .int (fLe j)) B U H) ∧ (∃ t : Nat, va_Z "LeaningLines" "MOST_VALUES" "[I" (.ref t) B U H ∧ va_T .int t 4 (fun j => .int (fMo j)) B U H)
theorem stF_kept {cI : ClassId} {t : Nat} {H H1 : Heap} {B : Nat → Prop} (h : stF cI t H) (hB : ¬ B t) (hq : ∀ q : Nat, q < H.size → ¬ B q → H1[q]? = H[q]?) : stF cI t H1 := by
  obtain ⟨cell, h1, h2⟩ := h
  exact ⟨cell, by rw [hq t (Array.getElem?_eq_some_iff.mp h1).1 hB]; exact h1, h2⟩
theorem stt_go {cI : ClassId} {B : Nat → Prop} {u U : State} {H H1 : Heap} (hvm : u.vm.Alike U.vm) (hq : ∀ q : Nat, q < H.size → ¬ B q → H1[q]? = H[q]?) (h : stt cI B u H) : stt cI B U H1 := by
  obtain ⟨⟨t1, a1, a2, a3⟩, ⟨t2, b1, b2⟩, ⟨t3, c1, c2⟩⟩ := h
  exact ⟨⟨t1, (a1.moved hvm).kept hq, stF_kept a2 a3 hq, a3⟩, ⟨t2, (b1.moved hvm).kept hq, (b2.moved hvm).kept hq⟩, ⟨t3, (c1.moved hvm).kept hq, (c2.moved hvm).kept hq⟩⟩
def cPcS (D : va_G) (cI cC cZ cR : ClassId) (b0 : Nat) (As : List Value) (sz : Nat) (ws : va_W) : Array Value → State → Prop := va_Pc As (fun U => U.heap.size = sz ∧ va_P D vwCl ws U.heap ∧ kk D cI cC cZ cR U ∧ va_D (fun q => b0 ≤ q) ws ∧ b0 ≤ sz ∧ stt cI (fun q => b0 ≤ q) U U.heap)
theorem cPcS_bl {D : va_G} {cI cC cZ cR : ClassId} {b0 : Nat} {As : List Value} {sz : Nat} {ws : va_W} : FrameBlind (cPcS D cI cC cZ cR b0 As sz ws) := fun a U g mk q => by
  obtain ⟨q0, q1, qP, qK, qD, qb, qs⟩ := q
  exact ⟨q0, q1, qP, ⟨va_K.moved (u := U) (U := U.calling g mk a) (Vm.Alike.refl U.vm) qK.1, nw_same (u := U) (U := U.calling g mk a) rfl qK.2⟩, qD, qb, stt_go (u := U) (U := U.calling g mk a) (Vm.Alike.refl U.vm) (fun _ _ _ => rfl) qs⟩
theorem cPcS_go {D : va_G} {cI cC cZ cR : ClassId} {b0 : Nat} {As : List Value} {ws : va_W} {H : Heap} {s : State} {A : Nat → Prop} {locs : List Loc} (hP : va_P D vwCl ws H) (hK : kk D cI cC cZ cR s) (hD : va_D A ws) (hAb : ∀ q, A q → b0 ≤ q) (hb : b0 ≤ s.heap.size) (hS : va_S A s.heap H locs) (hst : stt cI (fun q => b0 ≤ q) s s.heap) : ∀ U : State, U.heap = H → s.WarmedH U.vm → cPcS D cI cC cZ cR b0 As H.size ws As.toArray U :=
  fun U hU hW => ⟨rfl, by rw [hU], by rw [hU]; exact hP, kk_warm hW hK, hD.weaken (fun _ q _ h => hAb q.1 h), Nat.le_trans hb hS.1, by rw [hU]; exact stt_go hW.alike (fun q h1 h2 => hS.2.1 q h1 (fun z => h2 (hAb q z))) hst⟩
theorem cPcS_ps {D : va_G} {cI cC cZ cR : ClassId} {b0 : Nat} {As : List Value} {ws : va_W} {H : Heap} {s : State} {A : Nat → Prop} {locs : List Loc} (hP : va_P D vwCl ws H) (hK : kk D cI cC cZ cR s) (hD : va_D A ws) (hAb : ∀ q, A q → b0 ≤ q) (hb : b0 ≤ s.heap.size) (hS : va_S A s.heap H locs) (hst : stt cI (fun q => b0 ≤ q) s s.heap) : PreS s H (cPcS D cI cC cZ cR b0 As H.size ws) As := ⟨cPcS_bl, cPcS_go hP hK hD hAb hb hS hst⟩
theorem cPcS_pv {D : va_G} {cI cC cZ cR : ClassId} {b0 : Nat} {b : Addr} {As : List Value} {ws : va_W} {H : Heap} {s : State} {A : Nat → Prop} {locs : List Loc} (hP : va_P D vwCl ws H) (hK : kk D cI cC cZ cR s) (hD : va_D A ws) (hAb : ∀ q, A q → b0 ≤ q) (hb : b0 ≤ s.heap.size) (hS : va_S A s.heap H locs) (hst : stt cI (fun q => b0 ≤ q) s s.heap) {ci q0 : Nat} {C : String} {T : u_T} {N : Nat} {fs : List Value} (hc : vwCl[ci]? = some (C, T, N)) (he : ws[q0]? = some (b, .inr (ci, fs))) : PreV s H C b (cPcS D cI cC cZ cR b0 (.ref b :: As) H.size ws) As := ⟨cPcS_bl, va_recv hK.1 hP hc he, cPcS_go hP hK hD hAb hb hS hst⟩
theorem hAb_of {ws : va_W} {sz b0 : Nat} {A : Nat → Prop} (hAe : va_A ws sz = A) (hD : va_D (fun q => b0 ≤ q) ws) (hb : b0 ≤ sz) : ∀ q, A q → b0 ≤ q := fun q h => by
  rw [← hAe] at h
  rcases h with ⟨k, e, h⟩ | h
  · exact hD.2 k (q, e) h
  · exact Nat.le_trans hb h
abbrev cQn (D : va_G) (A : Nat → Prop) (wf : (Nat → Nat) → va_W) : Array Value → State → Outcome → State → Prop := va_Qv (fun (_ : Nat → Nat) => True) (fun u t => va_P D vwCl (wf u) t.heap ∧ va_D A (wf u)) A
abbrev cQm (D : va_G) (A : Nat → Prop) (v : Int32) (wf : (Nat → Nat) → va_W) : Array Value → State → Outcome → State → Prop := va_Qi (fun (x : Int32) (_ : Nat → Nat) => x = v) (fun u t => va_P D vwCl (wf u) t.heap ∧ va_D A (wf u)) A
section VCT
variable {p : Program} {l : Launch} {e : Env} {R : Room} {s : State} {m : MethodId} {args : Array Value} {below : List Frame} {meth : Method} {c : Code} {H : Heap} {locs : List Loc} {cells slots : Nat} {Q : State → Prop}
variable {cc : ByteArray} {pc : Nat} {ls : Array Slot} {rest : List Value} {D : va_G} {cl : List vw_C} {A : Nat → Prop} {a : Nat} {tys : List (ClassId × FieldType)} {ws : va_W} {H0 : Heap}
theorem va_cloneT (hexec : p.tables.exec = Jvm.exec) (hb : c.code = cc) (hml : c.maxLocals = ls.size) {own ad : String} {index : Nat} (hown : s.vm.findClass own = some m.cls)
    (hlink : (Cond.methodLink own index ⟨ad, "clone", "()Ljava/lang/Object;"⟩).before args s = true) (hsame : (Cond.sameMethod ad "java/lang/Object" "clone" "()Ljava/lang/Object;").before args s = true)
    (hnat : (Cond.native ⟨"java/lang/Object", "clone", "()Ljava/lang/Object;"⟩).before args s = true) (hinst : (Cond.instanceMethod ⟨"java/lang/Object", "clone", "()Ljava/lang/Object;"⟩).before args s = true)
    (hsel : (Cond.selects ad ⟨ad, "clone", "()Ljava/lang/Object;"⟩ ⟨"java/lang/Object", "clone", "()Ljava/lang/Object;"⟩).before args s = true) (hcl : va_Nw (.castable ad "java/lang/Cloneable") s)
    (hK : va_K D cl tys s) (hP : va_P D cl ws H) (hD : va_D A ws) (hS : va_S A H0 H locs) (hA : ∀ q, H0.size ≤ q → A q) (t0 : Nat) {cA : ClassId} {n : Nat} {f : Nat → Int32} {cell : Cell} (hcell : H[a]? = some cell) (g1 : cell.vm.isStatics = false) (g2 : cell.vm ≠ .unknown) (g3 : cell.cls = cA) (g4 : cell.slots = (arrV cA n (fun j => .int (f j))).slots) (ht : tys[t0]? = some (cA, .int))
    (hnm : s.vm.findClass ad = some cA)
    (hframes : 1 ≤ R.frames) (hlocals : (rest.map fun v => v.category).sum + 14 ≤ R.locals) (hcells : cells + 1 ≤ R.cells) (hslots : slots + n ≤ R.slots) (hdg : decode cc pc = .ok (.invokevirtual index, 3))
    (kk : ∀ (q : Nat) (H1 : Heap), va_P D cl (ws ++ [(q, .inl (cA, n, .inl f))]) H1 → va_D A (ws ++ [(q, .inl (cA, n, .inl f))]) → va_S A H0 H1 locs →
      W p l e R s m args below meth c H1 locs (cells + 1) (slots + n) Q (F0 m (pc + 3) ls (.ref q :: rest))) : W p l e R s m args below meth c H locs cells slots Q (F0 m pc ls (.ref a :: rest)) := by
  have hsz : cell.slots.size = n := by rw [g4]; exact arrV_size _ _ _
  have hcellE : ({ cls := cell.cls, slots := cell.slots } : Cell) = vp_cell cA (n, .inl f) := by rw [g3, g4]; rfl
  obtain ⟨c0, t0', f1, f2, f3⟩ := Cond.castable_spec (va_Nw.use (A := args) rfl hcl)
  cases hnm.symm.trans f1
  intro T hT X
  have hcellT : T.heap[a]? = some cell := by rw [hT]; exact hcell
  obtain ⟨-, kA, hkA, comp, hkind⟩ := State.isArrayOf_alike X.warmed.alike ((hK.2 t0 _ ht).1 0 (fun _ => .null))
  obtain ⟨-, kS, hkS, compS, hkindS⟩ := (hK.2 t0 _ ht).1 0 (fun _ => .null)
  obtain ⟨vm', X', st⟩ := X.cloneArray hexec hown hlink hsame hnat hinst hsel (a := a) (cell := cell) hcellT (fun k h => by rw [h] at g1; cases g1) g2 (by rw [g3]; exact hnm) f2 (by rw [g3]; exact f3)
    (fun i v hv => by
      rw [g4] at hv
      rw [g3]
      have hk' : T.vm.classes[cA]? = some kA := hkA
      simpa [State.fitsSlot, State.slotType?, hk', hkind] using va_fit (ty := .int) (fun i _ => rfl) i v hv)
    (g := F0 m pc ls (.ref a :: rest)) rfl (by rw [hml]) rfl (by rw [hb]; exact hdg) hframes (by show 2 * 0 + _ + 14 ≤ _; omega) hcells (by rw [hsz]; exact hslots) (hloader := by rw [g3]; exact Vm.clonesLoader_of_array hkS hkindS)
  rw [hcellE, hsz] at X'
  generalize hH1 : H.push (vp_cell cA (n, .inl f)) = H1
  have z1 : H1.size = H.size + 1 := by rw [← hH1, Array.size_push]
  have e1 : H1[H.size]? = some (vp_cell cA (n, .inl f)) := by rw [← hH1, Array.getElem?_push_size]
  have o1 : ∀ q : Nat, q < H.size → H1[q]? = H[q]? := fun q hq => by rw [← hH1, Array.getElem?_push, if_neg (Nat.ne_of_lt hq)]
  have hk : ∀ (k : Nat) (y : Nat × va_E), ws[k]? = some y → H1[y.1]? = H[y.1]? := fun k y hy => o1 y.1 ((hP k y hy).lt)
  obtain ⟨t, b1, b2⟩ := kk H.size H1 ((hP.kept hk).app (fun k y hy => by
      have hz : k < 1 := (List.getElem?_eq_some_iff.mp hy).1
      rw [show k = 0 by omega] at hy
      cases hy
      exact e1)) (hD.push hP rfl (hA _ hS.1)) ⟨Nat.le_trans hS.1 (by omega), fun y h1 h2 => (o1 y (Nat.lt_of_lt_of_le h1 hS.1)).trans (hS.2.1 y h1 h2), hS.2.2⟩
    ((T.setVm vm').pushCell (vp_cell cA (n, .inl f))) (by rw [← hH1, ← hT]; rfl) X'
  refine ⟨t, st t ?_, b2⟩
  rw [hcellE, hT]
  exact b1
end VCT
end
section
abbrev ws_model (cI cC cZ cR : ClassId) (mo mo1 mo2 mo3 mo4 mo5 : Nat) (kn : Int32) (le_ : Int32) (s_ : Nat → Int32) (past : Nat → Int32) (slo : Nat → Int32) (isv : Nat → Int32) (pad_ : Nat → Int32) : va_W := [(mo, .inr (8, [.ref mo1, .ref mo2, .int kn, .ref mo3, .ref mo4, .ref mo5, .int le_])), (mo1, .inl (cI, 465, .inl s_)), (mo2, .inl (cI, 2790, .inl past)), (mo3, .inl (cI, 930, .inl slo)), (mo4, .inl (cZ, 2, .inl isv)), (mo5, .inl (cI, 80, .inl pad_))]
-- LeaningLinesModel.in
abbrev OUT_X8_in : Type := Int32
def f_X8_in (a0 : Int32) (a1 : Int32) (a2 : Int32) : Option OUT_X8_in :=
  (if a0 < a1 then some (0) else (if a2 < a0 then some (0) else some (1)))
abbrev R_X8_in : Room := { frames := 0, cells := 0, slots := 0, locals := 0 }
set_option maxHeartbeats 4000000 in
set_option maxRecDepth 100000 in
theorem m_X8_in (l : Launch) (D : va_G) (cI cC cZ cR : ClassId)  (sz : Nat)   (a0 : Int32) (a1 : Int32) (a2 : Int32)   (r : OUT_X8_in) (hf : f_X8_in a0 a1 a2 = some r) : Met l yX8_in wsX8_in R_X8_in (cPc D cI cC cZ cR [.int a0, .int a1, .int a2] sz []) (cQi D [] (va_A [] sz) r) 0 0 (va_A [] sz) := by
  refine Met.ofW (cc := cX8_in) (maxL := 3) (ret := (some .boolean)) (by decide) rfl ?_
  intro p e s m args below meth c s₁ B hml hv
  obtain ⟨rfl, hsz, hP, hK, hD0⟩ := hv
  have hx := B.exec
  have hb := B.bytes
  have hr := B.returns
  have hts := atoms_spec (ws := wsX8_in) B.pre
  have hown : s.vm.findClass RX8 = some m.cls := findClass_of_methodNamed B.named
  have hlocks := B.notSynchronized
  subst hsz
  have hD := hD0.self (sz := s.heap.size)
  generalize hAe : va_A [] s.heap.size = A at hD ⊢
  skip
  have hA : ∀ q : Nat, s.heap.size ≤ q → A q := fun q h => by rw [← hAe]; exact Or.inr h
  have hS : va_S A s.heap s.heap [] := va_S.rf
  have hl := lv_entry ([.int a0, .int a1, .int a2]) (n := 3) (Nat.le_of_ble_eq_true rfl)
  rw [lg_entry_eq]
  generalize (lg_sl ([.int a0, .int a1, .int a2]) ++ List.replicate (3 - (lg_sl ([.int a0, .int a1, .int a2])).length) Slot.unset).toArray = ls at hl ⊢
  have hl : lv_has ls 3 [(0, .int a0), (1, .int a1), (2, .int a2)] := hl
  refine W_absQ (fun Q hQ => ?_)
  refine W.eq (g2 := F0 m 0 ls []) rfl ?_
  have h := hf
  unfold f_X8_in at h
  refine lv_iload_n hx hb dX8_in_0 rfl (lv_at hl 0 rfl) ?_
  refine lv_iload_n hx hb dX8_in_1 rfl (lv_at hl 1 rfl) ?_
  refine lv_icmp_lt (tgt := 14) hx hb dX8_in_2 (by decide) (fun c2 => ?_) (fun c2 => ?_)
  · replace h := br_p c2 h
    refine lv_iconst (v := 0) hx hb dX8_in_14 (by decide) ?_
    have e9 := Option.some.inj h
    subst e9
    rw [hQ]
    exact W.zret (v := 0) hx hb hr rfl (fun t ht hW => ⟨⟨0, (), rfl, rfl, by rw [ht]; exact hP, hD⟩, hS.F ht⟩) hS.2.2 dX8_in_15
  · replace h := br_n c2 h
    refine lv_iload_n hx hb dX8_in_5 rfl (lv_at hl 0 rfl) ?_
    refine lv_iload_n hx hb dX8_in_6 rfl (lv_at hl 2 rfl) ?_
    refine lv_icmp_gt (tgt := 14) hx hb dX8_in_7 (by decide) (fun c1 => ?_) (fun c1 => ?_)
    · replace h := br_p c1 h
      refine lv_iconst (v := 0) hx hb dX8_in_14 (by decide) ?_
      have e9 := Option.some.inj h
      subst e9
      rw [hQ]
      exact W.zret (v := 0) hx hb hr rfl (fun t ht hW => ⟨⟨0, (), rfl, rfl, by rw [ht]; exact hP, hD⟩, hS.F ht⟩) hS.2.2 dX8_in_15
    · replace h := br_n c1 h
      refine lv_iconst (v := 1) hx hb dX8_in_10 (by decide) ?_
      refine lv_goto (tgt := 15) hx hb dX8_in_11 (by decide) ?_
      have e9 := Option.some.inj h
      subst e9
      rw [hQ]
      exact W.zret (v := 1) hx hb hr rfl (fun t ht hW => ⟨⟨1, (), rfl, rfl, by rw [ht]; exact hP, hD⟩, hS.F ht⟩) hS.2.2 dX8_in_15
-- LeaningLinesModel.its
abbrev OUT_X8_its : Type := Int32
def f_X8_its (s_ : Nat → Int32) (a0 : Int32) (a1 : Int32) : Option OUT_X8_its :=
  gd ((9 + (9 * a0)) + a1) 465 (some (s_ ((9 + (9 * a0)) + a1 : Int32).toNatClampNeg))
theorem uX8_its_X8 : ∀ w ∈ wsX80, w ∈ wsX8_its := by decide +kernel
theorem kX8_its_1 : Cond.fieldLink RX8 7 "LeaningLinesModel" "s" "[I" ∈ wsX8_its := by decide +kernel
abbrev R_X8_its : Room := { frames := 0, cells := 0, slots := 0, locals := 0 }
set_option maxHeartbeats 4000000 in
set_option maxRecDepth 100000 in
theorem m_X8_its (l : Launch) (D : va_G) (cI cC cZ cR : ClassId) (mo mo1 mo2 mo3 mo4 mo5 : Nat) (sz : Nat) (kn : Int32) (le_ : Int32) (s_ : Nat → Int32) (past : Nat → Int32) (slo : Nat → Int32) (isv : Nat → Int32) (pad_ : Nat → Int32)  (a0 : Int32) (a1 : Int32)   (r : OUT_X8_its) (hf : f_X8_its s_ a0 a1 = some r) : Met l yX8_its wsX8_its R_X8_its (cPc D cI cC cZ cR [.ref mo, .int a0, .int a1] sz (ws_model cI cC cZ cR mo mo1 mo2 mo3 mo4 mo5 kn le_ s_ past slo isv pad_)) (cQi D (ws_model cI cC cZ cR mo mo1 mo2 mo3 mo4 mo5 kn le_ s_ past slo isv pad_) (va_A (ws_model cI cC cZ cR mo mo1 mo2 mo3 mo4 mo5 kn le_ s_ past slo isv pad_) sz) r) 0 0 (va_A (ws_model cI cC cZ cR mo mo1 mo2 mo3 mo4 mo5 kn le_ s_ past slo isv pad_) sz) := by
  refine Met.ofW (cc := cX8_its) (maxL := 3) (ret := (some .int)) (by decide) rfl ?_
  intro p e s m args below meth c s₁ B hml hv
  obtain ⟨rfl, hsz, hP, hK, hD0⟩ := hv
  have hx := B.exec
  have hb := B.bytes
  have hr := B.returns
  have hts := atoms_spec (ws := wsX8_its) B.pre
  have hown : s.vm.findClass RX8 = some m.cls := findClass_of_methodNamed B.named
  have hlocks := B.notSynchronized
  subst hsz
  have hD := hD0.self (sz := s.heap.size)
  generalize hAe : va_A (ws_model cI cC cZ cR mo mo1 mo2 mo3 mo4 mo5 kn le_ s_ past slo isv pad_) s.heap.size = A at hD ⊢
  skip
  have hA : ∀ q : Nat, s.heap.size ≤ q → A q := fun q h => by rw [← hAe]; exact Or.inr h
  have hS : va_S A s.heap s.heap [] := va_S.rf
  have hl := lv_entry ([.ref mo, .int a0, .int a1]) (n := 3) (Nat.le_of_ble_eq_true rfl)
  rw [lg_entry_eq]
  generalize (lg_sl ([.ref mo, .int a0, .int a1]) ++ List.replicate (3 - (lg_sl ([.ref mo, .int a0, .int a1])).length) Slot.unset).toArray = ls at hl ⊢
  have hl : lv_has ls 3 [(0, .ref mo), (1, .int a0), (2, .int a1)] := hl
  refine W_absQ (fun Q hQ => ?_)
  refine W.eq (g2 := F0 m 0 ls []) rfl ?_
  have h := hf
  unfold f_X8_its at h
  refine lv_aload_n hx hb dX8_its_0 rfl (lv_at hl 0 rfl) ?_
  refine va_get (D := D) (ci := 8) (v := .ref mo1) (C := RX8) (T := TX8) (N := 7) hx hb hts uX8_its_X8 hown hK.1 hP 0 rfl rfl 0 (by decide) (hts _ kX8_its_1) (fun _ h9 => h9) rfl dX8_its_1 ?_
  refine lv_bipush (v := 9) hx hb dX8_its_4 (by decide) ?_
  refine lv_bipush (v := 9) hx hb dX8_its_6 (by decide) ?_
  refine lv_iload_n hx hb dX8_its_8 rfl (lv_at hl 1 rfl) ?_
  refine lv_imul hx hb dX8_its_9 ?_
  refine lv_iadd hx hb dX8_its_10 ?_
  refine lv_iload_n hx hb dX8_its_11 rfl (lv_at hl 2 rfl) ?_
  refine lv_iadd hx hb dX8_its_12 ?_
  obtain ⟨hin, h⟩ := gd_sp h
  refine va_iald (D := D) hx hb hK.1 hP 1 0 rfl rfl hin dX8_its_13 ?_
  have e9 := Option.some.inj h
  subst e9
  rw [hQ]
  exact W.iret (v := s_ ((9 + (9 * a0)) + a1 : Int32).toNatClampNeg) hx hb hr (fun t ht hW => ⟨⟨s_ ((9 + (9 * a0)) + a1 : Int32).toNatClampNeg, (), rfl, rfl, by rw [ht]; exact hP, hD⟩, hS.F ht⟩) hS.2.2 dX8_its_14
-- LeaningLinesModel.tenth
abbrev OUT_X8_tenth : Type := Int32
def f_X8_tenth (a0 : Int32) : Option OUT_X8_tenth :=
  (if a0 < 0 then some (-((9 - a0) / 10)) else some (a0 / 10))
abbrev R_X8_tenth : Room := { frames := 0, cells := 0, slots := 0, locals := 0 }
set_option maxHeartbeats 4000000 in
set_option maxRecDepth 100000 in
theorem m_X8_tenth (l : Launch) (D : va_G) (cI cC cZ cR : ClassId)  (sz : Nat)   (a0 : Int32)   (r : OUT_X8_tenth) (hf : f_X8_tenth a0 = some r) : Met l yX8_tenth wsX8_tenth R_X8_tenth (cPc D cI cC cZ cR [.int a0] sz []) (cQi D [] (va_A [] sz) r) 0 0 (va_A [] sz) := by
  refine Met.ofW (cc := cX8_tenth) (maxL := 1) (ret := (some .int)) (by decide) rfl ?_
  intro p e s m args below meth c s₁ B hml hv
  obtain ⟨rfl, hsz, hP, hK, hD0⟩ := hv
  have hx := B.exec
  have hb := B.bytes
  have hr := B.returns
  have hts := atoms_spec (ws := wsX8_tenth) B.pre
  have hown : s.vm.findClass RX8 = some m.cls := findClass_of_methodNamed B.named
  have hlocks := B.notSynchronized
  subst hsz
  have hD := hD0.self (sz := s.heap.size)
  generalize hAe : va_A [] s.heap.size = A at hD ⊢
  skip
  have hA : ∀ q : Nat, s.heap.size ≤ q → A q := fun q h => by rw [← hAe]; exact Or.inr h
  have hS : va_S A s.heap s.heap [] := va_S.rf
  have hl := lv_entry ([.int a0]) (n := 1) (Nat.le_of_ble_eq_true rfl)
  rw [lg_entry_eq]
  generalize (lg_sl ([.int a0]) ++ List.replicate (1 - (lg_sl ([.int a0])).length) Slot.unset).toArray = ls at hl ⊢
  have hl : lv_has ls 1 [(0, .int a0)] := hl
  refine W_absQ (fun Q hQ => ?_)
  refine W.eq (g2 := F0 m 0 ls []) rfl ?_
  have h := hf
  unfold f_X8_tenth at h
  refine lv_iload_n hx hb dX8_tenth_0 rfl (lv_at hl 0 rfl) ?_
  refine lv_if_lt (tgt := 11) hx hb dX8_tenth_1 (by decide) (fun c1 => ?_) (fun c1 => ?_)
  · replace h := br_p c1 h
    refine lv_bipush (v := 9) hx hb dX8_tenth_11 (by decide) ?_
    refine lv_iload_n hx hb dX8_tenth_13 rfl (lv_at hl 0 rfl) ?_
    refine lv_isub hx hb dX8_tenth_14 ?_
    refine lv_bipush (v := 10) hx hb dX8_tenth_15 (by decide) ?_
    refine lv_idiv hx hb dX8_tenth_17 (by decide) ?_
    refine lv_ineg hx hb dX8_tenth_18 ?_
    have e9 := Option.some.inj h
    subst e9
    rw [hQ]
    exact W.iret (v := -((9 - a0) / 10)) hx hb hr (fun t ht hW => ⟨⟨-((9 - a0) / 10), (), rfl, rfl, by rw [ht]; exact hP, hD⟩, hS.F ht⟩) hS.2.2 dX8_tenth_19
  · replace h := br_n c1 h
    refine lv_iload_n hx hb dX8_tenth_4 rfl (lv_at hl 0 rfl) ?_
    refine lv_bipush (v := 10) hx hb dX8_tenth_5 (by decide) ?_
    refine lv_idiv hx hb dX8_tenth_7 (by decide) ?_
    refine lv_goto (tgt := 19) hx hb dX8_tenth_8 (by decide) ?_
    have e9 := Option.some.inj h
    subst e9
    rw [hQ]
    exact W.iret (v := a0 / 10) hx hb hr (fun t ht hW => ⟨⟨a0 / 10, (), rfl, rfl, by rw [ht]; exact hP, hD⟩, hS.F ht⟩) hS.2.2 dX8_tenth_19
-- LeaningLinesModel.left
abbrev OUT_X8_left : Type := Int32
def f_X8_left_L5 (s_ : Nat → Int32) (a1 : Int32) (k : Int32 → Int32 → Option OUT_X8_left) : Nat → Int32 → Int32 → Option OUT_X8_left
  | 0 => fun _ _ => none
  | n + 1 => fun v3 v4 => (if v4 < 0 then k v3 v4 else bn (f_X8_its s_ v4 1) (fun r5 => bn (f_X8_its s_ v4 5) (fun r6 => bn (f_X8_its s_ v4 6) (fun r7 => bn (f_X8_tenth (r6 * (a1 - r7))) (fun r8 => bd (v3 + (r5 + r8)) (fun x9 => bn (f_X8_its s_ v4 7) (fun r10 => jn (fun (j11 : Int32) => bd (x9 - j11) (fun x12 => bn (f_X8_its s_ v4 7) (fun r13 => f_X8_left_L5 s_ a1 k n x12 r13))) (fun j66 => (if r10 < 0 then j66 0 else bn (f_X8_its s_ v4 8) (fun r14 => j66 r14))))))))))
theorem f_X8_left_L5_s (s_ : Nat → Int32) (a1 : Int32) (k : Int32 → Int32 → Option OUT_X8_left) (n : Nat) (v3 : Int32) (v4 : Int32) : f_X8_left_L5 s_ a1 k (n + 1) v3 v4 = ((if v4 < 0 then k v3 v4 else bn (f_X8_its s_ v4 1) (fun r5 => bn (f_X8_its s_ v4 5) (fun r6 => bn (f_X8_its s_ v4 6) (fun r7 => bn (f_X8_tenth (r6 * (a1 - r7))) (fun r8 => bd (v3 + (r5 + r8)) (fun x9 => bn (f_X8_its s_ v4 7) (fun r10 => jn (fun (j11 : Int32) => bd (x9 - j11) (fun x12 => bn (f_X8_its s_ v4 7) (fun r13 => f_X8_left_L5 s_ a1 k n x12 r13))) (fun j66 => (if r10 < 0 then j66 0 else bn (f_X8_its s_ v4 8) (fun r14 => j66 r14))))))))))) := rfl
def f_X8_left (s_ : Nat → Int32) (a0 : Int32) (a1 : Int32) : Option OUT_X8_left :=
  f_X8_left_L5 s_ a1 (fun (w17 : Int32) (w18 : Int32) => some (w17)) 4000 0 a0
abbrev R_X8_left : Room := { frames := 1, cells := 0, slots := 0, locals := 22 }
set_option maxHeartbeats 4000000 in
set_option maxRecDepth 100000 in
theorem m_X8_left (l : Launch) (D : va_G) (cI cC cZ cR : ClassId) (mo mo1 mo2 mo3 mo4 mo5 : Nat) (sz : Nat) (kn : Int32) (le_ : Int32) (s_ : Nat → Int32) (past : Nat → Int32) (slo : Nat → Int32) (isv : Nat → Int32) (pad_ : Nat → Int32)  (a0 : Int32) (a1 : Int32)   (r : OUT_X8_left) (hf : f_X8_left s_ a0 a1 = some r) : Met l yX8_left wsX8_left R_X8_left (cPc D cI cC cZ cR [.ref mo, .int a0, .int a1] sz (ws_model cI cC cZ cR mo mo1 mo2 mo3 mo4 mo5 kn le_ s_ past slo isv pad_)) (cQi D (ws_model cI cC cZ cR mo mo1 mo2 mo3 mo4 mo5 kn le_ s_ past slo isv pad_) (va_A (ws_model cI cC cZ cR mo mo1 mo2 mo3 mo4 mo5 kn le_ s_ past slo isv pad_) sz) r) 0 0 (va_A (ws_model cI cC cZ cR mo mo1 mo2 mo3 mo4 mo5 kn le_ s_ past slo isv pad_) sz) := by
  refine Met.ofW (cc := cX8_left) (maxL := 5) (ret := (some .int)) (by decide) rfl ?_
  intro p e s m args below meth c s₁ B hml hv
  obtain ⟨rfl, hsz, hP, hK, hD0⟩ := hv
  have hx := B.exec
  have hb := B.bytes
  have hr := B.returns
  have hts := atoms_spec (ws := wsX8_left) B.pre
  have hown : s.vm.findClass RX8 = some m.cls := findClass_of_methodNamed B.named
  have hlocks := B.notSynchronized
  subst hsz
  have hD := hD0.self (sz := s.heap.size)
  generalize hAe : va_A (ws_model cI cC cZ cR mo mo1 mo2 mo3 mo4 mo5 kn le_ s_ past slo isv pad_) s.heap.size = A at hD ⊢
  skip
  have hA : ∀ q : Nat, s.heap.size ≤ q → A q := fun q h => by rw [← hAe]; exact Or.inr h
  have hS : va_S A s.heap s.heap [] := va_S.rf
  have hl := lv_entry ([.ref mo, .int a0, .int a1]) (n := 5) (Nat.le_of_ble_eq_true rfl)
  rw [lg_entry_eq]
  generalize (lg_sl ([.ref mo, .int a0, .int a1]) ++ List.replicate (5 - (lg_sl ([.ref mo, .int a0, .int a1])).length) Slot.unset).toArray = ls at hl ⊢
  have hl : lv_has ls 5 [(0, .ref mo), (1, .int a0), (2, .int a1)] := hl
  refine W_absQ (fun Q hQ => ?_)
  refine W.eq (g2 := F0 m 0 ls []) rfl ?_
  have h := hf
  unfold f_X8_left at h
  refine lv_iconst (v := 0) hx hb dX8_left_0 (by decide) ?_
  refine lv_istore_n (lv' := [(3, .int 0), (0, .ref mo), (1, .int a0), (2, .int a1)]) hx hb dX8_left_1 rfl hl (by decide) rfl (fun ls hl => ?_)
  refine lv_iload_n hx hb dX8_left_2 rfl (lv_at hl 2 rfl) ?_
  refine lv_istore (lv' := [(4, .int a0), (3, .int 0), (0, .ref mo), (1, .int a0), (2, .int a1)]) hx hb dX8_left_3 hl (by decide) rfl (fun ls hl => ?_)
  have L5 : ∀ (k : Int32 → Int32 → Option OUT_X8_left), (∀ (w17 : Int32) (w18 : Int32) (H : Heap) (locs : List Loc) (ls : Array Slot), k w17 w18 = some r → va_P D vwCl (ws_model cI cC cZ cR mo mo1 mo2 mo3 mo4 mo5 kn le_ s_ past slo isv pad_) H → va_D A (ws_model cI cC cZ cR mo mo1 mo2 mo3 mo4 mo5 kn le_ s_ past slo isv pad_) → va_S A s.heap H locs → lv_has ls 5 [(0, .ref mo), (1, .int a0), (2, .int a1), (3, .int w17), (4, .int w18)] → W p l e R_X8_left s m ([.ref mo, .int a0, .int a1] : List Value).toArray below meth c H locs 0 0 Q (F0 m 81 ls [])) → ∀ (n : Nat) (v3 : Int32) (v4 : Int32) (H : Heap) (locs : List Loc) (ls : Array Slot), f_X8_left_L5 s_ a1 k n v3 v4 = some r → va_P D vwCl (ws_model cI cC cZ cR mo mo1 mo2 mo3 mo4 mo5 kn le_ s_ past slo isv pad_) H → va_D A (ws_model cI cC cZ cR mo mo1 mo2 mo3 mo4 mo5 kn le_ s_ past slo isv pad_) → va_S A s.heap H locs → lv_has ls 5 [(0, .ref mo), (1, .int a0), (2, .int a1), (3, .int v3), (4, .int v4)] → W p l e R_X8_left s m ([.ref mo, .int a0, .int a1] : List Value).toArray below meth c H locs 0 0 Q (F0 m 5 ls []) := by
    intro k K n
    induction n with
    | zero => intro v3 v4 H locs ls h; exact no_sm h
    | succ n ih =>
      intro v3 v4 H locs ls h hP hD hS hl
      rw [f_X8_left_L5_s] at h
      refine lv_iload hx hb dX8_left_5 (lv_at hl 4 rfl) ?_
      refine lv_if_lt (tgt := 81) hx hb dX8_left_7 (by decide) (fun c16 => ?_) (fun c16 => ?_)
      · replace h := br_p c16 h
        exact K _ _ _ _ _ h hP hD hS (lv_sub hl [0, 1, 2, 3, 4] rfl)
      · replace h := br_n c16 h
        refine lv_iload_n hx hb dX8_left_10 rfl (lv_at hl 3 rfl) ?_
        refine lv_aload_n hx hb dX8_left_11 rfl (lv_at hl 0 rfl) ?_
        refine lv_iload hx hb dX8_left_12 (lv_at hl 4 rfl) ?_
        refine lv_iconst (v := 1) hx hb dX8_left_14 (by decide) ?_
        obtain ⟨r5, hcr5, h⟩ := bn_sp h
        have hPc := hP.sub (ws' := (ws_model cI cC cZ cR mo mo1 mo2 mo3 mo4 mo5 kn le_ s_ past slo isv pad_)) [0, 1, 2, 3, 4, 5] rfl
        have hDc := hD.sub (ws' := (ws_model cI cC cZ cR mo mo1 mo2 mo3 mo4 mo5 kn le_ s_ past slo isv pad_)) [0, 1, 2, 3, 4, 5] (by decide) rfl
        have hFc := va_free (wc := (ws_model cI cC cZ cR mo mo1 mo2 mo3 mo4 mo5 kn le_ s_ past slo isv pad_)) hD hS hA [0, 1, 2, 3, 4, 5] rfl
        refine va_calli (va_runV (As := [.int v4, .int 1]) (rest := [.int v3]) ⟨hx, hb, hml, hown, hts⟩ (m_X8_its l D cI cC cZ cR mo mo1 mo2 mo3 mo4 mo5 _ kn le_ s_ past slo isv pad_ v4 1   r5 hcr5) (cwV 2 hts gX8_left_X8_its rfl rfl rfl (by decide +kernel) ⟨Nat.le_of_ble_eq_true rfl, Nat.le_of_ble_eq_true rfl⟩) (cPc_pv hPc hK hDc (ci := 8) (q0 := 0) rfl rfl) rfl rfl hl.1 rfl (lv_room (Nat.le_of_ble_eq_true rfl)) dX8_left_15 ⟨Nat.le_of_ble_eq_true rfl, Nat.le_of_ble_eq_true rfl⟩) hS (fun q _ h => hFc q h) hFc (fun x9 u t H1 locs ht hvm hw hB hz1 hk1 hS => ?_)
        rw [hw]
        obtain ⟨hP1, hD1⟩ := hB
        rw [ht] at hP1
        obtain ⟨hP, hD⟩ := va_join (wr := []) (w1 := (ws_model cI cC cZ cR mo mo1 mo2 mo3 mo4 mo5 kn le_ s_ past slo isv pad_)) hP hD [0, 1, 2, 3, 4, 5] [] rfl rfl (by decide) (by decide) hk1 hFc hP1 hD1
        generalize H1 = H at hP hS ⊢
        have hP : va_P D vwCl (ws_model cI cC cZ cR mo mo1 mo2 mo3 mo4 mo5 kn le_ s_ past slo isv pad_) H := hP
        have hD : va_D A (ws_model cI cC cZ cR mo mo1 mo2 mo3 mo4 mo5 kn le_ s_ past slo isv pad_) := hD
        refine lv_aload_n hx hb dX8_left_18 rfl (lv_at hl 0 rfl) ?_
        refine lv_iload hx hb dX8_left_19 (lv_at hl 4 rfl) ?_
        refine lv_iconst (v := 5) hx hb dX8_left_21 (by decide) ?_
        obtain ⟨r6, hcr6, h⟩ := bn_sp h
        have hPc := hP.sub (ws' := (ws_model cI cC cZ cR mo mo1 mo2 mo3 mo4 mo5 kn le_ s_ past slo isv pad_)) [0, 1, 2, 3, 4, 5] rfl
        have hDc := hD.sub (ws' := (ws_model cI cC cZ cR mo mo1 mo2 mo3 mo4 mo5 kn le_ s_ past slo isv pad_)) [0, 1, 2, 3, 4, 5] (by decide) rfl
        have hFc := va_free (wc := (ws_model cI cC cZ cR mo mo1 mo2 mo3 mo4 mo5 kn le_ s_ past slo isv pad_)) hD hS hA [0, 1, 2, 3, 4, 5] rfl
        refine va_calli (va_runV (As := [.int v4, .int 5]) (rest := [.int r5, .int v3]) ⟨hx, hb, hml, hown, hts⟩ (m_X8_its l D cI cC cZ cR mo mo1 mo2 mo3 mo4 mo5 _ kn le_ s_ past slo isv pad_ v4 5   r6 hcr6) (cwV 2 hts gX8_left_X8_its rfl rfl rfl (by decide +kernel) ⟨Nat.le_of_ble_eq_true rfl, Nat.le_of_ble_eq_true rfl⟩) (cPc_pv hPc hK hDc (ci := 8) (q0 := 0) rfl rfl) rfl rfl hl.1 rfl (lv_room (Nat.le_of_ble_eq_true rfl)) dX8_left_22 ⟨Nat.le_of_ble_eq_true rfl, Nat.le_of_ble_eq_true rfl⟩) hS (fun q _ h => hFc q h) hFc (fun x9 u t H1 locs ht hvm hw hB hz1 hk1 hS => ?_)
        rw [hw]
        obtain ⟨hP1, hD1⟩ := hB
        rw [ht] at hP1
        obtain ⟨hP, hD⟩ := va_join (wr := []) (w1 := (ws_model cI cC cZ cR mo mo1 mo2 mo3 mo4 mo5 kn le_ s_ past slo isv pad_)) hP hD [0, 1, 2, 3, 4, 5] [] rfl rfl (by decide) (by decide) hk1 hFc hP1 hD1
        generalize H1 = H at hP hS ⊢
        have hP : va_P D vwCl (ws_model cI cC cZ cR mo mo1 mo2 mo3 mo4 mo5 kn le_ s_ past slo isv pad_) H := hP
        have hD : va_D A (ws_model cI cC cZ cR mo mo1 mo2 mo3 mo4 mo5 kn le_ s_ past slo isv pad_) := hD
        refine lv_iload_n hx hb dX8_left_25 rfl (lv_at hl 2 rfl) ?_
        refine lv_aload_n hx hb dX8_left_26 rfl (lv_at hl 0 rfl) ?_
        refine lv_iload hx hb dX8_left_27 (lv_at hl 4 rfl) ?_
        refine lv_bipush (v := 6) hx hb dX8_left_29 (by decide) ?_
        obtain ⟨r7, hcr7, h⟩ := bn_sp h
        have hPc := hP.sub (ws' := (ws_model cI cC cZ cR mo mo1 mo2 mo3 mo4 mo5 kn le_ s_ past slo isv pad_)) [0, 1, 2, 3, 4, 5] rfl
        have hDc := hD.sub (ws' := (ws_model cI cC cZ cR mo mo1 mo2 mo3 mo4 mo5 kn le_ s_ past slo isv pad_)) [0, 1, 2, 3, 4, 5] (by decide) rfl
        have hFc := va_free (wc := (ws_model cI cC cZ cR mo mo1 mo2 mo3 mo4 mo5 kn le_ s_ past slo isv pad_)) hD hS hA [0, 1, 2, 3, 4, 5] rfl
        refine va_calli (va_runV (As := [.int v4, .int 6]) (rest := [.int a1, .int r6, .int r5, .int v3]) ⟨hx, hb, hml, hown, hts⟩ (m_X8_its l D cI cC cZ cR mo mo1 mo2 mo3 mo4 mo5 _ kn le_ s_ past slo isv pad_ v4 6   r7 hcr7) (cwV 2 hts gX8_left_X8_its rfl rfl rfl (by decide +kernel) ⟨Nat.le_of_ble_eq_true rfl, Nat.le_of_ble_eq_true rfl⟩) (cPc_pv hPc hK hDc (ci := 8) (q0 := 0) rfl rfl) rfl rfl hl.1 rfl (lv_room (Nat.le_of_ble_eq_true rfl)) dX8_left_31 ⟨Nat.le_of_ble_eq_true rfl, Nat.le_of_ble_eq_true rfl⟩) hS (fun q _ h => hFc q h) hFc (fun x9 u t H1 locs ht hvm hw hB hz1 hk1 hS => ?_)
        rw [hw]
        obtain ⟨hP1, hD1⟩ := hB
        rw [ht] at hP1
        obtain ⟨hP, hD⟩ := va_join (wr := []) (w1 := (ws_model cI cC cZ cR mo mo1 mo2 mo3 mo4 mo5 kn le_ s_ past slo isv pad_)) hP hD [0, 1, 2, 3, 4, 5] [] rfl rfl (by decide) (by decide) hk1 hFc hP1 hD1
        generalize H1 = H at hP hS ⊢
        have hP : va_P D vwCl (ws_model cI cC cZ cR mo mo1 mo2 mo3 mo4 mo5 kn le_ s_ past slo isv pad_) H := hP
        have hD : va_D A (ws_model cI cC cZ cR mo mo1 mo2 mo3 mo4 mo5 kn le_ s_ past slo isv pad_) := hD
        refine lv_isub hx hb dX8_left_34 ?_
        refine lv_imul hx hb dX8_left_35 ?_
        obtain ⟨r8, hcr8, h⟩ := bn_sp h
        have hPc := hP.sub (ws' := []) [] rfl
        have hDc := hD.sub (ws' := []) [] (by decide) rfl
        have hFc := va_free (wc := []) hD hS hA [] rfl
        refine va_calli (va_runS (As := [.int (r6 * (a1 - r7))]) (rest := [.int r5, .int v3]) ⟨hx, hb, hml, hown, hts⟩ (m_X8_tenth l D cI cC cZ cR  _  (r6 * (a1 - r7))   r8 hcr8) (va_cwS 1 hts gX8_left_X8_tenth rfl rfl rfl (by decide +kernel) ⟨Nat.le_of_ble_eq_true rfl, Nat.le_of_ble_eq_true rfl⟩) (cPc_ps hPc hK hDc) rfl rfl hl.1 rfl (lv_room (Nat.le_of_ble_eq_true rfl)) dX8_left_36 ⟨Nat.le_of_ble_eq_true rfl, Nat.le_of_ble_eq_true rfl⟩) hS (fun q _ h => hFc q h) hFc (fun x9 u t H1 locs ht hvm hw hB hz1 hk1 hS => ?_)
        rw [hw]
        obtain ⟨hP1, hD1⟩ := hB
        rw [ht] at hP1
        obtain ⟨hP, hD⟩ := va_join (wr := [(mo, .inr (8, [.ref mo1, .ref mo2, .int kn, .ref mo3, .ref mo4, .ref mo5, .int le_])), (mo1, .inl (cI, 465, .inl s_)), (mo2, .inl (cI, 2790, .inl past)), (mo3, .inl (cI, 930, .inl slo)), (mo4, .inl (cZ, 2, .inl isv)), (mo5, .inl (cI, 80, .inl pad_))]) (w1 := []) hP hD [] [0, 1, 2, 3, 4, 5] rfl rfl (by decide) (by decide) hk1 hFc hP1 hD1
        generalize H1 = H at hP hS ⊢
        have hP : va_P D vwCl (ws_model cI cC cZ cR mo mo1 mo2 mo3 mo4 mo5 kn le_ s_ past slo isv pad_) H := hP
        have hD : va_D A (ws_model cI cC cZ cR mo mo1 mo2 mo3 mo4 mo5 kn le_ s_ past slo isv pad_) := hD
        refine lv_iadd hx hb dX8_left_39 ?_
        refine lv_iadd hx hb dX8_left_40 ?_
        refine lv_topi (fun x9 ex9 => ?_)
        replace h := bd_s2 h ex9
        refine lv_istore_n (lv' := [(3, .int x9), (0, .ref mo), (1, .int a0), (2, .int a1), (4, .int v4)]) hx hb dX8_left_41 rfl hl (by decide) rfl (fun ls hl => ?_)
        refine lv_iload_n hx hb dX8_left_42 rfl (lv_at hl 0 rfl) ?_
        refine lv_aload_n hx hb dX8_left_43 rfl (lv_at hl 1 rfl) ?_
        refine lv_iload hx hb dX8_left_44 (lv_at hl 4 rfl) ?_
        refine lv_bipush (v := 7) hx hb dX8_left_46 (by decide) ?_
        obtain ⟨r10, hcr10, h⟩ := bn_sp h
        have hPc := hP.sub (ws' := (ws_model cI cC cZ cR mo mo1 mo2 mo3 mo4 mo5 kn le_ s_ past slo isv pad_)) [0, 1, 2, 3, 4, 5] rfl
        have hDc := hD.sub (ws' := (ws_model cI cC cZ cR mo mo1 mo2 mo3 mo4 mo5 kn le_ s_ past slo isv pad_)) [0, 1, 2, 3, 4, 5] (by decide) rfl
        have hFc := va_free (wc := (ws_model cI cC cZ cR mo mo1 mo2 mo3 mo4 mo5 kn le_ s_ past slo isv pad_)) hD hS hA [0, 1, 2, 3, 4, 5] rfl
        refine va_calli (va_runV (As := [.int v4, .int 7]) (rest := [.int x9]) ⟨hx, hb, hml, hown, hts⟩ (m_X8_its l D cI cC cZ cR mo mo1 mo2 mo3 mo4 mo5 _ kn le_ s_ past slo isv pad_ v4 7   r10 hcr10) (cwV 2 hts gX8_left_X8_its rfl rfl rfl (by decide +kernel) ⟨Nat.le_of_ble_eq_true rfl, Nat.le_of_ble_eq_true rfl⟩) (cPc_pv hPc hK hDc (ci := 8) (q0 := 0) rfl rfl) rfl rfl hl.1 rfl (lv_room (Nat.le_of_ble_eq_true rfl)) dX8_left_48 ⟨Nat.le_of_ble_eq_true rfl, Nat.le_of_ble_eq_true rfl⟩) hS (fun q _ h => hFc q h) hFc (fun x9 u t H1 locs ht hvm hw hB hz1 hk1 hS => ?_)
        rw [hw]
        obtain ⟨hP1, hD1⟩ := hB
        rw [ht] at hP1
        obtain ⟨hP, hD⟩ := va_join (wr := []) (w1 := (ws_model cI cC cZ cR mo mo1 mo2 mo3 mo4 mo5 kn le_ s_ past slo isv pad_)) hP hD [0, 1, 2, 3, 4, 5] [] rfl rfl (by decide) (by decide) hk1 hFc hP1 hD1
        generalize H1 = H at hP hS ⊢
        have hP : va_P D vwCl (ws_model cI cC cZ cR mo mo1 mo2 mo3 mo4 mo5 kn le_ s_ past slo isv pad_) H := hP
        have hD : va_D A (ws_model cI cC cZ cR mo mo1 mo2 mo3 mo4 mo5 kn le_ s_ past slo isv pad_) := hD
        obtain ⟨j66, hj66, h⟩ := jn_sp h
        have J66 : ∀ (j11 : Int32) (H : Heap) (locs : List Loc) (ls : Array Slot), j66 j11 = some r → va_P D vwCl (ws_model cI cC cZ cR mo mo1 mo2 mo3 mo4 mo5 kn le_ s_ past slo isv pad_) H → va_D A (ws_model cI cC cZ cR mo mo1 mo2 mo3 mo4 mo5 kn le_ s_ past slo isv pad_) → va_S A s.heap H locs → lv_has ls 5 [(0, .ref mo), (1, .int a0), (2, .int a1), (3, .int x9), (4, .int v4)] → W p l e R_X8_left s m ([.ref mo, .int a0, .int a1] : List Value).toArray below meth c H locs 0 0 Q (F0 m 66 ls [.int j11, .int x9]) := by
          intro j11 H locs ls h hP hD hS hl
          rw [hj66] at h
          refine lv_isub hx hb dX8_left_66 ?_
          refine lv_topi (fun x12 ex12 => ?_)
          replace h := bd_s2 h ex12
          refine lv_istore_n (lv' := [(3, .int x12), (0, .ref mo), (1, .int a0), (2, .int a1), (4, .int v4)]) hx hb dX8_left_67 rfl hl (by decide) rfl (fun ls hl => ?_)
          refine lv_aload_n hx hb dX8_left_68 rfl (lv_at hl 1 rfl) ?_
          refine lv_iload hx hb dX8_left_69 (lv_at hl 4 rfl) ?_
          refine lv_bipush (v := 7) hx hb dX8_left_71 (by decide) ?_
          obtain ⟨r13, hcr13, h⟩ := bn_sp h
          have hPc := hP.sub (ws' := (ws_model cI cC cZ cR mo mo1 mo2 mo3 mo4 mo5 kn le_ s_ past slo isv pad_)) [0, 1, 2, 3, 4, 5] rfl
          have hDc := hD.sub (ws' := (ws_model cI cC cZ cR mo mo1 mo2 mo3 mo4 mo5 kn le_ s_ past slo isv pad_)) [0, 1, 2, 3, 4, 5] (by decide) rfl
          have hFc := va_free (wc := (ws_model cI cC cZ cR mo mo1 mo2 mo3 mo4 mo5 kn le_ s_ past slo isv pad_)) hD hS hA [0, 1, 2, 3, 4, 5] rfl
          refine va_calli (va_runV (As := [.int v4, .int 7]) (rest := []) ⟨hx, hb, hml, hown, hts⟩ (m_X8_its l D cI cC cZ cR mo mo1 mo2 mo3 mo4 mo5 _ kn le_ s_ past slo isv pad_ v4 7   r13 hcr13) (cwV 2 hts gX8_left_X8_its rfl rfl rfl (by decide +kernel) ⟨Nat.le_of_ble_eq_true rfl, Nat.le_of_ble_eq_true rfl⟩) (cPc_pv hPc hK hDc (ci := 8) (q0 := 0) rfl rfl) rfl rfl hl.1 rfl (lv_room (Nat.le_of_ble_eq_true rfl)) dX8_left_73 ⟨Nat.le_of_ble_eq_true rfl, Nat.le_of_ble_eq_true rfl⟩) hS (fun q _ h => hFc q h) hFc (fun x9 u t H1 locs ht hvm hw hB hz1 hk1 hS => ?_)
          rw [hw]
          obtain ⟨hP1, hD1⟩ := hB
          rw [ht] at hP1
          obtain ⟨hP, hD⟩ := va_join (wr := []) (w1 := (ws_model cI cC cZ cR mo mo1 mo2 mo3 mo4 mo5 kn le_ s_ past slo isv pad_)) hP hD [0, 1, 2, 3, 4, 5] [] rfl rfl (by decide) (by decide) hk1 hFc hP1 hD1
          generalize H1 = H at hP hS ⊢
          have hP : va_P D vwCl (ws_model cI cC cZ cR mo mo1 mo2 mo3 mo4 mo5 kn le_ s_ past slo isv pad_) H := hP
          have hD : va_D A (ws_model cI cC cZ cR mo mo1 mo2 mo3 mo4 mo5 kn le_ s_ past slo isv pad_) := hD
          refine lv_istore (lv' := [(4, .int r13), (3, .int x12), (0, .ref mo), (1, .int a0), (2, .int a1)]) hx hb dX8_left_76 hl (by decide) rfl (fun ls hl => ?_)
          refine lv_goto (tgt := 5) hx hb dX8_left_78 (by decide) ?_
          exact ih _ _ _ _ _ h hP hD hS (lv_sub hl [2, 3, 4, 1, 0] rfl)
        refine lv_if_lt (tgt := 65) hx hb dX8_left_51 (by decide) (fun c15 => ?_) (fun c15 => ?_)
        · replace h := br_p c15 h
          refine lv_iconst (v := 0) hx hb dX8_left_65 (by decide) ?_
          exact J66 _ _ _ _ h hP hD hS (lv_sub hl [1, 2, 3, 0, 4] rfl)
        · replace h := br_n c15 h
          refine lv_aload_n hx hb dX8_left_54 rfl (lv_at hl 1 rfl) ?_
          refine lv_iload hx hb dX8_left_55 (lv_at hl 4 rfl) ?_
          refine lv_bipush (v := 8) hx hb dX8_left_57 (by decide) ?_
          obtain ⟨r14, hcr14, h⟩ := bn_sp h
          have hPc := hP.sub (ws' := (ws_model cI cC cZ cR mo mo1 mo2 mo3 mo4 mo5 kn le_ s_ past slo isv pad_)) [0, 1, 2, 3, 4, 5] rfl
          have hDc := hD.sub (ws' := (ws_model cI cC cZ cR mo mo1 mo2 mo3 mo4 mo5 kn le_ s_ past slo isv pad_)) [0, 1, 2, 3, 4, 5] (by decide) rfl
          have hFc := va_free (wc := (ws_model cI cC cZ cR mo mo1 mo2 mo3 mo4 mo5 kn le_ s_ past slo isv pad_)) hD hS hA [0, 1, 2, 3, 4, 5] rfl
          refine va_calli (va_runV (As := [.int v4, .int 8]) (rest := [.int x9]) ⟨hx, hb, hml, hown, hts⟩ (m_X8_its l D cI cC cZ cR mo mo1 mo2 mo3 mo4 mo5 _ kn le_ s_ past slo isv pad_ v4 8   r14 hcr14) (cwV 2 hts gX8_left_X8_its rfl rfl rfl (by decide +kernel) ⟨Nat.le_of_ble_eq_true rfl, Nat.le_of_ble_eq_true rfl⟩) (cPc_pv hPc hK hDc (ci := 8) (q0 := 0) rfl rfl) rfl rfl hl.1 rfl (lv_room (Nat.le_of_ble_eq_true rfl)) dX8_left_59 ⟨Nat.le_of_ble_eq_true rfl, Nat.le_of_ble_eq_true rfl⟩) hS (fun q _ h => hFc q h) hFc (fun x9 u t H1 locs ht hvm hw hB hz1 hk1 hS => ?_)
          rw [hw]
          obtain ⟨hP1, hD1⟩ := hB
          rw [ht] at hP1
          obtain ⟨hP, hD⟩ := va_join (wr := []) (w1 := (ws_model cI cC cZ cR mo mo1 mo2 mo3 mo4 mo5 kn le_ s_ past slo isv pad_)) hP hD [0, 1, 2, 3, 4, 5] [] rfl rfl (by decide) (by decide) hk1 hFc hP1 hD1
          generalize H1 = H at hP hS ⊢
          have hP : va_P D vwCl (ws_model cI cC cZ cR mo mo1 mo2 mo3 mo4 mo5 kn le_ s_ past slo isv pad_) H := hP
          have hD : va_D A (ws_model cI cC cZ cR mo mo1 mo2 mo3 mo4 mo5 kn le_ s_ past slo isv pad_) := hD
          refine lv_goto (tgt := 66) hx hb dX8_left_62 (by decide) ?_
          exact J66 _ _ _ _ h hP hD hS (lv_sub hl [1, 2, 3, 0, 4] rfl)
  refine L5 _ (fun w17 w18 H locs ls h hP hD hS hl => ?_) 4000 0 a0 _ _ _ h hP hD hS (lv_sub hl [2, 3, 4, 1, 0] rfl)
  refine lv_iload_n hx hb dX8_left_81 rfl (lv_at hl 3 rfl) ?_
  have e9 := Option.some.inj h
  subst e9
  rw [hQ]
  exact W.iret (v := w17) hx hb hr (fun t ht hW => ⟨⟨w17, (), rfl, rfl, by rw [ht]; exact hP, hD⟩, hS.F ht⟩) hS.2.2 dX8_left_82
-- LeaningLinesModel.isThing
abbrev OUT_X8_isThing : Type := Int32
def f_X8_isThing (s_ : Nat → Int32) (a0 : Int32) : Option OUT_X8_isThing :=
  gd 5 465 (bn (f_X8_in a0 0 ((s_ (5 : Int32).toNatClampNeg) - 1)) (fun r1 => gb r1 (some (r1))))
theorem uX8_isThing_X8 : ∀ w ∈ wsX80, w ∈ wsX8_isThing := by decide +kernel
theorem kX8_isThing_1 : Cond.fieldLink RX8 7 "LeaningLinesModel" "s" "[I" ∈ wsX8_isThing := by decide +kernel
abbrev R_X8_isThing : Room := { frames := 1, cells := 0, slots := 0, locals := 22 }
set_option maxHeartbeats 4000000 in
set_option maxRecDepth 100000 in
theorem m_X8_isThing (l : Launch) (D : va_G) (cI cC cZ cR : ClassId) (mo mo1 mo2 mo3 mo4 mo5 : Nat) (sz : Nat) (kn : Int32) (le_ : Int32) (s_ : Nat → Int32) (past : Nat → Int32) (slo : Nat → Int32) (isv : Nat → Int32) (pad_ : Nat → Int32)  (a0 : Int32)   (r : OUT_X8_isThing) (hf : f_X8_isThing s_ a0 = some r) : Met l yX8_isThing wsX8_isThing R_X8_isThing (cPc D cI cC cZ cR [.ref mo, .int a0] sz (ws_model cI cC cZ cR mo mo1 mo2 mo3 mo4 mo5 kn le_ s_ past slo isv pad_)) (cQi D (ws_model cI cC cZ cR mo mo1 mo2 mo3 mo4 mo5 kn le_ s_ past slo isv pad_) (va_A (ws_model cI cC cZ cR mo mo1 mo2 mo3 mo4 mo5 kn le_ s_ past slo isv pad_) sz) r) 0 0 (va_A (ws_model cI cC cZ cR mo mo1 mo2 mo3 mo4 mo5 kn le_ s_ past slo isv pad_) sz) := by
  refine Met.ofW (cc := cX8_isThing) (maxL := 2) (ret := (some .boolean)) (by decide) rfl ?_
  intro p e s m args below meth c s₁ B hml hv
  obtain ⟨rfl, hsz, hP, hK, hD0⟩ := hv
  have hx := B.exec
  have hb := B.bytes
  have hr := B.returns
  have hts := atoms_spec (ws := wsX8_isThing) B.pre
  have hown : s.vm.findClass RX8 = some m.cls := findClass_of_methodNamed B.named
  have hlocks := B.notSynchronized
  subst hsz
  have hD := hD0.self (sz := s.heap.size)
  generalize hAe : va_A (ws_model cI cC cZ cR mo mo1 mo2 mo3 mo4 mo5 kn le_ s_ past slo isv pad_) s.heap.size = A at hD ⊢
  skip
  have hA : ∀ q : Nat, s.heap.size ≤ q → A q := fun q h => by rw [← hAe]; exact Or.inr h
  have hS : va_S A s.heap s.heap [] := va_S.rf
  have hl := lv_entry ([.ref mo, .int a0]) (n := 2) (Nat.le_of_ble_eq_true rfl)
  rw [lg_entry_eq]
  generalize (lg_sl ([.ref mo, .int a0]) ++ List.replicate (2 - (lg_sl ([.ref mo, .int a0])).length) Slot.unset).toArray = ls at hl ⊢
  have hl : lv_has ls 2 [(0, .ref mo), (1, .int a0)] := hl
  refine W_absQ (fun Q hQ => ?_)
  refine W.eq (g2 := F0 m 0 ls []) rfl ?_
  have h := hf
  unfold f_X8_isThing at h
  refine lv_iload_n hx hb dX8_isThing_0 rfl (lv_at hl 1 rfl) ?_
  refine lv_iconst (v := 0) hx hb dX8_isThing_1 (by decide) ?_
  refine lv_aload_n hx hb dX8_isThing_2 rfl (lv_at hl 0 rfl) ?_
  refine va_get (D := D) (ci := 8) (v := .ref mo1) (C := RX8) (T := TX8) (N := 7) hx hb hts uX8_isThing_X8 hown hK.1 hP 0 rfl rfl 0 (by decide) (hts _ kX8_isThing_1) (fun _ h9 => h9) rfl dX8_isThing_3 ?_
  refine lv_iconst (v := 5) hx hb dX8_isThing_6 (by decide) ?_
  obtain ⟨hin, h⟩ := gd_sp h
  refine va_iald (D := D) hx hb hK.1 hP 1 0 rfl rfl hin dX8_isThing_7 ?_
  refine lv_iconst (v := 1) hx hb dX8_isThing_8 (by decide) ?_
  refine lv_isub hx hb dX8_isThing_9 ?_
  obtain ⟨r1, hcr1, h⟩ := bn_sp h
  have hPc := hP.sub (ws' := []) [] rfl
  have hDc := hD.sub (ws' := []) [] (by decide) rfl
  have hFc := va_free (wc := []) hD hS hA [] rfl
  refine va_calli (va_runS (As := [.int a0, .int 0, .int ((s_ (5 : Int32).toNatClampNeg) - 1)]) (rest := []) ⟨hx, hb, hml, hown, hts⟩ (m_X8_in l D cI cC cZ cR  _  a0 0 ((s_ (5 : Int32).toNatClampNeg) - 1)   r1 hcr1) (va_cwS 3 hts gX8_isThing_X8_in rfl rfl rfl (by decide +kernel) ⟨Nat.le_of_ble_eq_true rfl, Nat.le_of_ble_eq_true rfl⟩) (cPc_ps hPc hK hDc) rfl rfl hl.1 rfl (lv_room (Nat.le_of_ble_eq_true rfl)) dX8_isThing_10 ⟨Nat.le_of_ble_eq_true rfl, Nat.le_of_ble_eq_true rfl⟩) hS (fun q _ h => hFc q h) hFc (fun x9 u t H1 locs ht hvm hw hB hz1 hk1 hS => ?_)
  rw [hw]
  obtain ⟨hP1, hD1⟩ := hB
  rw [ht] at hP1
  obtain ⟨hP, hD⟩ := va_join (wr := [(mo, .inr (8, [.ref mo1, .ref mo2, .int kn, .ref mo3, .ref mo4, .ref mo5, .int le_])), (mo1, .inl (cI, 465, .inl s_)), (mo2, .inl (cI, 2790, .inl past)), (mo3, .inl (cI, 930, .inl slo)), (mo4, .inl (cZ, 2, .inl isv)), (mo5, .inl (cI, 80, .inl pad_))]) (w1 := []) hP hD [] [0, 1, 2, 3, 4, 5] rfl rfl (by decide) (by decide) hk1 hFc hP1 hD1
  generalize H1 = H at hP hS ⊢
  have hP : va_P D vwCl (ws_model cI cC cZ cR mo mo1 mo2 mo3 mo4 mo5 kn le_ s_ past slo isv pad_) H := hP
  have hD : va_D A (ws_model cI cC cZ cR mo mo1 mo2 mo3 mo4 mo5 kn le_ s_ past slo isv pad_) := hD
  obtain ⟨hnr, h⟩ := gb_sp h
  have e9 := Option.some.inj h
  subst e9
  rw [hQ]
  exact W.zret (v := r1) hx hb hr (nar_b hnr) (fun t ht hW => ⟨⟨r1, (), rfl, rfl, by rw [ht]; exact hP, hD⟩, hS.F ht⟩) hS.2.2 dX8_isThing_13
-- LeaningLinesModel.lit
abbrev OUT_X8_lit : Type := Int32
def f_X8_lit_L4 (s_ : Nat → Int32) (a0 : Int32) (k : Int32 → Int32 → Option OUT_X8_lit) : Nat → Int32 → Int32 → Option OUT_X8_lit
  | 0 => fun _ _ => none
  | n + 1 => fun v3 v4 => (if 24 ≤ v4 then k v3 v4 else gd ((81 + (24 * a0)) + v4) 465 (jn (fun (j5 : Int32) => bd (v3 ||| j5) (fun x6 => bd (v4 + 1) (fun x7 => f_X8_lit_L4 s_ a0 k n x6 x7))) (fun j35 => (if (s_ ((81 + (24 * a0)) + v4 : Int32).toNatClampNeg) ≤ 0 then j35 0 else j35 (1 <<< (v4 &&& 31))))))
theorem f_X8_lit_L4_s (s_ : Nat → Int32) (a0 : Int32) (k : Int32 → Int32 → Option OUT_X8_lit) (n : Nat) (v3 : Int32) (v4 : Int32) : f_X8_lit_L4 s_ a0 k (n + 1) v3 v4 = ((if 24 ≤ v4 then k v3 v4 else gd ((81 + (24 * a0)) + v4) 465 (jn (fun (j5 : Int32) => bd (v3 ||| j5) (fun x6 => bd (v4 + 1) (fun x7 => f_X8_lit_L4 s_ a0 k n x6 x7))) (fun j35 => (if (s_ ((81 + (24 * a0)) + v4 : Int32).toNatClampNeg) ≤ 0 then j35 0 else j35 (1 <<< (v4 &&& 31))))))) := rfl
def f_X8_lit (s_ : Nat → Int32) (a0 : Int32) : Option OUT_X8_lit :=
  f_X8_lit_L4 s_ a0 (fun (w10 : Int32) (w11 : Int32) => some (w10)) 4000 0 0
theorem uX8_lit_X8 : ∀ w ∈ wsX80, w ∈ wsX8_lit := by decide +kernel
theorem kX8_lit_1 : Cond.fieldLink RX8 7 "LeaningLinesModel" "s" "[I" ∈ wsX8_lit := by decide +kernel
abbrev R_X8_lit : Room := { frames := 0, cells := 0, slots := 0, locals := 0 }
set_option maxHeartbeats 4000000 in
set_option maxRecDepth 100000 in
theorem m_X8_lit (l : Launch) (D : va_G) (cI cC cZ cR : ClassId) (mo mo1 mo2 mo3 mo4 mo5 : Nat) (sz : Nat) (kn : Int32) (le_ : Int32) (s_ : Nat → Int32) (past : Nat → Int32) (slo : Nat → Int32) (isv : Nat → Int32) (pad_ : Nat → Int32)  (a0 : Int32)   (r : OUT_X8_lit) (hf : f_X8_lit s_ a0 = some r) : Met l yX8_lit wsX8_lit R_X8_lit (cPc D cI cC cZ cR [.ref mo, .int a0] sz (ws_model cI cC cZ cR mo mo1 mo2 mo3 mo4 mo5 kn le_ s_ past slo isv pad_)) (cQi D (ws_model cI cC cZ cR mo mo1 mo2 mo3 mo4 mo5 kn le_ s_ past slo isv pad_) (va_A (ws_model cI cC cZ cR mo mo1 mo2 mo3 mo4 mo5 kn le_ s_ past slo isv pad_) sz) r) 0 0 (va_A (ws_model cI cC cZ cR mo mo1 mo2 mo3 mo4 mo5 kn le_ s_ past slo isv pad_) sz) := by
  refine Met.ofW (cc := cX8_lit) (maxL := 4) (ret := (some .int)) (by decide) rfl ?_
  intro p e s m args below meth c s₁ B hml hv
  obtain ⟨rfl, hsz, hP, hK, hD0⟩ := hv
  have hx := B.exec
  have hb := B.bytes
  have hr := B.returns
  have hts := atoms_spec (ws := wsX8_lit) B.pre
  have hown : s.vm.findClass RX8 = some m.cls := findClass_of_methodNamed B.named
  have hlocks := B.notSynchronized
  subst hsz
  have hD := hD0.self (sz := s.heap.size)
  generalize hAe : va_A (ws_model cI cC cZ cR mo mo1 mo2 mo3 mo4 mo5 kn le_ s_ past slo isv pad_) s.heap.size = A at hD ⊢
  skip
  have hA : ∀ q : Nat, s.heap.size ≤ q → A q := fun q h => by rw [← hAe]; exact Or.inr h
  have hS : va_S A s.heap s.heap [] := va_S.rf
  have hl := lv_entry ([.ref mo, .int a0]) (n := 4) (Nat.le_of_ble_eq_true rfl)
  rw [lg_entry_eq]
  generalize (lg_sl ([.ref mo, .int a0]) ++ List.replicate (4 - (lg_sl ([.ref mo, .int a0])).length) Slot.unset).toArray = ls at hl ⊢
  have hl : lv_has ls 4 [(0, .ref mo), (1, .int a0)] := hl
  refine W_absQ (fun Q hQ => ?_)
  refine W.eq (g2 := F0 m 0 ls []) rfl ?_
  have h := hf
  unfold f_X8_lit at h
  refine lv_iconst (v := 0) hx hb dX8_lit_0 (by decide) ?_
  refine lv_istore_n (lv' := [(2, .int 0), (0, .ref mo), (1, .int a0)]) hx hb dX8_lit_1 rfl hl (by decide) rfl (fun ls hl => ?_)
  refine lv_iconst (v := 0) hx hb dX8_lit_2 (by decide) ?_
  refine lv_istore_n (lv' := [(3, .int 0), (2, .int 0), (0, .ref mo), (1, .int a0)]) hx hb dX8_lit_3 rfl hl (by decide) rfl (fun ls hl => ?_)
  have L4 : ∀ (k : Int32 → Int32 → Option OUT_X8_lit), (∀ (w10 : Int32) (w11 : Int32) (H : Heap) (locs : List Loc) (ls : Array Slot), k w10 w11 = some r → va_P D vwCl (ws_model cI cC cZ cR mo mo1 mo2 mo3 mo4 mo5 kn le_ s_ past slo isv pad_) H → va_D A (ws_model cI cC cZ cR mo mo1 mo2 mo3 mo4 mo5 kn le_ s_ past slo isv pad_) → va_S A s.heap H locs → lv_has ls 4 [(0, .ref mo), (1, .int a0), (2, .int w10), (3, .int w11)] → W p l e R_X8_lit s m ([.ref mo, .int a0] : List Value).toArray below meth c H locs 0 0 Q (F0 m 43 ls [])) → ∀ (n : Nat) (v3 : Int32) (v4 : Int32) (H : Heap) (locs : List Loc) (ls : Array Slot), f_X8_lit_L4 s_ a0 k n v3 v4 = some r → va_P D vwCl (ws_model cI cC cZ cR mo mo1 mo2 mo3 mo4 mo5 kn le_ s_ past slo isv pad_) H → va_D A (ws_model cI cC cZ cR mo mo1 mo2 mo3 mo4 mo5 kn le_ s_ past slo isv pad_) → va_S A s.heap H locs → lv_has ls 4 [(0, .ref mo), (1, .int a0), (2, .int v3), (3, .int v4)] → W p l e R_X8_lit s m ([.ref mo, .int a0] : List Value).toArray below meth c H locs 0 0 Q (F0 m 4 ls []) := by
    intro k K n
    induction n with
    | zero => intro v3 v4 H locs ls h; exact no_sm h
    | succ n ih =>
      intro v3 v4 H locs ls h hP hD hS hl
      rw [f_X8_lit_L4_s] at h
      refine lv_iload_n hx hb dX8_lit_4 rfl (lv_at hl 3 rfl) ?_
      refine lv_bipush (v := 24) hx hb dX8_lit_5 (by decide) ?_
      refine lv_icmp_ge (tgt := 43) hx hb dX8_lit_7 (by decide) (fun c9 => ?_) (fun c9 => ?_)
      · replace h := br_p c9 h
        exact K _ _ _ _ _ h hP hD hS (lv_sub hl [0, 1, 2, 3] rfl)
      · replace h := br_n c9 h
        refine lv_iload_n hx hb dX8_lit_10 rfl (lv_at hl 2 rfl) ?_
        refine lv_aload_n hx hb dX8_lit_11 rfl (lv_at hl 0 rfl) ?_
        refine va_get (D := D) (ci := 8) (v := .ref mo1) (C := RX8) (T := TX8) (N := 7) hx hb hts uX8_lit_X8 hown hK.1 hP 0 rfl rfl 0 (by decide) (hts _ kX8_lit_1) (fun _ h9 => h9) rfl dX8_lit_12 ?_
        refine lv_bipush (v := 81) hx hb dX8_lit_15 (by decide) ?_
        refine lv_bipush (v := 24) hx hb dX8_lit_17 (by decide) ?_
        refine lv_iload_n hx hb dX8_lit_19 rfl (lv_at hl 1 rfl) ?_
        refine lv_imul hx hb dX8_lit_20 ?_
        refine lv_iadd hx hb dX8_lit_21 ?_
        refine lv_iload_n hx hb dX8_lit_22 rfl (lv_at hl 3 rfl) ?_
        refine lv_iadd hx hb dX8_lit_23 ?_
        obtain ⟨hin, h⟩ := gd_sp h
        refine va_iald (D := D) hx hb hK.1 hP 1 0 rfl rfl hin dX8_lit_24 ?_
        obtain ⟨j35, hj35, h⟩ := jn_sp h
        have J35 : ∀ (j5 : Int32) (H : Heap) (locs : List Loc) (ls : Array Slot), j35 j5 = some r → va_P D vwCl (ws_model cI cC cZ cR mo mo1 mo2 mo3 mo4 mo5 kn le_ s_ past slo isv pad_) H → va_D A (ws_model cI cC cZ cR mo mo1 mo2 mo3 mo4 mo5 kn le_ s_ past slo isv pad_) → va_S A s.heap H locs → lv_has ls 4 [(0, .ref mo), (1, .int a0), (2, .int v3), (3, .int v4)] → W p l e R_X8_lit s m ([.ref mo, .int a0] : List Value).toArray below meth c H locs 0 0 Q (F0 m 35 ls [.int j5, .int v3]) := by
          intro j5 H locs ls h hP hD hS hl
          rw [hj35] at h
          refine lv_ior hx hb dX8_lit_35 ?_
          refine lv_topi (fun x6 ex6 => ?_)
          replace h := bd_s2 h ex6
          refine lv_istore_n (lv' := [(2, .int x6), (0, .ref mo), (1, .int a0), (3, .int v4)]) hx hb dX8_lit_36 rfl hl (by decide) rfl (fun ls hl => ?_)
          obtain ⟨x7, ex7, h⟩ := bd_sp h
          refine lv_iinc (v := x7) (lv' := [(3, .int x7), (2, .int x6), (0, .ref mo), (1, .int a0)]) hx hb dX8_lit_37 hl (k := 3) rfl (by rw [ex7]; rfl) (by decide) rfl (fun ls hl => ?_)
          refine lv_goto (tgt := 4) hx hb dX8_lit_40 (by decide) ?_
          exact ih _ _ _ _ _ h hP hD hS (lv_sub hl [2, 3, 1, 0] rfl)
        refine lv_if_le (tgt := 34) hx hb dX8_lit_25 (by decide) (fun c8 => ?_) (fun c8 => ?_)
        · replace h := br_p c8 h
          refine lv_iconst (v := 0) hx hb dX8_lit_34 (by decide) ?_
          exact J35 _ _ _ _ h hP hD hS (lv_sub hl [0, 1, 2, 3] rfl)
        · replace h := br_n c8 h
          refine lv_iconst (v := 1) hx hb dX8_lit_28 (by decide) ?_
          refine lv_iload_n hx hb dX8_lit_29 rfl (lv_at hl 3 rfl) ?_
          refine lv_ishl hx hb dX8_lit_30 ?_
          refine lv_goto (tgt := 35) hx hb dX8_lit_31 (by decide) ?_
          exact J35 _ _ _ _ h hP hD hS (lv_sub hl [0, 1, 2, 3] rfl)
  refine L4 _ (fun w10 w11 H locs ls h hP hD hS hl => ?_) 4000 0 0 _ _ _ h hP hD hS (lv_sub hl [2, 3, 1, 0] rfl)
  refine lv_iload_n hx hb dX8_lit_43 rfl (lv_at hl 2 rfl) ?_
  have e9 := Option.some.inj h
  subst e9
  rw [hQ]
  exact W.iret (v := w10) hx hb hr (fun t ht hW => ⟨⟨w10, (), rfl, rfl, by rw [ht]; exact hP, hD⟩, hS.F ht⟩) hS.2.2 dX8_lit_44
-- LeaningLinesModel.sumOf
abbrev OUT_X8_sumOf : Type := Int32
def f_X8_sumOf_L4 (s_ : Nat → Int32) (a0 : Int32) (k : Int32 → Int32 → Option OUT_X8_sumOf) : Nat → Int32 → Int32 → Option OUT_X8_sumOf
  | 0 => fun _ _ => none
  | n + 1 => fun v3 v4 => (if 24 ≤ v4 then k v3 v4 else gd ((81 + (24 * a0)) + v4) 465 (bd (v3 + (s_ ((81 + (24 * a0)) + v4 : Int32).toNatClampNeg)) (fun x5 => bd (v4 + 1) (fun x6 => f_X8_sumOf_L4 s_ a0 k n x5 x6))))
theorem f_X8_sumOf_L4_s (s_ : Nat → Int32) (a0 : Int32) (k : Int32 → Int32 → Option OUT_X8_sumOf) (n : Nat) (v3 : Int32) (v4 : Int32) : f_X8_sumOf_L4 s_ a0 k (n + 1) v3 v4 = ((if 24 ≤ v4 then k v3 v4 else gd ((81 + (24 * a0)) + v4) 465 (bd (v3 + (s_ ((81 + (24 * a0)) + v4 : Int32).toNatClampNeg)) (fun x5 => bd (v4 + 1) (fun x6 => f_X8_sumOf_L4 s_ a0 k n x5 x6))))) := rfl
def f_X8_sumOf (s_ : Nat → Int32) (a0 : Int32) : Option OUT_X8_sumOf :=
  f_X8_sumOf_L4 s_ a0 (fun (w8 : Int32) (w9 : Int32) => some (w8)) 4000 0 0
theorem uX8_sumOf_X8 : ∀ w ∈ wsX80, w ∈ wsX8_sumOf := by decide +kernel
theorem kX8_sumOf_1 : Cond.fieldLink RX8 7 "LeaningLinesModel" "s" "[I" ∈ wsX8_sumOf := by decide +kernel
abbrev R_X8_sumOf : Room := { frames := 0, cells := 0, slots := 0, locals := 0 }
set_option maxHeartbeats 4000000 in
set_option maxRecDepth 100000 in
theorem m_X8_sumOf (l : Launch) (D : va_G) (cI cC cZ cR : ClassId) (mo mo1 mo2 mo3 mo4 mo5 : Nat) (sz : Nat) (kn : Int32) (le_ : Int32) (s_ : Nat → Int32) (past : Nat → Int32) (slo : Nat → Int32) (isv : Nat → Int32) (pad_ : Nat → Int32)  (a0 : Int32)   (r : OUT_X8_sumOf) (hf : f_X8_sumOf s_ a0 = some r) : Met l yX8_sumOf wsX8_sumOf R_X8_sumOf (cPc D cI cC cZ cR [.ref mo, .int a0] sz (ws_model cI cC cZ cR mo mo1 mo2 mo3 mo4 mo5 kn le_ s_ past slo isv pad_)) (cQi D (ws_model cI cC cZ cR mo mo1 mo2 mo3 mo4 mo5 kn le_ s_ past slo isv pad_) (va_A (ws_model cI cC cZ cR mo mo1 mo2 mo3 mo4 mo5 kn le_ s_ past slo isv pad_) sz) r) 0 0 (va_A (ws_model cI cC cZ cR mo mo1 mo2 mo3 mo4 mo5 kn le_ s_ past slo isv pad_) sz) := by
  refine Met.ofW (cc := cX8_sumOf) (maxL := 4) (ret := (some .int)) (by decide) rfl ?_
  intro p e s m args below meth c s₁ B hml hv
  obtain ⟨rfl, hsz, hP, hK, hD0⟩ := hv
  have hx := B.exec
  have hb := B.bytes
  have hr := B.returns
  have hts := atoms_spec (ws := wsX8_sumOf) B.pre
  have hown : s.vm.findClass RX8 = some m.cls := findClass_of_methodNamed B.named
  have hlocks := B.notSynchronized
  subst hsz
  have hD := hD0.self (sz := s.heap.size)
  generalize hAe : va_A (ws_model cI cC cZ cR mo mo1 mo2 mo3 mo4 mo5 kn le_ s_ past slo isv pad_) s.heap.size = A at hD ⊢
  skip
  have hA : ∀ q : Nat, s.heap.size ≤ q → A q := fun q h => by rw [← hAe]; exact Or.inr h
  have hS : va_S A s.heap s.heap [] := va_S.rf
  have hl := lv_entry ([.ref mo, .int a0]) (n := 4) (Nat.le_of_ble_eq_true rfl)
  rw [lg_entry_eq]
  generalize (lg_sl ([.ref mo, .int a0]) ++ List.replicate (4 - (lg_sl ([.ref mo, .int a0])).length) Slot.unset).toArray = ls at hl ⊢
  have hl : lv_has ls 4 [(0, .ref mo), (1, .int a0)] := hl
  refine W_absQ (fun Q hQ => ?_)
  refine W.eq (g2 := F0 m 0 ls []) rfl ?_
  have h := hf
  unfold f_X8_sumOf at h
  refine lv_iconst (v := 0) hx hb dX8_sumOf_0 (by decide) ?_
  refine lv_istore_n (lv' := [(2, .int 0), (0, .ref mo), (1, .int a0)]) hx hb dX8_sumOf_1 rfl hl (by decide) rfl (fun ls hl => ?_)
  refine lv_iconst (v := 0) hx hb dX8_sumOf_2 (by decide) ?_
  refine lv_istore_n (lv' := [(3, .int 0), (2, .int 0), (0, .ref mo), (1, .int a0)]) hx hb dX8_sumOf_3 rfl hl (by decide) rfl (fun ls hl => ?_)
  have L4 : ∀ (k : Int32 → Int32 → Option OUT_X8_sumOf), (∀ (w8 : Int32) (w9 : Int32) (H : Heap) (locs : List Loc) (ls : Array Slot), k w8 w9 = some r → va_P D vwCl (ws_model cI cC cZ cR mo mo1 mo2 mo3 mo4 mo5 kn le_ s_ past slo isv pad_) H → va_D A (ws_model cI cC cZ cR mo mo1 mo2 mo3 mo4 mo5 kn le_ s_ past slo isv pad_) → va_S A s.heap H locs → lv_has ls 4 [(0, .ref mo), (1, .int a0), (2, .int w8), (3, .int w9)] → W p l e R_X8_sumOf s m ([.ref mo, .int a0] : List Value).toArray below meth c H locs 0 0 Q (F0 m 33 ls [])) → ∀ (n : Nat) (v3 : Int32) (v4 : Int32) (H : Heap) (locs : List Loc) (ls : Array Slot), f_X8_sumOf_L4 s_ a0 k n v3 v4 = some r → va_P D vwCl (ws_model cI cC cZ cR mo mo1 mo2 mo3 mo4 mo5 kn le_ s_ past slo isv pad_) H → va_D A (ws_model cI cC cZ cR mo mo1 mo2 mo3 mo4 mo5 kn le_ s_ past slo isv pad_) → va_S A s.heap H locs → lv_has ls 4 [(0, .ref mo), (1, .int a0), (2, .int v3), (3, .int v4)] → W p l e R_X8_sumOf s m ([.ref mo, .int a0] : List Value).toArray below meth c H locs 0 0 Q (F0 m 4 ls []) := by
    intro k K n
    induction n with
    | zero => intro v3 v4 H locs ls h; exact no_sm h
    | succ n ih =>
      intro v3 v4 H locs ls h hP hD hS hl
      rw [f_X8_sumOf_L4_s] at h
      refine lv_iload_n hx hb dX8_sumOf_4 rfl (lv_at hl 3 rfl) ?_
      refine lv_bipush (v := 24) hx hb dX8_sumOf_5 (by decide) ?_
      refine lv_icmp_ge (tgt := 33) hx hb dX8_sumOf_7 (by decide) (fun c7 => ?_) (fun c7 => ?_)
      · replace h := br_p c7 h
        exact K _ _ _ _ _ h hP hD hS (lv_sub hl [0, 1, 2, 3] rfl)
      · replace h := br_n c7 h
        refine lv_iload_n hx hb dX8_sumOf_10 rfl (lv_at hl 2 rfl) ?_
        refine lv_aload_n hx hb dX8_sumOf_11 rfl (lv_at hl 0 rfl) ?_
        refine va_get (D := D) (ci := 8) (v := .ref mo1) (C := RX8) (T := TX8) (N := 7) hx hb hts uX8_sumOf_X8 hown hK.1 hP 0 rfl rfl 0 (by decide) (hts _ kX8_sumOf_1) (fun _ h9 => h9) rfl dX8_sumOf_12 ?_
        refine lv_bipush (v := 81) hx hb dX8_sumOf_15 (by decide) ?_
        refine lv_bipush (v := 24) hx hb dX8_sumOf_17 (by decide) ?_
        refine lv_iload_n hx hb dX8_sumOf_19 rfl (lv_at hl 1 rfl) ?_
        refine lv_imul hx hb dX8_sumOf_20 ?_
        refine lv_iadd hx hb dX8_sumOf_21 ?_
        refine lv_iload_n hx hb dX8_sumOf_22 rfl (lv_at hl 3 rfl) ?_
        refine lv_iadd hx hb dX8_sumOf_23 ?_
        obtain ⟨hin, h⟩ := gd_sp h
        refine va_iald (D := D) hx hb hK.1 hP 1 0 rfl rfl hin dX8_sumOf_24 ?_
        refine lv_iadd hx hb dX8_sumOf_25 ?_
        refine lv_topi (fun x5 ex5 => ?_)
        replace h := bd_s2 h ex5
        refine lv_istore_n (lv' := [(2, .int x5), (0, .ref mo), (1, .int a0), (3, .int v4)]) hx hb dX8_sumOf_26 rfl hl (by decide) rfl (fun ls hl => ?_)
        obtain ⟨x6, ex6, h⟩ := bd_sp h
        refine lv_iinc (v := x6) (lv' := [(3, .int x6), (2, .int x5), (0, .ref mo), (1, .int a0)]) hx hb dX8_sumOf_27 hl (k := 3) rfl (by rw [ex6]; rfl) (by decide) rfl (fun ls hl => ?_)
        refine lv_goto (tgt := 4) hx hb dX8_sumOf_30 (by decide) ?_
        exact ih _ _ _ _ _ h hP hD hS (lv_sub hl [2, 3, 1, 0] rfl)
  refine L4 _ (fun w8 w9 H locs ls h hP hD hS hl => ?_) 4000 0 0 _ _ _ h hP hD hS (lv_sub hl [2, 3, 1, 0] rfl)
  refine lv_iload_n hx hb dX8_sumOf_33 rfl (lv_at hl 2 rfl) ?_
  have e9 := Option.some.inj h
  subst e9
  rw [hQ]
  exact W.iret (v := w8) hx hb hr (fun t ht hW => ⟨⟨w8, (), rfl, rfl, by rw [ht]; exact hP, hD⟩, hS.F ht⟩) hS.2.2 dX8_sumOf_34
-- LeaningLinesModel.leftmost
abbrev OUT_X8_leftmost : Type := Int32
def f_X8_leftmost_L2 (s_ : Nat → Int32) (a0 : Int32) (k : Int32 → Option OUT_X8_leftmost) : Nat → Int32 → Option OUT_X8_leftmost
  | 0 => fun _ => none
  | n + 1 => fun v2 => (if 24 ≤ v2 then k v2 else gd ((81 + (24 * a0)) + v2) 465 ((if (s_ ((81 + (24 * a0)) + v2 : Int32).toNatClampNeg) ≤ 0 then bd (v2 + 1) (fun x3 => f_X8_leftmost_L2 s_ a0 k n x3) else some (v2))))
theorem f_X8_leftmost_L2_s (s_ : Nat → Int32) (a0 : Int32) (k : Int32 → Option OUT_X8_leftmost) (n : Nat) (v2 : Int32) : f_X8_leftmost_L2 s_ a0 k (n + 1) v2 = ((if 24 ≤ v2 then k v2 else gd ((81 + (24 * a0)) + v2) 465 ((if (s_ ((81 + (24 * a0)) + v2 : Int32).toNatClampNeg) ≤ 0 then bd (v2 + 1) (fun x3 => f_X8_leftmost_L2 s_ a0 k n x3) else some (v2))))) := rfl
def f_X8_leftmost (s_ : Nat → Int32) (a0 : Int32) : Option OUT_X8_leftmost :=
  f_X8_leftmost_L2 s_ a0 (fun (w6 : Int32) => some ((-6))) 4000 0
theorem uX8_leftmost_X8 : ∀ w ∈ wsX80, w ∈ wsX8_leftmost := by decide +kernel
theorem kX8_leftmost_1 : Cond.fieldLink RX8 7 "LeaningLinesModel" "s" "[I" ∈ wsX8_leftmost := by decide +kernel
abbrev R_X8_leftmost : Room := { frames := 0, cells := 0, slots := 0, locals := 0 }
set_option maxHeartbeats 4000000 in
set_option maxRecDepth 100000 in
theorem m_X8_leftmost (l : Launch) (D : va_G) (cI cC cZ cR : ClassId) (mo mo1 mo2 mo3 mo4 mo5 : Nat) (sz : Nat) (kn : Int32) (le_ : Int32) (s_ : Nat → Int32) (past : Nat → Int32) (slo : Nat → Int32) (isv : Nat → Int32) (pad_ : Nat → Int32)  (a0 : Int32)   (r : OUT_X8_leftmost) (hf : f_X8_leftmost s_ a0 = some r) : Met l yX8_leftmost wsX8_leftmost R_X8_leftmost (cPc D cI cC cZ cR [.ref mo, .int a0] sz (ws_model cI cC cZ cR mo mo1 mo2 mo3 mo4 mo5 kn le_ s_ past slo isv pad_)) (cQi D (ws_model cI cC cZ cR mo mo1 mo2 mo3 mo4 mo5 kn le_ s_ past slo isv pad_) (va_A (ws_model cI cC cZ cR mo mo1 mo2 mo3 mo4 mo5 kn le_ s_ past slo isv pad_) sz) r) 0 0 (va_A (ws_model cI cC cZ cR mo mo1 mo2 mo3 mo4 mo5 kn le_ s_ past slo isv pad_) sz) := by
  refine Met.ofW (cc := cX8_leftmost) (maxL := 3) (ret := (some .int)) (by decide) rfl ?_
  intro p e s m args below meth c s₁ B hml hv
  obtain ⟨rfl, hsz, hP, hK, hD0⟩ := hv
  have hx := B.exec
  have hb := B.bytes
  have hr := B.returns
  have hts := atoms_spec (ws := wsX8_leftmost) B.pre
  have hown : s.vm.findClass RX8 = some m.cls := findClass_of_methodNamed B.named
  have hlocks := B.notSynchronized
  subst hsz
  have hD := hD0.self (sz := s.heap.size)
  generalize hAe : va_A (ws_model cI cC cZ cR mo mo1 mo2 mo3 mo4 mo5 kn le_ s_ past slo isv pad_) s.heap.size = A at hD ⊢
  skip
  have hA : ∀ q : Nat, s.heap.size ≤ q → A q := fun q h => by rw [← hAe]; exact Or.inr h
  have hS : va_S A s.heap s.heap [] := va_S.rf
  have hl := lv_entry ([.ref mo, .int a0]) (n := 3) (Nat.le_of_ble_eq_true rfl)
  rw [lg_entry_eq]
  generalize (lg_sl ([.ref mo, .int a0]) ++ List.replicate (3 - (lg_sl ([.ref mo, .int a0])).length) Slot.unset).toArray = ls at hl ⊢
  have hl : lv_has ls 3 [(0, .ref mo), (1, .int a0)] := hl
  refine W_absQ (fun Q hQ => ?_)
  refine W.eq (g2 := F0 m 0 ls []) rfl ?_
  have h := hf
  unfold f_X8_leftmost at h
  refine lv_iconst (v := 0) hx hb dX8_leftmost_0 (by decide) ?_
  refine lv_istore_n (lv' := [(2, .int 0), (0, .ref mo), (1, .int a0)]) hx hb dX8_leftmost_1 rfl hl (by decide) rfl (fun ls hl => ?_)
  have L2 : ∀ (k : Int32 → Option OUT_X8_leftmost), (∀ (w6 : Int32) (H : Heap) (locs : List Loc) (ls : Array Slot), k w6 = some r → va_P D vwCl (ws_model cI cC cZ cR mo mo1 mo2 mo3 mo4 mo5 kn le_ s_ past slo isv pad_) H → va_D A (ws_model cI cC cZ cR mo mo1 mo2 mo3 mo4 mo5 kn le_ s_ past slo isv pad_) → va_S A s.heap H locs → lv_has ls 3 [(0, .ref mo), (1, .int a0), (2, .int w6)] → W p l e R_X8_leftmost s m ([.ref mo, .int a0] : List Value).toArray below meth c H locs 0 0 Q (F0 m 33 ls [])) → ∀ (n : Nat) (v2 : Int32) (H : Heap) (locs : List Loc) (ls : Array Slot), f_X8_leftmost_L2 s_ a0 k n v2 = some r → va_P D vwCl (ws_model cI cC cZ cR mo mo1 mo2 mo3 mo4 mo5 kn le_ s_ past slo isv pad_) H → va_D A (ws_model cI cC cZ cR mo mo1 mo2 mo3 mo4 mo5 kn le_ s_ past slo isv pad_) → va_S A s.heap H locs → lv_has ls 3 [(0, .ref mo), (1, .int a0), (2, .int v2)] → W p l e R_X8_leftmost s m ([.ref mo, .int a0] : List Value).toArray below meth c H locs 0 0 Q (F0 m 2 ls []) := by
    intro k K n
    induction n with
    | zero => intro v2 H locs ls h; exact no_sm h
    | succ n ih =>
      intro v2 H locs ls h hP hD hS hl
      rw [f_X8_leftmost_L2_s] at h
      refine lv_iload_n hx hb dX8_leftmost_2 rfl (lv_at hl 2 rfl) ?_
      refine lv_bipush (v := 24) hx hb dX8_leftmost_3 (by decide) ?_
      refine lv_icmp_ge (tgt := 33) hx hb dX8_leftmost_5 (by decide) (fun c5 => ?_) (fun c5 => ?_)
      · replace h := br_p c5 h
        exact K _ _ _ _ h hP hD hS (lv_sub hl [0, 1, 2] rfl)
      · replace h := br_n c5 h
        refine lv_aload_n hx hb dX8_leftmost_8 rfl (lv_at hl 0 rfl) ?_
        refine va_get (D := D) (ci := 8) (v := .ref mo1) (C := RX8) (T := TX8) (N := 7) hx hb hts uX8_leftmost_X8 hown hK.1 hP 0 rfl rfl 0 (by decide) (hts _ kX8_leftmost_1) (fun _ h9 => h9) rfl dX8_leftmost_9 ?_
        refine lv_bipush (v := 81) hx hb dX8_leftmost_12 (by decide) ?_
        refine lv_bipush (v := 24) hx hb dX8_leftmost_14 (by decide) ?_
        refine lv_iload_n hx hb dX8_leftmost_16 rfl (lv_at hl 1 rfl) ?_
        refine lv_imul hx hb dX8_leftmost_17 ?_
        refine lv_iadd hx hb dX8_leftmost_18 ?_
        refine lv_iload_n hx hb dX8_leftmost_19 rfl (lv_at hl 2 rfl) ?_
        refine lv_iadd hx hb dX8_leftmost_20 ?_
        obtain ⟨hin, h⟩ := gd_sp h
        refine va_iald (D := D) hx hb hK.1 hP 1 0 rfl rfl hin dX8_leftmost_21 ?_
        refine lv_if_le (tgt := 27) hx hb dX8_leftmost_22 (by decide) (fun c4 => ?_) (fun c4 => ?_)
        · replace h := br_p c4 h
          obtain ⟨x3, ex3, h⟩ := bd_sp h
          refine lv_iinc (v := x3) (lv' := [(2, .int x3), (0, .ref mo), (1, .int a0)]) hx hb dX8_leftmost_27 hl (k := 2) rfl (by rw [ex3]; rfl) (by decide) rfl (fun ls hl => ?_)
          refine lv_goto (tgt := 2) hx hb dX8_leftmost_30 (by decide) ?_
          exact ih _ _ _ _ h hP hD hS (lv_sub hl [1, 2, 0] rfl)
        · replace h := br_n c4 h
          refine lv_iload_n hx hb dX8_leftmost_25 rfl (lv_at hl 2 rfl) ?_
          have e9 := Option.some.inj h
          subst e9
          rw [hQ]
          exact W.iret (v := v2) hx hb hr (fun t ht hW => ⟨⟨v2, (), rfl, rfl, by rw [ht]; exact hP, hD⟩, hS.F ht⟩) hS.2.2 dX8_leftmost_26
  refine L2 _ (fun w6 H locs ls h hP hD hS hl => ?_) 4000 0 _ _ _ h hP hD hS (lv_sub hl [1, 2, 0] rfl)
  refine lv_bipush (v := (-6)) hx hb dX8_leftmost_33 (by decide) ?_
  have e9 := Option.some.inj h
  subst e9
  rw [hQ]
  exact W.iret (v := (-6)) hx hb hr (fun t ht hW => ⟨⟨(-6), (), rfl, rfl, by rw [ht]; exact hP, hD⟩, hS.F ht⟩) hS.2.2 dX8_leftmost_35
-- LeaningLinesModel.goes
abbrev OUT_X8_goes : Type := Int32
def f_X8_goes_L4 (s_ : Nat → Int32) (k : Int32 → Int32 → Option OUT_X8_goes) : Nat → Int32 → Int32 → Option OUT_X8_goes
  | 0 => fun _ _ => none
  | n + 1 => fun v3 v4 => (if v4 < 0 then k v3 v4 else bn (f_X8_its s_ v4 5) (fun r5 => bd (v3 + r5) (fun x6 => bn (f_X8_its s_ v4 7) (fun r7 => f_X8_goes_L4 s_ k n x6 r7))))
theorem f_X8_goes_L4_s (s_ : Nat → Int32) (k : Int32 → Int32 → Option OUT_X8_goes) (n : Nat) (v3 : Int32) (v4 : Int32) : f_X8_goes_L4 s_ k (n + 1) v3 v4 = ((if v4 < 0 then k v3 v4 else bn (f_X8_its s_ v4 5) (fun r5 => bd (v3 + r5) (fun x6 => bn (f_X8_its s_ v4 7) (fun r7 => f_X8_goes_L4 s_ k n x6 r7))))) := rfl
def f_X8_goes (s_ : Nat → Int32) (a0 : Int32) : Option OUT_X8_goes :=
  f_X8_goes_L4 s_ (fun (w9 : Int32) (w10 : Int32) => some (w9)) 4000 0 a0
abbrev R_X8_goes : Room := { frames := 1, cells := 0, slots := 0, locals := 22 }
set_option maxHeartbeats 4000000 in
set_option maxRecDepth 100000 in
theorem m_X8_goes (l : Launch) (D : va_G) (cI cC cZ cR : ClassId) (mo mo1 mo2 mo3 mo4 mo5 : Nat) (sz : Nat) (kn : Int32) (le_ : Int32) (s_ : Nat → Int32) (past : Nat → Int32) (slo : Nat → Int32) (isv : Nat → Int32) (pad_ : Nat → Int32)  (a0 : Int32)   (r : OUT_X8_goes) (hf : f_X8_goes s_ a0 = some r) : Met l yX8_goes wsX8_goes R_X8_goes (cPc D cI cC cZ cR [.ref mo, .int a0] sz (ws_model cI cC cZ cR mo mo1 mo2 mo3 mo4 mo5 kn le_ s_ past slo isv pad_)) (cQi D (ws_model cI cC cZ cR mo mo1 mo2 mo3 mo4 mo5 kn le_ s_ past slo isv pad_) (va_A (ws_model cI cC cZ cR mo mo1 mo2 mo3 mo4 mo5 kn le_ s_ past slo isv pad_) sz) r) 0 0 (va_A (ws_model cI cC cZ cR mo mo1 mo2 mo3 mo4 mo5 kn le_ s_ past slo isv pad_) sz) := by
  refine Met.ofW (cc := cX8_goes) (maxL := 4) (ret := (some .int)) (by decide) rfl ?_
  intro p e s m args below meth c s₁ B hml hv
  obtain ⟨rfl, hsz, hP, hK, hD0⟩ := hv
  have hx := B.exec
  have hb := B.bytes
  have hr := B.returns
  have hts := atoms_spec (ws := wsX8_goes) B.pre
  have hown : s.vm.findClass RX8 = some m.cls := findClass_of_methodNamed B.named
  have hlocks := B.notSynchronized
  subst hsz
  have hD := hD0.self (sz := s.heap.size)
  generalize hAe : va_A (ws_model cI cC cZ cR mo mo1 mo2 mo3 mo4 mo5 kn le_ s_ past slo isv pad_) s.heap.size = A at hD ⊢
  skip
  have hA : ∀ q : Nat, s.heap.size ≤ q → A q := fun q h => by rw [← hAe]; exact Or.inr h
  have hS : va_S A s.heap s.heap [] := va_S.rf
  have hl := lv_entry ([.ref mo, .int a0]) (n := 4) (Nat.le_of_ble_eq_true rfl)
  rw [lg_entry_eq]
  generalize (lg_sl ([.ref mo, .int a0]) ++ List.replicate (4 - (lg_sl ([.ref mo, .int a0])).length) Slot.unset).toArray = ls at hl ⊢
  have hl : lv_has ls 4 [(0, .ref mo), (1, .int a0)] := hl
  refine W_absQ (fun Q hQ => ?_)
  refine W.eq (g2 := F0 m 0 ls []) rfl ?_
  have h := hf
  unfold f_X8_goes at h
  refine lv_iconst (v := 0) hx hb dX8_goes_0 (by decide) ?_
  refine lv_istore_n (lv' := [(2, .int 0), (0, .ref mo), (1, .int a0)]) hx hb dX8_goes_1 rfl hl (by decide) rfl (fun ls hl => ?_)
  refine lv_iload_n hx hb dX8_goes_2 rfl (lv_at hl 2 rfl) ?_
  refine lv_istore_n (lv' := [(3, .int a0), (2, .int 0), (0, .ref mo), (1, .int a0)]) hx hb dX8_goes_3 rfl hl (by decide) rfl (fun ls hl => ?_)
  have L4 : ∀ (k : Int32 → Int32 → Option OUT_X8_goes), (∀ (w9 : Int32) (w10 : Int32) (H : Heap) (locs : List Loc) (ls : Array Slot), k w9 w10 = some r → va_P D vwCl (ws_model cI cC cZ cR mo mo1 mo2 mo3 mo4 mo5 kn le_ s_ past slo isv pad_) H → va_D A (ws_model cI cC cZ cR mo mo1 mo2 mo3 mo4 mo5 kn le_ s_ past slo isv pad_) → va_S A s.heap H locs → lv_has ls 4 [(0, .ref mo), (1, .int a0), (2, .int w9), (3, .int w10)] → W p l e R_X8_goes s m ([.ref mo, .int a0] : List Value).toArray below meth c H locs 0 0 Q (F0 m 28 ls [])) → ∀ (n : Nat) (v3 : Int32) (v4 : Int32) (H : Heap) (locs : List Loc) (ls : Array Slot), f_X8_goes_L4 s_ k n v3 v4 = some r → va_P D vwCl (ws_model cI cC cZ cR mo mo1 mo2 mo3 mo4 mo5 kn le_ s_ past slo isv pad_) H → va_D A (ws_model cI cC cZ cR mo mo1 mo2 mo3 mo4 mo5 kn le_ s_ past slo isv pad_) → va_S A s.heap H locs → lv_has ls 4 [(0, .ref mo), (1, .int a0), (2, .int v3), (3, .int v4)] → W p l e R_X8_goes s m ([.ref mo, .int a0] : List Value).toArray below meth c H locs 0 0 Q (F0 m 4 ls []) := by
    intro k K n
    induction n with
    | zero => intro v3 v4 H locs ls h; exact no_sm h
    | succ n ih =>
      intro v3 v4 H locs ls h hP hD hS hl
      rw [f_X8_goes_L4_s] at h
      refine lv_iload_n hx hb dX8_goes_4 rfl (lv_at hl 3 rfl) ?_
      refine lv_if_lt (tgt := 28) hx hb dX8_goes_5 (by decide) (fun c8 => ?_) (fun c8 => ?_)
      · replace h := br_p c8 h
        exact K _ _ _ _ _ h hP hD hS (lv_sub hl [0, 1, 2, 3] rfl)
      · replace h := br_n c8 h
        refine lv_iload_n hx hb dX8_goes_8 rfl (lv_at hl 2 rfl) ?_
        refine lv_aload_n hx hb dX8_goes_9 rfl (lv_at hl 0 rfl) ?_
        refine lv_iload_n hx hb dX8_goes_10 rfl (lv_at hl 3 rfl) ?_
        refine lv_iconst (v := 5) hx hb dX8_goes_11 (by decide) ?_
        obtain ⟨r5, hcr5, h⟩ := bn_sp h
        have hPc := hP.sub (ws' := (ws_model cI cC cZ cR mo mo1 mo2 mo3 mo4 mo5 kn le_ s_ past slo isv pad_)) [0, 1, 2, 3, 4, 5] rfl
        have hDc := hD.sub (ws' := (ws_model cI cC cZ cR mo mo1 mo2 mo3 mo4 mo5 kn le_ s_ past slo isv pad_)) [0, 1, 2, 3, 4, 5] (by decide) rfl
        have hFc := va_free (wc := (ws_model cI cC cZ cR mo mo1 mo2 mo3 mo4 mo5 kn le_ s_ past slo isv pad_)) hD hS hA [0, 1, 2, 3, 4, 5] rfl
        refine va_calli (va_runV (As := [.int v4, .int 5]) (rest := [.int v3]) ⟨hx, hb, hml, hown, hts⟩ (m_X8_its l D cI cC cZ cR mo mo1 mo2 mo3 mo4 mo5 _ kn le_ s_ past slo isv pad_ v4 5   r5 hcr5) (cwV 2 hts gX8_goes_X8_its rfl rfl rfl (by decide +kernel) ⟨Nat.le_of_ble_eq_true rfl, Nat.le_of_ble_eq_true rfl⟩) (cPc_pv hPc hK hDc (ci := 8) (q0 := 0) rfl rfl) rfl rfl hl.1 rfl (lv_room (Nat.le_of_ble_eq_true rfl)) dX8_goes_12 ⟨Nat.le_of_ble_eq_true rfl, Nat.le_of_ble_eq_true rfl⟩) hS (fun q _ h => hFc q h) hFc (fun x9 u t H1 locs ht hvm hw hB hz1 hk1 hS => ?_)
        rw [hw]
        obtain ⟨hP1, hD1⟩ := hB
        rw [ht] at hP1
        obtain ⟨hP, hD⟩ := va_join (wr := []) (w1 := (ws_model cI cC cZ cR mo mo1 mo2 mo3 mo4 mo5 kn le_ s_ past slo isv pad_)) hP hD [0, 1, 2, 3, 4, 5] [] rfl rfl (by decide) (by decide) hk1 hFc hP1 hD1
        generalize H1 = H at hP hS ⊢
        have hP : va_P D vwCl (ws_model cI cC cZ cR mo mo1 mo2 mo3 mo4 mo5 kn le_ s_ past slo isv pad_) H := hP
        have hD : va_D A (ws_model cI cC cZ cR mo mo1 mo2 mo3 mo4 mo5 kn le_ s_ past slo isv pad_) := hD
        refine lv_iadd hx hb dX8_goes_15 ?_
        refine lv_topi (fun x6 ex6 => ?_)
        replace h := bd_s2 h ex6
        refine lv_istore_n (lv' := [(2, .int x6), (0, .ref mo), (1, .int a0), (3, .int v4)]) hx hb dX8_goes_16 rfl hl (by decide) rfl (fun ls hl => ?_)
        refine lv_aload_n hx hb dX8_goes_17 rfl (lv_at hl 1 rfl) ?_
        refine lv_iload_n hx hb dX8_goes_18 rfl (lv_at hl 3 rfl) ?_
        refine lv_bipush (v := 7) hx hb dX8_goes_19 (by decide) ?_
        obtain ⟨r7, hcr7, h⟩ := bn_sp h
        have hPc := hP.sub (ws' := (ws_model cI cC cZ cR mo mo1 mo2 mo3 mo4 mo5 kn le_ s_ past slo isv pad_)) [0, 1, 2, 3, 4, 5] rfl
        have hDc := hD.sub (ws' := (ws_model cI cC cZ cR mo mo1 mo2 mo3 mo4 mo5 kn le_ s_ past slo isv pad_)) [0, 1, 2, 3, 4, 5] (by decide) rfl
        have hFc := va_free (wc := (ws_model cI cC cZ cR mo mo1 mo2 mo3 mo4 mo5 kn le_ s_ past slo isv pad_)) hD hS hA [0, 1, 2, 3, 4, 5] rfl
        refine va_calli (va_runV (As := [.int v4, .int 7]) (rest := []) ⟨hx, hb, hml, hown, hts⟩ (m_X8_its l D cI cC cZ cR mo mo1 mo2 mo3 mo4 mo5 _ kn le_ s_ past slo isv pad_ v4 7   r7 hcr7) (cwV 2 hts gX8_goes_X8_its rfl rfl rfl (by decide +kernel) ⟨Nat.le_of_ble_eq_true rfl, Nat.le_of_ble_eq_true rfl⟩) (cPc_pv hPc hK hDc (ci := 8) (q0 := 0) rfl rfl) rfl rfl hl.1 rfl (lv_room (Nat.le_of_ble_eq_true rfl)) dX8_goes_21 ⟨Nat.le_of_ble_eq_true rfl, Nat.le_of_ble_eq_true rfl⟩) hS (fun q _ h => hFc q h) hFc (fun x9 u t H1 locs ht hvm hw hB hz1 hk1 hS => ?_)
        rw [hw]
        obtain ⟨hP1, hD1⟩ := hB
        rw [ht] at hP1
        obtain ⟨hP, hD⟩ := va_join (wr := []) (w1 := (ws_model cI cC cZ cR mo mo1 mo2 mo3 mo4 mo5 kn le_ s_ past slo isv pad_)) hP hD [0, 1, 2, 3, 4, 5] [] rfl rfl (by decide) (by decide) hk1 hFc hP1 hD1
        generalize H1 = H at hP hS ⊢
        have hP : va_P D vwCl (ws_model cI cC cZ cR mo mo1 mo2 mo3 mo4 mo5 kn le_ s_ past slo isv pad_) H := hP
        have hD : va_D A (ws_model cI cC cZ cR mo mo1 mo2 mo3 mo4 mo5 kn le_ s_ past slo isv pad_) := hD
        refine lv_istore_n (lv' := [(3, .int r7), (2, .int x6), (0, .ref mo), (1, .int a0)]) hx hb dX8_goes_24 rfl hl (by decide) rfl (fun ls hl => ?_)
        refine lv_goto (tgt := 4) hx hb dX8_goes_25 (by decide) ?_
        exact ih _ _ _ _ _ h hP hD hS (lv_sub hl [2, 3, 1, 0] rfl)
  refine L4 _ (fun w9 w10 H locs ls h hP hD hS hl => ?_) 4000 0 a0 _ _ _ h hP hD hS (lv_sub hl [2, 3, 1, 0] rfl)
  refine lv_iload_n hx hb dX8_goes_28 rfl (lv_at hl 2 rfl) ?_
  have e9 := Option.some.inj h
  subst e9
  rw [hQ]
  exact W.iret (v := w9) hx hb hr (fun t ht hW => ⟨⟨w9, (), rfl, rfl, by rw [ht]; exact hP, hD⟩, hS.F ht⟩) hS.2.2 dX8_goes_29
-- LeaningLinesModel.ones
abbrev OUT_X8_ones : Type := Int32
def f_X8_ones_L4 (a0 : Int32) (k : Int32 → Int32 → Option OUT_X8_ones) : Nat → Int32 → Int32 → Option OUT_X8_ones
  | 0 => fun _ _ => none
  | n + 1 => fun v3 v4 => (if 16 ≤ v4 then k v3 v4 else bd (v3 + ((a0 >>> (v4 &&& 31)) &&& 1)) (fun x5 => bd (v4 + 1) (fun x6 => f_X8_ones_L4 a0 k n x5 x6)))
theorem f_X8_ones_L4_s (a0 : Int32) (k : Int32 → Int32 → Option OUT_X8_ones) (n : Nat) (v3 : Int32) (v4 : Int32) : f_X8_ones_L4 a0 k (n + 1) v3 v4 = ((if 16 ≤ v4 then k v3 v4 else bd (v3 + ((a0 >>> (v4 &&& 31)) &&& 1)) (fun x5 => bd (v4 + 1) (fun x6 => f_X8_ones_L4 a0 k n x5 x6)))) := rfl
def f_X8_ones (a0 : Int32) : Option OUT_X8_ones :=
  f_X8_ones_L4 a0 (fun (w8 : Int32) (w9 : Int32) => some (w8)) 4000 0 0
abbrev R_X8_ones : Room := { frames := 0, cells := 0, slots := 0, locals := 0 }
set_option maxHeartbeats 4000000 in
set_option maxRecDepth 100000 in
theorem m_X8_ones (l : Launch) (D : va_G) (cI cC cZ cR : ClassId)  (sz : Nat)   (a0 : Int32)   (r : OUT_X8_ones) (hf : f_X8_ones a0 = some r) : Met l yX8_ones wsX8_ones R_X8_ones (cPc D cI cC cZ cR [.int a0] sz []) (cQi D [] (va_A [] sz) r) 0 0 (va_A [] sz) := by
  refine Met.ofW (cc := cX8_ones) (maxL := 3) (ret := (some .int)) (by decide) rfl ?_
  intro p e s m args below meth c s₁ B hml hv
  obtain ⟨rfl, hsz, hP, hK, hD0⟩ := hv
  have hx := B.exec
  have hb := B.bytes
  have hr := B.returns
  have hts := atoms_spec (ws := wsX8_ones) B.pre
  have hown : s.vm.findClass RX8 = some m.cls := findClass_of_methodNamed B.named
  have hlocks := B.notSynchronized
  subst hsz
  have hD := hD0.self (sz := s.heap.size)
  generalize hAe : va_A [] s.heap.size = A at hD ⊢
  skip
  have hA : ∀ q : Nat, s.heap.size ≤ q → A q := fun q h => by rw [← hAe]; exact Or.inr h
  have hS : va_S A s.heap s.heap [] := va_S.rf
  have hl := lv_entry ([.int a0]) (n := 3) (Nat.le_of_ble_eq_true rfl)
  rw [lg_entry_eq]
  generalize (lg_sl ([.int a0]) ++ List.replicate (3 - (lg_sl ([.int a0])).length) Slot.unset).toArray = ls at hl ⊢
  have hl : lv_has ls 3 [(0, .int a0)] := hl
  refine W_absQ (fun Q hQ => ?_)
  refine W.eq (g2 := F0 m 0 ls []) rfl ?_
  have h := hf
  unfold f_X8_ones at h
  refine lv_iconst (v := 0) hx hb dX8_ones_0 (by decide) ?_
  refine lv_istore_n (lv' := [(1, .int 0), (0, .int a0)]) hx hb dX8_ones_1 rfl hl (by decide) rfl (fun ls hl => ?_)
  refine lv_iconst (v := 0) hx hb dX8_ones_2 (by decide) ?_
  refine lv_istore_n (lv' := [(2, .int 0), (1, .int 0), (0, .int a0)]) hx hb dX8_ones_3 rfl hl (by decide) rfl (fun ls hl => ?_)
  have L4 : ∀ (k : Int32 → Int32 → Option OUT_X8_ones), (∀ (w8 : Int32) (w9 : Int32) (H : Heap) (locs : List Loc) (ls : Array Slot), k w8 w9 = some r → va_P D vwCl [] H → va_D A [] → va_S A s.heap H locs → lv_has ls 3 [(0, .int a0), (1, .int w8), (2, .int w9)] → W p l e R_X8_ones s m ([.int a0] : List Value).toArray below meth c H locs 0 0 Q (F0 m 24 ls [])) → ∀ (n : Nat) (v3 : Int32) (v4 : Int32) (H : Heap) (locs : List Loc) (ls : Array Slot), f_X8_ones_L4 a0 k n v3 v4 = some r → va_P D vwCl [] H → va_D A [] → va_S A s.heap H locs → lv_has ls 3 [(0, .int a0), (1, .int v3), (2, .int v4)] → W p l e R_X8_ones s m ([.int a0] : List Value).toArray below meth c H locs 0 0 Q (F0 m 4 ls []) := by
    intro k K n
    induction n with
    | zero => intro v3 v4 H locs ls h; exact no_sm h
    | succ n ih =>
      intro v3 v4 H locs ls h hP hD hS hl
      rw [f_X8_ones_L4_s] at h
      refine lv_iload_n hx hb dX8_ones_4 rfl (lv_at hl 2 rfl) ?_
      refine lv_bipush (v := 16) hx hb dX8_ones_5 (by decide) ?_
      refine lv_icmp_ge (tgt := 24) hx hb dX8_ones_7 (by decide) (fun c7 => ?_) (fun c7 => ?_)
      · replace h := br_p c7 h
        exact K _ _ _ _ _ h hP hD hS (lv_sub hl [0, 1, 2] rfl)
      · replace h := br_n c7 h
        refine lv_iload_n hx hb dX8_ones_10 rfl (lv_at hl 1 rfl) ?_
        refine lv_iload_n hx hb dX8_ones_11 rfl (lv_at hl 0 rfl) ?_
        refine lv_iload_n hx hb dX8_ones_12 rfl (lv_at hl 2 rfl) ?_
        refine lv_ishr hx hb dX8_ones_13 ?_
        refine lv_iconst (v := 1) hx hb dX8_ones_14 (by decide) ?_
        refine lv_iand hx hb dX8_ones_15 ?_
        refine lv_iadd hx hb dX8_ones_16 ?_
        refine lv_topi (fun x5 ex5 => ?_)
        replace h := bd_s2 h ex5
        refine lv_istore_n (lv' := [(1, .int x5), (0, .int a0), (2, .int v4)]) hx hb dX8_ones_17 rfl hl (by decide) rfl (fun ls hl => ?_)
        obtain ⟨x6, ex6, h⟩ := bd_sp h
        refine lv_iinc (v := x6) (lv' := [(2, .int x6), (1, .int x5), (0, .int a0)]) hx hb dX8_ones_18 hl (k := 2) rfl (by rw [ex6]; rfl) (by decide) rfl (fun ls hl => ?_)
        refine lv_goto (tgt := 4) hx hb dX8_ones_21 (by decide) ?_
        exact ih _ _ _ _ _ h hP hD hS (lv_sub hl [2, 1, 0] rfl)
  refine L4 _ (fun w8 w9 H locs ls h hP hD hS hl => ?_) 4000 0 0 _ _ _ h hP hD hS (lv_sub hl [2, 1, 0] rfl)
  refine lv_iload_n hx hb dX8_ones_24 rfl (lv_at hl 1 rfl) ?_
  have e9 := Option.some.inj h
  subst e9
  rw [hQ]
  exact W.iret (v := w8) hx hb hr (fun t ht hW => ⟨⟨w8, (), rfl, rfl, by rw [ht]; exact hP, hD⟩, hS.F ht⟩) hS.2.2 dX8_ones_25
end
