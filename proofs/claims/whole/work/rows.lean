section
-- ===== PART A: goes FIRST, ahead of the names: the tables' words, and 'selects' of the private methods out of them =====
/-- a private method of a class that the tables say can be made, by its rows of tables_1 -/
def lw_okq (q : MethodName × Nat) : Prop := (q.1.cls ≠ "java/lang/invoke/MethodHandle" ∧ q.1.cls ≠ "java/lang/invoke/VarHandle") ∧ Cond.instantiable q.1.cls q.2 ∈ tables_1 ∧ Cond.privateMethod q.1 ∈ tables_1 ∧ Cond.instanceMethod q.1 ∈ tables_1
theorem lw_p0 : lw_okq (⟨"ThinVolumes$History", "copyInto", "(ILThinVolumes$Pool;)V"⟩, 2) := ⟨⟨by decide +kernel, by decide +kernel⟩, List.mem_of_getElem? (i := 102) (by decide +kernel), List.mem_of_getElem? (i := 188) (by decide +kernel), List.mem_of_getElem? (i := 189) (by decide +kernel)⟩
theorem lw_p1 : lw_okq (⟨"ThinVolumes", "settle", "(I)I"⟩, 4) := ⟨⟨by decide +kernel, by decide +kernel⟩, List.mem_of_getElem? (i := 11) (by decide +kernel), List.mem_of_getElem? (i := 214) (by decide +kernel), List.mem_of_getElem? (i := 215) (by decide +kernel)⟩
theorem lw_p2 : lw_okq (⟨"ThinVolumes$History", "dropOldest", "()V"⟩, 2) := ⟨⟨by decide +kernel, by decide +kernel⟩, List.mem_of_getElem? (i := 102) (by decide +kernel), List.mem_of_getElem? (i := 229) (by decide +kernel), List.mem_of_getElem? (i := 230) (by decide +kernel)⟩
theorem lw_p3 : lw_okq (⟨"ThinVolumes$Pool", "loosen", "(II)I"⟩, 14) := ⟨⟨by decide +kernel, by decide +kernel⟩, List.mem_of_getElem? (i := 19) (by decide +kernel), List.mem_of_getElem? (i := 262) (by decide +kernel), List.mem_of_getElem? (i := 263) (by decide +kernel)⟩
theorem lw_p4 : lw_okq (⟨"ThinVolumes$Pool", "highestSetting", "(I)I"⟩, 14) := ⟨⟨by decide +kernel, by decide +kernel⟩, List.mem_of_getElem? (i := 19) (by decide +kernel), List.mem_of_getElem? (i := 314) (by decide +kernel), List.mem_of_getElem? (i := 315) (by decide +kernel)⟩
theorem lw_p5 : lw_okq (⟨"ThinVolumes$Pool", "lowestFreePiece", "()I"⟩, 14) := ⟨⟨by decide +kernel, by decide +kernel⟩, List.mem_of_getElem? (i := 19) (by decide +kernel), List.mem_of_getElem? (i := 326) (by decide +kernel), List.mem_of_getElem? (i := 327) (by decide +kernel)⟩
theorem lw_p6 : lw_okq (⟨"ThinVolumes$Pool", "refuse", "(I)V"⟩, 14) := ⟨⟨by decide +kernel, by decide +kernel⟩, List.mem_of_getElem? (i := 19) (by decide +kernel), List.mem_of_getElem? (i := 338) (by decide +kernel), List.mem_of_getElem? (i := 339) (by decide +kernel)⟩
theorem lw_p7 : lw_okq (⟨"ThinVolumes$Pool", "bookPiece", "(IZI)V"⟩, 14) := ⟨⟨by decide +kernel, by decide +kernel⟩, List.mem_of_getElem? (i := 19) (by decide +kernel), List.mem_of_getElem? (i := 346) (by decide +kernel), List.mem_of_getElem? (i := 347) (by decide +kernel)⟩
theorem lw_p8 : lw_okq (⟨"ThinVolumes$Pool", "thank", "(II)V"⟩, 14) := ⟨⟨by decide +kernel, by decide +kernel⟩, List.mem_of_getElem? (i := 19) (by decide +kernel), List.mem_of_getElem? (i := 362) (by decide +kernel), List.mem_of_getElem? (i := 363) (by decide +kernel)⟩
theorem lw_p9 : lw_okq (⟨"ThinVolumes$Pool", "moveOwners", "(II)V"⟩, 14) := ⟨⟨by decide +kernel, by decide +kernel⟩, List.mem_of_getElem? (i := 19) (by decide +kernel), List.mem_of_getElem? (i := 383) (by decide +kernel), List.mem_of_getElem? (i := 384) (by decide +kernel)⟩
theorem lw_p10 : lw_okq (⟨"ThinVolumes$Text", "signHere", "()I"⟩, 5) := ⟨⟨by decide +kernel, by decide +kernel⟩, List.mem_of_getElem? (i := 119) (by decide +kernel), List.mem_of_getElem? (i := 536) (by decide +kernel), List.mem_of_getElem? (i := 537) (by decide +kernel)⟩
theorem lw_p11 : lw_okq (⟨"ThinVolumes$Text", "numbersDue", "(I)I"⟩, 5) := ⟨⟨by decide +kernel, by decide +kernel⟩, List.mem_of_getElem? (i := 119) (by decide +kernel), List.mem_of_getElem? (i := 540) (by decide +kernel), List.mem_of_getElem? (i := 541) (by decide +kernel)⟩
theorem lw_p12 : lw_okq (⟨"ThinVolumes$Text", "passes", "(I)Z"⟩, 5) := ⟨⟨by decide +kernel, by decide +kernel⟩, List.mem_of_getElem? (i := 119) (by decide +kernel), List.mem_of_getElem? (i := 544) (by decide +kernel), List.mem_of_getElem? (i := 545) (by decide +kernel)⟩
theorem lw_p13 : lw_okq (⟨"ThinVolumes$Text", "readNumber", "()I"⟩, 5) := ⟨⟨by decide +kernel, by decide +kernel⟩, List.mem_of_getElem? (i := 119) (by decide +kernel), List.mem_of_getElem? (i := 548) (by decide +kernel), List.mem_of_getElem? (i := 549) (by decide +kernel)⟩
theorem lw_p14 : lw_okq (⟨"ThinVolumes$Text", "readDigit", "()I"⟩, 5) := ⟨⟨by decide +kernel, by decide +kernel⟩, List.mem_of_getElem? (i := 119) (by decide +kernel), List.mem_of_getElem? (i := 552) (by decide +kernel), List.mem_of_getElem? (i := 553) (by decide +kernel)⟩
theorem lw_p15 : lw_okq (⟨"ThinVolumes$Rehearsal", "obey", "(LThinVolumes$Text;)I"⟩, 3) := ⟨⟨by decide +kernel, by decide +kernel⟩, List.mem_of_getElem? (i := 146) (by decide +kernel), List.mem_of_getElem? (i := 556) (by decide +kernel), List.mem_of_getElem? (i := 557) (by decide +kernel)⟩
def lw_privs_1 : List (MethodName × Nat) := [(⟨"ThinVolumes$History", "copyInto", "(ILThinVolumes$Pool;)V"⟩, 2), (⟨"ThinVolumes", "settle", "(I)I"⟩, 4), (⟨"ThinVolumes$History", "dropOldest", "()V"⟩, 2), (⟨"ThinVolumes$Pool", "loosen", "(II)I"⟩, 14), (⟨"ThinVolumes$Pool", "highestSetting", "(I)I"⟩, 14), (⟨"ThinVolumes$Pool", "lowestFreePiece", "()I"⟩, 14), (⟨"ThinVolumes$Pool", "refuse", "(I)V"⟩, 14), (⟨"ThinVolumes$Pool", "bookPiece", "(IZI)V"⟩, 14), (⟨"ThinVolumes$Pool", "thank", "(II)V"⟩, 14), (⟨"ThinVolumes$Pool", "moveOwners", "(II)V"⟩, 14), (⟨"ThinVolumes$Text", "signHere", "()I"⟩, 5), (⟨"ThinVolumes$Text", "numbersDue", "(I)I"⟩, 5), (⟨"ThinVolumes$Text", "passes", "(I)Z"⟩, 5), (⟨"ThinVolumes$Text", "readNumber", "()I"⟩, 5), (⟨"ThinVolumes$Text", "readDigit", "()I"⟩, 5), (⟨"ThinVolumes$Rehearsal", "obey", "(LThinVolumes$Text;)I"⟩, 3)]
theorem lw_r1 : ∀ q ∈ lw_privs_1, lw_okq q := List.forall_mem_cons.mpr ⟨lw_p0, List.forall_mem_cons.mpr ⟨lw_p1, List.forall_mem_cons.mpr ⟨lw_p2, List.forall_mem_cons.mpr ⟨lw_p3, List.forall_mem_cons.mpr ⟨lw_p4, List.forall_mem_cons.mpr ⟨lw_p5, List.forall_mem_cons.mpr ⟨lw_p6, List.forall_mem_cons.mpr ⟨lw_p7, List.forall_mem_cons.mpr ⟨lw_p8, List.forall_mem_cons.mpr ⟨lw_p9, List.forall_mem_cons.mpr ⟨lw_p10, List.forall_mem_cons.mpr ⟨lw_p11, List.forall_mem_cons.mpr ⟨lw_p12, List.forall_mem_cons.mpr ⟨lw_p13, List.forall_mem_cons.mpr ⟨lw_p14, List.forall_mem_cons.mpr ⟨lw_p15, fun _ h => absurd h List.not_mem_nil⟩⟩⟩⟩⟩⟩⟩⟩⟩⟩⟩⟩⟩⟩⟩⟩
theorem lw_p16 : lw_okq (⟨"ThinVolumes$Rehearsal", "reasonOf", "(I)I"⟩, 3) := ⟨⟨by decide +kernel, by decide +kernel⟩, List.mem_of_getElem? (i := 146) (by decide +kernel), List.mem_of_getElem? (i := 566) (by decide +kernel), List.mem_of_getElem? (i := 567) (by decide +kernel)⟩
theorem lw_p17 : lw_okq (⟨"ThinVolumesModel", "free8", "()I"⟩, 12) := ⟨⟨by decide +kernel, by decide +kernel⟩, List.mem_of_getElem? (i := 576) (by decide +kernel), List.mem_of_getElem? (i := 627) (by decide +kernel), List.mem_of_getElem? (i := 628) (by decide +kernel)⟩
theorem lw_p18 : lw_okq (⟨"ThinVolumesModel", "of", "(II)I"⟩, 12) := ⟨⟨by decide +kernel, by decide +kernel⟩, List.mem_of_getElem? (i := 576) (by decide +kernel), List.mem_of_getElem? (i := 631) (by decide +kernel), List.mem_of_getElem? (i := 632) (by decide +kernel)⟩
theorem lw_p19 : lw_okq (⟨"ThinVolumesModel", "changes", "()V"⟩, 12) := ⟨⟨by decide +kernel, by decide +kernel⟩, List.mem_of_getElem? (i := 576) (by decide +kernel), List.mem_of_getElem? (i := 636) (by decide +kernel), List.mem_of_getElem? (i := 637) (by decide +kernel)⟩
theorem lw_p20 : lw_okq (⟨"ThinVolumesModel", "begins", "(II)V"⟩, 12) := ⟨⟨by decide +kernel, by decide +kernel⟩, List.mem_of_getElem? (i := 576) (by decide +kernel), List.mem_of_getElem? (i := 640) (by decide +kernel), List.mem_of_getElem? (i := 641) (by decide +kernel)⟩
theorem lw_p21 : lw_okq (⟨"ThinVolumesModel", "puts", "(III)V"⟩, 12) := ⟨⟨by decide +kernel, by decide +kernel⟩, List.mem_of_getElem? (i := 576) (by decide +kernel), List.mem_of_getElem? (i := 644) (by decide +kernel), List.mem_of_getElem? (i := 645) (by decide +kernel)⟩
theorem lw_p22 : lw_okq (⟨"ThinVolumesModel", "isVolume", "(I)Z"⟩, 12) := ⟨⟨by decide +kernel, by decide +kernel⟩, List.mem_of_getElem? (i := 576) (by decide +kernel), List.mem_of_getElem? (i := 652) (by decide +kernel), List.mem_of_getElem? (i := 653) (by decide +kernel)⟩
theorem lw_p23 : lw_okq (⟨"ThinVolumesModel", "piece", "(II)I"⟩, 12) := ⟨⟨by decide +kernel, by decide +kernel⟩, List.mem_of_getElem? (i := 576) (by decide +kernel), List.mem_of_getElem? (i := 656) (by decide +kernel), List.mem_of_getElem? (i := 657) (by decide +kernel)⟩
theorem lw_p24 : lw_okq (⟨"ThinVolumesModel", "trims", "(II)I"⟩, 12) := ⟨⟨by decide +kernel, by decide +kernel⟩, List.mem_of_getElem? (i := 576) (by decide +kernel), List.mem_of_getElem? (i := 664) (by decide +kernel), List.mem_of_getElem? (i := 665) (by decide +kernel)⟩
theorem lw_p25 : lw_okq (⟨"ThinVolumesModel", "owners", "(I)I"⟩, 12) := ⟨⟨by decide +kernel, by decide +kernel⟩, List.mem_of_getElem? (i := 576) (by decide +kernel), List.mem_of_getElem? (i := 668) (by decide +kernel), List.mem_of_getElem? (i := 669) (by decide +kernel)⟩
theorem lw_p26 : lw_okq (⟨"ThinVolumesModel", "ownersIn", "(II)I"⟩, 12) := ⟨⟨by decide +kernel, by decide +kernel⟩, List.mem_of_getElem? (i := 576) (by decide +kernel), List.mem_of_getElem? (i := 672) (by decide +kernel), List.mem_of_getElem? (i := 673) (by decide +kernel)⟩
theorem lw_p27 : lw_okq (⟨"ThinVolumesModel", "promises", "()I"⟩, 12) := ⟨⟨by decide +kernel, by decide +kernel⟩, List.mem_of_getElem? (i := 576) (by decide +kernel), List.mem_of_getElem? (i := 680) (by decide +kernel), List.mem_of_getElem? (i := 681) (by decide +kernel)⟩
theorem lw_p28 : lw_okq (⟨"ThinVolumesModel", "free", "()I"⟩, 12) := ⟨⟨by decide +kernel, by decide +kernel⟩, List.mem_of_getElem? (i := 576) (by decide +kernel), List.mem_of_getElem? (i := 684) (by decide +kernel), List.mem_of_getElem? (i := 685) (by decide +kernel)⟩
theorem lw_p29 : lw_okq (⟨"ThinVolumesModel", "available", "()I"⟩, 12) := ⟨⟨by decide +kernel, by decide +kernel⟩, List.mem_of_getElem? (i := 576) (by decide +kernel), List.mem_of_getElem? (i := 689) (by decide +kernel), List.mem_of_getElem? (i := 690) (by decide +kernel)⟩
theorem lw_p30 : lw_okq (⟨"ThinVolumesModel", "levelBy", "(I)I"⟩, 12) := ⟨⟨by decide +kernel, by decide +kernel⟩, List.mem_of_getElem? (i := 576) (by decide +kernel), List.mem_of_getElem? (i := 693) (by decide +kernel), List.mem_of_getElem? (i := 694) (by decide +kernel)⟩
theorem lw_p31 : lw_okq (⟨"ThinVolumesModel", "ends", "(I)V"⟩, 12) := ⟨⟨by decide +kernel, by decide +kernel⟩, List.mem_of_getElem? (i := 576) (by decide +kernel), List.mem_of_getElem? (i := 697) (by decide +kernel), List.mem_of_getElem? (i := 698) (by decide +kernel)⟩
def lw_privs_2 : List (MethodName × Nat) := [(⟨"ThinVolumes$Rehearsal", "reasonOf", "(I)I"⟩, 3), (⟨"ThinVolumesModel", "free8", "()I"⟩, 12), (⟨"ThinVolumesModel", "of", "(II)I"⟩, 12), (⟨"ThinVolumesModel", "changes", "()V"⟩, 12), (⟨"ThinVolumesModel", "begins", "(II)V"⟩, 12), (⟨"ThinVolumesModel", "puts", "(III)V"⟩, 12), (⟨"ThinVolumesModel", "isVolume", "(I)Z"⟩, 12), (⟨"ThinVolumesModel", "piece", "(II)I"⟩, 12), (⟨"ThinVolumesModel", "trims", "(II)I"⟩, 12), (⟨"ThinVolumesModel", "owners", "(I)I"⟩, 12), (⟨"ThinVolumesModel", "ownersIn", "(II)I"⟩, 12), (⟨"ThinVolumesModel", "promises", "()I"⟩, 12), (⟨"ThinVolumesModel", "free", "()I"⟩, 12), (⟨"ThinVolumesModel", "available", "()I"⟩, 12), (⟨"ThinVolumesModel", "levelBy", "(I)I"⟩, 12), (⟨"ThinVolumesModel", "ends", "(I)V"⟩, 12)]
theorem lw_r2 : ∀ q ∈ lw_privs_2, lw_okq q := List.forall_mem_cons.mpr ⟨lw_p16, List.forall_mem_cons.mpr ⟨lw_p17, List.forall_mem_cons.mpr ⟨lw_p18, List.forall_mem_cons.mpr ⟨lw_p19, List.forall_mem_cons.mpr ⟨lw_p20, List.forall_mem_cons.mpr ⟨lw_p21, List.forall_mem_cons.mpr ⟨lw_p22, List.forall_mem_cons.mpr ⟨lw_p23, List.forall_mem_cons.mpr ⟨lw_p24, List.forall_mem_cons.mpr ⟨lw_p25, List.forall_mem_cons.mpr ⟨lw_p26, List.forall_mem_cons.mpr ⟨lw_p27, List.forall_mem_cons.mpr ⟨lw_p28, List.forall_mem_cons.mpr ⟨lw_p29, List.forall_mem_cons.mpr ⟨lw_p30, List.forall_mem_cons.mpr ⟨lw_p31, fun _ h => absurd h List.not_mem_nil⟩⟩⟩⟩⟩⟩⟩⟩⟩⟩⟩⟩⟩⟩⟩⟩
theorem lw_p32 : lw_okq (⟨"ThinVolumesModel", "warns", "(II)V"⟩, 12) := ⟨⟨by decide +kernel, by decide +kernel⟩, List.mem_of_getElem? (i := 576) (by decide +kernel), List.mem_of_getElem? (i := 701) (by decide +kernel), List.mem_of_getElem? (i := 702) (by decide +kernel)⟩
theorem lw_p33 : lw_okq (⟨"ThinVolumesModel", "isPlace", "(II)Z"⟩, 12) := ⟨⟨by decide +kernel, by decide +kernel⟩, List.mem_of_getElem? (i := 576) (by decide +kernel), List.mem_of_getElem? (i := 713) (by decide +kernel), List.mem_of_getElem? (i := 714) (by decide +kernel)⟩
theorem lw_p34 : lw_okq (⟨"ThinVolumesModel", "asks", "(II)I"⟩, 12) := ⟨⟨by decide +kernel, by decide +kernel⟩, List.mem_of_getElem? (i := 576) (by decide +kernel), List.mem_of_getElem? (i := 717) (by decide +kernel), List.mem_of_getElem? (i := 718) (by decide +kernel)⟩
theorem lw_p35 : lw_okq (⟨"ThinVolumesModel", "best", "()I"⟩, 12) := ⟨⟨by decide +kernel, by decide +kernel⟩, List.mem_of_getElem? (i := 576) (by decide +kernel), List.mem_of_getElem? (i := 721) (by decide +kernel), List.mem_of_getElem? (i := 722) (by decide +kernel)⟩
theorem lw_p36 : lw_okq (⟨"ThinVolumesModel", "behaves", "(II)V"⟩, 12) := ⟨⟨by decide +kernel, by decide +kernel⟩, List.mem_of_getElem? (i := 576) (by decide +kernel), List.mem_of_getElem? (i := 726) (by decide +kernel), List.mem_of_getElem? (i := 727) (by decide +kernel)⟩
theorem lw_p37 : lw_okq (⟨"ThinVolumesModel", "lowestFree", "()I"⟩, 12) := ⟨⟨by decide +kernel, by decide +kernel⟩, List.mem_of_getElem? (i := 576) (by decide +kernel), List.mem_of_getElem? (i := 731) (by decide +kernel), List.mem_of_getElem? (i := 732) (by decide +kernel)⟩
theorem lw_p38 : lw_okq (⟨"ThinVolumesModel", "sweeps", "(I)I"⟩, 12) := ⟨⟨by decide +kernel, by decide +kernel⟩, List.mem_of_getElem? (i := 576) (by decide +kernel), List.mem_of_getElem? (i := 743) (by decide +kernel), List.mem_of_getElem? (i := 744) (by decide +kernel)⟩
theorem lw_p39 : lw_okq (⟨"ThinVolumesModel", "merges", "()I"⟩, 12) := ⟨⟨by decide +kernel, by decide +kernel⟩, List.mem_of_getElem? (i := 576) (by decide +kernel), List.mem_of_getElem? (i := 751) (by decide +kernel), List.mem_of_getElem? (i := 752) (by decide +kernel)⟩
theorem lw_p40 : lw_okq (⟨"ThinVolumesModel", "moves", "(II)V"⟩, 12) := ⟨⟨by decide +kernel, by decide +kernel⟩, List.mem_of_getElem? (i := 576) (by decide +kernel), List.mem_of_getElem? (i := 755) (by decide +kernel), List.mem_of_getElem? (i := 756) (by decide +kernel)⟩
theorem lw_p41 : lw_okq (⟨"ThinVolumesModel", "filled", "(I)I"⟩, 12) := ⟨⟨by decide +kernel, by decide +kernel⟩, List.mem_of_getElem? (i := 576) (by decide +kernel), List.mem_of_getElem? (i := 767) (by decide +kernel), List.mem_of_getElem? (i := 768) (by decide +kernel)⟩
theorem lw_p42 : lw_okq (⟨"ThinVolumesModel", "ownedBy", "(I)I"⟩, 12) := ⟨⟨by decide +kernel, by decide +kernel⟩, List.mem_of_getElem? (i := 576) (by decide +kernel), List.mem_of_getElem? (i := 771) (by decide +kernel), List.mem_of_getElem? (i := 772) (by decide +kernel)⟩
theorem lw_p43 : lw_okq (⟨"ThinVolumesModel", "volumesOf", "(I)I"⟩, 12) := ⟨⟨by decide +kernel, by decide +kernel⟩, List.mem_of_getElem? (i := 576) (by decide +kernel), List.mem_of_getElem? (i := 775) (by decide +kernel), List.mem_of_getElem? (i := 776) (by decide +kernel)⟩
theorem lw_p44 : lw_okq (⟨"ThinVolumesModel", "clones", "(I)I"⟩, 12) := ⟨⟨by decide +kernel, by decide +kernel⟩, List.mem_of_getElem? (i := 576) (by decide +kernel), List.mem_of_getElem? (i := 779) (by decide +kernel), List.mem_of_getElem? (i := 780) (by decide +kernel)⟩
theorem lw_p45 : lw_okq (⟨"ThinVolumesModel", "rank", "(I)I"⟩, 12) := ⟨⟨by decide +kernel, by decide +kernel⟩, List.mem_of_getElem? (i := 576) (by decide +kernel), List.mem_of_getElem? (i := 783) (by decide +kernel), List.mem_of_getElem? (i := 784) (by decide +kernel)⟩
theorem lw_p46 : lw_okq (⟨"ThinVolumesModel", "living", "(I)I"⟩, 12) := ⟨⟨by decide +kernel, by decide +kernel⟩, List.mem_of_getElem? (i := 576) (by decide +kernel), List.mem_of_getElem? (i := 818) (by decide +kernel), List.mem_of_getElem? (i := 819) (by decide +kernel)⟩
theorem lw_p47 : lw_okq (⟨"ThinVolumesModel", "shared", "()I"⟩, 12) := ⟨⟨by decide +kernel, by decide +kernel⟩, List.mem_of_getElem? (i := 576) (by decide +kernel), List.mem_of_getElem? (i := 826) (by decide +kernel), List.mem_of_getElem? (i := 827) (by decide +kernel)⟩
def lw_privs_3 : List (MethodName × Nat) := [(⟨"ThinVolumesModel", "warns", "(II)V"⟩, 12), (⟨"ThinVolumesModel", "isPlace", "(II)Z"⟩, 12), (⟨"ThinVolumesModel", "asks", "(II)I"⟩, 12), (⟨"ThinVolumesModel", "best", "()I"⟩, 12), (⟨"ThinVolumesModel", "behaves", "(II)V"⟩, 12), (⟨"ThinVolumesModel", "lowestFree", "()I"⟩, 12), (⟨"ThinVolumesModel", "sweeps", "(I)I"⟩, 12), (⟨"ThinVolumesModel", "merges", "()I"⟩, 12), (⟨"ThinVolumesModel", "moves", "(II)V"⟩, 12), (⟨"ThinVolumesModel", "filled", "(I)I"⟩, 12), (⟨"ThinVolumesModel", "ownedBy", "(I)I"⟩, 12), (⟨"ThinVolumesModel", "volumesOf", "(I)I"⟩, 12), (⟨"ThinVolumesModel", "clones", "(I)I"⟩, 12), (⟨"ThinVolumesModel", "rank", "(I)I"⟩, 12), (⟨"ThinVolumesModel", "living", "(I)I"⟩, 12), (⟨"ThinVolumesModel", "shared", "()I"⟩, 12)]
theorem lw_r3 : ∀ q ∈ lw_privs_3, lw_okq q := List.forall_mem_cons.mpr ⟨lw_p32, List.forall_mem_cons.mpr ⟨lw_p33, List.forall_mem_cons.mpr ⟨lw_p34, List.forall_mem_cons.mpr ⟨lw_p35, List.forall_mem_cons.mpr ⟨lw_p36, List.forall_mem_cons.mpr ⟨lw_p37, List.forall_mem_cons.mpr ⟨lw_p38, List.forall_mem_cons.mpr ⟨lw_p39, List.forall_mem_cons.mpr ⟨lw_p40, List.forall_mem_cons.mpr ⟨lw_p41, List.forall_mem_cons.mpr ⟨lw_p42, List.forall_mem_cons.mpr ⟨lw_p43, List.forall_mem_cons.mpr ⟨lw_p44, List.forall_mem_cons.mpr ⟨lw_p45, List.forall_mem_cons.mpr ⟨lw_p46, List.forall_mem_cons.mpr ⟨lw_p47, fun _ h => absurd h List.not_mem_nil⟩⟩⟩⟩⟩⟩⟩⟩⟩⟩⟩⟩⟩⟩⟩⟩
theorem lw_p48 : lw_okq (⟨"ThinVolumesModel", "plays", "()I"⟩, 12) := ⟨⟨by decide +kernel, by decide +kernel⟩, List.mem_of_getElem? (i := 576) (by decide +kernel), List.mem_of_getElem? (i := 846) (by decide +kernel), List.mem_of_getElem? (i := 847) (by decide +kernel)⟩
theorem lw_p49 : lw_okq (⟨"ThinVolumesModel", "does", "()I"⟩, 12) := ⟨⟨by decide +kernel, by decide +kernel⟩, List.mem_of_getElem? (i := 576) (by decide +kernel), List.mem_of_getElem? (i := 850) (by decide +kernel), List.mem_of_getElem? (i := 851) (by decide +kernel)⟩
theorem lw_p50 : lw_okq (⟨"ThinVolumesModel", "isForm", "(II)Z"⟩, 12) := ⟨⟨by decide +kernel, by decide +kernel⟩, List.mem_of_getElem? (i := 576) (by decide +kernel), List.mem_of_getElem? (i := 854) (by decide +kernel), List.mem_of_getElem? (i := 855) (by decide +kernel)⟩
theorem lw_p51 : lw_okq (⟨"ThinVolumesModel", "isAt", "(II)Z"⟩, 12) := ⟨⟨by decide +kernel, by decide +kernel⟩, List.mem_of_getElem? (i := 576) (by decide +kernel), List.mem_of_getElem? (i := 858) (by decide +kernel), List.mem_of_getElem? (i := 859) (by decide +kernel)⟩
theorem lw_p52 : lw_okq (⟨"ThinVolumesModel", "number", "(II)Z"⟩, 12) := ⟨⟨by decide +kernel, by decide +kernel⟩, List.mem_of_getElem? (i := 576) (by decide +kernel), List.mem_of_getElem? (i := 862) (by decide +kernel), List.mem_of_getElem? (i := 863) (by decide +kernel)⟩
theorem lw_p53 : lw_okq (⟨"ThinVolumesModel", "isDone", "(I)I"⟩, 12) := ⟨⟨by decide +kernel, by decide +kernel⟩, List.mem_of_getElem? (i := 576) (by decide +kernel), List.mem_of_getElem? (i := 867) (by decide +kernel), List.mem_of_getElem? (i := 868) (by decide +kernel)⟩
def lw_privs_4 : List (MethodName × Nat) := [(⟨"ThinVolumesModel", "plays", "()I"⟩, 12), (⟨"ThinVolumesModel", "does", "()I"⟩, 12), (⟨"ThinVolumesModel", "isForm", "(II)Z"⟩, 12), (⟨"ThinVolumesModel", "isAt", "(II)Z"⟩, 12), (⟨"ThinVolumesModel", "number", "(II)Z"⟩, 12), (⟨"ThinVolumesModel", "isDone", "(I)I"⟩, 12)]
theorem lw_r4 : ∀ q ∈ lw_privs_4, lw_okq q := List.forall_mem_cons.mpr ⟨lw_p48, List.forall_mem_cons.mpr ⟨lw_p49, List.forall_mem_cons.mpr ⟨lw_p50, List.forall_mem_cons.mpr ⟨lw_p51, List.forall_mem_cons.mpr ⟨lw_p52, List.forall_mem_cons.mpr ⟨lw_p53, fun _ h => absurd h List.not_mem_nil⟩⟩⟩⟩⟩⟩
def lw_privs : List (MethodName × Nat) := lw_privs_1 ++ (lw_privs_2 ++ (lw_privs_3 ++ (lw_privs_4)))
def lw_tbl : List Cond := k2_sels lw_privs ++ tables_1
theorem lw_privs_ok : ∀ q ∈ lw_privs, lw_okq q := by
  show ∀ q ∈ lw_privs_1 ++ (lw_privs_2 ++ (lw_privs_3 ++ (lw_privs_4))), lw_okq q
  exact List.forall_mem_append.mpr ⟨lw_r1, List.forall_mem_append.mpr ⟨lw_r2, List.forall_mem_append.mpr ⟨lw_r3, lw_r4⟩⟩⟩
-- ===== end of PART A; then your names; then what follows =====
end
section
/-! ===== BEGIN words of one list among another's, by their places ===== -/
theorem goodIn_r {big : List Cond} (ws : List Cond) (ps : List Nat) (hp : ws = ps.filterMap (fun i => big[i]?)) (h : ws.all goodWord = true) : GoodIn big ws := by
  intro w hw
  have h1 := List.all_eq_true.mp h w hw
  rw [hp] at hw
  obtain ⟨i, -, hi⟩ := List.mem_filterMap.mp hw
  have hm : w ∈ big := by first | exact List.mem_of_getElem? hi | exact List.getElem?_mem hi
  exact ⟨hm, good_of_word h1⟩
theorem goodIn_app {big a b : List Cond} (ha : GoodIn big a) (hb : GoodIn big b) : GoodIn big (a ++ b) := fun w h => (List.mem_append.mp h).elim (ha w) (hb w)
theorem goodIn_ca {big a b : List Cond} {c : Cond} (ha : GoodIn big (c :: a)) (hb : GoodIn big b) : GoodIn big (c :: (a ++ b)) := fun w h => (List.mem_cons.mp h).elim (fun e => ha w (List.mem_cons.mpr (Or.inl e))) (fun h => (List.mem_append.mp h).elim (fun h => ha w (List.mem_cons.mpr (Or.inr h))) (hb w))
theorem goodIn_sub {big ws : List Cond} (hm : ∀ w ∈ ws, w ∈ big) (h : ws.all goodWord = true) : GoodIn big ws := fun w hw => ⟨hm w hw, good_of_word (List.all_eq_true.mp h w hw)⟩
/-! ===== END ===== -/

/-! ===== BEGIN printed: names, fields, word lists, decode rows ===== -/
def RX0 : String := "ThinVolumes$History"
def TX0 : u_T := fun k => match k with
  | 0 => ("ThinVolumes$History", "states", "[LThinVolumes$Pool;", true)
  | _ => ("ThinVolumes$History", "kept", "I", false)
def tyX0 : Nat → FieldType := fun k => match k with
  | 0 => .array (.object "ThinVolumes$Pool")
  | _ => .int
abbrev wsX00 : List Cond := u_ws RX0 TX0 2
theorem nmX0 : ∀ a, a < 2 → ∀ b, b < 2 → a ≠ b → (TX0 a).2.1 ≠ (TX0 b).2.1 := by decide +kernel
theorem tyX0_ok : ∀ k, k < 2 → parseFieldDescriptor (TX0 k).2.2.1 = some (tyX0 k) := by decide +kernel
abbrev cX0_init : ByteArray := prog_2_method_1_code
def yX0_init : MethodName := ⟨RX0, "<init>", "()V"⟩
abbrev cX0_prepare : ByteArray := prog_2_method_2_code
def yX0_prepare : MethodName := ⟨RX0, "prepare", "(LThinVolumes$Pool;)V"⟩
abbrev cX0_keepPrepared : ByteArray := prog_2_method_3_code
def yX0_keepPrepared : MethodName := ⟨RX0, "keepPrepared", "()V"⟩
abbrev cX0_dropOldest : ByteArray := prog_2_method_4_code
def yX0_dropOldest : MethodName := ⟨RX0, "dropOldest", "()V"⟩
abbrev cX0_copyInto : ByteArray := prog_2_method_5_code
def yX0_copyInto : MethodName := ⟨RX0, "copyInto", "(ILThinVolumes$Pool;)V"⟩
abbrev cX0_restore : ByteArray := prog_2_method_6_code
def yX0_restore : MethodName := ⟨RX0, "restore", "(LThinVolumes$Pool;)Z"⟩
def RX1 : String := "ThinVolumes$Pool"
def TX1 : u_T := fun k => match k with
  | 0 => ("ThinVolumes$Pool", "sizes", "[I", true)
  | 1 => ("ThinVolumes$Pool", "manners", "[I", true)
  | 2 => ("ThinVolumes$Pool", "promises", "[I", true)
  | 3 => ("ThinVolumes$Pool", "parents", "[I", true)
  | 4 => ("ThinVolumes$Pool", "refusalsOf", "[I", true)
  | 5 => ("ThinVolumes$Pool", "piecesGotBy", "[I", true)
  | 6 => ("ThinVolumes$Pool", "spots", "[I", true)
  | 7 => ("ThinVolumes$Pool", "values", "[I", true)
  | 8 => ("ThinVolumes$Pool", "owners", "[I", true)
  | 9 => ("ThinVolumes$Pool", "settings", "[I", true)
  | 10 => ("ThinVolumes$Pool", "warnings", "LThinVolumes$Warnings;", true)
  | 11 => ("ThinVolumes$Pool", "refusals", "I", false)
  | 12 => ("ThinVolumes$Pool", "piecesGot", "I", false)
  | _ => ("ThinVolumes$Pool", "piecesFreed", "I", false)
def tyX1 : Nat → FieldType := fun k => match k with
  | 0 => .array .int
  | 1 => .array .int
  | 2 => .array .int
  | 3 => .array .int
  | 4 => .array .int
  | 5 => .array .int
  | 6 => .array .int
  | 7 => .array .int
  | 8 => .array .int
  | 9 => .array .int
  | 10 => .object "ThinVolumes$Warnings"
  | 11 => .int
  | 12 => .int
  | _ => .int
abbrev wsX10 : List Cond := u_ws RX1 TX1 14
theorem nmX1 : ∀ a, a < 14 → ∀ b, b < 14 → a ≠ b → (TX1 a).2.1 ≠ (TX1 b).2.1 := by decide +kernel
theorem tyX1_ok : ∀ k, k < 14 → parseFieldDescriptor (TX1 k).2.2.1 = some (tyX1 k) := by decide +kernel
abbrev cX1_init : ByteArray := prog_3_method_1_code
def yX1_init : MethodName := ⟨RX1, "<init>", "()V"⟩
abbrev cX1_copyFrom : ByteArray := prog_3_method_2_code
def yX1_copyFrom : MethodName := ⟨RX1, "copyFrom", "(LThinVolumes$Pool;)V"⟩
abbrev cX1_lives : ByteArray := prog_3_method_3_code
def yX1_lives : MethodName := ⟨RX1, "lives", "(I)Z"⟩
abbrev cX1_hasPlace : ByteArray := prog_3_method_4_code
def yX1_hasPlace : MethodName := ⟨RX1, "hasPlace", "(II)Z"⟩
abbrev cX1_isPiece : ByteArray := prog_3_method_5_code
def yX1_isPiece : MethodName := ⟨RX1, "isPiece", "(I)Z"⟩
abbrev cX1_pieceAt : ByteArray := prog_3_method_6_code
def yX1_pieceAt : MethodName := ⟨RX1, "pieceAt", "(II)I"⟩
abbrev cX1_valueOf : ByteArray := prog_3_method_7_code
def yX1_valueOf : MethodName := ⟨RX1, "valueOf", "(I)I"⟩
abbrev cX1_volumesThatLive : ByteArray := prog_3_method_8_code
def yX1_volumesThatLive : MethodName := ⟨RX1, "volumesThatLive", "()I"⟩
abbrev cX1_allSizes : ByteArray := prog_3_method_9_code
def yX1_allSizes : MethodName := ⟨RX1, "allSizes", "()I"⟩
abbrev cX1_allPromises : ByteArray := prog_3_method_10_code
def yX1_allPromises : MethodName := ⟨RX1, "allPromises", "()I"⟩
abbrev cX1_allOwners : ByteArray := prog_3_method_11_code
def yX1_allOwners : MethodName := ⟨RX1, "allOwners", "()I"⟩
abbrev cX1_freePieces : ByteArray := prog_3_method_12_code
def yX1_freePieces : MethodName := ⟨RX1, "freePieces", "()I"⟩
abbrev cX1_sharedPieces : ByteArray := prog_3_method_13_code
def yX1_sharedPieces : MethodName := ⟨RX1, "sharedPieces", "()I"⟩
abbrev cX1_placesWithPieces : ByteArray := prog_3_method_14_code
def yX1_placesWithPieces : MethodName := ⟨RX1, "placesWithPieces", "(I)I"⟩
abbrev cX1_volumesThatOwn : ByteArray := prog_3_method_15_code
def yX1_volumesThatOwn : MethodName := ⟨RX1, "volumesThatOwn", "(I)I"⟩
abbrev cX1_piecesOwnedOnlyBy : ByteArray := prog_3_method_16_code
def yX1_piecesOwnedOnlyBy : MethodName := ⟨RX1, "piecesOwnedOnlyBy", "(I)I"⟩
abbrev cX1_clonesOf : ByteArray := prog_3_method_17_code
def yX1_clonesOf : MethodName := ⟨RX1, "clonesOf", "(I)I"⟩
abbrev cX1_stepsUp : ByteArray := prog_3_method_18_code
def yX1_stepsUp : MethodName := ⟨RX1, "stepsUp", "(II)I"⟩
abbrev cX1_familyOf : ByteArray := prog_3_method_19_code
def yX1_familyOf : MethodName := ⟨RX1, "familyOf", "(I)I"⟩
abbrev cX1_longestLineFrom : ByteArray := prog_3_method_20_code
def yX1_longestLineFrom : MethodName := ⟨RX1, "longestLineFrom", "(I)I"⟩
abbrev cX1_available : ByteArray := prog_3_method_21_code
def yX1_available : MethodName := ⟨RX1, "available", "()I"⟩
abbrev cX1_level : ByteArray := prog_3_method_22_code
def yX1_level : MethodName := ⟨RX1, "level", "()I"⟩
abbrev cX1_levelWith : ByteArray := prog_3_method_23_code
def yX1_levelWith : MethodName := ⟨RX1, "levelWith", "(I)I"⟩
abbrev cX1_rankWith : ByteArray := prog_3_method_24_code
def yX1_rankWith : MethodName := ⟨RX1, "rankWith", "(II)I"⟩
abbrev cX1_volumeWithRank : ByteArray := prog_3_method_25_code
def yX1_volumeWithRank : MethodName := ⟨RX1, "volumeWithRank", "(I)I"⟩
abbrev cX1_wouldGetUnpromised : ByteArray := prog_3_method_26_code
def yX1_wouldGetUnpromised : MethodName := ⟨RX1, "wouldGetUnpromised", "(III)Z"⟩
abbrev cX1_mannersBehindUnpromised : ByteArray := prog_3_method_27_code
def yX1_mannersBehindUnpromised : MethodName := ⟨RX1, "mannersBehindUnpromised", "(II)I"⟩
abbrev cX1_piecesInReach : ByteArray := prog_3_method_28_code
def yX1_piecesInReach : MethodName := ⟨RX1, "piecesInReach", "(I)I"⟩
abbrev cX1_warnIfLevelRose : ByteArray := prog_3_method_29_code
def yX1_warnIfLevelRose : MethodName := ⟨RX1, "warnIfLevelRose", "(I)V"⟩
abbrev cX1_openVolume : ByteArray := prog_3_method_30_code
def yX1_openVolume : MethodName := ⟨RX1, "openVolume", "(I)I"⟩
abbrev cX1_cloneVolume : ByteArray := prog_3_method_31_code
def yX1_cloneVolume : MethodName := ⟨RX1, "cloneVolume", "(I)I"⟩
abbrev cX1_dropVolume : ByteArray := prog_3_method_32_code
def yX1_dropVolume : MethodName := ⟨RX1, "dropVolume", "(I)I"⟩
abbrev cX1_changePromise : ByteArray := prog_3_method_33_code
def yX1_changePromise : MethodName := ⟨RX1, "changePromise", "(II)I"⟩
abbrev cX1_changeSetting : ByteArray := prog_3_method_34_code
def yX1_changeSetting : MethodName := ⟨RX1, "changeSetting", "(II)I"⟩
abbrev cX1_highestSetting : ByteArray := prog_3_method_35_code
def yX1_highestSetting : MethodName := ⟨RX1, "highestSetting", "(I)I"⟩
abbrev cX1_writePlace : ByteArray := prog_3_method_36_code
def yX1_writePlace : MethodName := ⟨RX1, "writePlace", "(III)I"⟩
abbrev cX1_lowestFreePiece : ByteArray := prog_3_method_37_code
def yX1_lowestFreePiece : MethodName := ⟨RX1, "lowestFreePiece", "()I"⟩
abbrev cX1_refuse : ByteArray := prog_3_method_38_code
def yX1_refuse : MethodName := ⟨RX1, "refuse", "(I)V"⟩
abbrev cX1_bookPiece : ByteArray := prog_3_method_39_code
def yX1_bookPiece : MethodName := ⟨RX1, "bookPiece", "(IZI)V"⟩
abbrev cX1_trimPlace : ByteArray := prog_3_method_40_code
def yX1_trimPlace : MethodName := ⟨RX1, "trimPlace", "(II)I"⟩
abbrev cX1_sweepVolume : ByteArray := prog_3_method_41_code
def yX1_sweepVolume : MethodName := ⟨RX1, "sweepVolume", "(I)I"⟩
abbrev cX1_thank : ByteArray := prog_3_method_42_code
def yX1_thank : MethodName := ⟨RX1, "thank", "(II)V"⟩
abbrev cX1_loosen : ByteArray := prog_3_method_43_code
def yX1_loosen : MethodName := ⟨RX1, "loosen", "(II)I"⟩
abbrev cX1_mergePieces : ByteArray := prog_3_method_44_code
def yX1_mergePieces : MethodName := ⟨RX1, "mergePieces", "()I"⟩
abbrev cX1_moveOwners : ByteArray := prog_3_method_45_code
def yX1_moveOwners : MethodName := ⟨RX1, "moveOwners", "(II)V"⟩
def RX2 : String := "ThinVolumes$Rehearsal"
def TX2 : u_T := fun k => match k with
  | 0 => ("ThinVolumes$Rehearsal", "trial", "LThinVolumes$Pool;", true)
  | 1 => ("ThinVolumes$Rehearsal", "position", "I", false)
  | _ => ("ThinVolumes$Rehearsal", "reason", "I", false)
def tyX2 : Nat → FieldType := fun k => match k with
  | 0 => .object "ThinVolumes$Pool"
  | 1 => .int
  | _ => .int
abbrev wsX20 : List Cond := u_ws RX2 TX2 3
theorem nmX2 : ∀ a, a < 3 → ∀ b, b < 3 → a ≠ b → (TX2 a).2.1 ≠ (TX2 b).2.1 := by decide +kernel
theorem tyX2_ok : ∀ k, k < 3 → parseFieldDescriptor (TX2 k).2.2.1 = some (tyX2 k) := by decide +kernel
abbrev cX2_init : ByteArray := prog_4_method_1_code
def yX2_init : MethodName := ⟨RX2, "<init>", "()V"⟩
abbrev cX2_perform : ByteArray := prog_4_method_2_code
def yX2_perform : MethodName := ⟨RX2, "perform", "(LThinVolumes$Text;LThinVolumes$Pool;)V"⟩
abbrev cX2_obey : ByteArray := prog_4_method_3_code
def yX2_obey : MethodName := ⟨RX2, "obey", "(LThinVolumes$Text;)I"⟩
abbrev cX2_reasonOf : ByteArray := prog_4_method_4_code
def yX2_reasonOf : MethodName := ⟨RX2, "reasonOf", "(I)I"⟩
def RX3 : String := "ThinVolumes$Text"
def TX3 : u_T := fun k => match k with
  | 0 => ("ThinVolumes$Text", "signs", "[I", true)
  | 1 => ("ThinVolumes$Text", "length", "I", false)
  | 2 => ("ThinVolumes$Text", "kind", "I", false)
  | 3 => ("ThinVolumes$Text", "numbers", "[I", true)
  | _ => ("ThinVolumes$Text", "next", "I", false)
def tyX3 : Nat → FieldType := fun k => match k with
  | 0 => .array .int
  | 1 => .int
  | 2 => .int
  | 3 => .array .int
  | _ => .int
abbrev wsX30 : List Cond := u_ws RX3 TX3 5
theorem nmX3 : ∀ a, a < 5 → ∀ b, b < 5 → a ≠ b → (TX3 a).2.1 ≠ (TX3 b).2.1 := by decide +kernel
theorem tyX3_ok : ∀ k, k < 5 → parseFieldDescriptor (TX3 k).2.2.1 = some (tyX3 k) := by decide +kernel
abbrev cX3_init : ByteArray := prog_5_method_1_code
def yX3_init : MethodName := ⟨RX3, "<init>", "()V"⟩
abbrev cX3_append : ByteArray := prog_5_method_2_code
def yX3_append : MethodName := ⟨RX3, "append", "(I)Z"⟩
abbrev cX3_readOrder : ByteArray := prog_5_method_3_code
def yX3_readOrder : MethodName := ⟨RX3, "readOrder", "(I)Z"⟩
abbrev cX3_numbersDue : ByteArray := prog_5_method_4_code
def yX3_numbersDue : MethodName := ⟨RX3, "numbersDue", "(I)I"⟩
abbrev cX3_signHere : ByteArray := prog_5_method_5_code
def yX3_signHere : MethodName := ⟨RX3, "signHere", "()I"⟩
abbrev cX3_passes : ByteArray := prog_5_method_6_code
def yX3_passes : MethodName := ⟨RX3, "passes", "(I)Z"⟩
abbrev cX3_readNumber : ByteArray := prog_5_method_7_code
def yX3_readNumber : MethodName := ⟨RX3, "readNumber", "()I"⟩
abbrev cX3_readDigit : ByteArray := prog_5_method_8_code
def yX3_readDigit : MethodName := ⟨RX3, "readDigit", "()I"⟩
def RX4 : String := "ThinVolumes$Warnings"
def TX4 : u_T := fun k => match k with
  | 0 => ("ThinVolumes$Warnings", "kinds", "[I", true)
  | 1 => ("ThinVolumes$Warnings", "volumes", "[I", true)
  | 2 => ("ThinVolumes$Warnings", "available", "[I", true)
  | _ => ("ThinVolumes$Warnings", "kept", "I", false)
def tyX4 : Nat → FieldType := fun k => match k with
  | 0 => .array .int
  | 1 => .array .int
  | 2 => .array .int
  | _ => .int
abbrev wsX40 : List Cond := u_ws RX4 TX4 4
theorem nmX4 : ∀ a, a < 4 → ∀ b, b < 4 → a ≠ b → (TX4 a).2.1 ≠ (TX4 b).2.1 := by decide +kernel
theorem tyX4_ok : ∀ k, k < 4 → parseFieldDescriptor (TX4 k).2.2.1 = some (tyX4 k) := by decide +kernel
abbrev cX4_init : ByteArray := prog_6_method_1_code
def yX4_init : MethodName := ⟨RX4, "<init>", "()V"⟩
abbrev cX4_copyFrom : ByteArray := prog_6_method_2_code
def yX4_copyFrom : MethodName := ⟨RX4, "copyFrom", "(LThinVolumes$Warnings;)V"⟩
abbrev cX4_add : ByteArray := prog_6_method_3_code
def yX4_add : MethodName := ⟨RX4, "add", "(III)V"⟩
abbrev cX4_tell : ByteArray := prog_6_method_4_code
def yX4_tell : MethodName := ⟨RX4, "tell", "(II)I"⟩
def RX5 : String := "ThinVolumes"
def TX5 : u_T := fun k => match k with
  | 0 => ("ThinVolumes", "pool", "LThinVolumes$Pool;", true)
  | 1 => ("ThinVolumes", "history", "LThinVolumes$History;", true)
  | 2 => ("ThinVolumes", "text", "LThinVolumes$Text;", true)
  | _ => ("ThinVolumes", "rehearsal", "LThinVolumes$Rehearsal;", true)
def tyX5 : Nat → FieldType := fun k => match k with
  | 0 => .object "ThinVolumes$Pool"
  | 1 => .object "ThinVolumes$History"
  | 2 => .object "ThinVolumes$Text"
  | _ => .object "ThinVolumes$Rehearsal"
abbrev wsX50 : List Cond := u_ws RX5 TX5 4
theorem nmX5 : ∀ a, a < 4 → ∀ b, b < 4 → a ≠ b → (TX5 a).2.1 ≠ (TX5 b).2.1 := by decide +kernel
theorem tyX5_ok : ∀ k, k < 4 → parseFieldDescriptor (TX5 k).2.2.1 = some (tyX5 k) := by decide +kernel
abbrev cX5_init : ByteArray := prog_1_method_1_code
def yX5_init : MethodName := ⟨RX5, "<init>", "()V"⟩
abbrev cX5_volume : ByteArray := prog_1_method_2_code
def yX5_volume : MethodName := ⟨RX5, "volume", "(I)I"⟩
abbrev cX5_share : ByteArray := prog_1_method_3_code
def yX5_share : MethodName := ⟨RX5, "share", "(I)I"⟩
abbrev cX5_drop : ByteArray := prog_1_method_4_code
def yX5_drop : MethodName := ⟨RX5, "drop", "(I)I"⟩
abbrev cX5_promise : ByteArray := prog_1_method_5_code
def yX5_promise : MethodName := ⟨RX5, "promise", "(II)I"⟩
abbrev cX5_set : ByteArray := prog_1_method_6_code
def yX5_set : MethodName := ⟨RX5, "set", "(II)I"⟩
abbrev cX5_write : ByteArray := prog_1_method_7_code
def yX5_write : MethodName := ⟨RX5, "write", "(III)I"⟩
abbrev cX5_trim : ByteArray := prog_1_method_8_code
def yX5_trim : MethodName := ⟨RX5, "trim", "(II)I"⟩
abbrev cX5_sweep : ByteArray := prog_1_method_9_code
def yX5_sweep : MethodName := ⟨RX5, "sweep", "(I)I"⟩
abbrev cX5_merge : ByteArray := prog_1_method_10_code
def yX5_merge : MethodName := ⟨RX5, "merge", "()I"⟩
abbrev cX5_read : ByteArray := prog_1_method_11_code
def yX5_read : MethodName := ⟨RX5, "read", "(III)I"⟩
abbrev cX5_volumeOf : ByteArray := prog_1_method_12_code
def yX5_volumeOf : MethodName := ⟨RX5, "volumeOf", "(II)I"⟩
abbrev cX5_pieceOf : ByteArray := prog_1_method_13_code
def yX5_pieceOf : MethodName := ⟨RX5, "pieceOf", "(II)I"⟩
abbrev cX5_warningOf : ByteArray := prog_1_method_14_code
def yX5_warningOf : MethodName := ⟨RX5, "warningOf", "(II)I"⟩
abbrev cX5_couldGet : ByteArray := prog_1_method_15_code
def yX5_couldGet : MethodName := ⟨RX5, "couldGet", "(I)I"⟩
abbrev cX5_couldFree : ByteArray := prog_1_method_16_code
def yX5_couldFree : MethodName := ⟨RX5, "couldFree", "(I)I"⟩
abbrev cX5_family : ByteArray := prog_1_method_17_code
def yX5_family : MethodName := ⟨RX5, "family", "(II)I"⟩
abbrev cX5_ranked : ByteArray := prog_1_method_18_code
def yX5_ranked : MethodName := ⟨RX5, "ranked", "(I)I"⟩
abbrev cX5_over : ByteArray := prog_1_method_19_code
def yX5_over : MethodName := ⟨RX5, "over", "(I)I"⟩
abbrev cX5_count : ByteArray := prog_1_method_20_code
def yX5_count : MethodName := ⟨RX5, "count", "(I)I"⟩
abbrev cX5_undo : ByteArray := prog_1_method_21_code
def yX5_undo : MethodName := ⟨RX5, "undo", "()I"⟩
abbrev cX5_type : ByteArray := prog_1_method_22_code
def yX5_type : MethodName := ⟨RX5, "type", "(I)I"⟩
abbrev cX5_clearText : ByteArray := prog_1_method_23_code
def yX5_clearText : MethodName := ⟨RX5, "clearText", "()I"⟩
abbrev cX5_fault : ByteArray := prog_1_method_24_code
def yX5_fault : MethodName := ⟨RX5, "fault", "(I)I"⟩
abbrev cX5_play : ByteArray := prog_1_method_25_code
def yX5_play : MethodName := ⟨RX5, "play", "()I"⟩
abbrev cX5_settle : ByteArray := prog_1_method_26_code
def yX5_settle : MethodName := ⟨RX5, "settle", "(I)I"⟩
abbrev cX5_isError : ByteArray := prog_1_method_27_code
def yX5_isError : MethodName := ⟨RX5, "isError", "(I)Z"⟩
abbrev cX5_commonDivisorWithPieces : ByteArray := prog_1_method_28_code
def yX5_commonDivisorWithPieces : MethodName := ⟨RX5, "commonDivisorWithPieces", "(I)I"⟩
def RX6 : String := "ThinVolumesModel"
def TX6 : u_T := fun k => match k with
  | 0 => ("ThinVolumesModel", "s", "[I", true)
  | 1 => ("ThinVolumesModel", "past", "[I", true)
  | 2 => ("ThinVolumesModel", "held", "[I", true)
  | 3 => ("ThinVolumesModel", "tried", "[I", true)
  | 4 => ("ThinVolumesModel", "pasts", "I", false)
  | 5 => ("ThinVolumesModel", "runs", "Z", false)
  | 6 => ("ThinVolumesModel", "text", "[I", true)
  | 7 => ("ThinVolumesModel", "typed", "I", false)
  | 8 => ("ThinVolumesModel", "spot", "I", false)
  | 9 => ("ThinVolumesModel", "reason", "I", false)
  | 10 => ("ThinVolumesModel", "refusals", "I", false)
  | _ => ("ThinVolumesModel", "told", "[I", true)
def tyX6 : Nat → FieldType := fun k => match k with
  | 0 => .array .int
  | 1 => .array .int
  | 2 => .array .int
  | 3 => .array .int
  | 4 => .int
  | 5 => .boolean
  | 6 => .array .int
  | 7 => .int
  | 8 => .int
  | 9 => .int
  | 10 => .int
  | _ => .array .int
abbrev wsX60 : List Cond := u_ws RX6 TX6 12
theorem nmX6 : ∀ a, a < 12 → ∀ b, b < 12 → a ≠ b → (TX6 a).2.1 ≠ (TX6 b).2.1 := by decide +kernel
theorem tyX6_ok : ∀ k, k < 12 → parseFieldDescriptor (TX6 k).2.2.1 = some (tyX6 k) := by decide +kernel
abbrev cX6_init : ByteArray := prog_8_method_1_code
def yX6_init : MethodName := ⟨RX6, "<init>", "()V"⟩
abbrev cX6_in : ByteArray := prog_8_method_3_code
def yX6_in : MethodName := ⟨RX6, "in", "(III)Z"⟩
abbrev cX6_copies : ByteArray := prog_8_method_4_code
def yX6_copies : MethodName := ⟨RX6, "copies", "([I[I)V"⟩
abbrev cX6_changes : ByteArray := prog_8_method_5_code
def yX6_changes : MethodName := ⟨RX6, "changes", "()V"⟩
abbrev cX6_of : ByteArray := prog_8_method_6_code
def yX6_of : MethodName := ⟨RX6, "of", "(II)I"⟩
abbrev cX6_puts : ByteArray := prog_8_method_7_code
def yX6_puts : MethodName := ⟨RX6, "puts", "(III)V"⟩
abbrev cX6_isVolume : ByteArray := prog_8_method_8_code
def yX6_isVolume : MethodName := ⟨RX6, "isVolume", "(I)Z"⟩
abbrev cX6_isPlace : ByteArray := prog_8_method_9_code
def yX6_isPlace : MethodName := ⟨RX6, "isPlace", "(II)Z"⟩
abbrev cX6_piece : ByteArray := prog_8_method_10_code
def yX6_piece : MethodName := ⟨RX6, "piece", "(II)I"⟩
abbrev cX6_ownersIn : ByteArray := prog_8_method_11_code
def yX6_ownersIn : MethodName := ⟨RX6, "ownersIn", "(II)I"⟩
abbrev cX6_owners : ByteArray := prog_8_method_12_code
def yX6_owners : MethodName := ⟨RX6, "owners", "(I)I"⟩
abbrev cX6_free : ByteArray := prog_8_method_13_code
def yX6_free : MethodName := ⟨RX6, "free", "()I"⟩
abbrev cX6_promises : ByteArray := prog_8_method_14_code
def yX6_promises : MethodName := ⟨RX6, "promises", "()I"⟩
abbrev cX6_levelBy : ByteArray := prog_8_method_15_code
def yX6_levelBy : MethodName := ⟨RX6, "levelBy", "(I)I"⟩
abbrev cX6_available : ByteArray := prog_8_method_16_code
def yX6_available : MethodName := ⟨RX6, "available", "()I"⟩
abbrev cX6_best : ByteArray := prog_8_method_17_code
def yX6_best : MethodName := ⟨RX6, "best", "()I"⟩
abbrev cX6_behaves : ByteArray := prog_8_method_18_code
def yX6_behaves : MethodName := ⟨RX6, "behaves", "(II)V"⟩
abbrev cX6_asks : ByteArray := prog_8_method_19_code
def yX6_asks : MethodName := ⟨RX6, "asks", "(II)I"⟩
abbrev cX6_warns : ByteArray := prog_8_method_20_code
def yX6_warns : MethodName := ⟨RX6, "warns", "(II)V"⟩
abbrev cX6_ends : ByteArray := prog_8_method_21_code
def yX6_ends : MethodName := ⟨RX6, "ends", "(I)V"⟩
abbrev cX6_free8 : ByteArray := prog_8_method_22_code
def yX6_free8 : MethodName := ⟨RX6, "free8", "()I"⟩
abbrev cX6_begins : ByteArray := prog_8_method_23_code
def yX6_begins : MethodName := ⟨RX6, "begins", "(II)V"⟩
abbrev cX6_volume : ByteArray := prog_8_method_24_code
def yX6_volume : MethodName := ⟨RX6, "volume", "(I)I"⟩
abbrev cX6_share : ByteArray := prog_8_method_25_code
def yX6_share : MethodName := ⟨RX6, "share", "(I)I"⟩
abbrev cX6_trims : ByteArray := prog_8_method_26_code
def yX6_trims : MethodName := ⟨RX6, "trims", "(II)I"⟩
abbrev cX6_drop : ByteArray := prog_8_method_27_code
def yX6_drop : MethodName := ⟨RX6, "drop", "(I)I"⟩
abbrev cX6_promise : ByteArray := prog_8_method_28_code
def yX6_promise : MethodName := ⟨RX6, "promise", "(II)I"⟩
abbrev cX6_set : ByteArray := prog_8_method_29_code
def yX6_set : MethodName := ⟨RX6, "set", "(II)I"⟩
abbrev cX6_lowestFree : ByteArray := prog_8_method_30_code
def yX6_lowestFree : MethodName := ⟨RX6, "lowestFree", "()I"⟩
abbrev cX6_write : ByteArray := prog_8_method_31_code
def yX6_write : MethodName := ⟨RX6, "write", "(III)I"⟩
abbrev cX6_trim : ByteArray := prog_8_method_32_code
def yX6_trim : MethodName := ⟨RX6, "trim", "(II)I"⟩
abbrev cX6_sweeps : ByteArray := prog_8_method_33_code
def yX6_sweeps : MethodName := ⟨RX6, "sweeps", "(I)I"⟩
abbrev cX6_sweep : ByteArray := prog_8_method_34_code
def yX6_sweep : MethodName := ⟨RX6, "sweep", "(I)I"⟩
abbrev cX6_moves : ByteArray := prog_8_method_35_code
def yX6_moves : MethodName := ⟨RX6, "moves", "(II)V"⟩
abbrev cX6_merges : ByteArray := prog_8_method_36_code
def yX6_merges : MethodName := ⟨RX6, "merges", "()I"⟩
abbrev cX6_merge : ByteArray := prog_8_method_37_code
def yX6_merge : MethodName := ⟨RX6, "merge", "()I"⟩
abbrev cX6_read : ByteArray := prog_8_method_38_code
def yX6_read : MethodName := ⟨RX6, "read", "(III)I"⟩
abbrev cX6_rank : ByteArray := prog_8_method_39_code
def yX6_rank : MethodName := ⟨RX6, "rank", "(I)I"⟩
abbrev cX6_clones : ByteArray := prog_8_method_40_code
def yX6_clones : MethodName := ⟨RX6, "clones", "(I)I"⟩
abbrev cX6_volumesOf : ByteArray := prog_8_method_41_code
def yX6_volumesOf : MethodName := ⟨RX6, "volumesOf", "(I)I"⟩
abbrev cX6_ownedBy : ByteArray := prog_8_method_42_code
def yX6_ownedBy : MethodName := ⟨RX6, "ownedBy", "(I)I"⟩
abbrev cX6_filled : ByteArray := prog_8_method_43_code
def yX6_filled : MethodName := ⟨RX6, "filled", "(I)I"⟩
abbrev cX6_volumeOf : ByteArray := prog_8_method_44_code
def yX6_volumeOf : MethodName := ⟨RX6, "volumeOf", "(II)I"⟩
abbrev cX6_pieceOf : ByteArray := prog_8_method_45_code
def yX6_pieceOf : MethodName := ⟨RX6, "pieceOf", "(II)I"⟩
abbrev cX6_warningOf : ByteArray := prog_8_method_46_code
def yX6_warningOf : MethodName := ⟨RX6, "warningOf", "(II)I"⟩
abbrev cX6_couldGet : ByteArray := prog_8_method_47_code
def yX6_couldGet : MethodName := ⟨RX6, "couldGet", "(I)I"⟩
abbrev cX6_couldFree : ByteArray := prog_8_method_48_code
def yX6_couldFree : MethodName := ⟨RX6, "couldFree", "(I)I"⟩
abbrev cX6_family : ByteArray := prog_8_method_49_code
def yX6_family : MethodName := ⟨RX6, "family", "(II)I"⟩
abbrev cX6_ranked : ByteArray := prog_8_method_50_code
def yX6_ranked : MethodName := ⟨RX6, "ranked", "(I)I"⟩
abbrev cX6_living : ByteArray := prog_8_method_51_code
def yX6_living : MethodName := ⟨RX6, "living", "(I)I"⟩
abbrev cX6_over : ByteArray := prog_8_method_52_code
def yX6_over : MethodName := ⟨RX6, "over", "(I)I"⟩
abbrev cX6_shared : ByteArray := prog_8_method_53_code
def yX6_shared : MethodName := ⟨RX6, "shared", "()I"⟩
abbrev cX6_count : ByteArray := prog_8_method_54_code
def yX6_count : MethodName := ⟨RX6, "count", "(I)I"⟩
abbrev cX6_undo : ByteArray := prog_8_method_55_code
def yX6_undo : MethodName := ⟨RX6, "undo", "()I"⟩
abbrev cX6_type : ByteArray := prog_8_method_56_code
def yX6_type : MethodName := ⟨RX6, "type", "(I)I"⟩
abbrev cX6_clearText : ByteArray := prog_8_method_57_code
def yX6_clearText : MethodName := ⟨RX6, "clearText", "()I"⟩
abbrev cX6_isAt : ByteArray := prog_8_method_58_code
def yX6_isAt : MethodName := ⟨RX6, "isAt", "(II)Z"⟩
abbrev cX6_number : ByteArray := prog_8_method_59_code
def yX6_number : MethodName := ⟨RX6, "number", "(II)Z"⟩
abbrev cX6_isForm : ByteArray := prog_8_method_60_code
def yX6_isForm : MethodName := ⟨RX6, "isForm", "(II)Z"⟩
abbrev cX6_isDone : ByteArray := prog_8_method_61_code
def yX6_isDone : MethodName := ⟨RX6, "isDone", "(I)I"⟩
abbrev cX6_does : ByteArray := prog_8_method_62_code
def yX6_does : MethodName := ⟨RX6, "does", "()I"⟩
abbrev cX6_plays : ByteArray := prog_8_method_63_code
def yX6_plays : MethodName := ⟨RX6, "plays", "()I"⟩
abbrev cX6_fault : ByteArray := prog_8_method_64_code
def yX6_fault : MethodName := ⟨RX6, "fault", "(I)I"⟩
abbrev cX6_play : ByteArray := prog_8_method_65_code
def yX6_play : MethodName := ⟨RX6, "play", "()I"⟩
def RJ9 : String := "java/lang/Math"
def TJ9 : u_T := fun k => match k with
  | _ => ("", "", "", false)
def tyJ9 : Nat → FieldType := fun k => match k with
  | _ => .int
abbrev wsJ90 : List Cond := u_ws RJ9 TJ9 0
theorem nmJ9 : ∀ a, a < 0 → ∀ b, b < 0 → a ≠ b → (TJ9 a).2.1 ≠ (TJ9 b).2.1 := by decide +kernel
theorem tyJ9_ok : ∀ k, k < 0 → parseFieldDescriptor (TJ9 k).2.2.1 = some (tyJ9 k) := by decide +kernel
abbrev cJ9_max_7cf53 : ByteArray := prog_9_method_65_code
def yJ9_max_7cf53 : MethodName := ⟨RJ9, "max", "(II)I"⟩
abbrev cJ9_min_7cf53 : ByteArray := prog_9_method_69_code
def yJ9_min_7cf53 : MethodName := ⟨RJ9, "min", "(II)I"⟩
def RJ10 : String := "java/lang/System"
def TJ10 : u_T := fun k => match k with
  | _ => ("", "", "", false)
def tyJ10 : Nat → FieldType := fun k => match k with
  | _ => .int
abbrev wsJ100 : List Cond := u_ws RJ10 TJ10 0
theorem nmJ10 : ∀ a, a < 0 → ∀ b, b < 0 → a ≠ b → (TJ10 a).2.1 ≠ (TJ10 b).2.1 := by decide +kernel
theorem tyJ10_ok : ∀ k, k < 0 → parseFieldDescriptor (TJ10 k).2.2.1 = some (tyJ10 k) := by decide +kernel
def RL : String := "ThinVolumesLaw"
abbrev cL_law : ByteArray := code
def yL_law : MethodName := ⟨RL, "law", "([I)Z"⟩
def wsX4_init : List Cond := .code yX4_init cX4_init 1 none :: ([.methodLink RX4 3 objectInit, .instanceMethod objectInit, .code objectInit ⟨#[0xb1]⟩ 1 none, .arrayClass .int, .fieldLink RX4 9 "ThinVolumes$Warnings" "kinds" "[I", .fieldLink RX4 15 "ThinVolumes$Warnings" "volumes" "[I", .fieldLink RX4 18 "ThinVolumes$Warnings" "available" "[I"] ++ wsX40)
def wsX1_init : List Cond := .code yX1_init cX1_init 2 none :: ([.methodLink RX1 3 objectInit, .instanceMethod objectInit, .code objectInit ⟨#[0xb1]⟩ 1 none, .arrayClass .int, .fieldLink RX1 9 "ThinVolumes$Pool" "sizes" "[I", .fieldLink RX1 15 "ThinVolumes$Pool" "manners" "[I", .fieldLink RX1 18 "ThinVolumes$Pool" "promises" "[I", .fieldLink RX1 21 "ThinVolumes$Pool" "parents" "[I", .fieldLink RX1 24 "ThinVolumes$Pool" "refusalsOf" "[I", .fieldLink RX1 27 "ThinVolumes$Pool" "piecesGotBy" "[I", .fieldLink RX1 30 "ThinVolumes$Pool" "spots" "[I", .fieldLink RX1 33 "ThinVolumes$Pool" "values" "[I", .fieldLink RX1 36 "ThinVolumes$Pool" "owners" "[I", .fieldLink RX1 39 "ThinVolumes$Pool" "settings" "[I", .classLink RX1 42 RX4, .instantiable RX4 4, .initialized RX4, .fieldLink RX1 45 "ThinVolumes$Pool" "warnings" "LThinVolumes$Warnings;", .instanceMethod yX4_init, .code yX4_init cX4_init 1 none, .methodLink RX4 3 objectInit, .fieldLink RX4 9 "ThinVolumes$Warnings" "kinds" "[I", .fieldLink RX4 15 "ThinVolumes$Warnings" "volumes" "[I", .fieldLink RX4 18 "ThinVolumes$Warnings" "available" "[I"] ++ wsX10 ++ wsX40)
def wsX0_init_r1 : List Cond := [Cond.methodLink RX0 3 objectInit, Cond.instanceMethod objectInit, Cond.code objectInit ⟨#[0xb1]⟩ 1 none, Cond.classLink RX0 9 RX1, Cond.fieldLink RX0 11 "ThinVolumes$History" "states" "[LThinVolumes$Pool;", Cond.instantiable RX1 14, Cond.initialized RX1, Cond.methodLink RX0 17 yX1_init, Cond.instanceMethod yX1_init, Cond.code yX1_init cX1_init 2 none, Cond.methodLink RX1 3 objectInit, Cond.arrayClass .int, Cond.fieldLink RX1 9 "ThinVolumes$Pool" "sizes" "[I", Cond.fieldLink RX1 15 "ThinVolumes$Pool" "manners" "[I", Cond.fieldLink RX1 18 "ThinVolumes$Pool" "promises" "[I", Cond.fieldLink RX1 21 "ThinVolumes$Pool" "parents" "[I", Cond.fieldLink RX1 24 "ThinVolumes$Pool" "refusalsOf" "[I", Cond.fieldLink RX1 27 "ThinVolumes$Pool" "piecesGotBy" "[I", Cond.fieldLink RX1 30 "ThinVolumes$Pool" "spots" "[I", Cond.fieldLink RX1 33 "ThinVolumes$Pool" "values" "[I", Cond.fieldLink RX1 36 "ThinVolumes$Pool" "owners" "[I", Cond.fieldLink RX1 39 "ThinVolumes$Pool" "settings" "[I", Cond.classLink RX1 42 RX4, Cond.instantiable RX4 4]
def wsX0_init_r2 : List Cond := [Cond.initialized RX4, Cond.fieldLink RX1 45 "ThinVolumes$Pool" "warnings" "LThinVolumes$Warnings;", Cond.instanceMethod yX4_init, Cond.code yX4_init cX4_init 1 none, Cond.methodLink RX4 3 objectInit, Cond.fieldLink RX4 9 "ThinVolumes$Warnings" "kinds" "[I", Cond.fieldLink RX4 15 "ThinVolumes$Warnings" "volumes" "[I", Cond.fieldLink RX4 18 "ThinVolumes$Warnings" "available" "[I"]
def wsX0_init : List Cond := .code yX0_init cX0_init 2 none :: ((wsX0_init_r1 ++ wsX0_init_r2) ++ wsX00 ++ wsX10 ++ wsX40)
def wsX4_copyFrom : List Cond := .code yX4_copyFrom cX4_copyFrom 2 none :: ([.fieldLink RX4 9 "ThinVolumes$Warnings" "kinds" "[I", .methodLink RX4 21 arraycopyName, .native arraycopyName, .static arraycopyName, .initialized "java/lang/System", .fieldLink RX4 15 "ThinVolumes$Warnings" "volumes" "[I", .fieldLink RX4 18 "ThinVolumes$Warnings" "available" "[I", .fieldLink RX4 27 "ThinVolumes$Warnings" "kept" "I"] ++ wsX40)
def wsX1_copyFrom_r1 : List Cond := [Cond.fieldLink RX1 9 "ThinVolumes$Pool" "sizes" "[I", Cond.methodLink RX1 49 arraycopyName, Cond.native arraycopyName, Cond.static arraycopyName, Cond.initialized "java/lang/System", Cond.fieldLink RX1 15 "ThinVolumes$Pool" "manners" "[I", Cond.fieldLink RX1 18 "ThinVolumes$Pool" "promises" "[I", Cond.fieldLink RX1 21 "ThinVolumes$Pool" "parents" "[I", Cond.fieldLink RX1 24 "ThinVolumes$Pool" "refusalsOf" "[I", Cond.fieldLink RX1 27 "ThinVolumes$Pool" "piecesGotBy" "[I", Cond.fieldLink RX1 30 "ThinVolumes$Pool" "spots" "[I", Cond.fieldLink RX1 33 "ThinVolumes$Pool" "values" "[I", Cond.fieldLink RX1 36 "ThinVolumes$Pool" "owners" "[I", Cond.fieldLink RX1 39 "ThinVolumes$Pool" "settings" "[I", Cond.fieldLink RX1 45 "ThinVolumes$Pool" "warnings" "LThinVolumes$Warnings;", Cond.fieldLink RX1 59 "ThinVolumes$Pool" "refusals" "I", Cond.fieldLink RX1 63 "ThinVolumes$Pool" "piecesGot" "I", Cond.fieldLink RX1 66 "ThinVolumes$Pool" "piecesFreed" "I", Cond.methodLink RX1 55 yX4_copyFrom, Cond.instanceMethod yX4_copyFrom, Cond.selects RX4 yX4_copyFrom yX4_copyFrom, Cond.initialized RX4, Cond.code yX4_copyFrom cX4_copyFrom 2 none, Cond.fieldLink RX4 9 "ThinVolumes$Warnings" "kinds" "[I"]
def wsX1_copyFrom_r2 : List Cond := [Cond.methodLink RX4 21 arraycopyName, Cond.fieldLink RX4 15 "ThinVolumes$Warnings" "volumes" "[I", Cond.fieldLink RX4 18 "ThinVolumes$Warnings" "available" "[I", Cond.fieldLink RX4 27 "ThinVolumes$Warnings" "kept" "I"]
def wsX1_copyFrom : List Cond := .code yX1_copyFrom cX1_copyFrom 2 none :: ((wsX1_copyFrom_r1 ++ wsX1_copyFrom_r2) ++ wsX10 ++ wsX40)
def wsX0_copyInto_r1 : List Cond := [Cond.fieldLink RX0 11 "ThinVolumes$History" "states" "[LThinVolumes$Pool;", Cond.methodLink RX0 29 yX1_copyFrom, Cond.instanceMethod yX1_copyFrom, Cond.selects RX1 yX1_copyFrom yX1_copyFrom, Cond.initialized RX1, Cond.code yX1_copyFrom cX1_copyFrom 2 none, Cond.fieldLink RX1 9 "ThinVolumes$Pool" "sizes" "[I", Cond.methodLink RX1 49 arraycopyName, Cond.native arraycopyName, Cond.static arraycopyName, Cond.initialized "java/lang/System", Cond.fieldLink RX1 15 "ThinVolumes$Pool" "manners" "[I", Cond.fieldLink RX1 18 "ThinVolumes$Pool" "promises" "[I", Cond.fieldLink RX1 21 "ThinVolumes$Pool" "parents" "[I", Cond.fieldLink RX1 24 "ThinVolumes$Pool" "refusalsOf" "[I", Cond.fieldLink RX1 27 "ThinVolumes$Pool" "piecesGotBy" "[I", Cond.fieldLink RX1 30 "ThinVolumes$Pool" "spots" "[I", Cond.fieldLink RX1 33 "ThinVolumes$Pool" "values" "[I", Cond.fieldLink RX1 36 "ThinVolumes$Pool" "owners" "[I", Cond.fieldLink RX1 39 "ThinVolumes$Pool" "settings" "[I", Cond.fieldLink RX1 45 "ThinVolumes$Pool" "warnings" "LThinVolumes$Warnings;", Cond.fieldLink RX1 59 "ThinVolumes$Pool" "refusals" "I", Cond.fieldLink RX1 63 "ThinVolumes$Pool" "piecesGot" "I", Cond.fieldLink RX1 66 "ThinVolumes$Pool" "piecesFreed" "I"]
def wsX0_copyInto_r2 : List Cond := [Cond.methodLink RX1 55 yX4_copyFrom, Cond.instanceMethod yX4_copyFrom, Cond.selects RX4 yX4_copyFrom yX4_copyFrom, Cond.initialized RX4, Cond.code yX4_copyFrom cX4_copyFrom 2 none, Cond.fieldLink RX4 9 "ThinVolumes$Warnings" "kinds" "[I", Cond.methodLink RX4 21 arraycopyName, Cond.fieldLink RX4 15 "ThinVolumes$Warnings" "volumes" "[I", Cond.fieldLink RX4 18 "ThinVolumes$Warnings" "available" "[I", Cond.fieldLink RX4 27 "ThinVolumes$Warnings" "kept" "I"]
def wsX0_copyInto : List Cond := .code yX0_copyInto cX0_copyInto 3 none :: ((wsX0_copyInto_r1 ++ wsX0_copyInto_r2) ++ wsX00 ++ wsX10 ++ wsX40)
def wsX0_prepare_r1 : List Cond := [Cond.fieldLink RX0 18 "ThinVolumes$History" "kept" "I", Cond.methodLink RX0 22 yX0_copyInto, Cond.instanceMethod yX0_copyInto, Cond.selects RX0 yX0_copyInto yX0_copyInto, Cond.initialized RX0, Cond.code yX0_copyInto cX0_copyInto 3 none, Cond.fieldLink RX0 11 "ThinVolumes$History" "states" "[LThinVolumes$Pool;", Cond.methodLink RX0 29 yX1_copyFrom, Cond.instanceMethod yX1_copyFrom, Cond.selects RX1 yX1_copyFrom yX1_copyFrom, Cond.initialized RX1, Cond.code yX1_copyFrom cX1_copyFrom 2 none, Cond.fieldLink RX1 9 "ThinVolumes$Pool" "sizes" "[I", Cond.methodLink RX1 49 arraycopyName, Cond.native arraycopyName, Cond.static arraycopyName, Cond.initialized "java/lang/System", Cond.fieldLink RX1 15 "ThinVolumes$Pool" "manners" "[I", Cond.fieldLink RX1 18 "ThinVolumes$Pool" "promises" "[I", Cond.fieldLink RX1 21 "ThinVolumes$Pool" "parents" "[I", Cond.fieldLink RX1 24 "ThinVolumes$Pool" "refusalsOf" "[I", Cond.fieldLink RX1 27 "ThinVolumes$Pool" "piecesGotBy" "[I", Cond.fieldLink RX1 30 "ThinVolumes$Pool" "spots" "[I", Cond.fieldLink RX1 33 "ThinVolumes$Pool" "values" "[I"]
def wsX0_prepare_r2 : List Cond := [Cond.fieldLink RX1 36 "ThinVolumes$Pool" "owners" "[I", Cond.fieldLink RX1 39 "ThinVolumes$Pool" "settings" "[I", Cond.fieldLink RX1 45 "ThinVolumes$Pool" "warnings" "LThinVolumes$Warnings;", Cond.fieldLink RX1 59 "ThinVolumes$Pool" "refusals" "I", Cond.fieldLink RX1 63 "ThinVolumes$Pool" "piecesGot" "I", Cond.fieldLink RX1 66 "ThinVolumes$Pool" "piecesFreed" "I", Cond.methodLink RX1 55 yX4_copyFrom, Cond.instanceMethod yX4_copyFrom, Cond.selects RX4 yX4_copyFrom yX4_copyFrom, Cond.initialized RX4, Cond.code yX4_copyFrom cX4_copyFrom 2 none, Cond.fieldLink RX4 9 "ThinVolumes$Warnings" "kinds" "[I", Cond.methodLink RX4 21 arraycopyName, Cond.fieldLink RX4 15 "ThinVolumes$Warnings" "volumes" "[I", Cond.fieldLink RX4 18 "ThinVolumes$Warnings" "available" "[I", Cond.fieldLink RX4 27 "ThinVolumes$Warnings" "kept" "I"]
def wsX0_prepare : List Cond := .code yX0_prepare cX0_prepare 2 none :: ((wsX0_prepare_r1 ++ wsX0_prepare_r2) ++ wsX00 ++ wsX10 ++ wsX40)
def wsX0_dropOldest_r1 : List Cond := [Cond.fieldLink RX0 11 "ThinVolumes$History" "states" "[LThinVolumes$Pool;", Cond.fieldLink RX0 18 "ThinVolumes$History" "kept" "I", Cond.methodLink RX0 22 yX0_copyInto, Cond.instanceMethod yX0_copyInto, Cond.selects RX0 yX0_copyInto yX0_copyInto, Cond.initialized RX0, Cond.code yX0_copyInto cX0_copyInto 3 none, Cond.methodLink RX0 29 yX1_copyFrom, Cond.instanceMethod yX1_copyFrom, Cond.selects RX1 yX1_copyFrom yX1_copyFrom, Cond.initialized RX1, Cond.code yX1_copyFrom cX1_copyFrom 2 none, Cond.fieldLink RX1 9 "ThinVolumes$Pool" "sizes" "[I", Cond.methodLink RX1 49 arraycopyName, Cond.native arraycopyName, Cond.static arraycopyName, Cond.initialized "java/lang/System", Cond.fieldLink RX1 15 "ThinVolumes$Pool" "manners" "[I", Cond.fieldLink RX1 18 "ThinVolumes$Pool" "promises" "[I", Cond.fieldLink RX1 21 "ThinVolumes$Pool" "parents" "[I", Cond.fieldLink RX1 24 "ThinVolumes$Pool" "refusalsOf" "[I", Cond.fieldLink RX1 27 "ThinVolumes$Pool" "piecesGotBy" "[I", Cond.fieldLink RX1 30 "ThinVolumes$Pool" "spots" "[I", Cond.fieldLink RX1 33 "ThinVolumes$Pool" "values" "[I"]
def wsX0_dropOldest_r2 : List Cond := [Cond.fieldLink RX1 36 "ThinVolumes$Pool" "owners" "[I", Cond.fieldLink RX1 39 "ThinVolumes$Pool" "settings" "[I", Cond.fieldLink RX1 45 "ThinVolumes$Pool" "warnings" "LThinVolumes$Warnings;", Cond.fieldLink RX1 59 "ThinVolumes$Pool" "refusals" "I", Cond.fieldLink RX1 63 "ThinVolumes$Pool" "piecesGot" "I", Cond.fieldLink RX1 66 "ThinVolumes$Pool" "piecesFreed" "I", Cond.methodLink RX1 55 yX4_copyFrom, Cond.instanceMethod yX4_copyFrom, Cond.selects RX4 yX4_copyFrom yX4_copyFrom, Cond.initialized RX4, Cond.code yX4_copyFrom cX4_copyFrom 2 none, Cond.fieldLink RX4 9 "ThinVolumes$Warnings" "kinds" "[I", Cond.methodLink RX4 21 arraycopyName, Cond.fieldLink RX4 15 "ThinVolumes$Warnings" "volumes" "[I", Cond.fieldLink RX4 18 "ThinVolumes$Warnings" "available" "[I", Cond.fieldLink RX4 27 "ThinVolumes$Warnings" "kept" "I"]
def wsX0_dropOldest : List Cond := .code yX0_dropOldest cX0_dropOldest 2 none :: ((wsX0_dropOldest_r1 ++ wsX0_dropOldest_r2) ++ wsX00 ++ wsX10 ++ wsX40)
def wsX0_keepPrepared_r1 : List Cond := [Cond.fieldLink RX0 18 "ThinVolumes$History" "kept" "I", Cond.methodLink RX0 26 yX0_dropOldest, Cond.instanceMethod yX0_dropOldest, Cond.selects RX0 yX0_dropOldest yX0_dropOldest, Cond.initialized RX0, Cond.code yX0_dropOldest cX0_dropOldest 2 none, Cond.fieldLink RX0 11 "ThinVolumes$History" "states" "[LThinVolumes$Pool;", Cond.methodLink RX0 22 yX0_copyInto, Cond.instanceMethod yX0_copyInto, Cond.selects RX0 yX0_copyInto yX0_copyInto, Cond.code yX0_copyInto cX0_copyInto 3 none, Cond.methodLink RX0 29 yX1_copyFrom, Cond.instanceMethod yX1_copyFrom, Cond.selects RX1 yX1_copyFrom yX1_copyFrom, Cond.initialized RX1, Cond.code yX1_copyFrom cX1_copyFrom 2 none, Cond.fieldLink RX1 9 "ThinVolumes$Pool" "sizes" "[I", Cond.methodLink RX1 49 arraycopyName, Cond.native arraycopyName, Cond.static arraycopyName, Cond.initialized "java/lang/System", Cond.fieldLink RX1 15 "ThinVolumes$Pool" "manners" "[I", Cond.fieldLink RX1 18 "ThinVolumes$Pool" "promises" "[I", Cond.fieldLink RX1 21 "ThinVolumes$Pool" "parents" "[I"]
def wsX0_keepPrepared_r2 : List Cond := [Cond.fieldLink RX1 24 "ThinVolumes$Pool" "refusalsOf" "[I", Cond.fieldLink RX1 27 "ThinVolumes$Pool" "piecesGotBy" "[I", Cond.fieldLink RX1 30 "ThinVolumes$Pool" "spots" "[I", Cond.fieldLink RX1 33 "ThinVolumes$Pool" "values" "[I", Cond.fieldLink RX1 36 "ThinVolumes$Pool" "owners" "[I", Cond.fieldLink RX1 39 "ThinVolumes$Pool" "settings" "[I", Cond.fieldLink RX1 45 "ThinVolumes$Pool" "warnings" "LThinVolumes$Warnings;", Cond.fieldLink RX1 59 "ThinVolumes$Pool" "refusals" "I", Cond.fieldLink RX1 63 "ThinVolumes$Pool" "piecesGot" "I", Cond.fieldLink RX1 66 "ThinVolumes$Pool" "piecesFreed" "I", Cond.methodLink RX1 55 yX4_copyFrom, Cond.instanceMethod yX4_copyFrom, Cond.selects RX4 yX4_copyFrom yX4_copyFrom, Cond.initialized RX4, Cond.code yX4_copyFrom cX4_copyFrom 2 none, Cond.fieldLink RX4 9 "ThinVolumes$Warnings" "kinds" "[I", Cond.methodLink RX4 21 arraycopyName, Cond.fieldLink RX4 15 "ThinVolumes$Warnings" "volumes" "[I", Cond.fieldLink RX4 18 "ThinVolumes$Warnings" "available" "[I", Cond.fieldLink RX4 27 "ThinVolumes$Warnings" "kept" "I"]
def wsX0_keepPrepared : List Cond := .code yX0_keepPrepared cX0_keepPrepared 1 none :: ((wsX0_keepPrepared_r1 ++ wsX0_keepPrepared_r2) ++ wsX00 ++ wsX10 ++ wsX40)
def wsX0_restore_r1 : List Cond := [Cond.fieldLink RX0 18 "ThinVolumes$History" "kept" "I", Cond.fieldLink RX0 11 "ThinVolumes$History" "states" "[LThinVolumes$Pool;", Cond.methodLink RX0 29 yX1_copyFrom, Cond.instanceMethod yX1_copyFrom, Cond.selects RX1 yX1_copyFrom yX1_copyFrom, Cond.initialized RX1, Cond.code yX1_copyFrom cX1_copyFrom 2 none, Cond.fieldLink RX1 9 "ThinVolumes$Pool" "sizes" "[I", Cond.methodLink RX1 49 arraycopyName, Cond.native arraycopyName, Cond.static arraycopyName, Cond.initialized "java/lang/System", Cond.fieldLink RX1 15 "ThinVolumes$Pool" "manners" "[I", Cond.fieldLink RX1 18 "ThinVolumes$Pool" "promises" "[I", Cond.fieldLink RX1 21 "ThinVolumes$Pool" "parents" "[I", Cond.fieldLink RX1 24 "ThinVolumes$Pool" "refusalsOf" "[I", Cond.fieldLink RX1 27 "ThinVolumes$Pool" "piecesGotBy" "[I", Cond.fieldLink RX1 30 "ThinVolumes$Pool" "spots" "[I", Cond.fieldLink RX1 33 "ThinVolumes$Pool" "values" "[I", Cond.fieldLink RX1 36 "ThinVolumes$Pool" "owners" "[I", Cond.fieldLink RX1 39 "ThinVolumes$Pool" "settings" "[I", Cond.fieldLink RX1 45 "ThinVolumes$Pool" "warnings" "LThinVolumes$Warnings;", Cond.fieldLink RX1 59 "ThinVolumes$Pool" "refusals" "I", Cond.fieldLink RX1 63 "ThinVolumes$Pool" "piecesGot" "I"]
def wsX0_restore_r2 : List Cond := [Cond.fieldLink RX1 66 "ThinVolumes$Pool" "piecesFreed" "I", Cond.methodLink RX1 55 yX4_copyFrom, Cond.instanceMethod yX4_copyFrom, Cond.selects RX4 yX4_copyFrom yX4_copyFrom, Cond.initialized RX4, Cond.code yX4_copyFrom cX4_copyFrom 2 none, Cond.fieldLink RX4 9 "ThinVolumes$Warnings" "kinds" "[I", Cond.methodLink RX4 21 arraycopyName, Cond.fieldLink RX4 15 "ThinVolumes$Warnings" "volumes" "[I", Cond.fieldLink RX4 18 "ThinVolumes$Warnings" "available" "[I", Cond.fieldLink RX4 27 "ThinVolumes$Warnings" "kept" "I"]
def wsX0_restore : List Cond := .code yX0_restore cX0_restore 2 (some .boolean) :: ((wsX0_restore_r1 ++ wsX0_restore_r2) ++ wsX00 ++ wsX10 ++ wsX40)
def wsX1_lives : List Cond := .code yX1_lives cX1_lives 2 (some .boolean) :: ([.fieldLink RX1 9 "ThinVolumes$Pool" "sizes" "[I"] ++ wsX10)
def wsX1_hasPlace : List Cond := .code yX1_hasPlace cX1_hasPlace 3 (some .boolean) :: ([.fieldLink RX1 9 "ThinVolumes$Pool" "sizes" "[I", .methodLink RX1 69 yX1_lives, .instanceMethod yX1_lives, .selects RX1 yX1_lives yX1_lives, .initialized RX1, .code yX1_lives cX1_lives 2 (some .boolean)] ++ wsX10)
def wsX1_isPiece : List Cond := .code yX1_isPiece cX1_isPiece 2 (some .boolean) :: ([])
def wsX1_pieceAt : List Cond := .code yX1_pieceAt cX1_pieceAt 3 (some .int) :: ([.fieldLink RX1 30 "ThinVolumes$Pool" "spots" "[I", .methodLink RX1 73 yX1_hasPlace, .instanceMethod yX1_hasPlace, .selects RX1 yX1_hasPlace yX1_hasPlace, .initialized RX1, .code yX1_hasPlace cX1_hasPlace 3 (some .boolean), .fieldLink RX1 9 "ThinVolumes$Pool" "sizes" "[I", .methodLink RX1 69 yX1_lives, .instanceMethod yX1_lives, .selects RX1 yX1_lives yX1_lives, .code yX1_lives cX1_lives 2 (some .boolean)] ++ wsX10)
def wsX1_valueOf : List Cond := .code yX1_valueOf cX1_valueOf 2 (some .int) :: ([.fieldLink RX1 33 "ThinVolumes$Pool" "values" "[I", .methodLink RX1 77 yX1_isPiece, .instanceMethod yX1_isPiece, .selects RX1 yX1_isPiece yX1_isPiece, .initialized RX1, .code yX1_isPiece cX1_isPiece 2 (some .boolean)] ++ wsX10)
def wsX1_volumesThatLive : List Cond := .code yX1_volumesThatLive cX1_volumesThatLive 3 (some .int) :: ([.methodLink RX1 69 yX1_lives, .instanceMethod yX1_lives, .selects RX1 yX1_lives yX1_lives, .initialized RX1, .code yX1_lives cX1_lives 2 (some .boolean), .fieldLink RX1 9 "ThinVolumes$Pool" "sizes" "[I"] ++ wsX10)
def wsX1_allSizes : List Cond := .code yX1_allSizes cX1_allSizes 3 (some .int) :: ([.fieldLink RX1 9 "ThinVolumes$Pool" "sizes" "[I"] ++ wsX10)
def wsX1_allPromises : List Cond := .code yX1_allPromises cX1_allPromises 3 (some .int) :: ([.fieldLink RX1 18 "ThinVolumes$Pool" "promises" "[I"] ++ wsX10)
def wsX1_allOwners : List Cond := .code yX1_allOwners cX1_allOwners 3 (some .int) :: ([.fieldLink RX1 36 "ThinVolumes$Pool" "owners" "[I"] ++ wsX10)
def wsX1_freePieces : List Cond := .code yX1_freePieces cX1_freePieces 3 (some .int) :: ([.fieldLink RX1 36 "ThinVolumes$Pool" "owners" "[I"] ++ wsX10)
def wsX1_sharedPieces : List Cond := .code yX1_sharedPieces cX1_sharedPieces 3 (some .int) :: ([.fieldLink RX1 36 "ThinVolumes$Pool" "owners" "[I"] ++ wsX10)
def wsX1_placesWithPieces : List Cond := .code yX1_placesWithPieces cX1_placesWithPieces 4 (some .int) :: ([.methodLink RX1 80 yX1_pieceAt, .instanceMethod yX1_pieceAt, .selects RX1 yX1_pieceAt yX1_pieceAt, .initialized RX1, .code yX1_pieceAt cX1_pieceAt 3 (some .int), .fieldLink RX1 30 "ThinVolumes$Pool" "spots" "[I", .methodLink RX1 73 yX1_hasPlace, .instanceMethod yX1_hasPlace, .selects RX1 yX1_hasPlace yX1_hasPlace, .code yX1_hasPlace cX1_hasPlace 3 (some .boolean), .fieldLink RX1 9 "ThinVolumes$Pool" "sizes" "[I", .methodLink RX1 69 yX1_lives, .instanceMethod yX1_lives, .selects RX1 yX1_lives yX1_lives, .code yX1_lives cX1_lives 2 (some .boolean)] ++ wsX10)
def wsX1_volumesThatOwn : List Cond := .code yX1_volumesThatOwn cX1_volumesThatOwn 5 (some .int) :: ([.methodLink RX1 80 yX1_pieceAt, .instanceMethod yX1_pieceAt, .selects RX1 yX1_pieceAt yX1_pieceAt, .initialized RX1, .code yX1_pieceAt cX1_pieceAt 3 (some .int), .fieldLink RX1 30 "ThinVolumes$Pool" "spots" "[I", .methodLink RX1 73 yX1_hasPlace, .instanceMethod yX1_hasPlace, .selects RX1 yX1_hasPlace yX1_hasPlace, .code yX1_hasPlace cX1_hasPlace 3 (some .boolean), .fieldLink RX1 9 "ThinVolumes$Pool" "sizes" "[I", .methodLink RX1 69 yX1_lives, .instanceMethod yX1_lives, .selects RX1 yX1_lives yX1_lives, .code yX1_lives cX1_lives 2 (some .boolean)] ++ wsX10)
def wsX1_piecesOwnedOnlyBy : List Cond := .code yX1_piecesOwnedOnlyBy cX1_piecesOwnedOnlyBy 4 (some .int) :: ([.fieldLink RX1 36 "ThinVolumes$Pool" "owners" "[I", .methodLink RX1 84 yX1_volumesThatOwn, .instanceMethod yX1_volumesThatOwn, .selects RX1 yX1_volumesThatOwn yX1_volumesThatOwn, .initialized RX1, .code yX1_volumesThatOwn cX1_volumesThatOwn 5 (some .int), .methodLink RX1 80 yX1_pieceAt, .instanceMethod yX1_pieceAt, .selects RX1 yX1_pieceAt yX1_pieceAt, .code yX1_pieceAt cX1_pieceAt 3 (some .int), .fieldLink RX1 30 "ThinVolumes$Pool" "spots" "[I", .methodLink RX1 73 yX1_hasPlace, .instanceMethod yX1_hasPlace, .selects RX1 yX1_hasPlace yX1_hasPlace, .code yX1_hasPlace cX1_hasPlace 3 (some .boolean), .fieldLink RX1 9 "ThinVolumes$Pool" "sizes" "[I", .methodLink RX1 69 yX1_lives, .instanceMethod yX1_lives, .selects RX1 yX1_lives yX1_lives, .code yX1_lives cX1_lives 2 (some .boolean)] ++ wsX10)
def wsX1_clonesOf : List Cond := .code yX1_clonesOf cX1_clonesOf 4 (some .int) :: ([.fieldLink RX1 21 "ThinVolumes$Pool" "parents" "[I", .methodLink RX1 69 yX1_lives, .instanceMethod yX1_lives, .selects RX1 yX1_lives yX1_lives, .initialized RX1, .code yX1_lives cX1_lives 2 (some .boolean), .fieldLink RX1 9 "ThinVolumes$Pool" "sizes" "[I"] ++ wsX10)
def wsX1_stepsUp : List Cond := .code yX1_stepsUp cX1_stepsUp 5 (some .int) :: ([.fieldLink RX1 21 "ThinVolumes$Pool" "parents" "[I", .methodLink RX1 69 yX1_lives, .instanceMethod yX1_lives, .selects RX1 yX1_lives yX1_lives, .initialized RX1, .code yX1_lives cX1_lives 2 (some .boolean), .fieldLink RX1 9 "ThinVolumes$Pool" "sizes" "[I"] ++ wsX10)
def wsX1_familyOf : List Cond := .code yX1_familyOf cX1_familyOf 4 (some .int) :: ([.methodLink RX1 88 yX1_stepsUp, .instanceMethod yX1_stepsUp, .selects RX1 yX1_stepsUp yX1_stepsUp, .initialized RX1, .code yX1_stepsUp cX1_stepsUp 5 (some .int), .fieldLink RX1 21 "ThinVolumes$Pool" "parents" "[I", .methodLink RX1 69 yX1_lives, .instanceMethod yX1_lives, .selects RX1 yX1_lives yX1_lives, .code yX1_lives cX1_lives 2 (some .boolean), .fieldLink RX1 9 "ThinVolumes$Pool" "sizes" "[I"] ++ wsX10)
def wsX1_longestLineFrom : List Cond := .code yX1_longestLineFrom cX1_longestLineFrom 4 (some .int) :: ([.methodLink RX1 91 Lib.Math.max.name, .static Lib.Math.max.name, .initialized "java/lang/Math", .code Lib.Math.max.name Lib.Math.max.code 2 (some .int), .methodLink RX1 88 yX1_stepsUp, .instanceMethod yX1_stepsUp, .selects RX1 yX1_stepsUp yX1_stepsUp, .initialized RX1, .code yX1_stepsUp cX1_stepsUp 5 (some .int), .fieldLink RX1 21 "ThinVolumes$Pool" "parents" "[I", .methodLink RX1 69 yX1_lives, .instanceMethod yX1_lives, .selects RX1 yX1_lives yX1_lives, .code yX1_lives cX1_lives 2 (some .boolean), .fieldLink RX1 9 "ThinVolumes$Pool" "sizes" "[I"] ++ wsX10)
def wsX1_available : List Cond := .code yX1_available cX1_available 1 (some .int) :: ([.methodLink RX1 96 yX1_freePieces, .instanceMethod yX1_freePieces, .selects RX1 yX1_freePieces yX1_freePieces, .initialized RX1, .code yX1_freePieces cX1_freePieces 3 (some .int), .fieldLink RX1 36 "ThinVolumes$Pool" "owners" "[I", .methodLink RX1 100 yX1_allPromises, .instanceMethod yX1_allPromises, .selects RX1 yX1_allPromises yX1_allPromises, .code yX1_allPromises cX1_allPromises 3 (some .int), .fieldLink RX1 18 "ThinVolumes$Pool" "promises" "[I"] ++ wsX10)
def wsX1_levelWith : List Cond := .code yX1_levelWith cX1_levelWith 2 (some .int) :: ([.fieldLink RX1 39 "ThinVolumes$Pool" "settings" "[I"] ++ wsX10)
def wsX1_level : List Cond := .code yX1_level cX1_level 1 (some .int) :: ([.methodLink RX1 103 yX1_available, .instanceMethod yX1_available, .selects RX1 yX1_available yX1_available, .initialized RX1, .code yX1_available cX1_available 1 (some .int), .methodLink RX1 96 yX1_freePieces, .instanceMethod yX1_freePieces, .selects RX1 yX1_freePieces yX1_freePieces, .code yX1_freePieces cX1_freePieces 3 (some .int), .fieldLink RX1 36 "ThinVolumes$Pool" "owners" "[I", .methodLink RX1 100 yX1_allPromises, .instanceMethod yX1_allPromises, .selects RX1 yX1_allPromises yX1_allPromises, .code yX1_allPromises cX1_allPromises 3 (some .int), .fieldLink RX1 18 "ThinVolumes$Pool" "promises" "[I", .methodLink RX1 106 yX1_levelWith, .instanceMethod yX1_levelWith, .selects RX1 yX1_levelWith yX1_levelWith, .code yX1_levelWith cX1_levelWith 2 (some .int), .fieldLink RX1 39 "ThinVolumes$Pool" "settings" "[I"] ++ wsX10)
def wsX1_rankWith : List Cond := .code yX1_rankWith cX1_rankWith 6 (some .int) :: ([.fieldLink RX1 15 "ThinVolumes$Pool" "manners" "[I", .methodLink RX1 69 yX1_lives, .instanceMethod yX1_lives, .selects RX1 yX1_lives yX1_lives, .initialized RX1, .code yX1_lives cX1_lives 2 (some .boolean), .fieldLink RX1 9 "ThinVolumes$Pool" "sizes" "[I"] ++ wsX10)
def wsX1_volumeWithRank : List Cond := .code yX1_volumeWithRank cX1_volumeWithRank 3 (some .int) :: ([.fieldLink RX1 15 "ThinVolumes$Pool" "manners" "[I", .constant RX1 112 (-1000004), .methodLink RX1 69 yX1_lives, .instanceMethod yX1_lives, .selects RX1 yX1_lives yX1_lives, .initialized RX1, .code yX1_lives cX1_lives 2 (some .boolean), .fieldLink RX1 9 "ThinVolumes$Pool" "sizes" "[I", .methodLink RX1 109 yX1_rankWith, .instanceMethod yX1_rankWith, .selects RX1 yX1_rankWith yX1_rankWith, .code yX1_rankWith cX1_rankWith 6 (some .int)] ++ wsX10)
def wsX1_wouldGetUnpromised : List Cond := .code yX1_wouldGetUnpromised cX1_wouldGetUnpromised 5 (some .boolean) :: ([.fieldLink RX1 39 "ThinVolumes$Pool" "settings" "[I", .methodLink RX1 106 yX1_levelWith, .instanceMethod yX1_levelWith, .selects RX1 yX1_levelWith yX1_levelWith, .initialized RX1, .code yX1_levelWith cX1_levelWith 2 (some .int), .methodLink RX1 109 yX1_rankWith, .instanceMethod yX1_rankWith, .selects RX1 yX1_rankWith yX1_rankWith, .code yX1_rankWith cX1_rankWith 6 (some .int), .fieldLink RX1 15 "ThinVolumes$Pool" "manners" "[I", .methodLink RX1 69 yX1_lives, .instanceMethod yX1_lives, .selects RX1 yX1_lives yX1_lives, .code yX1_lives cX1_lives 2 (some .boolean), .fieldLink RX1 9 "ThinVolumes$Pool" "sizes" "[I"] ++ wsX10)
def wsX1_mannersBehindUnpromised : List Cond := .code yX1_mannersBehindUnpromised cX1_mannersBehindUnpromised 3 (some .int) :: ([.methodLink RX1 91 Lib.Math.max.name, .static Lib.Math.max.name, .initialized "java/lang/Math", .code Lib.Math.max.name Lib.Math.max.code 2 (some .int)])
def wsX1_piecesInReach_r1 : List Cond := [Cond.fieldLink RX1 18 "ThinVolumes$Pool" "promises" "[I", Cond.fieldLink RX1 15 "ThinVolumes$Pool" "manners" "[I", Cond.methodLink RX1 69 yX1_lives, Cond.instanceMethod yX1_lives, Cond.selects RX1 yX1_lives yX1_lives, Cond.initialized RX1, Cond.code yX1_lives cX1_lives 2 (some .boolean), Cond.fieldLink RX1 9 "ThinVolumes$Pool" "sizes" "[I", Cond.methodLink RX1 103 yX1_available, Cond.instanceMethod yX1_available, Cond.selects RX1 yX1_available yX1_available, Cond.code yX1_available cX1_available 1 (some .int), Cond.methodLink RX1 96 yX1_freePieces, Cond.instanceMethod yX1_freePieces, Cond.selects RX1 yX1_freePieces yX1_freePieces, Cond.code yX1_freePieces cX1_freePieces 3 (some .int), Cond.fieldLink RX1 36 "ThinVolumes$Pool" "owners" "[I", Cond.methodLink RX1 100 yX1_allPromises, Cond.instanceMethod yX1_allPromises, Cond.selects RX1 yX1_allPromises yX1_allPromises, Cond.code yX1_allPromises cX1_allPromises 3 (some .int), Cond.methodLink RX1 113 yX1_wouldGetUnpromised, Cond.instanceMethod yX1_wouldGetUnpromised, Cond.selects RX1 yX1_wouldGetUnpromised yX1_wouldGetUnpromised]
def wsX1_piecesInReach_r2 : List Cond := [Cond.code yX1_wouldGetUnpromised cX1_wouldGetUnpromised 5 (some .boolean), Cond.fieldLink RX1 39 "ThinVolumes$Pool" "settings" "[I", Cond.methodLink RX1 106 yX1_levelWith, Cond.instanceMethod yX1_levelWith, Cond.selects RX1 yX1_levelWith yX1_levelWith, Cond.code yX1_levelWith cX1_levelWith 2 (some .int), Cond.methodLink RX1 109 yX1_rankWith, Cond.instanceMethod yX1_rankWith, Cond.selects RX1 yX1_rankWith yX1_rankWith, Cond.code yX1_rankWith cX1_rankWith 6 (some .int), Cond.methodLink RX1 117 yX1_mannersBehindUnpromised, Cond.instanceMethod yX1_mannersBehindUnpromised, Cond.selects RX1 yX1_mannersBehindUnpromised yX1_mannersBehindUnpromised, Cond.code yX1_mannersBehindUnpromised cX1_mannersBehindUnpromised 3 (some .int), Cond.methodLink RX1 91 Lib.Math.max.name, Cond.static Lib.Math.max.name, Cond.initialized "java/lang/Math", Cond.code Lib.Math.max.name Lib.Math.max.code 2 (some .int)]
def wsX1_piecesInReach : List Cond := .code yX1_piecesInReach cX1_piecesInReach 5 (some .int) :: ((wsX1_piecesInReach_r1 ++ wsX1_piecesInReach_r2) ++ wsX10)
def wsX4_add : List Cond := .code yX4_add cX4_add 4 none :: ([.fieldLink RX4 9 "ThinVolumes$Warnings" "kinds" "[I", .methodLink RX4 21 arraycopyName, .native arraycopyName, .static arraycopyName, .initialized "java/lang/System", .fieldLink RX4 15 "ThinVolumes$Warnings" "volumes" "[I", .fieldLink RX4 18 "ThinVolumes$Warnings" "available" "[I", .fieldLink RX4 27 "ThinVolumes$Warnings" "kept" "I", .methodLink RX4 31 Lib.Math.min.name, .static Lib.Math.min.name, .initialized "java/lang/Math", .code Lib.Math.min.name Lib.Math.min.code 2 (some .int)] ++ wsX40)
def wsX1_warnIfLevelRose_r1 : List Cond := [Cond.fieldLink RX1 45 "ThinVolumes$Pool" "warnings" "LThinVolumes$Warnings;", Cond.methodLink RX1 103 yX1_available, Cond.instanceMethod yX1_available, Cond.selects RX1 yX1_available yX1_available, Cond.initialized RX1, Cond.code yX1_available cX1_available 1 (some .int), Cond.methodLink RX1 96 yX1_freePieces, Cond.instanceMethod yX1_freePieces, Cond.selects RX1 yX1_freePieces yX1_freePieces, Cond.code yX1_freePieces cX1_freePieces 3 (some .int), Cond.fieldLink RX1 36 "ThinVolumes$Pool" "owners" "[I", Cond.methodLink RX1 100 yX1_allPromises, Cond.instanceMethod yX1_allPromises, Cond.selects RX1 yX1_allPromises yX1_allPromises, Cond.code yX1_allPromises cX1_allPromises 3 (some .int), Cond.fieldLink RX1 18 "ThinVolumes$Pool" "promises" "[I", Cond.methodLink RX1 106 yX1_levelWith, Cond.instanceMethod yX1_levelWith, Cond.selects RX1 yX1_levelWith yX1_levelWith, Cond.code yX1_levelWith cX1_levelWith 2 (some .int), Cond.fieldLink RX1 39 "ThinVolumes$Pool" "settings" "[I", Cond.methodLink RX1 120 yX4_add, Cond.instanceMethod yX4_add, Cond.selects RX4 yX4_add yX4_add]
def wsX1_warnIfLevelRose_r2 : List Cond := [Cond.initialized RX4, Cond.code yX4_add cX4_add 4 none, Cond.fieldLink RX4 9 "ThinVolumes$Warnings" "kinds" "[I", Cond.methodLink RX4 21 arraycopyName, Cond.native arraycopyName, Cond.static arraycopyName, Cond.initialized "java/lang/System", Cond.fieldLink RX4 15 "ThinVolumes$Warnings" "volumes" "[I", Cond.fieldLink RX4 18 "ThinVolumes$Warnings" "available" "[I", Cond.fieldLink RX4 27 "ThinVolumes$Warnings" "kept" "I", Cond.methodLink RX4 31 Lib.Math.min.name, Cond.static Lib.Math.min.name, Cond.initialized "java/lang/Math", Cond.code Lib.Math.min.name Lib.Math.min.code 2 (some .int)]
def wsX1_warnIfLevelRose : List Cond := .code yX1_warnIfLevelRose cX1_warnIfLevelRose 3 none :: ((wsX1_warnIfLevelRose_r1 ++ wsX1_warnIfLevelRose_r2) ++ wsX10 ++ wsX40)
def wsX1_openVolume : List Cond := .code yX1_openVolume cX1_openVolume 3 (some .int) :: ([.constant RX1 124 (-1000001), .fieldLink RX1 9 "ThinVolumes$Pool" "sizes" "[I", .fieldLink RX1 15 "ThinVolumes$Pool" "manners" "[I", .fieldLink RX1 18 "ThinVolumes$Pool" "promises" "[I", .fieldLink RX1 21 "ThinVolumes$Pool" "parents" "[I", .fieldLink RX1 24 "ThinVolumes$Pool" "refusalsOf" "[I", .fieldLink RX1 27 "ThinVolumes$Pool" "piecesGotBy" "[I", .constant RX1 125 (-1000003), .methodLink RX1 69 yX1_lives, .instanceMethod yX1_lives, .selects RX1 yX1_lives yX1_lives, .initialized RX1, .code yX1_lives cX1_lives 2 (some .boolean)] ++ wsX10)
def wsX1_cloneVolume_r1 : List Cond := [Cond.constant RX1 124 (-1000001), Cond.fieldLink RX1 9 "ThinVolumes$Pool" "sizes" "[I", Cond.fieldLink RX1 21 "ThinVolumes$Pool" "parents" "[I", Cond.fieldLink RX1 30 "ThinVolumes$Pool" "spots" "[I", Cond.fieldLink RX1 36 "ThinVolumes$Pool" "owners" "[I", Cond.methodLink RX1 69 yX1_lives, Cond.instanceMethod yX1_lives, Cond.selects RX1 yX1_lives yX1_lives, Cond.initialized RX1, Cond.code yX1_lives cX1_lives 2 (some .boolean), Cond.methodLink RX1 126 yX1_openVolume, Cond.instanceMethod yX1_openVolume, Cond.selects RX1 yX1_openVolume yX1_openVolume, Cond.code yX1_openVolume cX1_openVolume 3 (some .int), Cond.fieldLink RX1 15 "ThinVolumes$Pool" "manners" "[I", Cond.fieldLink RX1 18 "ThinVolumes$Pool" "promises" "[I", Cond.fieldLink RX1 24 "ThinVolumes$Pool" "refusalsOf" "[I", Cond.fieldLink RX1 27 "ThinVolumes$Pool" "piecesGotBy" "[I", Cond.constant RX1 125 (-1000003), Cond.methodLink RX1 80 yX1_pieceAt, Cond.instanceMethod yX1_pieceAt, Cond.selects RX1 yX1_pieceAt yX1_pieceAt, Cond.code yX1_pieceAt cX1_pieceAt 3 (some .int), Cond.methodLink RX1 73 yX1_hasPlace]
def wsX1_cloneVolume_r2 : List Cond := [Cond.instanceMethod yX1_hasPlace, Cond.selects RX1 yX1_hasPlace yX1_hasPlace, Cond.code yX1_hasPlace cX1_hasPlace 3 (some .boolean), Cond.methodLink RX1 77 yX1_isPiece, Cond.instanceMethod yX1_isPiece, Cond.selects RX1 yX1_isPiece yX1_isPiece, Cond.code yX1_isPiece cX1_isPiece 2 (some .boolean)]
def wsX1_cloneVolume : List Cond := .code yX1_cloneVolume cX1_cloneVolume 5 (some .int) :: ((wsX1_cloneVolume_r1 ++ wsX1_cloneVolume_r2) ++ wsX10)
def wsX1_loosen : List Cond := .code yX1_loosen cX1_loosen 4 (some .int) :: ([.fieldLink RX1 30 "ThinVolumes$Pool" "spots" "[I", .fieldLink RX1 36 "ThinVolumes$Pool" "owners" "[I", .fieldLink RX1 66 "ThinVolumes$Pool" "piecesFreed" "I", .methodLink RX1 80 yX1_pieceAt, .instanceMethod yX1_pieceAt, .selects RX1 yX1_pieceAt yX1_pieceAt, .initialized RX1, .code yX1_pieceAt cX1_pieceAt 3 (some .int), .methodLink RX1 73 yX1_hasPlace, .instanceMethod yX1_hasPlace, .selects RX1 yX1_hasPlace yX1_hasPlace, .code yX1_hasPlace cX1_hasPlace 3 (some .boolean), .fieldLink RX1 9 "ThinVolumes$Pool" "sizes" "[I", .methodLink RX1 69 yX1_lives, .instanceMethod yX1_lives, .selects RX1 yX1_lives yX1_lives, .code yX1_lives cX1_lives 2 (some .boolean), .methodLink RX1 77 yX1_isPiece, .instanceMethod yX1_isPiece, .selects RX1 yX1_isPiece yX1_isPiece, .code yX1_isPiece cX1_isPiece 2 (some .boolean)] ++ wsX10)
def wsX1_dropVolume_r1 : List Cond := [Cond.constant RX1 124 (-1000001), Cond.fieldLink RX1 21 "ThinVolumes$Pool" "parents" "[I", Cond.fieldLink RX1 18 "ThinVolumes$Pool" "promises" "[I", Cond.fieldLink RX1 9 "ThinVolumes$Pool" "sizes" "[I", Cond.methodLink RX1 69 yX1_lives, Cond.instanceMethod yX1_lives, Cond.selects RX1 yX1_lives yX1_lives, Cond.initialized RX1, Cond.code yX1_lives cX1_lives 2 (some .boolean), Cond.methodLink RX1 129 yX1_loosen, Cond.instanceMethod yX1_loosen, Cond.selects RX1 yX1_loosen yX1_loosen, Cond.code yX1_loosen cX1_loosen 4 (some .int), Cond.fieldLink RX1 30 "ThinVolumes$Pool" "spots" "[I", Cond.fieldLink RX1 36 "ThinVolumes$Pool" "owners" "[I", Cond.fieldLink RX1 66 "ThinVolumes$Pool" "piecesFreed" "I", Cond.methodLink RX1 80 yX1_pieceAt, Cond.instanceMethod yX1_pieceAt, Cond.selects RX1 yX1_pieceAt yX1_pieceAt, Cond.code yX1_pieceAt cX1_pieceAt 3 (some .int), Cond.methodLink RX1 73 yX1_hasPlace, Cond.instanceMethod yX1_hasPlace, Cond.selects RX1 yX1_hasPlace yX1_hasPlace, Cond.code yX1_hasPlace cX1_hasPlace 3 (some .boolean)]
def wsX1_dropVolume_r2 : List Cond := [Cond.methodLink RX1 77 yX1_isPiece, Cond.instanceMethod yX1_isPiece, Cond.selects RX1 yX1_isPiece yX1_isPiece, Cond.code yX1_isPiece cX1_isPiece 2 (some .boolean)]
def wsX1_dropVolume : List Cond := .code yX1_dropVolume cX1_dropVolume 4 (some .int) :: ((wsX1_dropVolume_r1 ++ wsX1_dropVolume_r2) ++ wsX10)
def wsX1_changePromise_r1 : List Cond := [Cond.constant RX1 124 (-1000001), Cond.fieldLink RX1 18 "ThinVolumes$Pool" "promises" "[I", Cond.constant RX1 132 (-1000002), Cond.methodLink RX1 69 yX1_lives, Cond.instanceMethod yX1_lives, Cond.selects RX1 yX1_lives yX1_lives, Cond.initialized RX1, Cond.code yX1_lives cX1_lives 2 (some .boolean), Cond.fieldLink RX1 9 "ThinVolumes$Pool" "sizes" "[I", Cond.methodLink RX1 100 yX1_allPromises, Cond.instanceMethod yX1_allPromises, Cond.selects RX1 yX1_allPromises yX1_allPromises, Cond.code yX1_allPromises cX1_allPromises 3 (some .int), Cond.methodLink RX1 96 yX1_freePieces, Cond.instanceMethod yX1_freePieces, Cond.selects RX1 yX1_freePieces yX1_freePieces, Cond.code yX1_freePieces cX1_freePieces 3 (some .int), Cond.fieldLink RX1 36 "ThinVolumes$Pool" "owners" "[I", Cond.methodLink RX1 133 yX1_level, Cond.instanceMethod yX1_level, Cond.selects RX1 yX1_level yX1_level, Cond.code yX1_level cX1_level 1 (some .int), Cond.methodLink RX1 103 yX1_available, Cond.instanceMethod yX1_available]
def wsX1_changePromise_r2 : List Cond := [Cond.selects RX1 yX1_available yX1_available, Cond.code yX1_available cX1_available 1 (some .int), Cond.methodLink RX1 106 yX1_levelWith, Cond.instanceMethod yX1_levelWith, Cond.selects RX1 yX1_levelWith yX1_levelWith, Cond.code yX1_levelWith cX1_levelWith 2 (some .int), Cond.fieldLink RX1 39 "ThinVolumes$Pool" "settings" "[I", Cond.methodLink RX1 136 yX1_warnIfLevelRose, Cond.instanceMethod yX1_warnIfLevelRose, Cond.selects RX1 yX1_warnIfLevelRose yX1_warnIfLevelRose, Cond.code yX1_warnIfLevelRose cX1_warnIfLevelRose 3 none, Cond.fieldLink RX1 45 "ThinVolumes$Pool" "warnings" "LThinVolumes$Warnings;", Cond.methodLink RX1 120 yX4_add, Cond.instanceMethod yX4_add, Cond.selects RX4 yX4_add yX4_add, Cond.initialized RX4, Cond.code yX4_add cX4_add 4 none, Cond.fieldLink RX4 9 "ThinVolumes$Warnings" "kinds" "[I", Cond.methodLink RX4 21 arraycopyName, Cond.native arraycopyName, Cond.static arraycopyName, Cond.initialized "java/lang/System", Cond.fieldLink RX4 15 "ThinVolumes$Warnings" "volumes" "[I", Cond.fieldLink RX4 18 "ThinVolumes$Warnings" "available" "[I"]
def wsX1_changePromise_r3 : List Cond := [Cond.fieldLink RX4 27 "ThinVolumes$Warnings" "kept" "I", Cond.methodLink RX4 31 Lib.Math.min.name, Cond.static Lib.Math.min.name, Cond.initialized "java/lang/Math", Cond.code Lib.Math.min.name Lib.Math.min.code 2 (some .int)]
def wsX1_changePromise : List Cond := .code yX1_changePromise cX1_changePromise 5 (some .int) :: ((wsX1_changePromise_r1 ++ (wsX1_changePromise_r2 ++ wsX1_changePromise_r3)) ++ wsX10 ++ wsX40)
def wsX1_highestSetting : List Cond := .code yX1_highestSetting cX1_highestSetting 2 (some .int) :: ([])
def wsX1_changeSetting_r1 : List Cond := [Cond.constant RX1 124 (-1000001), Cond.fieldLink RX1 39 "ThinVolumes$Pool" "settings" "[I", Cond.methodLink RX1 140 yX1_highestSetting, Cond.instanceMethod yX1_highestSetting, Cond.selects RX1 yX1_highestSetting yX1_highestSetting, Cond.initialized RX1, Cond.code yX1_highestSetting cX1_highestSetting 2 (some .int), Cond.methodLink RX1 133 yX1_level, Cond.instanceMethod yX1_level, Cond.selects RX1 yX1_level yX1_level, Cond.code yX1_level cX1_level 1 (some .int), Cond.methodLink RX1 103 yX1_available, Cond.instanceMethod yX1_available, Cond.selects RX1 yX1_available yX1_available, Cond.code yX1_available cX1_available 1 (some .int), Cond.methodLink RX1 96 yX1_freePieces, Cond.instanceMethod yX1_freePieces, Cond.selects RX1 yX1_freePieces yX1_freePieces, Cond.code yX1_freePieces cX1_freePieces 3 (some .int), Cond.fieldLink RX1 36 "ThinVolumes$Pool" "owners" "[I", Cond.methodLink RX1 100 yX1_allPromises, Cond.instanceMethod yX1_allPromises, Cond.selects RX1 yX1_allPromises yX1_allPromises, Cond.code yX1_allPromises cX1_allPromises 3 (some .int)]
def wsX1_changeSetting_r2 : List Cond := [Cond.fieldLink RX1 18 "ThinVolumes$Pool" "promises" "[I", Cond.methodLink RX1 106 yX1_levelWith, Cond.instanceMethod yX1_levelWith, Cond.selects RX1 yX1_levelWith yX1_levelWith, Cond.code yX1_levelWith cX1_levelWith 2 (some .int), Cond.methodLink RX1 136 yX1_warnIfLevelRose, Cond.instanceMethod yX1_warnIfLevelRose, Cond.selects RX1 yX1_warnIfLevelRose yX1_warnIfLevelRose, Cond.code yX1_warnIfLevelRose cX1_warnIfLevelRose 3 none, Cond.fieldLink RX1 45 "ThinVolumes$Pool" "warnings" "LThinVolumes$Warnings;", Cond.methodLink RX1 120 yX4_add, Cond.instanceMethod yX4_add, Cond.selects RX4 yX4_add yX4_add, Cond.initialized RX4, Cond.code yX4_add cX4_add 4 none, Cond.fieldLink RX4 9 "ThinVolumes$Warnings" "kinds" "[I", Cond.methodLink RX4 21 arraycopyName, Cond.native arraycopyName, Cond.static arraycopyName, Cond.initialized "java/lang/System", Cond.fieldLink RX4 15 "ThinVolumes$Warnings" "volumes" "[I", Cond.fieldLink RX4 18 "ThinVolumes$Warnings" "available" "[I", Cond.fieldLink RX4 27 "ThinVolumes$Warnings" "kept" "I", Cond.methodLink RX4 31 Lib.Math.min.name]
def wsX1_changeSetting_r3 : List Cond := [Cond.static Lib.Math.min.name, Cond.initialized "java/lang/Math", Cond.code Lib.Math.min.name Lib.Math.min.code 2 (some .int)]
def wsX1_changeSetting : List Cond := .code yX1_changeSetting cX1_changeSetting 5 (some .int) :: ((wsX1_changeSetting_r1 ++ (wsX1_changeSetting_r2 ++ wsX1_changeSetting_r3)) ++ wsX10 ++ wsX40)
def wsX1_lowestFreePiece : List Cond := .code yX1_lowestFreePiece cX1_lowestFreePiece 2 (some .int) :: ([.fieldLink RX1 36 "ThinVolumes$Pool" "owners" "[I"] ++ wsX10)
def wsX1_refuse_r1 : List Cond := [Cond.fieldLink RX1 15 "ThinVolumes$Pool" "manners" "[I", Cond.methodLink RX1 91 Lib.Math.max.name, Cond.static Lib.Math.max.name, Cond.initialized "java/lang/Math", Cond.code Lib.Math.max.name Lib.Math.max.code 2 (some .int), Cond.fieldLink RX1 24 "ThinVolumes$Pool" "refusalsOf" "[I", Cond.fieldLink RX1 59 "ThinVolumes$Pool" "refusals" "I", Cond.fieldLink RX1 45 "ThinVolumes$Pool" "warnings" "LThinVolumes$Warnings;", Cond.methodLink RX1 103 yX1_available, Cond.instanceMethod yX1_available, Cond.selects RX1 yX1_available yX1_available, Cond.initialized RX1, Cond.code yX1_available cX1_available 1 (some .int), Cond.methodLink RX1 96 yX1_freePieces, Cond.instanceMethod yX1_freePieces, Cond.selects RX1 yX1_freePieces yX1_freePieces, Cond.code yX1_freePieces cX1_freePieces 3 (some .int), Cond.fieldLink RX1 36 "ThinVolumes$Pool" "owners" "[I", Cond.methodLink RX1 100 yX1_allPromises, Cond.instanceMethod yX1_allPromises, Cond.selects RX1 yX1_allPromises yX1_allPromises, Cond.code yX1_allPromises cX1_allPromises 3 (some .int), Cond.fieldLink RX1 18 "ThinVolumes$Pool" "promises" "[I", Cond.methodLink RX1 120 yX4_add]
def wsX1_refuse_r2 : List Cond := [Cond.instanceMethod yX4_add, Cond.selects RX4 yX4_add yX4_add, Cond.initialized RX4, Cond.code yX4_add cX4_add 4 none, Cond.fieldLink RX4 9 "ThinVolumes$Warnings" "kinds" "[I", Cond.methodLink RX4 21 arraycopyName, Cond.native arraycopyName, Cond.static arraycopyName, Cond.initialized "java/lang/System", Cond.fieldLink RX4 15 "ThinVolumes$Warnings" "volumes" "[I", Cond.fieldLink RX4 18 "ThinVolumes$Warnings" "available" "[I", Cond.fieldLink RX4 27 "ThinVolumes$Warnings" "kept" "I", Cond.methodLink RX4 31 Lib.Math.min.name, Cond.static Lib.Math.min.name, Cond.code Lib.Math.min.name Lib.Math.min.code 2 (some .int)]
def wsX1_refuse : List Cond := .code yX1_refuse cX1_refuse 2 none :: ((wsX1_refuse_r1 ++ wsX1_refuse_r2) ++ wsX10 ++ wsX40)
def wsX1_bookPiece_r1 : List Cond := [Cond.fieldLink RX1 27 "ThinVolumes$Pool" "piecesGotBy" "[I", Cond.fieldLink RX1 63 "ThinVolumes$Pool" "piecesGot" "I", Cond.fieldLink RX1 15 "ThinVolumes$Pool" "manners" "[I", Cond.fieldLink RX1 18 "ThinVolumes$Pool" "promises" "[I", Cond.fieldLink RX1 45 "ThinVolumes$Pool" "warnings" "LThinVolumes$Warnings;", Cond.methodLink RX1 117 yX1_mannersBehindUnpromised, Cond.instanceMethod yX1_mannersBehindUnpromised, Cond.selects RX1 yX1_mannersBehindUnpromised yX1_mannersBehindUnpromised, Cond.initialized RX1, Cond.code yX1_mannersBehindUnpromised cX1_mannersBehindUnpromised 3 (some .int), Cond.methodLink RX1 91 Lib.Math.max.name, Cond.static Lib.Math.max.name, Cond.initialized "java/lang/Math", Cond.code Lib.Math.max.name Lib.Math.max.code 2 (some .int), Cond.methodLink RX1 136 yX1_warnIfLevelRose, Cond.instanceMethod yX1_warnIfLevelRose, Cond.selects RX1 yX1_warnIfLevelRose yX1_warnIfLevelRose, Cond.code yX1_warnIfLevelRose cX1_warnIfLevelRose 3 none, Cond.methodLink RX1 103 yX1_available, Cond.instanceMethod yX1_available, Cond.selects RX1 yX1_available yX1_available, Cond.code yX1_available cX1_available 1 (some .int), Cond.methodLink RX1 96 yX1_freePieces, Cond.instanceMethod yX1_freePieces]
def wsX1_bookPiece_r2 : List Cond := [Cond.selects RX1 yX1_freePieces yX1_freePieces, Cond.code yX1_freePieces cX1_freePieces 3 (some .int), Cond.fieldLink RX1 36 "ThinVolumes$Pool" "owners" "[I", Cond.methodLink RX1 100 yX1_allPromises, Cond.instanceMethod yX1_allPromises, Cond.selects RX1 yX1_allPromises yX1_allPromises, Cond.code yX1_allPromises cX1_allPromises 3 (some .int), Cond.methodLink RX1 106 yX1_levelWith, Cond.instanceMethod yX1_levelWith, Cond.selects RX1 yX1_levelWith yX1_levelWith, Cond.code yX1_levelWith cX1_levelWith 2 (some .int), Cond.fieldLink RX1 39 "ThinVolumes$Pool" "settings" "[I", Cond.methodLink RX1 120 yX4_add, Cond.instanceMethod yX4_add, Cond.selects RX4 yX4_add yX4_add, Cond.initialized RX4, Cond.code yX4_add cX4_add 4 none, Cond.fieldLink RX4 9 "ThinVolumes$Warnings" "kinds" "[I", Cond.methodLink RX4 21 arraycopyName, Cond.native arraycopyName, Cond.static arraycopyName, Cond.initialized "java/lang/System", Cond.fieldLink RX4 15 "ThinVolumes$Warnings" "volumes" "[I", Cond.fieldLink RX4 18 "ThinVolumes$Warnings" "available" "[I"]
def wsX1_bookPiece_r3 : List Cond := [Cond.fieldLink RX4 27 "ThinVolumes$Warnings" "kept" "I", Cond.methodLink RX4 31 Lib.Math.min.name, Cond.static Lib.Math.min.name, Cond.code Lib.Math.min.name Lib.Math.min.code 2 (some .int)]
def wsX1_bookPiece : List Cond := .code yX1_bookPiece cX1_bookPiece 4 none :: ((wsX1_bookPiece_r1 ++ (wsX1_bookPiece_r2 ++ wsX1_bookPiece_r3)) ++ wsX10 ++ wsX40)
def wsX1_writePlace_r1 : List Cond := [Cond.constant RX1 124 (-1000001), Cond.fieldLink RX1 36 "ThinVolumes$Pool" "owners" "[I", Cond.fieldLink RX1 33 "ThinVolumes$Pool" "values" "[I", Cond.fieldLink RX1 18 "ThinVolumes$Pool" "promises" "[I", Cond.fieldLink RX1 15 "ThinVolumes$Pool" "manners" "[I", Cond.constant RX1 149 (-1000005), Cond.fieldLink RX1 30 "ThinVolumes$Pool" "spots" "[I", Cond.methodLink RX1 73 yX1_hasPlace, Cond.instanceMethod yX1_hasPlace, Cond.selects RX1 yX1_hasPlace yX1_hasPlace, Cond.initialized RX1, Cond.code yX1_hasPlace cX1_hasPlace 3 (some .boolean), Cond.fieldLink RX1 9 "ThinVolumes$Pool" "sizes" "[I", Cond.methodLink RX1 69 yX1_lives, Cond.instanceMethod yX1_lives, Cond.selects RX1 yX1_lives yX1_lives, Cond.code yX1_lives cX1_lives 2 (some .boolean), Cond.methodLink RX1 80 yX1_pieceAt, Cond.instanceMethod yX1_pieceAt, Cond.selects RX1 yX1_pieceAt yX1_pieceAt, Cond.code yX1_pieceAt cX1_pieceAt 3 (some .int), Cond.methodLink RX1 77 yX1_isPiece, Cond.instanceMethod yX1_isPiece, Cond.selects RX1 yX1_isPiece yX1_isPiece]
def wsX1_writePlace_r2 : List Cond := [Cond.code yX1_isPiece cX1_isPiece 2 (some .boolean), Cond.methodLink RX1 143 yX1_lowestFreePiece, Cond.instanceMethod yX1_lowestFreePiece, Cond.selects RX1 yX1_lowestFreePiece yX1_lowestFreePiece, Cond.code yX1_lowestFreePiece cX1_lowestFreePiece 2 (some .int), Cond.methodLink RX1 103 yX1_available, Cond.instanceMethod yX1_available, Cond.selects RX1 yX1_available yX1_available, Cond.code yX1_available cX1_available 1 (some .int), Cond.methodLink RX1 96 yX1_freePieces, Cond.instanceMethod yX1_freePieces, Cond.selects RX1 yX1_freePieces yX1_freePieces, Cond.code yX1_freePieces cX1_freePieces 3 (some .int), Cond.methodLink RX1 100 yX1_allPromises, Cond.instanceMethod yX1_allPromises, Cond.selects RX1 yX1_allPromises yX1_allPromises, Cond.code yX1_allPromises cX1_allPromises 3 (some .int), Cond.methodLink RX1 113 yX1_wouldGetUnpromised, Cond.instanceMethod yX1_wouldGetUnpromised, Cond.selects RX1 yX1_wouldGetUnpromised yX1_wouldGetUnpromised, Cond.code yX1_wouldGetUnpromised cX1_wouldGetUnpromised 5 (some .boolean), Cond.fieldLink RX1 39 "ThinVolumes$Pool" "settings" "[I", Cond.methodLink RX1 106 yX1_levelWith, Cond.instanceMethod yX1_levelWith]
def wsX1_writePlace_r3 : List Cond := [Cond.selects RX1 yX1_levelWith yX1_levelWith, Cond.code yX1_levelWith cX1_levelWith 2 (some .int), Cond.methodLink RX1 109 yX1_rankWith, Cond.instanceMethod yX1_rankWith, Cond.selects RX1 yX1_rankWith yX1_rankWith, Cond.code yX1_rankWith cX1_rankWith 6 (some .int), Cond.methodLink RX1 146 yX1_refuse, Cond.instanceMethod yX1_refuse, Cond.selects RX1 yX1_refuse yX1_refuse, Cond.code yX1_refuse cX1_refuse 2 none, Cond.methodLink RX1 91 Lib.Math.max.name, Cond.static Lib.Math.max.name, Cond.initialized "java/lang/Math", Cond.code Lib.Math.max.name Lib.Math.max.code 2 (some .int), Cond.fieldLink RX1 24 "ThinVolumes$Pool" "refusalsOf" "[I", Cond.fieldLink RX1 59 "ThinVolumes$Pool" "refusals" "I", Cond.fieldLink RX1 45 "ThinVolumes$Pool" "warnings" "LThinVolumes$Warnings;", Cond.methodLink RX1 120 yX4_add, Cond.instanceMethod yX4_add, Cond.selects RX4 yX4_add yX4_add, Cond.initialized RX4, Cond.code yX4_add cX4_add 4 none, Cond.fieldLink RX4 9 "ThinVolumes$Warnings" "kinds" "[I", Cond.methodLink RX4 21 arraycopyName]
def wsX1_writePlace_r4 : List Cond := [Cond.native arraycopyName, Cond.static arraycopyName, Cond.initialized "java/lang/System", Cond.fieldLink RX4 15 "ThinVolumes$Warnings" "volumes" "[I", Cond.fieldLink RX4 18 "ThinVolumes$Warnings" "available" "[I", Cond.fieldLink RX4 27 "ThinVolumes$Warnings" "kept" "I", Cond.methodLink RX4 31 Lib.Math.min.name, Cond.static Lib.Math.min.name, Cond.code Lib.Math.min.name Lib.Math.min.code 2 (some .int), Cond.methodLink RX1 133 yX1_level, Cond.instanceMethod yX1_level, Cond.selects RX1 yX1_level yX1_level, Cond.code yX1_level cX1_level 1 (some .int), Cond.methodLink RX1 129 yX1_loosen, Cond.instanceMethod yX1_loosen, Cond.selects RX1 yX1_loosen yX1_loosen, Cond.code yX1_loosen cX1_loosen 4 (some .int), Cond.fieldLink RX1 66 "ThinVolumes$Pool" "piecesFreed" "I", Cond.methodLink RX1 150 yX1_bookPiece, Cond.instanceMethod yX1_bookPiece, Cond.selects RX1 yX1_bookPiece yX1_bookPiece, Cond.code yX1_bookPiece cX1_bookPiece 4 none, Cond.fieldLink RX1 27 "ThinVolumes$Pool" "piecesGotBy" "[I", Cond.fieldLink RX1 63 "ThinVolumes$Pool" "piecesGot" "I"]
def wsX1_writePlace_r5 : List Cond := [Cond.methodLink RX1 117 yX1_mannersBehindUnpromised, Cond.instanceMethod yX1_mannersBehindUnpromised, Cond.selects RX1 yX1_mannersBehindUnpromised yX1_mannersBehindUnpromised, Cond.code yX1_mannersBehindUnpromised cX1_mannersBehindUnpromised 3 (some .int), Cond.methodLink RX1 136 yX1_warnIfLevelRose, Cond.instanceMethod yX1_warnIfLevelRose, Cond.selects RX1 yX1_warnIfLevelRose yX1_warnIfLevelRose, Cond.code yX1_warnIfLevelRose cX1_warnIfLevelRose 3 none]
def wsX1_writePlace : List Cond := .code yX1_writePlace cX1_writePlace 8 (some .int) :: ((wsX1_writePlace_r1 ++ (wsX1_writePlace_r2 ++ (wsX1_writePlace_r3 ++ (wsX1_writePlace_r4 ++ wsX1_writePlace_r5)))) ++ wsX10 ++ wsX40)
def wsX1_thank : List Cond := .code yX1_thank cX1_thank 3 none :: ([.fieldLink RX1 15 "ThinVolumes$Pool" "manners" "[I", .methodLink RX1 158 Lib.Math.min.name, .static Lib.Math.min.name, .initialized "java/lang/Math", .code Lib.Math.min.name Lib.Math.min.code 2 (some .int)] ++ wsX10)
def wsX1_trimPlace_r1 : List Cond := [Cond.constant RX1 124 (-1000001), Cond.constant RX1 132 (-1000002), Cond.methodLink RX1 73 yX1_hasPlace, Cond.instanceMethod yX1_hasPlace, Cond.selects RX1 yX1_hasPlace yX1_hasPlace, Cond.initialized RX1, Cond.code yX1_hasPlace cX1_hasPlace 3 (some .boolean), Cond.fieldLink RX1 9 "ThinVolumes$Pool" "sizes" "[I", Cond.methodLink RX1 69 yX1_lives, Cond.instanceMethod yX1_lives, Cond.selects RX1 yX1_lives yX1_lives, Cond.code yX1_lives cX1_lives 2 (some .boolean), Cond.methodLink RX1 80 yX1_pieceAt, Cond.instanceMethod yX1_pieceAt, Cond.selects RX1 yX1_pieceAt yX1_pieceAt, Cond.code yX1_pieceAt cX1_pieceAt 3 (some .int), Cond.fieldLink RX1 30 "ThinVolumes$Pool" "spots" "[I", Cond.methodLink RX1 129 yX1_loosen, Cond.instanceMethod yX1_loosen, Cond.selects RX1 yX1_loosen yX1_loosen, Cond.code yX1_loosen cX1_loosen 4 (some .int), Cond.fieldLink RX1 36 "ThinVolumes$Pool" "owners" "[I", Cond.fieldLink RX1 66 "ThinVolumes$Pool" "piecesFreed" "I", Cond.methodLink RX1 77 yX1_isPiece]
def wsX1_trimPlace_r2 : List Cond := [Cond.instanceMethod yX1_isPiece, Cond.selects RX1 yX1_isPiece yX1_isPiece, Cond.code yX1_isPiece cX1_isPiece 2 (some .boolean), Cond.methodLink RX1 154 yX1_thank, Cond.instanceMethod yX1_thank, Cond.selects RX1 yX1_thank yX1_thank, Cond.code yX1_thank cX1_thank 3 none, Cond.fieldLink RX1 15 "ThinVolumes$Pool" "manners" "[I", Cond.methodLink RX1 158 Lib.Math.min.name, Cond.static Lib.Math.min.name, Cond.initialized "java/lang/Math", Cond.code Lib.Math.min.name Lib.Math.min.code 2 (some .int)]
def wsX1_trimPlace : List Cond := .code yX1_trimPlace cX1_trimPlace 4 (some .int) :: ((wsX1_trimPlace_r1 ++ wsX1_trimPlace_r2) ++ wsX10)
def wsX1_sweepVolume_r1 : List Cond := [Cond.constant RX1 124 (-1000001), Cond.fieldLink RX1 33 "ThinVolumes$Pool" "values" "[I", Cond.methodLink RX1 69 yX1_lives, Cond.instanceMethod yX1_lives, Cond.selects RX1 yX1_lives yX1_lives, Cond.initialized RX1, Cond.code yX1_lives cX1_lives 2 (some .boolean), Cond.fieldLink RX1 9 "ThinVolumes$Pool" "sizes" "[I", Cond.methodLink RX1 80 yX1_pieceAt, Cond.instanceMethod yX1_pieceAt, Cond.selects RX1 yX1_pieceAt yX1_pieceAt, Cond.code yX1_pieceAt cX1_pieceAt 3 (some .int), Cond.fieldLink RX1 30 "ThinVolumes$Pool" "spots" "[I", Cond.methodLink RX1 73 yX1_hasPlace, Cond.instanceMethod yX1_hasPlace, Cond.selects RX1 yX1_hasPlace yX1_hasPlace, Cond.code yX1_hasPlace cX1_hasPlace 3 (some .boolean), Cond.methodLink RX1 77 yX1_isPiece, Cond.instanceMethod yX1_isPiece, Cond.selects RX1 yX1_isPiece yX1_isPiece, Cond.code yX1_isPiece cX1_isPiece 2 (some .boolean), Cond.methodLink RX1 129 yX1_loosen, Cond.instanceMethod yX1_loosen, Cond.selects RX1 yX1_loosen yX1_loosen]
def wsX1_sweepVolume_r2 : List Cond := [Cond.code yX1_loosen cX1_loosen 4 (some .int), Cond.fieldLink RX1 36 "ThinVolumes$Pool" "owners" "[I", Cond.fieldLink RX1 66 "ThinVolumes$Pool" "piecesFreed" "I", Cond.methodLink RX1 154 yX1_thank, Cond.instanceMethod yX1_thank, Cond.selects RX1 yX1_thank yX1_thank, Cond.code yX1_thank cX1_thank 3 none, Cond.fieldLink RX1 15 "ThinVolumes$Pool" "manners" "[I", Cond.methodLink RX1 158 Lib.Math.min.name, Cond.static Lib.Math.min.name, Cond.initialized "java/lang/Math", Cond.code Lib.Math.min.name Lib.Math.min.code 2 (some .int)]
def wsX1_sweepVolume : List Cond := .code yX1_sweepVolume cX1_sweepVolume 5 (some .int) :: ((wsX1_sweepVolume_r1 ++ wsX1_sweepVolume_r2) ++ wsX10)
def wsX1_moveOwners : List Cond := .code yX1_moveOwners cX1_moveOwners 4 none :: ([.fieldLink RX1 30 "ThinVolumes$Pool" "spots" "[I", .fieldLink RX1 36 "ThinVolumes$Pool" "owners" "[I"] ++ wsX10)
def wsX1_mergePieces : List Cond := .code yX1_mergePieces cX1_mergePieces 4 (some .int) :: ([.fieldLink RX1 36 "ThinVolumes$Pool" "owners" "[I", .fieldLink RX1 33 "ThinVolumes$Pool" "values" "[I", .fieldLink RX1 66 "ThinVolumes$Pool" "piecesFreed" "I", .methodLink RX1 161 yX1_moveOwners, .instanceMethod yX1_moveOwners, .selects RX1 yX1_moveOwners yX1_moveOwners, .initialized RX1, .code yX1_moveOwners cX1_moveOwners 4 none, .fieldLink RX1 30 "ThinVolumes$Pool" "spots" "[I"] ++ wsX10)
def wsX2_init_r1 : List Cond := [Cond.methodLink RX2 3 objectInit, Cond.instanceMethod objectInit, Cond.code objectInit ⟨#[0xb1]⟩ 1 none, Cond.classLink RX2 9 RX1, Cond.instantiable RX1 14, Cond.initialized RX1, Cond.fieldLink RX2 12 "ThinVolumes$Rehearsal" "trial" "LThinVolumes$Pool;", Cond.methodLink RX2 11 yX1_init, Cond.instanceMethod yX1_init, Cond.code yX1_init cX1_init 2 none, Cond.methodLink RX1 3 objectInit, Cond.arrayClass .int, Cond.fieldLink RX1 9 "ThinVolumes$Pool" "sizes" "[I", Cond.fieldLink RX1 15 "ThinVolumes$Pool" "manners" "[I", Cond.fieldLink RX1 18 "ThinVolumes$Pool" "promises" "[I", Cond.fieldLink RX1 21 "ThinVolumes$Pool" "parents" "[I", Cond.fieldLink RX1 24 "ThinVolumes$Pool" "refusalsOf" "[I", Cond.fieldLink RX1 27 "ThinVolumes$Pool" "piecesGotBy" "[I", Cond.fieldLink RX1 30 "ThinVolumes$Pool" "spots" "[I", Cond.fieldLink RX1 33 "ThinVolumes$Pool" "values" "[I", Cond.fieldLink RX1 36 "ThinVolumes$Pool" "owners" "[I", Cond.fieldLink RX1 39 "ThinVolumes$Pool" "settings" "[I", Cond.classLink RX1 42 RX4, Cond.instantiable RX4 4]
def wsX2_init_r2 : List Cond := [Cond.initialized RX4, Cond.fieldLink RX1 45 "ThinVolumes$Pool" "warnings" "LThinVolumes$Warnings;", Cond.instanceMethod yX4_init, Cond.code yX4_init cX4_init 1 none, Cond.methodLink RX4 3 objectInit, Cond.fieldLink RX4 9 "ThinVolumes$Warnings" "kinds" "[I", Cond.fieldLink RX4 15 "ThinVolumes$Warnings" "volumes" "[I", Cond.fieldLink RX4 18 "ThinVolumes$Warnings" "available" "[I"]
def wsX2_init : List Cond := .code yX2_init cX2_init 1 none :: ((wsX2_init_r1 ++ wsX2_init_r2) ++ wsX10 ++ wsX20 ++ wsX40)
def wsX3_signHere : List Cond := .code yX3_signHere cX3_signHere 1 (some .int) :: ([.fieldLink RX3 22 "ThinVolumes$Text" "next" "I", .fieldLink RX3 18 "ThinVolumes$Text" "length" "I", .fieldLink RX3 9 "ThinVolumes$Text" "signs" "[I"] ++ wsX30)
def wsX3_numbersDue : List Cond := .code yX3_numbersDue cX3_numbersDue 2 (some .int) :: ([])
def wsX3_passes : List Cond := .code yX3_passes cX3_passes 2 (some .boolean) :: ([.fieldLink RX3 22 "ThinVolumes$Text" "next" "I", .methodLink RX3 25 yX3_signHere, .instanceMethod yX3_signHere, .selects RX3 yX3_signHere yX3_signHere, .initialized RX3, .code yX3_signHere cX3_signHere 1 (some .int), .fieldLink RX3 18 "ThinVolumes$Text" "length" "I", .fieldLink RX3 9 "ThinVolumes$Text" "signs" "[I"] ++ wsX30)
def wsX3_readDigit : List Cond := .code yX3_readDigit cX3_readDigit 2 (some .int) :: ([.fieldLink RX3 22 "ThinVolumes$Text" "next" "I", .methodLink RX3 25 yX3_signHere, .instanceMethod yX3_signHere, .selects RX3 yX3_signHere yX3_signHere, .initialized RX3, .code yX3_signHere cX3_signHere 1 (some .int), .fieldLink RX3 18 "ThinVolumes$Text" "length" "I", .fieldLink RX3 9 "ThinVolumes$Text" "signs" "[I"] ++ wsX30)
def wsX3_readNumber : List Cond := .code yX3_readNumber cX3_readNumber 3 (some .int) :: ([.methodLink RX3 43 yX3_readDigit, .instanceMethod yX3_readDigit, .selects RX3 yX3_readDigit yX3_readDigit, .initialized RX3, .code yX3_readDigit cX3_readDigit 2 (some .int), .fieldLink RX3 22 "ThinVolumes$Text" "next" "I", .methodLink RX3 25 yX3_signHere, .instanceMethod yX3_signHere, .selects RX3 yX3_signHere yX3_signHere, .code yX3_signHere cX3_signHere 1 (some .int), .fieldLink RX3 18 "ThinVolumes$Text" "length" "I", .fieldLink RX3 9 "ThinVolumes$Text" "signs" "[I"] ++ wsX30)
def wsX3_readOrder_r1 : List Cond := [Cond.fieldLink RX3 22 "ThinVolumes$Text" "next" "I", Cond.fieldLink RX3 29 "ThinVolumes$Text" "kind" "I", Cond.fieldLink RX3 15 "ThinVolumes$Text" "numbers" "[I", Cond.methodLink RX3 25 yX3_signHere, Cond.instanceMethod yX3_signHere, Cond.selects RX3 yX3_signHere yX3_signHere, Cond.initialized RX3, Cond.code yX3_signHere cX3_signHere 1 (some .int), Cond.fieldLink RX3 18 "ThinVolumes$Text" "length" "I", Cond.fieldLink RX3 9 "ThinVolumes$Text" "signs" "[I", Cond.methodLink RX3 32 yX3_numbersDue, Cond.instanceMethod yX3_numbersDue, Cond.selects RX3 yX3_numbersDue yX3_numbersDue, Cond.code yX3_numbersDue cX3_numbersDue 2 (some .int), Cond.methodLink RX3 36 yX3_passes, Cond.instanceMethod yX3_passes, Cond.selects RX3 yX3_passes yX3_passes, Cond.code yX3_passes cX3_passes 2 (some .boolean), Cond.methodLink RX3 40 yX3_readNumber, Cond.instanceMethod yX3_readNumber, Cond.selects RX3 yX3_readNumber yX3_readNumber, Cond.code yX3_readNumber cX3_readNumber 3 (some .int), Cond.methodLink RX3 43 yX3_readDigit, Cond.instanceMethod yX3_readDigit]
def wsX3_readOrder_r2 : List Cond := [Cond.selects RX3 yX3_readDigit yX3_readDigit, Cond.code yX3_readDigit cX3_readDigit 2 (some .int)]
def wsX3_readOrder : List Cond := .code yX3_readOrder cX3_readOrder 4 (some .boolean) :: ((wsX3_readOrder_r1 ++ wsX3_readOrder_r2) ++ wsX30)
def wsX2_obey_r1 : List Cond := [Cond.fieldLink RX2 49 "ThinVolumes$Text" "numbers" "[I", Cond.fieldLink RX2 53 "ThinVolumes$Text" "kind" "I", Cond.fieldLink RX2 12 "ThinVolumes$Rehearsal" "trial" "LThinVolumes$Pool;", Cond.methodLink RX2 56 yX1_writePlace, Cond.instanceMethod yX1_writePlace, Cond.selects RX1 yX1_writePlace yX1_writePlace, Cond.initialized RX1, Cond.code yX1_writePlace cX1_writePlace 8 (some .int), Cond.constant RX1 124 (-1000001), Cond.fieldLink RX1 36 "ThinVolumes$Pool" "owners" "[I", Cond.fieldLink RX1 33 "ThinVolumes$Pool" "values" "[I", Cond.fieldLink RX1 18 "ThinVolumes$Pool" "promises" "[I", Cond.fieldLink RX1 15 "ThinVolumes$Pool" "manners" "[I", Cond.constant RX1 149 (-1000005), Cond.fieldLink RX1 30 "ThinVolumes$Pool" "spots" "[I", Cond.methodLink RX1 73 yX1_hasPlace, Cond.instanceMethod yX1_hasPlace, Cond.selects RX1 yX1_hasPlace yX1_hasPlace, Cond.code yX1_hasPlace cX1_hasPlace 3 (some .boolean), Cond.fieldLink RX1 9 "ThinVolumes$Pool" "sizes" "[I", Cond.methodLink RX1 69 yX1_lives, Cond.instanceMethod yX1_lives, Cond.selects RX1 yX1_lives yX1_lives, Cond.code yX1_lives cX1_lives 2 (some .boolean)]
def wsX2_obey_r2 : List Cond := [Cond.methodLink RX1 80 yX1_pieceAt, Cond.instanceMethod yX1_pieceAt, Cond.selects RX1 yX1_pieceAt yX1_pieceAt, Cond.code yX1_pieceAt cX1_pieceAt 3 (some .int), Cond.methodLink RX1 77 yX1_isPiece, Cond.instanceMethod yX1_isPiece, Cond.selects RX1 yX1_isPiece yX1_isPiece, Cond.code yX1_isPiece cX1_isPiece 2 (some .boolean), Cond.methodLink RX1 143 yX1_lowestFreePiece, Cond.instanceMethod yX1_lowestFreePiece, Cond.selects RX1 yX1_lowestFreePiece yX1_lowestFreePiece, Cond.code yX1_lowestFreePiece cX1_lowestFreePiece 2 (some .int), Cond.methodLink RX1 103 yX1_available, Cond.instanceMethod yX1_available, Cond.selects RX1 yX1_available yX1_available, Cond.code yX1_available cX1_available 1 (some .int), Cond.methodLink RX1 96 yX1_freePieces, Cond.instanceMethod yX1_freePieces, Cond.selects RX1 yX1_freePieces yX1_freePieces, Cond.code yX1_freePieces cX1_freePieces 3 (some .int), Cond.methodLink RX1 100 yX1_allPromises, Cond.instanceMethod yX1_allPromises, Cond.selects RX1 yX1_allPromises yX1_allPromises, Cond.code yX1_allPromises cX1_allPromises 3 (some .int)]
def wsX2_obey_r3 : List Cond := [Cond.methodLink RX1 113 yX1_wouldGetUnpromised, Cond.instanceMethod yX1_wouldGetUnpromised, Cond.selects RX1 yX1_wouldGetUnpromised yX1_wouldGetUnpromised, Cond.code yX1_wouldGetUnpromised cX1_wouldGetUnpromised 5 (some .boolean), Cond.fieldLink RX1 39 "ThinVolumes$Pool" "settings" "[I", Cond.methodLink RX1 106 yX1_levelWith, Cond.instanceMethod yX1_levelWith, Cond.selects RX1 yX1_levelWith yX1_levelWith, Cond.code yX1_levelWith cX1_levelWith 2 (some .int), Cond.methodLink RX1 109 yX1_rankWith, Cond.instanceMethod yX1_rankWith, Cond.selects RX1 yX1_rankWith yX1_rankWith, Cond.code yX1_rankWith cX1_rankWith 6 (some .int), Cond.methodLink RX1 146 yX1_refuse, Cond.instanceMethod yX1_refuse, Cond.selects RX1 yX1_refuse yX1_refuse, Cond.code yX1_refuse cX1_refuse 2 none, Cond.methodLink RX1 91 Lib.Math.max.name, Cond.static Lib.Math.max.name, Cond.initialized "java/lang/Math", Cond.code Lib.Math.max.name Lib.Math.max.code 2 (some .int), Cond.fieldLink RX1 24 "ThinVolumes$Pool" "refusalsOf" "[I", Cond.fieldLink RX1 59 "ThinVolumes$Pool" "refusals" "I", Cond.fieldLink RX1 45 "ThinVolumes$Pool" "warnings" "LThinVolumes$Warnings;"]
def wsX2_obey_r4 : List Cond := [Cond.methodLink RX1 120 yX4_add, Cond.instanceMethod yX4_add, Cond.selects RX4 yX4_add yX4_add, Cond.initialized RX4, Cond.code yX4_add cX4_add 4 none, Cond.fieldLink RX4 9 "ThinVolumes$Warnings" "kinds" "[I", Cond.methodLink RX4 21 arraycopyName, Cond.native arraycopyName, Cond.static arraycopyName, Cond.initialized "java/lang/System", Cond.fieldLink RX4 15 "ThinVolumes$Warnings" "volumes" "[I", Cond.fieldLink RX4 18 "ThinVolumes$Warnings" "available" "[I", Cond.fieldLink RX4 27 "ThinVolumes$Warnings" "kept" "I", Cond.methodLink RX4 31 Lib.Math.min.name, Cond.static Lib.Math.min.name, Cond.code Lib.Math.min.name Lib.Math.min.code 2 (some .int), Cond.methodLink RX1 133 yX1_level, Cond.instanceMethod yX1_level, Cond.selects RX1 yX1_level yX1_level, Cond.code yX1_level cX1_level 1 (some .int), Cond.methodLink RX1 129 yX1_loosen, Cond.instanceMethod yX1_loosen, Cond.selects RX1 yX1_loosen yX1_loosen, Cond.code yX1_loosen cX1_loosen 4 (some .int)]
def wsX2_obey_r5 : List Cond := [Cond.fieldLink RX1 66 "ThinVolumes$Pool" "piecesFreed" "I", Cond.methodLink RX1 150 yX1_bookPiece, Cond.instanceMethod yX1_bookPiece, Cond.selects RX1 yX1_bookPiece yX1_bookPiece, Cond.code yX1_bookPiece cX1_bookPiece 4 none, Cond.fieldLink RX1 27 "ThinVolumes$Pool" "piecesGotBy" "[I", Cond.fieldLink RX1 63 "ThinVolumes$Pool" "piecesGot" "I", Cond.methodLink RX1 117 yX1_mannersBehindUnpromised, Cond.instanceMethod yX1_mannersBehindUnpromised, Cond.selects RX1 yX1_mannersBehindUnpromised yX1_mannersBehindUnpromised, Cond.code yX1_mannersBehindUnpromised cX1_mannersBehindUnpromised 3 (some .int), Cond.methodLink RX1 136 yX1_warnIfLevelRose, Cond.instanceMethod yX1_warnIfLevelRose, Cond.selects RX1 yX1_warnIfLevelRose yX1_warnIfLevelRose, Cond.code yX1_warnIfLevelRose cX1_warnIfLevelRose 3 none, Cond.methodLink RX2 60 yX1_trimPlace, Cond.instanceMethod yX1_trimPlace, Cond.selects RX1 yX1_trimPlace yX1_trimPlace, Cond.code yX1_trimPlace cX1_trimPlace 4 (some .int), Cond.constant RX1 132 (-1000002), Cond.methodLink RX1 154 yX1_thank, Cond.instanceMethod yX1_thank, Cond.selects RX1 yX1_thank yX1_thank, Cond.code yX1_thank cX1_thank 3 none]
def wsX2_obey_r6 : List Cond := [Cond.methodLink RX1 158 Lib.Math.min.name, Cond.methodLink RX2 64 yX1_sweepVolume, Cond.instanceMethod yX1_sweepVolume, Cond.selects RX1 yX1_sweepVolume yX1_sweepVolume, Cond.code yX1_sweepVolume cX1_sweepVolume 5 (some .int), Cond.methodLink RX2 67 yX1_cloneVolume, Cond.instanceMethod yX1_cloneVolume, Cond.selects RX1 yX1_cloneVolume yX1_cloneVolume, Cond.code yX1_cloneVolume cX1_cloneVolume 5 (some .int), Cond.fieldLink RX1 21 "ThinVolumes$Pool" "parents" "[I", Cond.methodLink RX1 126 yX1_openVolume, Cond.instanceMethod yX1_openVolume, Cond.selects RX1 yX1_openVolume yX1_openVolume, Cond.code yX1_openVolume cX1_openVolume 3 (some .int), Cond.constant RX1 125 (-1000003), Cond.methodLink RX2 70 yX1_dropVolume, Cond.instanceMethod yX1_dropVolume, Cond.selects RX1 yX1_dropVolume yX1_dropVolume, Cond.code yX1_dropVolume cX1_dropVolume 4 (some .int), Cond.methodLink RX2 73 yX1_mergePieces, Cond.instanceMethod yX1_mergePieces, Cond.selects RX1 yX1_mergePieces yX1_mergePieces, Cond.code yX1_mergePieces cX1_mergePieces 4 (some .int), Cond.methodLink RX1 161 yX1_moveOwners]
def wsX2_obey_r7 : List Cond := [Cond.instanceMethod yX1_moveOwners, Cond.selects RX1 yX1_moveOwners yX1_moveOwners, Cond.code yX1_moveOwners cX1_moveOwners 4 none]
def wsX2_obey : List Cond := .code yX2_obey cX2_obey 3 (some .int) :: ((wsX2_obey_r1 ++ (wsX2_obey_r2 ++ (wsX2_obey_r3 ++ (wsX2_obey_r4 ++ (wsX2_obey_r5 ++ (wsX2_obey_r6 ++ wsX2_obey_r7)))))) ++ wsX30 ++ wsX20 ++ wsX10 ++ wsX40)
def wsX5_isError : List Cond := .code yX5_isError cX5_isError 1 (some .boolean) :: ([.constant RX5 79 (-1000001), .constant RX5 212 (-1000002), .constant RX5 216 (-1000003), .constant RX5 86 (-1000004)])
def wsX2_reasonOf : List Cond := .code yX2_reasonOf cX2_reasonOf 2 (some .int) :: ([.constant RX2 77 (-1000001), .static yX5_isError, .initialized RX5, .code yX5_isError cX5_isError 1 (some .boolean), .constant RX5 79 (-1000001), .constant RX5 212 (-1000002), .constant RX5 216 (-1000003), .constant RX5 86 (-1000004)])
def wsX2_perform_r1 : List Cond := [Cond.fieldLink RX2 12 "ThinVolumes$Rehearsal" "trial" "LThinVolumes$Pool;", Cond.fieldLink RX2 22 "ThinVolumes$Rehearsal" "position" "I", Cond.fieldLink RX2 26 "ThinVolumes$Rehearsal" "reason" "I", Cond.fieldLink RX2 29 "ThinVolumes$Text" "length" "I", Cond.fieldLink RX2 46 "ThinVolumes$Text" "next" "I", Cond.methodLink RX2 18 yX1_copyFrom, Cond.instanceMethod yX1_copyFrom, Cond.selects RX1 yX1_copyFrom yX1_copyFrom, Cond.initialized RX1, Cond.code yX1_copyFrom cX1_copyFrom 2 none, Cond.fieldLink RX1 9 "ThinVolumes$Pool" "sizes" "[I", Cond.methodLink RX1 49 arraycopyName, Cond.native arraycopyName, Cond.static arraycopyName, Cond.initialized "java/lang/System", Cond.fieldLink RX1 15 "ThinVolumes$Pool" "manners" "[I", Cond.fieldLink RX1 18 "ThinVolumes$Pool" "promises" "[I", Cond.fieldLink RX1 21 "ThinVolumes$Pool" "parents" "[I", Cond.fieldLink RX1 24 "ThinVolumes$Pool" "refusalsOf" "[I", Cond.fieldLink RX1 27 "ThinVolumes$Pool" "piecesGotBy" "[I", Cond.fieldLink RX1 30 "ThinVolumes$Pool" "spots" "[I", Cond.fieldLink RX1 33 "ThinVolumes$Pool" "values" "[I", Cond.fieldLink RX1 36 "ThinVolumes$Pool" "owners" "[I", Cond.fieldLink RX1 39 "ThinVolumes$Pool" "settings" "[I"]
def wsX2_perform_r2 : List Cond := [Cond.fieldLink RX1 45 "ThinVolumes$Pool" "warnings" "LThinVolumes$Warnings;", Cond.fieldLink RX1 59 "ThinVolumes$Pool" "refusals" "I", Cond.fieldLink RX1 63 "ThinVolumes$Pool" "piecesGot" "I", Cond.fieldLink RX1 66 "ThinVolumes$Pool" "piecesFreed" "I", Cond.methodLink RX1 55 yX4_copyFrom, Cond.instanceMethod yX4_copyFrom, Cond.selects RX4 yX4_copyFrom yX4_copyFrom, Cond.initialized RX4, Cond.code yX4_copyFrom cX4_copyFrom 2 none, Cond.fieldLink RX4 9 "ThinVolumes$Warnings" "kinds" "[I", Cond.methodLink RX4 21 arraycopyName, Cond.fieldLink RX4 15 "ThinVolumes$Warnings" "volumes" "[I", Cond.fieldLink RX4 18 "ThinVolumes$Warnings" "available" "[I", Cond.fieldLink RX4 27 "ThinVolumes$Warnings" "kept" "I", Cond.methodLink RX2 34 yX3_readOrder, Cond.instanceMethod yX3_readOrder, Cond.selects RX3 yX3_readOrder yX3_readOrder, Cond.initialized RX3, Cond.code yX3_readOrder cX3_readOrder 4 (some .boolean), Cond.fieldLink RX3 22 "ThinVolumes$Text" "next" "I", Cond.fieldLink RX3 29 "ThinVolumes$Text" "kind" "I", Cond.fieldLink RX3 15 "ThinVolumes$Text" "numbers" "[I", Cond.methodLink RX3 25 yX3_signHere, Cond.instanceMethod yX3_signHere]
def wsX2_perform_r3 : List Cond := [Cond.selects RX3 yX3_signHere yX3_signHere, Cond.code yX3_signHere cX3_signHere 1 (some .int), Cond.fieldLink RX3 18 "ThinVolumes$Text" "length" "I", Cond.fieldLink RX3 9 "ThinVolumes$Text" "signs" "[I", Cond.methodLink RX3 32 yX3_numbersDue, Cond.instanceMethod yX3_numbersDue, Cond.selects RX3 yX3_numbersDue yX3_numbersDue, Cond.code yX3_numbersDue cX3_numbersDue 2 (some .int), Cond.methodLink RX3 36 yX3_passes, Cond.instanceMethod yX3_passes, Cond.selects RX3 yX3_passes yX3_passes, Cond.code yX3_passes cX3_passes 2 (some .boolean), Cond.methodLink RX3 40 yX3_readNumber, Cond.instanceMethod yX3_readNumber, Cond.selects RX3 yX3_readNumber yX3_readNumber, Cond.code yX3_readNumber cX3_readNumber 3 (some .int), Cond.methodLink RX3 43 yX3_readDigit, Cond.instanceMethod yX3_readDigit, Cond.selects RX3 yX3_readDigit yX3_readDigit, Cond.code yX3_readDigit cX3_readDigit 2 (some .int), Cond.methodLink RX2 38 yX2_obey, Cond.instanceMethod yX2_obey, Cond.selects RX2 yX2_obey yX2_obey, Cond.initialized RX2]
def wsX2_perform_r4 : List Cond := [Cond.code yX2_obey cX2_obey 3 (some .int), Cond.fieldLink RX2 49 "ThinVolumes$Text" "numbers" "[I", Cond.fieldLink RX2 53 "ThinVolumes$Text" "kind" "I", Cond.methodLink RX2 56 yX1_writePlace, Cond.instanceMethod yX1_writePlace, Cond.selects RX1 yX1_writePlace yX1_writePlace, Cond.code yX1_writePlace cX1_writePlace 8 (some .int), Cond.constant RX1 124 (-1000001), Cond.constant RX1 149 (-1000005), Cond.methodLink RX1 73 yX1_hasPlace, Cond.instanceMethod yX1_hasPlace, Cond.selects RX1 yX1_hasPlace yX1_hasPlace, Cond.code yX1_hasPlace cX1_hasPlace 3 (some .boolean), Cond.methodLink RX1 69 yX1_lives, Cond.instanceMethod yX1_lives, Cond.selects RX1 yX1_lives yX1_lives, Cond.code yX1_lives cX1_lives 2 (some .boolean), Cond.methodLink RX1 80 yX1_pieceAt, Cond.instanceMethod yX1_pieceAt, Cond.selects RX1 yX1_pieceAt yX1_pieceAt, Cond.code yX1_pieceAt cX1_pieceAt 3 (some .int), Cond.methodLink RX1 77 yX1_isPiece, Cond.instanceMethod yX1_isPiece, Cond.selects RX1 yX1_isPiece yX1_isPiece]
def wsX2_perform_r5 : List Cond := [Cond.code yX1_isPiece cX1_isPiece 2 (some .boolean), Cond.methodLink RX1 143 yX1_lowestFreePiece, Cond.instanceMethod yX1_lowestFreePiece, Cond.selects RX1 yX1_lowestFreePiece yX1_lowestFreePiece, Cond.code yX1_lowestFreePiece cX1_lowestFreePiece 2 (some .int), Cond.methodLink RX1 103 yX1_available, Cond.instanceMethod yX1_available, Cond.selects RX1 yX1_available yX1_available, Cond.code yX1_available cX1_available 1 (some .int), Cond.methodLink RX1 96 yX1_freePieces, Cond.instanceMethod yX1_freePieces, Cond.selects RX1 yX1_freePieces yX1_freePieces, Cond.code yX1_freePieces cX1_freePieces 3 (some .int), Cond.methodLink RX1 100 yX1_allPromises, Cond.instanceMethod yX1_allPromises, Cond.selects RX1 yX1_allPromises yX1_allPromises, Cond.code yX1_allPromises cX1_allPromises 3 (some .int), Cond.methodLink RX1 113 yX1_wouldGetUnpromised, Cond.instanceMethod yX1_wouldGetUnpromised, Cond.selects RX1 yX1_wouldGetUnpromised yX1_wouldGetUnpromised, Cond.code yX1_wouldGetUnpromised cX1_wouldGetUnpromised 5 (some .boolean), Cond.methodLink RX1 106 yX1_levelWith, Cond.instanceMethod yX1_levelWith, Cond.selects RX1 yX1_levelWith yX1_levelWith]
def wsX2_perform_r6 : List Cond := [Cond.code yX1_levelWith cX1_levelWith 2 (some .int), Cond.methodLink RX1 109 yX1_rankWith, Cond.instanceMethod yX1_rankWith, Cond.selects RX1 yX1_rankWith yX1_rankWith, Cond.code yX1_rankWith cX1_rankWith 6 (some .int), Cond.methodLink RX1 146 yX1_refuse, Cond.instanceMethod yX1_refuse, Cond.selects RX1 yX1_refuse yX1_refuse, Cond.code yX1_refuse cX1_refuse 2 none, Cond.methodLink RX1 91 Lib.Math.max.name, Cond.static Lib.Math.max.name, Cond.initialized "java/lang/Math", Cond.code Lib.Math.max.name Lib.Math.max.code 2 (some .int), Cond.methodLink RX1 120 yX4_add, Cond.instanceMethod yX4_add, Cond.selects RX4 yX4_add yX4_add, Cond.code yX4_add cX4_add 4 none, Cond.methodLink RX4 31 Lib.Math.min.name, Cond.static Lib.Math.min.name, Cond.code Lib.Math.min.name Lib.Math.min.code 2 (some .int), Cond.methodLink RX1 133 yX1_level, Cond.instanceMethod yX1_level, Cond.selects RX1 yX1_level yX1_level, Cond.code yX1_level cX1_level 1 (some .int)]
def wsX2_perform_r7 : List Cond := [Cond.methodLink RX1 129 yX1_loosen, Cond.instanceMethod yX1_loosen, Cond.selects RX1 yX1_loosen yX1_loosen, Cond.code yX1_loosen cX1_loosen 4 (some .int), Cond.methodLink RX1 150 yX1_bookPiece, Cond.instanceMethod yX1_bookPiece, Cond.selects RX1 yX1_bookPiece yX1_bookPiece, Cond.code yX1_bookPiece cX1_bookPiece 4 none, Cond.methodLink RX1 117 yX1_mannersBehindUnpromised, Cond.instanceMethod yX1_mannersBehindUnpromised, Cond.selects RX1 yX1_mannersBehindUnpromised yX1_mannersBehindUnpromised, Cond.code yX1_mannersBehindUnpromised cX1_mannersBehindUnpromised 3 (some .int), Cond.methodLink RX1 136 yX1_warnIfLevelRose, Cond.instanceMethod yX1_warnIfLevelRose, Cond.selects RX1 yX1_warnIfLevelRose yX1_warnIfLevelRose, Cond.code yX1_warnIfLevelRose cX1_warnIfLevelRose 3 none, Cond.methodLink RX2 60 yX1_trimPlace, Cond.instanceMethod yX1_trimPlace, Cond.selects RX1 yX1_trimPlace yX1_trimPlace, Cond.code yX1_trimPlace cX1_trimPlace 4 (some .int), Cond.constant RX1 132 (-1000002), Cond.methodLink RX1 154 yX1_thank, Cond.instanceMethod yX1_thank, Cond.selects RX1 yX1_thank yX1_thank]
def wsX2_perform_r8 : List Cond := [Cond.code yX1_thank cX1_thank 3 none, Cond.methodLink RX1 158 Lib.Math.min.name, Cond.methodLink RX2 64 yX1_sweepVolume, Cond.instanceMethod yX1_sweepVolume, Cond.selects RX1 yX1_sweepVolume yX1_sweepVolume, Cond.code yX1_sweepVolume cX1_sweepVolume 5 (some .int), Cond.methodLink RX2 67 yX1_cloneVolume, Cond.instanceMethod yX1_cloneVolume, Cond.selects RX1 yX1_cloneVolume yX1_cloneVolume, Cond.code yX1_cloneVolume cX1_cloneVolume 5 (some .int), Cond.methodLink RX1 126 yX1_openVolume, Cond.instanceMethod yX1_openVolume, Cond.selects RX1 yX1_openVolume yX1_openVolume, Cond.code yX1_openVolume cX1_openVolume 3 (some .int), Cond.constant RX1 125 (-1000003), Cond.methodLink RX2 70 yX1_dropVolume, Cond.instanceMethod yX1_dropVolume, Cond.selects RX1 yX1_dropVolume yX1_dropVolume, Cond.code yX1_dropVolume cX1_dropVolume 4 (some .int), Cond.methodLink RX2 73 yX1_mergePieces, Cond.instanceMethod yX1_mergePieces, Cond.selects RX1 yX1_mergePieces yX1_mergePieces, Cond.code yX1_mergePieces cX1_mergePieces 4 (some .int), Cond.methodLink RX1 161 yX1_moveOwners]
def wsX2_perform_r9 : List Cond := [Cond.instanceMethod yX1_moveOwners, Cond.selects RX1 yX1_moveOwners yX1_moveOwners, Cond.code yX1_moveOwners cX1_moveOwners 4 none, Cond.methodLink RX2 42 yX2_reasonOf, Cond.instanceMethod yX2_reasonOf, Cond.selects RX2 yX2_reasonOf yX2_reasonOf, Cond.code yX2_reasonOf cX2_reasonOf 2 (some .int), Cond.constant RX2 77 (-1000001), Cond.static yX5_isError, Cond.initialized RX5, Cond.code yX5_isError cX5_isError 1 (some .boolean), Cond.constant RX5 79 (-1000001), Cond.constant RX5 212 (-1000002), Cond.constant RX5 216 (-1000003), Cond.constant RX5 86 (-1000004)]
def wsX2_perform : List Cond := .code yX2_perform cX2_perform 4 none :: ((wsX2_perform_r1 ++ (wsX2_perform_r2 ++ (wsX2_perform_r3 ++ (wsX2_perform_r4 ++ (wsX2_perform_r5 ++ (wsX2_perform_r6 ++ (wsX2_perform_r7 ++ (wsX2_perform_r8 ++ wsX2_perform_r9)))))))) ++ wsX20 ++ wsX30 ++ wsX10 ++ wsX40)
def wsX3_init : List Cond := .code yX3_init cX3_init 1 none :: ([.methodLink RX3 3 objectInit, .instanceMethod objectInit, .code objectInit ⟨#[0xb1]⟩ 1 none, .arrayClass .int, .fieldLink RX3 9 "ThinVolumes$Text" "signs" "[I", .fieldLink RX3 15 "ThinVolumes$Text" "numbers" "[I"] ++ wsX30)
def wsX3_append : List Cond := .code yX3_append cX3_append 2 (some .boolean) :: ([.fieldLink RX3 18 "ThinVolumes$Text" "length" "I", .fieldLink RX3 9 "ThinVolumes$Text" "signs" "[I"] ++ wsX30)
def wsX4_tell : List Cond := .code yX4_tell cX4_tell 3 (some .int) :: ([.fieldLink RX4 27 "ThinVolumes$Warnings" "kept" "I", .constant RX4 37 (-1000004), .fieldLink RX4 9 "ThinVolumes$Warnings" "kinds" "[I", .fieldLink RX4 15 "ThinVolumes$Warnings" "volumes" "[I", .fieldLink RX4 18 "ThinVolumes$Warnings" "available" "[I"] ++ wsX40)
def wsX5_init_r1 : List Cond := [Cond.methodLink RX5 3 objectInit, Cond.instanceMethod objectInit, Cond.code objectInit ⟨#[0xb1]⟩ 1 none, Cond.classLink RX5 9 RX1, Cond.instantiable RX1 14, Cond.initialized RX1, Cond.fieldLink RX5 12 "ThinVolumes" "pool" "LThinVolumes$Pool;", Cond.classLink RX5 16 RX0, Cond.instantiable RX0 2, Cond.initialized RX0, Cond.fieldLink RX5 19 "ThinVolumes" "history" "LThinVolumes$History;", Cond.classLink RX5 23 RX3, Cond.instantiable RX3 5, Cond.initialized RX3, Cond.fieldLink RX5 26 "ThinVolumes" "text" "LThinVolumes$Text;", Cond.classLink RX5 30 RX2, Cond.instantiable RX2 3, Cond.initialized RX2, Cond.fieldLink RX5 33 "ThinVolumes" "rehearsal" "LThinVolumes$Rehearsal;", Cond.methodLink RX5 11 yX1_init, Cond.instanceMethod yX1_init, Cond.code yX1_init cX1_init 2 none, Cond.methodLink RX1 3 objectInit, Cond.arrayClass .int]
def wsX5_init_r2 : List Cond := [Cond.fieldLink RX1 9 "ThinVolumes$Pool" "sizes" "[I", Cond.fieldLink RX1 15 "ThinVolumes$Pool" "manners" "[I", Cond.fieldLink RX1 18 "ThinVolumes$Pool" "promises" "[I", Cond.fieldLink RX1 21 "ThinVolumes$Pool" "parents" "[I", Cond.fieldLink RX1 24 "ThinVolumes$Pool" "refusalsOf" "[I", Cond.fieldLink RX1 27 "ThinVolumes$Pool" "piecesGotBy" "[I", Cond.fieldLink RX1 30 "ThinVolumes$Pool" "spots" "[I", Cond.fieldLink RX1 33 "ThinVolumes$Pool" "values" "[I", Cond.fieldLink RX1 36 "ThinVolumes$Pool" "owners" "[I", Cond.fieldLink RX1 39 "ThinVolumes$Pool" "settings" "[I", Cond.classLink RX1 42 RX4, Cond.instantiable RX4 4, Cond.initialized RX4, Cond.fieldLink RX1 45 "ThinVolumes$Pool" "warnings" "LThinVolumes$Warnings;", Cond.instanceMethod yX4_init, Cond.code yX4_init cX4_init 1 none, Cond.methodLink RX4 3 objectInit, Cond.fieldLink RX4 9 "ThinVolumes$Warnings" "kinds" "[I", Cond.fieldLink RX4 15 "ThinVolumes$Warnings" "volumes" "[I", Cond.fieldLink RX4 18 "ThinVolumes$Warnings" "available" "[I", Cond.methodLink RX5 18 yX0_init, Cond.instanceMethod yX0_init, Cond.code yX0_init cX0_init 2 none, Cond.methodLink RX0 3 objectInit]
def wsX5_init_r3 : List Cond := [Cond.classLink RX0 9 RX1, Cond.fieldLink RX0 11 "ThinVolumes$History" "states" "[LThinVolumes$Pool;", Cond.methodLink RX0 17 yX1_init, Cond.instanceMethod yX3_init, Cond.code yX3_init cX3_init 1 none, Cond.methodLink RX3 3 objectInit, Cond.fieldLink RX3 9 "ThinVolumes$Text" "signs" "[I", Cond.fieldLink RX3 15 "ThinVolumes$Text" "numbers" "[I", Cond.instanceMethod yX2_init, Cond.code yX2_init cX2_init 1 none, Cond.methodLink RX2 3 objectInit, Cond.classLink RX2 9 RX1, Cond.fieldLink RX2 12 "ThinVolumes$Rehearsal" "trial" "LThinVolumes$Pool;", Cond.methodLink RX2 11 yX1_init]
def wsX5_init : List Cond := .code yX5_init cX5_init 1 none :: ((wsX5_init_r1 ++ (wsX5_init_r2 ++ wsX5_init_r3)) ++ wsX10 ++ wsX50 ++ wsX00 ++ wsX30 ++ wsX20 ++ wsX40)
def wsX5_settle_r1 : List Cond := [Cond.fieldLink RX5 19 "ThinVolumes" "history" "LThinVolumes$History;", Cond.methodLink RX5 227 yX5_isError, Cond.static yX5_isError, Cond.initialized RX5, Cond.code yX5_isError cX5_isError 1 (some .boolean), Cond.constant RX5 79 (-1000001), Cond.constant RX5 212 (-1000002), Cond.constant RX5 216 (-1000003), Cond.constant RX5 86 (-1000004), Cond.methodLink RX5 230 yX0_keepPrepared, Cond.instanceMethod yX0_keepPrepared, Cond.selects RX0 yX0_keepPrepared yX0_keepPrepared, Cond.initialized RX0, Cond.code yX0_keepPrepared cX0_keepPrepared 1 none, Cond.fieldLink RX0 18 "ThinVolumes$History" "kept" "I", Cond.methodLink RX0 26 yX0_dropOldest, Cond.instanceMethod yX0_dropOldest, Cond.selects RX0 yX0_dropOldest yX0_dropOldest, Cond.code yX0_dropOldest cX0_dropOldest 2 none, Cond.fieldLink RX0 11 "ThinVolumes$History" "states" "[LThinVolumes$Pool;", Cond.methodLink RX0 22 yX0_copyInto, Cond.instanceMethod yX0_copyInto, Cond.selects RX0 yX0_copyInto yX0_copyInto, Cond.code yX0_copyInto cX0_copyInto 3 none]
def wsX5_settle_r2 : List Cond := [Cond.methodLink RX0 29 yX1_copyFrom, Cond.instanceMethod yX1_copyFrom, Cond.selects RX1 yX1_copyFrom yX1_copyFrom, Cond.initialized RX1, Cond.code yX1_copyFrom cX1_copyFrom 2 none, Cond.fieldLink RX1 9 "ThinVolumes$Pool" "sizes" "[I", Cond.methodLink RX1 49 arraycopyName, Cond.native arraycopyName, Cond.static arraycopyName, Cond.initialized "java/lang/System", Cond.fieldLink RX1 15 "ThinVolumes$Pool" "manners" "[I", Cond.fieldLink RX1 18 "ThinVolumes$Pool" "promises" "[I", Cond.fieldLink RX1 21 "ThinVolumes$Pool" "parents" "[I", Cond.fieldLink RX1 24 "ThinVolumes$Pool" "refusalsOf" "[I", Cond.fieldLink RX1 27 "ThinVolumes$Pool" "piecesGotBy" "[I", Cond.fieldLink RX1 30 "ThinVolumes$Pool" "spots" "[I", Cond.fieldLink RX1 33 "ThinVolumes$Pool" "values" "[I", Cond.fieldLink RX1 36 "ThinVolumes$Pool" "owners" "[I", Cond.fieldLink RX1 39 "ThinVolumes$Pool" "settings" "[I", Cond.fieldLink RX1 45 "ThinVolumes$Pool" "warnings" "LThinVolumes$Warnings;", Cond.fieldLink RX1 59 "ThinVolumes$Pool" "refusals" "I", Cond.fieldLink RX1 63 "ThinVolumes$Pool" "piecesGot" "I", Cond.fieldLink RX1 66 "ThinVolumes$Pool" "piecesFreed" "I", Cond.methodLink RX1 55 yX4_copyFrom]
def wsX5_settle_r3 : List Cond := [Cond.instanceMethod yX4_copyFrom, Cond.selects RX4 yX4_copyFrom yX4_copyFrom, Cond.initialized RX4, Cond.code yX4_copyFrom cX4_copyFrom 2 none, Cond.fieldLink RX4 9 "ThinVolumes$Warnings" "kinds" "[I", Cond.methodLink RX4 21 arraycopyName, Cond.fieldLink RX4 15 "ThinVolumes$Warnings" "volumes" "[I", Cond.fieldLink RX4 18 "ThinVolumes$Warnings" "available" "[I", Cond.fieldLink RX4 27 "ThinVolumes$Warnings" "kept" "I"]
def wsX5_settle : List Cond := .code yX5_settle cX5_settle 2 (some .int) :: ((wsX5_settle_r1 ++ (wsX5_settle_r2 ++ wsX5_settle_r3)) ++ wsX50 ++ wsX00 ++ wsX10 ++ wsX40)
def wsX5_volume_r1 : List Cond := [Cond.fieldLink RX5 19 "ThinVolumes" "history" "LThinVolumes$History;", Cond.fieldLink RX5 12 "ThinVolumes" "pool" "LThinVolumes$Pool;", Cond.methodLink RX5 37 yX0_prepare, Cond.instanceMethod yX0_prepare, Cond.selects RX0 yX0_prepare yX0_prepare, Cond.initialized RX0, Cond.code yX0_prepare cX0_prepare 2 none, Cond.fieldLink RX0 18 "ThinVolumes$History" "kept" "I", Cond.methodLink RX0 22 yX0_copyInto, Cond.instanceMethod yX0_copyInto, Cond.selects RX0 yX0_copyInto yX0_copyInto, Cond.code yX0_copyInto cX0_copyInto 3 none, Cond.fieldLink RX0 11 "ThinVolumes$History" "states" "[LThinVolumes$Pool;", Cond.methodLink RX0 29 yX1_copyFrom, Cond.instanceMethod yX1_copyFrom, Cond.selects RX1 yX1_copyFrom yX1_copyFrom, Cond.initialized RX1, Cond.code yX1_copyFrom cX1_copyFrom 2 none, Cond.fieldLink RX1 9 "ThinVolumes$Pool" "sizes" "[I", Cond.methodLink RX1 49 arraycopyName, Cond.native arraycopyName, Cond.static arraycopyName, Cond.initialized "java/lang/System", Cond.fieldLink RX1 15 "ThinVolumes$Pool" "manners" "[I"]
def wsX5_volume_r2 : List Cond := [Cond.fieldLink RX1 18 "ThinVolumes$Pool" "promises" "[I", Cond.fieldLink RX1 21 "ThinVolumes$Pool" "parents" "[I", Cond.fieldLink RX1 24 "ThinVolumes$Pool" "refusalsOf" "[I", Cond.fieldLink RX1 27 "ThinVolumes$Pool" "piecesGotBy" "[I", Cond.fieldLink RX1 30 "ThinVolumes$Pool" "spots" "[I", Cond.fieldLink RX1 33 "ThinVolumes$Pool" "values" "[I", Cond.fieldLink RX1 36 "ThinVolumes$Pool" "owners" "[I", Cond.fieldLink RX1 39 "ThinVolumes$Pool" "settings" "[I", Cond.fieldLink RX1 45 "ThinVolumes$Pool" "warnings" "LThinVolumes$Warnings;", Cond.fieldLink RX1 59 "ThinVolumes$Pool" "refusals" "I", Cond.fieldLink RX1 63 "ThinVolumes$Pool" "piecesGot" "I", Cond.fieldLink RX1 66 "ThinVolumes$Pool" "piecesFreed" "I", Cond.methodLink RX1 55 yX4_copyFrom, Cond.instanceMethod yX4_copyFrom, Cond.selects RX4 yX4_copyFrom yX4_copyFrom, Cond.initialized RX4, Cond.code yX4_copyFrom cX4_copyFrom 2 none, Cond.fieldLink RX4 9 "ThinVolumes$Warnings" "kinds" "[I", Cond.methodLink RX4 21 arraycopyName, Cond.fieldLink RX4 15 "ThinVolumes$Warnings" "volumes" "[I", Cond.fieldLink RX4 18 "ThinVolumes$Warnings" "available" "[I", Cond.fieldLink RX4 27 "ThinVolumes$Warnings" "kept" "I", Cond.methodLink RX5 41 yX1_openVolume, Cond.instanceMethod yX1_openVolume]
def wsX5_volume_r3 : List Cond := [Cond.selects RX1 yX1_openVolume yX1_openVolume, Cond.code yX1_openVolume cX1_openVolume 3 (some .int), Cond.constant RX1 124 (-1000001), Cond.constant RX1 125 (-1000003), Cond.methodLink RX1 69 yX1_lives, Cond.instanceMethod yX1_lives, Cond.selects RX1 yX1_lives yX1_lives, Cond.code yX1_lives cX1_lives 2 (some .boolean), Cond.methodLink RX5 45 yX5_settle, Cond.instanceMethod yX5_settle, Cond.selects RX5 yX5_settle yX5_settle, Cond.initialized RX5, Cond.code yX5_settle cX5_settle 2 (some .int), Cond.methodLink RX5 227 yX5_isError, Cond.static yX5_isError, Cond.code yX5_isError cX5_isError 1 (some .boolean), Cond.constant RX5 79 (-1000001), Cond.constant RX5 212 (-1000002), Cond.constant RX5 216 (-1000003), Cond.constant RX5 86 (-1000004), Cond.methodLink RX5 230 yX0_keepPrepared, Cond.instanceMethod yX0_keepPrepared, Cond.selects RX0 yX0_keepPrepared yX0_keepPrepared, Cond.code yX0_keepPrepared cX0_keepPrepared 1 none]
def wsX5_volume_r4 : List Cond := [Cond.methodLink RX0 26 yX0_dropOldest, Cond.instanceMethod yX0_dropOldest, Cond.selects RX0 yX0_dropOldest yX0_dropOldest, Cond.code yX0_dropOldest cX0_dropOldest 2 none]
def wsX5_volume : List Cond := .code yX5_volume cX5_volume 2 (some .int) :: ((wsX5_volume_r1 ++ (wsX5_volume_r2 ++ (wsX5_volume_r3 ++ wsX5_volume_r4))) ++ wsX50 ++ wsX00 ++ wsX10 ++ wsX40)
def wsX5_share_r1 : List Cond := [Cond.fieldLink RX5 19 "ThinVolumes" "history" "LThinVolumes$History;", Cond.fieldLink RX5 12 "ThinVolumes" "pool" "LThinVolumes$Pool;", Cond.methodLink RX5 37 yX0_prepare, Cond.instanceMethod yX0_prepare, Cond.selects RX0 yX0_prepare yX0_prepare, Cond.initialized RX0, Cond.code yX0_prepare cX0_prepare 2 none, Cond.fieldLink RX0 18 "ThinVolumes$History" "kept" "I", Cond.methodLink RX0 22 yX0_copyInto, Cond.instanceMethod yX0_copyInto, Cond.selects RX0 yX0_copyInto yX0_copyInto, Cond.code yX0_copyInto cX0_copyInto 3 none, Cond.fieldLink RX0 11 "ThinVolumes$History" "states" "[LThinVolumes$Pool;", Cond.methodLink RX0 29 yX1_copyFrom, Cond.instanceMethod yX1_copyFrom, Cond.selects RX1 yX1_copyFrom yX1_copyFrom, Cond.initialized RX1, Cond.code yX1_copyFrom cX1_copyFrom 2 none, Cond.fieldLink RX1 9 "ThinVolumes$Pool" "sizes" "[I", Cond.methodLink RX1 49 arraycopyName, Cond.native arraycopyName, Cond.static arraycopyName, Cond.initialized "java/lang/System", Cond.fieldLink RX1 15 "ThinVolumes$Pool" "manners" "[I"]
def wsX5_share_r2 : List Cond := [Cond.fieldLink RX1 18 "ThinVolumes$Pool" "promises" "[I", Cond.fieldLink RX1 21 "ThinVolumes$Pool" "parents" "[I", Cond.fieldLink RX1 24 "ThinVolumes$Pool" "refusalsOf" "[I", Cond.fieldLink RX1 27 "ThinVolumes$Pool" "piecesGotBy" "[I", Cond.fieldLink RX1 30 "ThinVolumes$Pool" "spots" "[I", Cond.fieldLink RX1 33 "ThinVolumes$Pool" "values" "[I", Cond.fieldLink RX1 36 "ThinVolumes$Pool" "owners" "[I", Cond.fieldLink RX1 39 "ThinVolumes$Pool" "settings" "[I", Cond.fieldLink RX1 45 "ThinVolumes$Pool" "warnings" "LThinVolumes$Warnings;", Cond.fieldLink RX1 59 "ThinVolumes$Pool" "refusals" "I", Cond.fieldLink RX1 63 "ThinVolumes$Pool" "piecesGot" "I", Cond.fieldLink RX1 66 "ThinVolumes$Pool" "piecesFreed" "I", Cond.methodLink RX1 55 yX4_copyFrom, Cond.instanceMethod yX4_copyFrom, Cond.selects RX4 yX4_copyFrom yX4_copyFrom, Cond.initialized RX4, Cond.code yX4_copyFrom cX4_copyFrom 2 none, Cond.fieldLink RX4 9 "ThinVolumes$Warnings" "kinds" "[I", Cond.methodLink RX4 21 arraycopyName, Cond.fieldLink RX4 15 "ThinVolumes$Warnings" "volumes" "[I", Cond.fieldLink RX4 18 "ThinVolumes$Warnings" "available" "[I", Cond.fieldLink RX4 27 "ThinVolumes$Warnings" "kept" "I", Cond.methodLink RX5 48 yX1_cloneVolume, Cond.instanceMethod yX1_cloneVolume]
def wsX5_share_r3 : List Cond := [Cond.selects RX1 yX1_cloneVolume yX1_cloneVolume, Cond.code yX1_cloneVolume cX1_cloneVolume 5 (some .int), Cond.constant RX1 124 (-1000001), Cond.methodLink RX1 69 yX1_lives, Cond.instanceMethod yX1_lives, Cond.selects RX1 yX1_lives yX1_lives, Cond.code yX1_lives cX1_lives 2 (some .boolean), Cond.methodLink RX1 126 yX1_openVolume, Cond.instanceMethod yX1_openVolume, Cond.selects RX1 yX1_openVolume yX1_openVolume, Cond.code yX1_openVolume cX1_openVolume 3 (some .int), Cond.constant RX1 125 (-1000003), Cond.methodLink RX1 80 yX1_pieceAt, Cond.instanceMethod yX1_pieceAt, Cond.selects RX1 yX1_pieceAt yX1_pieceAt, Cond.code yX1_pieceAt cX1_pieceAt 3 (some .int), Cond.methodLink RX1 73 yX1_hasPlace, Cond.instanceMethod yX1_hasPlace, Cond.selects RX1 yX1_hasPlace yX1_hasPlace, Cond.code yX1_hasPlace cX1_hasPlace 3 (some .boolean), Cond.methodLink RX1 77 yX1_isPiece, Cond.instanceMethod yX1_isPiece, Cond.selects RX1 yX1_isPiece yX1_isPiece, Cond.code yX1_isPiece cX1_isPiece 2 (some .boolean)]
def wsX5_share_r4 : List Cond := [Cond.methodLink RX5 45 yX5_settle, Cond.instanceMethod yX5_settle, Cond.selects RX5 yX5_settle yX5_settle, Cond.initialized RX5, Cond.code yX5_settle cX5_settle 2 (some .int), Cond.methodLink RX5 227 yX5_isError, Cond.static yX5_isError, Cond.code yX5_isError cX5_isError 1 (some .boolean), Cond.constant RX5 79 (-1000001), Cond.constant RX5 212 (-1000002), Cond.constant RX5 216 (-1000003), Cond.constant RX5 86 (-1000004), Cond.methodLink RX5 230 yX0_keepPrepared, Cond.instanceMethod yX0_keepPrepared, Cond.selects RX0 yX0_keepPrepared yX0_keepPrepared, Cond.code yX0_keepPrepared cX0_keepPrepared 1 none, Cond.methodLink RX0 26 yX0_dropOldest, Cond.instanceMethod yX0_dropOldest, Cond.selects RX0 yX0_dropOldest yX0_dropOldest, Cond.code yX0_dropOldest cX0_dropOldest 2 none]
def wsX5_share : List Cond := .code yX5_share cX5_share 2 (some .int) :: ((wsX5_share_r1 ++ (wsX5_share_r2 ++ (wsX5_share_r3 ++ wsX5_share_r4))) ++ wsX50 ++ wsX00 ++ wsX10 ++ wsX40)
def wsX5_drop_r1 : List Cond := [Cond.fieldLink RX5 19 "ThinVolumes" "history" "LThinVolumes$History;", Cond.fieldLink RX5 12 "ThinVolumes" "pool" "LThinVolumes$Pool;", Cond.methodLink RX5 37 yX0_prepare, Cond.instanceMethod yX0_prepare, Cond.selects RX0 yX0_prepare yX0_prepare, Cond.initialized RX0, Cond.code yX0_prepare cX0_prepare 2 none, Cond.fieldLink RX0 18 "ThinVolumes$History" "kept" "I", Cond.methodLink RX0 22 yX0_copyInto, Cond.instanceMethod yX0_copyInto, Cond.selects RX0 yX0_copyInto yX0_copyInto, Cond.code yX0_copyInto cX0_copyInto 3 none, Cond.fieldLink RX0 11 "ThinVolumes$History" "states" "[LThinVolumes$Pool;", Cond.methodLink RX0 29 yX1_copyFrom, Cond.instanceMethod yX1_copyFrom, Cond.selects RX1 yX1_copyFrom yX1_copyFrom, Cond.initialized RX1, Cond.code yX1_copyFrom cX1_copyFrom 2 none, Cond.fieldLink RX1 9 "ThinVolumes$Pool" "sizes" "[I", Cond.methodLink RX1 49 arraycopyName, Cond.native arraycopyName, Cond.static arraycopyName, Cond.initialized "java/lang/System", Cond.fieldLink RX1 15 "ThinVolumes$Pool" "manners" "[I"]
def wsX5_drop_r2 : List Cond := [Cond.fieldLink RX1 18 "ThinVolumes$Pool" "promises" "[I", Cond.fieldLink RX1 21 "ThinVolumes$Pool" "parents" "[I", Cond.fieldLink RX1 24 "ThinVolumes$Pool" "refusalsOf" "[I", Cond.fieldLink RX1 27 "ThinVolumes$Pool" "piecesGotBy" "[I", Cond.fieldLink RX1 30 "ThinVolumes$Pool" "spots" "[I", Cond.fieldLink RX1 33 "ThinVolumes$Pool" "values" "[I", Cond.fieldLink RX1 36 "ThinVolumes$Pool" "owners" "[I", Cond.fieldLink RX1 39 "ThinVolumes$Pool" "settings" "[I", Cond.fieldLink RX1 45 "ThinVolumes$Pool" "warnings" "LThinVolumes$Warnings;", Cond.fieldLink RX1 59 "ThinVolumes$Pool" "refusals" "I", Cond.fieldLink RX1 63 "ThinVolumes$Pool" "piecesGot" "I", Cond.fieldLink RX1 66 "ThinVolumes$Pool" "piecesFreed" "I", Cond.methodLink RX1 55 yX4_copyFrom, Cond.instanceMethod yX4_copyFrom, Cond.selects RX4 yX4_copyFrom yX4_copyFrom, Cond.initialized RX4, Cond.code yX4_copyFrom cX4_copyFrom 2 none, Cond.fieldLink RX4 9 "ThinVolumes$Warnings" "kinds" "[I", Cond.methodLink RX4 21 arraycopyName, Cond.fieldLink RX4 15 "ThinVolumes$Warnings" "volumes" "[I", Cond.fieldLink RX4 18 "ThinVolumes$Warnings" "available" "[I", Cond.fieldLink RX4 27 "ThinVolumes$Warnings" "kept" "I", Cond.methodLink RX5 51 yX1_dropVolume, Cond.instanceMethod yX1_dropVolume]
def wsX5_drop_r3 : List Cond := [Cond.selects RX1 yX1_dropVolume yX1_dropVolume, Cond.code yX1_dropVolume cX1_dropVolume 4 (some .int), Cond.constant RX1 124 (-1000001), Cond.methodLink RX1 69 yX1_lives, Cond.instanceMethod yX1_lives, Cond.selects RX1 yX1_lives yX1_lives, Cond.code yX1_lives cX1_lives 2 (some .boolean), Cond.methodLink RX1 129 yX1_loosen, Cond.instanceMethod yX1_loosen, Cond.selects RX1 yX1_loosen yX1_loosen, Cond.code yX1_loosen cX1_loosen 4 (some .int), Cond.methodLink RX1 80 yX1_pieceAt, Cond.instanceMethod yX1_pieceAt, Cond.selects RX1 yX1_pieceAt yX1_pieceAt, Cond.code yX1_pieceAt cX1_pieceAt 3 (some .int), Cond.methodLink RX1 73 yX1_hasPlace, Cond.instanceMethod yX1_hasPlace, Cond.selects RX1 yX1_hasPlace yX1_hasPlace, Cond.code yX1_hasPlace cX1_hasPlace 3 (some .boolean), Cond.methodLink RX1 77 yX1_isPiece, Cond.instanceMethod yX1_isPiece, Cond.selects RX1 yX1_isPiece yX1_isPiece, Cond.code yX1_isPiece cX1_isPiece 2 (some .boolean), Cond.methodLink RX5 45 yX5_settle]
def wsX5_drop_r4 : List Cond := [Cond.instanceMethod yX5_settle, Cond.selects RX5 yX5_settle yX5_settle, Cond.initialized RX5, Cond.code yX5_settle cX5_settle 2 (some .int), Cond.methodLink RX5 227 yX5_isError, Cond.static yX5_isError, Cond.code yX5_isError cX5_isError 1 (some .boolean), Cond.constant RX5 79 (-1000001), Cond.constant RX5 212 (-1000002), Cond.constant RX5 216 (-1000003), Cond.constant RX5 86 (-1000004), Cond.methodLink RX5 230 yX0_keepPrepared, Cond.instanceMethod yX0_keepPrepared, Cond.selects RX0 yX0_keepPrepared yX0_keepPrepared, Cond.code yX0_keepPrepared cX0_keepPrepared 1 none, Cond.methodLink RX0 26 yX0_dropOldest, Cond.instanceMethod yX0_dropOldest, Cond.selects RX0 yX0_dropOldest yX0_dropOldest, Cond.code yX0_dropOldest cX0_dropOldest 2 none]
def wsX5_drop : List Cond := .code yX5_drop cX5_drop 2 (some .int) :: ((wsX5_drop_r1 ++ (wsX5_drop_r2 ++ (wsX5_drop_r3 ++ wsX5_drop_r4))) ++ wsX50 ++ wsX00 ++ wsX10 ++ wsX40)
def wsX5_promise_r1 : List Cond := [Cond.fieldLink RX5 19 "ThinVolumes" "history" "LThinVolumes$History;", Cond.fieldLink RX5 12 "ThinVolumes" "pool" "LThinVolumes$Pool;", Cond.methodLink RX5 37 yX0_prepare, Cond.instanceMethod yX0_prepare, Cond.selects RX0 yX0_prepare yX0_prepare, Cond.initialized RX0, Cond.code yX0_prepare cX0_prepare 2 none, Cond.fieldLink RX0 18 "ThinVolumes$History" "kept" "I", Cond.methodLink RX0 22 yX0_copyInto, Cond.instanceMethod yX0_copyInto, Cond.selects RX0 yX0_copyInto yX0_copyInto, Cond.code yX0_copyInto cX0_copyInto 3 none, Cond.fieldLink RX0 11 "ThinVolumes$History" "states" "[LThinVolumes$Pool;", Cond.methodLink RX0 29 yX1_copyFrom, Cond.instanceMethod yX1_copyFrom, Cond.selects RX1 yX1_copyFrom yX1_copyFrom, Cond.initialized RX1, Cond.code yX1_copyFrom cX1_copyFrom 2 none, Cond.fieldLink RX1 9 "ThinVolumes$Pool" "sizes" "[I", Cond.methodLink RX1 49 arraycopyName, Cond.native arraycopyName, Cond.static arraycopyName, Cond.initialized "java/lang/System", Cond.fieldLink RX1 15 "ThinVolumes$Pool" "manners" "[I"]
def wsX5_promise_r2 : List Cond := [Cond.fieldLink RX1 18 "ThinVolumes$Pool" "promises" "[I", Cond.fieldLink RX1 21 "ThinVolumes$Pool" "parents" "[I", Cond.fieldLink RX1 24 "ThinVolumes$Pool" "refusalsOf" "[I", Cond.fieldLink RX1 27 "ThinVolumes$Pool" "piecesGotBy" "[I", Cond.fieldLink RX1 30 "ThinVolumes$Pool" "spots" "[I", Cond.fieldLink RX1 33 "ThinVolumes$Pool" "values" "[I", Cond.fieldLink RX1 36 "ThinVolumes$Pool" "owners" "[I", Cond.fieldLink RX1 39 "ThinVolumes$Pool" "settings" "[I", Cond.fieldLink RX1 45 "ThinVolumes$Pool" "warnings" "LThinVolumes$Warnings;", Cond.fieldLink RX1 59 "ThinVolumes$Pool" "refusals" "I", Cond.fieldLink RX1 63 "ThinVolumes$Pool" "piecesGot" "I", Cond.fieldLink RX1 66 "ThinVolumes$Pool" "piecesFreed" "I", Cond.methodLink RX1 55 yX4_copyFrom, Cond.instanceMethod yX4_copyFrom, Cond.selects RX4 yX4_copyFrom yX4_copyFrom, Cond.initialized RX4, Cond.code yX4_copyFrom cX4_copyFrom 2 none, Cond.fieldLink RX4 9 "ThinVolumes$Warnings" "kinds" "[I", Cond.methodLink RX4 21 arraycopyName, Cond.fieldLink RX4 15 "ThinVolumes$Warnings" "volumes" "[I", Cond.fieldLink RX4 18 "ThinVolumes$Warnings" "available" "[I", Cond.fieldLink RX4 27 "ThinVolumes$Warnings" "kept" "I", Cond.methodLink RX5 54 yX1_changePromise, Cond.instanceMethod yX1_changePromise]
def wsX5_promise_r3 : List Cond := [Cond.selects RX1 yX1_changePromise yX1_changePromise, Cond.code yX1_changePromise cX1_changePromise 5 (some .int), Cond.constant RX1 124 (-1000001), Cond.constant RX1 132 (-1000002), Cond.methodLink RX1 69 yX1_lives, Cond.instanceMethod yX1_lives, Cond.selects RX1 yX1_lives yX1_lives, Cond.code yX1_lives cX1_lives 2 (some .boolean), Cond.methodLink RX1 100 yX1_allPromises, Cond.instanceMethod yX1_allPromises, Cond.selects RX1 yX1_allPromises yX1_allPromises, Cond.code yX1_allPromises cX1_allPromises 3 (some .int), Cond.methodLink RX1 96 yX1_freePieces, Cond.instanceMethod yX1_freePieces, Cond.selects RX1 yX1_freePieces yX1_freePieces, Cond.code yX1_freePieces cX1_freePieces 3 (some .int), Cond.methodLink RX1 133 yX1_level, Cond.instanceMethod yX1_level, Cond.selects RX1 yX1_level yX1_level, Cond.code yX1_level cX1_level 1 (some .int), Cond.methodLink RX1 103 yX1_available, Cond.instanceMethod yX1_available, Cond.selects RX1 yX1_available yX1_available, Cond.code yX1_available cX1_available 1 (some .int)]
def wsX5_promise_r4 : List Cond := [Cond.methodLink RX1 106 yX1_levelWith, Cond.instanceMethod yX1_levelWith, Cond.selects RX1 yX1_levelWith yX1_levelWith, Cond.code yX1_levelWith cX1_levelWith 2 (some .int), Cond.methodLink RX1 136 yX1_warnIfLevelRose, Cond.instanceMethod yX1_warnIfLevelRose, Cond.selects RX1 yX1_warnIfLevelRose yX1_warnIfLevelRose, Cond.code yX1_warnIfLevelRose cX1_warnIfLevelRose 3 none, Cond.methodLink RX1 120 yX4_add, Cond.instanceMethod yX4_add, Cond.selects RX4 yX4_add yX4_add, Cond.code yX4_add cX4_add 4 none, Cond.methodLink RX4 31 Lib.Math.min.name, Cond.static Lib.Math.min.name, Cond.initialized "java/lang/Math", Cond.code Lib.Math.min.name Lib.Math.min.code 2 (some .int), Cond.methodLink RX5 45 yX5_settle, Cond.instanceMethod yX5_settle, Cond.selects RX5 yX5_settle yX5_settle, Cond.initialized RX5, Cond.code yX5_settle cX5_settle 2 (some .int), Cond.methodLink RX5 227 yX5_isError, Cond.static yX5_isError, Cond.code yX5_isError cX5_isError 1 (some .boolean)]
def wsX5_promise_r5 : List Cond := [Cond.constant RX5 79 (-1000001), Cond.constant RX5 212 (-1000002), Cond.constant RX5 216 (-1000003), Cond.constant RX5 86 (-1000004), Cond.methodLink RX5 230 yX0_keepPrepared, Cond.instanceMethod yX0_keepPrepared, Cond.selects RX0 yX0_keepPrepared yX0_keepPrepared, Cond.code yX0_keepPrepared cX0_keepPrepared 1 none, Cond.methodLink RX0 26 yX0_dropOldest, Cond.instanceMethod yX0_dropOldest, Cond.selects RX0 yX0_dropOldest yX0_dropOldest, Cond.code yX0_dropOldest cX0_dropOldest 2 none]
def wsX5_promise : List Cond := .code yX5_promise cX5_promise 3 (some .int) :: ((wsX5_promise_r1 ++ (wsX5_promise_r2 ++ (wsX5_promise_r3 ++ (wsX5_promise_r4 ++ wsX5_promise_r5)))) ++ wsX50 ++ wsX00 ++ wsX10 ++ wsX40)
def wsX5_set_r1 : List Cond := [Cond.fieldLink RX5 19 "ThinVolumes" "history" "LThinVolumes$History;", Cond.fieldLink RX5 12 "ThinVolumes" "pool" "LThinVolumes$Pool;", Cond.methodLink RX5 37 yX0_prepare, Cond.instanceMethod yX0_prepare, Cond.selects RX0 yX0_prepare yX0_prepare, Cond.initialized RX0, Cond.code yX0_prepare cX0_prepare 2 none, Cond.fieldLink RX0 18 "ThinVolumes$History" "kept" "I", Cond.methodLink RX0 22 yX0_copyInto, Cond.instanceMethod yX0_copyInto, Cond.selects RX0 yX0_copyInto yX0_copyInto, Cond.code yX0_copyInto cX0_copyInto 3 none, Cond.fieldLink RX0 11 "ThinVolumes$History" "states" "[LThinVolumes$Pool;", Cond.methodLink RX0 29 yX1_copyFrom, Cond.instanceMethod yX1_copyFrom, Cond.selects RX1 yX1_copyFrom yX1_copyFrom, Cond.initialized RX1, Cond.code yX1_copyFrom cX1_copyFrom 2 none, Cond.fieldLink RX1 9 "ThinVolumes$Pool" "sizes" "[I", Cond.methodLink RX1 49 arraycopyName, Cond.native arraycopyName, Cond.static arraycopyName, Cond.initialized "java/lang/System", Cond.fieldLink RX1 15 "ThinVolumes$Pool" "manners" "[I"]
def wsX5_set_r2 : List Cond := [Cond.fieldLink RX1 18 "ThinVolumes$Pool" "promises" "[I", Cond.fieldLink RX1 21 "ThinVolumes$Pool" "parents" "[I", Cond.fieldLink RX1 24 "ThinVolumes$Pool" "refusalsOf" "[I", Cond.fieldLink RX1 27 "ThinVolumes$Pool" "piecesGotBy" "[I", Cond.fieldLink RX1 30 "ThinVolumes$Pool" "spots" "[I", Cond.fieldLink RX1 33 "ThinVolumes$Pool" "values" "[I", Cond.fieldLink RX1 36 "ThinVolumes$Pool" "owners" "[I", Cond.fieldLink RX1 39 "ThinVolumes$Pool" "settings" "[I", Cond.fieldLink RX1 45 "ThinVolumes$Pool" "warnings" "LThinVolumes$Warnings;", Cond.fieldLink RX1 59 "ThinVolumes$Pool" "refusals" "I", Cond.fieldLink RX1 63 "ThinVolumes$Pool" "piecesGot" "I", Cond.fieldLink RX1 66 "ThinVolumes$Pool" "piecesFreed" "I", Cond.methodLink RX1 55 yX4_copyFrom, Cond.instanceMethod yX4_copyFrom, Cond.selects RX4 yX4_copyFrom yX4_copyFrom, Cond.initialized RX4, Cond.code yX4_copyFrom cX4_copyFrom 2 none, Cond.fieldLink RX4 9 "ThinVolumes$Warnings" "kinds" "[I", Cond.methodLink RX4 21 arraycopyName, Cond.fieldLink RX4 15 "ThinVolumes$Warnings" "volumes" "[I", Cond.fieldLink RX4 18 "ThinVolumes$Warnings" "available" "[I", Cond.fieldLink RX4 27 "ThinVolumes$Warnings" "kept" "I", Cond.methodLink RX5 58 yX1_changeSetting, Cond.instanceMethod yX1_changeSetting]
def wsX5_set_r3 : List Cond := [Cond.selects RX1 yX1_changeSetting yX1_changeSetting, Cond.code yX1_changeSetting cX1_changeSetting 5 (some .int), Cond.constant RX1 124 (-1000001), Cond.methodLink RX1 140 yX1_highestSetting, Cond.instanceMethod yX1_highestSetting, Cond.selects RX1 yX1_highestSetting yX1_highestSetting, Cond.code yX1_highestSetting cX1_highestSetting 2 (some .int), Cond.methodLink RX1 133 yX1_level, Cond.instanceMethod yX1_level, Cond.selects RX1 yX1_level yX1_level, Cond.code yX1_level cX1_level 1 (some .int), Cond.methodLink RX1 103 yX1_available, Cond.instanceMethod yX1_available, Cond.selects RX1 yX1_available yX1_available, Cond.code yX1_available cX1_available 1 (some .int), Cond.methodLink RX1 96 yX1_freePieces, Cond.instanceMethod yX1_freePieces, Cond.selects RX1 yX1_freePieces yX1_freePieces, Cond.code yX1_freePieces cX1_freePieces 3 (some .int), Cond.methodLink RX1 100 yX1_allPromises, Cond.instanceMethod yX1_allPromises, Cond.selects RX1 yX1_allPromises yX1_allPromises, Cond.code yX1_allPromises cX1_allPromises 3 (some .int), Cond.methodLink RX1 106 yX1_levelWith]
def wsX5_set_r4 : List Cond := [Cond.instanceMethod yX1_levelWith, Cond.selects RX1 yX1_levelWith yX1_levelWith, Cond.code yX1_levelWith cX1_levelWith 2 (some .int), Cond.methodLink RX1 136 yX1_warnIfLevelRose, Cond.instanceMethod yX1_warnIfLevelRose, Cond.selects RX1 yX1_warnIfLevelRose yX1_warnIfLevelRose, Cond.code yX1_warnIfLevelRose cX1_warnIfLevelRose 3 none, Cond.methodLink RX1 120 yX4_add, Cond.instanceMethod yX4_add, Cond.selects RX4 yX4_add yX4_add, Cond.code yX4_add cX4_add 4 none, Cond.methodLink RX4 31 Lib.Math.min.name, Cond.static Lib.Math.min.name, Cond.initialized "java/lang/Math", Cond.code Lib.Math.min.name Lib.Math.min.code 2 (some .int), Cond.methodLink RX5 45 yX5_settle, Cond.instanceMethod yX5_settle, Cond.selects RX5 yX5_settle yX5_settle, Cond.initialized RX5, Cond.code yX5_settle cX5_settle 2 (some .int), Cond.methodLink RX5 227 yX5_isError, Cond.static yX5_isError, Cond.code yX5_isError cX5_isError 1 (some .boolean), Cond.constant RX5 79 (-1000001)]
def wsX5_set_r5 : List Cond := [Cond.constant RX5 212 (-1000002), Cond.constant RX5 216 (-1000003), Cond.constant RX5 86 (-1000004), Cond.methodLink RX5 230 yX0_keepPrepared, Cond.instanceMethod yX0_keepPrepared, Cond.selects RX0 yX0_keepPrepared yX0_keepPrepared, Cond.code yX0_keepPrepared cX0_keepPrepared 1 none, Cond.methodLink RX0 26 yX0_dropOldest, Cond.instanceMethod yX0_dropOldest, Cond.selects RX0 yX0_dropOldest yX0_dropOldest, Cond.code yX0_dropOldest cX0_dropOldest 2 none]
def wsX5_set : List Cond := .code yX5_set cX5_set 3 (some .int) :: ((wsX5_set_r1 ++ (wsX5_set_r2 ++ (wsX5_set_r3 ++ (wsX5_set_r4 ++ wsX5_set_r5)))) ++ wsX50 ++ wsX00 ++ wsX10 ++ wsX40)
def wsX5_write_r1 : List Cond := [Cond.fieldLink RX5 19 "ThinVolumes" "history" "LThinVolumes$History;", Cond.fieldLink RX5 12 "ThinVolumes" "pool" "LThinVolumes$Pool;", Cond.methodLink RX5 37 yX0_prepare, Cond.instanceMethod yX0_prepare, Cond.selects RX0 yX0_prepare yX0_prepare, Cond.initialized RX0, Cond.code yX0_prepare cX0_prepare 2 none, Cond.fieldLink RX0 18 "ThinVolumes$History" "kept" "I", Cond.methodLink RX0 22 yX0_copyInto, Cond.instanceMethod yX0_copyInto, Cond.selects RX0 yX0_copyInto yX0_copyInto, Cond.code yX0_copyInto cX0_copyInto 3 none, Cond.fieldLink RX0 11 "ThinVolumes$History" "states" "[LThinVolumes$Pool;", Cond.methodLink RX0 29 yX1_copyFrom, Cond.instanceMethod yX1_copyFrom, Cond.selects RX1 yX1_copyFrom yX1_copyFrom, Cond.initialized RX1, Cond.code yX1_copyFrom cX1_copyFrom 2 none, Cond.fieldLink RX1 9 "ThinVolumes$Pool" "sizes" "[I", Cond.methodLink RX1 49 arraycopyName, Cond.native arraycopyName, Cond.static arraycopyName, Cond.initialized "java/lang/System", Cond.fieldLink RX1 15 "ThinVolumes$Pool" "manners" "[I"]
def wsX5_write_r2 : List Cond := [Cond.fieldLink RX1 18 "ThinVolumes$Pool" "promises" "[I", Cond.fieldLink RX1 21 "ThinVolumes$Pool" "parents" "[I", Cond.fieldLink RX1 24 "ThinVolumes$Pool" "refusalsOf" "[I", Cond.fieldLink RX1 27 "ThinVolumes$Pool" "piecesGotBy" "[I", Cond.fieldLink RX1 30 "ThinVolumes$Pool" "spots" "[I", Cond.fieldLink RX1 33 "ThinVolumes$Pool" "values" "[I", Cond.fieldLink RX1 36 "ThinVolumes$Pool" "owners" "[I", Cond.fieldLink RX1 39 "ThinVolumes$Pool" "settings" "[I", Cond.fieldLink RX1 45 "ThinVolumes$Pool" "warnings" "LThinVolumes$Warnings;", Cond.fieldLink RX1 59 "ThinVolumes$Pool" "refusals" "I", Cond.fieldLink RX1 63 "ThinVolumes$Pool" "piecesGot" "I", Cond.fieldLink RX1 66 "ThinVolumes$Pool" "piecesFreed" "I", Cond.methodLink RX1 55 yX4_copyFrom, Cond.instanceMethod yX4_copyFrom, Cond.selects RX4 yX4_copyFrom yX4_copyFrom, Cond.initialized RX4, Cond.code yX4_copyFrom cX4_copyFrom 2 none, Cond.fieldLink RX4 9 "ThinVolumes$Warnings" "kinds" "[I", Cond.methodLink RX4 21 arraycopyName, Cond.fieldLink RX4 15 "ThinVolumes$Warnings" "volumes" "[I", Cond.fieldLink RX4 18 "ThinVolumes$Warnings" "available" "[I", Cond.fieldLink RX4 27 "ThinVolumes$Warnings" "kept" "I", Cond.methodLink RX5 61 yX1_writePlace, Cond.instanceMethod yX1_writePlace]
def wsX5_write_r3 : List Cond := [Cond.selects RX1 yX1_writePlace yX1_writePlace, Cond.code yX1_writePlace cX1_writePlace 8 (some .int), Cond.constant RX1 124 (-1000001), Cond.constant RX1 149 (-1000005), Cond.methodLink RX1 73 yX1_hasPlace, Cond.instanceMethod yX1_hasPlace, Cond.selects RX1 yX1_hasPlace yX1_hasPlace, Cond.code yX1_hasPlace cX1_hasPlace 3 (some .boolean), Cond.methodLink RX1 69 yX1_lives, Cond.instanceMethod yX1_lives, Cond.selects RX1 yX1_lives yX1_lives, Cond.code yX1_lives cX1_lives 2 (some .boolean), Cond.methodLink RX1 80 yX1_pieceAt, Cond.instanceMethod yX1_pieceAt, Cond.selects RX1 yX1_pieceAt yX1_pieceAt, Cond.code yX1_pieceAt cX1_pieceAt 3 (some .int), Cond.methodLink RX1 77 yX1_isPiece, Cond.instanceMethod yX1_isPiece, Cond.selects RX1 yX1_isPiece yX1_isPiece, Cond.code yX1_isPiece cX1_isPiece 2 (some .boolean), Cond.methodLink RX1 143 yX1_lowestFreePiece, Cond.instanceMethod yX1_lowestFreePiece, Cond.selects RX1 yX1_lowestFreePiece yX1_lowestFreePiece, Cond.code yX1_lowestFreePiece cX1_lowestFreePiece 2 (some .int)]
def wsX5_write_r4 : List Cond := [Cond.methodLink RX1 103 yX1_available, Cond.instanceMethod yX1_available, Cond.selects RX1 yX1_available yX1_available, Cond.code yX1_available cX1_available 1 (some .int), Cond.methodLink RX1 96 yX1_freePieces, Cond.instanceMethod yX1_freePieces, Cond.selects RX1 yX1_freePieces yX1_freePieces, Cond.code yX1_freePieces cX1_freePieces 3 (some .int), Cond.methodLink RX1 100 yX1_allPromises, Cond.instanceMethod yX1_allPromises, Cond.selects RX1 yX1_allPromises yX1_allPromises, Cond.code yX1_allPromises cX1_allPromises 3 (some .int), Cond.methodLink RX1 113 yX1_wouldGetUnpromised, Cond.instanceMethod yX1_wouldGetUnpromised, Cond.selects RX1 yX1_wouldGetUnpromised yX1_wouldGetUnpromised, Cond.code yX1_wouldGetUnpromised cX1_wouldGetUnpromised 5 (some .boolean), Cond.methodLink RX1 106 yX1_levelWith, Cond.instanceMethod yX1_levelWith, Cond.selects RX1 yX1_levelWith yX1_levelWith, Cond.code yX1_levelWith cX1_levelWith 2 (some .int), Cond.methodLink RX1 109 yX1_rankWith, Cond.instanceMethod yX1_rankWith, Cond.selects RX1 yX1_rankWith yX1_rankWith, Cond.code yX1_rankWith cX1_rankWith 6 (some .int)]
def wsX5_write_r5 : List Cond := [Cond.methodLink RX1 146 yX1_refuse, Cond.instanceMethod yX1_refuse, Cond.selects RX1 yX1_refuse yX1_refuse, Cond.code yX1_refuse cX1_refuse 2 none, Cond.methodLink RX1 91 Lib.Math.max.name, Cond.static Lib.Math.max.name, Cond.initialized "java/lang/Math", Cond.code Lib.Math.max.name Lib.Math.max.code 2 (some .int), Cond.methodLink RX1 120 yX4_add, Cond.instanceMethod yX4_add, Cond.selects RX4 yX4_add yX4_add, Cond.code yX4_add cX4_add 4 none, Cond.methodLink RX4 31 Lib.Math.min.name, Cond.static Lib.Math.min.name, Cond.code Lib.Math.min.name Lib.Math.min.code 2 (some .int), Cond.methodLink RX1 133 yX1_level, Cond.instanceMethod yX1_level, Cond.selects RX1 yX1_level yX1_level, Cond.code yX1_level cX1_level 1 (some .int), Cond.methodLink RX1 129 yX1_loosen, Cond.instanceMethod yX1_loosen, Cond.selects RX1 yX1_loosen yX1_loosen, Cond.code yX1_loosen cX1_loosen 4 (some .int), Cond.methodLink RX1 150 yX1_bookPiece]
def wsX5_write_r6 : List Cond := [Cond.instanceMethod yX1_bookPiece, Cond.selects RX1 yX1_bookPiece yX1_bookPiece, Cond.code yX1_bookPiece cX1_bookPiece 4 none, Cond.methodLink RX1 117 yX1_mannersBehindUnpromised, Cond.instanceMethod yX1_mannersBehindUnpromised, Cond.selects RX1 yX1_mannersBehindUnpromised yX1_mannersBehindUnpromised, Cond.code yX1_mannersBehindUnpromised cX1_mannersBehindUnpromised 3 (some .int), Cond.methodLink RX1 136 yX1_warnIfLevelRose, Cond.instanceMethod yX1_warnIfLevelRose, Cond.selects RX1 yX1_warnIfLevelRose yX1_warnIfLevelRose, Cond.code yX1_warnIfLevelRose cX1_warnIfLevelRose 3 none, Cond.methodLink RX5 45 yX5_settle, Cond.instanceMethod yX5_settle, Cond.selects RX5 yX5_settle yX5_settle, Cond.initialized RX5, Cond.code yX5_settle cX5_settle 2 (some .int), Cond.methodLink RX5 227 yX5_isError, Cond.static yX5_isError, Cond.code yX5_isError cX5_isError 1 (some .boolean), Cond.constant RX5 79 (-1000001), Cond.constant RX5 212 (-1000002), Cond.constant RX5 216 (-1000003), Cond.constant RX5 86 (-1000004), Cond.methodLink RX5 230 yX0_keepPrepared]
def wsX5_write_r7 : List Cond := [Cond.instanceMethod yX0_keepPrepared, Cond.selects RX0 yX0_keepPrepared yX0_keepPrepared, Cond.code yX0_keepPrepared cX0_keepPrepared 1 none, Cond.methodLink RX0 26 yX0_dropOldest, Cond.instanceMethod yX0_dropOldest, Cond.selects RX0 yX0_dropOldest yX0_dropOldest, Cond.code yX0_dropOldest cX0_dropOldest 2 none]
def wsX5_write : List Cond := .code yX5_write cX5_write 4 (some .int) :: ((wsX5_write_r1 ++ (wsX5_write_r2 ++ (wsX5_write_r3 ++ (wsX5_write_r4 ++ (wsX5_write_r5 ++ (wsX5_write_r6 ++ wsX5_write_r7)))))) ++ wsX50 ++ wsX00 ++ wsX10 ++ wsX40)
def wsX5_trim_r1 : List Cond := [Cond.fieldLink RX5 19 "ThinVolumes" "history" "LThinVolumes$History;", Cond.fieldLink RX5 12 "ThinVolumes" "pool" "LThinVolumes$Pool;", Cond.methodLink RX5 37 yX0_prepare, Cond.instanceMethod yX0_prepare, Cond.selects RX0 yX0_prepare yX0_prepare, Cond.initialized RX0, Cond.code yX0_prepare cX0_prepare 2 none, Cond.fieldLink RX0 18 "ThinVolumes$History" "kept" "I", Cond.methodLink RX0 22 yX0_copyInto, Cond.instanceMethod yX0_copyInto, Cond.selects RX0 yX0_copyInto yX0_copyInto, Cond.code yX0_copyInto cX0_copyInto 3 none, Cond.fieldLink RX0 11 "ThinVolumes$History" "states" "[LThinVolumes$Pool;", Cond.methodLink RX0 29 yX1_copyFrom, Cond.instanceMethod yX1_copyFrom, Cond.selects RX1 yX1_copyFrom yX1_copyFrom, Cond.initialized RX1, Cond.code yX1_copyFrom cX1_copyFrom 2 none, Cond.fieldLink RX1 9 "ThinVolumes$Pool" "sizes" "[I", Cond.methodLink RX1 49 arraycopyName, Cond.native arraycopyName, Cond.static arraycopyName, Cond.initialized "java/lang/System", Cond.fieldLink RX1 15 "ThinVolumes$Pool" "manners" "[I"]
def wsX5_trim_r2 : List Cond := [Cond.fieldLink RX1 18 "ThinVolumes$Pool" "promises" "[I", Cond.fieldLink RX1 21 "ThinVolumes$Pool" "parents" "[I", Cond.fieldLink RX1 24 "ThinVolumes$Pool" "refusalsOf" "[I", Cond.fieldLink RX1 27 "ThinVolumes$Pool" "piecesGotBy" "[I", Cond.fieldLink RX1 30 "ThinVolumes$Pool" "spots" "[I", Cond.fieldLink RX1 33 "ThinVolumes$Pool" "values" "[I", Cond.fieldLink RX1 36 "ThinVolumes$Pool" "owners" "[I", Cond.fieldLink RX1 39 "ThinVolumes$Pool" "settings" "[I", Cond.fieldLink RX1 45 "ThinVolumes$Pool" "warnings" "LThinVolumes$Warnings;", Cond.fieldLink RX1 59 "ThinVolumes$Pool" "refusals" "I", Cond.fieldLink RX1 63 "ThinVolumes$Pool" "piecesGot" "I", Cond.fieldLink RX1 66 "ThinVolumes$Pool" "piecesFreed" "I", Cond.methodLink RX1 55 yX4_copyFrom, Cond.instanceMethod yX4_copyFrom, Cond.selects RX4 yX4_copyFrom yX4_copyFrom, Cond.initialized RX4, Cond.code yX4_copyFrom cX4_copyFrom 2 none, Cond.fieldLink RX4 9 "ThinVolumes$Warnings" "kinds" "[I", Cond.methodLink RX4 21 arraycopyName, Cond.fieldLink RX4 15 "ThinVolumes$Warnings" "volumes" "[I", Cond.fieldLink RX4 18 "ThinVolumes$Warnings" "available" "[I", Cond.fieldLink RX4 27 "ThinVolumes$Warnings" "kept" "I", Cond.methodLink RX5 65 yX1_trimPlace, Cond.instanceMethod yX1_trimPlace]
def wsX5_trim_r3 : List Cond := [Cond.selects RX1 yX1_trimPlace yX1_trimPlace, Cond.code yX1_trimPlace cX1_trimPlace 4 (some .int), Cond.constant RX1 124 (-1000001), Cond.constant RX1 132 (-1000002), Cond.methodLink RX1 73 yX1_hasPlace, Cond.instanceMethod yX1_hasPlace, Cond.selects RX1 yX1_hasPlace yX1_hasPlace, Cond.code yX1_hasPlace cX1_hasPlace 3 (some .boolean), Cond.methodLink RX1 69 yX1_lives, Cond.instanceMethod yX1_lives, Cond.selects RX1 yX1_lives yX1_lives, Cond.code yX1_lives cX1_lives 2 (some .boolean), Cond.methodLink RX1 80 yX1_pieceAt, Cond.instanceMethod yX1_pieceAt, Cond.selects RX1 yX1_pieceAt yX1_pieceAt, Cond.code yX1_pieceAt cX1_pieceAt 3 (some .int), Cond.methodLink RX1 129 yX1_loosen, Cond.instanceMethod yX1_loosen, Cond.selects RX1 yX1_loosen yX1_loosen, Cond.code yX1_loosen cX1_loosen 4 (some .int), Cond.methodLink RX1 77 yX1_isPiece, Cond.instanceMethod yX1_isPiece, Cond.selects RX1 yX1_isPiece yX1_isPiece, Cond.code yX1_isPiece cX1_isPiece 2 (some .boolean)]
def wsX5_trim_r4 : List Cond := [Cond.methodLink RX1 154 yX1_thank, Cond.instanceMethod yX1_thank, Cond.selects RX1 yX1_thank yX1_thank, Cond.code yX1_thank cX1_thank 3 none, Cond.methodLink RX1 158 Lib.Math.min.name, Cond.static Lib.Math.min.name, Cond.initialized "java/lang/Math", Cond.code Lib.Math.min.name Lib.Math.min.code 2 (some .int), Cond.methodLink RX5 45 yX5_settle, Cond.instanceMethod yX5_settle, Cond.selects RX5 yX5_settle yX5_settle, Cond.initialized RX5, Cond.code yX5_settle cX5_settle 2 (some .int), Cond.methodLink RX5 227 yX5_isError, Cond.static yX5_isError, Cond.code yX5_isError cX5_isError 1 (some .boolean), Cond.constant RX5 79 (-1000001), Cond.constant RX5 212 (-1000002), Cond.constant RX5 216 (-1000003), Cond.constant RX5 86 (-1000004), Cond.methodLink RX5 230 yX0_keepPrepared, Cond.instanceMethod yX0_keepPrepared, Cond.selects RX0 yX0_keepPrepared yX0_keepPrepared, Cond.code yX0_keepPrepared cX0_keepPrepared 1 none]
def wsX5_trim_r5 : List Cond := [Cond.methodLink RX0 26 yX0_dropOldest, Cond.instanceMethod yX0_dropOldest, Cond.selects RX0 yX0_dropOldest yX0_dropOldest, Cond.code yX0_dropOldest cX0_dropOldest 2 none]
def wsX5_trim : List Cond := .code yX5_trim cX5_trim 3 (some .int) :: ((wsX5_trim_r1 ++ (wsX5_trim_r2 ++ (wsX5_trim_r3 ++ (wsX5_trim_r4 ++ wsX5_trim_r5)))) ++ wsX50 ++ wsX00 ++ wsX10 ++ wsX40)
def wsX5_sweep_r1 : List Cond := [Cond.fieldLink RX5 19 "ThinVolumes" "history" "LThinVolumes$History;", Cond.fieldLink RX5 12 "ThinVolumes" "pool" "LThinVolumes$Pool;", Cond.methodLink RX5 37 yX0_prepare, Cond.instanceMethod yX0_prepare, Cond.selects RX0 yX0_prepare yX0_prepare, Cond.initialized RX0, Cond.code yX0_prepare cX0_prepare 2 none, Cond.fieldLink RX0 18 "ThinVolumes$History" "kept" "I", Cond.methodLink RX0 22 yX0_copyInto, Cond.instanceMethod yX0_copyInto, Cond.selects RX0 yX0_copyInto yX0_copyInto, Cond.code yX0_copyInto cX0_copyInto 3 none, Cond.fieldLink RX0 11 "ThinVolumes$History" "states" "[LThinVolumes$Pool;", Cond.methodLink RX0 29 yX1_copyFrom, Cond.instanceMethod yX1_copyFrom, Cond.selects RX1 yX1_copyFrom yX1_copyFrom, Cond.initialized RX1, Cond.code yX1_copyFrom cX1_copyFrom 2 none, Cond.fieldLink RX1 9 "ThinVolumes$Pool" "sizes" "[I", Cond.methodLink RX1 49 arraycopyName, Cond.native arraycopyName, Cond.static arraycopyName, Cond.initialized "java/lang/System", Cond.fieldLink RX1 15 "ThinVolumes$Pool" "manners" "[I"]
def wsX5_sweep_r2 : List Cond := [Cond.fieldLink RX1 18 "ThinVolumes$Pool" "promises" "[I", Cond.fieldLink RX1 21 "ThinVolumes$Pool" "parents" "[I", Cond.fieldLink RX1 24 "ThinVolumes$Pool" "refusalsOf" "[I", Cond.fieldLink RX1 27 "ThinVolumes$Pool" "piecesGotBy" "[I", Cond.fieldLink RX1 30 "ThinVolumes$Pool" "spots" "[I", Cond.fieldLink RX1 33 "ThinVolumes$Pool" "values" "[I", Cond.fieldLink RX1 36 "ThinVolumes$Pool" "owners" "[I", Cond.fieldLink RX1 39 "ThinVolumes$Pool" "settings" "[I", Cond.fieldLink RX1 45 "ThinVolumes$Pool" "warnings" "LThinVolumes$Warnings;", Cond.fieldLink RX1 59 "ThinVolumes$Pool" "refusals" "I", Cond.fieldLink RX1 63 "ThinVolumes$Pool" "piecesGot" "I", Cond.fieldLink RX1 66 "ThinVolumes$Pool" "piecesFreed" "I", Cond.methodLink RX1 55 yX4_copyFrom, Cond.instanceMethod yX4_copyFrom, Cond.selects RX4 yX4_copyFrom yX4_copyFrom, Cond.initialized RX4, Cond.code yX4_copyFrom cX4_copyFrom 2 none, Cond.fieldLink RX4 9 "ThinVolumes$Warnings" "kinds" "[I", Cond.methodLink RX4 21 arraycopyName, Cond.fieldLink RX4 15 "ThinVolumes$Warnings" "volumes" "[I", Cond.fieldLink RX4 18 "ThinVolumes$Warnings" "available" "[I", Cond.fieldLink RX4 27 "ThinVolumes$Warnings" "kept" "I", Cond.methodLink RX5 68 yX1_sweepVolume, Cond.instanceMethod yX1_sweepVolume]
def wsX5_sweep_r3 : List Cond := [Cond.selects RX1 yX1_sweepVolume yX1_sweepVolume, Cond.code yX1_sweepVolume cX1_sweepVolume 5 (some .int), Cond.constant RX1 124 (-1000001), Cond.methodLink RX1 69 yX1_lives, Cond.instanceMethod yX1_lives, Cond.selects RX1 yX1_lives yX1_lives, Cond.code yX1_lives cX1_lives 2 (some .boolean), Cond.methodLink RX1 80 yX1_pieceAt, Cond.instanceMethod yX1_pieceAt, Cond.selects RX1 yX1_pieceAt yX1_pieceAt, Cond.code yX1_pieceAt cX1_pieceAt 3 (some .int), Cond.methodLink RX1 73 yX1_hasPlace, Cond.instanceMethod yX1_hasPlace, Cond.selects RX1 yX1_hasPlace yX1_hasPlace, Cond.code yX1_hasPlace cX1_hasPlace 3 (some .boolean), Cond.methodLink RX1 77 yX1_isPiece, Cond.instanceMethod yX1_isPiece, Cond.selects RX1 yX1_isPiece yX1_isPiece, Cond.code yX1_isPiece cX1_isPiece 2 (some .boolean), Cond.methodLink RX1 129 yX1_loosen, Cond.instanceMethod yX1_loosen, Cond.selects RX1 yX1_loosen yX1_loosen, Cond.code yX1_loosen cX1_loosen 4 (some .int), Cond.methodLink RX1 154 yX1_thank]
def wsX5_sweep_r4 : List Cond := [Cond.instanceMethod yX1_thank, Cond.selects RX1 yX1_thank yX1_thank, Cond.code yX1_thank cX1_thank 3 none, Cond.methodLink RX1 158 Lib.Math.min.name, Cond.static Lib.Math.min.name, Cond.initialized "java/lang/Math", Cond.code Lib.Math.min.name Lib.Math.min.code 2 (some .int), Cond.methodLink RX5 45 yX5_settle, Cond.instanceMethod yX5_settle, Cond.selects RX5 yX5_settle yX5_settle, Cond.initialized RX5, Cond.code yX5_settle cX5_settle 2 (some .int), Cond.methodLink RX5 227 yX5_isError, Cond.static yX5_isError, Cond.code yX5_isError cX5_isError 1 (some .boolean), Cond.constant RX5 79 (-1000001), Cond.constant RX5 212 (-1000002), Cond.constant RX5 216 (-1000003), Cond.constant RX5 86 (-1000004), Cond.methodLink RX5 230 yX0_keepPrepared, Cond.instanceMethod yX0_keepPrepared, Cond.selects RX0 yX0_keepPrepared yX0_keepPrepared, Cond.code yX0_keepPrepared cX0_keepPrepared 1 none, Cond.methodLink RX0 26 yX0_dropOldest]
def wsX5_sweep_r5 : List Cond := [Cond.instanceMethod yX0_dropOldest, Cond.selects RX0 yX0_dropOldest yX0_dropOldest, Cond.code yX0_dropOldest cX0_dropOldest 2 none]
def wsX5_sweep : List Cond := .code yX5_sweep cX5_sweep 2 (some .int) :: ((wsX5_sweep_r1 ++ (wsX5_sweep_r2 ++ (wsX5_sweep_r3 ++ (wsX5_sweep_r4 ++ wsX5_sweep_r5)))) ++ wsX50 ++ wsX00 ++ wsX10 ++ wsX40)
def wsX5_merge_r1 : List Cond := [Cond.fieldLink RX5 19 "ThinVolumes" "history" "LThinVolumes$History;", Cond.fieldLink RX5 12 "ThinVolumes" "pool" "LThinVolumes$Pool;", Cond.methodLink RX5 37 yX0_prepare, Cond.instanceMethod yX0_prepare, Cond.selects RX0 yX0_prepare yX0_prepare, Cond.initialized RX0, Cond.code yX0_prepare cX0_prepare 2 none, Cond.fieldLink RX0 18 "ThinVolumes$History" "kept" "I", Cond.methodLink RX0 22 yX0_copyInto, Cond.instanceMethod yX0_copyInto, Cond.selects RX0 yX0_copyInto yX0_copyInto, Cond.code yX0_copyInto cX0_copyInto 3 none, Cond.fieldLink RX0 11 "ThinVolumes$History" "states" "[LThinVolumes$Pool;", Cond.methodLink RX0 29 yX1_copyFrom, Cond.instanceMethod yX1_copyFrom, Cond.selects RX1 yX1_copyFrom yX1_copyFrom, Cond.initialized RX1, Cond.code yX1_copyFrom cX1_copyFrom 2 none, Cond.fieldLink RX1 9 "ThinVolumes$Pool" "sizes" "[I", Cond.methodLink RX1 49 arraycopyName, Cond.native arraycopyName, Cond.static arraycopyName, Cond.initialized "java/lang/System", Cond.fieldLink RX1 15 "ThinVolumes$Pool" "manners" "[I"]
def wsX5_merge_r2 : List Cond := [Cond.fieldLink RX1 18 "ThinVolumes$Pool" "promises" "[I", Cond.fieldLink RX1 21 "ThinVolumes$Pool" "parents" "[I", Cond.fieldLink RX1 24 "ThinVolumes$Pool" "refusalsOf" "[I", Cond.fieldLink RX1 27 "ThinVolumes$Pool" "piecesGotBy" "[I", Cond.fieldLink RX1 30 "ThinVolumes$Pool" "spots" "[I", Cond.fieldLink RX1 33 "ThinVolumes$Pool" "values" "[I", Cond.fieldLink RX1 36 "ThinVolumes$Pool" "owners" "[I", Cond.fieldLink RX1 39 "ThinVolumes$Pool" "settings" "[I", Cond.fieldLink RX1 45 "ThinVolumes$Pool" "warnings" "LThinVolumes$Warnings;", Cond.fieldLink RX1 59 "ThinVolumes$Pool" "refusals" "I", Cond.fieldLink RX1 63 "ThinVolumes$Pool" "piecesGot" "I", Cond.fieldLink RX1 66 "ThinVolumes$Pool" "piecesFreed" "I", Cond.methodLink RX1 55 yX4_copyFrom, Cond.instanceMethod yX4_copyFrom, Cond.selects RX4 yX4_copyFrom yX4_copyFrom, Cond.initialized RX4, Cond.code yX4_copyFrom cX4_copyFrom 2 none, Cond.fieldLink RX4 9 "ThinVolumes$Warnings" "kinds" "[I", Cond.methodLink RX4 21 arraycopyName, Cond.fieldLink RX4 15 "ThinVolumes$Warnings" "volumes" "[I", Cond.fieldLink RX4 18 "ThinVolumes$Warnings" "available" "[I", Cond.fieldLink RX4 27 "ThinVolumes$Warnings" "kept" "I", Cond.methodLink RX5 71 yX1_mergePieces, Cond.instanceMethod yX1_mergePieces]
def wsX5_merge_r3 : List Cond := [Cond.selects RX1 yX1_mergePieces yX1_mergePieces, Cond.code yX1_mergePieces cX1_mergePieces 4 (some .int), Cond.methodLink RX1 161 yX1_moveOwners, Cond.instanceMethod yX1_moveOwners, Cond.selects RX1 yX1_moveOwners yX1_moveOwners, Cond.code yX1_moveOwners cX1_moveOwners 4 none, Cond.methodLink RX5 45 yX5_settle, Cond.instanceMethod yX5_settle, Cond.selects RX5 yX5_settle yX5_settle, Cond.initialized RX5, Cond.code yX5_settle cX5_settle 2 (some .int), Cond.methodLink RX5 227 yX5_isError, Cond.static yX5_isError, Cond.code yX5_isError cX5_isError 1 (some .boolean), Cond.constant RX5 79 (-1000001), Cond.constant RX5 212 (-1000002), Cond.constant RX5 216 (-1000003), Cond.constant RX5 86 (-1000004), Cond.methodLink RX5 230 yX0_keepPrepared, Cond.instanceMethod yX0_keepPrepared, Cond.selects RX0 yX0_keepPrepared yX0_keepPrepared, Cond.code yX0_keepPrepared cX0_keepPrepared 1 none, Cond.methodLink RX0 26 yX0_dropOldest, Cond.instanceMethod yX0_dropOldest]
def wsX5_merge_r4 : List Cond := [Cond.selects RX0 yX0_dropOldest yX0_dropOldest, Cond.code yX0_dropOldest cX0_dropOldest 2 none]
def wsX5_merge : List Cond := .code yX5_merge cX5_merge 1 (some .int) :: ((wsX5_merge_r1 ++ (wsX5_merge_r2 ++ (wsX5_merge_r3 ++ wsX5_merge_r4))) ++ wsX50 ++ wsX00 ++ wsX10 ++ wsX40)
def wsX5_read_r1 : List Cond := [Cond.fieldLink RX5 12 "ThinVolumes" "pool" "LThinVolumes$Pool;", Cond.constant RX5 79 (-1000001), Cond.constant RX5 86 (-1000004), Cond.methodLink RX5 75 yX1_hasPlace, Cond.instanceMethod yX1_hasPlace, Cond.selects RX1 yX1_hasPlace yX1_hasPlace, Cond.initialized RX1, Cond.code yX1_hasPlace cX1_hasPlace 3 (some .boolean), Cond.fieldLink RX1 9 "ThinVolumes$Pool" "sizes" "[I", Cond.methodLink RX1 69 yX1_lives, Cond.instanceMethod yX1_lives, Cond.selects RX1 yX1_lives yX1_lives, Cond.code yX1_lives cX1_lives 2 (some .boolean), Cond.methodLink RX5 80 yX1_pieceAt, Cond.instanceMethod yX1_pieceAt, Cond.selects RX1 yX1_pieceAt yX1_pieceAt, Cond.code yX1_pieceAt cX1_pieceAt 3 (some .int), Cond.fieldLink RX1 30 "ThinVolumes$Pool" "spots" "[I", Cond.methodLink RX1 73 yX1_hasPlace, Cond.methodLink RX5 83 yX1_valueOf, Cond.instanceMethod yX1_valueOf, Cond.selects RX1 yX1_valueOf yX1_valueOf, Cond.code yX1_valueOf cX1_valueOf 2 (some .int), Cond.fieldLink RX1 33 "ThinVolumes$Pool" "values" "[I"]
def wsX5_read_r2 : List Cond := [Cond.methodLink RX1 77 yX1_isPiece, Cond.instanceMethod yX1_isPiece, Cond.selects RX1 yX1_isPiece yX1_isPiece, Cond.code yX1_isPiece cX1_isPiece 2 (some .boolean)]
def wsX5_read : List Cond := .code yX5_read cX5_read 5 (some .int) :: ((wsX5_read_r1 ++ wsX5_read_r2) ++ wsX50 ++ wsX10)
def wsX5_volumeOf_r1 : List Cond := [Cond.fieldLink RX5 12 "ThinVolumes" "pool" "LThinVolumes$Pool;", Cond.constant RX5 79 (-1000001), Cond.fieldLink RX5 91 "ThinVolumes$Pool" "sizes" "[I", Cond.fieldLink RX5 101 "ThinVolumes$Pool" "manners" "[I", Cond.fieldLink RX5 104 "ThinVolumes$Pool" "promises" "[I", Cond.fieldLink RX5 107 "ThinVolumes$Pool" "parents" "[I", Cond.constant RX5 86 (-1000004), Cond.fieldLink RX5 116 "ThinVolumes$Pool" "refusalsOf" "[I", Cond.fieldLink RX5 119 "ThinVolumes$Pool" "piecesGotBy" "[I", Cond.methodLink RX5 87 yX1_lives, Cond.instanceMethod yX1_lives, Cond.selects RX1 yX1_lives yX1_lives, Cond.initialized RX1, Cond.code yX1_lives cX1_lives 2 (some .boolean), Cond.fieldLink RX1 9 "ThinVolumes$Pool" "sizes" "[I", Cond.methodLink RX5 95 yX1_placesWithPieces, Cond.instanceMethod yX1_placesWithPieces, Cond.selects RX1 yX1_placesWithPieces yX1_placesWithPieces, Cond.code yX1_placesWithPieces cX1_placesWithPieces 4 (some .int), Cond.methodLink RX1 80 yX1_pieceAt, Cond.instanceMethod yX1_pieceAt, Cond.selects RX1 yX1_pieceAt yX1_pieceAt, Cond.code yX1_pieceAt cX1_pieceAt 3 (some .int), Cond.fieldLink RX1 30 "ThinVolumes$Pool" "spots" "[I"]
def wsX5_volumeOf_r2 : List Cond := [Cond.methodLink RX1 73 yX1_hasPlace, Cond.instanceMethod yX1_hasPlace, Cond.selects RX1 yX1_hasPlace yX1_hasPlace, Cond.code yX1_hasPlace cX1_hasPlace 3 (some .boolean), Cond.methodLink RX1 69 yX1_lives, Cond.methodLink RX5 98 yX1_piecesOwnedOnlyBy, Cond.instanceMethod yX1_piecesOwnedOnlyBy, Cond.selects RX1 yX1_piecesOwnedOnlyBy yX1_piecesOwnedOnlyBy, Cond.code yX1_piecesOwnedOnlyBy cX1_piecesOwnedOnlyBy 4 (some .int), Cond.fieldLink RX1 36 "ThinVolumes$Pool" "owners" "[I", Cond.methodLink RX1 84 yX1_volumesThatOwn, Cond.instanceMethod yX1_volumesThatOwn, Cond.selects RX1 yX1_volumesThatOwn yX1_volumesThatOwn, Cond.code yX1_volumesThatOwn cX1_volumesThatOwn 5 (some .int), Cond.methodLink RX5 110 yX1_clonesOf, Cond.instanceMethod yX1_clonesOf, Cond.selects RX1 yX1_clonesOf yX1_clonesOf, Cond.code yX1_clonesOf cX1_clonesOf 4 (some .int), Cond.fieldLink RX1 21 "ThinVolumes$Pool" "parents" "[I", Cond.methodLink RX5 113 yX1_rankWith, Cond.instanceMethod yX1_rankWith, Cond.selects RX1 yX1_rankWith yX1_rankWith, Cond.code yX1_rankWith cX1_rankWith 6 (some .int), Cond.fieldLink RX1 15 "ThinVolumes$Pool" "manners" "[I"]
def wsX5_volumeOf : List Cond := .code yX5_volumeOf cX5_volumeOf 3 (some .int) :: ((wsX5_volumeOf_r1 ++ wsX5_volumeOf_r2) ++ wsX50 ++ wsX10)
def wsX5_pieceOf_r1 : List Cond := [Cond.fieldLink RX5 12 "ThinVolumes" "pool" "LThinVolumes$Pool;", Cond.constant RX5 79 (-1000001), Cond.fieldLink RX5 125 "ThinVolumes$Pool" "owners" "[I", Cond.constant RX5 86 (-1000004), Cond.fieldLink RX5 128 "ThinVolumes$Pool" "values" "[I", Cond.methodLink RX5 122 yX1_isPiece, Cond.instanceMethod yX1_isPiece, Cond.selects RX1 yX1_isPiece yX1_isPiece, Cond.initialized RX1, Cond.code yX1_isPiece cX1_isPiece 2 (some .boolean), Cond.methodLink RX5 131 yX1_volumesThatOwn, Cond.instanceMethod yX1_volumesThatOwn, Cond.selects RX1 yX1_volumesThatOwn yX1_volumesThatOwn, Cond.code yX1_volumesThatOwn cX1_volumesThatOwn 5 (some .int), Cond.methodLink RX1 80 yX1_pieceAt, Cond.instanceMethod yX1_pieceAt, Cond.selects RX1 yX1_pieceAt yX1_pieceAt, Cond.code yX1_pieceAt cX1_pieceAt 3 (some .int), Cond.fieldLink RX1 30 "ThinVolumes$Pool" "spots" "[I", Cond.methodLink RX1 73 yX1_hasPlace, Cond.instanceMethod yX1_hasPlace, Cond.selects RX1 yX1_hasPlace yX1_hasPlace, Cond.code yX1_hasPlace cX1_hasPlace 3 (some .boolean), Cond.fieldLink RX1 9 "ThinVolumes$Pool" "sizes" "[I"]
def wsX5_pieceOf_r2 : List Cond := [Cond.methodLink RX1 69 yX1_lives, Cond.instanceMethod yX1_lives, Cond.selects RX1 yX1_lives yX1_lives, Cond.code yX1_lives cX1_lives 2 (some .boolean)]
def wsX5_pieceOf : List Cond := .code yX5_pieceOf cX5_pieceOf 3 (some .int) :: ((wsX5_pieceOf_r1 ++ wsX5_pieceOf_r2) ++ wsX50 ++ wsX10)
def wsX5_warningOf : List Cond := .code yX5_warningOf cX5_warningOf 3 (some .int) :: ([.constant RX5 79 (-1000001), .fieldLink RX5 12 "ThinVolumes" "pool" "LThinVolumes$Pool;", .fieldLink RX5 134 "ThinVolumes$Pool" "warnings" "LThinVolumes$Warnings;", .methodLink RX5 138 yX4_tell, .instanceMethod yX4_tell, .selects RX4 yX4_tell yX4_tell, .initialized RX4, .code yX4_tell cX4_tell 3 (some .int), .fieldLink RX4 27 "ThinVolumes$Warnings" "kept" "I", .constant RX4 37 (-1000004), .fieldLink RX4 9 "ThinVolumes$Warnings" "kinds" "[I", .fieldLink RX4 15 "ThinVolumes$Warnings" "volumes" "[I", .fieldLink RX4 18 "ThinVolumes$Warnings" "available" "[I"] ++ wsX50 ++ wsX10 ++ wsX40)
def wsX5_couldGet_r1 : List Cond := [Cond.fieldLink RX5 12 "ThinVolumes" "pool" "LThinVolumes$Pool;", Cond.constant RX5 79 (-1000001), Cond.methodLink RX5 87 yX1_lives, Cond.instanceMethod yX1_lives, Cond.selects RX1 yX1_lives yX1_lives, Cond.initialized RX1, Cond.code yX1_lives cX1_lives 2 (some .boolean), Cond.fieldLink RX1 9 "ThinVolumes$Pool" "sizes" "[I", Cond.methodLink RX5 143 yX1_piecesInReach, Cond.instanceMethod yX1_piecesInReach, Cond.selects RX1 yX1_piecesInReach yX1_piecesInReach, Cond.code yX1_piecesInReach cX1_piecesInReach 5 (some .int), Cond.fieldLink RX1 18 "ThinVolumes$Pool" "promises" "[I", Cond.fieldLink RX1 15 "ThinVolumes$Pool" "manners" "[I", Cond.methodLink RX1 69 yX1_lives, Cond.methodLink RX1 103 yX1_available, Cond.instanceMethod yX1_available, Cond.selects RX1 yX1_available yX1_available, Cond.code yX1_available cX1_available 1 (some .int), Cond.methodLink RX1 96 yX1_freePieces, Cond.instanceMethod yX1_freePieces, Cond.selects RX1 yX1_freePieces yX1_freePieces, Cond.code yX1_freePieces cX1_freePieces 3 (some .int), Cond.fieldLink RX1 36 "ThinVolumes$Pool" "owners" "[I"]
def wsX5_couldGet_r2 : List Cond := [Cond.methodLink RX1 100 yX1_allPromises, Cond.instanceMethod yX1_allPromises, Cond.selects RX1 yX1_allPromises yX1_allPromises, Cond.code yX1_allPromises cX1_allPromises 3 (some .int), Cond.methodLink RX1 113 yX1_wouldGetUnpromised, Cond.instanceMethod yX1_wouldGetUnpromised, Cond.selects RX1 yX1_wouldGetUnpromised yX1_wouldGetUnpromised, Cond.code yX1_wouldGetUnpromised cX1_wouldGetUnpromised 5 (some .boolean), Cond.fieldLink RX1 39 "ThinVolumes$Pool" "settings" "[I", Cond.methodLink RX1 106 yX1_levelWith, Cond.instanceMethod yX1_levelWith, Cond.selects RX1 yX1_levelWith yX1_levelWith, Cond.code yX1_levelWith cX1_levelWith 2 (some .int), Cond.methodLink RX1 109 yX1_rankWith, Cond.instanceMethod yX1_rankWith, Cond.selects RX1 yX1_rankWith yX1_rankWith, Cond.code yX1_rankWith cX1_rankWith 6 (some .int), Cond.methodLink RX1 117 yX1_mannersBehindUnpromised, Cond.instanceMethod yX1_mannersBehindUnpromised, Cond.selects RX1 yX1_mannersBehindUnpromised yX1_mannersBehindUnpromised, Cond.code yX1_mannersBehindUnpromised cX1_mannersBehindUnpromised 3 (some .int), Cond.methodLink RX1 91 Lib.Math.max.name, Cond.static Lib.Math.max.name, Cond.initialized "java/lang/Math"]
def wsX5_couldGet_r3 : List Cond := [Cond.code Lib.Math.max.name Lib.Math.max.code 2 (some .int)]
def wsX5_couldGet : List Cond := .code yX5_couldGet cX5_couldGet 2 (some .int) :: ((wsX5_couldGet_r1 ++ (wsX5_couldGet_r2 ++ wsX5_couldGet_r3)) ++ wsX50 ++ wsX10)
def wsX5_couldFree_r1 : List Cond := [Cond.fieldLink RX5 33 "ThinVolumes" "rehearsal" "LThinVolumes$Rehearsal;", Cond.fieldLink RX5 146 "ThinVolumes$Rehearsal" "trial" "LThinVolumes$Pool;", Cond.fieldLink RX5 12 "ThinVolumes" "pool" "LThinVolumes$Pool;", Cond.methodLink RX5 149 yX1_copyFrom, Cond.instanceMethod yX1_copyFrom, Cond.selects RX1 yX1_copyFrom yX1_copyFrom, Cond.initialized RX1, Cond.code yX1_copyFrom cX1_copyFrom 2 none, Cond.fieldLink RX1 9 "ThinVolumes$Pool" "sizes" "[I", Cond.methodLink RX1 49 arraycopyName, Cond.native arraycopyName, Cond.static arraycopyName, Cond.initialized "java/lang/System", Cond.fieldLink RX1 15 "ThinVolumes$Pool" "manners" "[I", Cond.fieldLink RX1 18 "ThinVolumes$Pool" "promises" "[I", Cond.fieldLink RX1 21 "ThinVolumes$Pool" "parents" "[I", Cond.fieldLink RX1 24 "ThinVolumes$Pool" "refusalsOf" "[I", Cond.fieldLink RX1 27 "ThinVolumes$Pool" "piecesGotBy" "[I", Cond.fieldLink RX1 30 "ThinVolumes$Pool" "spots" "[I", Cond.fieldLink RX1 33 "ThinVolumes$Pool" "values" "[I", Cond.fieldLink RX1 36 "ThinVolumes$Pool" "owners" "[I", Cond.fieldLink RX1 39 "ThinVolumes$Pool" "settings" "[I", Cond.fieldLink RX1 45 "ThinVolumes$Pool" "warnings" "LThinVolumes$Warnings;", Cond.fieldLink RX1 59 "ThinVolumes$Pool" "refusals" "I"]
def wsX5_couldFree_r2 : List Cond := [Cond.fieldLink RX1 63 "ThinVolumes$Pool" "piecesGot" "I", Cond.fieldLink RX1 66 "ThinVolumes$Pool" "piecesFreed" "I", Cond.methodLink RX1 55 yX4_copyFrom, Cond.instanceMethod yX4_copyFrom, Cond.selects RX4 yX4_copyFrom yX4_copyFrom, Cond.initialized RX4, Cond.code yX4_copyFrom cX4_copyFrom 2 none, Cond.fieldLink RX4 9 "ThinVolumes$Warnings" "kinds" "[I", Cond.methodLink RX4 21 arraycopyName, Cond.fieldLink RX4 15 "ThinVolumes$Warnings" "volumes" "[I", Cond.fieldLink RX4 18 "ThinVolumes$Warnings" "available" "[I", Cond.fieldLink RX4 27 "ThinVolumes$Warnings" "kept" "I", Cond.methodLink RX5 71 yX1_mergePieces, Cond.instanceMethod yX1_mergePieces, Cond.selects RX1 yX1_mergePieces yX1_mergePieces, Cond.code yX1_mergePieces cX1_mergePieces 4 (some .int), Cond.methodLink RX1 161 yX1_moveOwners, Cond.instanceMethod yX1_moveOwners, Cond.selects RX1 yX1_moveOwners yX1_moveOwners, Cond.code yX1_moveOwners cX1_moveOwners 4 none, Cond.methodLink RX5 68 yX1_sweepVolume, Cond.instanceMethod yX1_sweepVolume, Cond.selects RX1 yX1_sweepVolume yX1_sweepVolume, Cond.code yX1_sweepVolume cX1_sweepVolume 5 (some .int)]
def wsX5_couldFree_r3 : List Cond := [Cond.constant RX1 124 (-1000001), Cond.methodLink RX1 69 yX1_lives, Cond.instanceMethod yX1_lives, Cond.selects RX1 yX1_lives yX1_lives, Cond.code yX1_lives cX1_lives 2 (some .boolean), Cond.methodLink RX1 80 yX1_pieceAt, Cond.instanceMethod yX1_pieceAt, Cond.selects RX1 yX1_pieceAt yX1_pieceAt, Cond.code yX1_pieceAt cX1_pieceAt 3 (some .int), Cond.methodLink RX1 73 yX1_hasPlace, Cond.instanceMethod yX1_hasPlace, Cond.selects RX1 yX1_hasPlace yX1_hasPlace, Cond.code yX1_hasPlace cX1_hasPlace 3 (some .boolean), Cond.methodLink RX1 77 yX1_isPiece, Cond.instanceMethod yX1_isPiece, Cond.selects RX1 yX1_isPiece yX1_isPiece, Cond.code yX1_isPiece cX1_isPiece 2 (some .boolean), Cond.methodLink RX1 129 yX1_loosen, Cond.instanceMethod yX1_loosen, Cond.selects RX1 yX1_loosen yX1_loosen, Cond.code yX1_loosen cX1_loosen 4 (some .int), Cond.methodLink RX1 154 yX1_thank, Cond.instanceMethod yX1_thank, Cond.selects RX1 yX1_thank yX1_thank]
def wsX5_couldFree_r4 : List Cond := [Cond.code yX1_thank cX1_thank 3 none, Cond.methodLink RX1 158 Lib.Math.min.name, Cond.static Lib.Math.min.name, Cond.initialized "java/lang/Math", Cond.code Lib.Math.min.name Lib.Math.min.code 2 (some .int), Cond.methodLink RX5 87 yX1_lives]
def wsX5_couldFree : List Cond := .code yX5_couldFree cX5_couldFree 5 (some .int) :: ((wsX5_couldFree_r1 ++ (wsX5_couldFree_r2 ++ (wsX5_couldFree_r3 ++ wsX5_couldFree_r4))) ++ wsX50 ++ wsX20 ++ wsX10 ++ wsX40)
def wsX5_family_r1 : List Cond := [Cond.fieldLink RX5 12 "ThinVolumes" "pool" "LThinVolumes$Pool;", Cond.constant RX5 79 (-1000001), Cond.methodLink RX5 87 yX1_lives, Cond.instanceMethod yX1_lives, Cond.selects RX1 yX1_lives yX1_lives, Cond.initialized RX1, Cond.code yX1_lives cX1_lives 2 (some .boolean), Cond.fieldLink RX1 9 "ThinVolumes$Pool" "sizes" "[I", Cond.methodLink RX5 152 yX1_familyOf, Cond.instanceMethod yX1_familyOf, Cond.selects RX1 yX1_familyOf yX1_familyOf, Cond.code yX1_familyOf cX1_familyOf 4 (some .int), Cond.methodLink RX1 88 yX1_stepsUp, Cond.instanceMethod yX1_stepsUp, Cond.selects RX1 yX1_stepsUp yX1_stepsUp, Cond.code yX1_stepsUp cX1_stepsUp 5 (some .int), Cond.fieldLink RX1 21 "ThinVolumes$Pool" "parents" "[I", Cond.methodLink RX1 69 yX1_lives, Cond.methodLink RX5 98 yX1_piecesOwnedOnlyBy, Cond.instanceMethod yX1_piecesOwnedOnlyBy, Cond.selects RX1 yX1_piecesOwnedOnlyBy yX1_piecesOwnedOnlyBy, Cond.code yX1_piecesOwnedOnlyBy cX1_piecesOwnedOnlyBy 4 (some .int), Cond.fieldLink RX1 36 "ThinVolumes$Pool" "owners" "[I", Cond.methodLink RX1 84 yX1_volumesThatOwn]
def wsX5_family_r2 : List Cond := [Cond.instanceMethod yX1_volumesThatOwn, Cond.selects RX1 yX1_volumesThatOwn yX1_volumesThatOwn, Cond.code yX1_volumesThatOwn cX1_volumesThatOwn 5 (some .int), Cond.methodLink RX1 80 yX1_pieceAt, Cond.instanceMethod yX1_pieceAt, Cond.selects RX1 yX1_pieceAt yX1_pieceAt, Cond.code yX1_pieceAt cX1_pieceAt 3 (some .int), Cond.fieldLink RX1 30 "ThinVolumes$Pool" "spots" "[I", Cond.methodLink RX1 73 yX1_hasPlace, Cond.instanceMethod yX1_hasPlace, Cond.selects RX1 yX1_hasPlace yX1_hasPlace, Cond.code yX1_hasPlace cX1_hasPlace 3 (some .boolean), Cond.methodLink RX5 155 yX1_longestLineFrom, Cond.instanceMethod yX1_longestLineFrom, Cond.selects RX1 yX1_longestLineFrom yX1_longestLineFrom, Cond.code yX1_longestLineFrom cX1_longestLineFrom 4 (some .int), Cond.methodLink RX1 91 Lib.Math.max.name, Cond.static Lib.Math.max.name, Cond.initialized "java/lang/Math", Cond.code Lib.Math.max.name Lib.Math.max.code 2 (some .int)]
def wsX5_family : List Cond := .code yX5_family cX5_family 3 (some .int) :: ((wsX5_family_r1 ++ wsX5_family_r2) ++ wsX50 ++ wsX10)
def wsX5_ranked : List Cond := .code yX5_ranked cX5_ranked 2 (some .int) :: ([.constant RX5 79 (-1000001), .fieldLink RX5 12 "ThinVolumes" "pool" "LThinVolumes$Pool;", .methodLink RX5 158 yX1_volumeWithRank, .instanceMethod yX1_volumeWithRank, .selects RX1 yX1_volumeWithRank yX1_volumeWithRank, .initialized RX1, .code yX1_volumeWithRank cX1_volumeWithRank 3 (some .int), .fieldLink RX1 15 "ThinVolumes$Pool" "manners" "[I", .constant RX1 112 (-1000004), .methodLink RX1 69 yX1_lives, .instanceMethod yX1_lives, .selects RX1 yX1_lives yX1_lives, .code yX1_lives cX1_lives 2 (some .boolean), .fieldLink RX1 9 "ThinVolumes$Pool" "sizes" "[I", .methodLink RX1 109 yX1_rankWith, .instanceMethod yX1_rankWith, .selects RX1 yX1_rankWith yX1_rankWith, .code yX1_rankWith cX1_rankWith 6 (some .int)] ++ wsX50 ++ wsX10)
def wsX5_commonDivisorWithPieces : List Cond := .code yX5_commonDivisorWithPieces cX5_commonDivisorWithPieces 2 (some .int) :: ([])
def wsX5_over : List Cond := .code yX5_over cX5_over 4 (some .int) :: ([.constant RX5 79 (-1000001), .fieldLink RX5 12 "ThinVolumes" "pool" "LThinVolumes$Pool;", .methodLink RX5 161 yX1_allSizes, .instanceMethod yX1_allSizes, .selects RX1 yX1_allSizes yX1_allSizes, .initialized RX1, .code yX1_allSizes cX1_allSizes 3 (some .int), .fieldLink RX1 9 "ThinVolumes$Pool" "sizes" "[I", .methodLink RX5 164 yX5_commonDivisorWithPieces, .static yX5_commonDivisorWithPieces, .initialized RX5, .code yX5_commonDivisorWithPieces cX5_commonDivisorWithPieces 2 (some .int)] ++ wsX50 ++ wsX10)
def wsX5_count_r1 : List Cond := [Cond.fieldLink RX5 12 "ThinVolumes" "pool" "LThinVolumes$Pool;", Cond.fieldLink RX5 188 "ThinVolumes$Pool" "refusals" "I", Cond.fieldLink RX5 192 "ThinVolumes$Pool" "piecesGot" "I", Cond.fieldLink RX5 195 "ThinVolumes$Pool" "piecesFreed" "I", Cond.fieldLink RX5 134 "ThinVolumes$Pool" "warnings" "LThinVolumes$Warnings;", Cond.fieldLink RX5 198 "ThinVolumes$Warnings" "kept" "I", Cond.fieldLink RX5 19 "ThinVolumes" "history" "LThinVolumes$History;", Cond.fieldLink RX5 201 "ThinVolumes$History" "kept" "I", Cond.fieldLink RX5 26 "ThinVolumes" "text" "LThinVolumes$Text;", Cond.fieldLink RX5 202 "ThinVolumes$Text" "length" "I", Cond.fieldLink RX5 205 "ThinVolumes$Pool" "settings" "[I", Cond.constant RX5 79 (-1000001), Cond.methodLink RX5 167 yX1_volumesThatLive, Cond.instanceMethod yX1_volumesThatLive, Cond.selects RX1 yX1_volumesThatLive yX1_volumesThatLive, Cond.initialized RX1, Cond.code yX1_volumesThatLive cX1_volumesThatLive 3 (some .int), Cond.methodLink RX1 69 yX1_lives, Cond.instanceMethod yX1_lives, Cond.selects RX1 yX1_lives yX1_lives, Cond.code yX1_lives cX1_lives 2 (some .boolean), Cond.fieldLink RX1 9 "ThinVolumes$Pool" "sizes" "[I", Cond.methodLink RX5 170 yX1_freePieces, Cond.instanceMethod yX1_freePieces]
def wsX5_count_r2 : List Cond := [Cond.selects RX1 yX1_freePieces yX1_freePieces, Cond.code yX1_freePieces cX1_freePieces 3 (some .int), Cond.fieldLink RX1 36 "ThinVolumes$Pool" "owners" "[I", Cond.methodLink RX5 173 yX1_available, Cond.instanceMethod yX1_available, Cond.selects RX1 yX1_available yX1_available, Cond.code yX1_available cX1_available 1 (some .int), Cond.methodLink RX1 96 yX1_freePieces, Cond.methodLink RX1 100 yX1_allPromises, Cond.instanceMethod yX1_allPromises, Cond.selects RX1 yX1_allPromises yX1_allPromises, Cond.code yX1_allPromises cX1_allPromises 3 (some .int), Cond.fieldLink RX1 18 "ThinVolumes$Pool" "promises" "[I", Cond.methodLink RX5 176 yX1_level, Cond.instanceMethod yX1_level, Cond.selects RX1 yX1_level yX1_level, Cond.code yX1_level cX1_level 1 (some .int), Cond.methodLink RX1 103 yX1_available, Cond.methodLink RX1 106 yX1_levelWith, Cond.instanceMethod yX1_levelWith, Cond.selects RX1 yX1_levelWith yX1_levelWith, Cond.code yX1_levelWith cX1_levelWith 2 (some .int), Cond.fieldLink RX1 39 "ThinVolumes$Pool" "settings" "[I", Cond.methodLink RX5 179 yX1_allPromises]
def wsX5_count_r3 : List Cond := [Cond.methodLink RX5 182 yX1_allOwners, Cond.instanceMethod yX1_allOwners, Cond.selects RX1 yX1_allOwners yX1_allOwners, Cond.code yX1_allOwners cX1_allOwners 3 (some .int), Cond.methodLink RX5 185 yX1_sharedPieces, Cond.instanceMethod yX1_sharedPieces, Cond.selects RX1 yX1_sharedPieces yX1_sharedPieces, Cond.code yX1_sharedPieces cX1_sharedPieces 3 (some .int)]
def wsX5_count : List Cond := .code yX5_count cX5_count 2 (some .int) :: ((wsX5_count_r1 ++ (wsX5_count_r2 ++ wsX5_count_r3)) ++ wsX50 ++ wsX10 ++ wsX40 ++ wsX00 ++ wsX30)
def wsX5_undo_r1 : List Cond := [Cond.fieldLink RX5 19 "ThinVolumes" "history" "LThinVolumes$History;", Cond.fieldLink RX5 12 "ThinVolumes" "pool" "LThinVolumes$Pool;", Cond.fieldLink RX5 201 "ThinVolumes$History" "kept" "I", Cond.constant RX5 212 (-1000002), Cond.methodLink RX5 208 yX0_restore, Cond.instanceMethod yX0_restore, Cond.selects RX0 yX0_restore yX0_restore, Cond.initialized RX0, Cond.code yX0_restore cX0_restore 2 (some .boolean), Cond.fieldLink RX0 18 "ThinVolumes$History" "kept" "I", Cond.fieldLink RX0 11 "ThinVolumes$History" "states" "[LThinVolumes$Pool;", Cond.methodLink RX0 29 yX1_copyFrom, Cond.instanceMethod yX1_copyFrom, Cond.selects RX1 yX1_copyFrom yX1_copyFrom, Cond.initialized RX1, Cond.code yX1_copyFrom cX1_copyFrom 2 none, Cond.fieldLink RX1 9 "ThinVolumes$Pool" "sizes" "[I", Cond.methodLink RX1 49 arraycopyName, Cond.native arraycopyName, Cond.static arraycopyName, Cond.initialized "java/lang/System", Cond.fieldLink RX1 15 "ThinVolumes$Pool" "manners" "[I", Cond.fieldLink RX1 18 "ThinVolumes$Pool" "promises" "[I", Cond.fieldLink RX1 21 "ThinVolumes$Pool" "parents" "[I"]
def wsX5_undo_r2 : List Cond := [Cond.fieldLink RX1 24 "ThinVolumes$Pool" "refusalsOf" "[I", Cond.fieldLink RX1 27 "ThinVolumes$Pool" "piecesGotBy" "[I", Cond.fieldLink RX1 30 "ThinVolumes$Pool" "spots" "[I", Cond.fieldLink RX1 33 "ThinVolumes$Pool" "values" "[I", Cond.fieldLink RX1 36 "ThinVolumes$Pool" "owners" "[I", Cond.fieldLink RX1 39 "ThinVolumes$Pool" "settings" "[I", Cond.fieldLink RX1 45 "ThinVolumes$Pool" "warnings" "LThinVolumes$Warnings;", Cond.fieldLink RX1 59 "ThinVolumes$Pool" "refusals" "I", Cond.fieldLink RX1 63 "ThinVolumes$Pool" "piecesGot" "I", Cond.fieldLink RX1 66 "ThinVolumes$Pool" "piecesFreed" "I", Cond.methodLink RX1 55 yX4_copyFrom, Cond.instanceMethod yX4_copyFrom, Cond.selects RX4 yX4_copyFrom yX4_copyFrom, Cond.initialized RX4, Cond.code yX4_copyFrom cX4_copyFrom 2 none, Cond.fieldLink RX4 9 "ThinVolumes$Warnings" "kinds" "[I", Cond.methodLink RX4 21 arraycopyName, Cond.fieldLink RX4 15 "ThinVolumes$Warnings" "volumes" "[I", Cond.fieldLink RX4 18 "ThinVolumes$Warnings" "available" "[I", Cond.fieldLink RX4 27 "ThinVolumes$Warnings" "kept" "I"]
def wsX5_undo : List Cond := .code yX5_undo cX5_undo 1 (some .int) :: ((wsX5_undo_r1 ++ wsX5_undo_r2) ++ wsX50 ++ wsX00 ++ wsX10 ++ wsX40)
def wsX5_type : List Cond := .code yX5_type cX5_type 2 (some .int) :: ([.constant RX5 79 (-1000001), .fieldLink RX5 26 "ThinVolumes" "text" "LThinVolumes$Text;", .fieldLink RX5 202 "ThinVolumes$Text" "length" "I", .constant RX5 216 (-1000003), .methodLink RX5 213 yX3_append, .instanceMethod yX3_append, .selects RX3 yX3_append yX3_append, .initialized RX3, .code yX3_append cX3_append 2 (some .boolean), .fieldLink RX3 18 "ThinVolumes$Text" "length" "I", .fieldLink RX3 9 "ThinVolumes$Text" "signs" "[I"] ++ wsX50 ++ wsX30)
def wsX5_clearText : List Cond := .code yX5_clearText cX5_clearText 2 (some .int) :: ([.fieldLink RX5 26 "ThinVolumes" "text" "LThinVolumes$Text;", .fieldLink RX5 202 "ThinVolumes$Text" "length" "I"] ++ wsX50 ++ wsX30)
def wsX5_fault_r1 : List Cond := [Cond.constant RX5 79 (-1000001), Cond.fieldLink RX5 33 "ThinVolumes" "rehearsal" "LThinVolumes$Rehearsal;", Cond.fieldLink RX5 26 "ThinVolumes" "text" "LThinVolumes$Text;", Cond.fieldLink RX5 12 "ThinVolumes" "pool" "LThinVolumes$Pool;", Cond.fieldLink RX5 221 "ThinVolumes$Rehearsal" "reason" "I", Cond.constant RX5 86 (-1000004), Cond.fieldLink RX5 224 "ThinVolumes$Rehearsal" "position" "I", Cond.methodLink RX5 217 yX2_perform, Cond.instanceMethod yX2_perform, Cond.selects RX2 yX2_perform yX2_perform, Cond.initialized RX2, Cond.code yX2_perform cX2_perform 4 none, Cond.fieldLink RX2 12 "ThinVolumes$Rehearsal" "trial" "LThinVolumes$Pool;", Cond.fieldLink RX2 22 "ThinVolumes$Rehearsal" "position" "I", Cond.fieldLink RX2 26 "ThinVolumes$Rehearsal" "reason" "I", Cond.fieldLink RX2 29 "ThinVolumes$Text" "length" "I", Cond.fieldLink RX2 46 "ThinVolumes$Text" "next" "I", Cond.methodLink RX2 18 yX1_copyFrom, Cond.instanceMethod yX1_copyFrom, Cond.selects RX1 yX1_copyFrom yX1_copyFrom, Cond.initialized RX1, Cond.code yX1_copyFrom cX1_copyFrom 2 none, Cond.fieldLink RX1 9 "ThinVolumes$Pool" "sizes" "[I", Cond.methodLink RX1 49 arraycopyName]
def wsX5_fault_r2 : List Cond := [Cond.native arraycopyName, Cond.static arraycopyName, Cond.initialized "java/lang/System", Cond.fieldLink RX1 15 "ThinVolumes$Pool" "manners" "[I", Cond.fieldLink RX1 18 "ThinVolumes$Pool" "promises" "[I", Cond.fieldLink RX1 21 "ThinVolumes$Pool" "parents" "[I", Cond.fieldLink RX1 24 "ThinVolumes$Pool" "refusalsOf" "[I", Cond.fieldLink RX1 27 "ThinVolumes$Pool" "piecesGotBy" "[I", Cond.fieldLink RX1 30 "ThinVolumes$Pool" "spots" "[I", Cond.fieldLink RX1 33 "ThinVolumes$Pool" "values" "[I", Cond.fieldLink RX1 36 "ThinVolumes$Pool" "owners" "[I", Cond.fieldLink RX1 39 "ThinVolumes$Pool" "settings" "[I", Cond.fieldLink RX1 45 "ThinVolumes$Pool" "warnings" "LThinVolumes$Warnings;", Cond.fieldLink RX1 59 "ThinVolumes$Pool" "refusals" "I", Cond.fieldLink RX1 63 "ThinVolumes$Pool" "piecesGot" "I", Cond.fieldLink RX1 66 "ThinVolumes$Pool" "piecesFreed" "I", Cond.methodLink RX1 55 yX4_copyFrom, Cond.instanceMethod yX4_copyFrom, Cond.selects RX4 yX4_copyFrom yX4_copyFrom, Cond.initialized RX4, Cond.code yX4_copyFrom cX4_copyFrom 2 none, Cond.fieldLink RX4 9 "ThinVolumes$Warnings" "kinds" "[I", Cond.methodLink RX4 21 arraycopyName, Cond.fieldLink RX4 15 "ThinVolumes$Warnings" "volumes" "[I"]
def wsX5_fault_r3 : List Cond := [Cond.fieldLink RX4 18 "ThinVolumes$Warnings" "available" "[I", Cond.fieldLink RX4 27 "ThinVolumes$Warnings" "kept" "I", Cond.methodLink RX2 34 yX3_readOrder, Cond.instanceMethod yX3_readOrder, Cond.selects RX3 yX3_readOrder yX3_readOrder, Cond.initialized RX3, Cond.code yX3_readOrder cX3_readOrder 4 (some .boolean), Cond.fieldLink RX3 22 "ThinVolumes$Text" "next" "I", Cond.fieldLink RX3 29 "ThinVolumes$Text" "kind" "I", Cond.fieldLink RX3 15 "ThinVolumes$Text" "numbers" "[I", Cond.methodLink RX3 25 yX3_signHere, Cond.instanceMethod yX3_signHere, Cond.selects RX3 yX3_signHere yX3_signHere, Cond.code yX3_signHere cX3_signHere 1 (some .int), Cond.fieldLink RX3 18 "ThinVolumes$Text" "length" "I", Cond.fieldLink RX3 9 "ThinVolumes$Text" "signs" "[I", Cond.methodLink RX3 32 yX3_numbersDue, Cond.instanceMethod yX3_numbersDue, Cond.selects RX3 yX3_numbersDue yX3_numbersDue, Cond.code yX3_numbersDue cX3_numbersDue 2 (some .int), Cond.methodLink RX3 36 yX3_passes, Cond.instanceMethod yX3_passes, Cond.selects RX3 yX3_passes yX3_passes, Cond.code yX3_passes cX3_passes 2 (some .boolean)]
def wsX5_fault_r4 : List Cond := [Cond.methodLink RX3 40 yX3_readNumber, Cond.instanceMethod yX3_readNumber, Cond.selects RX3 yX3_readNumber yX3_readNumber, Cond.code yX3_readNumber cX3_readNumber 3 (some .int), Cond.methodLink RX3 43 yX3_readDigit, Cond.instanceMethod yX3_readDigit, Cond.selects RX3 yX3_readDigit yX3_readDigit, Cond.code yX3_readDigit cX3_readDigit 2 (some .int), Cond.methodLink RX2 38 yX2_obey, Cond.instanceMethod yX2_obey, Cond.selects RX2 yX2_obey yX2_obey, Cond.code yX2_obey cX2_obey 3 (some .int), Cond.fieldLink RX2 49 "ThinVolumes$Text" "numbers" "[I", Cond.fieldLink RX2 53 "ThinVolumes$Text" "kind" "I", Cond.methodLink RX2 56 yX1_writePlace, Cond.instanceMethod yX1_writePlace, Cond.selects RX1 yX1_writePlace yX1_writePlace, Cond.code yX1_writePlace cX1_writePlace 8 (some .int), Cond.constant RX1 124 (-1000001), Cond.constant RX1 149 (-1000005), Cond.methodLink RX1 73 yX1_hasPlace, Cond.instanceMethod yX1_hasPlace, Cond.selects RX1 yX1_hasPlace yX1_hasPlace, Cond.code yX1_hasPlace cX1_hasPlace 3 (some .boolean)]
def wsX5_fault_r5 : List Cond := [Cond.methodLink RX1 69 yX1_lives, Cond.instanceMethod yX1_lives, Cond.selects RX1 yX1_lives yX1_lives, Cond.code yX1_lives cX1_lives 2 (some .boolean), Cond.methodLink RX1 80 yX1_pieceAt, Cond.instanceMethod yX1_pieceAt, Cond.selects RX1 yX1_pieceAt yX1_pieceAt, Cond.code yX1_pieceAt cX1_pieceAt 3 (some .int), Cond.methodLink RX1 77 yX1_isPiece, Cond.instanceMethod yX1_isPiece, Cond.selects RX1 yX1_isPiece yX1_isPiece, Cond.code yX1_isPiece cX1_isPiece 2 (some .boolean), Cond.methodLink RX1 143 yX1_lowestFreePiece, Cond.instanceMethod yX1_lowestFreePiece, Cond.selects RX1 yX1_lowestFreePiece yX1_lowestFreePiece, Cond.code yX1_lowestFreePiece cX1_lowestFreePiece 2 (some .int), Cond.methodLink RX1 103 yX1_available, Cond.instanceMethod yX1_available, Cond.selects RX1 yX1_available yX1_available, Cond.code yX1_available cX1_available 1 (some .int), Cond.methodLink RX1 96 yX1_freePieces, Cond.instanceMethod yX1_freePieces, Cond.selects RX1 yX1_freePieces yX1_freePieces, Cond.code yX1_freePieces cX1_freePieces 3 (some .int)]
def wsX5_fault_r6 : List Cond := [Cond.methodLink RX1 100 yX1_allPromises, Cond.instanceMethod yX1_allPromises, Cond.selects RX1 yX1_allPromises yX1_allPromises, Cond.code yX1_allPromises cX1_allPromises 3 (some .int), Cond.methodLink RX1 113 yX1_wouldGetUnpromised, Cond.instanceMethod yX1_wouldGetUnpromised, Cond.selects RX1 yX1_wouldGetUnpromised yX1_wouldGetUnpromised, Cond.code yX1_wouldGetUnpromised cX1_wouldGetUnpromised 5 (some .boolean), Cond.methodLink RX1 106 yX1_levelWith, Cond.instanceMethod yX1_levelWith, Cond.selects RX1 yX1_levelWith yX1_levelWith, Cond.code yX1_levelWith cX1_levelWith 2 (some .int), Cond.methodLink RX1 109 yX1_rankWith, Cond.instanceMethod yX1_rankWith, Cond.selects RX1 yX1_rankWith yX1_rankWith, Cond.code yX1_rankWith cX1_rankWith 6 (some .int), Cond.methodLink RX1 146 yX1_refuse, Cond.instanceMethod yX1_refuse, Cond.selects RX1 yX1_refuse yX1_refuse, Cond.code yX1_refuse cX1_refuse 2 none, Cond.methodLink RX1 91 Lib.Math.max.name, Cond.static Lib.Math.max.name, Cond.initialized "java/lang/Math", Cond.code Lib.Math.max.name Lib.Math.max.code 2 (some .int)]
def wsX5_fault_r7 : List Cond := [Cond.methodLink RX1 120 yX4_add, Cond.instanceMethod yX4_add, Cond.selects RX4 yX4_add yX4_add, Cond.code yX4_add cX4_add 4 none, Cond.methodLink RX4 31 Lib.Math.min.name, Cond.static Lib.Math.min.name, Cond.code Lib.Math.min.name Lib.Math.min.code 2 (some .int), Cond.methodLink RX1 133 yX1_level, Cond.instanceMethod yX1_level, Cond.selects RX1 yX1_level yX1_level, Cond.code yX1_level cX1_level 1 (some .int), Cond.methodLink RX1 129 yX1_loosen, Cond.instanceMethod yX1_loosen, Cond.selects RX1 yX1_loosen yX1_loosen, Cond.code yX1_loosen cX1_loosen 4 (some .int), Cond.methodLink RX1 150 yX1_bookPiece, Cond.instanceMethod yX1_bookPiece, Cond.selects RX1 yX1_bookPiece yX1_bookPiece, Cond.code yX1_bookPiece cX1_bookPiece 4 none, Cond.methodLink RX1 117 yX1_mannersBehindUnpromised, Cond.instanceMethod yX1_mannersBehindUnpromised, Cond.selects RX1 yX1_mannersBehindUnpromised yX1_mannersBehindUnpromised, Cond.code yX1_mannersBehindUnpromised cX1_mannersBehindUnpromised 3 (some .int), Cond.methodLink RX1 136 yX1_warnIfLevelRose]
def wsX5_fault_r8 : List Cond := [Cond.instanceMethod yX1_warnIfLevelRose, Cond.selects RX1 yX1_warnIfLevelRose yX1_warnIfLevelRose, Cond.code yX1_warnIfLevelRose cX1_warnIfLevelRose 3 none, Cond.methodLink RX2 60 yX1_trimPlace, Cond.instanceMethod yX1_trimPlace, Cond.selects RX1 yX1_trimPlace yX1_trimPlace, Cond.code yX1_trimPlace cX1_trimPlace 4 (some .int), Cond.constant RX1 132 (-1000002), Cond.methodLink RX1 154 yX1_thank, Cond.instanceMethod yX1_thank, Cond.selects RX1 yX1_thank yX1_thank, Cond.code yX1_thank cX1_thank 3 none, Cond.methodLink RX1 158 Lib.Math.min.name, Cond.methodLink RX2 64 yX1_sweepVolume, Cond.instanceMethod yX1_sweepVolume, Cond.selects RX1 yX1_sweepVolume yX1_sweepVolume, Cond.code yX1_sweepVolume cX1_sweepVolume 5 (some .int), Cond.methodLink RX2 67 yX1_cloneVolume, Cond.instanceMethod yX1_cloneVolume, Cond.selects RX1 yX1_cloneVolume yX1_cloneVolume, Cond.code yX1_cloneVolume cX1_cloneVolume 5 (some .int), Cond.methodLink RX1 126 yX1_openVolume, Cond.instanceMethod yX1_openVolume, Cond.selects RX1 yX1_openVolume yX1_openVolume]
def wsX5_fault_r9 : List Cond := [Cond.code yX1_openVolume cX1_openVolume 3 (some .int), Cond.constant RX1 125 (-1000003), Cond.methodLink RX2 70 yX1_dropVolume, Cond.instanceMethod yX1_dropVolume, Cond.selects RX1 yX1_dropVolume yX1_dropVolume, Cond.code yX1_dropVolume cX1_dropVolume 4 (some .int), Cond.methodLink RX2 73 yX1_mergePieces, Cond.instanceMethod yX1_mergePieces, Cond.selects RX1 yX1_mergePieces yX1_mergePieces, Cond.code yX1_mergePieces cX1_mergePieces 4 (some .int), Cond.methodLink RX1 161 yX1_moveOwners, Cond.instanceMethod yX1_moveOwners, Cond.selects RX1 yX1_moveOwners yX1_moveOwners, Cond.code yX1_moveOwners cX1_moveOwners 4 none, Cond.methodLink RX2 42 yX2_reasonOf, Cond.instanceMethod yX2_reasonOf, Cond.selects RX2 yX2_reasonOf yX2_reasonOf, Cond.code yX2_reasonOf cX2_reasonOf 2 (some .int), Cond.constant RX2 77 (-1000001), Cond.static yX5_isError, Cond.initialized RX5, Cond.code yX5_isError cX5_isError 1 (some .boolean), Cond.constant RX5 212 (-1000002), Cond.constant RX5 216 (-1000003)]
def wsX5_fault : List Cond := .code yX5_fault cX5_fault 2 (some .int) :: ((wsX5_fault_r1 ++ (wsX5_fault_r2 ++ (wsX5_fault_r3 ++ (wsX5_fault_r4 ++ (wsX5_fault_r5 ++ (wsX5_fault_r6 ++ (wsX5_fault_r7 ++ (wsX5_fault_r8 ++ wsX5_fault_r9)))))))) ++ wsX50 ++ wsX20 ++ wsX30 ++ wsX10 ++ wsX40)
def wsX5_play_r1 : List Cond := [Cond.fieldLink RX5 33 "ThinVolumes" "rehearsal" "LThinVolumes$Rehearsal;", Cond.fieldLink RX5 26 "ThinVolumes" "text" "LThinVolumes$Text;", Cond.fieldLink RX5 12 "ThinVolumes" "pool" "LThinVolumes$Pool;", Cond.fieldLink RX5 221 "ThinVolumes$Rehearsal" "reason" "I", Cond.constant RX5 212 (-1000002), Cond.fieldLink RX5 146 "ThinVolumes$Rehearsal" "trial" "LThinVolumes$Pool;", Cond.fieldLink RX5 188 "ThinVolumes$Pool" "refusals" "I", Cond.fieldLink RX5 19 "ThinVolumes" "history" "LThinVolumes$History;", Cond.methodLink RX5 217 yX2_perform, Cond.instanceMethod yX2_perform, Cond.selects RX2 yX2_perform yX2_perform, Cond.initialized RX2, Cond.code yX2_perform cX2_perform 4 none, Cond.fieldLink RX2 12 "ThinVolumes$Rehearsal" "trial" "LThinVolumes$Pool;", Cond.fieldLink RX2 22 "ThinVolumes$Rehearsal" "position" "I", Cond.fieldLink RX2 26 "ThinVolumes$Rehearsal" "reason" "I", Cond.fieldLink RX2 29 "ThinVolumes$Text" "length" "I", Cond.fieldLink RX2 46 "ThinVolumes$Text" "next" "I", Cond.methodLink RX2 18 yX1_copyFrom, Cond.instanceMethod yX1_copyFrom, Cond.selects RX1 yX1_copyFrom yX1_copyFrom, Cond.initialized RX1, Cond.code yX1_copyFrom cX1_copyFrom 2 none, Cond.fieldLink RX1 9 "ThinVolumes$Pool" "sizes" "[I"]
def wsX5_play_r2 : List Cond := [Cond.methodLink RX1 49 arraycopyName, Cond.native arraycopyName, Cond.static arraycopyName, Cond.initialized "java/lang/System", Cond.fieldLink RX1 15 "ThinVolumes$Pool" "manners" "[I", Cond.fieldLink RX1 18 "ThinVolumes$Pool" "promises" "[I", Cond.fieldLink RX1 21 "ThinVolumes$Pool" "parents" "[I", Cond.fieldLink RX1 24 "ThinVolumes$Pool" "refusalsOf" "[I", Cond.fieldLink RX1 27 "ThinVolumes$Pool" "piecesGotBy" "[I", Cond.fieldLink RX1 30 "ThinVolumes$Pool" "spots" "[I", Cond.fieldLink RX1 33 "ThinVolumes$Pool" "values" "[I", Cond.fieldLink RX1 36 "ThinVolumes$Pool" "owners" "[I", Cond.fieldLink RX1 39 "ThinVolumes$Pool" "settings" "[I", Cond.fieldLink RX1 45 "ThinVolumes$Pool" "warnings" "LThinVolumes$Warnings;", Cond.fieldLink RX1 59 "ThinVolumes$Pool" "refusals" "I", Cond.fieldLink RX1 63 "ThinVolumes$Pool" "piecesGot" "I", Cond.fieldLink RX1 66 "ThinVolumes$Pool" "piecesFreed" "I", Cond.methodLink RX1 55 yX4_copyFrom, Cond.instanceMethod yX4_copyFrom, Cond.selects RX4 yX4_copyFrom yX4_copyFrom, Cond.initialized RX4, Cond.code yX4_copyFrom cX4_copyFrom 2 none, Cond.fieldLink RX4 9 "ThinVolumes$Warnings" "kinds" "[I", Cond.methodLink RX4 21 arraycopyName]
def wsX5_play_r3 : List Cond := [Cond.fieldLink RX4 15 "ThinVolumes$Warnings" "volumes" "[I", Cond.fieldLink RX4 18 "ThinVolumes$Warnings" "available" "[I", Cond.fieldLink RX4 27 "ThinVolumes$Warnings" "kept" "I", Cond.methodLink RX2 34 yX3_readOrder, Cond.instanceMethod yX3_readOrder, Cond.selects RX3 yX3_readOrder yX3_readOrder, Cond.initialized RX3, Cond.code yX3_readOrder cX3_readOrder 4 (some .boolean), Cond.fieldLink RX3 22 "ThinVolumes$Text" "next" "I", Cond.fieldLink RX3 29 "ThinVolumes$Text" "kind" "I", Cond.fieldLink RX3 15 "ThinVolumes$Text" "numbers" "[I", Cond.methodLink RX3 25 yX3_signHere, Cond.instanceMethod yX3_signHere, Cond.selects RX3 yX3_signHere yX3_signHere, Cond.code yX3_signHere cX3_signHere 1 (some .int), Cond.fieldLink RX3 18 "ThinVolumes$Text" "length" "I", Cond.fieldLink RX3 9 "ThinVolumes$Text" "signs" "[I", Cond.methodLink RX3 32 yX3_numbersDue, Cond.instanceMethod yX3_numbersDue, Cond.selects RX3 yX3_numbersDue yX3_numbersDue, Cond.code yX3_numbersDue cX3_numbersDue 2 (some .int), Cond.methodLink RX3 36 yX3_passes, Cond.instanceMethod yX3_passes, Cond.selects RX3 yX3_passes yX3_passes]
def wsX5_play_r4 : List Cond := [Cond.code yX3_passes cX3_passes 2 (some .boolean), Cond.methodLink RX3 40 yX3_readNumber, Cond.instanceMethod yX3_readNumber, Cond.selects RX3 yX3_readNumber yX3_readNumber, Cond.code yX3_readNumber cX3_readNumber 3 (some .int), Cond.methodLink RX3 43 yX3_readDigit, Cond.instanceMethod yX3_readDigit, Cond.selects RX3 yX3_readDigit yX3_readDigit, Cond.code yX3_readDigit cX3_readDigit 2 (some .int), Cond.methodLink RX2 38 yX2_obey, Cond.instanceMethod yX2_obey, Cond.selects RX2 yX2_obey yX2_obey, Cond.code yX2_obey cX2_obey 3 (some .int), Cond.fieldLink RX2 49 "ThinVolumes$Text" "numbers" "[I", Cond.fieldLink RX2 53 "ThinVolumes$Text" "kind" "I", Cond.methodLink RX2 56 yX1_writePlace, Cond.instanceMethod yX1_writePlace, Cond.selects RX1 yX1_writePlace yX1_writePlace, Cond.code yX1_writePlace cX1_writePlace 8 (some .int), Cond.constant RX1 124 (-1000001), Cond.constant RX1 149 (-1000005), Cond.methodLink RX1 73 yX1_hasPlace, Cond.instanceMethod yX1_hasPlace, Cond.selects RX1 yX1_hasPlace yX1_hasPlace]
def wsX5_play_r5 : List Cond := [Cond.code yX1_hasPlace cX1_hasPlace 3 (some .boolean), Cond.methodLink RX1 69 yX1_lives, Cond.instanceMethod yX1_lives, Cond.selects RX1 yX1_lives yX1_lives, Cond.code yX1_lives cX1_lives 2 (some .boolean), Cond.methodLink RX1 80 yX1_pieceAt, Cond.instanceMethod yX1_pieceAt, Cond.selects RX1 yX1_pieceAt yX1_pieceAt, Cond.code yX1_pieceAt cX1_pieceAt 3 (some .int), Cond.methodLink RX1 77 yX1_isPiece, Cond.instanceMethod yX1_isPiece, Cond.selects RX1 yX1_isPiece yX1_isPiece, Cond.code yX1_isPiece cX1_isPiece 2 (some .boolean), Cond.methodLink RX1 143 yX1_lowestFreePiece, Cond.instanceMethod yX1_lowestFreePiece, Cond.selects RX1 yX1_lowestFreePiece yX1_lowestFreePiece, Cond.code yX1_lowestFreePiece cX1_lowestFreePiece 2 (some .int), Cond.methodLink RX1 103 yX1_available, Cond.instanceMethod yX1_available, Cond.selects RX1 yX1_available yX1_available, Cond.code yX1_available cX1_available 1 (some .int), Cond.methodLink RX1 96 yX1_freePieces, Cond.instanceMethod yX1_freePieces, Cond.selects RX1 yX1_freePieces yX1_freePieces]
def wsX5_play_r6 : List Cond := [Cond.code yX1_freePieces cX1_freePieces 3 (some .int), Cond.methodLink RX1 100 yX1_allPromises, Cond.instanceMethod yX1_allPromises, Cond.selects RX1 yX1_allPromises yX1_allPromises, Cond.code yX1_allPromises cX1_allPromises 3 (some .int), Cond.methodLink RX1 113 yX1_wouldGetUnpromised, Cond.instanceMethod yX1_wouldGetUnpromised, Cond.selects RX1 yX1_wouldGetUnpromised yX1_wouldGetUnpromised, Cond.code yX1_wouldGetUnpromised cX1_wouldGetUnpromised 5 (some .boolean), Cond.methodLink RX1 106 yX1_levelWith, Cond.instanceMethod yX1_levelWith, Cond.selects RX1 yX1_levelWith yX1_levelWith, Cond.code yX1_levelWith cX1_levelWith 2 (some .int), Cond.methodLink RX1 109 yX1_rankWith, Cond.instanceMethod yX1_rankWith, Cond.selects RX1 yX1_rankWith yX1_rankWith, Cond.code yX1_rankWith cX1_rankWith 6 (some .int), Cond.methodLink RX1 146 yX1_refuse, Cond.instanceMethod yX1_refuse, Cond.selects RX1 yX1_refuse yX1_refuse, Cond.code yX1_refuse cX1_refuse 2 none, Cond.methodLink RX1 91 Lib.Math.max.name, Cond.static Lib.Math.max.name, Cond.initialized "java/lang/Math"]
def wsX5_play_r7 : List Cond := [Cond.code Lib.Math.max.name Lib.Math.max.code 2 (some .int), Cond.methodLink RX1 120 yX4_add, Cond.instanceMethod yX4_add, Cond.selects RX4 yX4_add yX4_add, Cond.code yX4_add cX4_add 4 none, Cond.methodLink RX4 31 Lib.Math.min.name, Cond.static Lib.Math.min.name, Cond.code Lib.Math.min.name Lib.Math.min.code 2 (some .int), Cond.methodLink RX1 133 yX1_level, Cond.instanceMethod yX1_level, Cond.selects RX1 yX1_level yX1_level, Cond.code yX1_level cX1_level 1 (some .int), Cond.methodLink RX1 129 yX1_loosen, Cond.instanceMethod yX1_loosen, Cond.selects RX1 yX1_loosen yX1_loosen, Cond.code yX1_loosen cX1_loosen 4 (some .int), Cond.methodLink RX1 150 yX1_bookPiece, Cond.instanceMethod yX1_bookPiece, Cond.selects RX1 yX1_bookPiece yX1_bookPiece, Cond.code yX1_bookPiece cX1_bookPiece 4 none, Cond.methodLink RX1 117 yX1_mannersBehindUnpromised, Cond.instanceMethod yX1_mannersBehindUnpromised, Cond.selects RX1 yX1_mannersBehindUnpromised yX1_mannersBehindUnpromised, Cond.code yX1_mannersBehindUnpromised cX1_mannersBehindUnpromised 3 (some .int)]
def wsX5_play_r8 : List Cond := [Cond.methodLink RX1 136 yX1_warnIfLevelRose, Cond.instanceMethod yX1_warnIfLevelRose, Cond.selects RX1 yX1_warnIfLevelRose yX1_warnIfLevelRose, Cond.code yX1_warnIfLevelRose cX1_warnIfLevelRose 3 none, Cond.methodLink RX2 60 yX1_trimPlace, Cond.instanceMethod yX1_trimPlace, Cond.selects RX1 yX1_trimPlace yX1_trimPlace, Cond.code yX1_trimPlace cX1_trimPlace 4 (some .int), Cond.constant RX1 132 (-1000002), Cond.methodLink RX1 154 yX1_thank, Cond.instanceMethod yX1_thank, Cond.selects RX1 yX1_thank yX1_thank, Cond.code yX1_thank cX1_thank 3 none, Cond.methodLink RX1 158 Lib.Math.min.name, Cond.methodLink RX2 64 yX1_sweepVolume, Cond.instanceMethod yX1_sweepVolume, Cond.selects RX1 yX1_sweepVolume yX1_sweepVolume, Cond.code yX1_sweepVolume cX1_sweepVolume 5 (some .int), Cond.methodLink RX2 67 yX1_cloneVolume, Cond.instanceMethod yX1_cloneVolume, Cond.selects RX1 yX1_cloneVolume yX1_cloneVolume, Cond.code yX1_cloneVolume cX1_cloneVolume 5 (some .int), Cond.methodLink RX1 126 yX1_openVolume, Cond.instanceMethod yX1_openVolume]
def wsX5_play_r9 : List Cond := [Cond.selects RX1 yX1_openVolume yX1_openVolume, Cond.code yX1_openVolume cX1_openVolume 3 (some .int), Cond.constant RX1 125 (-1000003), Cond.methodLink RX2 70 yX1_dropVolume, Cond.instanceMethod yX1_dropVolume, Cond.selects RX1 yX1_dropVolume yX1_dropVolume, Cond.code yX1_dropVolume cX1_dropVolume 4 (some .int), Cond.methodLink RX2 73 yX1_mergePieces, Cond.instanceMethod yX1_mergePieces, Cond.selects RX1 yX1_mergePieces yX1_mergePieces, Cond.code yX1_mergePieces cX1_mergePieces 4 (some .int), Cond.methodLink RX1 161 yX1_moveOwners, Cond.instanceMethod yX1_moveOwners, Cond.selects RX1 yX1_moveOwners yX1_moveOwners, Cond.code yX1_moveOwners cX1_moveOwners 4 none, Cond.methodLink RX2 42 yX2_reasonOf, Cond.instanceMethod yX2_reasonOf, Cond.selects RX2 yX2_reasonOf yX2_reasonOf, Cond.code yX2_reasonOf cX2_reasonOf 2 (some .int), Cond.constant RX2 77 (-1000001), Cond.static yX5_isError, Cond.initialized RX5, Cond.code yX5_isError cX5_isError 1 (some .boolean), Cond.constant RX5 79 (-1000001)]
def wsX5_play_r10 : List Cond := [Cond.constant RX5 216 (-1000003), Cond.constant RX5 86 (-1000004), Cond.methodLink RX5 37 yX0_prepare, Cond.instanceMethod yX0_prepare, Cond.selects RX0 yX0_prepare yX0_prepare, Cond.initialized RX0, Cond.code yX0_prepare cX0_prepare 2 none, Cond.fieldLink RX0 18 "ThinVolumes$History" "kept" "I", Cond.methodLink RX0 22 yX0_copyInto, Cond.instanceMethod yX0_copyInto, Cond.selects RX0 yX0_copyInto yX0_copyInto, Cond.code yX0_copyInto cX0_copyInto 3 none, Cond.fieldLink RX0 11 "ThinVolumes$History" "states" "[LThinVolumes$Pool;", Cond.methodLink RX0 29 yX1_copyFrom, Cond.methodLink RX5 149 yX1_copyFrom, Cond.methodLink RX5 45 yX5_settle, Cond.instanceMethod yX5_settle, Cond.selects RX5 yX5_settle yX5_settle, Cond.code yX5_settle cX5_settle 2 (some .int), Cond.methodLink RX5 227 yX5_isError, Cond.methodLink RX5 230 yX0_keepPrepared, Cond.instanceMethod yX0_keepPrepared, Cond.selects RX0 yX0_keepPrepared yX0_keepPrepared, Cond.code yX0_keepPrepared cX0_keepPrepared 1 none]
def wsX5_play_r11 : List Cond := [Cond.methodLink RX0 26 yX0_dropOldest, Cond.instanceMethod yX0_dropOldest, Cond.selects RX0 yX0_dropOldest yX0_dropOldest, Cond.code yX0_dropOldest cX0_dropOldest 2 none]
def wsX5_play : List Cond := .code yX5_play cX5_play 2 (some .int) :: ((wsX5_play_r1 ++ (wsX5_play_r2 ++ (wsX5_play_r3 ++ (wsX5_play_r4 ++ (wsX5_play_r5 ++ (wsX5_play_r6 ++ (wsX5_play_r7 ++ (wsX5_play_r8 ++ (wsX5_play_r9 ++ (wsX5_play_r10 ++ wsX5_play_r11)))))))))) ++ wsX50 ++ wsX20 ++ wsX10 ++ wsX30 ++ wsX40 ++ wsX00)
def wsX6_init : List Cond := .code yX6_init cX6_init 1 none :: ([.methodLink RX6 1 objectInit, .instanceMethod objectInit, .code objectInit ⟨#[0xb1]⟩ 1 none, .arrayClass .int, .fieldLink RX6 7 "ThinVolumesModel" "s" "[I", .fieldLink RX6 13 "ThinVolumesModel" "past" "[I", .fieldLink RX6 16 "ThinVolumesModel" "held" "[I", .fieldLink RX6 19 "ThinVolumesModel" "tried" "[I", .fieldLink RX6 22 "ThinVolumesModel" "text" "[I", .fieldLink RX6 25 "ThinVolumesModel" "told" "[I"] ++ wsX60)
def wsX6_in : List Cond := .code yX6_in cX6_in 3 (some .boolean) :: ([])
def wsX6_copies : List Cond := .code yX6_copies cX6_copies 3 none :: ([])
def wsX6_changes : List Cond := .code yX6_changes cX6_changes 2 none :: ([.fieldLink RX6 28 "ThinVolumesModel" "runs" "Z", .fieldLink RX6 32 "ThinVolumesModel" "pasts" "I", .fieldLink RX6 13 "ThinVolumesModel" "past" "[I", .fieldLink RX6 7 "ThinVolumesModel" "s" "[I"] ++ wsX60)
def wsX6_of : List Cond := .code yX6_of cX6_of 3 (some .int) :: ([.fieldLink RX6 7 "ThinVolumesModel" "s" "[I"] ++ wsX60)
def wsX6_puts : List Cond := .code yX6_puts cX6_puts 4 none :: ([.fieldLink RX6 7 "ThinVolumesModel" "s" "[I"] ++ wsX60)
def wsX6_isVolume : List Cond := .code yX6_isVolume cX6_isVolume 2 (some .boolean) :: ([.methodLink RX6 36 yX6_in, .static yX6_in, .initialized RX6, .code yX6_in cX6_in 3 (some .boolean), .methodLink RX6 40 yX6_of, .instanceMethod yX6_of, .selects RX6 yX6_of yX6_of, .code yX6_of cX6_of 3 (some .int), .fieldLink RX6 7 "ThinVolumesModel" "s" "[I"] ++ wsX60)
def wsX6_isPlace : List Cond := .code yX6_isPlace cX6_isPlace 3 (some .boolean) :: ([.methodLink RX6 44 yX6_isVolume, .instanceMethod yX6_isVolume, .selects RX6 yX6_isVolume yX6_isVolume, .initialized RX6, .code yX6_isVolume cX6_isVolume 2 (some .boolean), .methodLink RX6 36 yX6_in, .static yX6_in, .code yX6_in cX6_in 3 (some .boolean), .methodLink RX6 40 yX6_of, .instanceMethod yX6_of, .selects RX6 yX6_of yX6_of, .code yX6_of cX6_of 3 (some .int), .fieldLink RX6 7 "ThinVolumesModel" "s" "[I"] ++ wsX60)
def wsX6_piece : List Cond := .code yX6_piece cX6_piece 3 (some .int) :: ([.methodLink RX6 40 yX6_of, .instanceMethod yX6_of, .selects RX6 yX6_of yX6_of, .initialized RX6, .code yX6_of cX6_of 3 (some .int), .fieldLink RX6 7 "ThinVolumesModel" "s" "[I"] ++ wsX60)
def wsX6_ownersIn : List Cond := .code yX6_ownersIn cX6_ownersIn 5 (some .int) :: ([.methodLink RX6 40 yX6_of, .instanceMethod yX6_of, .selects RX6 yX6_of yX6_of, .initialized RX6, .code yX6_of cX6_of 3 (some .int), .fieldLink RX6 7 "ThinVolumesModel" "s" "[I", .methodLink RX6 48 yX6_piece, .instanceMethod yX6_piece, .selects RX6 yX6_piece yX6_piece, .code yX6_piece cX6_piece 3 (some .int)] ++ wsX60)
def wsX6_owners : List Cond := .code yX6_owners cX6_owners 4 (some .int) :: ([.methodLink RX6 51 yX6_ownersIn, .instanceMethod yX6_ownersIn, .selects RX6 yX6_ownersIn yX6_ownersIn, .initialized RX6, .code yX6_ownersIn cX6_ownersIn 5 (some .int), .methodLink RX6 40 yX6_of, .instanceMethod yX6_of, .selects RX6 yX6_of yX6_of, .code yX6_of cX6_of 3 (some .int), .fieldLink RX6 7 "ThinVolumesModel" "s" "[I", .methodLink RX6 48 yX6_piece, .instanceMethod yX6_piece, .selects RX6 yX6_piece yX6_piece, .code yX6_piece cX6_piece 3 (some .int)] ++ wsX60)
def wsX6_free : List Cond := .code yX6_free cX6_free 3 (some .int) :: ([.methodLink RX6 54 yX6_owners, .instanceMethod yX6_owners, .selects RX6 yX6_owners yX6_owners, .initialized RX6, .code yX6_owners cX6_owners 4 (some .int), .methodLink RX6 51 yX6_ownersIn, .instanceMethod yX6_ownersIn, .selects RX6 yX6_ownersIn yX6_ownersIn, .code yX6_ownersIn cX6_ownersIn 5 (some .int), .methodLink RX6 40 yX6_of, .instanceMethod yX6_of, .selects RX6 yX6_of yX6_of, .code yX6_of cX6_of 3 (some .int), .fieldLink RX6 7 "ThinVolumesModel" "s" "[I", .methodLink RX6 48 yX6_piece, .instanceMethod yX6_piece, .selects RX6 yX6_piece yX6_piece, .code yX6_piece cX6_piece 3 (some .int)] ++ wsX60)
def wsX6_promises : List Cond := .code yX6_promises cX6_promises 3 (some .int) :: ([.methodLink RX6 40 yX6_of, .instanceMethod yX6_of, .selects RX6 yX6_of yX6_of, .initialized RX6, .code yX6_of cX6_of 3 (some .int), .fieldLink RX6 7 "ThinVolumesModel" "s" "[I"] ++ wsX60)
def wsX6_levelBy : List Cond := .code yX6_levelBy cX6_levelBy 2 (some .int) :: ([.fieldLink RX6 7 "ThinVolumesModel" "s" "[I"] ++ wsX60)
def wsX6_available_r1 : List Cond := [Cond.methodLink RX6 58 yX6_free, Cond.instanceMethod yX6_free, Cond.selects RX6 yX6_free yX6_free, Cond.initialized RX6, Cond.code yX6_free cX6_free 3 (some .int), Cond.methodLink RX6 54 yX6_owners, Cond.instanceMethod yX6_owners, Cond.selects RX6 yX6_owners yX6_owners, Cond.code yX6_owners cX6_owners 4 (some .int), Cond.methodLink RX6 51 yX6_ownersIn, Cond.instanceMethod yX6_ownersIn, Cond.selects RX6 yX6_ownersIn yX6_ownersIn, Cond.code yX6_ownersIn cX6_ownersIn 5 (some .int), Cond.methodLink RX6 40 yX6_of, Cond.instanceMethod yX6_of, Cond.selects RX6 yX6_of yX6_of, Cond.code yX6_of cX6_of 3 (some .int), Cond.fieldLink RX6 7 "ThinVolumesModel" "s" "[I", Cond.methodLink RX6 48 yX6_piece, Cond.instanceMethod yX6_piece, Cond.selects RX6 yX6_piece yX6_piece, Cond.code yX6_piece cX6_piece 3 (some .int), Cond.methodLink RX6 62 yX6_promises, Cond.instanceMethod yX6_promises]
def wsX6_available_r2 : List Cond := [Cond.selects RX6 yX6_promises yX6_promises, Cond.code yX6_promises cX6_promises 3 (some .int)]
def wsX6_available : List Cond := .code yX6_available cX6_available 1 (some .int) :: ((wsX6_available_r1 ++ wsX6_available_r2) ++ wsX60)
def wsX6_best : List Cond := .code yX6_best cX6_best 3 (some .int) :: ([.constant RX6 65 (-1000004), .methodLink RX6 40 yX6_of, .instanceMethod yX6_of, .selects RX6 yX6_of yX6_of, .initialized RX6, .code yX6_of cX6_of 3 (some .int), .fieldLink RX6 7 "ThinVolumesModel" "s" "[I"] ++ wsX60)
def wsX6_behaves : List Cond := .code yX6_behaves cX6_behaves 4 none :: ([.methodLink RX6 40 yX6_of, .instanceMethod yX6_of, .selects RX6 yX6_of yX6_of, .initialized RX6, .code yX6_of cX6_of 3 (some .int), .fieldLink RX6 7 "ThinVolumesModel" "s" "[I", .methodLink RX6 66 yX6_puts, .instanceMethod yX6_puts, .selects RX6 yX6_puts yX6_puts, .code yX6_puts cX6_puts 4 none] ++ wsX60)
def wsX6_asks : List Cond := .code yX6_asks cX6_asks 5 (some .int) :: ([.fieldLink RX6 7 "ThinVolumesModel" "s" "[I", .methodLink RX6 40 yX6_of, .instanceMethod yX6_of, .selects RX6 yX6_of yX6_of, .initialized RX6, .code yX6_of cX6_of 3 (some .int), .methodLink RX6 66 yX6_puts, .instanceMethod yX6_puts, .selects RX6 yX6_puts yX6_puts, .code yX6_puts cX6_puts 4 none, .methodLink RX6 70 yX6_levelBy, .instanceMethod yX6_levelBy, .selects RX6 yX6_levelBy yX6_levelBy, .code yX6_levelBy cX6_levelBy 2 (some .int), .methodLink RX6 73 yX6_best, .instanceMethod yX6_best, .selects RX6 yX6_best yX6_best, .code yX6_best cX6_best 3 (some .int), .constant RX6 65 (-1000004), .methodLink RX6 76 yX6_behaves, .instanceMethod yX6_behaves, .selects RX6 yX6_behaves yX6_behaves, .code yX6_behaves cX6_behaves 4 none] ++ wsX60)
def wsX6_warns_r1 : List Cond := [Cond.fieldLink RX6 7 "ThinVolumesModel" "s" "[I", Cond.methodLink RX6 80 yX6_available, Cond.instanceMethod yX6_available, Cond.selects RX6 yX6_available yX6_available, Cond.initialized RX6, Cond.code yX6_available cX6_available 1 (some .int), Cond.methodLink RX6 58 yX6_free, Cond.instanceMethod yX6_free, Cond.selects RX6 yX6_free yX6_free, Cond.code yX6_free cX6_free 3 (some .int), Cond.methodLink RX6 54 yX6_owners, Cond.instanceMethod yX6_owners, Cond.selects RX6 yX6_owners yX6_owners, Cond.code yX6_owners cX6_owners 4 (some .int), Cond.methodLink RX6 51 yX6_ownersIn, Cond.instanceMethod yX6_ownersIn, Cond.selects RX6 yX6_ownersIn yX6_ownersIn, Cond.code yX6_ownersIn cX6_ownersIn 5 (some .int), Cond.methodLink RX6 40 yX6_of, Cond.instanceMethod yX6_of, Cond.selects RX6 yX6_of yX6_of, Cond.code yX6_of cX6_of 3 (some .int), Cond.methodLink RX6 48 yX6_piece, Cond.instanceMethod yX6_piece]
def wsX6_warns_r2 : List Cond := [Cond.selects RX6 yX6_piece yX6_piece, Cond.code yX6_piece cX6_piece 3 (some .int), Cond.methodLink RX6 62 yX6_promises, Cond.instanceMethod yX6_promises, Cond.selects RX6 yX6_promises yX6_promises, Cond.code yX6_promises cX6_promises 3 (some .int)]
def wsX6_warns : List Cond := .code yX6_warns cX6_warns 4 none :: ((wsX6_warns_r1 ++ wsX6_warns_r2) ++ wsX60)
def wsX6_ends_r1 : List Cond := [Cond.methodLink RX6 80 yX6_available, Cond.instanceMethod yX6_available, Cond.selects RX6 yX6_available yX6_available, Cond.initialized RX6, Cond.code yX6_available cX6_available 1 (some .int), Cond.methodLink RX6 58 yX6_free, Cond.instanceMethod yX6_free, Cond.selects RX6 yX6_free yX6_free, Cond.code yX6_free cX6_free 3 (some .int), Cond.methodLink RX6 54 yX6_owners, Cond.instanceMethod yX6_owners, Cond.selects RX6 yX6_owners yX6_owners, Cond.code yX6_owners cX6_owners 4 (some .int), Cond.methodLink RX6 51 yX6_ownersIn, Cond.instanceMethod yX6_ownersIn, Cond.selects RX6 yX6_ownersIn yX6_ownersIn, Cond.code yX6_ownersIn cX6_ownersIn 5 (some .int), Cond.methodLink RX6 40 yX6_of, Cond.instanceMethod yX6_of, Cond.selects RX6 yX6_of yX6_of, Cond.code yX6_of cX6_of 3 (some .int), Cond.fieldLink RX6 7 "ThinVolumesModel" "s" "[I", Cond.methodLink RX6 48 yX6_piece, Cond.instanceMethod yX6_piece]
def wsX6_ends_r2 : List Cond := [Cond.selects RX6 yX6_piece yX6_piece, Cond.code yX6_piece cX6_piece 3 (some .int), Cond.methodLink RX6 62 yX6_promises, Cond.instanceMethod yX6_promises, Cond.selects RX6 yX6_promises yX6_promises, Cond.code yX6_promises cX6_promises 3 (some .int), Cond.methodLink RX6 70 yX6_levelBy, Cond.instanceMethod yX6_levelBy, Cond.selects RX6 yX6_levelBy yX6_levelBy, Cond.code yX6_levelBy cX6_levelBy 2 (some .int), Cond.methodLink RX6 83 yX6_warns, Cond.instanceMethod yX6_warns, Cond.selects RX6 yX6_warns yX6_warns, Cond.code yX6_warns cX6_warns 4 none]
def wsX6_ends : List Cond := .code yX6_ends cX6_ends 2 none :: ((wsX6_ends_r1 ++ wsX6_ends_r2) ++ wsX60)
def wsX6_free8 : List Cond := .code yX6_free8 cX6_free8 2 (some .int) :: ([.methodLink RX6 40 yX6_of, .instanceMethod yX6_of, .selects RX6 yX6_of yX6_of, .initialized RX6, .code yX6_of cX6_of 3 (some .int), .fieldLink RX6 7 "ThinVolumesModel" "s" "[I"] ++ wsX60)
def wsX6_begins : List Cond := .code yX6_begins cX6_begins 4 none :: ([.methodLink RX6 66 yX6_puts, .instanceMethod yX6_puts, .selects RX6 yX6_puts yX6_puts, .initialized RX6, .code yX6_puts cX6_puts 4 none, .fieldLink RX6 7 "ThinVolumesModel" "s" "[I"] ++ wsX60)
def wsX6_volume_r1 : List Cond := [Cond.constant RX6 86 (-1000001), Cond.constant RX6 90 (-1000003), Cond.methodLink RX6 36 yX6_in, Cond.static yX6_in, Cond.initialized RX6, Cond.code yX6_in cX6_in 3 (some .boolean), Cond.methodLink RX6 87 yX6_free8, Cond.instanceMethod yX6_free8, Cond.selects RX6 yX6_free8 yX6_free8, Cond.code yX6_free8 cX6_free8 2 (some .int), Cond.methodLink RX6 40 yX6_of, Cond.instanceMethod yX6_of, Cond.selects RX6 yX6_of yX6_of, Cond.code yX6_of cX6_of 3 (some .int), Cond.fieldLink RX6 7 "ThinVolumesModel" "s" "[I", Cond.methodLink RX6 91 yX6_changes, Cond.instanceMethod yX6_changes, Cond.selects RX6 yX6_changes yX6_changes, Cond.code yX6_changes cX6_changes 2 none, Cond.fieldLink RX6 28 "ThinVolumesModel" "runs" "Z", Cond.fieldLink RX6 32 "ThinVolumesModel" "pasts" "I", Cond.fieldLink RX6 13 "ThinVolumesModel" "past" "[I", Cond.methodLink RX6 94 yX6_begins, Cond.instanceMethod yX6_begins]
def wsX6_volume_r2 : List Cond := [Cond.selects RX6 yX6_begins yX6_begins, Cond.code yX6_begins cX6_begins 4 none, Cond.methodLink RX6 66 yX6_puts, Cond.instanceMethod yX6_puts, Cond.selects RX6 yX6_puts yX6_puts, Cond.code yX6_puts cX6_puts 4 none]
def wsX6_volume : List Cond := .code yX6_volume cX6_volume 3 (some .int) :: ((wsX6_volume_r1 ++ wsX6_volume_r2) ++ wsX60)
def wsX6_share_r1 : List Cond := [Cond.constant RX6 86 (-1000001), Cond.constant RX6 90 (-1000003), Cond.methodLink RX6 44 yX6_isVolume, Cond.instanceMethod yX6_isVolume, Cond.selects RX6 yX6_isVolume yX6_isVolume, Cond.initialized RX6, Cond.code yX6_isVolume cX6_isVolume 2 (some .boolean), Cond.methodLink RX6 36 yX6_in, Cond.static yX6_in, Cond.code yX6_in cX6_in 3 (some .boolean), Cond.methodLink RX6 40 yX6_of, Cond.instanceMethod yX6_of, Cond.selects RX6 yX6_of yX6_of, Cond.code yX6_of cX6_of 3 (some .int), Cond.fieldLink RX6 7 "ThinVolumesModel" "s" "[I", Cond.methodLink RX6 87 yX6_free8, Cond.instanceMethod yX6_free8, Cond.selects RX6 yX6_free8 yX6_free8, Cond.code yX6_free8 cX6_free8 2 (some .int), Cond.methodLink RX6 91 yX6_changes, Cond.instanceMethod yX6_changes, Cond.selects RX6 yX6_changes yX6_changes, Cond.code yX6_changes cX6_changes 2 none, Cond.fieldLink RX6 28 "ThinVolumesModel" "runs" "Z"]
def wsX6_share_r2 : List Cond := [Cond.fieldLink RX6 32 "ThinVolumesModel" "pasts" "I", Cond.fieldLink RX6 13 "ThinVolumesModel" "past" "[I", Cond.methodLink RX6 94 yX6_begins, Cond.instanceMethod yX6_begins, Cond.selects RX6 yX6_begins yX6_begins, Cond.code yX6_begins cX6_begins 4 none, Cond.methodLink RX6 66 yX6_puts, Cond.instanceMethod yX6_puts, Cond.selects RX6 yX6_puts yX6_puts, Cond.code yX6_puts cX6_puts 4 none, Cond.methodLink RX6 48 yX6_piece, Cond.instanceMethod yX6_piece, Cond.selects RX6 yX6_piece yX6_piece, Cond.code yX6_piece cX6_piece 3 (some .int)]
def wsX6_share : List Cond := .code yX6_share cX6_share 4 (some .int) :: ((wsX6_share_r1 ++ wsX6_share_r2) ++ wsX60)
def wsX6_trims : List Cond := .code yX6_trims cX6_trims 5 (some .int) :: ([.fieldLink RX6 7 "ThinVolumesModel" "s" "[I", .methodLink RX6 48 yX6_piece, .instanceMethod yX6_piece, .selects RX6 yX6_piece yX6_piece, .initialized RX6, .code yX6_piece cX6_piece 3 (some .int), .methodLink RX6 40 yX6_of, .instanceMethod yX6_of, .selects RX6 yX6_of yX6_of, .code yX6_of cX6_of 3 (some .int), .methodLink RX6 66 yX6_puts, .instanceMethod yX6_puts, .selects RX6 yX6_puts yX6_puts, .code yX6_puts cX6_puts 4 none, .methodLink RX6 54 yX6_owners, .instanceMethod yX6_owners, .selects RX6 yX6_owners yX6_owners, .code yX6_owners cX6_owners 4 (some .int), .methodLink RX6 51 yX6_ownersIn, .instanceMethod yX6_ownersIn, .selects RX6 yX6_ownersIn yX6_ownersIn, .code yX6_ownersIn cX6_ownersIn 5 (some .int)] ++ wsX60)
def wsX6_drop_r1 : List Cond := [Cond.constant RX6 86 (-1000001), Cond.methodLink RX6 44 yX6_isVolume, Cond.instanceMethod yX6_isVolume, Cond.selects RX6 yX6_isVolume yX6_isVolume, Cond.initialized RX6, Cond.code yX6_isVolume cX6_isVolume 2 (some .boolean), Cond.methodLink RX6 36 yX6_in, Cond.static yX6_in, Cond.code yX6_in cX6_in 3 (some .boolean), Cond.methodLink RX6 40 yX6_of, Cond.instanceMethod yX6_of, Cond.selects RX6 yX6_of yX6_of, Cond.code yX6_of cX6_of 3 (some .int), Cond.fieldLink RX6 7 "ThinVolumesModel" "s" "[I", Cond.methodLink RX6 91 yX6_changes, Cond.instanceMethod yX6_changes, Cond.selects RX6 yX6_changes yX6_changes, Cond.code yX6_changes cX6_changes 2 none, Cond.fieldLink RX6 28 "ThinVolumesModel" "runs" "Z", Cond.fieldLink RX6 32 "ThinVolumesModel" "pasts" "I", Cond.fieldLink RX6 13 "ThinVolumesModel" "past" "[I", Cond.methodLink RX6 48 yX6_piece, Cond.instanceMethod yX6_piece, Cond.selects RX6 yX6_piece yX6_piece]
def wsX6_drop_r2 : List Cond := [Cond.code yX6_piece cX6_piece 3 (some .int), Cond.methodLink RX6 97 yX6_trims, Cond.instanceMethod yX6_trims, Cond.selects RX6 yX6_trims yX6_trims, Cond.code yX6_trims cX6_trims 5 (some .int), Cond.methodLink RX6 66 yX6_puts, Cond.instanceMethod yX6_puts, Cond.selects RX6 yX6_puts yX6_puts, Cond.code yX6_puts cX6_puts 4 none, Cond.methodLink RX6 54 yX6_owners, Cond.instanceMethod yX6_owners, Cond.selects RX6 yX6_owners yX6_owners, Cond.code yX6_owners cX6_owners 4 (some .int), Cond.methodLink RX6 51 yX6_ownersIn, Cond.instanceMethod yX6_ownersIn, Cond.selects RX6 yX6_ownersIn yX6_ownersIn, Cond.code yX6_ownersIn cX6_ownersIn 5 (some .int)]
def wsX6_drop : List Cond := .code yX6_drop cX6_drop 4 (some .int) :: ((wsX6_drop_r1 ++ wsX6_drop_r2) ++ wsX60)
def wsX6_promise_r1 : List Cond := [Cond.constant RX6 86 (-1000001), Cond.constant RX6 100 (-1000002), Cond.methodLink RX6 44 yX6_isVolume, Cond.instanceMethod yX6_isVolume, Cond.selects RX6 yX6_isVolume yX6_isVolume, Cond.initialized RX6, Cond.code yX6_isVolume cX6_isVolume 2 (some .boolean), Cond.methodLink RX6 36 yX6_in, Cond.static yX6_in, Cond.code yX6_in cX6_in 3 (some .boolean), Cond.methodLink RX6 40 yX6_of, Cond.instanceMethod yX6_of, Cond.selects RX6 yX6_of yX6_of, Cond.code yX6_of cX6_of 3 (some .int), Cond.fieldLink RX6 7 "ThinVolumesModel" "s" "[I", Cond.methodLink RX6 62 yX6_promises, Cond.instanceMethod yX6_promises, Cond.selects RX6 yX6_promises yX6_promises, Cond.code yX6_promises cX6_promises 3 (some .int), Cond.methodLink RX6 58 yX6_free, Cond.instanceMethod yX6_free, Cond.selects RX6 yX6_free yX6_free, Cond.code yX6_free cX6_free 3 (some .int), Cond.methodLink RX6 54 yX6_owners]
def wsX6_promise_r2 : List Cond := [Cond.instanceMethod yX6_owners, Cond.selects RX6 yX6_owners yX6_owners, Cond.code yX6_owners cX6_owners 4 (some .int), Cond.methodLink RX6 51 yX6_ownersIn, Cond.instanceMethod yX6_ownersIn, Cond.selects RX6 yX6_ownersIn yX6_ownersIn, Cond.code yX6_ownersIn cX6_ownersIn 5 (some .int), Cond.methodLink RX6 48 yX6_piece, Cond.instanceMethod yX6_piece, Cond.selects RX6 yX6_piece yX6_piece, Cond.code yX6_piece cX6_piece 3 (some .int), Cond.methodLink RX6 91 yX6_changes, Cond.instanceMethod yX6_changes, Cond.selects RX6 yX6_changes yX6_changes, Cond.code yX6_changes cX6_changes 2 none, Cond.fieldLink RX6 28 "ThinVolumesModel" "runs" "Z", Cond.fieldLink RX6 32 "ThinVolumesModel" "pasts" "I", Cond.fieldLink RX6 13 "ThinVolumesModel" "past" "[I", Cond.methodLink RX6 80 yX6_available, Cond.instanceMethod yX6_available, Cond.selects RX6 yX6_available yX6_available, Cond.code yX6_available cX6_available 1 (some .int), Cond.methodLink RX6 70 yX6_levelBy, Cond.instanceMethod yX6_levelBy]
def wsX6_promise_r3 : List Cond := [Cond.selects RX6 yX6_levelBy yX6_levelBy, Cond.code yX6_levelBy cX6_levelBy 2 (some .int), Cond.methodLink RX6 66 yX6_puts, Cond.instanceMethod yX6_puts, Cond.selects RX6 yX6_puts yX6_puts, Cond.code yX6_puts cX6_puts 4 none, Cond.methodLink RX6 101 yX6_ends, Cond.instanceMethod yX6_ends, Cond.selects RX6 yX6_ends yX6_ends, Cond.code yX6_ends cX6_ends 2 none, Cond.methodLink RX6 83 yX6_warns, Cond.instanceMethod yX6_warns, Cond.selects RX6 yX6_warns yX6_warns, Cond.code yX6_warns cX6_warns 4 none]
def wsX6_promise : List Cond := .code yX6_promise cX6_promise 5 (some .int) :: ((wsX6_promise_r1 ++ (wsX6_promise_r2 ++ wsX6_promise_r3)) ++ wsX60)
def wsX6_set_r1 : List Cond := [Cond.constant RX6 86 (-1000001), Cond.fieldLink RX6 7 "ThinVolumesModel" "s" "[I", Cond.methodLink RX6 36 yX6_in, Cond.static yX6_in, Cond.initialized RX6, Cond.code yX6_in cX6_in 3 (some .boolean), Cond.methodLink RX6 91 yX6_changes, Cond.instanceMethod yX6_changes, Cond.selects RX6 yX6_changes yX6_changes, Cond.code yX6_changes cX6_changes 2 none, Cond.fieldLink RX6 28 "ThinVolumesModel" "runs" "Z", Cond.fieldLink RX6 32 "ThinVolumesModel" "pasts" "I", Cond.fieldLink RX6 13 "ThinVolumesModel" "past" "[I", Cond.methodLink RX6 80 yX6_available, Cond.instanceMethod yX6_available, Cond.selects RX6 yX6_available yX6_available, Cond.code yX6_available cX6_available 1 (some .int), Cond.methodLink RX6 58 yX6_free, Cond.instanceMethod yX6_free, Cond.selects RX6 yX6_free yX6_free, Cond.code yX6_free cX6_free 3 (some .int), Cond.methodLink RX6 54 yX6_owners, Cond.instanceMethod yX6_owners, Cond.selects RX6 yX6_owners yX6_owners]
def wsX6_set_r2 : List Cond := [Cond.code yX6_owners cX6_owners 4 (some .int), Cond.methodLink RX6 51 yX6_ownersIn, Cond.instanceMethod yX6_ownersIn, Cond.selects RX6 yX6_ownersIn yX6_ownersIn, Cond.code yX6_ownersIn cX6_ownersIn 5 (some .int), Cond.methodLink RX6 40 yX6_of, Cond.instanceMethod yX6_of, Cond.selects RX6 yX6_of yX6_of, Cond.code yX6_of cX6_of 3 (some .int), Cond.methodLink RX6 48 yX6_piece, Cond.instanceMethod yX6_piece, Cond.selects RX6 yX6_piece yX6_piece, Cond.code yX6_piece cX6_piece 3 (some .int), Cond.methodLink RX6 62 yX6_promises, Cond.instanceMethod yX6_promises, Cond.selects RX6 yX6_promises yX6_promises, Cond.code yX6_promises cX6_promises 3 (some .int), Cond.methodLink RX6 70 yX6_levelBy, Cond.instanceMethod yX6_levelBy, Cond.selects RX6 yX6_levelBy yX6_levelBy, Cond.code yX6_levelBy cX6_levelBy 2 (some .int), Cond.methodLink RX6 101 yX6_ends, Cond.instanceMethod yX6_ends, Cond.selects RX6 yX6_ends yX6_ends]
def wsX6_set_r3 : List Cond := [Cond.code yX6_ends cX6_ends 2 none, Cond.methodLink RX6 83 yX6_warns, Cond.instanceMethod yX6_warns, Cond.selects RX6 yX6_warns yX6_warns, Cond.code yX6_warns cX6_warns 4 none]
def wsX6_set : List Cond := .code yX6_set cX6_set 5 (some .int) :: ((wsX6_set_r1 ++ (wsX6_set_r2 ++ wsX6_set_r3)) ++ wsX60)
def wsX6_lowestFree : List Cond := .code yX6_lowestFree cX6_lowestFree 2 (some .int) :: ([.methodLink RX6 54 yX6_owners, .instanceMethod yX6_owners, .selects RX6 yX6_owners yX6_owners, .initialized RX6, .code yX6_owners cX6_owners 4 (some .int), .methodLink RX6 51 yX6_ownersIn, .instanceMethod yX6_ownersIn, .selects RX6 yX6_ownersIn yX6_ownersIn, .code yX6_ownersIn cX6_ownersIn 5 (some .int), .methodLink RX6 40 yX6_of, .instanceMethod yX6_of, .selects RX6 yX6_of yX6_of, .code yX6_of cX6_of 3 (some .int), .fieldLink RX6 7 "ThinVolumesModel" "s" "[I", .methodLink RX6 48 yX6_piece, .instanceMethod yX6_piece, .selects RX6 yX6_piece yX6_piece, .code yX6_piece cX6_piece 3 (some .int)] ++ wsX60)
def wsX6_write_r1 : List Cond := [Cond.constant RX6 86 (-1000001), Cond.fieldLink RX6 7 "ThinVolumesModel" "s" "[I", Cond.constant RX6 112 (-1000005), Cond.methodLink RX6 105 yX6_isPlace, Cond.instanceMethod yX6_isPlace, Cond.selects RX6 yX6_isPlace yX6_isPlace, Cond.initialized RX6, Cond.code yX6_isPlace cX6_isPlace 3 (some .boolean), Cond.methodLink RX6 44 yX6_isVolume, Cond.instanceMethod yX6_isVolume, Cond.selects RX6 yX6_isVolume yX6_isVolume, Cond.code yX6_isVolume cX6_isVolume 2 (some .boolean), Cond.methodLink RX6 36 yX6_in, Cond.static yX6_in, Cond.code yX6_in cX6_in 3 (some .boolean), Cond.methodLink RX6 40 yX6_of, Cond.instanceMethod yX6_of, Cond.selects RX6 yX6_of yX6_of, Cond.code yX6_of cX6_of 3 (some .int), Cond.methodLink RX6 91 yX6_changes, Cond.instanceMethod yX6_changes, Cond.selects RX6 yX6_changes yX6_changes, Cond.code yX6_changes cX6_changes 2 none, Cond.fieldLink RX6 28 "ThinVolumesModel" "runs" "Z"]
def wsX6_write_r2 : List Cond := [Cond.fieldLink RX6 32 "ThinVolumesModel" "pasts" "I", Cond.fieldLink RX6 13 "ThinVolumesModel" "past" "[I", Cond.methodLink RX6 48 yX6_piece, Cond.instanceMethod yX6_piece, Cond.selects RX6 yX6_piece yX6_piece, Cond.code yX6_piece cX6_piece 3 (some .int), Cond.methodLink RX6 54 yX6_owners, Cond.instanceMethod yX6_owners, Cond.selects RX6 yX6_owners yX6_owners, Cond.code yX6_owners cX6_owners 4 (some .int), Cond.methodLink RX6 51 yX6_ownersIn, Cond.instanceMethod yX6_ownersIn, Cond.selects RX6 yX6_ownersIn yX6_ownersIn, Cond.code yX6_ownersIn cX6_ownersIn 5 (some .int), Cond.methodLink RX6 80 yX6_available, Cond.instanceMethod yX6_available, Cond.selects RX6 yX6_available yX6_available, Cond.code yX6_available cX6_available 1 (some .int), Cond.methodLink RX6 58 yX6_free, Cond.instanceMethod yX6_free, Cond.selects RX6 yX6_free yX6_free, Cond.code yX6_free cX6_free 3 (some .int), Cond.methodLink RX6 62 yX6_promises, Cond.instanceMethod yX6_promises]
def wsX6_write_r3 : List Cond := [Cond.selects RX6 yX6_promises yX6_promises, Cond.code yX6_promises cX6_promises 3 (some .int), Cond.methodLink RX6 70 yX6_levelBy, Cond.instanceMethod yX6_levelBy, Cond.selects RX6 yX6_levelBy yX6_levelBy, Cond.code yX6_levelBy cX6_levelBy 2 (some .int), Cond.methodLink RX6 109 yX6_asks, Cond.instanceMethod yX6_asks, Cond.selects RX6 yX6_asks yX6_asks, Cond.code yX6_asks cX6_asks 5 (some .int), Cond.methodLink RX6 66 yX6_puts, Cond.instanceMethod yX6_puts, Cond.selects RX6 yX6_puts yX6_puts, Cond.code yX6_puts cX6_puts 4 none, Cond.methodLink RX6 73 yX6_best, Cond.instanceMethod yX6_best, Cond.selects RX6 yX6_best yX6_best, Cond.code yX6_best cX6_best 3 (some .int), Cond.constant RX6 65 (-1000004), Cond.methodLink RX6 76 yX6_behaves, Cond.instanceMethod yX6_behaves, Cond.selects RX6 yX6_behaves yX6_behaves, Cond.code yX6_behaves cX6_behaves 4 none, Cond.methodLink RX6 83 yX6_warns]
def wsX6_write_r4 : List Cond := [Cond.instanceMethod yX6_warns, Cond.selects RX6 yX6_warns yX6_warns, Cond.code yX6_warns cX6_warns 4 none, Cond.methodLink RX6 113 yX6_lowestFree, Cond.instanceMethod yX6_lowestFree, Cond.selects RX6 yX6_lowestFree yX6_lowestFree, Cond.code yX6_lowestFree cX6_lowestFree 2 (some .int), Cond.methodLink RX6 101 yX6_ends, Cond.instanceMethod yX6_ends, Cond.selects RX6 yX6_ends yX6_ends, Cond.code yX6_ends cX6_ends 2 none]
def wsX6_write : List Cond := .code yX6_write cX6_write 9 (some .int) :: ((wsX6_write_r1 ++ (wsX6_write_r2 ++ (wsX6_write_r3 ++ wsX6_write_r4))) ++ wsX60)
def wsX6_trim_r1 : List Cond := [Cond.constant RX6 86 (-1000001), Cond.constant RX6 100 (-1000002), Cond.methodLink RX6 105 yX6_isPlace, Cond.instanceMethod yX6_isPlace, Cond.selects RX6 yX6_isPlace yX6_isPlace, Cond.initialized RX6, Cond.code yX6_isPlace cX6_isPlace 3 (some .boolean), Cond.methodLink RX6 44 yX6_isVolume, Cond.instanceMethod yX6_isVolume, Cond.selects RX6 yX6_isVolume yX6_isVolume, Cond.code yX6_isVolume cX6_isVolume 2 (some .boolean), Cond.methodLink RX6 36 yX6_in, Cond.static yX6_in, Cond.code yX6_in cX6_in 3 (some .boolean), Cond.methodLink RX6 40 yX6_of, Cond.instanceMethod yX6_of, Cond.selects RX6 yX6_of yX6_of, Cond.code yX6_of cX6_of 3 (some .int), Cond.fieldLink RX6 7 "ThinVolumesModel" "s" "[I", Cond.methodLink RX6 48 yX6_piece, Cond.instanceMethod yX6_piece, Cond.selects RX6 yX6_piece yX6_piece, Cond.code yX6_piece cX6_piece 3 (some .int), Cond.methodLink RX6 91 yX6_changes]
def wsX6_trim_r2 : List Cond := [Cond.instanceMethod yX6_changes, Cond.selects RX6 yX6_changes yX6_changes, Cond.code yX6_changes cX6_changes 2 none, Cond.fieldLink RX6 28 "ThinVolumesModel" "runs" "Z", Cond.fieldLink RX6 32 "ThinVolumesModel" "pasts" "I", Cond.fieldLink RX6 13 "ThinVolumesModel" "past" "[I", Cond.methodLink RX6 97 yX6_trims, Cond.instanceMethod yX6_trims, Cond.selects RX6 yX6_trims yX6_trims, Cond.code yX6_trims cX6_trims 5 (some .int), Cond.methodLink RX6 66 yX6_puts, Cond.instanceMethod yX6_puts, Cond.selects RX6 yX6_puts yX6_puts, Cond.code yX6_puts cX6_puts 4 none, Cond.methodLink RX6 54 yX6_owners, Cond.instanceMethod yX6_owners, Cond.selects RX6 yX6_owners yX6_owners, Cond.code yX6_owners cX6_owners 4 (some .int), Cond.methodLink RX6 51 yX6_ownersIn, Cond.instanceMethod yX6_ownersIn, Cond.selects RX6 yX6_ownersIn yX6_ownersIn, Cond.code yX6_ownersIn cX6_ownersIn 5 (some .int), Cond.methodLink RX6 76 yX6_behaves, Cond.instanceMethod yX6_behaves]
def wsX6_trim_r3 : List Cond := [Cond.selects RX6 yX6_behaves yX6_behaves, Cond.code yX6_behaves cX6_behaves 4 none]
def wsX6_trim : List Cond := .code yX6_trim cX6_trim 4 (some .int) :: ((wsX6_trim_r1 ++ (wsX6_trim_r2 ++ wsX6_trim_r3)) ++ wsX60)
def wsX6_sweeps_r1 : List Cond := [Cond.fieldLink RX6 7 "ThinVolumesModel" "s" "[I", Cond.methodLink RX6 40 yX6_of, Cond.instanceMethod yX6_of, Cond.selects RX6 yX6_of yX6_of, Cond.initialized RX6, Cond.code yX6_of cX6_of 3 (some .int), Cond.methodLink RX6 48 yX6_piece, Cond.instanceMethod yX6_piece, Cond.selects RX6 yX6_piece yX6_piece, Cond.code yX6_piece cX6_piece 3 (some .int), Cond.methodLink RX6 97 yX6_trims, Cond.instanceMethod yX6_trims, Cond.selects RX6 yX6_trims yX6_trims, Cond.code yX6_trims cX6_trims 5 (some .int), Cond.methodLink RX6 66 yX6_puts, Cond.instanceMethod yX6_puts, Cond.selects RX6 yX6_puts yX6_puts, Cond.code yX6_puts cX6_puts 4 none, Cond.methodLink RX6 54 yX6_owners, Cond.instanceMethod yX6_owners, Cond.selects RX6 yX6_owners yX6_owners, Cond.code yX6_owners cX6_owners 4 (some .int), Cond.methodLink RX6 51 yX6_ownersIn, Cond.instanceMethod yX6_ownersIn]
def wsX6_sweeps_r2 : List Cond := [Cond.selects RX6 yX6_ownersIn yX6_ownersIn, Cond.code yX6_ownersIn cX6_ownersIn 5 (some .int), Cond.methodLink RX6 76 yX6_behaves, Cond.instanceMethod yX6_behaves, Cond.selects RX6 yX6_behaves yX6_behaves, Cond.code yX6_behaves cX6_behaves 4 none]
def wsX6_sweeps : List Cond := .code yX6_sweeps cX6_sweeps 6 (some .int) :: ((wsX6_sweeps_r1 ++ wsX6_sweeps_r2) ++ wsX60)
def wsX6_sweep_r1 : List Cond := [Cond.constant RX6 86 (-1000001), Cond.methodLink RX6 44 yX6_isVolume, Cond.instanceMethod yX6_isVolume, Cond.selects RX6 yX6_isVolume yX6_isVolume, Cond.initialized RX6, Cond.code yX6_isVolume cX6_isVolume 2 (some .boolean), Cond.methodLink RX6 36 yX6_in, Cond.static yX6_in, Cond.code yX6_in cX6_in 3 (some .boolean), Cond.methodLink RX6 40 yX6_of, Cond.instanceMethod yX6_of, Cond.selects RX6 yX6_of yX6_of, Cond.code yX6_of cX6_of 3 (some .int), Cond.fieldLink RX6 7 "ThinVolumesModel" "s" "[I", Cond.methodLink RX6 91 yX6_changes, Cond.instanceMethod yX6_changes, Cond.selects RX6 yX6_changes yX6_changes, Cond.code yX6_changes cX6_changes 2 none, Cond.fieldLink RX6 28 "ThinVolumesModel" "runs" "Z", Cond.fieldLink RX6 32 "ThinVolumesModel" "pasts" "I", Cond.fieldLink RX6 13 "ThinVolumesModel" "past" "[I", Cond.methodLink RX6 116 yX6_sweeps, Cond.instanceMethod yX6_sweeps, Cond.selects RX6 yX6_sweeps yX6_sweeps]
def wsX6_sweep_r2 : List Cond := [Cond.code yX6_sweeps cX6_sweeps 6 (some .int), Cond.methodLink RX6 48 yX6_piece, Cond.instanceMethod yX6_piece, Cond.selects RX6 yX6_piece yX6_piece, Cond.code yX6_piece cX6_piece 3 (some .int), Cond.methodLink RX6 97 yX6_trims, Cond.instanceMethod yX6_trims, Cond.selects RX6 yX6_trims yX6_trims, Cond.code yX6_trims cX6_trims 5 (some .int), Cond.methodLink RX6 66 yX6_puts, Cond.instanceMethod yX6_puts, Cond.selects RX6 yX6_puts yX6_puts, Cond.code yX6_puts cX6_puts 4 none, Cond.methodLink RX6 54 yX6_owners, Cond.instanceMethod yX6_owners, Cond.selects RX6 yX6_owners yX6_owners, Cond.code yX6_owners cX6_owners 4 (some .int), Cond.methodLink RX6 51 yX6_ownersIn, Cond.instanceMethod yX6_ownersIn, Cond.selects RX6 yX6_ownersIn yX6_ownersIn, Cond.code yX6_ownersIn cX6_ownersIn 5 (some .int), Cond.methodLink RX6 76 yX6_behaves, Cond.instanceMethod yX6_behaves, Cond.selects RX6 yX6_behaves yX6_behaves]
def wsX6_sweep_r3 : List Cond := [Cond.code yX6_behaves cX6_behaves 4 none]
def wsX6_sweep : List Cond := .code yX6_sweep cX6_sweep 2 (some .int) :: ((wsX6_sweep_r1 ++ (wsX6_sweep_r2 ++ wsX6_sweep_r3)) ++ wsX60)
def wsX6_moves : List Cond := .code yX6_moves cX6_moves 5 none :: ([.methodLink RX6 40 yX6_of, .instanceMethod yX6_of, .selects RX6 yX6_of yX6_of, .initialized RX6, .code yX6_of cX6_of 3 (some .int), .fieldLink RX6 7 "ThinVolumesModel" "s" "[I", .methodLink RX6 48 yX6_piece, .instanceMethod yX6_piece, .selects RX6 yX6_piece yX6_piece, .code yX6_piece cX6_piece 3 (some .int), .methodLink RX6 66 yX6_puts, .instanceMethod yX6_puts, .selects RX6 yX6_puts yX6_puts, .code yX6_puts cX6_puts 4 none] ++ wsX60)
def wsX6_merges_r1 : List Cond := [Cond.fieldLink RX6 7 "ThinVolumesModel" "s" "[I", Cond.methodLink RX6 54 yX6_owners, Cond.instanceMethod yX6_owners, Cond.selects RX6 yX6_owners yX6_owners, Cond.initialized RX6, Cond.code yX6_owners cX6_owners 4 (some .int), Cond.methodLink RX6 51 yX6_ownersIn, Cond.instanceMethod yX6_ownersIn, Cond.selects RX6 yX6_ownersIn yX6_ownersIn, Cond.code yX6_ownersIn cX6_ownersIn 5 (some .int), Cond.methodLink RX6 40 yX6_of, Cond.instanceMethod yX6_of, Cond.selects RX6 yX6_of yX6_of, Cond.code yX6_of cX6_of 3 (some .int), Cond.methodLink RX6 48 yX6_piece, Cond.instanceMethod yX6_piece, Cond.selects RX6 yX6_piece yX6_piece, Cond.code yX6_piece cX6_piece 3 (some .int), Cond.methodLink RX6 119 yX6_moves, Cond.instanceMethod yX6_moves, Cond.selects RX6 yX6_moves yX6_moves, Cond.code yX6_moves cX6_moves 5 none, Cond.methodLink RX6 66 yX6_puts, Cond.instanceMethod yX6_puts]
def wsX6_merges_r2 : List Cond := [Cond.selects RX6 yX6_puts yX6_puts, Cond.code yX6_puts cX6_puts 4 none]
def wsX6_merges : List Cond := .code yX6_merges cX6_merges 5 (some .int) :: ((wsX6_merges_r1 ++ wsX6_merges_r2) ++ wsX60)
def wsX6_merge_r1 : List Cond := [Cond.methodLink RX6 91 yX6_changes, Cond.instanceMethod yX6_changes, Cond.selects RX6 yX6_changes yX6_changes, Cond.initialized RX6, Cond.code yX6_changes cX6_changes 2 none, Cond.fieldLink RX6 28 "ThinVolumesModel" "runs" "Z", Cond.fieldLink RX6 32 "ThinVolumesModel" "pasts" "I", Cond.fieldLink RX6 13 "ThinVolumesModel" "past" "[I", Cond.fieldLink RX6 7 "ThinVolumesModel" "s" "[I", Cond.methodLink RX6 122 yX6_merges, Cond.instanceMethod yX6_merges, Cond.selects RX6 yX6_merges yX6_merges, Cond.code yX6_merges cX6_merges 5 (some .int), Cond.methodLink RX6 54 yX6_owners, Cond.instanceMethod yX6_owners, Cond.selects RX6 yX6_owners yX6_owners, Cond.code yX6_owners cX6_owners 4 (some .int), Cond.methodLink RX6 51 yX6_ownersIn, Cond.instanceMethod yX6_ownersIn, Cond.selects RX6 yX6_ownersIn yX6_ownersIn, Cond.code yX6_ownersIn cX6_ownersIn 5 (some .int), Cond.methodLink RX6 40 yX6_of, Cond.instanceMethod yX6_of, Cond.selects RX6 yX6_of yX6_of]
def wsX6_merge_r2 : List Cond := [Cond.code yX6_of cX6_of 3 (some .int), Cond.methodLink RX6 48 yX6_piece, Cond.instanceMethod yX6_piece, Cond.selects RX6 yX6_piece yX6_piece, Cond.code yX6_piece cX6_piece 3 (some .int), Cond.methodLink RX6 119 yX6_moves, Cond.instanceMethod yX6_moves, Cond.selects RX6 yX6_moves yX6_moves, Cond.code yX6_moves cX6_moves 5 none, Cond.methodLink RX6 66 yX6_puts, Cond.instanceMethod yX6_puts, Cond.selects RX6 yX6_puts yX6_puts, Cond.code yX6_puts cX6_puts 4 none]
def wsX6_merge : List Cond := .code yX6_merge cX6_merge 1 (some .int) :: ((wsX6_merge_r1 ++ wsX6_merge_r2) ++ wsX60)
def wsX6_read : List Cond := .code yX6_read cX6_read 5 (some .int) :: ([.constant RX6 86 (-1000001), .constant RX6 65 (-1000004), .fieldLink RX6 7 "ThinVolumesModel" "s" "[I", .methodLink RX6 105 yX6_isPlace, .instanceMethod yX6_isPlace, .selects RX6 yX6_isPlace yX6_isPlace, .initialized RX6, .code yX6_isPlace cX6_isPlace 3 (some .boolean), .methodLink RX6 44 yX6_isVolume, .instanceMethod yX6_isVolume, .selects RX6 yX6_isVolume yX6_isVolume, .code yX6_isVolume cX6_isVolume 2 (some .boolean), .methodLink RX6 36 yX6_in, .static yX6_in, .code yX6_in cX6_in 3 (some .boolean), .methodLink RX6 40 yX6_of, .instanceMethod yX6_of, .selects RX6 yX6_of yX6_of, .code yX6_of cX6_of 3 (some .int), .methodLink RX6 48 yX6_piece, .instanceMethod yX6_piece, .selects RX6 yX6_piece yX6_piece, .code yX6_piece cX6_piece 3 (some .int)] ++ wsX60)
def wsX6_rank : List Cond := .code yX6_rank cX6_rank 5 (some .int) :: ([.methodLink RX6 40 yX6_of, .instanceMethod yX6_of, .selects RX6 yX6_of yX6_of, .initialized RX6, .code yX6_of cX6_of 3 (some .int), .fieldLink RX6 7 "ThinVolumesModel" "s" "[I"] ++ wsX60)
def wsX6_clones : List Cond := .code yX6_clones cX6_clones 4 (some .int) :: ([.methodLink RX6 40 yX6_of, .instanceMethod yX6_of, .selects RX6 yX6_of yX6_of, .initialized RX6, .code yX6_of cX6_of 3 (some .int), .fieldLink RX6 7 "ThinVolumesModel" "s" "[I"] ++ wsX60)
def wsX6_volumesOf : List Cond := .code yX6_volumesOf cX6_volumesOf 4 (some .int) :: ([.methodLink RX6 51 yX6_ownersIn, .instanceMethod yX6_ownersIn, .selects RX6 yX6_ownersIn yX6_ownersIn, .initialized RX6, .code yX6_ownersIn cX6_ownersIn 5 (some .int), .methodLink RX6 40 yX6_of, .instanceMethod yX6_of, .selects RX6 yX6_of yX6_of, .code yX6_of cX6_of 3 (some .int), .fieldLink RX6 7 "ThinVolumesModel" "s" "[I", .methodLink RX6 48 yX6_piece, .instanceMethod yX6_piece, .selects RX6 yX6_piece yX6_piece, .code yX6_piece cX6_piece 3 (some .int)] ++ wsX60)
def wsX6_ownedBy : List Cond := .code yX6_ownedBy cX6_ownedBy 5 (some .int) :: ([.methodLink RX6 125 yX6_volumesOf, .instanceMethod yX6_volumesOf, .selects RX6 yX6_volumesOf yX6_volumesOf, .initialized RX6, .code yX6_volumesOf cX6_volumesOf 4 (some .int), .methodLink RX6 51 yX6_ownersIn, .instanceMethod yX6_ownersIn, .selects RX6 yX6_ownersIn yX6_ownersIn, .code yX6_ownersIn cX6_ownersIn 5 (some .int), .methodLink RX6 40 yX6_of, .instanceMethod yX6_of, .selects RX6 yX6_of yX6_of, .code yX6_of cX6_of 3 (some .int), .fieldLink RX6 7 "ThinVolumesModel" "s" "[I", .methodLink RX6 48 yX6_piece, .instanceMethod yX6_piece, .selects RX6 yX6_piece yX6_piece, .code yX6_piece cX6_piece 3 (some .int)] ++ wsX60)
def wsX6_filled : List Cond := .code yX6_filled cX6_filled 4 (some .int) :: ([.methodLink RX6 40 yX6_of, .instanceMethod yX6_of, .selects RX6 yX6_of yX6_of, .initialized RX6, .code yX6_of cX6_of 3 (some .int), .fieldLink RX6 7 "ThinVolumesModel" "s" "[I", .methodLink RX6 48 yX6_piece, .instanceMethod yX6_piece, .selects RX6 yX6_piece yX6_piece, .code yX6_piece cX6_piece 3 (some .int)] ++ wsX60)
def wsX6_volumeOf_r1 : List Cond := [Cond.constant RX6 86 (-1000001), Cond.constant RX6 65 (-1000004), Cond.methodLink RX6 44 yX6_isVolume, Cond.instanceMethod yX6_isVolume, Cond.selects RX6 yX6_isVolume yX6_isVolume, Cond.initialized RX6, Cond.code yX6_isVolume cX6_isVolume 2 (some .boolean), Cond.methodLink RX6 36 yX6_in, Cond.static yX6_in, Cond.code yX6_in cX6_in 3 (some .boolean), Cond.methodLink RX6 40 yX6_of, Cond.instanceMethod yX6_of, Cond.selects RX6 yX6_of yX6_of, Cond.code yX6_of cX6_of 3 (some .int), Cond.fieldLink RX6 7 "ThinVolumesModel" "s" "[I", Cond.methodLink RX6 128 yX6_filled, Cond.instanceMethod yX6_filled, Cond.selects RX6 yX6_filled yX6_filled, Cond.code yX6_filled cX6_filled 4 (some .int), Cond.methodLink RX6 48 yX6_piece, Cond.instanceMethod yX6_piece, Cond.selects RX6 yX6_piece yX6_piece, Cond.code yX6_piece cX6_piece 3 (some .int), Cond.methodLink RX6 131 yX6_ownedBy]
def wsX6_volumeOf_r2 : List Cond := [Cond.instanceMethod yX6_ownedBy, Cond.selects RX6 yX6_ownedBy yX6_ownedBy, Cond.code yX6_ownedBy cX6_ownedBy 5 (some .int), Cond.methodLink RX6 125 yX6_volumesOf, Cond.instanceMethod yX6_volumesOf, Cond.selects RX6 yX6_volumesOf yX6_volumesOf, Cond.code yX6_volumesOf cX6_volumesOf 4 (some .int), Cond.methodLink RX6 51 yX6_ownersIn, Cond.instanceMethod yX6_ownersIn, Cond.selects RX6 yX6_ownersIn yX6_ownersIn, Cond.code yX6_ownersIn cX6_ownersIn 5 (some .int), Cond.methodLink RX6 134 yX6_clones, Cond.instanceMethod yX6_clones, Cond.selects RX6 yX6_clones yX6_clones, Cond.code yX6_clones cX6_clones 4 (some .int), Cond.methodLink RX6 137 yX6_rank, Cond.instanceMethod yX6_rank, Cond.selects RX6 yX6_rank yX6_rank, Cond.code yX6_rank cX6_rank 5 (some .int)]
def wsX6_volumeOf : List Cond := .code yX6_volumeOf cX6_volumeOf 3 (some .int) :: ((wsX6_volumeOf_r1 ++ wsX6_volumeOf_r2) ++ wsX60)
def wsX6_pieceOf_r1 : List Cond := [Cond.constant RX6 86 (-1000001), Cond.constant RX6 65 (-1000004), Cond.fieldLink RX6 7 "ThinVolumesModel" "s" "[I", Cond.methodLink RX6 36 yX6_in, Cond.static yX6_in, Cond.initialized RX6, Cond.code yX6_in cX6_in 3 (some .boolean), Cond.methodLink RX6 54 yX6_owners, Cond.instanceMethod yX6_owners, Cond.selects RX6 yX6_owners yX6_owners, Cond.code yX6_owners cX6_owners 4 (some .int), Cond.methodLink RX6 51 yX6_ownersIn, Cond.instanceMethod yX6_ownersIn, Cond.selects RX6 yX6_ownersIn yX6_ownersIn, Cond.code yX6_ownersIn cX6_ownersIn 5 (some .int), Cond.methodLink RX6 40 yX6_of, Cond.instanceMethod yX6_of, Cond.selects RX6 yX6_of yX6_of, Cond.code yX6_of cX6_of 3 (some .int), Cond.methodLink RX6 48 yX6_piece, Cond.instanceMethod yX6_piece, Cond.selects RX6 yX6_piece yX6_piece, Cond.code yX6_piece cX6_piece 3 (some .int), Cond.methodLink RX6 125 yX6_volumesOf]
def wsX6_pieceOf_r2 : List Cond := [Cond.instanceMethod yX6_volumesOf, Cond.selects RX6 yX6_volumesOf yX6_volumesOf, Cond.code yX6_volumesOf cX6_volumesOf 4 (some .int)]
def wsX6_pieceOf : List Cond := .code yX6_pieceOf cX6_pieceOf 3 (some .int) :: ((wsX6_pieceOf_r1 ++ wsX6_pieceOf_r2) ++ wsX60)
def wsX6_warningOf : List Cond := .code yX6_warningOf cX6_warningOf 3 (some .int) :: ([.constant RX6 86 (-1000001), .fieldLink RX6 7 "ThinVolumesModel" "s" "[I", .constant RX6 65 (-1000004), .methodLink RX6 36 yX6_in, .static yX6_in, .initialized RX6, .code yX6_in cX6_in 3 (some .boolean)] ++ wsX60)
def wsX6_couldGet_r1 : List Cond := [Cond.constant RX6 86 (-1000001), Cond.fieldLink RX6 7 "ThinVolumesModel" "s" "[I", Cond.fieldLink RX6 19 "ThinVolumesModel" "tried" "[I", Cond.methodLink RX6 44 yX6_isVolume, Cond.instanceMethod yX6_isVolume, Cond.selects RX6 yX6_isVolume yX6_isVolume, Cond.initialized RX6, Cond.code yX6_isVolume cX6_isVolume 2 (some .boolean), Cond.methodLink RX6 36 yX6_in, Cond.static yX6_in, Cond.code yX6_in cX6_in 3 (some .boolean), Cond.methodLink RX6 40 yX6_of, Cond.instanceMethod yX6_of, Cond.selects RX6 yX6_of yX6_of, Cond.code yX6_of cX6_of 3 (some .int), Cond.methodLink RX6 140 yX6_copies, Cond.static yX6_copies, Cond.code yX6_copies cX6_copies 3 none, Cond.methodLink RX6 58 yX6_free, Cond.instanceMethod yX6_free, Cond.selects RX6 yX6_free yX6_free, Cond.code yX6_free cX6_free 3 (some .int), Cond.methodLink RX6 54 yX6_owners, Cond.instanceMethod yX6_owners]
def wsX6_couldGet_r2 : List Cond := [Cond.selects RX6 yX6_owners yX6_owners, Cond.code yX6_owners cX6_owners 4 (some .int), Cond.methodLink RX6 51 yX6_ownersIn, Cond.instanceMethod yX6_ownersIn, Cond.selects RX6 yX6_ownersIn yX6_ownersIn, Cond.code yX6_ownersIn cX6_ownersIn 5 (some .int), Cond.methodLink RX6 48 yX6_piece, Cond.instanceMethod yX6_piece, Cond.selects RX6 yX6_piece yX6_piece, Cond.code yX6_piece cX6_piece 3 (some .int), Cond.methodLink RX6 62 yX6_promises, Cond.instanceMethod yX6_promises, Cond.selects RX6 yX6_promises yX6_promises, Cond.code yX6_promises cX6_promises 3 (some .int), Cond.methodLink RX6 109 yX6_asks, Cond.instanceMethod yX6_asks, Cond.selects RX6 yX6_asks yX6_asks, Cond.code yX6_asks cX6_asks 5 (some .int), Cond.methodLink RX6 66 yX6_puts, Cond.instanceMethod yX6_puts, Cond.selects RX6 yX6_puts yX6_puts, Cond.code yX6_puts cX6_puts 4 none, Cond.methodLink RX6 70 yX6_levelBy, Cond.instanceMethod yX6_levelBy]
def wsX6_couldGet_r3 : List Cond := [Cond.selects RX6 yX6_levelBy yX6_levelBy, Cond.code yX6_levelBy cX6_levelBy 2 (some .int), Cond.methodLink RX6 73 yX6_best, Cond.instanceMethod yX6_best, Cond.selects RX6 yX6_best yX6_best, Cond.code yX6_best cX6_best 3 (some .int), Cond.constant RX6 65 (-1000004), Cond.methodLink RX6 76 yX6_behaves, Cond.instanceMethod yX6_behaves, Cond.selects RX6 yX6_behaves yX6_behaves, Cond.code yX6_behaves cX6_behaves 4 none]
def wsX6_couldGet : List Cond := .code yX6_couldGet cX6_couldGet 4 (some .int) :: ((wsX6_couldGet_r1 ++ (wsX6_couldGet_r2 ++ wsX6_couldGet_r3)) ++ wsX60)
def wsX6_couldFree_r1 : List Cond := [Cond.constant RX6 86 (-1000001), Cond.fieldLink RX6 7 "ThinVolumesModel" "s" "[I", Cond.fieldLink RX6 19 "ThinVolumesModel" "tried" "[I", Cond.methodLink RX6 44 yX6_isVolume, Cond.instanceMethod yX6_isVolume, Cond.selects RX6 yX6_isVolume yX6_isVolume, Cond.initialized RX6, Cond.code yX6_isVolume cX6_isVolume 2 (some .boolean), Cond.methodLink RX6 36 yX6_in, Cond.static yX6_in, Cond.code yX6_in cX6_in 3 (some .boolean), Cond.methodLink RX6 40 yX6_of, Cond.instanceMethod yX6_of, Cond.selects RX6 yX6_of yX6_of, Cond.code yX6_of cX6_of 3 (some .int), Cond.methodLink RX6 140 yX6_copies, Cond.static yX6_copies, Cond.code yX6_copies cX6_copies 3 none, Cond.methodLink RX6 116 yX6_sweeps, Cond.instanceMethod yX6_sweeps, Cond.selects RX6 yX6_sweeps yX6_sweeps, Cond.code yX6_sweeps cX6_sweeps 6 (some .int), Cond.methodLink RX6 48 yX6_piece, Cond.instanceMethod yX6_piece]
def wsX6_couldFree_r2 : List Cond := [Cond.selects RX6 yX6_piece yX6_piece, Cond.code yX6_piece cX6_piece 3 (some .int), Cond.methodLink RX6 97 yX6_trims, Cond.instanceMethod yX6_trims, Cond.selects RX6 yX6_trims yX6_trims, Cond.code yX6_trims cX6_trims 5 (some .int), Cond.methodLink RX6 66 yX6_puts, Cond.instanceMethod yX6_puts, Cond.selects RX6 yX6_puts yX6_puts, Cond.code yX6_puts cX6_puts 4 none, Cond.methodLink RX6 54 yX6_owners, Cond.instanceMethod yX6_owners, Cond.selects RX6 yX6_owners yX6_owners, Cond.code yX6_owners cX6_owners 4 (some .int), Cond.methodLink RX6 51 yX6_ownersIn, Cond.instanceMethod yX6_ownersIn, Cond.selects RX6 yX6_ownersIn yX6_ownersIn, Cond.code yX6_ownersIn cX6_ownersIn 5 (some .int), Cond.methodLink RX6 76 yX6_behaves, Cond.instanceMethod yX6_behaves, Cond.selects RX6 yX6_behaves yX6_behaves, Cond.code yX6_behaves cX6_behaves 4 none, Cond.methodLink RX6 122 yX6_merges, Cond.instanceMethod yX6_merges]
def wsX6_couldFree_r3 : List Cond := [Cond.selects RX6 yX6_merges yX6_merges, Cond.code yX6_merges cX6_merges 5 (some .int), Cond.methodLink RX6 119 yX6_moves, Cond.instanceMethod yX6_moves, Cond.selects RX6 yX6_moves yX6_moves, Cond.code yX6_moves cX6_moves 5 none]
def wsX6_couldFree : List Cond := .code yX6_couldFree cX6_couldFree 4 (some .int) :: ((wsX6_couldFree_r1 ++ (wsX6_couldFree_r2 ++ wsX6_couldFree_r3)) ++ wsX60)
def wsX6_family_r1 : List Cond := [Cond.constant RX6 86 (-1000001), Cond.methodLink RX6 44 yX6_isVolume, Cond.instanceMethod yX6_isVolume, Cond.selects RX6 yX6_isVolume yX6_isVolume, Cond.initialized RX6, Cond.code yX6_isVolume cX6_isVolume 2 (some .boolean), Cond.methodLink RX6 36 yX6_in, Cond.static yX6_in, Cond.code yX6_in cX6_in 3 (some .boolean), Cond.methodLink RX6 40 yX6_of, Cond.instanceMethod yX6_of, Cond.selects RX6 yX6_of yX6_of, Cond.code yX6_of cX6_of 3 (some .int), Cond.fieldLink RX6 7 "ThinVolumesModel" "s" "[I", Cond.methodLink RX6 134 yX6_clones, Cond.instanceMethod yX6_clones, Cond.selects RX6 yX6_clones yX6_clones, Cond.code yX6_clones cX6_clones 4 (some .int), Cond.methodLink RX6 131 yX6_ownedBy, Cond.instanceMethod yX6_ownedBy, Cond.selects RX6 yX6_ownedBy yX6_ownedBy, Cond.code yX6_ownedBy cX6_ownedBy 5 (some .int), Cond.methodLink RX6 125 yX6_volumesOf, Cond.instanceMethod yX6_volumesOf]
def wsX6_family_r2 : List Cond := [Cond.selects RX6 yX6_volumesOf yX6_volumesOf, Cond.code yX6_volumesOf cX6_volumesOf 4 (some .int), Cond.methodLink RX6 51 yX6_ownersIn, Cond.instanceMethod yX6_ownersIn, Cond.selects RX6 yX6_ownersIn yX6_ownersIn, Cond.code yX6_ownersIn cX6_ownersIn 5 (some .int), Cond.methodLink RX6 48 yX6_piece, Cond.instanceMethod yX6_piece, Cond.selects RX6 yX6_piece yX6_piece, Cond.code yX6_piece cX6_piece 3 (some .int)]
def wsX6_family : List Cond := .code yX6_family cX6_family 8 (some .int) :: ((wsX6_family_r1 ++ wsX6_family_r2) ++ wsX60)
def wsX6_ranked : List Cond := .code yX6_ranked cX6_ranked 4 (some .int) :: ([.constant RX6 86 (-1000001), .constant RX6 65 (-1000004), .methodLink RX6 40 yX6_of, .instanceMethod yX6_of, .selects RX6 yX6_of yX6_of, .initialized RX6, .code yX6_of cX6_of 3 (some .int), .fieldLink RX6 7 "ThinVolumesModel" "s" "[I", .methodLink RX6 137 yX6_rank, .instanceMethod yX6_rank, .selects RX6 yX6_rank yX6_rank, .code yX6_rank cX6_rank 5 (some .int)] ++ wsX60)
def wsX6_living : List Cond := .code yX6_living cX6_living 4 (some .int) :: ([.methodLink RX6 40 yX6_of, .instanceMethod yX6_of, .selects RX6 yX6_of yX6_of, .initialized RX6, .code yX6_of cX6_of 3 (some .int), .fieldLink RX6 7 "ThinVolumesModel" "s" "[I", .methodLink RX6 128 yX6_filled, .instanceMethod yX6_filled, .selects RX6 yX6_filled yX6_filled, .code yX6_filled cX6_filled 4 (some .int), .methodLink RX6 48 yX6_piece, .instanceMethod yX6_piece, .selects RX6 yX6_piece yX6_piece, .code yX6_piece cX6_piece 3 (some .int)] ++ wsX60)
def wsX6_over : List Cond := .code yX6_over cX6_over 6 (some .int) :: ([.constant RX6 86 (-1000001), .methodLink RX6 36 yX6_in, .static yX6_in, .initialized RX6, .code yX6_in cX6_in 3 (some .boolean), .methodLink RX6 144 yX6_living, .instanceMethod yX6_living, .selects RX6 yX6_living yX6_living, .code yX6_living cX6_living 4 (some .int), .methodLink RX6 40 yX6_of, .instanceMethod yX6_of, .selects RX6 yX6_of yX6_of, .code yX6_of cX6_of 3 (some .int), .fieldLink RX6 7 "ThinVolumesModel" "s" "[I", .methodLink RX6 128 yX6_filled, .instanceMethod yX6_filled, .selects RX6 yX6_filled yX6_filled, .code yX6_filled cX6_filled 4 (some .int), .methodLink RX6 48 yX6_piece, .instanceMethod yX6_piece, .selects RX6 yX6_piece yX6_piece, .code yX6_piece cX6_piece 3 (some .int)] ++ wsX60)
def wsX6_shared : List Cond := .code yX6_shared cX6_shared 3 (some .int) :: ([.methodLink RX6 54 yX6_owners, .instanceMethod yX6_owners, .selects RX6 yX6_owners yX6_owners, .initialized RX6, .code yX6_owners cX6_owners 4 (some .int), .methodLink RX6 51 yX6_ownersIn, .instanceMethod yX6_ownersIn, .selects RX6 yX6_ownersIn yX6_ownersIn, .code yX6_ownersIn cX6_ownersIn 5 (some .int), .methodLink RX6 40 yX6_of, .instanceMethod yX6_of, .selects RX6 yX6_of yX6_of, .code yX6_of cX6_of 3 (some .int), .fieldLink RX6 7 "ThinVolumesModel" "s" "[I", .methodLink RX6 48 yX6_piece, .instanceMethod yX6_piece, .selects RX6 yX6_piece yX6_piece, .code yX6_piece cX6_piece 3 (some .int)] ++ wsX60)
def wsX6_count_r1 : List Cond := [Cond.fieldLink RX6 7 "ThinVolumesModel" "s" "[I", Cond.fieldLink RX6 32 "ThinVolumesModel" "pasts" "I", Cond.fieldLink RX6 150 "ThinVolumesModel" "typed" "I", Cond.constant RX6 86 (-1000001), Cond.methodLink RX6 144 yX6_living, Cond.instanceMethod yX6_living, Cond.selects RX6 yX6_living yX6_living, Cond.initialized RX6, Cond.code yX6_living cX6_living 4 (some .int), Cond.methodLink RX6 40 yX6_of, Cond.instanceMethod yX6_of, Cond.selects RX6 yX6_of yX6_of, Cond.code yX6_of cX6_of 3 (some .int), Cond.methodLink RX6 128 yX6_filled, Cond.instanceMethod yX6_filled, Cond.selects RX6 yX6_filled yX6_filled, Cond.code yX6_filled cX6_filled 4 (some .int), Cond.methodLink RX6 48 yX6_piece, Cond.instanceMethod yX6_piece, Cond.selects RX6 yX6_piece yX6_piece, Cond.code yX6_piece cX6_piece 3 (some .int), Cond.methodLink RX6 58 yX6_free, Cond.instanceMethod yX6_free, Cond.selects RX6 yX6_free yX6_free]
def wsX6_count_r2 : List Cond := [Cond.code yX6_free cX6_free 3 (some .int), Cond.methodLink RX6 54 yX6_owners, Cond.instanceMethod yX6_owners, Cond.selects RX6 yX6_owners yX6_owners, Cond.code yX6_owners cX6_owners 4 (some .int), Cond.methodLink RX6 51 yX6_ownersIn, Cond.instanceMethod yX6_ownersIn, Cond.selects RX6 yX6_ownersIn yX6_ownersIn, Cond.code yX6_ownersIn cX6_ownersIn 5 (some .int), Cond.methodLink RX6 80 yX6_available, Cond.instanceMethod yX6_available, Cond.selects RX6 yX6_available yX6_available, Cond.code yX6_available cX6_available 1 (some .int), Cond.methodLink RX6 62 yX6_promises, Cond.instanceMethod yX6_promises, Cond.selects RX6 yX6_promises yX6_promises, Cond.code yX6_promises cX6_promises 3 (some .int), Cond.methodLink RX6 70 yX6_levelBy, Cond.instanceMethod yX6_levelBy, Cond.selects RX6 yX6_levelBy yX6_levelBy, Cond.code yX6_levelBy cX6_levelBy 2 (some .int), Cond.methodLink RX6 147 yX6_shared, Cond.instanceMethod yX6_shared, Cond.selects RX6 yX6_shared yX6_shared]
def wsX6_count_r3 : List Cond := [Cond.code yX6_shared cX6_shared 3 (some .int)]
def wsX6_count : List Cond := .code yX6_count cX6_count 2 (some .int) :: ((wsX6_count_r1 ++ (wsX6_count_r2 ++ wsX6_count_r3)) ++ wsX60)
def wsX6_undo : List Cond := .code yX6_undo cX6_undo 2 (some .int) :: ([.fieldLink RX6 32 "ThinVolumesModel" "pasts" "I", .constant RX6 100 (-1000002), .fieldLink RX6 7 "ThinVolumesModel" "s" "[I", .fieldLink RX6 13 "ThinVolumesModel" "past" "[I"] ++ wsX60)
def wsX6_type : List Cond := .code yX6_type cX6_type 2 (some .int) :: ([.constant RX6 86 (-1000001), .fieldLink RX6 150 "ThinVolumesModel" "typed" "I", .constant RX6 90 (-1000003), .fieldLink RX6 22 "ThinVolumesModel" "text" "[I", .methodLink RX6 36 yX6_in, .static yX6_in, .initialized RX6, .code yX6_in cX6_in 3 (some .boolean)] ++ wsX60)
def wsX6_clearText : List Cond := .code yX6_clearText cX6_clearText 2 (some .int) :: ([.fieldLink RX6 150 "ThinVolumesModel" "typed" "I"] ++ wsX60)
def wsX6_isAt : List Cond := .code yX6_isAt cX6_isAt 3 (some .boolean) :: ([.fieldLink RX6 153 "ThinVolumesModel" "spot" "I", .fieldLink RX6 150 "ThinVolumesModel" "typed" "I", .fieldLink RX6 22 "ThinVolumesModel" "text" "[I", .methodLink RX6 36 yX6_in, .static yX6_in, .initialized RX6, .code yX6_in cX6_in 3 (some .boolean)] ++ wsX60)
def wsX6_number : List Cond := .code yX6_number cX6_number 5 (some .boolean) :: ([.fieldLink RX6 153 "ThinVolumesModel" "spot" "I", .fieldLink RX6 25 "ThinVolumesModel" "told" "[I", .fieldLink RX6 22 "ThinVolumesModel" "text" "[I", .methodLink RX6 156 yX6_isAt, .instanceMethod yX6_isAt, .selects RX6 yX6_isAt yX6_isAt, .initialized RX6, .code yX6_isAt cX6_isAt 3 (some .boolean), .fieldLink RX6 150 "ThinVolumesModel" "typed" "I", .methodLink RX6 36 yX6_in, .static yX6_in, .code yX6_in cX6_in 3 (some .boolean)] ++ wsX60)
def wsX6_isForm : List Cond := .code yX6_isForm cX6_isForm 5 (some .boolean) :: ([.fieldLink RX6 153 "ThinVolumesModel" "spot" "I", .methodLink RX6 156 yX6_isAt, .instanceMethod yX6_isAt, .selects RX6 yX6_isAt yX6_isAt, .initialized RX6, .code yX6_isAt cX6_isAt 3 (some .boolean), .fieldLink RX6 150 "ThinVolumesModel" "typed" "I", .fieldLink RX6 22 "ThinVolumesModel" "text" "[I", .methodLink RX6 36 yX6_in, .static yX6_in, .code yX6_in cX6_in 3 (some .boolean), .methodLink RX6 159 yX6_number, .instanceMethod yX6_number, .selects RX6 yX6_number yX6_number, .code yX6_number cX6_number 5 (some .boolean), .fieldLink RX6 25 "ThinVolumesModel" "told" "[I"] ++ wsX60)
def wsX6_isDone : List Cond := .code yX6_isDone cX6_isDone 2 (some .int) :: ([.fieldLink RX6 162 "ThinVolumesModel" "refusals" "I", .constant RX6 112 (-1000005), .constant RX6 100 (-1000002), .constant RX6 90 (-1000003)] ++ wsX60)
def wsX6_does_r1 : List Cond := [Cond.fieldLink RX6 22 "ThinVolumesModel" "text" "[I", Cond.fieldLink RX6 153 "ThinVolumesModel" "spot" "I", Cond.fieldLink RX6 25 "ThinVolumesModel" "told" "[I", Cond.methodLink RX6 165 yX6_isForm, Cond.instanceMethod yX6_isForm, Cond.selects RX6 yX6_isForm yX6_isForm, Cond.initialized RX6, Cond.code yX6_isForm cX6_isForm 5 (some .boolean), Cond.methodLink RX6 156 yX6_isAt, Cond.instanceMethod yX6_isAt, Cond.selects RX6 yX6_isAt yX6_isAt, Cond.code yX6_isAt cX6_isAt 3 (some .boolean), Cond.fieldLink RX6 150 "ThinVolumesModel" "typed" "I", Cond.methodLink RX6 36 yX6_in, Cond.static yX6_in, Cond.code yX6_in cX6_in 3 (some .boolean), Cond.methodLink RX6 159 yX6_number, Cond.instanceMethod yX6_number, Cond.selects RX6 yX6_number yX6_number, Cond.code yX6_number cX6_number 5 (some .boolean), Cond.methodLink RX6 44 yX6_isVolume, Cond.instanceMethod yX6_isVolume, Cond.selects RX6 yX6_isVolume yX6_isVolume, Cond.code yX6_isVolume cX6_isVolume 2 (some .boolean)]
def wsX6_does_r2 : List Cond := [Cond.methodLink RX6 40 yX6_of, Cond.instanceMethod yX6_of, Cond.selects RX6 yX6_of yX6_of, Cond.code yX6_of cX6_of 3 (some .int), Cond.fieldLink RX6 7 "ThinVolumesModel" "s" "[I", Cond.methodLink RX6 105 yX6_isPlace, Cond.instanceMethod yX6_isPlace, Cond.selects RX6 yX6_isPlace yX6_isPlace, Cond.code yX6_isPlace cX6_isPlace 3 (some .boolean), Cond.methodLink RX6 168 yX6_write, Cond.instanceMethod yX6_write, Cond.selects RX6 yX6_write yX6_write, Cond.code yX6_write cX6_write 9 (some .int), Cond.constant RX6 86 (-1000001), Cond.constant RX6 112 (-1000005), Cond.methodLink RX6 91 yX6_changes, Cond.instanceMethod yX6_changes, Cond.selects RX6 yX6_changes yX6_changes, Cond.code yX6_changes cX6_changes 2 none, Cond.fieldLink RX6 28 "ThinVolumesModel" "runs" "Z", Cond.fieldLink RX6 32 "ThinVolumesModel" "pasts" "I", Cond.fieldLink RX6 13 "ThinVolumesModel" "past" "[I", Cond.methodLink RX6 48 yX6_piece, Cond.instanceMethod yX6_piece]
def wsX6_does_r3 : List Cond := [Cond.selects RX6 yX6_piece yX6_piece, Cond.code yX6_piece cX6_piece 3 (some .int), Cond.methodLink RX6 54 yX6_owners, Cond.instanceMethod yX6_owners, Cond.selects RX6 yX6_owners yX6_owners, Cond.code yX6_owners cX6_owners 4 (some .int), Cond.methodLink RX6 51 yX6_ownersIn, Cond.instanceMethod yX6_ownersIn, Cond.selects RX6 yX6_ownersIn yX6_ownersIn, Cond.code yX6_ownersIn cX6_ownersIn 5 (some .int), Cond.methodLink RX6 80 yX6_available, Cond.instanceMethod yX6_available, Cond.selects RX6 yX6_available yX6_available, Cond.code yX6_available cX6_available 1 (some .int), Cond.methodLink RX6 58 yX6_free, Cond.instanceMethod yX6_free, Cond.selects RX6 yX6_free yX6_free, Cond.code yX6_free cX6_free 3 (some .int), Cond.methodLink RX6 62 yX6_promises, Cond.instanceMethod yX6_promises, Cond.selects RX6 yX6_promises yX6_promises, Cond.code yX6_promises cX6_promises 3 (some .int), Cond.methodLink RX6 70 yX6_levelBy, Cond.instanceMethod yX6_levelBy]
def wsX6_does_r4 : List Cond := [Cond.selects RX6 yX6_levelBy yX6_levelBy, Cond.code yX6_levelBy cX6_levelBy 2 (some .int), Cond.methodLink RX6 109 yX6_asks, Cond.instanceMethod yX6_asks, Cond.selects RX6 yX6_asks yX6_asks, Cond.code yX6_asks cX6_asks 5 (some .int), Cond.methodLink RX6 66 yX6_puts, Cond.instanceMethod yX6_puts, Cond.selects RX6 yX6_puts yX6_puts, Cond.code yX6_puts cX6_puts 4 none, Cond.methodLink RX6 73 yX6_best, Cond.instanceMethod yX6_best, Cond.selects RX6 yX6_best yX6_best, Cond.code yX6_best cX6_best 3 (some .int), Cond.constant RX6 65 (-1000004), Cond.methodLink RX6 76 yX6_behaves, Cond.instanceMethod yX6_behaves, Cond.selects RX6 yX6_behaves yX6_behaves, Cond.code yX6_behaves cX6_behaves 4 none, Cond.methodLink RX6 83 yX6_warns, Cond.instanceMethod yX6_warns, Cond.selects RX6 yX6_warns yX6_warns, Cond.code yX6_warns cX6_warns 4 none, Cond.methodLink RX6 113 yX6_lowestFree]
def wsX6_does_r5 : List Cond := [Cond.instanceMethod yX6_lowestFree, Cond.selects RX6 yX6_lowestFree yX6_lowestFree, Cond.code yX6_lowestFree cX6_lowestFree 2 (some .int), Cond.methodLink RX6 101 yX6_ends, Cond.instanceMethod yX6_ends, Cond.selects RX6 yX6_ends yX6_ends, Cond.code yX6_ends cX6_ends 2 none, Cond.methodLink RX6 172 yX6_isDone, Cond.instanceMethod yX6_isDone, Cond.selects RX6 yX6_isDone yX6_isDone, Cond.code yX6_isDone cX6_isDone 2 (some .int), Cond.fieldLink RX6 162 "ThinVolumesModel" "refusals" "I", Cond.constant RX6 100 (-1000002), Cond.constant RX6 90 (-1000003), Cond.methodLink RX6 175 yX6_trim, Cond.instanceMethod yX6_trim, Cond.selects RX6 yX6_trim yX6_trim, Cond.code yX6_trim cX6_trim 4 (some .int), Cond.methodLink RX6 97 yX6_trims, Cond.instanceMethod yX6_trims, Cond.selects RX6 yX6_trims yX6_trims, Cond.code yX6_trims cX6_trims 5 (some .int), Cond.methodLink RX6 178 yX6_sweep, Cond.instanceMethod yX6_sweep]
def wsX6_does_r6 : List Cond := [Cond.selects RX6 yX6_sweep yX6_sweep, Cond.code yX6_sweep cX6_sweep 2 (some .int), Cond.methodLink RX6 116 yX6_sweeps, Cond.instanceMethod yX6_sweeps, Cond.selects RX6 yX6_sweeps yX6_sweeps, Cond.code yX6_sweeps cX6_sweeps 6 (some .int), Cond.methodLink RX6 181 yX6_share, Cond.instanceMethod yX6_share, Cond.selects RX6 yX6_share yX6_share, Cond.code yX6_share cX6_share 4 (some .int), Cond.methodLink RX6 87 yX6_free8, Cond.instanceMethod yX6_free8, Cond.selects RX6 yX6_free8 yX6_free8, Cond.code yX6_free8 cX6_free8 2 (some .int), Cond.methodLink RX6 94 yX6_begins, Cond.instanceMethod yX6_begins, Cond.selects RX6 yX6_begins yX6_begins, Cond.code yX6_begins cX6_begins 4 none, Cond.methodLink RX6 184 yX6_drop, Cond.instanceMethod yX6_drop, Cond.selects RX6 yX6_drop yX6_drop, Cond.code yX6_drop cX6_drop 4 (some .int), Cond.methodLink RX6 187 yX6_merge, Cond.instanceMethod yX6_merge]
def wsX6_does_r7 : List Cond := [Cond.selects RX6 yX6_merge yX6_merge, Cond.code yX6_merge cX6_merge 1 (some .int), Cond.methodLink RX6 122 yX6_merges, Cond.instanceMethod yX6_merges, Cond.selects RX6 yX6_merges yX6_merges, Cond.code yX6_merges cX6_merges 5 (some .int), Cond.methodLink RX6 119 yX6_moves, Cond.instanceMethod yX6_moves, Cond.selects RX6 yX6_moves yX6_moves, Cond.code yX6_moves cX6_moves 5 none]
def wsX6_does : List Cond := .code yX6_does cX6_does 3 (some .int) :: ((wsX6_does_r1 ++ (wsX6_does_r2 ++ (wsX6_does_r3 ++ (wsX6_does_r4 ++ (wsX6_does_r5 ++ (wsX6_does_r6 ++ wsX6_does_r7)))))) ++ wsX60)
def wsX6_plays_r1 : List Cond := [Cond.fieldLink RX6 28 "ThinVolumesModel" "runs" "Z", Cond.fieldLink RX6 153 "ThinVolumesModel" "spot" "I", Cond.fieldLink RX6 190 "ThinVolumesModel" "reason" "I", Cond.fieldLink RX6 162 "ThinVolumesModel" "refusals" "I", Cond.fieldLink RX6 150 "ThinVolumesModel" "typed" "I", Cond.constant RX6 65 (-1000004), Cond.methodLink RX6 193 yX6_does, Cond.instanceMethod yX6_does, Cond.selects RX6 yX6_does yX6_does, Cond.initialized RX6, Cond.code yX6_does cX6_does 3 (some .int), Cond.fieldLink RX6 22 "ThinVolumesModel" "text" "[I", Cond.fieldLink RX6 25 "ThinVolumesModel" "told" "[I", Cond.methodLink RX6 165 yX6_isForm, Cond.instanceMethod yX6_isForm, Cond.selects RX6 yX6_isForm yX6_isForm, Cond.code yX6_isForm cX6_isForm 5 (some .boolean), Cond.methodLink RX6 156 yX6_isAt, Cond.instanceMethod yX6_isAt, Cond.selects RX6 yX6_isAt yX6_isAt, Cond.code yX6_isAt cX6_isAt 3 (some .boolean), Cond.methodLink RX6 36 yX6_in, Cond.static yX6_in, Cond.code yX6_in cX6_in 3 (some .boolean)]
def wsX6_plays_r2 : List Cond := [Cond.methodLink RX6 159 yX6_number, Cond.instanceMethod yX6_number, Cond.selects RX6 yX6_number yX6_number, Cond.code yX6_number cX6_number 5 (some .boolean), Cond.methodLink RX6 44 yX6_isVolume, Cond.instanceMethod yX6_isVolume, Cond.selects RX6 yX6_isVolume yX6_isVolume, Cond.code yX6_isVolume cX6_isVolume 2 (some .boolean), Cond.methodLink RX6 40 yX6_of, Cond.instanceMethod yX6_of, Cond.selects RX6 yX6_of yX6_of, Cond.code yX6_of cX6_of 3 (some .int), Cond.fieldLink RX6 7 "ThinVolumesModel" "s" "[I", Cond.methodLink RX6 105 yX6_isPlace, Cond.instanceMethod yX6_isPlace, Cond.selects RX6 yX6_isPlace yX6_isPlace, Cond.code yX6_isPlace cX6_isPlace 3 (some .boolean), Cond.methodLink RX6 168 yX6_write, Cond.instanceMethod yX6_write, Cond.selects RX6 yX6_write yX6_write, Cond.code yX6_write cX6_write 9 (some .int), Cond.constant RX6 86 (-1000001), Cond.constant RX6 112 (-1000005), Cond.methodLink RX6 91 yX6_changes]
def wsX6_plays_r3 : List Cond := [Cond.instanceMethod yX6_changes, Cond.selects RX6 yX6_changes yX6_changes, Cond.code yX6_changes cX6_changes 2 none, Cond.fieldLink RX6 32 "ThinVolumesModel" "pasts" "I", Cond.fieldLink RX6 13 "ThinVolumesModel" "past" "[I", Cond.methodLink RX6 48 yX6_piece, Cond.instanceMethod yX6_piece, Cond.selects RX6 yX6_piece yX6_piece, Cond.code yX6_piece cX6_piece 3 (some .int), Cond.methodLink RX6 54 yX6_owners, Cond.instanceMethod yX6_owners, Cond.selects RX6 yX6_owners yX6_owners, Cond.code yX6_owners cX6_owners 4 (some .int), Cond.methodLink RX6 51 yX6_ownersIn, Cond.instanceMethod yX6_ownersIn, Cond.selects RX6 yX6_ownersIn yX6_ownersIn, Cond.code yX6_ownersIn cX6_ownersIn 5 (some .int), Cond.methodLink RX6 80 yX6_available, Cond.instanceMethod yX6_available, Cond.selects RX6 yX6_available yX6_available, Cond.code yX6_available cX6_available 1 (some .int), Cond.methodLink RX6 58 yX6_free, Cond.instanceMethod yX6_free, Cond.selects RX6 yX6_free yX6_free]
def wsX6_plays_r4 : List Cond := [Cond.code yX6_free cX6_free 3 (some .int), Cond.methodLink RX6 62 yX6_promises, Cond.instanceMethod yX6_promises, Cond.selects RX6 yX6_promises yX6_promises, Cond.code yX6_promises cX6_promises 3 (some .int), Cond.methodLink RX6 70 yX6_levelBy, Cond.instanceMethod yX6_levelBy, Cond.selects RX6 yX6_levelBy yX6_levelBy, Cond.code yX6_levelBy cX6_levelBy 2 (some .int), Cond.methodLink RX6 109 yX6_asks, Cond.instanceMethod yX6_asks, Cond.selects RX6 yX6_asks yX6_asks, Cond.code yX6_asks cX6_asks 5 (some .int), Cond.methodLink RX6 66 yX6_puts, Cond.instanceMethod yX6_puts, Cond.selects RX6 yX6_puts yX6_puts, Cond.code yX6_puts cX6_puts 4 none, Cond.methodLink RX6 73 yX6_best, Cond.instanceMethod yX6_best, Cond.selects RX6 yX6_best yX6_best, Cond.code yX6_best cX6_best 3 (some .int), Cond.methodLink RX6 76 yX6_behaves, Cond.instanceMethod yX6_behaves, Cond.selects RX6 yX6_behaves yX6_behaves]
def wsX6_plays_r5 : List Cond := [Cond.code yX6_behaves cX6_behaves 4 none, Cond.methodLink RX6 83 yX6_warns, Cond.instanceMethod yX6_warns, Cond.selects RX6 yX6_warns yX6_warns, Cond.code yX6_warns cX6_warns 4 none, Cond.methodLink RX6 113 yX6_lowestFree, Cond.instanceMethod yX6_lowestFree, Cond.selects RX6 yX6_lowestFree yX6_lowestFree, Cond.code yX6_lowestFree cX6_lowestFree 2 (some .int), Cond.methodLink RX6 101 yX6_ends, Cond.instanceMethod yX6_ends, Cond.selects RX6 yX6_ends yX6_ends, Cond.code yX6_ends cX6_ends 2 none, Cond.methodLink RX6 172 yX6_isDone, Cond.instanceMethod yX6_isDone, Cond.selects RX6 yX6_isDone yX6_isDone, Cond.code yX6_isDone cX6_isDone 2 (some .int), Cond.constant RX6 100 (-1000002), Cond.constant RX6 90 (-1000003), Cond.methodLink RX6 175 yX6_trim, Cond.instanceMethod yX6_trim, Cond.selects RX6 yX6_trim yX6_trim, Cond.code yX6_trim cX6_trim 4 (some .int), Cond.methodLink RX6 97 yX6_trims]
def wsX6_plays_r6 : List Cond := [Cond.instanceMethod yX6_trims, Cond.selects RX6 yX6_trims yX6_trims, Cond.code yX6_trims cX6_trims 5 (some .int), Cond.methodLink RX6 178 yX6_sweep, Cond.instanceMethod yX6_sweep, Cond.selects RX6 yX6_sweep yX6_sweep, Cond.code yX6_sweep cX6_sweep 2 (some .int), Cond.methodLink RX6 116 yX6_sweeps, Cond.instanceMethod yX6_sweeps, Cond.selects RX6 yX6_sweeps yX6_sweeps, Cond.code yX6_sweeps cX6_sweeps 6 (some .int), Cond.methodLink RX6 181 yX6_share, Cond.instanceMethod yX6_share, Cond.selects RX6 yX6_share yX6_share, Cond.code yX6_share cX6_share 4 (some .int), Cond.methodLink RX6 87 yX6_free8, Cond.instanceMethod yX6_free8, Cond.selects RX6 yX6_free8 yX6_free8, Cond.code yX6_free8 cX6_free8 2 (some .int), Cond.methodLink RX6 94 yX6_begins, Cond.instanceMethod yX6_begins, Cond.selects RX6 yX6_begins yX6_begins, Cond.code yX6_begins cX6_begins 4 none, Cond.methodLink RX6 184 yX6_drop]
def wsX6_plays_r7 : List Cond := [Cond.instanceMethod yX6_drop, Cond.selects RX6 yX6_drop yX6_drop, Cond.code yX6_drop cX6_drop 4 (some .int), Cond.methodLink RX6 187 yX6_merge, Cond.instanceMethod yX6_merge, Cond.selects RX6 yX6_merge yX6_merge, Cond.code yX6_merge cX6_merge 1 (some .int), Cond.methodLink RX6 122 yX6_merges, Cond.instanceMethod yX6_merges, Cond.selects RX6 yX6_merges yX6_merges, Cond.code yX6_merges cX6_merges 5 (some .int), Cond.methodLink RX6 119 yX6_moves, Cond.instanceMethod yX6_moves, Cond.selects RX6 yX6_moves yX6_moves, Cond.code yX6_moves cX6_moves 5 none]
def wsX6_plays : List Cond := .code yX6_plays cX6_plays 2 (some .int) :: ((wsX6_plays_r1 ++ (wsX6_plays_r2 ++ (wsX6_plays_r3 ++ (wsX6_plays_r4 ++ (wsX6_plays_r5 ++ (wsX6_plays_r6 ++ wsX6_plays_r7)))))) ++ wsX60)
def wsX6_fault_r1 : List Cond := [Cond.constant RX6 86 (-1000001), Cond.fieldLink RX6 7 "ThinVolumesModel" "s" "[I", Cond.fieldLink RX6 16 "ThinVolumesModel" "held" "[I", Cond.constant RX6 65 (-1000004), Cond.fieldLink RX6 190 "ThinVolumesModel" "reason" "I", Cond.methodLink RX6 36 yX6_in, Cond.static yX6_in, Cond.initialized RX6, Cond.code yX6_in cX6_in 3 (some .boolean), Cond.methodLink RX6 140 yX6_copies, Cond.static yX6_copies, Cond.code yX6_copies cX6_copies 3 none, Cond.methodLink RX6 196 yX6_plays, Cond.instanceMethod yX6_plays, Cond.selects RX6 yX6_plays yX6_plays, Cond.code yX6_plays cX6_plays 2 (some .int), Cond.fieldLink RX6 28 "ThinVolumesModel" "runs" "Z", Cond.fieldLink RX6 153 "ThinVolumesModel" "spot" "I", Cond.fieldLink RX6 162 "ThinVolumesModel" "refusals" "I", Cond.fieldLink RX6 150 "ThinVolumesModel" "typed" "I", Cond.methodLink RX6 193 yX6_does, Cond.instanceMethod yX6_does, Cond.selects RX6 yX6_does yX6_does, Cond.code yX6_does cX6_does 3 (some .int)]
def wsX6_fault_r2 : List Cond := [Cond.fieldLink RX6 22 "ThinVolumesModel" "text" "[I", Cond.fieldLink RX6 25 "ThinVolumesModel" "told" "[I", Cond.methodLink RX6 165 yX6_isForm, Cond.instanceMethod yX6_isForm, Cond.selects RX6 yX6_isForm yX6_isForm, Cond.code yX6_isForm cX6_isForm 5 (some .boolean), Cond.methodLink RX6 156 yX6_isAt, Cond.instanceMethod yX6_isAt, Cond.selects RX6 yX6_isAt yX6_isAt, Cond.code yX6_isAt cX6_isAt 3 (some .boolean), Cond.methodLink RX6 159 yX6_number, Cond.instanceMethod yX6_number, Cond.selects RX6 yX6_number yX6_number, Cond.code yX6_number cX6_number 5 (some .boolean), Cond.methodLink RX6 44 yX6_isVolume, Cond.instanceMethod yX6_isVolume, Cond.selects RX6 yX6_isVolume yX6_isVolume, Cond.code yX6_isVolume cX6_isVolume 2 (some .boolean), Cond.methodLink RX6 40 yX6_of, Cond.instanceMethod yX6_of, Cond.selects RX6 yX6_of yX6_of, Cond.code yX6_of cX6_of 3 (some .int), Cond.methodLink RX6 105 yX6_isPlace, Cond.instanceMethod yX6_isPlace]
def wsX6_fault_r3 : List Cond := [Cond.selects RX6 yX6_isPlace yX6_isPlace, Cond.code yX6_isPlace cX6_isPlace 3 (some .boolean), Cond.methodLink RX6 168 yX6_write, Cond.instanceMethod yX6_write, Cond.selects RX6 yX6_write yX6_write, Cond.code yX6_write cX6_write 9 (some .int), Cond.constant RX6 112 (-1000005), Cond.methodLink RX6 91 yX6_changes, Cond.instanceMethod yX6_changes, Cond.selects RX6 yX6_changes yX6_changes, Cond.code yX6_changes cX6_changes 2 none, Cond.fieldLink RX6 32 "ThinVolumesModel" "pasts" "I", Cond.fieldLink RX6 13 "ThinVolumesModel" "past" "[I", Cond.methodLink RX6 48 yX6_piece, Cond.instanceMethod yX6_piece, Cond.selects RX6 yX6_piece yX6_piece, Cond.code yX6_piece cX6_piece 3 (some .int), Cond.methodLink RX6 54 yX6_owners, Cond.instanceMethod yX6_owners, Cond.selects RX6 yX6_owners yX6_owners, Cond.code yX6_owners cX6_owners 4 (some .int), Cond.methodLink RX6 51 yX6_ownersIn, Cond.instanceMethod yX6_ownersIn, Cond.selects RX6 yX6_ownersIn yX6_ownersIn]
def wsX6_fault_r4 : List Cond := [Cond.code yX6_ownersIn cX6_ownersIn 5 (some .int), Cond.methodLink RX6 80 yX6_available, Cond.instanceMethod yX6_available, Cond.selects RX6 yX6_available yX6_available, Cond.code yX6_available cX6_available 1 (some .int), Cond.methodLink RX6 58 yX6_free, Cond.instanceMethod yX6_free, Cond.selects RX6 yX6_free yX6_free, Cond.code yX6_free cX6_free 3 (some .int), Cond.methodLink RX6 62 yX6_promises, Cond.instanceMethod yX6_promises, Cond.selects RX6 yX6_promises yX6_promises, Cond.code yX6_promises cX6_promises 3 (some .int), Cond.methodLink RX6 70 yX6_levelBy, Cond.instanceMethod yX6_levelBy, Cond.selects RX6 yX6_levelBy yX6_levelBy, Cond.code yX6_levelBy cX6_levelBy 2 (some .int), Cond.methodLink RX6 109 yX6_asks, Cond.instanceMethod yX6_asks, Cond.selects RX6 yX6_asks yX6_asks, Cond.code yX6_asks cX6_asks 5 (some .int), Cond.methodLink RX6 66 yX6_puts, Cond.instanceMethod yX6_puts, Cond.selects RX6 yX6_puts yX6_puts]
def wsX6_fault_r5 : List Cond := [Cond.code yX6_puts cX6_puts 4 none, Cond.methodLink RX6 73 yX6_best, Cond.instanceMethod yX6_best, Cond.selects RX6 yX6_best yX6_best, Cond.code yX6_best cX6_best 3 (some .int), Cond.methodLink RX6 76 yX6_behaves, Cond.instanceMethod yX6_behaves, Cond.selects RX6 yX6_behaves yX6_behaves, Cond.code yX6_behaves cX6_behaves 4 none, Cond.methodLink RX6 83 yX6_warns, Cond.instanceMethod yX6_warns, Cond.selects RX6 yX6_warns yX6_warns, Cond.code yX6_warns cX6_warns 4 none, Cond.methodLink RX6 113 yX6_lowestFree, Cond.instanceMethod yX6_lowestFree, Cond.selects RX6 yX6_lowestFree yX6_lowestFree, Cond.code yX6_lowestFree cX6_lowestFree 2 (some .int), Cond.methodLink RX6 101 yX6_ends, Cond.instanceMethod yX6_ends, Cond.selects RX6 yX6_ends yX6_ends, Cond.code yX6_ends cX6_ends 2 none, Cond.methodLink RX6 172 yX6_isDone, Cond.instanceMethod yX6_isDone, Cond.selects RX6 yX6_isDone yX6_isDone]
def wsX6_fault_r6 : List Cond := [Cond.code yX6_isDone cX6_isDone 2 (some .int), Cond.constant RX6 100 (-1000002), Cond.constant RX6 90 (-1000003), Cond.methodLink RX6 175 yX6_trim, Cond.instanceMethod yX6_trim, Cond.selects RX6 yX6_trim yX6_trim, Cond.code yX6_trim cX6_trim 4 (some .int), Cond.methodLink RX6 97 yX6_trims, Cond.instanceMethod yX6_trims, Cond.selects RX6 yX6_trims yX6_trims, Cond.code yX6_trims cX6_trims 5 (some .int), Cond.methodLink RX6 178 yX6_sweep, Cond.instanceMethod yX6_sweep, Cond.selects RX6 yX6_sweep yX6_sweep, Cond.code yX6_sweep cX6_sweep 2 (some .int), Cond.methodLink RX6 116 yX6_sweeps, Cond.instanceMethod yX6_sweeps, Cond.selects RX6 yX6_sweeps yX6_sweeps, Cond.code yX6_sweeps cX6_sweeps 6 (some .int), Cond.methodLink RX6 181 yX6_share, Cond.instanceMethod yX6_share, Cond.selects RX6 yX6_share yX6_share, Cond.code yX6_share cX6_share 4 (some .int), Cond.methodLink RX6 87 yX6_free8]
def wsX6_fault_r7 : List Cond := [Cond.instanceMethod yX6_free8, Cond.selects RX6 yX6_free8 yX6_free8, Cond.code yX6_free8 cX6_free8 2 (some .int), Cond.methodLink RX6 94 yX6_begins, Cond.instanceMethod yX6_begins, Cond.selects RX6 yX6_begins yX6_begins, Cond.code yX6_begins cX6_begins 4 none, Cond.methodLink RX6 184 yX6_drop, Cond.instanceMethod yX6_drop, Cond.selects RX6 yX6_drop yX6_drop, Cond.code yX6_drop cX6_drop 4 (some .int), Cond.methodLink RX6 187 yX6_merge, Cond.instanceMethod yX6_merge, Cond.selects RX6 yX6_merge yX6_merge, Cond.code yX6_merge cX6_merge 1 (some .int), Cond.methodLink RX6 122 yX6_merges, Cond.instanceMethod yX6_merges, Cond.selects RX6 yX6_merges yX6_merges, Cond.code yX6_merges cX6_merges 5 (some .int), Cond.methodLink RX6 119 yX6_moves, Cond.instanceMethod yX6_moves, Cond.selects RX6 yX6_moves yX6_moves, Cond.code yX6_moves cX6_moves 5 none]
def wsX6_fault : List Cond := .code yX6_fault cX6_fault 3 (some .int) :: ((wsX6_fault_r1 ++ (wsX6_fault_r2 ++ (wsX6_fault_r3 ++ (wsX6_fault_r4 ++ (wsX6_fault_r5 ++ (wsX6_fault_r6 ++ wsX6_fault_r7)))))) ++ wsX60)
def wsX6_play_r1 : List Cond := [Cond.fieldLink RX6 7 "ThinVolumesModel" "s" "[I", Cond.fieldLink RX6 16 "ThinVolumesModel" "held" "[I", Cond.constant RX6 65 (-1000004), Cond.constant RX6 100 (-1000002), Cond.fieldLink RX6 162 "ThinVolumesModel" "refusals" "I", Cond.methodLink RX6 140 yX6_copies, Cond.static yX6_copies, Cond.initialized RX6, Cond.code yX6_copies cX6_copies 3 none, Cond.methodLink RX6 196 yX6_plays, Cond.instanceMethod yX6_plays, Cond.selects RX6 yX6_plays yX6_plays, Cond.code yX6_plays cX6_plays 2 (some .int), Cond.fieldLink RX6 28 "ThinVolumesModel" "runs" "Z", Cond.fieldLink RX6 153 "ThinVolumesModel" "spot" "I", Cond.fieldLink RX6 190 "ThinVolumesModel" "reason" "I", Cond.fieldLink RX6 150 "ThinVolumesModel" "typed" "I", Cond.methodLink RX6 193 yX6_does, Cond.instanceMethod yX6_does, Cond.selects RX6 yX6_does yX6_does, Cond.code yX6_does cX6_does 3 (some .int), Cond.fieldLink RX6 22 "ThinVolumesModel" "text" "[I", Cond.fieldLink RX6 25 "ThinVolumesModel" "told" "[I", Cond.methodLink RX6 165 yX6_isForm]
def wsX6_play_r2 : List Cond := [Cond.instanceMethod yX6_isForm, Cond.selects RX6 yX6_isForm yX6_isForm, Cond.code yX6_isForm cX6_isForm 5 (some .boolean), Cond.methodLink RX6 156 yX6_isAt, Cond.instanceMethod yX6_isAt, Cond.selects RX6 yX6_isAt yX6_isAt, Cond.code yX6_isAt cX6_isAt 3 (some .boolean), Cond.methodLink RX6 36 yX6_in, Cond.static yX6_in, Cond.code yX6_in cX6_in 3 (some .boolean), Cond.methodLink RX6 159 yX6_number, Cond.instanceMethod yX6_number, Cond.selects RX6 yX6_number yX6_number, Cond.code yX6_number cX6_number 5 (some .boolean), Cond.methodLink RX6 44 yX6_isVolume, Cond.instanceMethod yX6_isVolume, Cond.selects RX6 yX6_isVolume yX6_isVolume, Cond.code yX6_isVolume cX6_isVolume 2 (some .boolean), Cond.methodLink RX6 40 yX6_of, Cond.instanceMethod yX6_of, Cond.selects RX6 yX6_of yX6_of, Cond.code yX6_of cX6_of 3 (some .int), Cond.methodLink RX6 105 yX6_isPlace, Cond.instanceMethod yX6_isPlace]
def wsX6_play_r3 : List Cond := [Cond.selects RX6 yX6_isPlace yX6_isPlace, Cond.code yX6_isPlace cX6_isPlace 3 (some .boolean), Cond.methodLink RX6 168 yX6_write, Cond.instanceMethod yX6_write, Cond.selects RX6 yX6_write yX6_write, Cond.code yX6_write cX6_write 9 (some .int), Cond.constant RX6 86 (-1000001), Cond.constant RX6 112 (-1000005), Cond.methodLink RX6 91 yX6_changes, Cond.instanceMethod yX6_changes, Cond.selects RX6 yX6_changes yX6_changes, Cond.code yX6_changes cX6_changes 2 none, Cond.fieldLink RX6 32 "ThinVolumesModel" "pasts" "I", Cond.fieldLink RX6 13 "ThinVolumesModel" "past" "[I", Cond.methodLink RX6 48 yX6_piece, Cond.instanceMethod yX6_piece, Cond.selects RX6 yX6_piece yX6_piece, Cond.code yX6_piece cX6_piece 3 (some .int), Cond.methodLink RX6 54 yX6_owners, Cond.instanceMethod yX6_owners, Cond.selects RX6 yX6_owners yX6_owners, Cond.code yX6_owners cX6_owners 4 (some .int), Cond.methodLink RX6 51 yX6_ownersIn, Cond.instanceMethod yX6_ownersIn]
def wsX6_play_r4 : List Cond := [Cond.selects RX6 yX6_ownersIn yX6_ownersIn, Cond.code yX6_ownersIn cX6_ownersIn 5 (some .int), Cond.methodLink RX6 80 yX6_available, Cond.instanceMethod yX6_available, Cond.selects RX6 yX6_available yX6_available, Cond.code yX6_available cX6_available 1 (some .int), Cond.methodLink RX6 58 yX6_free, Cond.instanceMethod yX6_free, Cond.selects RX6 yX6_free yX6_free, Cond.code yX6_free cX6_free 3 (some .int), Cond.methodLink RX6 62 yX6_promises, Cond.instanceMethod yX6_promises, Cond.selects RX6 yX6_promises yX6_promises, Cond.code yX6_promises cX6_promises 3 (some .int), Cond.methodLink RX6 70 yX6_levelBy, Cond.instanceMethod yX6_levelBy, Cond.selects RX6 yX6_levelBy yX6_levelBy, Cond.code yX6_levelBy cX6_levelBy 2 (some .int), Cond.methodLink RX6 109 yX6_asks, Cond.instanceMethod yX6_asks, Cond.selects RX6 yX6_asks yX6_asks, Cond.code yX6_asks cX6_asks 5 (some .int), Cond.methodLink RX6 66 yX6_puts, Cond.instanceMethod yX6_puts]
def wsX6_play_r5 : List Cond := [Cond.selects RX6 yX6_puts yX6_puts, Cond.code yX6_puts cX6_puts 4 none, Cond.methodLink RX6 73 yX6_best, Cond.instanceMethod yX6_best, Cond.selects RX6 yX6_best yX6_best, Cond.code yX6_best cX6_best 3 (some .int), Cond.methodLink RX6 76 yX6_behaves, Cond.instanceMethod yX6_behaves, Cond.selects RX6 yX6_behaves yX6_behaves, Cond.code yX6_behaves cX6_behaves 4 none, Cond.methodLink RX6 83 yX6_warns, Cond.instanceMethod yX6_warns, Cond.selects RX6 yX6_warns yX6_warns, Cond.code yX6_warns cX6_warns 4 none, Cond.methodLink RX6 113 yX6_lowestFree, Cond.instanceMethod yX6_lowestFree, Cond.selects RX6 yX6_lowestFree yX6_lowestFree, Cond.code yX6_lowestFree cX6_lowestFree 2 (some .int), Cond.methodLink RX6 101 yX6_ends, Cond.instanceMethod yX6_ends, Cond.selects RX6 yX6_ends yX6_ends, Cond.code yX6_ends cX6_ends 2 none, Cond.methodLink RX6 172 yX6_isDone, Cond.instanceMethod yX6_isDone]
def wsX6_play_r6 : List Cond := [Cond.selects RX6 yX6_isDone yX6_isDone, Cond.code yX6_isDone cX6_isDone 2 (some .int), Cond.constant RX6 90 (-1000003), Cond.methodLink RX6 175 yX6_trim, Cond.instanceMethod yX6_trim, Cond.selects RX6 yX6_trim yX6_trim, Cond.code yX6_trim cX6_trim 4 (some .int), Cond.methodLink RX6 97 yX6_trims, Cond.instanceMethod yX6_trims, Cond.selects RX6 yX6_trims yX6_trims, Cond.code yX6_trims cX6_trims 5 (some .int), Cond.methodLink RX6 178 yX6_sweep, Cond.instanceMethod yX6_sweep, Cond.selects RX6 yX6_sweep yX6_sweep, Cond.code yX6_sweep cX6_sweep 2 (some .int), Cond.methodLink RX6 116 yX6_sweeps, Cond.instanceMethod yX6_sweeps, Cond.selects RX6 yX6_sweeps yX6_sweeps, Cond.code yX6_sweeps cX6_sweeps 6 (some .int), Cond.methodLink RX6 181 yX6_share, Cond.instanceMethod yX6_share, Cond.selects RX6 yX6_share yX6_share, Cond.code yX6_share cX6_share 4 (some .int), Cond.methodLink RX6 87 yX6_free8]
def wsX6_play_r7 : List Cond := [Cond.instanceMethod yX6_free8, Cond.selects RX6 yX6_free8 yX6_free8, Cond.code yX6_free8 cX6_free8 2 (some .int), Cond.methodLink RX6 94 yX6_begins, Cond.instanceMethod yX6_begins, Cond.selects RX6 yX6_begins yX6_begins, Cond.code yX6_begins cX6_begins 4 none, Cond.methodLink RX6 184 yX6_drop, Cond.instanceMethod yX6_drop, Cond.selects RX6 yX6_drop yX6_drop, Cond.code yX6_drop cX6_drop 4 (some .int), Cond.methodLink RX6 187 yX6_merge, Cond.instanceMethod yX6_merge, Cond.selects RX6 yX6_merge yX6_merge, Cond.code yX6_merge cX6_merge 1 (some .int), Cond.methodLink RX6 122 yX6_merges, Cond.instanceMethod yX6_merges, Cond.selects RX6 yX6_merges yX6_merges, Cond.code yX6_merges cX6_merges 5 (some .int), Cond.methodLink RX6 119 yX6_moves, Cond.instanceMethod yX6_moves, Cond.selects RX6 yX6_moves yX6_moves, Cond.code yX6_moves cX6_moves 5 none]
def wsX6_play : List Cond := .code yX6_play cX6_play 2 (some .int) :: ((wsX6_play_r1 ++ (wsX6_play_r2 ++ (wsX6_play_r3 ++ (wsX6_play_r4 ++ (wsX6_play_r5 ++ (wsX6_play_r6 ++ wsX6_play_r7)))))) ++ wsX60)
def wsJ9_max_7cf53 : List Cond := .code yJ9_max_7cf53 cJ9_max_7cf53 2 (some .int) :: ([])
def wsJ9_min_7cf53 : List Cond := .code yJ9_min_7cf53 cJ9_min_7cf53 2 (some .int) :: ([])
def wsL_law_r1 : List Cond := [Cond.classLink RL 7 RX5, Cond.instantiable RX5 4, Cond.initialized RX5, Cond.classLink RL 10 RX6, Cond.instantiable RX6 12, Cond.initialized RX6, Cond.methodLink RL 9 yX5_init, Cond.instanceMethod yX5_init, Cond.code yX5_init cX5_init 1 none, Cond.methodLink RX5 3 objectInit, Cond.instanceMethod objectInit, Cond.code objectInit ⟨#[0xb1]⟩ 1 none, Cond.classLink RX5 9 RX1, Cond.instantiable RX1 14, Cond.initialized RX1, Cond.fieldLink RX5 12 "ThinVolumes" "pool" "LThinVolumes$Pool;", Cond.classLink RX5 16 RX0, Cond.instantiable RX0 2, Cond.initialized RX0, Cond.fieldLink RX5 19 "ThinVolumes" "history" "LThinVolumes$History;", Cond.classLink RX5 23 RX3, Cond.instantiable RX3 5, Cond.initialized RX3, Cond.fieldLink RX5 26 "ThinVolumes" "text" "LThinVolumes$Text;"]
def wsL_law_r2 : List Cond := [Cond.classLink RX5 30 RX2, Cond.instantiable RX2 3, Cond.initialized RX2, Cond.fieldLink RX5 33 "ThinVolumes" "rehearsal" "LThinVolumes$Rehearsal;", Cond.methodLink RX5 11 yX1_init, Cond.instanceMethod yX1_init, Cond.code yX1_init cX1_init 2 none, Cond.methodLink RX1 3 objectInit, Cond.arrayClass .int, Cond.fieldLink RX1 9 "ThinVolumes$Pool" "sizes" "[I", Cond.fieldLink RX1 15 "ThinVolumes$Pool" "manners" "[I", Cond.fieldLink RX1 18 "ThinVolumes$Pool" "promises" "[I", Cond.fieldLink RX1 21 "ThinVolumes$Pool" "parents" "[I", Cond.fieldLink RX1 24 "ThinVolumes$Pool" "refusalsOf" "[I", Cond.fieldLink RX1 27 "ThinVolumes$Pool" "piecesGotBy" "[I", Cond.fieldLink RX1 30 "ThinVolumes$Pool" "spots" "[I", Cond.fieldLink RX1 33 "ThinVolumes$Pool" "values" "[I", Cond.fieldLink RX1 36 "ThinVolumes$Pool" "owners" "[I", Cond.fieldLink RX1 39 "ThinVolumes$Pool" "settings" "[I", Cond.classLink RX1 42 RX4, Cond.instantiable RX4 4, Cond.initialized RX4, Cond.fieldLink RX1 45 "ThinVolumes$Pool" "warnings" "LThinVolumes$Warnings;", Cond.instanceMethod yX4_init]
def wsL_law_r3 : List Cond := [Cond.code yX4_init cX4_init 1 none, Cond.methodLink RX4 3 objectInit, Cond.fieldLink RX4 9 "ThinVolumes$Warnings" "kinds" "[I", Cond.fieldLink RX4 15 "ThinVolumes$Warnings" "volumes" "[I", Cond.fieldLink RX4 18 "ThinVolumes$Warnings" "available" "[I", Cond.methodLink RX5 18 yX0_init, Cond.instanceMethod yX0_init, Cond.code yX0_init cX0_init 2 none, Cond.methodLink RX0 3 objectInit, Cond.classLink RX0 9 RX1, Cond.fieldLink RX0 11 "ThinVolumes$History" "states" "[LThinVolumes$Pool;", Cond.methodLink RX0 17 yX1_init, Cond.instanceMethod yX3_init, Cond.code yX3_init cX3_init 1 none, Cond.methodLink RX3 3 objectInit, Cond.fieldLink RX3 9 "ThinVolumes$Text" "signs" "[I", Cond.fieldLink RX3 15 "ThinVolumes$Text" "numbers" "[I", Cond.instanceMethod yX2_init, Cond.code yX2_init cX2_init 1 none, Cond.methodLink RX2 3 objectInit, Cond.classLink RX2 9 RX1, Cond.fieldLink RX2 12 "ThinVolumes$Rehearsal" "trial" "LThinVolumes$Pool;", Cond.methodLink RX2 11 yX1_init, Cond.methodLink RL 12 yX6_init]
def wsL_law_r4 : List Cond := [Cond.instanceMethod yX6_init, Cond.code yX6_init cX6_init 1 none, Cond.methodLink RX6 1 objectInit, Cond.fieldLink RX6 7 "ThinVolumesModel" "s" "[I", Cond.fieldLink RX6 13 "ThinVolumesModel" "past" "[I", Cond.fieldLink RX6 16 "ThinVolumesModel" "held" "[I", Cond.fieldLink RX6 19 "ThinVolumesModel" "tried" "[I", Cond.fieldLink RX6 22 "ThinVolumesModel" "text" "[I", Cond.fieldLink RX6 25 "ThinVolumesModel" "told" "[I", Cond.methodLink RL 13 yX5_volume, Cond.instanceMethod yX5_volume, Cond.selects RX5 yX5_volume yX5_volume, Cond.code yX5_volume cX5_volume 2 (some .int), Cond.methodLink RX5 37 yX0_prepare, Cond.instanceMethod yX0_prepare, Cond.selects RX0 yX0_prepare yX0_prepare, Cond.code yX0_prepare cX0_prepare 2 none, Cond.fieldLink RX0 18 "ThinVolumes$History" "kept" "I", Cond.methodLink RX0 22 yX0_copyInto, Cond.instanceMethod yX0_copyInto, Cond.selects RX0 yX0_copyInto yX0_copyInto, Cond.code yX0_copyInto cX0_copyInto 3 none, Cond.methodLink RX0 29 yX1_copyFrom, Cond.instanceMethod yX1_copyFrom]
def wsL_law_r5 : List Cond := [Cond.selects RX1 yX1_copyFrom yX1_copyFrom, Cond.code yX1_copyFrom cX1_copyFrom 2 none, Cond.methodLink RX1 49 arraycopyName, Cond.native arraycopyName, Cond.static arraycopyName, Cond.initialized "java/lang/System", Cond.fieldLink RX1 59 "ThinVolumes$Pool" "refusals" "I", Cond.fieldLink RX1 63 "ThinVolumes$Pool" "piecesGot" "I", Cond.fieldLink RX1 66 "ThinVolumes$Pool" "piecesFreed" "I", Cond.methodLink RX1 55 yX4_copyFrom, Cond.instanceMethod yX4_copyFrom, Cond.selects RX4 yX4_copyFrom yX4_copyFrom, Cond.code yX4_copyFrom cX4_copyFrom 2 none, Cond.methodLink RX4 21 arraycopyName, Cond.fieldLink RX4 27 "ThinVolumes$Warnings" "kept" "I", Cond.methodLink RX5 41 yX1_openVolume, Cond.instanceMethod yX1_openVolume, Cond.selects RX1 yX1_openVolume yX1_openVolume, Cond.code yX1_openVolume cX1_openVolume 3 (some .int), Cond.constant RX1 124 (-1000001), Cond.constant RX1 125 (-1000003), Cond.methodLink RX1 69 yX1_lives, Cond.instanceMethod yX1_lives, Cond.selects RX1 yX1_lives yX1_lives]
def wsL_law_r6 : List Cond := [Cond.code yX1_lives cX1_lives 2 (some .boolean), Cond.methodLink RX5 45 yX5_settle, Cond.instanceMethod yX5_settle, Cond.selects RX5 yX5_settle yX5_settle, Cond.code yX5_settle cX5_settle 2 (some .int), Cond.methodLink RX5 227 yX5_isError, Cond.static yX5_isError, Cond.code yX5_isError cX5_isError 1 (some .boolean), Cond.constant RX5 79 (-1000001), Cond.constant RX5 212 (-1000002), Cond.constant RX5 216 (-1000003), Cond.constant RX5 86 (-1000004), Cond.methodLink RX5 230 yX0_keepPrepared, Cond.instanceMethod yX0_keepPrepared, Cond.selects RX0 yX0_keepPrepared yX0_keepPrepared, Cond.code yX0_keepPrepared cX0_keepPrepared 1 none, Cond.methodLink RX0 26 yX0_dropOldest, Cond.instanceMethod yX0_dropOldest, Cond.selects RX0 yX0_dropOldest yX0_dropOldest, Cond.code yX0_dropOldest cX0_dropOldest 2 none, Cond.methodLink RL 17 yX6_volume, Cond.instanceMethod yX6_volume, Cond.selects RX6 yX6_volume yX6_volume, Cond.code yX6_volume cX6_volume 3 (some .int)]
def wsL_law_r7 : List Cond := [Cond.constant RX6 86 (-1000001), Cond.constant RX6 90 (-1000003), Cond.methodLink RX6 36 yX6_in, Cond.static yX6_in, Cond.code yX6_in cX6_in 3 (some .boolean), Cond.methodLink RX6 87 yX6_free8, Cond.instanceMethod yX6_free8, Cond.selects RX6 yX6_free8 yX6_free8, Cond.code yX6_free8 cX6_free8 2 (some .int), Cond.methodLink RX6 40 yX6_of, Cond.instanceMethod yX6_of, Cond.selects RX6 yX6_of yX6_of, Cond.code yX6_of cX6_of 3 (some .int), Cond.methodLink RX6 91 yX6_changes, Cond.instanceMethod yX6_changes, Cond.selects RX6 yX6_changes yX6_changes, Cond.code yX6_changes cX6_changes 2 none, Cond.fieldLink RX6 28 "ThinVolumesModel" "runs" "Z", Cond.fieldLink RX6 32 "ThinVolumesModel" "pasts" "I", Cond.methodLink RX6 94 yX6_begins, Cond.instanceMethod yX6_begins, Cond.selects RX6 yX6_begins yX6_begins, Cond.code yX6_begins cX6_begins 4 none, Cond.methodLink RX6 66 yX6_puts]
def wsL_law_r8 : List Cond := [Cond.instanceMethod yX6_puts, Cond.selects RX6 yX6_puts yX6_puts, Cond.code yX6_puts cX6_puts 4 none, Cond.methodLink RL 18 yX5_share, Cond.instanceMethod yX5_share, Cond.selects RX5 yX5_share yX5_share, Cond.code yX5_share cX5_share 2 (some .int), Cond.methodLink RX5 48 yX1_cloneVolume, Cond.instanceMethod yX1_cloneVolume, Cond.selects RX1 yX1_cloneVolume yX1_cloneVolume, Cond.code yX1_cloneVolume cX1_cloneVolume 5 (some .int), Cond.methodLink RX1 126 yX1_openVolume, Cond.methodLink RX1 80 yX1_pieceAt, Cond.instanceMethod yX1_pieceAt, Cond.selects RX1 yX1_pieceAt yX1_pieceAt, Cond.code yX1_pieceAt cX1_pieceAt 3 (some .int), Cond.methodLink RX1 73 yX1_hasPlace, Cond.instanceMethod yX1_hasPlace, Cond.selects RX1 yX1_hasPlace yX1_hasPlace, Cond.code yX1_hasPlace cX1_hasPlace 3 (some .boolean), Cond.methodLink RX1 77 yX1_isPiece, Cond.instanceMethod yX1_isPiece, Cond.selects RX1 yX1_isPiece yX1_isPiece, Cond.code yX1_isPiece cX1_isPiece 2 (some .boolean)]
def wsL_law_r9 : List Cond := [Cond.methodLink RL 21 yX6_share, Cond.instanceMethod yX6_share, Cond.selects RX6 yX6_share yX6_share, Cond.code yX6_share cX6_share 4 (some .int), Cond.methodLink RX6 44 yX6_isVolume, Cond.instanceMethod yX6_isVolume, Cond.selects RX6 yX6_isVolume yX6_isVolume, Cond.code yX6_isVolume cX6_isVolume 2 (some .boolean), Cond.methodLink RX6 48 yX6_piece, Cond.instanceMethod yX6_piece, Cond.selects RX6 yX6_piece yX6_piece, Cond.code yX6_piece cX6_piece 3 (some .int), Cond.methodLink RL 22 yX5_drop, Cond.instanceMethod yX5_drop, Cond.selects RX5 yX5_drop yX5_drop, Cond.code yX5_drop cX5_drop 2 (some .int), Cond.methodLink RX5 51 yX1_dropVolume, Cond.instanceMethod yX1_dropVolume, Cond.selects RX1 yX1_dropVolume yX1_dropVolume, Cond.code yX1_dropVolume cX1_dropVolume 4 (some .int), Cond.methodLink RX1 129 yX1_loosen, Cond.instanceMethod yX1_loosen, Cond.selects RX1 yX1_loosen yX1_loosen, Cond.code yX1_loosen cX1_loosen 4 (some .int)]
def wsL_law_r10 : List Cond := [Cond.methodLink RL 25 yX6_drop, Cond.instanceMethod yX6_drop, Cond.selects RX6 yX6_drop yX6_drop, Cond.code yX6_drop cX6_drop 4 (some .int), Cond.methodLink RX6 97 yX6_trims, Cond.instanceMethod yX6_trims, Cond.selects RX6 yX6_trims yX6_trims, Cond.code yX6_trims cX6_trims 5 (some .int), Cond.methodLink RX6 54 yX6_owners, Cond.instanceMethod yX6_owners, Cond.selects RX6 yX6_owners yX6_owners, Cond.code yX6_owners cX6_owners 4 (some .int), Cond.methodLink RX6 51 yX6_ownersIn, Cond.instanceMethod yX6_ownersIn, Cond.selects RX6 yX6_ownersIn yX6_ownersIn, Cond.code yX6_ownersIn cX6_ownersIn 5 (some .int), Cond.methodLink RL 26 yX5_promise, Cond.instanceMethod yX5_promise, Cond.selects RX5 yX5_promise yX5_promise, Cond.code yX5_promise cX5_promise 3 (some .int), Cond.methodLink RX5 54 yX1_changePromise, Cond.instanceMethod yX1_changePromise, Cond.selects RX1 yX1_changePromise yX1_changePromise, Cond.code yX1_changePromise cX1_changePromise 5 (some .int)]
def wsL_law_r11 : List Cond := [Cond.constant RX1 132 (-1000002), Cond.methodLink RX1 100 yX1_allPromises, Cond.instanceMethod yX1_allPromises, Cond.selects RX1 yX1_allPromises yX1_allPromises, Cond.code yX1_allPromises cX1_allPromises 3 (some .int), Cond.methodLink RX1 96 yX1_freePieces, Cond.instanceMethod yX1_freePieces, Cond.selects RX1 yX1_freePieces yX1_freePieces, Cond.code yX1_freePieces cX1_freePieces 3 (some .int), Cond.methodLink RX1 133 yX1_level, Cond.instanceMethod yX1_level, Cond.selects RX1 yX1_level yX1_level, Cond.code yX1_level cX1_level 1 (some .int), Cond.methodLink RX1 103 yX1_available, Cond.instanceMethod yX1_available, Cond.selects RX1 yX1_available yX1_available, Cond.code yX1_available cX1_available 1 (some .int), Cond.methodLink RX1 106 yX1_levelWith, Cond.instanceMethod yX1_levelWith, Cond.selects RX1 yX1_levelWith yX1_levelWith, Cond.code yX1_levelWith cX1_levelWith 2 (some .int), Cond.methodLink RX1 136 yX1_warnIfLevelRose, Cond.instanceMethod yX1_warnIfLevelRose, Cond.selects RX1 yX1_warnIfLevelRose yX1_warnIfLevelRose]
def wsL_law_r12 : List Cond := [Cond.code yX1_warnIfLevelRose cX1_warnIfLevelRose 3 none, Cond.methodLink RX1 120 yX4_add, Cond.instanceMethod yX4_add, Cond.selects RX4 yX4_add yX4_add, Cond.code yX4_add cX4_add 4 none, Cond.methodLink RX4 31 Lib.Math.min.name, Cond.static Lib.Math.min.name, Cond.initialized "java/lang/Math", Cond.code Lib.Math.min.name Lib.Math.min.code 2 (some .int), Cond.methodLink RL 30 yX6_promise, Cond.instanceMethod yX6_promise, Cond.selects RX6 yX6_promise yX6_promise, Cond.code yX6_promise cX6_promise 5 (some .int), Cond.constant RX6 100 (-1000002), Cond.methodLink RX6 62 yX6_promises, Cond.instanceMethod yX6_promises, Cond.selects RX6 yX6_promises yX6_promises, Cond.code yX6_promises cX6_promises 3 (some .int), Cond.methodLink RX6 58 yX6_free, Cond.instanceMethod yX6_free, Cond.selects RX6 yX6_free yX6_free, Cond.code yX6_free cX6_free 3 (some .int), Cond.methodLink RX6 80 yX6_available, Cond.instanceMethod yX6_available]
def wsL_law_r13 : List Cond := [Cond.selects RX6 yX6_available yX6_available, Cond.code yX6_available cX6_available 1 (some .int), Cond.methodLink RX6 70 yX6_levelBy, Cond.instanceMethod yX6_levelBy, Cond.selects RX6 yX6_levelBy yX6_levelBy, Cond.code yX6_levelBy cX6_levelBy 2 (some .int), Cond.methodLink RX6 101 yX6_ends, Cond.instanceMethod yX6_ends, Cond.selects RX6 yX6_ends yX6_ends, Cond.code yX6_ends cX6_ends 2 none, Cond.methodLink RX6 83 yX6_warns, Cond.instanceMethod yX6_warns, Cond.selects RX6 yX6_warns yX6_warns, Cond.code yX6_warns cX6_warns 4 none, Cond.methodLink RL 31 yX5_set, Cond.instanceMethod yX5_set, Cond.selects RX5 yX5_set yX5_set, Cond.code yX5_set cX5_set 3 (some .int), Cond.methodLink RX5 58 yX1_changeSetting, Cond.instanceMethod yX1_changeSetting, Cond.selects RX1 yX1_changeSetting yX1_changeSetting, Cond.code yX1_changeSetting cX1_changeSetting 5 (some .int), Cond.methodLink RX1 140 yX1_highestSetting, Cond.instanceMethod yX1_highestSetting]
def wsL_law_r14 : List Cond := [Cond.selects RX1 yX1_highestSetting yX1_highestSetting, Cond.code yX1_highestSetting cX1_highestSetting 2 (some .int), Cond.methodLink RL 34 yX6_set, Cond.instanceMethod yX6_set, Cond.selects RX6 yX6_set yX6_set, Cond.code yX6_set cX6_set 5 (some .int), Cond.methodLink RL 35 yX5_write, Cond.instanceMethod yX5_write, Cond.selects RX5 yX5_write yX5_write, Cond.code yX5_write cX5_write 4 (some .int), Cond.methodLink RX5 61 yX1_writePlace, Cond.instanceMethod yX1_writePlace, Cond.selects RX1 yX1_writePlace yX1_writePlace, Cond.code yX1_writePlace cX1_writePlace 8 (some .int), Cond.constant RX1 149 (-1000005), Cond.methodLink RX1 143 yX1_lowestFreePiece, Cond.instanceMethod yX1_lowestFreePiece, Cond.selects RX1 yX1_lowestFreePiece yX1_lowestFreePiece, Cond.code yX1_lowestFreePiece cX1_lowestFreePiece 2 (some .int), Cond.methodLink RX1 113 yX1_wouldGetUnpromised, Cond.instanceMethod yX1_wouldGetUnpromised, Cond.selects RX1 yX1_wouldGetUnpromised yX1_wouldGetUnpromised, Cond.code yX1_wouldGetUnpromised cX1_wouldGetUnpromised 5 (some .boolean), Cond.methodLink RX1 109 yX1_rankWith]
def wsL_law_r15 : List Cond := [Cond.instanceMethod yX1_rankWith, Cond.selects RX1 yX1_rankWith yX1_rankWith, Cond.code yX1_rankWith cX1_rankWith 6 (some .int), Cond.methodLink RX1 146 yX1_refuse, Cond.instanceMethod yX1_refuse, Cond.selects RX1 yX1_refuse yX1_refuse, Cond.code yX1_refuse cX1_refuse 2 none, Cond.methodLink RX1 91 Lib.Math.max.name, Cond.static Lib.Math.max.name, Cond.code Lib.Math.max.name Lib.Math.max.code 2 (some .int), Cond.methodLink RX1 150 yX1_bookPiece, Cond.instanceMethod yX1_bookPiece, Cond.selects RX1 yX1_bookPiece yX1_bookPiece, Cond.code yX1_bookPiece cX1_bookPiece 4 none, Cond.methodLink RX1 117 yX1_mannersBehindUnpromised, Cond.instanceMethod yX1_mannersBehindUnpromised, Cond.selects RX1 yX1_mannersBehindUnpromised yX1_mannersBehindUnpromised, Cond.code yX1_mannersBehindUnpromised cX1_mannersBehindUnpromised 3 (some .int), Cond.methodLink RL 39 yX6_write, Cond.instanceMethod yX6_write, Cond.selects RX6 yX6_write yX6_write, Cond.code yX6_write cX6_write 9 (some .int), Cond.constant RX6 112 (-1000005), Cond.methodLink RX6 105 yX6_isPlace]
def wsL_law_r16 : List Cond := [Cond.instanceMethod yX6_isPlace, Cond.selects RX6 yX6_isPlace yX6_isPlace, Cond.code yX6_isPlace cX6_isPlace 3 (some .boolean), Cond.methodLink RX6 109 yX6_asks, Cond.instanceMethod yX6_asks, Cond.selects RX6 yX6_asks yX6_asks, Cond.code yX6_asks cX6_asks 5 (some .int), Cond.methodLink RX6 73 yX6_best, Cond.instanceMethod yX6_best, Cond.selects RX6 yX6_best yX6_best, Cond.code yX6_best cX6_best 3 (some .int), Cond.constant RX6 65 (-1000004), Cond.methodLink RX6 76 yX6_behaves, Cond.instanceMethod yX6_behaves, Cond.selects RX6 yX6_behaves yX6_behaves, Cond.code yX6_behaves cX6_behaves 4 none, Cond.methodLink RX6 113 yX6_lowestFree, Cond.instanceMethod yX6_lowestFree, Cond.selects RX6 yX6_lowestFree yX6_lowestFree, Cond.code yX6_lowestFree cX6_lowestFree 2 (some .int), Cond.methodLink RL 40 yX5_trim, Cond.instanceMethod yX5_trim, Cond.selects RX5 yX5_trim yX5_trim, Cond.code yX5_trim cX5_trim 3 (some .int)]
def wsL_law_r17 : List Cond := [Cond.methodLink RX5 65 yX1_trimPlace, Cond.instanceMethod yX1_trimPlace, Cond.selects RX1 yX1_trimPlace yX1_trimPlace, Cond.code yX1_trimPlace cX1_trimPlace 4 (some .int), Cond.methodLink RX1 154 yX1_thank, Cond.instanceMethod yX1_thank, Cond.selects RX1 yX1_thank yX1_thank, Cond.code yX1_thank cX1_thank 3 none, Cond.methodLink RX1 158 Lib.Math.min.name, Cond.methodLink RL 43 yX6_trim, Cond.instanceMethod yX6_trim, Cond.selects RX6 yX6_trim yX6_trim, Cond.code yX6_trim cX6_trim 4 (some .int), Cond.methodLink RL 44 yX5_sweep, Cond.instanceMethod yX5_sweep, Cond.selects RX5 yX5_sweep yX5_sweep, Cond.code yX5_sweep cX5_sweep 2 (some .int), Cond.methodLink RX5 68 yX1_sweepVolume, Cond.instanceMethod yX1_sweepVolume, Cond.selects RX1 yX1_sweepVolume yX1_sweepVolume, Cond.code yX1_sweepVolume cX1_sweepVolume 5 (some .int), Cond.methodLink RL 47 yX6_sweep, Cond.instanceMethod yX6_sweep, Cond.selects RX6 yX6_sweep yX6_sweep]
def wsL_law_r18 : List Cond := [Cond.code yX6_sweep cX6_sweep 2 (some .int), Cond.methodLink RX6 116 yX6_sweeps, Cond.instanceMethod yX6_sweeps, Cond.selects RX6 yX6_sweeps yX6_sweeps, Cond.code yX6_sweeps cX6_sweeps 6 (some .int), Cond.methodLink RL 48 yX5_merge, Cond.instanceMethod yX5_merge, Cond.selects RX5 yX5_merge yX5_merge, Cond.code yX5_merge cX5_merge 1 (some .int), Cond.methodLink RX5 71 yX1_mergePieces, Cond.instanceMethod yX1_mergePieces, Cond.selects RX1 yX1_mergePieces yX1_mergePieces, Cond.code yX1_mergePieces cX1_mergePieces 4 (some .int), Cond.methodLink RX1 161 yX1_moveOwners, Cond.instanceMethod yX1_moveOwners, Cond.selects RX1 yX1_moveOwners yX1_moveOwners, Cond.code yX1_moveOwners cX1_moveOwners 4 none, Cond.methodLink RL 52 yX6_merge, Cond.instanceMethod yX6_merge, Cond.selects RX6 yX6_merge yX6_merge, Cond.code yX6_merge cX6_merge 1 (some .int), Cond.methodLink RX6 122 yX6_merges, Cond.instanceMethod yX6_merges, Cond.selects RX6 yX6_merges yX6_merges]
def wsL_law_r19 : List Cond := [Cond.code yX6_merges cX6_merges 5 (some .int), Cond.methodLink RX6 119 yX6_moves, Cond.instanceMethod yX6_moves, Cond.selects RX6 yX6_moves yX6_moves, Cond.code yX6_moves cX6_moves 5 none, Cond.methodLink RL 53 yX5_read, Cond.instanceMethod yX5_read, Cond.selects RX5 yX5_read yX5_read, Cond.code yX5_read cX5_read 5 (some .int), Cond.methodLink RX5 75 yX1_hasPlace, Cond.methodLink RX5 80 yX1_pieceAt, Cond.methodLink RX5 83 yX1_valueOf, Cond.instanceMethod yX1_valueOf, Cond.selects RX1 yX1_valueOf yX1_valueOf, Cond.code yX1_valueOf cX1_valueOf 2 (some .int), Cond.methodLink RL 56 yX6_read, Cond.instanceMethod yX6_read, Cond.selects RX6 yX6_read yX6_read, Cond.code yX6_read cX6_read 5 (some .int), Cond.methodLink RL 57 yX5_volumeOf, Cond.instanceMethod yX5_volumeOf, Cond.selects RX5 yX5_volumeOf yX5_volumeOf, Cond.code yX5_volumeOf cX5_volumeOf 3 (some .int), Cond.fieldLink RX5 91 "ThinVolumes$Pool" "sizes" "[I"]
def wsL_law_r20 : List Cond := [Cond.fieldLink RX5 101 "ThinVolumes$Pool" "manners" "[I", Cond.fieldLink RX5 104 "ThinVolumes$Pool" "promises" "[I", Cond.fieldLink RX5 107 "ThinVolumes$Pool" "parents" "[I", Cond.fieldLink RX5 116 "ThinVolumes$Pool" "refusalsOf" "[I", Cond.fieldLink RX5 119 "ThinVolumes$Pool" "piecesGotBy" "[I", Cond.methodLink RX5 87 yX1_lives, Cond.methodLink RX5 95 yX1_placesWithPieces, Cond.instanceMethod yX1_placesWithPieces, Cond.selects RX1 yX1_placesWithPieces yX1_placesWithPieces, Cond.code yX1_placesWithPieces cX1_placesWithPieces 4 (some .int), Cond.methodLink RX5 98 yX1_piecesOwnedOnlyBy, Cond.instanceMethod yX1_piecesOwnedOnlyBy, Cond.selects RX1 yX1_piecesOwnedOnlyBy yX1_piecesOwnedOnlyBy, Cond.code yX1_piecesOwnedOnlyBy cX1_piecesOwnedOnlyBy 4 (some .int), Cond.methodLink RX1 84 yX1_volumesThatOwn, Cond.instanceMethod yX1_volumesThatOwn, Cond.selects RX1 yX1_volumesThatOwn yX1_volumesThatOwn, Cond.code yX1_volumesThatOwn cX1_volumesThatOwn 5 (some .int), Cond.methodLink RX5 110 yX1_clonesOf, Cond.instanceMethod yX1_clonesOf, Cond.selects RX1 yX1_clonesOf yX1_clonesOf, Cond.code yX1_clonesOf cX1_clonesOf 4 (some .int), Cond.methodLink RX5 113 yX1_rankWith, Cond.methodLink RL 60 yX6_volumeOf]
def wsL_law_r21 : List Cond := [Cond.instanceMethod yX6_volumeOf, Cond.selects RX6 yX6_volumeOf yX6_volumeOf, Cond.code yX6_volumeOf cX6_volumeOf 3 (some .int), Cond.methodLink RX6 128 yX6_filled, Cond.instanceMethod yX6_filled, Cond.selects RX6 yX6_filled yX6_filled, Cond.code yX6_filled cX6_filled 4 (some .int), Cond.methodLink RX6 131 yX6_ownedBy, Cond.instanceMethod yX6_ownedBy, Cond.selects RX6 yX6_ownedBy yX6_ownedBy, Cond.code yX6_ownedBy cX6_ownedBy 5 (some .int), Cond.methodLink RX6 125 yX6_volumesOf, Cond.instanceMethod yX6_volumesOf, Cond.selects RX6 yX6_volumesOf yX6_volumesOf, Cond.code yX6_volumesOf cX6_volumesOf 4 (some .int), Cond.methodLink RX6 134 yX6_clones, Cond.instanceMethod yX6_clones, Cond.selects RX6 yX6_clones yX6_clones, Cond.code yX6_clones cX6_clones 4 (some .int), Cond.methodLink RX6 137 yX6_rank, Cond.instanceMethod yX6_rank, Cond.selects RX6 yX6_rank yX6_rank, Cond.code yX6_rank cX6_rank 5 (some .int), Cond.methodLink RL 61 yX5_pieceOf]
def wsL_law_r22 : List Cond := [Cond.instanceMethod yX5_pieceOf, Cond.selects RX5 yX5_pieceOf yX5_pieceOf, Cond.code yX5_pieceOf cX5_pieceOf 3 (some .int), Cond.fieldLink RX5 125 "ThinVolumes$Pool" "owners" "[I", Cond.fieldLink RX5 128 "ThinVolumes$Pool" "values" "[I", Cond.methodLink RX5 122 yX1_isPiece, Cond.methodLink RX5 131 yX1_volumesThatOwn, Cond.methodLink RL 64 yX6_pieceOf, Cond.instanceMethod yX6_pieceOf, Cond.selects RX6 yX6_pieceOf yX6_pieceOf, Cond.code yX6_pieceOf cX6_pieceOf 3 (some .int), Cond.methodLink RL 65 yX5_warningOf, Cond.instanceMethod yX5_warningOf, Cond.selects RX5 yX5_warningOf yX5_warningOf, Cond.code yX5_warningOf cX5_warningOf 3 (some .int), Cond.fieldLink RX5 134 "ThinVolumes$Pool" "warnings" "LThinVolumes$Warnings;", Cond.methodLink RX5 138 yX4_tell, Cond.instanceMethod yX4_tell, Cond.selects RX4 yX4_tell yX4_tell, Cond.code yX4_tell cX4_tell 3 (some .int), Cond.constant RX4 37 (-1000004), Cond.methodLink RL 68 yX6_warningOf, Cond.instanceMethod yX6_warningOf, Cond.selects RX6 yX6_warningOf yX6_warningOf]
def wsL_law_r23 : List Cond := [Cond.code yX6_warningOf cX6_warningOf 3 (some .int), Cond.methodLink RL 69 yX5_couldGet, Cond.instanceMethod yX5_couldGet, Cond.selects RX5 yX5_couldGet yX5_couldGet, Cond.code yX5_couldGet cX5_couldGet 2 (some .int), Cond.methodLink RX5 143 yX1_piecesInReach, Cond.instanceMethod yX1_piecesInReach, Cond.selects RX1 yX1_piecesInReach yX1_piecesInReach, Cond.code yX1_piecesInReach cX1_piecesInReach 5 (some .int), Cond.methodLink RL 72 yX6_couldGet, Cond.instanceMethod yX6_couldGet, Cond.selects RX6 yX6_couldGet yX6_couldGet, Cond.code yX6_couldGet cX6_couldGet 4 (some .int), Cond.methodLink RX6 140 yX6_copies, Cond.static yX6_copies, Cond.code yX6_copies cX6_copies 3 none, Cond.methodLink RL 73 yX5_couldFree, Cond.instanceMethod yX5_couldFree, Cond.selects RX5 yX5_couldFree yX5_couldFree, Cond.code yX5_couldFree cX5_couldFree 5 (some .int), Cond.fieldLink RX5 146 "ThinVolumes$Rehearsal" "trial" "LThinVolumes$Pool;", Cond.methodLink RX5 149 yX1_copyFrom, Cond.methodLink RL 76 yX6_couldFree, Cond.instanceMethod yX6_couldFree]
def wsL_law_r24 : List Cond := [Cond.selects RX6 yX6_couldFree yX6_couldFree, Cond.code yX6_couldFree cX6_couldFree 4 (some .int), Cond.methodLink RL 77 yX5_family, Cond.instanceMethod yX5_family, Cond.selects RX5 yX5_family yX5_family, Cond.code yX5_family cX5_family 3 (some .int), Cond.methodLink RX5 152 yX1_familyOf, Cond.instanceMethod yX1_familyOf, Cond.selects RX1 yX1_familyOf yX1_familyOf, Cond.code yX1_familyOf cX1_familyOf 4 (some .int), Cond.methodLink RX1 88 yX1_stepsUp, Cond.instanceMethod yX1_stepsUp, Cond.selects RX1 yX1_stepsUp yX1_stepsUp, Cond.code yX1_stepsUp cX1_stepsUp 5 (some .int), Cond.methodLink RX5 155 yX1_longestLineFrom, Cond.instanceMethod yX1_longestLineFrom, Cond.selects RX1 yX1_longestLineFrom yX1_longestLineFrom, Cond.code yX1_longestLineFrom cX1_longestLineFrom 4 (some .int), Cond.methodLink RL 80 yX6_family, Cond.instanceMethod yX6_family, Cond.selects RX6 yX6_family yX6_family, Cond.code yX6_family cX6_family 8 (some .int), Cond.methodLink RL 81 yX5_ranked, Cond.instanceMethod yX5_ranked]
def wsL_law_r25 : List Cond := [Cond.selects RX5 yX5_ranked yX5_ranked, Cond.code yX5_ranked cX5_ranked 2 (some .int), Cond.methodLink RX5 158 yX1_volumeWithRank, Cond.instanceMethod yX1_volumeWithRank, Cond.selects RX1 yX1_volumeWithRank yX1_volumeWithRank, Cond.code yX1_volumeWithRank cX1_volumeWithRank 3 (some .int), Cond.constant RX1 112 (-1000004), Cond.methodLink RL 84 yX6_ranked, Cond.instanceMethod yX6_ranked, Cond.selects RX6 yX6_ranked yX6_ranked, Cond.code yX6_ranked cX6_ranked 4 (some .int), Cond.methodLink RL 85 yX5_over, Cond.instanceMethod yX5_over, Cond.selects RX5 yX5_over yX5_over, Cond.code yX5_over cX5_over 4 (some .int), Cond.methodLink RX5 161 yX1_allSizes, Cond.instanceMethod yX1_allSizes, Cond.selects RX1 yX1_allSizes yX1_allSizes, Cond.code yX1_allSizes cX1_allSizes 3 (some .int), Cond.methodLink RX5 164 yX5_commonDivisorWithPieces, Cond.static yX5_commonDivisorWithPieces, Cond.code yX5_commonDivisorWithPieces cX5_commonDivisorWithPieces 2 (some .int), Cond.methodLink RL 88 yX6_over, Cond.instanceMethod yX6_over]
def wsL_law_r26 : List Cond := [Cond.selects RX6 yX6_over yX6_over, Cond.code yX6_over cX6_over 6 (some .int), Cond.methodLink RX6 144 yX6_living, Cond.instanceMethod yX6_living, Cond.selects RX6 yX6_living yX6_living, Cond.code yX6_living cX6_living 4 (some .int), Cond.methodLink RL 89 yX5_count, Cond.instanceMethod yX5_count, Cond.selects RX5 yX5_count yX5_count, Cond.code yX5_count cX5_count 2 (some .int), Cond.fieldLink RX5 188 "ThinVolumes$Pool" "refusals" "I", Cond.fieldLink RX5 192 "ThinVolumes$Pool" "piecesGot" "I", Cond.fieldLink RX5 195 "ThinVolumes$Pool" "piecesFreed" "I", Cond.fieldLink RX5 198 "ThinVolumes$Warnings" "kept" "I", Cond.fieldLink RX5 201 "ThinVolumes$History" "kept" "I", Cond.fieldLink RX5 202 "ThinVolumes$Text" "length" "I", Cond.fieldLink RX5 205 "ThinVolumes$Pool" "settings" "[I", Cond.methodLink RX5 167 yX1_volumesThatLive, Cond.instanceMethod yX1_volumesThatLive, Cond.selects RX1 yX1_volumesThatLive yX1_volumesThatLive, Cond.code yX1_volumesThatLive cX1_volumesThatLive 3 (some .int), Cond.methodLink RX5 170 yX1_freePieces, Cond.methodLink RX5 173 yX1_available, Cond.methodLink RX5 176 yX1_level]
def wsL_law_r27 : List Cond := [Cond.methodLink RX5 179 yX1_allPromises, Cond.methodLink RX5 182 yX1_allOwners, Cond.instanceMethod yX1_allOwners, Cond.selects RX1 yX1_allOwners yX1_allOwners, Cond.code yX1_allOwners cX1_allOwners 3 (some .int), Cond.methodLink RX5 185 yX1_sharedPieces, Cond.instanceMethod yX1_sharedPieces, Cond.selects RX1 yX1_sharedPieces yX1_sharedPieces, Cond.code yX1_sharedPieces cX1_sharedPieces 3 (some .int), Cond.methodLink RL 92 yX6_count, Cond.instanceMethod yX6_count, Cond.selects RX6 yX6_count yX6_count, Cond.code yX6_count cX6_count 2 (some .int), Cond.fieldLink RX6 150 "ThinVolumesModel" "typed" "I", Cond.methodLink RX6 147 yX6_shared, Cond.instanceMethod yX6_shared, Cond.selects RX6 yX6_shared yX6_shared, Cond.code yX6_shared cX6_shared 3 (some .int), Cond.methodLink RL 93 yX5_undo, Cond.instanceMethod yX5_undo, Cond.selects RX5 yX5_undo yX5_undo, Cond.code yX5_undo cX5_undo 1 (some .int), Cond.methodLink RX5 208 yX0_restore, Cond.instanceMethod yX0_restore]
def wsL_law_r28 : List Cond := [Cond.selects RX0 yX0_restore yX0_restore, Cond.code yX0_restore cX0_restore 2 (some .boolean), Cond.methodLink RL 96 yX6_undo, Cond.instanceMethod yX6_undo, Cond.selects RX6 yX6_undo yX6_undo, Cond.code yX6_undo cX6_undo 2 (some .int), Cond.methodLink RL 97 yX5_type, Cond.instanceMethod yX5_type, Cond.selects RX5 yX5_type yX5_type, Cond.code yX5_type cX5_type 2 (some .int), Cond.methodLink RX5 213 yX3_append, Cond.instanceMethod yX3_append, Cond.selects RX3 yX3_append yX3_append, Cond.code yX3_append cX3_append 2 (some .boolean), Cond.fieldLink RX3 18 "ThinVolumes$Text" "length" "I", Cond.methodLink RL 100 yX6_type, Cond.instanceMethod yX6_type, Cond.selects RX6 yX6_type yX6_type, Cond.code yX6_type cX6_type 2 (some .int), Cond.methodLink RL 101 yX5_clearText, Cond.instanceMethod yX5_clearText, Cond.selects RX5 yX5_clearText yX5_clearText, Cond.code yX5_clearText cX5_clearText 2 (some .int), Cond.methodLink RL 104 yX6_clearText]
def wsL_law_r29 : List Cond := [Cond.instanceMethod yX6_clearText, Cond.selects RX6 yX6_clearText yX6_clearText, Cond.code yX6_clearText cX6_clearText 2 (some .int), Cond.methodLink RL 105 yX5_fault, Cond.instanceMethod yX5_fault, Cond.selects RX5 yX5_fault yX5_fault, Cond.code yX5_fault cX5_fault 2 (some .int), Cond.fieldLink RX5 221 "ThinVolumes$Rehearsal" "reason" "I", Cond.fieldLink RX5 224 "ThinVolumes$Rehearsal" "position" "I", Cond.methodLink RX5 217 yX2_perform, Cond.instanceMethod yX2_perform, Cond.selects RX2 yX2_perform yX2_perform, Cond.code yX2_perform cX2_perform 4 none, Cond.fieldLink RX2 22 "ThinVolumes$Rehearsal" "position" "I", Cond.fieldLink RX2 26 "ThinVolumes$Rehearsal" "reason" "I", Cond.fieldLink RX2 29 "ThinVolumes$Text" "length" "I", Cond.fieldLink RX2 46 "ThinVolumes$Text" "next" "I", Cond.methodLink RX2 18 yX1_copyFrom, Cond.methodLink RX2 34 yX3_readOrder, Cond.instanceMethod yX3_readOrder, Cond.selects RX3 yX3_readOrder yX3_readOrder, Cond.code yX3_readOrder cX3_readOrder 4 (some .boolean), Cond.fieldLink RX3 22 "ThinVolumes$Text" "next" "I", Cond.fieldLink RX3 29 "ThinVolumes$Text" "kind" "I"]
def wsL_law_r30 : List Cond := [Cond.methodLink RX3 25 yX3_signHere, Cond.instanceMethod yX3_signHere, Cond.selects RX3 yX3_signHere yX3_signHere, Cond.code yX3_signHere cX3_signHere 1 (some .int), Cond.methodLink RX3 32 yX3_numbersDue, Cond.instanceMethod yX3_numbersDue, Cond.selects RX3 yX3_numbersDue yX3_numbersDue, Cond.code yX3_numbersDue cX3_numbersDue 2 (some .int), Cond.methodLink RX3 36 yX3_passes, Cond.instanceMethod yX3_passes, Cond.selects RX3 yX3_passes yX3_passes, Cond.code yX3_passes cX3_passes 2 (some .boolean), Cond.methodLink RX3 40 yX3_readNumber, Cond.instanceMethod yX3_readNumber, Cond.selects RX3 yX3_readNumber yX3_readNumber, Cond.code yX3_readNumber cX3_readNumber 3 (some .int), Cond.methodLink RX3 43 yX3_readDigit, Cond.instanceMethod yX3_readDigit, Cond.selects RX3 yX3_readDigit yX3_readDigit, Cond.code yX3_readDigit cX3_readDigit 2 (some .int), Cond.methodLink RX2 38 yX2_obey, Cond.instanceMethod yX2_obey, Cond.selects RX2 yX2_obey yX2_obey, Cond.code yX2_obey cX2_obey 3 (some .int)]
def wsL_law_r31 : List Cond := [Cond.fieldLink RX2 49 "ThinVolumes$Text" "numbers" "[I", Cond.fieldLink RX2 53 "ThinVolumes$Text" "kind" "I", Cond.methodLink RX2 56 yX1_writePlace, Cond.methodLink RX2 60 yX1_trimPlace, Cond.methodLink RX2 64 yX1_sweepVolume, Cond.methodLink RX2 67 yX1_cloneVolume, Cond.methodLink RX2 70 yX1_dropVolume, Cond.methodLink RX2 73 yX1_mergePieces, Cond.methodLink RX2 42 yX2_reasonOf, Cond.instanceMethod yX2_reasonOf, Cond.selects RX2 yX2_reasonOf yX2_reasonOf, Cond.code yX2_reasonOf cX2_reasonOf 2 (some .int), Cond.constant RX2 77 (-1000001), Cond.methodLink RL 108 yX6_fault, Cond.instanceMethod yX6_fault, Cond.selects RX6 yX6_fault yX6_fault, Cond.code yX6_fault cX6_fault 3 (some .int), Cond.fieldLink RX6 190 "ThinVolumesModel" "reason" "I", Cond.methodLink RX6 196 yX6_plays, Cond.instanceMethod yX6_plays, Cond.selects RX6 yX6_plays yX6_plays, Cond.code yX6_plays cX6_plays 2 (some .int), Cond.fieldLink RX6 153 "ThinVolumesModel" "spot" "I", Cond.fieldLink RX6 162 "ThinVolumesModel" "refusals" "I"]
def wsL_law_r32 : List Cond := [Cond.methodLink RX6 193 yX6_does, Cond.instanceMethod yX6_does, Cond.selects RX6 yX6_does yX6_does, Cond.code yX6_does cX6_does 3 (some .int), Cond.methodLink RX6 165 yX6_isForm, Cond.instanceMethod yX6_isForm, Cond.selects RX6 yX6_isForm yX6_isForm, Cond.code yX6_isForm cX6_isForm 5 (some .boolean), Cond.methodLink RX6 156 yX6_isAt, Cond.instanceMethod yX6_isAt, Cond.selects RX6 yX6_isAt yX6_isAt, Cond.code yX6_isAt cX6_isAt 3 (some .boolean), Cond.methodLink RX6 159 yX6_number, Cond.instanceMethod yX6_number, Cond.selects RX6 yX6_number yX6_number, Cond.code yX6_number cX6_number 5 (some .boolean), Cond.methodLink RX6 168 yX6_write, Cond.methodLink RX6 172 yX6_isDone, Cond.instanceMethod yX6_isDone, Cond.selects RX6 yX6_isDone yX6_isDone, Cond.code yX6_isDone cX6_isDone 2 (some .int), Cond.methodLink RX6 175 yX6_trim, Cond.methodLink RX6 178 yX6_sweep, Cond.methodLink RX6 181 yX6_share]
def wsL_law_r33 : List Cond := [Cond.methodLink RX6 184 yX6_drop, Cond.methodLink RX6 187 yX6_merge, Cond.methodLink RL 109 yX5_play, Cond.instanceMethod yX5_play, Cond.selects RX5 yX5_play yX5_play, Cond.code yX5_play cX5_play 2 (some .int), Cond.methodLink RL 112 yX6_play, Cond.instanceMethod yX6_play, Cond.selects RX6 yX6_play yX6_play, Cond.code yX6_play cX6_play 2 (some .int)]
def wsL_law : List Cond := (wsL_law_r1 ++ (wsL_law_r2 ++ (wsL_law_r3 ++ (wsL_law_r4 ++ (wsL_law_r5 ++ (wsL_law_r6 ++ (wsL_law_r7 ++ (wsL_law_r8 ++ (wsL_law_r9 ++ (wsL_law_r10 ++ (wsL_law_r11 ++ (wsL_law_r12 ++ (wsL_law_r13 ++ (wsL_law_r14 ++ (wsL_law_r15 ++ (wsL_law_r16 ++ (wsL_law_r17 ++ (wsL_law_r18 ++ (wsL_law_r19 ++ (wsL_law_r20 ++ (wsL_law_r21 ++ (wsL_law_r22 ++ (wsL_law_r23 ++ (wsL_law_r24 ++ (wsL_law_r25 ++ (wsL_law_r26 ++ (wsL_law_r27 ++ (wsL_law_r28 ++ (wsL_law_r29 ++ (wsL_law_r30 ++ (wsL_law_r31 ++ (wsL_law_r32 ++ wsL_law_r33)))))))))))))))))))))))))))))))) ++ wsX50 ++ wsX60 ++ wsX10 ++ wsX00 ++ wsX30 ++ wsX20 ++ wsX40 ++ ([] : List Cond)
abbrev vwCl : List vw_C := [(RX0, TX0, 2), (RX1, TX1, 14), (RX2, TX2, 3), (RX3, TX3, 5), (RX4, TX4, 4), (RX5, TX5, 4), (RX6, TX6, 12)]
end
section
set_option maxRecDepth 20000 in
theorem ggX0_init_X1_init : GoodIn wsX0_init wsX1_init := goodIn_r _ [10, 11, 2, 3, 12, 13, 14, 15, 16, 17, 18, 19, 20, 21, 22, 23, 24, 25, 26, 27, 28, 29, 30, 31, 32, 35, 36, 37, 38, 39, 40, 41, 42, 43, 44, 45, 46, 47, 48, 49, 50, 51, 52] (by decide +kernel) (by decide +kernel)
set_option maxRecDepth 20000 in
theorem gX0_init_X1_init : GoodIn wsX0_init (wsX1_init) := ggX0_init_X1_init
theorem dX0_init_0 : decode cX0_init 0 = .ok (.aload_n 0, 1) := by decide +kernel
theorem dX0_init_1 : decode cX0_init 1 = .ok (.invokespecial 3, 3) := by decide +kernel
theorem dX0_init_4 : decode cX0_init 4 = .ok (.aload_n 0, 1) := by decide +kernel
theorem dX0_init_5 : decode cX0_init 5 = .ok (.iconst 5, 1) := by decide +kernel
theorem dX0_init_6 : decode cX0_init 6 = .ok (.anewarray 9, 3) := by decide +kernel
theorem dX0_init_9 : decode cX0_init 9 = .ok (.putfield 11, 3) := by decide +kernel
theorem dX0_init_12 : decode cX0_init 12 = .ok (.iconst 0, 1) := by decide +kernel
theorem dX0_init_13 : decode cX0_init 13 = .ok (.istore_n 1, 1) := by decide +kernel
theorem dX0_init_14 : decode cX0_init 14 = .ok (.iload_n 1, 1) := by decide +kernel
theorem dX0_init_15 : decode cX0_init 15 = .ok (.iconst 4, 1) := by decide +kernel
theorem dX0_init_16 : decode cX0_init 16 = .ok (.if_icmp .gt 22, 3) := by decide +kernel
theorem dX0_init_19 : decode cX0_init 19 = .ok (.aload_n 0, 1) := by decide +kernel
theorem dX0_init_20 : decode cX0_init 20 = .ok (.getfield 11, 3) := by decide +kernel
theorem dX0_init_23 : decode cX0_init 23 = .ok (.iload_n 1, 1) := by decide +kernel
theorem dX0_init_24 : decode cX0_init 24 = .ok (.new 9, 3) := by decide +kernel
theorem dX0_init_27 : decode cX0_init 27 = .ok (.dup, 1) := by decide +kernel
theorem dX0_init_28 : decode cX0_init 28 = .ok (.invokespecial 17, 3) := by decide +kernel
theorem dX0_init_31 : decode cX0_init 31 = .ok (.aastore, 1) := by decide +kernel
theorem dX0_init_32 : decode cX0_init 32 = .ok (.iinc 1 1, 3) := by decide +kernel
theorem dX0_init_35 : decode cX0_init 35 = .ok (.goto (-21), 3) := by decide +kernel
theorem dX0_init_38 : decode cX0_init 38 = .ok (.return_, 1) := by decide +kernel
set_option maxRecDepth 20000 in
theorem ggX0_prepare_X0_copyInto : GoodIn wsX0_prepare wsX0_copyInto := goodIn_r _ [6, 7, 8, 9, 10, 11, 12, 13, 14, 15, 16, 17, 18, 19, 20, 21, 22, 23, 24, 25, 26, 27, 28, 29, 30, 31, 32, 33, 34, 35, 36, 37, 38, 39, 40, 41, 42, 43, 44, 45, 46, 47, 48, 49, 50, 51, 52, 53, 54, 55, 56, 57, 58, 59, 60] (by decide +kernel) (by decide +kernel)
set_option maxRecDepth 20000 in
theorem gX0_prepare_X0_copyInto : GoodIn wsX0_prepare (wsV RX0 22 RX0 yX0_copyInto wsX0_copyInto) := goodIn_app (goodIn_of _ (by decide +kernel)) ggX0_prepare_X0_copyInto
theorem dX0_prepare_0 : decode cX0_prepare 0 = .ok (.aload_n 0, 1) := by decide +kernel
theorem dX0_prepare_1 : decode cX0_prepare 1 = .ok (.aload_n 0, 1) := by decide +kernel
theorem dX0_prepare_2 : decode cX0_prepare 2 = .ok (.getfield 18, 3) := by decide +kernel
theorem dX0_prepare_5 : decode cX0_prepare 5 = .ok (.aload_n 1, 1) := by decide +kernel
theorem dX0_prepare_6 : decode cX0_prepare 6 = .ok (.invokevirtual 22, 3) := by decide +kernel
theorem dX0_prepare_9 : decode cX0_prepare 9 = .ok (.return_, 1) := by decide +kernel
set_option maxRecDepth 20000 in
theorem ggX0_keepPrepared_X0_dropOldest : GoodIn wsX0_keepPrepared wsX0_dropOldest := goodIn_r _ [6, 7, 1, 8, 9, 10, 5, 11, 12, 13, 14, 15, 16, 17, 18, 19, 20, 21, 22, 23, 24, 25, 26, 27, 28, 29, 30, 31, 32, 33, 34, 35, 36, 37, 38, 39, 40, 41, 42, 43, 44, 45, 46, 47, 48, 49, 50, 51, 52, 53, 54, 55, 56, 57, 58, 59, 60, 61, 62, 63, 64] (by decide +kernel) (by decide +kernel)
set_option maxRecDepth 20000 in
theorem gX0_keepPrepared_X0_dropOldest : GoodIn wsX0_keepPrepared (wsV RX0 26 RX0 yX0_dropOldest wsX0_dropOldest) := goodIn_app (goodIn_of _ (by decide +kernel)) ggX0_keepPrepared_X0_dropOldest
theorem dX0_keepPrepared_0 : decode cX0_keepPrepared 0 = .ok (.aload_n 0, 1) := by decide +kernel
theorem dX0_keepPrepared_1 : decode cX0_keepPrepared 1 = .ok (.dup, 1) := by decide +kernel
theorem dX0_keepPrepared_2 : decode cX0_keepPrepared 2 = .ok (.getfield 18, 3) := by decide +kernel
theorem dX0_keepPrepared_5 : decode cX0_keepPrepared 5 = .ok (.iconst 1, 1) := by decide +kernel
theorem dX0_keepPrepared_6 : decode cX0_keepPrepared 6 = .ok (.iadd, 1) := by decide +kernel
theorem dX0_keepPrepared_7 : decode cX0_keepPrepared 7 = .ok (.putfield 18, 3) := by decide +kernel
theorem dX0_keepPrepared_10 : decode cX0_keepPrepared 10 = .ok (.aload_n 0, 1) := by decide +kernel
theorem dX0_keepPrepared_11 : decode cX0_keepPrepared 11 = .ok (.getfield 18, 3) := by decide +kernel
theorem dX0_keepPrepared_14 : decode cX0_keepPrepared 14 = .ok (.iconst 4, 1) := by decide +kernel
theorem dX0_keepPrepared_15 : decode cX0_keepPrepared 15 = .ok (.if_icmp .le 7, 3) := by decide +kernel
theorem dX0_keepPrepared_18 : decode cX0_keepPrepared 18 = .ok (.aload_n 0, 1) := by decide +kernel
theorem dX0_keepPrepared_19 : decode cX0_keepPrepared 19 = .ok (.invokevirtual 26, 3) := by decide +kernel
theorem dX0_keepPrepared_22 : decode cX0_keepPrepared 22 = .ok (.return_, 1) := by decide +kernel
set_option maxRecDepth 20000 in
theorem ggX0_dropOldest_X0_copyInto : GoodIn wsX0_dropOldest wsX0_copyInto := goodIn_r _ [7, 1, 8, 9, 10, 11, 12, 13, 14, 15, 16, 17, 18, 19, 20, 21, 22, 23, 24, 25, 26, 27, 28, 29, 30, 31, 32, 33, 34, 35, 36, 37, 38, 39, 40, 41, 42, 43, 44, 45, 46, 47, 48, 49, 50, 51, 52, 53, 54, 55, 56, 57, 58, 59, 60] (by decide +kernel) (by decide +kernel)
set_option maxRecDepth 20000 in
theorem gX0_dropOldest_X0_copyInto : GoodIn wsX0_dropOldest (wsV RX0 22 RX0 yX0_copyInto wsX0_copyInto) := goodIn_app (goodIn_of _ (by decide +kernel)) ggX0_dropOldest_X0_copyInto
theorem dX0_dropOldest_0 : decode cX0_dropOldest 0 = .ok (.iconst 1, 1) := by decide +kernel
theorem dX0_dropOldest_1 : decode cX0_dropOldest 1 = .ok (.istore_n 1, 1) := by decide +kernel
theorem dX0_dropOldest_2 : decode cX0_dropOldest 2 = .ok (.iload_n 1, 1) := by decide +kernel
theorem dX0_dropOldest_3 : decode cX0_dropOldest 3 = .ok (.iconst 4, 1) := by decide +kernel
theorem dX0_dropOldest_4 : decode cX0_dropOldest 4 = .ok (.if_icmp .gt 22, 3) := by decide +kernel
theorem dX0_dropOldest_7 : decode cX0_dropOldest 7 = .ok (.aload_n 0, 1) := by decide +kernel
theorem dX0_dropOldest_8 : decode cX0_dropOldest 8 = .ok (.iload_n 1, 1) := by decide +kernel
theorem dX0_dropOldest_9 : decode cX0_dropOldest 9 = .ok (.iconst 1, 1) := by decide +kernel
theorem dX0_dropOldest_10 : decode cX0_dropOldest 10 = .ok (.isub, 1) := by decide +kernel
theorem dX0_dropOldest_11 : decode cX0_dropOldest 11 = .ok (.aload_n 0, 1) := by decide +kernel
theorem dX0_dropOldest_12 : decode cX0_dropOldest 12 = .ok (.getfield 11, 3) := by decide +kernel
theorem dX0_dropOldest_15 : decode cX0_dropOldest 15 = .ok (.iload_n 1, 1) := by decide +kernel
theorem dX0_dropOldest_16 : decode cX0_dropOldest 16 = .ok (.aaload, 1) := by decide +kernel
theorem dX0_dropOldest_17 : decode cX0_dropOldest 17 = .ok (.invokevirtual 22, 3) := by decide +kernel
theorem dX0_dropOldest_20 : decode cX0_dropOldest 20 = .ok (.iinc 1 1, 3) := by decide +kernel
theorem dX0_dropOldest_23 : decode cX0_dropOldest 23 = .ok (.goto (-21), 3) := by decide +kernel
theorem dX0_dropOldest_26 : decode cX0_dropOldest 26 = .ok (.aload_n 0, 1) := by decide +kernel
theorem dX0_dropOldest_27 : decode cX0_dropOldest 27 = .ok (.iconst 4, 1) := by decide +kernel
theorem dX0_dropOldest_28 : decode cX0_dropOldest 28 = .ok (.putfield 18, 3) := by decide +kernel
theorem dX0_dropOldest_31 : decode cX0_dropOldest 31 = .ok (.return_, 1) := by decide +kernel
set_option maxRecDepth 20000 in
theorem ggX0_copyInto_X1_copyFrom : GoodIn wsX0_copyInto wsX1_copyFrom := goodIn_r _ [6, 7, 8, 9, 10, 11, 12, 13, 14, 15, 16, 17, 18, 19, 20, 21, 22, 23, 24, 25, 26, 27, 28, 29, 30, 31, 32, 33, 34, 37, 38, 39, 40, 41, 42, 43, 44, 45, 46, 47, 48, 49, 50, 51, 52, 53, 54] (by decide +kernel) (by decide +kernel)
set_option maxRecDepth 20000 in
theorem gX0_copyInto_X1_copyFrom : GoodIn wsX0_copyInto (wsV RX0 29 RX1 yX1_copyFrom wsX1_copyFrom) := goodIn_app (goodIn_of _ (by decide +kernel)) ggX0_copyInto_X1_copyFrom
theorem dX0_copyInto_0 : decode cX0_copyInto 0 = .ok (.iload_n 1, 1) := by decide +kernel
theorem dX0_copyInto_1 : decode cX0_copyInto 1 = .ok (.ifCond .lt 31, 3) := by decide +kernel
theorem dX0_copyInto_4 : decode cX0_copyInto 4 = .ok (.iload_n 1, 1) := by decide +kernel
theorem dX0_copyInto_5 : decode cX0_copyInto 5 = .ok (.iconst 4, 1) := by decide +kernel
theorem dX0_copyInto_6 : decode cX0_copyInto 6 = .ok (.if_icmp .gt 26, 3) := by decide +kernel
theorem dX0_copyInto_9 : decode cX0_copyInto 9 = .ok (.aload_n 0, 1) := by decide +kernel
theorem dX0_copyInto_10 : decode cX0_copyInto 10 = .ok (.getfield 11, 3) := by decide +kernel
theorem dX0_copyInto_13 : decode cX0_copyInto 13 = .ok (.iload_n 1, 1) := by decide +kernel
theorem dX0_copyInto_14 : decode cX0_copyInto 14 = .ok (.aaload, 1) := by decide +kernel
theorem dX0_copyInto_15 : decode cX0_copyInto 15 = .ok (.ifnull 17, 3) := by decide +kernel
theorem dX0_copyInto_18 : decode cX0_copyInto 18 = .ok (.aload_n 2, 1) := by decide +kernel
theorem dX0_copyInto_19 : decode cX0_copyInto 19 = .ok (.ifnull 13, 3) := by decide +kernel
theorem dX0_copyInto_22 : decode cX0_copyInto 22 = .ok (.aload_n 0, 1) := by decide +kernel
theorem dX0_copyInto_23 : decode cX0_copyInto 23 = .ok (.getfield 11, 3) := by decide +kernel
theorem dX0_copyInto_26 : decode cX0_copyInto 26 = .ok (.iload_n 1, 1) := by decide +kernel
theorem dX0_copyInto_27 : decode cX0_copyInto 27 = .ok (.aaload, 1) := by decide +kernel
theorem dX0_copyInto_28 : decode cX0_copyInto 28 = .ok (.aload_n 2, 1) := by decide +kernel
theorem dX0_copyInto_29 : decode cX0_copyInto 29 = .ok (.invokevirtual 29, 3) := by decide +kernel
theorem dX0_copyInto_32 : decode cX0_copyInto 32 = .ok (.return_, 1) := by decide +kernel
set_option maxRecDepth 20000 in
theorem ggX0_restore_X1_copyFrom : GoodIn wsX0_restore wsX1_copyFrom := goodIn_r _ [7, 8, 9, 10, 11, 12, 13, 14, 15, 16, 17, 18, 19, 20, 21, 22, 23, 24, 25, 26, 27, 28, 29, 30, 31, 32, 33, 34, 35, 38, 39, 40, 41, 42, 43, 44, 45, 46, 47, 48, 49, 50, 51, 52, 53, 54, 55] (by decide +kernel) (by decide +kernel)
set_option maxRecDepth 20000 in
theorem gX0_restore_X1_copyFrom : GoodIn wsX0_restore (wsV RX0 29 RX1 yX1_copyFrom wsX1_copyFrom) := goodIn_app (goodIn_of _ (by decide +kernel)) ggX0_restore_X1_copyFrom
theorem dX0_restore_0 : decode cX0_restore 0 = .ok (.aload_n 0, 1) := by decide +kernel
theorem dX0_restore_1 : decode cX0_restore 1 = .ok (.getfield 18, 3) := by decide +kernel
theorem dX0_restore_4 : decode cX0_restore 4 = .ok (.iconst 1, 1) := by decide +kernel
theorem dX0_restore_5 : decode cX0_restore 5 = .ok (.if_icmp .lt 25, 3) := by decide +kernel
theorem dX0_restore_8 : decode cX0_restore 8 = .ok (.aload_n 0, 1) := by decide +kernel
theorem dX0_restore_9 : decode cX0_restore 9 = .ok (.getfield 18, 3) := by decide +kernel
theorem dX0_restore_12 : decode cX0_restore 12 = .ok (.iconst 4, 1) := by decide +kernel
theorem dX0_restore_13 : decode cX0_restore 13 = .ok (.if_icmp .gt 17, 3) := by decide +kernel
theorem dX0_restore_16 : decode cX0_restore 16 = .ok (.aload_n 0, 1) := by decide +kernel
theorem dX0_restore_17 : decode cX0_restore 17 = .ok (.getfield 11, 3) := by decide +kernel
theorem dX0_restore_20 : decode cX0_restore 20 = .ok (.aload_n 0, 1) := by decide +kernel
theorem dX0_restore_21 : decode cX0_restore 21 = .ok (.getfield 18, 3) := by decide +kernel
theorem dX0_restore_24 : decode cX0_restore 24 = .ok (.iconst 1, 1) := by decide +kernel
theorem dX0_restore_25 : decode cX0_restore 25 = .ok (.isub, 1) := by decide +kernel
theorem dX0_restore_26 : decode cX0_restore 26 = .ok (.aaload, 1) := by decide +kernel
theorem dX0_restore_27 : decode cX0_restore 27 = .ok (.ifnonnull 5, 3) := by decide +kernel
theorem dX0_restore_30 : decode cX0_restore 30 = .ok (.iconst 0, 1) := by decide +kernel
theorem dX0_restore_31 : decode cX0_restore 31 = .ok (.ireturn, 1) := by decide +kernel
theorem dX0_restore_32 : decode cX0_restore 32 = .ok (.aload_n 0, 1) := by decide +kernel
theorem dX0_restore_33 : decode cX0_restore 33 = .ok (.dup, 1) := by decide +kernel
theorem dX0_restore_34 : decode cX0_restore 34 = .ok (.getfield 18, 3) := by decide +kernel
theorem dX0_restore_37 : decode cX0_restore 37 = .ok (.iconst 1, 1) := by decide +kernel
theorem dX0_restore_38 : decode cX0_restore 38 = .ok (.isub, 1) := by decide +kernel
theorem dX0_restore_39 : decode cX0_restore 39 = .ok (.putfield 18, 3) := by decide +kernel
theorem dX0_restore_42 : decode cX0_restore 42 = .ok (.aload_n 1, 1) := by decide +kernel
theorem dX0_restore_43 : decode cX0_restore 43 = .ok (.aload_n 0, 1) := by decide +kernel
theorem dX0_restore_44 : decode cX0_restore 44 = .ok (.getfield 11, 3) := by decide +kernel
theorem dX0_restore_47 : decode cX0_restore 47 = .ok (.aload_n 0, 1) := by decide +kernel
theorem dX0_restore_48 : decode cX0_restore 48 = .ok (.getfield 18, 3) := by decide +kernel
theorem dX0_restore_51 : decode cX0_restore 51 = .ok (.aaload, 1) := by decide +kernel
theorem dX0_restore_52 : decode cX0_restore 52 = .ok (.invokevirtual 29, 3) := by decide +kernel
theorem dX0_restore_55 : decode cX0_restore 55 = .ok (.iconst 1, 1) := by decide +kernel
theorem dX0_restore_56 : decode cX0_restore 56 = .ok (.ireturn, 1) := by decide +kernel
set_option maxRecDepth 20000 in
theorem ggX1_init_X4_init : GoodIn wsX1_init wsX4_init := goodIn_r _ [20, 21, 2, 3, 4, 22, 23, 24, 39, 40, 41, 42] (by decide +kernel) (by decide +kernel)
set_option maxRecDepth 20000 in
theorem gX1_init_X4_init_n44 : GoodIn wsX1_init (wsX4_init) := ggX1_init_X4_init
theorem dX1_init_0 : decode cX1_init 0 = .ok (.aload_n 0, 1) := by decide +kernel
theorem dX1_init_1 : decode cX1_init 1 = .ok (.invokespecial 3, 3) := by decide +kernel
theorem dX1_init_4 : decode cX1_init 4 = .ok (.aload_n 0, 1) := by decide +kernel
theorem dX1_init_5 : decode cX1_init 5 = .ok (.bipush 8, 2) := by decide +kernel
theorem dX1_init_7 : decode cX1_init 7 = .ok (.newarray .int, 2) := by decide +kernel
theorem dX1_init_9 : decode cX1_init 9 = .ok (.putfield 9, 3) := by decide +kernel
theorem dX1_init_12 : decode cX1_init 12 = .ok (.aload_n 0, 1) := by decide +kernel
theorem dX1_init_13 : decode cX1_init 13 = .ok (.bipush 8, 2) := by decide +kernel
theorem dX1_init_15 : decode cX1_init 15 = .ok (.newarray .int, 2) := by decide +kernel
theorem dX1_init_17 : decode cX1_init 17 = .ok (.putfield 15, 3) := by decide +kernel
theorem dX1_init_20 : decode cX1_init 20 = .ok (.aload_n 0, 1) := by decide +kernel
theorem dX1_init_21 : decode cX1_init 21 = .ok (.bipush 8, 2) := by decide +kernel
theorem dX1_init_23 : decode cX1_init 23 = .ok (.newarray .int, 2) := by decide +kernel
theorem dX1_init_25 : decode cX1_init 25 = .ok (.putfield 18, 3) := by decide +kernel
theorem dX1_init_28 : decode cX1_init 28 = .ok (.aload_n 0, 1) := by decide +kernel
theorem dX1_init_29 : decode cX1_init 29 = .ok (.bipush 8, 2) := by decide +kernel
theorem dX1_init_31 : decode cX1_init 31 = .ok (.newarray .int, 2) := by decide +kernel
theorem dX1_init_33 : decode cX1_init 33 = .ok (.putfield 21, 3) := by decide +kernel
theorem dX1_init_36 : decode cX1_init 36 = .ok (.aload_n 0, 1) := by decide +kernel
theorem dX1_init_37 : decode cX1_init 37 = .ok (.bipush 8, 2) := by decide +kernel
theorem dX1_init_39 : decode cX1_init 39 = .ok (.newarray .int, 2) := by decide +kernel
theorem dX1_init_41 : decode cX1_init 41 = .ok (.putfield 24, 3) := by decide +kernel
theorem dX1_init_44 : decode cX1_init 44 = .ok (.aload_n 0, 1) := by decide +kernel
theorem dX1_init_45 : decode cX1_init 45 = .ok (.bipush 8, 2) := by decide +kernel
theorem dX1_init_47 : decode cX1_init 47 = .ok (.newarray .int, 2) := by decide +kernel
theorem dX1_init_49 : decode cX1_init 49 = .ok (.putfield 27, 3) := by decide +kernel
theorem dX1_init_52 : decode cX1_init 52 = .ok (.aload_n 0, 1) := by decide +kernel
theorem dX1_init_53 : decode cX1_init 53 = .ok (.sipush 320, 3) := by decide +kernel
theorem dX1_init_56 : decode cX1_init 56 = .ok (.newarray .int, 2) := by decide +kernel
theorem dX1_init_58 : decode cX1_init 58 = .ok (.putfield 30, 3) := by decide +kernel
theorem dX1_init_61 : decode cX1_init 61 = .ok (.aload_n 0, 1) := by decide +kernel
theorem dX1_init_62 : decode cX1_init 62 = .ok (.bipush 30, 2) := by decide +kernel
theorem dX1_init_64 : decode cX1_init 64 = .ok (.newarray .int, 2) := by decide +kernel
theorem dX1_init_66 : decode cX1_init 66 = .ok (.putfield 33, 3) := by decide +kernel
theorem dX1_init_69 : decode cX1_init 69 = .ok (.aload_n 0, 1) := by decide +kernel
theorem dX1_init_70 : decode cX1_init 70 = .ok (.bipush 30, 2) := by decide +kernel
theorem dX1_init_72 : decode cX1_init 72 = .ok (.newarray .int, 2) := by decide +kernel
theorem dX1_init_74 : decode cX1_init 74 = .ok (.putfield 36, 3) := by decide +kernel
theorem dX1_init_77 : decode cX1_init 77 = .ok (.aload_n 0, 1) := by decide +kernel
theorem dX1_init_78 : decode cX1_init 78 = .ok (.iconst 3, 1) := by decide +kernel
theorem dX1_init_79 : decode cX1_init 79 = .ok (.newarray .int, 2) := by decide +kernel
theorem dX1_init_81 : decode cX1_init 81 = .ok (.putfield 39, 3) := by decide +kernel
theorem dX1_init_84 : decode cX1_init 84 = .ok (.aload_n 0, 1) := by decide +kernel
theorem dX1_init_85 : decode cX1_init 85 = .ok (.new 42, 3) := by decide +kernel
theorem dX1_init_88 : decode cX1_init 88 = .ok (.dup, 1) := by decide +kernel
theorem dX1_init_89 : decode cX1_init 89 = .ok (.invokespecial 44, 3) := by decide +kernel
theorem dX1_init_92 : decode cX1_init 92 = .ok (.putfield 45, 3) := by decide +kernel
theorem dX1_init_95 : decode cX1_init 95 = .ok (.aload_n 0, 1) := by decide +kernel
theorem dX1_init_96 : decode cX1_init 96 = .ok (.getfield 39, 3) := by decide +kernel
theorem dX1_init_99 : decode cX1_init 99 = .ok (.iconst 0, 1) := by decide +kernel
theorem dX1_init_100 : decode cX1_init 100 = .ok (.bipush 10, 2) := by decide +kernel
theorem dX1_init_102 : decode cX1_init 102 = .ok (.iastore, 1) := by decide +kernel
theorem dX1_init_103 : decode cX1_init 103 = .ok (.aload_n 0, 1) := by decide +kernel
theorem dX1_init_104 : decode cX1_init 104 = .ok (.getfield 39, 3) := by decide +kernel
theorem dX1_init_107 : decode cX1_init 107 = .ok (.iconst 1, 1) := by decide +kernel
theorem dX1_init_108 : decode cX1_init 108 = .ok (.iconst 4, 1) := by decide +kernel
theorem dX1_init_109 : decode cX1_init 109 = .ok (.iastore, 1) := by decide +kernel
theorem dX1_init_110 : decode cX1_init 110 = .ok (.aload_n 0, 1) := by decide +kernel
theorem dX1_init_111 : decode cX1_init 111 = .ok (.getfield 39, 3) := by decide +kernel
theorem dX1_init_114 : decode cX1_init 114 = .ok (.iconst 2, 1) := by decide +kernel
theorem dX1_init_115 : decode cX1_init 115 = .ok (.bipush 40, 2) := by decide +kernel
theorem dX1_init_117 : decode cX1_init 117 = .ok (.iastore, 1) := by decide +kernel
theorem dX1_init_118 : decode cX1_init 118 = .ok (.iconst 0, 1) := by decide +kernel
theorem dX1_init_119 : decode cX1_init 119 = .ok (.istore_n 1, 1) := by decide +kernel
theorem dX1_init_120 : decode cX1_init 120 = .ok (.iload_n 1, 1) := by decide +kernel
theorem dX1_init_121 : decode cX1_init 121 = .ok (.bipush 8, 2) := by decide +kernel
theorem dX1_init_123 : decode cX1_init 123 = .ok (.if_icmp .ge 16, 3) := by decide +kernel
theorem dX1_init_126 : decode cX1_init 126 = .ok (.aload_n 0, 1) := by decide +kernel
theorem dX1_init_127 : decode cX1_init 127 = .ok (.getfield 21, 3) := by decide +kernel
theorem dX1_init_130 : decode cX1_init 130 = .ok (.iload_n 1, 1) := by decide +kernel
theorem dX1_init_131 : decode cX1_init 131 = .ok (.iconst (-1), 1) := by decide +kernel
theorem dX1_init_132 : decode cX1_init 132 = .ok (.iastore, 1) := by decide +kernel
theorem dX1_init_133 : decode cX1_init 133 = .ok (.iinc 1 1, 3) := by decide +kernel
theorem dX1_init_136 : decode cX1_init 136 = .ok (.goto (-16), 3) := by decide +kernel
theorem dX1_init_139 : decode cX1_init 139 = .ok (.iconst 0, 1) := by decide +kernel
theorem dX1_init_140 : decode cX1_init 140 = .ok (.istore_n 1, 1) := by decide +kernel
theorem dX1_init_141 : decode cX1_init 141 = .ok (.iload_n 1, 1) := by decide +kernel
theorem dX1_init_142 : decode cX1_init 142 = .ok (.sipush 320, 3) := by decide +kernel
theorem dX1_init_145 : decode cX1_init 145 = .ok (.if_icmp .ge 16, 3) := by decide +kernel
theorem dX1_init_148 : decode cX1_init 148 = .ok (.aload_n 0, 1) := by decide +kernel
theorem dX1_init_149 : decode cX1_init 149 = .ok (.getfield 30, 3) := by decide +kernel
theorem dX1_init_152 : decode cX1_init 152 = .ok (.iload_n 1, 1) := by decide +kernel
theorem dX1_init_153 : decode cX1_init 153 = .ok (.iconst (-1), 1) := by decide +kernel
theorem dX1_init_154 : decode cX1_init 154 = .ok (.iastore, 1) := by decide +kernel
theorem dX1_init_155 : decode cX1_init 155 = .ok (.iinc 1 1, 3) := by decide +kernel
theorem dX1_init_158 : decode cX1_init 158 = .ok (.goto (-17), 3) := by decide +kernel
theorem dX1_init_161 : decode cX1_init 161 = .ok (.return_, 1) := by decide +kernel
set_option maxRecDepth 20000 in
theorem ggX1_copyFrom_X4_copyFrom : GoodIn wsX1_copyFrom wsX4_copyFrom := goodIn_r _ [23, 24, 25, 3, 4, 5, 26, 27, 28, 43, 44, 45, 46] (by decide +kernel) (by decide +kernel)
set_option maxRecDepth 20000 in
theorem gX1_copyFrom_X4_copyFrom : GoodIn wsX1_copyFrom (wsV RX1 55 RX4 yX4_copyFrom wsX4_copyFrom) := goodIn_app (goodIn_of _ (by decide +kernel)) ggX1_copyFrom_X4_copyFrom
theorem dX1_copyFrom_0 : decode cX1_copyFrom 0 = .ok (.aload_n 1, 1) := by decide +kernel
theorem dX1_copyFrom_1 : decode cX1_copyFrom 1 = .ok (.getfield 9, 3) := by decide +kernel
theorem dX1_copyFrom_4 : decode cX1_copyFrom 4 = .ok (.iconst 0, 1) := by decide +kernel
theorem dX1_copyFrom_5 : decode cX1_copyFrom 5 = .ok (.aload_n 0, 1) := by decide +kernel
theorem dX1_copyFrom_6 : decode cX1_copyFrom 6 = .ok (.getfield 9, 3) := by decide +kernel
theorem dX1_copyFrom_9 : decode cX1_copyFrom 9 = .ok (.iconst 0, 1) := by decide +kernel
theorem dX1_copyFrom_10 : decode cX1_copyFrom 10 = .ok (.bipush 8, 2) := by decide +kernel
theorem dX1_copyFrom_12 : decode cX1_copyFrom 12 = .ok (.invokestatic 49, 3) := by decide +kernel
theorem dX1_copyFrom_15 : decode cX1_copyFrom 15 = .ok (.aload_n 1, 1) := by decide +kernel
theorem dX1_copyFrom_16 : decode cX1_copyFrom 16 = .ok (.getfield 15, 3) := by decide +kernel
theorem dX1_copyFrom_19 : decode cX1_copyFrom 19 = .ok (.iconst 0, 1) := by decide +kernel
theorem dX1_copyFrom_20 : decode cX1_copyFrom 20 = .ok (.aload_n 0, 1) := by decide +kernel
theorem dX1_copyFrom_21 : decode cX1_copyFrom 21 = .ok (.getfield 15, 3) := by decide +kernel
theorem dX1_copyFrom_24 : decode cX1_copyFrom 24 = .ok (.iconst 0, 1) := by decide +kernel
theorem dX1_copyFrom_25 : decode cX1_copyFrom 25 = .ok (.bipush 8, 2) := by decide +kernel
theorem dX1_copyFrom_27 : decode cX1_copyFrom 27 = .ok (.invokestatic 49, 3) := by decide +kernel
theorem dX1_copyFrom_30 : decode cX1_copyFrom 30 = .ok (.aload_n 1, 1) := by decide +kernel
theorem dX1_copyFrom_31 : decode cX1_copyFrom 31 = .ok (.getfield 18, 3) := by decide +kernel
theorem dX1_copyFrom_34 : decode cX1_copyFrom 34 = .ok (.iconst 0, 1) := by decide +kernel
theorem dX1_copyFrom_35 : decode cX1_copyFrom 35 = .ok (.aload_n 0, 1) := by decide +kernel
theorem dX1_copyFrom_36 : decode cX1_copyFrom 36 = .ok (.getfield 18, 3) := by decide +kernel
theorem dX1_copyFrom_39 : decode cX1_copyFrom 39 = .ok (.iconst 0, 1) := by decide +kernel
theorem dX1_copyFrom_40 : decode cX1_copyFrom 40 = .ok (.bipush 8, 2) := by decide +kernel
theorem dX1_copyFrom_42 : decode cX1_copyFrom 42 = .ok (.invokestatic 49, 3) := by decide +kernel
theorem dX1_copyFrom_45 : decode cX1_copyFrom 45 = .ok (.aload_n 1, 1) := by decide +kernel
theorem dX1_copyFrom_46 : decode cX1_copyFrom 46 = .ok (.getfield 21, 3) := by decide +kernel
theorem dX1_copyFrom_49 : decode cX1_copyFrom 49 = .ok (.iconst 0, 1) := by decide +kernel
theorem dX1_copyFrom_50 : decode cX1_copyFrom 50 = .ok (.aload_n 0, 1) := by decide +kernel
theorem dX1_copyFrom_51 : decode cX1_copyFrom 51 = .ok (.getfield 21, 3) := by decide +kernel
theorem dX1_copyFrom_54 : decode cX1_copyFrom 54 = .ok (.iconst 0, 1) := by decide +kernel
theorem dX1_copyFrom_55 : decode cX1_copyFrom 55 = .ok (.bipush 8, 2) := by decide +kernel
theorem dX1_copyFrom_57 : decode cX1_copyFrom 57 = .ok (.invokestatic 49, 3) := by decide +kernel
theorem dX1_copyFrom_60 : decode cX1_copyFrom 60 = .ok (.aload_n 1, 1) := by decide +kernel
theorem dX1_copyFrom_61 : decode cX1_copyFrom 61 = .ok (.getfield 24, 3) := by decide +kernel
theorem dX1_copyFrom_64 : decode cX1_copyFrom 64 = .ok (.iconst 0, 1) := by decide +kernel
theorem dX1_copyFrom_65 : decode cX1_copyFrom 65 = .ok (.aload_n 0, 1) := by decide +kernel
theorem dX1_copyFrom_66 : decode cX1_copyFrom 66 = .ok (.getfield 24, 3) := by decide +kernel
theorem dX1_copyFrom_69 : decode cX1_copyFrom 69 = .ok (.iconst 0, 1) := by decide +kernel
theorem dX1_copyFrom_70 : decode cX1_copyFrom 70 = .ok (.bipush 8, 2) := by decide +kernel
theorem dX1_copyFrom_72 : decode cX1_copyFrom 72 = .ok (.invokestatic 49, 3) := by decide +kernel
theorem dX1_copyFrom_75 : decode cX1_copyFrom 75 = .ok (.aload_n 1, 1) := by decide +kernel
theorem dX1_copyFrom_76 : decode cX1_copyFrom 76 = .ok (.getfield 27, 3) := by decide +kernel
theorem dX1_copyFrom_79 : decode cX1_copyFrom 79 = .ok (.iconst 0, 1) := by decide +kernel
theorem dX1_copyFrom_80 : decode cX1_copyFrom 80 = .ok (.aload_n 0, 1) := by decide +kernel
theorem dX1_copyFrom_81 : decode cX1_copyFrom 81 = .ok (.getfield 27, 3) := by decide +kernel
theorem dX1_copyFrom_84 : decode cX1_copyFrom 84 = .ok (.iconst 0, 1) := by decide +kernel
theorem dX1_copyFrom_85 : decode cX1_copyFrom 85 = .ok (.bipush 8, 2) := by decide +kernel
theorem dX1_copyFrom_87 : decode cX1_copyFrom 87 = .ok (.invokestatic 49, 3) := by decide +kernel
theorem dX1_copyFrom_90 : decode cX1_copyFrom 90 = .ok (.aload_n 1, 1) := by decide +kernel
theorem dX1_copyFrom_91 : decode cX1_copyFrom 91 = .ok (.getfield 30, 3) := by decide +kernel
theorem dX1_copyFrom_94 : decode cX1_copyFrom 94 = .ok (.iconst 0, 1) := by decide +kernel
theorem dX1_copyFrom_95 : decode cX1_copyFrom 95 = .ok (.aload_n 0, 1) := by decide +kernel
theorem dX1_copyFrom_96 : decode cX1_copyFrom 96 = .ok (.getfield 30, 3) := by decide +kernel
theorem dX1_copyFrom_99 : decode cX1_copyFrom 99 = .ok (.iconst 0, 1) := by decide +kernel
theorem dX1_copyFrom_100 : decode cX1_copyFrom 100 = .ok (.sipush 320, 3) := by decide +kernel
theorem dX1_copyFrom_103 : decode cX1_copyFrom 103 = .ok (.invokestatic 49, 3) := by decide +kernel
theorem dX1_copyFrom_106 : decode cX1_copyFrom 106 = .ok (.aload_n 1, 1) := by decide +kernel
theorem dX1_copyFrom_107 : decode cX1_copyFrom 107 = .ok (.getfield 33, 3) := by decide +kernel
theorem dX1_copyFrom_110 : decode cX1_copyFrom 110 = .ok (.iconst 0, 1) := by decide +kernel
theorem dX1_copyFrom_111 : decode cX1_copyFrom 111 = .ok (.aload_n 0, 1) := by decide +kernel
theorem dX1_copyFrom_112 : decode cX1_copyFrom 112 = .ok (.getfield 33, 3) := by decide +kernel
theorem dX1_copyFrom_115 : decode cX1_copyFrom 115 = .ok (.iconst 0, 1) := by decide +kernel
theorem dX1_copyFrom_116 : decode cX1_copyFrom 116 = .ok (.bipush 30, 2) := by decide +kernel
theorem dX1_copyFrom_118 : decode cX1_copyFrom 118 = .ok (.invokestatic 49, 3) := by decide +kernel
theorem dX1_copyFrom_121 : decode cX1_copyFrom 121 = .ok (.aload_n 1, 1) := by decide +kernel
theorem dX1_copyFrom_122 : decode cX1_copyFrom 122 = .ok (.getfield 36, 3) := by decide +kernel
theorem dX1_copyFrom_125 : decode cX1_copyFrom 125 = .ok (.iconst 0, 1) := by decide +kernel
theorem dX1_copyFrom_126 : decode cX1_copyFrom 126 = .ok (.aload_n 0, 1) := by decide +kernel
theorem dX1_copyFrom_127 : decode cX1_copyFrom 127 = .ok (.getfield 36, 3) := by decide +kernel
theorem dX1_copyFrom_130 : decode cX1_copyFrom 130 = .ok (.iconst 0, 1) := by decide +kernel
theorem dX1_copyFrom_131 : decode cX1_copyFrom 131 = .ok (.bipush 30, 2) := by decide +kernel
theorem dX1_copyFrom_133 : decode cX1_copyFrom 133 = .ok (.invokestatic 49, 3) := by decide +kernel
theorem dX1_copyFrom_136 : decode cX1_copyFrom 136 = .ok (.aload_n 1, 1) := by decide +kernel
theorem dX1_copyFrom_137 : decode cX1_copyFrom 137 = .ok (.getfield 39, 3) := by decide +kernel
theorem dX1_copyFrom_140 : decode cX1_copyFrom 140 = .ok (.iconst 0, 1) := by decide +kernel
theorem dX1_copyFrom_141 : decode cX1_copyFrom 141 = .ok (.aload_n 0, 1) := by decide +kernel
theorem dX1_copyFrom_142 : decode cX1_copyFrom 142 = .ok (.getfield 39, 3) := by decide +kernel
theorem dX1_copyFrom_145 : decode cX1_copyFrom 145 = .ok (.iconst 0, 1) := by decide +kernel
theorem dX1_copyFrom_146 : decode cX1_copyFrom 146 = .ok (.iconst 3, 1) := by decide +kernel
theorem dX1_copyFrom_147 : decode cX1_copyFrom 147 = .ok (.invokestatic 49, 3) := by decide +kernel
theorem dX1_copyFrom_150 : decode cX1_copyFrom 150 = .ok (.aload_n 0, 1) := by decide +kernel
theorem dX1_copyFrom_151 : decode cX1_copyFrom 151 = .ok (.getfield 45, 3) := by decide +kernel
theorem dX1_copyFrom_154 : decode cX1_copyFrom 154 = .ok (.aload_n 1, 1) := by decide +kernel
theorem dX1_copyFrom_155 : decode cX1_copyFrom 155 = .ok (.getfield 45, 3) := by decide +kernel
theorem dX1_copyFrom_158 : decode cX1_copyFrom 158 = .ok (.invokevirtual 55, 3) := by decide +kernel
theorem dX1_copyFrom_161 : decode cX1_copyFrom 161 = .ok (.aload_n 0, 1) := by decide +kernel
theorem dX1_copyFrom_162 : decode cX1_copyFrom 162 = .ok (.aload_n 1, 1) := by decide +kernel
theorem dX1_copyFrom_163 : decode cX1_copyFrom 163 = .ok (.getfield 59, 3) := by decide +kernel
theorem dX1_copyFrom_166 : decode cX1_copyFrom 166 = .ok (.putfield 59, 3) := by decide +kernel
theorem dX1_copyFrom_169 : decode cX1_copyFrom 169 = .ok (.aload_n 0, 1) := by decide +kernel
theorem dX1_copyFrom_170 : decode cX1_copyFrom 170 = .ok (.aload_n 1, 1) := by decide +kernel
theorem dX1_copyFrom_171 : decode cX1_copyFrom 171 = .ok (.getfield 63, 3) := by decide +kernel
theorem dX1_copyFrom_174 : decode cX1_copyFrom 174 = .ok (.putfield 63, 3) := by decide +kernel
theorem dX1_copyFrom_177 : decode cX1_copyFrom 177 = .ok (.aload_n 0, 1) := by decide +kernel
theorem dX1_copyFrom_178 : decode cX1_copyFrom 178 = .ok (.aload_n 1, 1) := by decide +kernel
theorem dX1_copyFrom_179 : decode cX1_copyFrom 179 = .ok (.getfield 66, 3) := by decide +kernel
theorem dX1_copyFrom_182 : decode cX1_copyFrom 182 = .ok (.putfield 66, 3) := by decide +kernel
theorem dX1_copyFrom_185 : decode cX1_copyFrom 185 = .ok (.return_, 1) := by decide +kernel
theorem dX1_lives_0 : decode cX1_lives 0 = .ok (.iload_n 1, 1) := by decide +kernel
theorem dX1_lives_1 : decode cX1_lives 1 = .ok (.ifCond .lt 22, 3) := by decide +kernel
theorem dX1_lives_4 : decode cX1_lives 4 = .ok (.iload_n 1, 1) := by decide +kernel
theorem dX1_lives_5 : decode cX1_lives 5 = .ok (.bipush 8, 2) := by decide +kernel
theorem dX1_lives_7 : decode cX1_lives 7 = .ok (.if_icmp .ge 16, 3) := by decide +kernel
theorem dX1_lives_10 : decode cX1_lives 10 = .ok (.aload_n 0, 1) := by decide +kernel
theorem dX1_lives_11 : decode cX1_lives 11 = .ok (.getfield 9, 3) := by decide +kernel
theorem dX1_lives_14 : decode cX1_lives 14 = .ok (.iload_n 1, 1) := by decide +kernel
theorem dX1_lives_15 : decode cX1_lives 15 = .ok (.iaload, 1) := by decide +kernel
theorem dX1_lives_16 : decode cX1_lives 16 = .ok (.ifCond .le 7, 3) := by decide +kernel
theorem dX1_lives_19 : decode cX1_lives 19 = .ok (.iconst 1, 1) := by decide +kernel
theorem dX1_lives_20 : decode cX1_lives 20 = .ok (.goto 4, 3) := by decide +kernel
theorem dX1_lives_23 : decode cX1_lives 23 = .ok (.iconst 0, 1) := by decide +kernel
theorem dX1_lives_24 : decode cX1_lives 24 = .ok (.ireturn, 1) := by decide +kernel
set_option maxRecDepth 20000 in
theorem ggX1_hasPlace_X1_lives : GoodIn wsX1_hasPlace wsX1_lives := goodIn_r _ [6, 1, 7, 8, 9, 10, 11, 12, 13, 14, 15, 16, 17, 18, 19, 20] (by decide +kernel) (by decide +kernel)
set_option maxRecDepth 20000 in
theorem gX1_hasPlace_X1_lives : GoodIn wsX1_hasPlace (wsV RX1 69 RX1 yX1_lives wsX1_lives) := goodIn_app (goodIn_of _ (by decide +kernel)) ggX1_hasPlace_X1_lives
theorem dX1_hasPlace_0 : decode cX1_hasPlace 0 = .ok (.aload_n 0, 1) := by decide +kernel
theorem dX1_hasPlace_1 : decode cX1_hasPlace 1 = .ok (.iload_n 1, 1) := by decide +kernel
theorem dX1_hasPlace_2 : decode cX1_hasPlace 2 = .ok (.invokevirtual 69, 3) := by decide +kernel
theorem dX1_hasPlace_5 : decode cX1_hasPlace 5 = .ok (.ifCond .eq 27, 3) := by decide +kernel
theorem dX1_hasPlace_8 : decode cX1_hasPlace 8 = .ok (.iload_n 2, 1) := by decide +kernel
theorem dX1_hasPlace_9 : decode cX1_hasPlace 9 = .ok (.ifCond .lt 23, 3) := by decide +kernel
theorem dX1_hasPlace_12 : decode cX1_hasPlace 12 = .ok (.iload_n 2, 1) := by decide +kernel
theorem dX1_hasPlace_13 : decode cX1_hasPlace 13 = .ok (.aload_n 0, 1) := by decide +kernel
theorem dX1_hasPlace_14 : decode cX1_hasPlace 14 = .ok (.getfield 9, 3) := by decide +kernel
theorem dX1_hasPlace_17 : decode cX1_hasPlace 17 = .ok (.iload_n 1, 1) := by decide +kernel
theorem dX1_hasPlace_18 : decode cX1_hasPlace 18 = .ok (.iaload, 1) := by decide +kernel
theorem dX1_hasPlace_19 : decode cX1_hasPlace 19 = .ok (.if_icmp .ge 13, 3) := by decide +kernel
theorem dX1_hasPlace_22 : decode cX1_hasPlace 22 = .ok (.iload_n 2, 1) := by decide +kernel
theorem dX1_hasPlace_23 : decode cX1_hasPlace 23 = .ok (.bipush 40, 2) := by decide +kernel
theorem dX1_hasPlace_25 : decode cX1_hasPlace 25 = .ok (.if_icmp .ge 7, 3) := by decide +kernel
theorem dX1_hasPlace_28 : decode cX1_hasPlace 28 = .ok (.iconst 1, 1) := by decide +kernel
theorem dX1_hasPlace_29 : decode cX1_hasPlace 29 = .ok (.goto 4, 3) := by decide +kernel
theorem dX1_hasPlace_32 : decode cX1_hasPlace 32 = .ok (.iconst 0, 1) := by decide +kernel
theorem dX1_hasPlace_33 : decode cX1_hasPlace 33 = .ok (.ireturn, 1) := by decide +kernel
theorem dX1_isPiece_0 : decode cX1_isPiece 0 = .ok (.iload_n 1, 1) := by decide +kernel
theorem dX1_isPiece_1 : decode cX1_isPiece 1 = .ok (.ifCond .lt 13, 3) := by decide +kernel
theorem dX1_isPiece_4 : decode cX1_isPiece 4 = .ok (.iload_n 1, 1) := by decide +kernel
theorem dX1_isPiece_5 : decode cX1_isPiece 5 = .ok (.bipush 30, 2) := by decide +kernel
theorem dX1_isPiece_7 : decode cX1_isPiece 7 = .ok (.if_icmp .ge 7, 3) := by decide +kernel
theorem dX1_isPiece_10 : decode cX1_isPiece 10 = .ok (.iconst 1, 1) := by decide +kernel
theorem dX1_isPiece_11 : decode cX1_isPiece 11 = .ok (.goto 4, 3) := by decide +kernel
theorem dX1_isPiece_14 : decode cX1_isPiece 14 = .ok (.iconst 0, 1) := by decide +kernel
theorem dX1_isPiece_15 : decode cX1_isPiece 15 = .ok (.ireturn, 1) := by decide +kernel
set_option maxRecDepth 20000 in
theorem ggX1_pieceAt_X1_hasPlace : GoodIn wsX1_pieceAt wsX1_hasPlace := goodIn_r _ [6, 7, 8, 9, 10, 5, 11, 12, 13, 14, 15, 16, 17, 18, 19, 20, 21, 22, 23, 24, 25] (by decide +kernel) (by decide +kernel)
set_option maxRecDepth 20000 in
theorem gX1_pieceAt_X1_hasPlace : GoodIn wsX1_pieceAt (wsV RX1 73 RX1 yX1_hasPlace wsX1_hasPlace) := goodIn_app (goodIn_of _ (by decide +kernel)) ggX1_pieceAt_X1_hasPlace
theorem dX1_pieceAt_0 : decode cX1_pieceAt 0 = .ok (.aload_n 0, 1) := by decide +kernel
theorem dX1_pieceAt_1 : decode cX1_pieceAt 1 = .ok (.iload_n 1, 1) := by decide +kernel
theorem dX1_pieceAt_2 : decode cX1_pieceAt 2 = .ok (.iload_n 2, 1) := by decide +kernel
theorem dX1_pieceAt_3 : decode cX1_pieceAt 3 = .ok (.invokevirtual 73, 3) := by decide +kernel
theorem dX1_pieceAt_6 : decode cX1_pieceAt 6 = .ok (.ifCond .eq 17, 3) := by decide +kernel
theorem dX1_pieceAt_9 : decode cX1_pieceAt 9 = .ok (.aload_n 0, 1) := by decide +kernel
theorem dX1_pieceAt_10 : decode cX1_pieceAt 10 = .ok (.getfield 30, 3) := by decide +kernel
theorem dX1_pieceAt_13 : decode cX1_pieceAt 13 = .ok (.iload_n 1, 1) := by decide +kernel
theorem dX1_pieceAt_14 : decode cX1_pieceAt 14 = .ok (.bipush 40, 2) := by decide +kernel
theorem dX1_pieceAt_16 : decode cX1_pieceAt 16 = .ok (.imul, 1) := by decide +kernel
theorem dX1_pieceAt_17 : decode cX1_pieceAt 17 = .ok (.iload_n 2, 1) := by decide +kernel
theorem dX1_pieceAt_18 : decode cX1_pieceAt 18 = .ok (.iadd, 1) := by decide +kernel
theorem dX1_pieceAt_19 : decode cX1_pieceAt 19 = .ok (.iaload, 1) := by decide +kernel
theorem dX1_pieceAt_20 : decode cX1_pieceAt 20 = .ok (.goto 4, 3) := by decide +kernel
theorem dX1_pieceAt_23 : decode cX1_pieceAt 23 = .ok (.iconst (-1), 1) := by decide +kernel
theorem dX1_pieceAt_24 : decode cX1_pieceAt 24 = .ok (.ireturn, 1) := by decide +kernel
set_option maxRecDepth 20000 in
theorem ggX1_valueOf_X1_isPiece : GoodIn wsX1_valueOf wsX1_isPiece := goodIn_r _ [6] (by decide +kernel) (by decide +kernel)
set_option maxRecDepth 20000 in
theorem gX1_valueOf_X1_isPiece : GoodIn wsX1_valueOf (wsV RX1 77 RX1 yX1_isPiece wsX1_isPiece) := goodIn_app (goodIn_of _ (by decide +kernel)) ggX1_valueOf_X1_isPiece
theorem dX1_valueOf_0 : decode cX1_valueOf 0 = .ok (.aload_n 0, 1) := by decide +kernel
theorem dX1_valueOf_1 : decode cX1_valueOf 1 = .ok (.iload_n 1, 1) := by decide +kernel
theorem dX1_valueOf_2 : decode cX1_valueOf 2 = .ok (.invokevirtual 77, 3) := by decide +kernel
theorem dX1_valueOf_5 : decode cX1_valueOf 5 = .ok (.ifCond .eq 12, 3) := by decide +kernel
theorem dX1_valueOf_8 : decode cX1_valueOf 8 = .ok (.aload_n 0, 1) := by decide +kernel
theorem dX1_valueOf_9 : decode cX1_valueOf 9 = .ok (.getfield 33, 3) := by decide +kernel
theorem dX1_valueOf_12 : decode cX1_valueOf 12 = .ok (.iload_n 1, 1) := by decide +kernel
theorem dX1_valueOf_13 : decode cX1_valueOf 13 = .ok (.iaload, 1) := by decide +kernel
theorem dX1_valueOf_14 : decode cX1_valueOf 14 = .ok (.goto 4, 3) := by decide +kernel
theorem dX1_valueOf_17 : decode cX1_valueOf 17 = .ok (.iconst 0, 1) := by decide +kernel
theorem dX1_valueOf_18 : decode cX1_valueOf 18 = .ok (.ireturn, 1) := by decide +kernel
set_option maxRecDepth 20000 in
theorem ggX1_volumesThatLive_X1_lives : GoodIn wsX1_volumesThatLive wsX1_lives := goodIn_r _ [5, 6, 7, 8, 9, 10, 11, 12, 13, 14, 15, 16, 17, 18, 19, 20] (by decide +kernel) (by decide +kernel)
set_option maxRecDepth 20000 in
theorem gX1_volumesThatLive_X1_lives : GoodIn wsX1_volumesThatLive (wsV RX1 69 RX1 yX1_lives wsX1_lives) := goodIn_app (goodIn_of _ (by decide +kernel)) ggX1_volumesThatLive_X1_lives
theorem dX1_volumesThatLive_0 : decode cX1_volumesThatLive 0 = .ok (.iconst 0, 1) := by decide +kernel
theorem dX1_volumesThatLive_1 : decode cX1_volumesThatLive 1 = .ok (.istore_n 1, 1) := by decide +kernel
theorem dX1_volumesThatLive_2 : decode cX1_volumesThatLive 2 = .ok (.iconst 0, 1) := by decide +kernel
theorem dX1_volumesThatLive_3 : decode cX1_volumesThatLive 3 = .ok (.istore_n 2, 1) := by decide +kernel
theorem dX1_volumesThatLive_4 : decode cX1_volumesThatLive 4 = .ok (.iload_n 2, 1) := by decide +kernel
theorem dX1_volumesThatLive_5 : decode cX1_volumesThatLive 5 = .ok (.bipush 8, 2) := by decide +kernel
theorem dX1_volumesThatLive_7 : decode cX1_volumesThatLive 7 = .ok (.if_icmp .ge 20, 3) := by decide +kernel
theorem dX1_volumesThatLive_10 : decode cX1_volumesThatLive 10 = .ok (.aload_n 0, 1) := by decide +kernel
theorem dX1_volumesThatLive_11 : decode cX1_volumesThatLive 11 = .ok (.iload_n 2, 1) := by decide +kernel
theorem dX1_volumesThatLive_12 : decode cX1_volumesThatLive 12 = .ok (.invokevirtual 69, 3) := by decide +kernel
theorem dX1_volumesThatLive_15 : decode cX1_volumesThatLive 15 = .ok (.ifCond .eq 6, 3) := by decide +kernel
theorem dX1_volumesThatLive_18 : decode cX1_volumesThatLive 18 = .ok (.iinc 1 1, 3) := by decide +kernel
theorem dX1_volumesThatLive_21 : decode cX1_volumesThatLive 21 = .ok (.iinc 2 1, 3) := by decide +kernel
theorem dX1_volumesThatLive_24 : decode cX1_volumesThatLive 24 = .ok (.goto (-20), 3) := by decide +kernel
theorem dX1_volumesThatLive_27 : decode cX1_volumesThatLive 27 = .ok (.iload_n 1, 1) := by decide +kernel
theorem dX1_volumesThatLive_28 : decode cX1_volumesThatLive 28 = .ok (.ireturn, 1) := by decide +kernel
theorem dX1_allSizes_0 : decode cX1_allSizes 0 = .ok (.iconst 0, 1) := by decide +kernel
theorem dX1_allSizes_1 : decode cX1_allSizes 1 = .ok (.istore_n 1, 1) := by decide +kernel
theorem dX1_allSizes_2 : decode cX1_allSizes 2 = .ok (.iconst 0, 1) := by decide +kernel
theorem dX1_allSizes_3 : decode cX1_allSizes 3 = .ok (.istore_n 2, 1) := by decide +kernel
theorem dX1_allSizes_4 : decode cX1_allSizes 4 = .ok (.iload_n 2, 1) := by decide +kernel
theorem dX1_allSizes_5 : decode cX1_allSizes 5 = .ok (.bipush 8, 2) := by decide +kernel
theorem dX1_allSizes_7 : decode cX1_allSizes 7 = .ok (.if_icmp .ge 18, 3) := by decide +kernel
theorem dX1_allSizes_10 : decode cX1_allSizes 10 = .ok (.iload_n 1, 1) := by decide +kernel
theorem dX1_allSizes_11 : decode cX1_allSizes 11 = .ok (.aload_n 0, 1) := by decide +kernel
theorem dX1_allSizes_12 : decode cX1_allSizes 12 = .ok (.getfield 9, 3) := by decide +kernel
theorem dX1_allSizes_15 : decode cX1_allSizes 15 = .ok (.iload_n 2, 1) := by decide +kernel
theorem dX1_allSizes_16 : decode cX1_allSizes 16 = .ok (.iaload, 1) := by decide +kernel
theorem dX1_allSizes_17 : decode cX1_allSizes 17 = .ok (.iadd, 1) := by decide +kernel
theorem dX1_allSizes_18 : decode cX1_allSizes 18 = .ok (.istore_n 1, 1) := by decide +kernel
theorem dX1_allSizes_19 : decode cX1_allSizes 19 = .ok (.iinc 2 1, 3) := by decide +kernel
theorem dX1_allSizes_22 : decode cX1_allSizes 22 = .ok (.goto (-18), 3) := by decide +kernel
theorem dX1_allSizes_25 : decode cX1_allSizes 25 = .ok (.iload_n 1, 1) := by decide +kernel
theorem dX1_allSizes_26 : decode cX1_allSizes 26 = .ok (.ireturn, 1) := by decide +kernel
theorem dX1_allPromises_0 : decode cX1_allPromises 0 = .ok (.iconst 0, 1) := by decide +kernel
theorem dX1_allPromises_1 : decode cX1_allPromises 1 = .ok (.istore_n 1, 1) := by decide +kernel
theorem dX1_allPromises_2 : decode cX1_allPromises 2 = .ok (.iconst 0, 1) := by decide +kernel
theorem dX1_allPromises_3 : decode cX1_allPromises 3 = .ok (.istore_n 2, 1) := by decide +kernel
theorem dX1_allPromises_4 : decode cX1_allPromises 4 = .ok (.iload_n 2, 1) := by decide +kernel
theorem dX1_allPromises_5 : decode cX1_allPromises 5 = .ok (.bipush 8, 2) := by decide +kernel
theorem dX1_allPromises_7 : decode cX1_allPromises 7 = .ok (.if_icmp .ge 18, 3) := by decide +kernel
theorem dX1_allPromises_10 : decode cX1_allPromises 10 = .ok (.iload_n 1, 1) := by decide +kernel
theorem dX1_allPromises_11 : decode cX1_allPromises 11 = .ok (.aload_n 0, 1) := by decide +kernel
theorem dX1_allPromises_12 : decode cX1_allPromises 12 = .ok (.getfield 18, 3) := by decide +kernel
theorem dX1_allPromises_15 : decode cX1_allPromises 15 = .ok (.iload_n 2, 1) := by decide +kernel
theorem dX1_allPromises_16 : decode cX1_allPromises 16 = .ok (.iaload, 1) := by decide +kernel
theorem dX1_allPromises_17 : decode cX1_allPromises 17 = .ok (.iadd, 1) := by decide +kernel
theorem dX1_allPromises_18 : decode cX1_allPromises 18 = .ok (.istore_n 1, 1) := by decide +kernel
theorem dX1_allPromises_19 : decode cX1_allPromises 19 = .ok (.iinc 2 1, 3) := by decide +kernel
theorem dX1_allPromises_22 : decode cX1_allPromises 22 = .ok (.goto (-18), 3) := by decide +kernel
theorem dX1_allPromises_25 : decode cX1_allPromises 25 = .ok (.iload_n 1, 1) := by decide +kernel
theorem dX1_allPromises_26 : decode cX1_allPromises 26 = .ok (.ireturn, 1) := by decide +kernel
theorem dX1_allOwners_0 : decode cX1_allOwners 0 = .ok (.iconst 0, 1) := by decide +kernel
theorem dX1_allOwners_1 : decode cX1_allOwners 1 = .ok (.istore_n 1, 1) := by decide +kernel
theorem dX1_allOwners_2 : decode cX1_allOwners 2 = .ok (.iconst 0, 1) := by decide +kernel
theorem dX1_allOwners_3 : decode cX1_allOwners 3 = .ok (.istore_n 2, 1) := by decide +kernel
theorem dX1_allOwners_4 : decode cX1_allOwners 4 = .ok (.iload_n 2, 1) := by decide +kernel
theorem dX1_allOwners_5 : decode cX1_allOwners 5 = .ok (.bipush 30, 2) := by decide +kernel
theorem dX1_allOwners_7 : decode cX1_allOwners 7 = .ok (.if_icmp .ge 18, 3) := by decide +kernel
theorem dX1_allOwners_10 : decode cX1_allOwners 10 = .ok (.iload_n 1, 1) := by decide +kernel
theorem dX1_allOwners_11 : decode cX1_allOwners 11 = .ok (.aload_n 0, 1) := by decide +kernel
theorem dX1_allOwners_12 : decode cX1_allOwners 12 = .ok (.getfield 36, 3) := by decide +kernel
theorem dX1_allOwners_15 : decode cX1_allOwners 15 = .ok (.iload_n 2, 1) := by decide +kernel
theorem dX1_allOwners_16 : decode cX1_allOwners 16 = .ok (.iaload, 1) := by decide +kernel
theorem dX1_allOwners_17 : decode cX1_allOwners 17 = .ok (.iadd, 1) := by decide +kernel
theorem dX1_allOwners_18 : decode cX1_allOwners 18 = .ok (.istore_n 1, 1) := by decide +kernel
theorem dX1_allOwners_19 : decode cX1_allOwners 19 = .ok (.iinc 2 1, 3) := by decide +kernel
theorem dX1_allOwners_22 : decode cX1_allOwners 22 = .ok (.goto (-18), 3) := by decide +kernel
theorem dX1_allOwners_25 : decode cX1_allOwners 25 = .ok (.iload_n 1, 1) := by decide +kernel
theorem dX1_allOwners_26 : decode cX1_allOwners 26 = .ok (.ireturn, 1) := by decide +kernel
theorem dX1_freePieces_0 : decode cX1_freePieces 0 = .ok (.iconst 0, 1) := by decide +kernel
theorem dX1_freePieces_1 : decode cX1_freePieces 1 = .ok (.istore_n 1, 1) := by decide +kernel
theorem dX1_freePieces_2 : decode cX1_freePieces 2 = .ok (.iconst 0, 1) := by decide +kernel
theorem dX1_freePieces_3 : decode cX1_freePieces 3 = .ok (.istore_n 2, 1) := by decide +kernel
theorem dX1_freePieces_4 : decode cX1_freePieces 4 = .ok (.iload_n 2, 1) := by decide +kernel
theorem dX1_freePieces_5 : decode cX1_freePieces 5 = .ok (.bipush 30, 2) := by decide +kernel
theorem dX1_freePieces_7 : decode cX1_freePieces 7 = .ok (.if_icmp .ge 21, 3) := by decide +kernel
theorem dX1_freePieces_10 : decode cX1_freePieces 10 = .ok (.aload_n 0, 1) := by decide +kernel
theorem dX1_freePieces_11 : decode cX1_freePieces 11 = .ok (.getfield 36, 3) := by decide +kernel
theorem dX1_freePieces_14 : decode cX1_freePieces 14 = .ok (.iload_n 2, 1) := by decide +kernel
theorem dX1_freePieces_15 : decode cX1_freePieces 15 = .ok (.iaload, 1) := by decide +kernel
theorem dX1_freePieces_16 : decode cX1_freePieces 16 = .ok (.ifCond .ne 6, 3) := by decide +kernel
theorem dX1_freePieces_19 : decode cX1_freePieces 19 = .ok (.iinc 1 1, 3) := by decide +kernel
theorem dX1_freePieces_22 : decode cX1_freePieces 22 = .ok (.iinc 2 1, 3) := by decide +kernel
theorem dX1_freePieces_25 : decode cX1_freePieces 25 = .ok (.goto (-21), 3) := by decide +kernel
theorem dX1_freePieces_28 : decode cX1_freePieces 28 = .ok (.iload_n 1, 1) := by decide +kernel
theorem dX1_freePieces_29 : decode cX1_freePieces 29 = .ok (.ireturn, 1) := by decide +kernel
theorem dX1_sharedPieces_0 : decode cX1_sharedPieces 0 = .ok (.iconst 0, 1) := by decide +kernel
theorem dX1_sharedPieces_1 : decode cX1_sharedPieces 1 = .ok (.istore_n 1, 1) := by decide +kernel
theorem dX1_sharedPieces_2 : decode cX1_sharedPieces 2 = .ok (.iconst 0, 1) := by decide +kernel
theorem dX1_sharedPieces_3 : decode cX1_sharedPieces 3 = .ok (.istore_n 2, 1) := by decide +kernel
theorem dX1_sharedPieces_4 : decode cX1_sharedPieces 4 = .ok (.iload_n 2, 1) := by decide +kernel
theorem dX1_sharedPieces_5 : decode cX1_sharedPieces 5 = .ok (.bipush 30, 2) := by decide +kernel
theorem dX1_sharedPieces_7 : decode cX1_sharedPieces 7 = .ok (.if_icmp .ge 22, 3) := by decide +kernel
theorem dX1_sharedPieces_10 : decode cX1_sharedPieces 10 = .ok (.aload_n 0, 1) := by decide +kernel
theorem dX1_sharedPieces_11 : decode cX1_sharedPieces 11 = .ok (.getfield 36, 3) := by decide +kernel
theorem dX1_sharedPieces_14 : decode cX1_sharedPieces 14 = .ok (.iload_n 2, 1) := by decide +kernel
theorem dX1_sharedPieces_15 : decode cX1_sharedPieces 15 = .ok (.iaload, 1) := by decide +kernel
theorem dX1_sharedPieces_16 : decode cX1_sharedPieces 16 = .ok (.iconst 1, 1) := by decide +kernel
theorem dX1_sharedPieces_17 : decode cX1_sharedPieces 17 = .ok (.if_icmp .le 6, 3) := by decide +kernel
theorem dX1_sharedPieces_20 : decode cX1_sharedPieces 20 = .ok (.iinc 1 1, 3) := by decide +kernel
theorem dX1_sharedPieces_23 : decode cX1_sharedPieces 23 = .ok (.iinc 2 1, 3) := by decide +kernel
theorem dX1_sharedPieces_26 : decode cX1_sharedPieces 26 = .ok (.goto (-22), 3) := by decide +kernel
theorem dX1_sharedPieces_29 : decode cX1_sharedPieces 29 = .ok (.iload_n 1, 1) := by decide +kernel
theorem dX1_sharedPieces_30 : decode cX1_sharedPieces 30 = .ok (.ireturn, 1) := by decide +kernel
set_option maxRecDepth 20000 in
theorem ggX1_placesWithPieces_X1_pieceAt : GoodIn wsX1_placesWithPieces wsX1_pieceAt := goodIn_r _ [5, 6, 7, 8, 9, 4, 10, 11, 12, 13, 14, 15, 16, 17, 18, 19, 20, 21, 22, 23, 24, 25, 26, 27, 28, 29] (by decide +kernel) (by decide +kernel)
set_option maxRecDepth 20000 in
theorem gX1_placesWithPieces_X1_pieceAt : GoodIn wsX1_placesWithPieces (wsV RX1 80 RX1 yX1_pieceAt wsX1_pieceAt) := goodIn_app (goodIn_of _ (by decide +kernel)) ggX1_placesWithPieces_X1_pieceAt
theorem dX1_placesWithPieces_0 : decode cX1_placesWithPieces 0 = .ok (.iconst 0, 1) := by decide +kernel
theorem dX1_placesWithPieces_1 : decode cX1_placesWithPieces 1 = .ok (.istore_n 2, 1) := by decide +kernel
theorem dX1_placesWithPieces_2 : decode cX1_placesWithPieces 2 = .ok (.iconst 0, 1) := by decide +kernel
theorem dX1_placesWithPieces_3 : decode cX1_placesWithPieces 3 = .ok (.istore_n 3, 1) := by decide +kernel
theorem dX1_placesWithPieces_4 : decode cX1_placesWithPieces 4 = .ok (.iload_n 3, 1) := by decide +kernel
theorem dX1_placesWithPieces_5 : decode cX1_placesWithPieces 5 = .ok (.bipush 40, 2) := by decide +kernel
theorem dX1_placesWithPieces_7 : decode cX1_placesWithPieces 7 = .ok (.if_icmp .ge 22, 3) := by decide +kernel
theorem dX1_placesWithPieces_10 : decode cX1_placesWithPieces 10 = .ok (.aload_n 0, 1) := by decide +kernel
theorem dX1_placesWithPieces_11 : decode cX1_placesWithPieces 11 = .ok (.iload_n 1, 1) := by decide +kernel
theorem dX1_placesWithPieces_12 : decode cX1_placesWithPieces 12 = .ok (.iload_n 3, 1) := by decide +kernel
theorem dX1_placesWithPieces_13 : decode cX1_placesWithPieces 13 = .ok (.invokevirtual 80, 3) := by decide +kernel
theorem dX1_placesWithPieces_16 : decode cX1_placesWithPieces 16 = .ok (.iconst (-1), 1) := by decide +kernel
theorem dX1_placesWithPieces_17 : decode cX1_placesWithPieces 17 = .ok (.if_icmp .eq 6, 3) := by decide +kernel
theorem dX1_placesWithPieces_20 : decode cX1_placesWithPieces 20 = .ok (.iinc 2 1, 3) := by decide +kernel
theorem dX1_placesWithPieces_23 : decode cX1_placesWithPieces 23 = .ok (.iinc 3 1, 3) := by decide +kernel
theorem dX1_placesWithPieces_26 : decode cX1_placesWithPieces 26 = .ok (.goto (-22), 3) := by decide +kernel
theorem dX1_placesWithPieces_29 : decode cX1_placesWithPieces 29 = .ok (.iload_n 2, 1) := by decide +kernel
theorem dX1_placesWithPieces_30 : decode cX1_placesWithPieces 30 = .ok (.ireturn, 1) := by decide +kernel
set_option maxRecDepth 20000 in
theorem ggX1_volumesThatOwn_X1_pieceAt : GoodIn wsX1_volumesThatOwn wsX1_pieceAt := goodIn_r _ [5, 6, 7, 8, 9, 4, 10, 11, 12, 13, 14, 15, 16, 17, 18, 19, 20, 21, 22, 23, 24, 25, 26, 27, 28, 29] (by decide +kernel) (by decide +kernel)
set_option maxRecDepth 20000 in
theorem gX1_volumesThatOwn_X1_pieceAt : GoodIn wsX1_volumesThatOwn (wsV RX1 80 RX1 yX1_pieceAt wsX1_pieceAt) := goodIn_app (goodIn_of _ (by decide +kernel)) ggX1_volumesThatOwn_X1_pieceAt
theorem dX1_volumesThatOwn_0 : decode cX1_volumesThatOwn 0 = .ok (.iconst 0, 1) := by decide +kernel
theorem dX1_volumesThatOwn_1 : decode cX1_volumesThatOwn 1 = .ok (.istore_n 2, 1) := by decide +kernel
theorem dX1_volumesThatOwn_2 : decode cX1_volumesThatOwn 2 = .ok (.iconst 0, 1) := by decide +kernel
theorem dX1_volumesThatOwn_3 : decode cX1_volumesThatOwn 3 = .ok (.istore_n 3, 1) := by decide +kernel
theorem dX1_volumesThatOwn_4 : decode cX1_volumesThatOwn 4 = .ok (.iload_n 3, 1) := by decide +kernel
theorem dX1_volumesThatOwn_5 : decode cX1_volumesThatOwn 5 = .ok (.bipush 8, 2) := by decide +kernel
theorem dX1_volumesThatOwn_7 : decode cX1_volumesThatOwn 7 = .ok (.if_icmp .ge 42, 3) := by decide +kernel
theorem dX1_volumesThatOwn_10 : decode cX1_volumesThatOwn 10 = .ok (.iconst 0, 1) := by decide +kernel
theorem dX1_volumesThatOwn_11 : decode cX1_volumesThatOwn 11 = .ok (.istore 4, 2) := by decide +kernel
theorem dX1_volumesThatOwn_13 : decode cX1_volumesThatOwn 13 = .ok (.iload 4, 2) := by decide +kernel
theorem dX1_volumesThatOwn_15 : decode cX1_volumesThatOwn 15 = .ok (.bipush 40, 2) := by decide +kernel
theorem dX1_volumesThatOwn_17 : decode cX1_volumesThatOwn 17 = .ok (.if_icmp .ge 26, 3) := by decide +kernel
theorem dX1_volumesThatOwn_20 : decode cX1_volumesThatOwn 20 = .ok (.aload_n 0, 1) := by decide +kernel
theorem dX1_volumesThatOwn_21 : decode cX1_volumesThatOwn 21 = .ok (.iload_n 3, 1) := by decide +kernel
theorem dX1_volumesThatOwn_22 : decode cX1_volumesThatOwn 22 = .ok (.iload 4, 2) := by decide +kernel
theorem dX1_volumesThatOwn_24 : decode cX1_volumesThatOwn 24 = .ok (.invokevirtual 80, 3) := by decide +kernel
theorem dX1_volumesThatOwn_27 : decode cX1_volumesThatOwn 27 = .ok (.iload_n 1, 1) := by decide +kernel
theorem dX1_volumesThatOwn_28 : decode cX1_volumesThatOwn 28 = .ok (.if_icmp .ne 9, 3) := by decide +kernel
theorem dX1_volumesThatOwn_31 : decode cX1_volumesThatOwn 31 = .ok (.iload_n 2, 1) := by decide +kernel
theorem dX1_volumesThatOwn_32 : decode cX1_volumesThatOwn 32 = .ok (.iconst 1, 1) := by decide +kernel
theorem dX1_volumesThatOwn_33 : decode cX1_volumesThatOwn 33 = .ok (.iload_n 3, 1) := by decide +kernel
theorem dX1_volumesThatOwn_34 : decode cX1_volumesThatOwn 34 = .ok (.ishl, 1) := by decide +kernel
theorem dX1_volumesThatOwn_35 : decode cX1_volumesThatOwn 35 = .ok (.ior, 1) := by decide +kernel
theorem dX1_volumesThatOwn_36 : decode cX1_volumesThatOwn 36 = .ok (.istore_n 2, 1) := by decide +kernel
theorem dX1_volumesThatOwn_37 : decode cX1_volumesThatOwn 37 = .ok (.iinc 4 1, 3) := by decide +kernel
theorem dX1_volumesThatOwn_40 : decode cX1_volumesThatOwn 40 = .ok (.goto (-27), 3) := by decide +kernel
theorem dX1_volumesThatOwn_43 : decode cX1_volumesThatOwn 43 = .ok (.iinc 3 1, 3) := by decide +kernel
theorem dX1_volumesThatOwn_46 : decode cX1_volumesThatOwn 46 = .ok (.goto (-42), 3) := by decide +kernel
theorem dX1_volumesThatOwn_49 : decode cX1_volumesThatOwn 49 = .ok (.iload_n 2, 1) := by decide +kernel
theorem dX1_volumesThatOwn_50 : decode cX1_volumesThatOwn 50 = .ok (.ireturn, 1) := by decide +kernel
set_option maxRecDepth 20000 in
theorem ggX1_piecesOwnedOnlyBy_X1_volumesThatOwn : GoodIn wsX1_piecesOwnedOnlyBy wsX1_volumesThatOwn := goodIn_r _ [6, 7, 8, 9, 5, 10, 11, 12, 13, 14, 15, 16, 17, 18, 19, 20, 21, 22, 23, 24, 25, 26, 27, 28, 29, 30, 31, 32, 33, 34] (by decide +kernel) (by decide +kernel)
set_option maxRecDepth 20000 in
theorem gX1_piecesOwnedOnlyBy_X1_volumesThatOwn : GoodIn wsX1_piecesOwnedOnlyBy (wsV RX1 84 RX1 yX1_volumesThatOwn wsX1_volumesThatOwn) := goodIn_app (goodIn_of _ (by decide +kernel)) ggX1_piecesOwnedOnlyBy_X1_volumesThatOwn
theorem dX1_piecesOwnedOnlyBy_0 : decode cX1_piecesOwnedOnlyBy 0 = .ok (.iconst 0, 1) := by decide +kernel
theorem dX1_piecesOwnedOnlyBy_1 : decode cX1_piecesOwnedOnlyBy 1 = .ok (.istore_n 2, 1) := by decide +kernel
theorem dX1_piecesOwnedOnlyBy_2 : decode cX1_piecesOwnedOnlyBy 2 = .ok (.iconst 0, 1) := by decide +kernel
theorem dX1_piecesOwnedOnlyBy_3 : decode cX1_piecesOwnedOnlyBy 3 = .ok (.istore_n 3, 1) := by decide +kernel
theorem dX1_piecesOwnedOnlyBy_4 : decode cX1_piecesOwnedOnlyBy 4 = .ok (.iload_n 3, 1) := by decide +kernel
theorem dX1_piecesOwnedOnlyBy_5 : decode cX1_piecesOwnedOnlyBy 5 = .ok (.bipush 30, 2) := by decide +kernel
theorem dX1_piecesOwnedOnlyBy_7 : decode cX1_piecesOwnedOnlyBy 7 = .ok (.if_icmp .ge 33, 3) := by decide +kernel
theorem dX1_piecesOwnedOnlyBy_10 : decode cX1_piecesOwnedOnlyBy 10 = .ok (.aload_n 0, 1) := by decide +kernel
theorem dX1_piecesOwnedOnlyBy_11 : decode cX1_piecesOwnedOnlyBy 11 = .ok (.getfield 36, 3) := by decide +kernel
theorem dX1_piecesOwnedOnlyBy_14 : decode cX1_piecesOwnedOnlyBy 14 = .ok (.iload_n 3, 1) := by decide +kernel
theorem dX1_piecesOwnedOnlyBy_15 : decode cX1_piecesOwnedOnlyBy 15 = .ok (.iaload, 1) := by decide +kernel
theorem dX1_piecesOwnedOnlyBy_16 : decode cX1_piecesOwnedOnlyBy 16 = .ok (.ifCond .le 18, 3) := by decide +kernel
theorem dX1_piecesOwnedOnlyBy_19 : decode cX1_piecesOwnedOnlyBy 19 = .ok (.aload_n 0, 1) := by decide +kernel
theorem dX1_piecesOwnedOnlyBy_20 : decode cX1_piecesOwnedOnlyBy 20 = .ok (.iload_n 3, 1) := by decide +kernel
theorem dX1_piecesOwnedOnlyBy_21 : decode cX1_piecesOwnedOnlyBy 21 = .ok (.invokevirtual 84, 3) := by decide +kernel
theorem dX1_piecesOwnedOnlyBy_24 : decode cX1_piecesOwnedOnlyBy 24 = .ok (.iload_n 1, 1) := by decide +kernel
theorem dX1_piecesOwnedOnlyBy_25 : decode cX1_piecesOwnedOnlyBy 25 = .ok (.iconst (-1), 1) := by decide +kernel
theorem dX1_piecesOwnedOnlyBy_26 : decode cX1_piecesOwnedOnlyBy 26 = .ok (.ixor, 1) := by decide +kernel
theorem dX1_piecesOwnedOnlyBy_27 : decode cX1_piecesOwnedOnlyBy 27 = .ok (.iand, 1) := by decide +kernel
theorem dX1_piecesOwnedOnlyBy_28 : decode cX1_piecesOwnedOnlyBy 28 = .ok (.ifCond .ne 6, 3) := by decide +kernel
theorem dX1_piecesOwnedOnlyBy_31 : decode cX1_piecesOwnedOnlyBy 31 = .ok (.iinc 2 1, 3) := by decide +kernel
theorem dX1_piecesOwnedOnlyBy_34 : decode cX1_piecesOwnedOnlyBy 34 = .ok (.iinc 3 1, 3) := by decide +kernel
theorem dX1_piecesOwnedOnlyBy_37 : decode cX1_piecesOwnedOnlyBy 37 = .ok (.goto (-33), 3) := by decide +kernel
theorem dX1_piecesOwnedOnlyBy_40 : decode cX1_piecesOwnedOnlyBy 40 = .ok (.iload_n 2, 1) := by decide +kernel
theorem dX1_piecesOwnedOnlyBy_41 : decode cX1_piecesOwnedOnlyBy 41 = .ok (.ireturn, 1) := by decide +kernel
set_option maxRecDepth 20000 in
theorem ggX1_clonesOf_X1_lives : GoodIn wsX1_clonesOf wsX1_lives := goodIn_r _ [6, 7, 8, 9, 10, 11, 12, 13, 14, 15, 16, 17, 18, 19, 20, 21] (by decide +kernel) (by decide +kernel)
set_option maxRecDepth 20000 in
theorem gX1_clonesOf_X1_lives : GoodIn wsX1_clonesOf (wsV RX1 69 RX1 yX1_lives wsX1_lives) := goodIn_app (goodIn_of _ (by decide +kernel)) ggX1_clonesOf_X1_lives
theorem dX1_clonesOf_0 : decode cX1_clonesOf 0 = .ok (.iconst 0, 1) := by decide +kernel
theorem dX1_clonesOf_1 : decode cX1_clonesOf 1 = .ok (.istore_n 2, 1) := by decide +kernel
theorem dX1_clonesOf_2 : decode cX1_clonesOf 2 = .ok (.iconst 0, 1) := by decide +kernel
theorem dX1_clonesOf_3 : decode cX1_clonesOf 3 = .ok (.istore_n 3, 1) := by decide +kernel
theorem dX1_clonesOf_4 : decode cX1_clonesOf 4 = .ok (.iload_n 3, 1) := by decide +kernel
theorem dX1_clonesOf_5 : decode cX1_clonesOf 5 = .ok (.bipush 8, 2) := by decide +kernel
theorem dX1_clonesOf_7 : decode cX1_clonesOf 7 = .ok (.if_icmp .ge 33, 3) := by decide +kernel
theorem dX1_clonesOf_10 : decode cX1_clonesOf 10 = .ok (.aload_n 0, 1) := by decide +kernel
theorem dX1_clonesOf_11 : decode cX1_clonesOf 11 = .ok (.iload_n 3, 1) := by decide +kernel
theorem dX1_clonesOf_12 : decode cX1_clonesOf 12 = .ok (.invokevirtual 69, 3) := by decide +kernel
theorem dX1_clonesOf_15 : decode cX1_clonesOf 15 = .ok (.ifCond .eq 19, 3) := by decide +kernel
theorem dX1_clonesOf_18 : decode cX1_clonesOf 18 = .ok (.aload_n 0, 1) := by decide +kernel
theorem dX1_clonesOf_19 : decode cX1_clonesOf 19 = .ok (.getfield 21, 3) := by decide +kernel
theorem dX1_clonesOf_22 : decode cX1_clonesOf 22 = .ok (.iload_n 3, 1) := by decide +kernel
theorem dX1_clonesOf_23 : decode cX1_clonesOf 23 = .ok (.iaload, 1) := by decide +kernel
theorem dX1_clonesOf_24 : decode cX1_clonesOf 24 = .ok (.iload_n 1, 1) := by decide +kernel
theorem dX1_clonesOf_25 : decode cX1_clonesOf 25 = .ok (.if_icmp .ne 9, 3) := by decide +kernel
theorem dX1_clonesOf_28 : decode cX1_clonesOf 28 = .ok (.iload_n 2, 1) := by decide +kernel
theorem dX1_clonesOf_29 : decode cX1_clonesOf 29 = .ok (.iconst 1, 1) := by decide +kernel
theorem dX1_clonesOf_30 : decode cX1_clonesOf 30 = .ok (.iload_n 3, 1) := by decide +kernel
theorem dX1_clonesOf_31 : decode cX1_clonesOf 31 = .ok (.ishl, 1) := by decide +kernel
theorem dX1_clonesOf_32 : decode cX1_clonesOf 32 = .ok (.ior, 1) := by decide +kernel
theorem dX1_clonesOf_33 : decode cX1_clonesOf 33 = .ok (.istore_n 2, 1) := by decide +kernel
theorem dX1_clonesOf_34 : decode cX1_clonesOf 34 = .ok (.iinc 3 1, 3) := by decide +kernel
theorem dX1_clonesOf_37 : decode cX1_clonesOf 37 = .ok (.goto (-33), 3) := by decide +kernel
theorem dX1_clonesOf_40 : decode cX1_clonesOf 40 = .ok (.iload_n 2, 1) := by decide +kernel
theorem dX1_clonesOf_41 : decode cX1_clonesOf 41 = .ok (.ireturn, 1) := by decide +kernel
set_option maxRecDepth 20000 in
theorem ggX1_stepsUp_X1_lives : GoodIn wsX1_stepsUp wsX1_lives := goodIn_r _ [6, 7, 8, 9, 10, 11, 12, 13, 14, 15, 16, 17, 18, 19, 20, 21] (by decide +kernel) (by decide +kernel)
set_option maxRecDepth 20000 in
theorem gX1_stepsUp_X1_lives : GoodIn wsX1_stepsUp (wsV RX1 69 RX1 yX1_lives wsX1_lives) := goodIn_app (goodIn_of _ (by decide +kernel)) ggX1_stepsUp_X1_lives
theorem dX1_stepsUp_0 : decode cX1_stepsUp 0 = .ok (.iload_n 1, 1) := by decide +kernel
theorem dX1_stepsUp_1 : decode cX1_stepsUp 1 = .ok (.istore_n 3, 1) := by decide +kernel
theorem dX1_stepsUp_2 : decode cX1_stepsUp 2 = .ok (.iconst 0, 1) := by decide +kernel
theorem dX1_stepsUp_3 : decode cX1_stepsUp 3 = .ok (.istore 4, 2) := by decide +kernel
theorem dX1_stepsUp_5 : decode cX1_stepsUp 5 = .ok (.iload 4, 2) := by decide +kernel
theorem dX1_stepsUp_7 : decode cX1_stepsUp 7 = .ok (.bipush 8, 2) := by decide +kernel
theorem dX1_stepsUp_9 : decode cX1_stepsUp 9 = .ok (.if_icmp .ge 34, 3) := by decide +kernel
theorem dX1_stepsUp_12 : decode cX1_stepsUp 12 = .ok (.aload_n 0, 1) := by decide +kernel
theorem dX1_stepsUp_13 : decode cX1_stepsUp 13 = .ok (.iload_n 3, 1) := by decide +kernel
theorem dX1_stepsUp_14 : decode cX1_stepsUp 14 = .ok (.invokevirtual 69, 3) := by decide +kernel
theorem dX1_stepsUp_17 : decode cX1_stepsUp 17 = .ok (.ifCond .ne 5, 3) := by decide +kernel
theorem dX1_stepsUp_20 : decode cX1_stepsUp 20 = .ok (.iconst (-1), 1) := by decide +kernel
theorem dX1_stepsUp_21 : decode cX1_stepsUp 21 = .ok (.ireturn, 1) := by decide +kernel
theorem dX1_stepsUp_22 : decode cX1_stepsUp 22 = .ok (.iload_n 3, 1) := by decide +kernel
theorem dX1_stepsUp_23 : decode cX1_stepsUp 23 = .ok (.iload_n 2, 1) := by decide +kernel
theorem dX1_stepsUp_24 : decode cX1_stepsUp 24 = .ok (.if_icmp .ne 6, 3) := by decide +kernel
theorem dX1_stepsUp_27 : decode cX1_stepsUp 27 = .ok (.iload 4, 2) := by decide +kernel
theorem dX1_stepsUp_29 : decode cX1_stepsUp 29 = .ok (.ireturn, 1) := by decide +kernel
theorem dX1_stepsUp_30 : decode cX1_stepsUp 30 = .ok (.aload_n 0, 1) := by decide +kernel
theorem dX1_stepsUp_31 : decode cX1_stepsUp 31 = .ok (.getfield 21, 3) := by decide +kernel
theorem dX1_stepsUp_34 : decode cX1_stepsUp 34 = .ok (.iload_n 3, 1) := by decide +kernel
theorem dX1_stepsUp_35 : decode cX1_stepsUp 35 = .ok (.iaload, 1) := by decide +kernel
theorem dX1_stepsUp_36 : decode cX1_stepsUp 36 = .ok (.istore_n 3, 1) := by decide +kernel
theorem dX1_stepsUp_37 : decode cX1_stepsUp 37 = .ok (.iinc 4 1, 3) := by decide +kernel
theorem dX1_stepsUp_40 : decode cX1_stepsUp 40 = .ok (.goto (-35), 3) := by decide +kernel
theorem dX1_stepsUp_43 : decode cX1_stepsUp 43 = .ok (.iconst (-1), 1) := by decide +kernel
theorem dX1_stepsUp_44 : decode cX1_stepsUp 44 = .ok (.ireturn, 1) := by decide +kernel
set_option maxRecDepth 20000 in
theorem ggX1_familyOf_X1_stepsUp : GoodIn wsX1_familyOf wsX1_stepsUp := goodIn_r _ [5, 6, 7, 8, 9, 4, 10, 11, 12, 13, 14, 15, 16, 17, 18, 19, 20, 21, 22, 23, 24, 25] (by decide +kernel) (by decide +kernel)
set_option maxRecDepth 20000 in
theorem gX1_familyOf_X1_stepsUp : GoodIn wsX1_familyOf (wsV RX1 88 RX1 yX1_stepsUp wsX1_stepsUp) := goodIn_app (goodIn_of _ (by decide +kernel)) ggX1_familyOf_X1_stepsUp
theorem dX1_familyOf_0 : decode cX1_familyOf 0 = .ok (.iconst 0, 1) := by decide +kernel
theorem dX1_familyOf_1 : decode cX1_familyOf 1 = .ok (.istore_n 2, 1) := by decide +kernel
theorem dX1_familyOf_2 : decode cX1_familyOf 2 = .ok (.iconst 0, 1) := by decide +kernel
theorem dX1_familyOf_3 : decode cX1_familyOf 3 = .ok (.istore_n 3, 1) := by decide +kernel
theorem dX1_familyOf_4 : decode cX1_familyOf 4 = .ok (.iload_n 3, 1) := by decide +kernel
theorem dX1_familyOf_5 : decode cX1_familyOf 5 = .ok (.bipush 8, 2) := by decide +kernel
theorem dX1_familyOf_7 : decode cX1_familyOf 7 = .ok (.if_icmp .ge 25, 3) := by decide +kernel
theorem dX1_familyOf_10 : decode cX1_familyOf 10 = .ok (.aload_n 0, 1) := by decide +kernel
theorem dX1_familyOf_11 : decode cX1_familyOf 11 = .ok (.iload_n 3, 1) := by decide +kernel
theorem dX1_familyOf_12 : decode cX1_familyOf 12 = .ok (.iload_n 1, 1) := by decide +kernel
theorem dX1_familyOf_13 : decode cX1_familyOf 13 = .ok (.invokevirtual 88, 3) := by decide +kernel
theorem dX1_familyOf_16 : decode cX1_familyOf 16 = .ok (.iconst (-1), 1) := by decide +kernel
theorem dX1_familyOf_17 : decode cX1_familyOf 17 = .ok (.if_icmp .eq 9, 3) := by decide +kernel
theorem dX1_familyOf_20 : decode cX1_familyOf 20 = .ok (.iload_n 2, 1) := by decide +kernel
theorem dX1_familyOf_21 : decode cX1_familyOf 21 = .ok (.iconst 1, 1) := by decide +kernel
theorem dX1_familyOf_22 : decode cX1_familyOf 22 = .ok (.iload_n 3, 1) := by decide +kernel
theorem dX1_familyOf_23 : decode cX1_familyOf 23 = .ok (.ishl, 1) := by decide +kernel
theorem dX1_familyOf_24 : decode cX1_familyOf 24 = .ok (.ior, 1) := by decide +kernel
theorem dX1_familyOf_25 : decode cX1_familyOf 25 = .ok (.istore_n 2, 1) := by decide +kernel
theorem dX1_familyOf_26 : decode cX1_familyOf 26 = .ok (.iinc 3 1, 3) := by decide +kernel
theorem dX1_familyOf_29 : decode cX1_familyOf 29 = .ok (.goto (-25), 3) := by decide +kernel
theorem dX1_familyOf_32 : decode cX1_familyOf 32 = .ok (.iload_n 2, 1) := by decide +kernel
theorem dX1_familyOf_33 : decode cX1_familyOf 33 = .ok (.ireturn, 1) := by decide +kernel
set_option maxRecDepth 20000 in
theorem ggX1_longestLineFrom_X1_stepsUp : GoodIn wsX1_longestLineFrom wsX1_stepsUp := goodIn_r _ [9, 10, 11, 12, 13, 8, 14, 15, 16, 17, 18, 19, 20, 21, 22, 23, 24, 25, 26, 27, 28, 29] (by decide +kernel) (by decide +kernel)
set_option maxRecDepth 20000 in
theorem gX1_longestLineFrom_X1_stepsUp : GoodIn wsX1_longestLineFrom (wsV RX1 88 RX1 yX1_stepsUp wsX1_stepsUp) := goodIn_app (goodIn_of _ (by decide +kernel)) ggX1_longestLineFrom_X1_stepsUp
theorem dX1_longestLineFrom_0 : decode cX1_longestLineFrom 0 = .ok (.iconst 0, 1) := by decide +kernel
theorem dX1_longestLineFrom_1 : decode cX1_longestLineFrom 1 = .ok (.istore_n 2, 1) := by decide +kernel
theorem dX1_longestLineFrom_2 : decode cX1_longestLineFrom 2 = .ok (.iconst 0, 1) := by decide +kernel
theorem dX1_longestLineFrom_3 : decode cX1_longestLineFrom 3 = .ok (.istore_n 3, 1) := by decide +kernel
theorem dX1_longestLineFrom_4 : decode cX1_longestLineFrom 4 = .ok (.iload_n 3, 1) := by decide +kernel
theorem dX1_longestLineFrom_5 : decode cX1_longestLineFrom 5 = .ok (.bipush 8, 2) := by decide +kernel
theorem dX1_longestLineFrom_7 : decode cX1_longestLineFrom 7 = .ok (.if_icmp .ge 20, 3) := by decide +kernel
theorem dX1_longestLineFrom_10 : decode cX1_longestLineFrom 10 = .ok (.iload_n 2, 1) := by decide +kernel
theorem dX1_longestLineFrom_11 : decode cX1_longestLineFrom 11 = .ok (.aload_n 0, 1) := by decide +kernel
theorem dX1_longestLineFrom_12 : decode cX1_longestLineFrom 12 = .ok (.iload_n 3, 1) := by decide +kernel
theorem dX1_longestLineFrom_13 : decode cX1_longestLineFrom 13 = .ok (.iload_n 1, 1) := by decide +kernel
theorem dX1_longestLineFrom_14 : decode cX1_longestLineFrom 14 = .ok (.invokevirtual 88, 3) := by decide +kernel
theorem dX1_longestLineFrom_17 : decode cX1_longestLineFrom 17 = .ok (.invokestatic 91, 3) := by decide +kernel
theorem dX1_longestLineFrom_20 : decode cX1_longestLineFrom 20 = .ok (.istore_n 2, 1) := by decide +kernel
theorem dX1_longestLineFrom_21 : decode cX1_longestLineFrom 21 = .ok (.iinc 3 1, 3) := by decide +kernel
theorem dX1_longestLineFrom_24 : decode cX1_longestLineFrom 24 = .ok (.goto (-20), 3) := by decide +kernel
theorem dX1_longestLineFrom_27 : decode cX1_longestLineFrom 27 = .ok (.iload_n 2, 1) := by decide +kernel
theorem dX1_longestLineFrom_28 : decode cX1_longestLineFrom 28 = .ok (.ireturn, 1) := by decide +kernel
set_option maxRecDepth 20000 in
theorem ggX1_available_X1_freePieces : GoodIn wsX1_available wsX1_freePieces := goodIn_r _ [5, 6, 12, 13, 14, 15, 16, 17, 18, 19, 20, 21, 22, 23, 24, 25] (by decide +kernel) (by decide +kernel)
set_option maxRecDepth 20000 in
theorem gX1_available_X1_freePieces : GoodIn wsX1_available (wsV RX1 96 RX1 yX1_freePieces wsX1_freePieces) := goodIn_app (goodIn_of _ (by decide +kernel)) ggX1_available_X1_freePieces
set_option maxRecDepth 20000 in
theorem ggX1_available_X1_allPromises : GoodIn wsX1_available wsX1_allPromises := goodIn_r _ [10, 11, 12, 13, 14, 15, 16, 17, 18, 19, 20, 21, 22, 23, 24, 25] (by decide +kernel) (by decide +kernel)
set_option maxRecDepth 20000 in
theorem gX1_available_X1_allPromises : GoodIn wsX1_available (wsV RX1 100 RX1 yX1_allPromises wsX1_allPromises) := goodIn_app (goodIn_of _ (by decide +kernel)) ggX1_available_X1_allPromises
theorem dX1_available_0 : decode cX1_available 0 = .ok (.aload_n 0, 1) := by decide +kernel
theorem dX1_available_1 : decode cX1_available 1 = .ok (.invokevirtual 96, 3) := by decide +kernel
theorem dX1_available_4 : decode cX1_available 4 = .ok (.aload_n 0, 1) := by decide +kernel
theorem dX1_available_5 : decode cX1_available 5 = .ok (.invokevirtual 100, 3) := by decide +kernel
theorem dX1_available_8 : decode cX1_available 8 = .ok (.isub, 1) := by decide +kernel
theorem dX1_available_9 : decode cX1_available 9 = .ok (.ireturn, 1) := by decide +kernel
set_option maxRecDepth 20000 in
theorem ggX1_level_X1_available : GoodIn wsX1_level wsX1_available := goodIn_r _ [5, 6, 7, 8, 4, 9, 10, 11, 12, 13, 14, 15, 21, 22, 23, 24, 25, 26, 27, 28, 29, 30, 31, 32, 33, 34] (by decide +kernel) (by decide +kernel)
set_option maxRecDepth 20000 in
theorem gX1_level_X1_available : GoodIn wsX1_level (wsV RX1 103 RX1 yX1_available wsX1_available) := goodIn_app (goodIn_of _ (by decide +kernel)) ggX1_level_X1_available
set_option maxRecDepth 20000 in
theorem ggX1_level_X1_levelWith : GoodIn wsX1_level wsX1_levelWith := goodIn_r _ [19, 20, 21, 22, 23, 24, 25, 26, 27, 28, 29, 30, 31, 32, 33, 34] (by decide +kernel) (by decide +kernel)
set_option maxRecDepth 20000 in
theorem gX1_level_X1_levelWith : GoodIn wsX1_level (wsV RX1 106 RX1 yX1_levelWith wsX1_levelWith) := goodIn_app (goodIn_of _ (by decide +kernel)) ggX1_level_X1_levelWith
theorem dX1_level_0 : decode cX1_level 0 = .ok (.aload_n 0, 1) := by decide +kernel
theorem dX1_level_1 : decode cX1_level 1 = .ok (.aload_n 0, 1) := by decide +kernel
theorem dX1_level_2 : decode cX1_level 2 = .ok (.invokevirtual 103, 3) := by decide +kernel
theorem dX1_level_5 : decode cX1_level 5 = .ok (.invokevirtual 106, 3) := by decide +kernel
theorem dX1_level_8 : decode cX1_level 8 = .ok (.ireturn, 1) := by decide +kernel
theorem dX1_levelWith_0 : decode cX1_levelWith 0 = .ok (.iload_n 1, 1) := by decide +kernel
theorem dX1_levelWith_1 : decode cX1_levelWith 1 = .ok (.aload_n 0, 1) := by decide +kernel
theorem dX1_levelWith_2 : decode cX1_levelWith 2 = .ok (.getfield 39, 3) := by decide +kernel
theorem dX1_levelWith_5 : decode cX1_levelWith 5 = .ok (.iconst 1, 1) := by decide +kernel
theorem dX1_levelWith_6 : decode cX1_levelWith 6 = .ok (.iaload, 1) := by decide +kernel
theorem dX1_levelWith_7 : decode cX1_levelWith 7 = .ok (.if_icmp .gt 5, 3) := by decide +kernel
theorem dX1_levelWith_10 : decode cX1_levelWith 10 = .ok (.iconst 2, 1) := by decide +kernel
theorem dX1_levelWith_11 : decode cX1_levelWith 11 = .ok (.ireturn, 1) := by decide +kernel
theorem dX1_levelWith_12 : decode cX1_levelWith 12 = .ok (.iload_n 1, 1) := by decide +kernel
theorem dX1_levelWith_13 : decode cX1_levelWith 13 = .ok (.aload_n 0, 1) := by decide +kernel
theorem dX1_levelWith_14 : decode cX1_levelWith 14 = .ok (.getfield 39, 3) := by decide +kernel
theorem dX1_levelWith_17 : decode cX1_levelWith 17 = .ok (.iconst 0, 1) := by decide +kernel
theorem dX1_levelWith_18 : decode cX1_levelWith 18 = .ok (.iaload, 1) := by decide +kernel
theorem dX1_levelWith_19 : decode cX1_levelWith 19 = .ok (.if_icmp .gt 7, 3) := by decide +kernel
theorem dX1_levelWith_22 : decode cX1_levelWith 22 = .ok (.iconst 1, 1) := by decide +kernel
theorem dX1_levelWith_23 : decode cX1_levelWith 23 = .ok (.goto 4, 3) := by decide +kernel
theorem dX1_levelWith_26 : decode cX1_levelWith 26 = .ok (.iconst 0, 1) := by decide +kernel
theorem dX1_levelWith_27 : decode cX1_levelWith 27 = .ok (.ireturn, 1) := by decide +kernel
set_option maxRecDepth 20000 in
theorem ggX1_rankWith_X1_lives : GoodIn wsX1_rankWith wsX1_lives := goodIn_r _ [6, 7, 8, 9, 10, 11, 12, 13, 14, 15, 16, 17, 18, 19, 20, 21] (by decide +kernel) (by decide +kernel)
set_option maxRecDepth 20000 in
theorem gX1_rankWith_X1_lives : GoodIn wsX1_rankWith (wsV RX1 69 RX1 yX1_lives wsX1_lives) := goodIn_app (goodIn_of _ (by decide +kernel)) ggX1_rankWith_X1_lives
theorem dX1_rankWith_0 : decode cX1_rankWith 0 = .ok (.iconst 0, 1) := by decide +kernel
theorem dX1_rankWith_1 : decode cX1_rankWith 1 = .ok (.istore_n 3, 1) := by decide +kernel
theorem dX1_rankWith_2 : decode cX1_rankWith 2 = .ok (.iconst 0, 1) := by decide +kernel
theorem dX1_rankWith_3 : decode cX1_rankWith 3 = .ok (.istore 4, 2) := by decide +kernel
theorem dX1_rankWith_5 : decode cX1_rankWith 5 = .ok (.iload 4, 2) := by decide +kernel
theorem dX1_rankWith_7 : decode cX1_rankWith 7 = .ok (.bipush 8, 2) := by decide +kernel
theorem dX1_rankWith_9 : decode cX1_rankWith 9 = .ok (.if_icmp .ge 67, 3) := by decide +kernel
theorem dX1_rankWith_12 : decode cX1_rankWith 12 = .ok (.aload_n 0, 1) := by decide +kernel
theorem dX1_rankWith_13 : decode cX1_rankWith 13 = .ok (.getfield 15, 3) := by decide +kernel
theorem dX1_rankWith_16 : decode cX1_rankWith 16 = .ok (.iload 4, 2) := by decide +kernel
theorem dX1_rankWith_18 : decode cX1_rankWith 18 = .ok (.iaload, 1) := by decide +kernel
theorem dX1_rankWith_19 : decode cX1_rankWith 19 = .ok (.iload_n 2, 1) := by decide +kernel
theorem dX1_rankWith_20 : decode cX1_rankWith 20 = .ok (.if_icmp .gt 20, 3) := by decide +kernel
theorem dX1_rankWith_23 : decode cX1_rankWith 23 = .ok (.aload_n 0, 1) := by decide +kernel
theorem dX1_rankWith_24 : decode cX1_rankWith 24 = .ok (.getfield 15, 3) := by decide +kernel
theorem dX1_rankWith_27 : decode cX1_rankWith 27 = .ok (.iload 4, 2) := by decide +kernel
theorem dX1_rankWith_29 : decode cX1_rankWith 29 = .ok (.iaload, 1) := by decide +kernel
theorem dX1_rankWith_30 : decode cX1_rankWith 30 = .ok (.iload_n 2, 1) := by decide +kernel
theorem dX1_rankWith_31 : decode cX1_rankWith 31 = .ok (.if_icmp .ne 13, 3) := by decide +kernel
theorem dX1_rankWith_34 : decode cX1_rankWith 34 = .ok (.iload 4, 2) := by decide +kernel
theorem dX1_rankWith_36 : decode cX1_rankWith 36 = .ok (.iload_n 1, 1) := by decide +kernel
theorem dX1_rankWith_37 : decode cX1_rankWith 37 = .ok (.if_icmp .ge 7, 3) := by decide +kernel
theorem dX1_rankWith_40 : decode cX1_rankWith 40 = .ok (.iconst 1, 1) := by decide +kernel
theorem dX1_rankWith_41 : decode cX1_rankWith 41 = .ok (.goto 4, 3) := by decide +kernel
theorem dX1_rankWith_44 : decode cX1_rankWith 44 = .ok (.iconst 0, 1) := by decide +kernel
theorem dX1_rankWith_45 : decode cX1_rankWith 45 = .ok (.istore 5, 2) := by decide +kernel
theorem dX1_rankWith_47 : decode cX1_rankWith 47 = .ok (.iload 4, 2) := by decide +kernel
theorem dX1_rankWith_49 : decode cX1_rankWith 49 = .ok (.iload_n 1, 1) := by decide +kernel
theorem dX1_rankWith_50 : decode cX1_rankWith 50 = .ok (.if_icmp .eq 20, 3) := by decide +kernel
theorem dX1_rankWith_53 : decode cX1_rankWith 53 = .ok (.aload_n 0, 1) := by decide +kernel
theorem dX1_rankWith_54 : decode cX1_rankWith 54 = .ok (.iload 4, 2) := by decide +kernel
theorem dX1_rankWith_56 : decode cX1_rankWith 56 = .ok (.invokevirtual 69, 3) := by decide +kernel
theorem dX1_rankWith_59 : decode cX1_rankWith 59 = .ok (.ifCond .eq 11, 3) := by decide +kernel
theorem dX1_rankWith_62 : decode cX1_rankWith 62 = .ok (.iload 5, 2) := by decide +kernel
theorem dX1_rankWith_64 : decode cX1_rankWith 64 = .ok (.ifCond .eq 6, 3) := by decide +kernel
theorem dX1_rankWith_67 : decode cX1_rankWith 67 = .ok (.iinc 3 1, 3) := by decide +kernel
theorem dX1_rankWith_70 : decode cX1_rankWith 70 = .ok (.iinc 4 1, 3) := by decide +kernel
theorem dX1_rankWith_73 : decode cX1_rankWith 73 = .ok (.goto (-68), 3) := by decide +kernel
theorem dX1_rankWith_76 : decode cX1_rankWith 76 = .ok (.iload_n 3, 1) := by decide +kernel
theorem dX1_rankWith_77 : decode cX1_rankWith 77 = .ok (.ireturn, 1) := by decide +kernel
set_option maxRecDepth 20000 in
theorem ggX1_volumeWithRank_X1_lives : GoodIn wsX1_volumeWithRank wsX1_lives := goodIn_r _ [7, 8, 13, 14, 15, 16, 17, 18, 19, 20, 21, 22, 23, 24, 25, 26] (by decide +kernel) (by decide +kernel)
set_option maxRecDepth 20000 in
theorem gX1_volumeWithRank_X1_lives : GoodIn wsX1_volumeWithRank (wsV RX1 69 RX1 yX1_lives wsX1_lives) := goodIn_app (goodIn_of _ (by decide +kernel)) ggX1_volumeWithRank_X1_lives
set_option maxRecDepth 20000 in
theorem ggX1_volumeWithRank_X1_rankWith : GoodIn wsX1_volumeWithRank wsX1_rankWith := goodIn_r _ [12, 1, 3, 4, 5, 6, 7, 8, 13, 14, 15, 16, 17, 18, 19, 20, 21, 22, 23, 24, 25, 26] (by decide +kernel) (by decide +kernel)
set_option maxRecDepth 20000 in
theorem gX1_volumeWithRank_X1_rankWith : GoodIn wsX1_volumeWithRank (wsV RX1 109 RX1 yX1_rankWith wsX1_rankWith) := goodIn_app (goodIn_of _ (by decide +kernel)) ggX1_volumeWithRank_X1_rankWith
theorem dX1_volumeWithRank_0 : decode cX1_volumeWithRank 0 = .ok (.iconst 0, 1) := by decide +kernel
theorem dX1_volumeWithRank_1 : decode cX1_volumeWithRank 1 = .ok (.istore_n 2, 1) := by decide +kernel
theorem dX1_volumeWithRank_2 : decode cX1_volumeWithRank 2 = .ok (.iload_n 2, 1) := by decide +kernel
theorem dX1_volumeWithRank_3 : decode cX1_volumeWithRank 3 = .ok (.bipush 8, 2) := by decide +kernel
theorem dX1_volumeWithRank_5 : decode cX1_volumeWithRank 5 = .ok (.if_icmp .ge 34, 3) := by decide +kernel
theorem dX1_volumeWithRank_8 : decode cX1_volumeWithRank 8 = .ok (.aload_n 0, 1) := by decide +kernel
theorem dX1_volumeWithRank_9 : decode cX1_volumeWithRank 9 = .ok (.iload_n 2, 1) := by decide +kernel
theorem dX1_volumeWithRank_10 : decode cX1_volumeWithRank 10 = .ok (.invokevirtual 69, 3) := by decide +kernel
theorem dX1_volumeWithRank_13 : decode cX1_volumeWithRank 13 = .ok (.ifCond .eq 20, 3) := by decide +kernel
theorem dX1_volumeWithRank_16 : decode cX1_volumeWithRank 16 = .ok (.aload_n 0, 1) := by decide +kernel
theorem dX1_volumeWithRank_17 : decode cX1_volumeWithRank 17 = .ok (.iload_n 2, 1) := by decide +kernel
theorem dX1_volumeWithRank_18 : decode cX1_volumeWithRank 18 = .ok (.aload_n 0, 1) := by decide +kernel
theorem dX1_volumeWithRank_19 : decode cX1_volumeWithRank 19 = .ok (.getfield 15, 3) := by decide +kernel
theorem dX1_volumeWithRank_22 : decode cX1_volumeWithRank 22 = .ok (.iload_n 2, 1) := by decide +kernel
theorem dX1_volumeWithRank_23 : decode cX1_volumeWithRank 23 = .ok (.iaload, 1) := by decide +kernel
theorem dX1_volumeWithRank_24 : decode cX1_volumeWithRank 24 = .ok (.invokevirtual 109, 3) := by decide +kernel
theorem dX1_volumeWithRank_27 : decode cX1_volumeWithRank 27 = .ok (.iload_n 1, 1) := by decide +kernel
theorem dX1_volumeWithRank_28 : decode cX1_volumeWithRank 28 = .ok (.if_icmp .ne 5, 3) := by decide +kernel
theorem dX1_volumeWithRank_31 : decode cX1_volumeWithRank 31 = .ok (.iload_n 2, 1) := by decide +kernel
theorem dX1_volumeWithRank_32 : decode cX1_volumeWithRank 32 = .ok (.ireturn, 1) := by decide +kernel
theorem dX1_volumeWithRank_33 : decode cX1_volumeWithRank 33 = .ok (.iinc 2 1, 3) := by decide +kernel
theorem dX1_volumeWithRank_36 : decode cX1_volumeWithRank 36 = .ok (.goto (-34), 3) := by decide +kernel
theorem dX1_volumeWithRank_39 : decode cX1_volumeWithRank 39 = .ok (.ldc 112, 2) := by decide +kernel
theorem dX1_volumeWithRank_41 : decode cX1_volumeWithRank 41 = .ok (.ireturn, 1) := by decide +kernel
set_option maxRecDepth 20000 in
theorem ggX1_wouldGetUnpromised_X1_levelWith : GoodIn wsX1_wouldGetUnpromised wsX1_levelWith := goodIn_r _ [6, 1, 17, 18, 19, 20, 21, 22, 23, 24, 25, 26, 27, 28, 29, 30] (by decide +kernel) (by decide +kernel)
set_option maxRecDepth 20000 in
theorem gX1_wouldGetUnpromised_X1_levelWith : GoodIn wsX1_wouldGetUnpromised (wsV RX1 106 RX1 yX1_levelWith wsX1_levelWith) := goodIn_app (goodIn_of _ (by decide +kernel)) ggX1_wouldGetUnpromised_X1_levelWith
set_option maxRecDepth 20000 in
theorem ggX1_wouldGetUnpromised_X1_rankWith : GoodIn wsX1_wouldGetUnpromised wsX1_rankWith := goodIn_r _ [10, 11, 12, 13, 14, 5, 15, 16, 17, 18, 19, 20, 21, 22, 23, 24, 25, 26, 27, 28, 29, 30] (by decide +kernel) (by decide +kernel)
set_option maxRecDepth 20000 in
theorem gX1_wouldGetUnpromised_X1_rankWith : GoodIn wsX1_wouldGetUnpromised (wsV RX1 109 RX1 yX1_rankWith wsX1_rankWith) := goodIn_app (goodIn_of _ (by decide +kernel)) ggX1_wouldGetUnpromised_X1_rankWith
theorem dX1_wouldGetUnpromised_0 : decode cX1_wouldGetUnpromised 0 = .ok (.iload_n 3, 1) := by decide +kernel
theorem dX1_wouldGetUnpromised_1 : decode cX1_wouldGetUnpromised 1 = .ok (.ifCond .gt 5, 3) := by decide +kernel
theorem dX1_wouldGetUnpromised_4 : decode cX1_wouldGetUnpromised 4 = .ok (.iconst 0, 1) := by decide +kernel
theorem dX1_wouldGetUnpromised_5 : decode cX1_wouldGetUnpromised 5 = .ok (.ireturn, 1) := by decide +kernel
theorem dX1_wouldGetUnpromised_6 : decode cX1_wouldGetUnpromised 6 = .ok (.aload_n 0, 1) := by decide +kernel
theorem dX1_wouldGetUnpromised_7 : decode cX1_wouldGetUnpromised 7 = .ok (.iload_n 3, 1) := by decide +kernel
theorem dX1_wouldGetUnpromised_8 : decode cX1_wouldGetUnpromised 8 = .ok (.invokevirtual 106, 3) := by decide +kernel
theorem dX1_wouldGetUnpromised_11 : decode cX1_wouldGetUnpromised 11 = .ok (.istore 4, 2) := by decide +kernel
theorem dX1_wouldGetUnpromised_13 : decode cX1_wouldGetUnpromised 13 = .ok (.iload 4, 2) := by decide +kernel
theorem dX1_wouldGetUnpromised_15 : decode cX1_wouldGetUnpromised 15 = .ok (.iconst 2, 1) := by decide +kernel
theorem dX1_wouldGetUnpromised_16 : decode cX1_wouldGetUnpromised 16 = .ok (.if_icmp .ne 18, 3) := by decide +kernel
theorem dX1_wouldGetUnpromised_19 : decode cX1_wouldGetUnpromised 19 = .ok (.aload_n 0, 1) := by decide +kernel
theorem dX1_wouldGetUnpromised_20 : decode cX1_wouldGetUnpromised 20 = .ok (.iload_n 1, 1) := by decide +kernel
theorem dX1_wouldGetUnpromised_21 : decode cX1_wouldGetUnpromised 21 = .ok (.iload_n 2, 1) := by decide +kernel
theorem dX1_wouldGetUnpromised_22 : decode cX1_wouldGetUnpromised 22 = .ok (.invokevirtual 109, 3) := by decide +kernel
theorem dX1_wouldGetUnpromised_25 : decode cX1_wouldGetUnpromised 25 = .ok (.ifCond .ne 7, 3) := by decide +kernel
theorem dX1_wouldGetUnpromised_28 : decode cX1_wouldGetUnpromised 28 = .ok (.iconst 1, 1) := by decide +kernel
theorem dX1_wouldGetUnpromised_29 : decode cX1_wouldGetUnpromised 29 = .ok (.goto 4, 3) := by decide +kernel
theorem dX1_wouldGetUnpromised_32 : decode cX1_wouldGetUnpromised 32 = .ok (.iconst 0, 1) := by decide +kernel
theorem dX1_wouldGetUnpromised_33 : decode cX1_wouldGetUnpromised 33 = .ok (.ireturn, 1) := by decide +kernel
theorem dX1_wouldGetUnpromised_34 : decode cX1_wouldGetUnpromised 34 = .ok (.iload 4, 2) := by decide +kernel
theorem dX1_wouldGetUnpromised_36 : decode cX1_wouldGetUnpromised 36 = .ok (.ifCond .eq 13, 3) := by decide +kernel
theorem dX1_wouldGetUnpromised_39 : decode cX1_wouldGetUnpromised 39 = .ok (.iload_n 2, 1) := by decide +kernel
theorem dX1_wouldGetUnpromised_40 : decode cX1_wouldGetUnpromised 40 = .ok (.aload_n 0, 1) := by decide +kernel
theorem dX1_wouldGetUnpromised_41 : decode cX1_wouldGetUnpromised 41 = .ok (.getfield 39, 3) := by decide +kernel
theorem dX1_wouldGetUnpromised_44 : decode cX1_wouldGetUnpromised 44 = .ok (.iconst 2, 1) := by decide +kernel
theorem dX1_wouldGetUnpromised_45 : decode cX1_wouldGetUnpromised 45 = .ok (.iaload, 1) := by decide +kernel
theorem dX1_wouldGetUnpromised_46 : decode cX1_wouldGetUnpromised 46 = .ok (.if_icmp .lt 7, 3) := by decide +kernel
theorem dX1_wouldGetUnpromised_49 : decode cX1_wouldGetUnpromised 49 = .ok (.iconst 1, 1) := by decide +kernel
theorem dX1_wouldGetUnpromised_50 : decode cX1_wouldGetUnpromised 50 = .ok (.goto 4, 3) := by decide +kernel
theorem dX1_wouldGetUnpromised_53 : decode cX1_wouldGetUnpromised 53 = .ok (.iconst 0, 1) := by decide +kernel
theorem dX1_wouldGetUnpromised_54 : decode cX1_wouldGetUnpromised 54 = .ok (.ireturn, 1) := by decide +kernel
theorem dX1_mannersBehindUnpromised_0 : decode cX1_mannersBehindUnpromised 0 = .ok (.iload_n 2, 1) := by decide +kernel
theorem dX1_mannersBehindUnpromised_1 : decode cX1_mannersBehindUnpromised 1 = .ok (.ifCond .ne 7, 3) := by decide +kernel
theorem dX1_mannersBehindUnpromised_4 : decode cX1_mannersBehindUnpromised 4 = .ok (.iload_n 1, 1) := by decide +kernel
theorem dX1_mannersBehindUnpromised_5 : decode cX1_mannersBehindUnpromised 5 = .ok (.goto 10, 3) := by decide +kernel
theorem dX1_mannersBehindUnpromised_8 : decode cX1_mannersBehindUnpromised 8 = .ok (.iload_n 1, 1) := by decide +kernel
theorem dX1_mannersBehindUnpromised_9 : decode cX1_mannersBehindUnpromised 9 = .ok (.iconst 3, 1) := by decide +kernel
theorem dX1_mannersBehindUnpromised_10 : decode cX1_mannersBehindUnpromised 10 = .ok (.isub, 1) := by decide +kernel
theorem dX1_mannersBehindUnpromised_11 : decode cX1_mannersBehindUnpromised 11 = .ok (.iconst 0, 1) := by decide +kernel
theorem dX1_mannersBehindUnpromised_12 : decode cX1_mannersBehindUnpromised 12 = .ok (.invokestatic 91, 3) := by decide +kernel
theorem dX1_mannersBehindUnpromised_15 : decode cX1_mannersBehindUnpromised 15 = .ok (.ireturn, 1) := by decide +kernel
set_option maxRecDepth 20000 in
theorem ggX1_piecesInReach_X1_lives : GoodIn wsX1_piecesInReach wsX1_lives := goodIn_r _ [7, 8, 43, 44, 45, 46, 47, 48, 49, 50, 51, 52, 53, 54, 55, 56] (by decide +kernel) (by decide +kernel)
set_option maxRecDepth 20000 in
theorem gX1_piecesInReach_X1_lives : GoodIn wsX1_piecesInReach (wsV RX1 69 RX1 yX1_lives wsX1_lives) := goodIn_app (goodIn_of _ (by decide +kernel)) ggX1_piecesInReach_X1_lives
set_option maxRecDepth 20000 in
theorem ggX1_piecesInReach_X1_available : GoodIn wsX1_piecesInReach wsX1_available := goodIn_r _ [12, 13, 14, 15, 6, 16, 17, 18, 19, 20, 21, 1, 43, 44, 45, 46, 47, 48, 49, 50, 51, 52, 53, 54, 55, 56] (by decide +kernel) (by decide +kernel)
set_option maxRecDepth 20000 in
theorem gX1_piecesInReach_X1_available : GoodIn wsX1_piecesInReach (wsV RX1 103 RX1 yX1_available wsX1_available) := goodIn_app (goodIn_of _ (by decide +kernel)) ggX1_piecesInReach_X1_available
set_option maxRecDepth 20000 in
theorem ggX1_piecesInReach_X1_wouldGetUnpromised : GoodIn wsX1_piecesInReach wsX1_wouldGetUnpromised := goodIn_r _ [25, 26, 27, 28, 29, 6, 30, 31, 32, 33, 34, 2, 3, 4, 5, 7, 8, 43, 44, 45, 46, 47, 48, 49, 50, 51, 52, 53, 54, 55, 56] (by decide +kernel) (by decide +kernel)
set_option maxRecDepth 20000 in
theorem gX1_piecesInReach_X1_wouldGetUnpromised : GoodIn wsX1_piecesInReach (wsV RX1 113 RX1 yX1_wouldGetUnpromised wsX1_wouldGetUnpromised) := goodIn_app (goodIn_of _ (by decide +kernel)) ggX1_piecesInReach_X1_wouldGetUnpromised
set_option maxRecDepth 20000 in
theorem ggX1_piecesInReach_X1_levelWith : GoodIn wsX1_piecesInReach wsX1_levelWith := goodIn_r _ [30, 26, 43, 44, 45, 46, 47, 48, 49, 50, 51, 52, 53, 54, 55, 56] (by decide +kernel) (by decide +kernel)
set_option maxRecDepth 20000 in
theorem gX1_piecesInReach_X1_levelWith : GoodIn wsX1_piecesInReach (wsV RX1 106 RX1 yX1_levelWith wsX1_levelWith) := goodIn_app (goodIn_of _ (by decide +kernel)) ggX1_piecesInReach_X1_levelWith
set_option maxRecDepth 20000 in
theorem ggX1_piecesInReach_X1_mannersBehindUnpromised : GoodIn wsX1_piecesInReach wsX1_mannersBehindUnpromised := goodIn_r _ [38, 39, 40, 41, 42] (by decide +kernel) (by decide +kernel)
set_option maxRecDepth 20000 in
theorem gX1_piecesInReach_X1_mannersBehindUnpromised : GoodIn wsX1_piecesInReach (wsV RX1 117 RX1 yX1_mannersBehindUnpromised wsX1_mannersBehindUnpromised) := goodIn_app (goodIn_of _ (by decide +kernel)) ggX1_piecesInReach_X1_mannersBehindUnpromised
theorem dX1_piecesInReach_0 : decode cX1_piecesInReach 0 = .ok (.aload_n 0, 1) := by decide +kernel
theorem dX1_piecesInReach_1 : decode cX1_piecesInReach 1 = .ok (.iload_n 1, 1) := by decide +kernel
theorem dX1_piecesInReach_2 : decode cX1_piecesInReach 2 = .ok (.invokevirtual 69, 3) := by decide +kernel
theorem dX1_piecesInReach_5 : decode cX1_piecesInReach 5 = .ok (.ifCond .ne 5, 3) := by decide +kernel
theorem dX1_piecesInReach_8 : decode cX1_piecesInReach 8 = .ok (.iconst 0, 1) := by decide +kernel
theorem dX1_piecesInReach_9 : decode cX1_piecesInReach 9 = .ok (.ireturn, 1) := by decide +kernel
theorem dX1_piecesInReach_10 : decode cX1_piecesInReach 10 = .ok (.aload_n 0, 1) := by decide +kernel
theorem dX1_piecesInReach_11 : decode cX1_piecesInReach 11 = .ok (.getfield 18, 3) := by decide +kernel
theorem dX1_piecesInReach_14 : decode cX1_piecesInReach 14 = .ok (.iload_n 1, 1) := by decide +kernel
theorem dX1_piecesInReach_15 : decode cX1_piecesInReach 15 = .ok (.iaload, 1) := by decide +kernel
theorem dX1_piecesInReach_16 : decode cX1_piecesInReach 16 = .ok (.istore_n 2, 1) := by decide +kernel
theorem dX1_piecesInReach_17 : decode cX1_piecesInReach 17 = .ok (.aload_n 0, 1) := by decide +kernel
theorem dX1_piecesInReach_18 : decode cX1_piecesInReach 18 = .ok (.getfield 15, 3) := by decide +kernel
theorem dX1_piecesInReach_21 : decode cX1_piecesInReach 21 = .ok (.iload_n 1, 1) := by decide +kernel
theorem dX1_piecesInReach_22 : decode cX1_piecesInReach 22 = .ok (.iaload, 1) := by decide +kernel
theorem dX1_piecesInReach_23 : decode cX1_piecesInReach 23 = .ok (.istore_n 3, 1) := by decide +kernel
theorem dX1_piecesInReach_24 : decode cX1_piecesInReach 24 = .ok (.aload_n 0, 1) := by decide +kernel
theorem dX1_piecesInReach_25 : decode cX1_piecesInReach 25 = .ok (.invokevirtual 103, 3) := by decide +kernel
theorem dX1_piecesInReach_28 : decode cX1_piecesInReach 28 = .ok (.istore 4, 2) := by decide +kernel
theorem dX1_piecesInReach_30 : decode cX1_piecesInReach 30 = .ok (.iload 4, 2) := by decide +kernel
theorem dX1_piecesInReach_32 : decode cX1_piecesInReach 32 = .ok (.ifCond .le 37, 3) := by decide +kernel
theorem dX1_piecesInReach_35 : decode cX1_piecesInReach 35 = .ok (.aload_n 0, 1) := by decide +kernel
theorem dX1_piecesInReach_36 : decode cX1_piecesInReach 36 = .ok (.iload_n 1, 1) := by decide +kernel
theorem dX1_piecesInReach_37 : decode cX1_piecesInReach 37 = .ok (.iload_n 3, 1) := by decide +kernel
theorem dX1_piecesInReach_38 : decode cX1_piecesInReach 38 = .ok (.iload 4, 2) := by decide +kernel
theorem dX1_piecesInReach_40 : decode cX1_piecesInReach 40 = .ok (.invokevirtual 113, 3) := by decide +kernel
theorem dX1_piecesInReach_43 : decode cX1_piecesInReach 43 = .ok (.ifCond .ne 5, 3) := by decide +kernel
theorem dX1_piecesInReach_46 : decode cX1_piecesInReach 46 = .ok (.iload_n 2, 1) := by decide +kernel
theorem dX1_piecesInReach_47 : decode cX1_piecesInReach 47 = .ok (.ireturn, 1) := by decide +kernel
theorem dX1_piecesInReach_48 : decode cX1_piecesInReach 48 = .ok (.aload_n 0, 1) := by decide +kernel
theorem dX1_piecesInReach_49 : decode cX1_piecesInReach 49 = .ok (.iload_n 3, 1) := by decide +kernel
theorem dX1_piecesInReach_50 : decode cX1_piecesInReach 50 = .ok (.aload_n 0, 1) := by decide +kernel
theorem dX1_piecesInReach_51 : decode cX1_piecesInReach 51 = .ok (.iload 4, 2) := by decide +kernel
theorem dX1_piecesInReach_53 : decode cX1_piecesInReach 53 = .ok (.invokevirtual 106, 3) := by decide +kernel
theorem dX1_piecesInReach_56 : decode cX1_piecesInReach 56 = .ok (.invokevirtual 117, 3) := by decide +kernel
theorem dX1_piecesInReach_59 : decode cX1_piecesInReach 59 = .ok (.istore_n 3, 1) := by decide +kernel
theorem dX1_piecesInReach_60 : decode cX1_piecesInReach 60 = .ok (.iinc 2 1, 3) := by decide +kernel
theorem dX1_piecesInReach_63 : decode cX1_piecesInReach 63 = .ok (.iinc 4 (-1), 3) := by decide +kernel
theorem dX1_piecesInReach_66 : decode cX1_piecesInReach 66 = .ok (.goto (-36), 3) := by decide +kernel
theorem dX1_piecesInReach_69 : decode cX1_piecesInReach 69 = .ok (.iload_n 2, 1) := by decide +kernel
theorem dX1_piecesInReach_70 : decode cX1_piecesInReach 70 = .ok (.ireturn, 1) := by decide +kernel
set_option maxRecDepth 20000 in
theorem ggX1_warnIfLevelRose_X1_available : GoodIn wsX1_warnIfLevelRose wsX1_available := goodIn_r _ [6, 7, 8, 9, 5, 10, 11, 12, 13, 14, 15, 16, 39, 40, 41, 42, 43, 44, 45, 46, 47, 48, 49, 50, 51, 52] (by decide +kernel) (by decide +kernel)
set_option maxRecDepth 20000 in
theorem gX1_warnIfLevelRose_X1_available : GoodIn wsX1_warnIfLevelRose (wsV RX1 103 RX1 yX1_available wsX1_available) := goodIn_app (goodIn_of _ (by decide +kernel)) ggX1_warnIfLevelRose_X1_available
set_option maxRecDepth 20000 in
theorem ggX1_warnIfLevelRose_X1_levelWith : GoodIn wsX1_warnIfLevelRose wsX1_levelWith := goodIn_r _ [20, 21, 39, 40, 41, 42, 43, 44, 45, 46, 47, 48, 49, 50, 51, 52] (by decide +kernel) (by decide +kernel)
set_option maxRecDepth 20000 in
theorem gX1_warnIfLevelRose_X1_levelWith : GoodIn wsX1_warnIfLevelRose (wsV RX1 106 RX1 yX1_levelWith wsX1_levelWith) := goodIn_app (goodIn_of _ (by decide +kernel)) ggX1_warnIfLevelRose_X1_levelWith
set_option maxRecDepth 20000 in
theorem ggX1_warnIfLevelRose_X4_add : GoodIn wsX1_warnIfLevelRose wsX4_add := goodIn_r _ [26, 27, 28, 29, 30, 31, 32, 33, 34, 35, 36, 37, 38, 53, 54, 55, 56] (by decide +kernel) (by decide +kernel)
set_option maxRecDepth 20000 in
theorem gX1_warnIfLevelRose_X4_add : GoodIn wsX1_warnIfLevelRose (wsV RX1 120 RX4 yX4_add wsX4_add) := goodIn_app (goodIn_of _ (by decide +kernel)) ggX1_warnIfLevelRose_X4_add
theorem dX1_warnIfLevelRose_0 : decode cX1_warnIfLevelRose 0 = .ok (.aload_n 0, 1) := by decide +kernel
theorem dX1_warnIfLevelRose_1 : decode cX1_warnIfLevelRose 1 = .ok (.invokevirtual 103, 3) := by decide +kernel
theorem dX1_warnIfLevelRose_4 : decode cX1_warnIfLevelRose 4 = .ok (.istore_n 2, 1) := by decide +kernel
theorem dX1_warnIfLevelRose_5 : decode cX1_warnIfLevelRose 5 = .ok (.aload_n 0, 1) := by decide +kernel
theorem dX1_warnIfLevelRose_6 : decode cX1_warnIfLevelRose 6 = .ok (.iload_n 2, 1) := by decide +kernel
theorem dX1_warnIfLevelRose_7 : decode cX1_warnIfLevelRose 7 = .ok (.invokevirtual 106, 3) := by decide +kernel
theorem dX1_warnIfLevelRose_10 : decode cX1_warnIfLevelRose 10 = .ok (.iload_n 1, 1) := by decide +kernel
theorem dX1_warnIfLevelRose_11 : decode cX1_warnIfLevelRose 11 = .ok (.if_icmp .le 13, 3) := by decide +kernel
theorem dX1_warnIfLevelRose_14 : decode cX1_warnIfLevelRose 14 = .ok (.aload_n 0, 1) := by decide +kernel
theorem dX1_warnIfLevelRose_15 : decode cX1_warnIfLevelRose 15 = .ok (.getfield 45, 3) := by decide +kernel
theorem dX1_warnIfLevelRose_18 : decode cX1_warnIfLevelRose 18 = .ok (.iconst 0, 1) := by decide +kernel
theorem dX1_warnIfLevelRose_19 : decode cX1_warnIfLevelRose 19 = .ok (.iconst (-1), 1) := by decide +kernel
theorem dX1_warnIfLevelRose_20 : decode cX1_warnIfLevelRose 20 = .ok (.iload_n 2, 1) := by decide +kernel
theorem dX1_warnIfLevelRose_21 : decode cX1_warnIfLevelRose 21 = .ok (.invokevirtual 120, 3) := by decide +kernel
theorem dX1_warnIfLevelRose_24 : decode cX1_warnIfLevelRose 24 = .ok (.return_, 1) := by decide +kernel
set_option maxRecDepth 20000 in
theorem ggX1_openVolume_X1_lives : GoodIn wsX1_openVolume wsX1_lives := goodIn_r _ [13, 2, 14, 15, 16, 17, 18, 19, 20, 21, 22, 23, 24, 25, 26, 27] (by decide +kernel) (by decide +kernel)
set_option maxRecDepth 20000 in
theorem gX1_openVolume_X1_lives : GoodIn wsX1_openVolume (wsV RX1 69 RX1 yX1_lives wsX1_lives) := goodIn_app (goodIn_of _ (by decide +kernel)) ggX1_openVolume_X1_lives
theorem dX1_openVolume_0 : decode cX1_openVolume 0 = .ok (.iload_n 1, 1) := by decide +kernel
theorem dX1_openVolume_1 : decode cX1_openVolume 1 = .ok (.iconst 1, 1) := by decide +kernel
theorem dX1_openVolume_2 : decode cX1_openVolume 2 = .ok (.if_icmp .lt 9, 3) := by decide +kernel
theorem dX1_openVolume_5 : decode cX1_openVolume 5 = .ok (.iload_n 1, 1) := by decide +kernel
theorem dX1_openVolume_6 : decode cX1_openVolume 6 = .ok (.bipush 40, 2) := by decide +kernel
theorem dX1_openVolume_8 : decode cX1_openVolume 8 = .ok (.if_icmp .le 6, 3) := by decide +kernel
theorem dX1_openVolume_11 : decode cX1_openVolume 11 = .ok (.ldc 124, 2) := by decide +kernel
theorem dX1_openVolume_13 : decode cX1_openVolume 13 = .ok (.ireturn, 1) := by decide +kernel
theorem dX1_openVolume_14 : decode cX1_openVolume 14 = .ok (.iconst 0, 1) := by decide +kernel
theorem dX1_openVolume_15 : decode cX1_openVolume 15 = .ok (.istore_n 2, 1) := by decide +kernel
theorem dX1_openVolume_16 : decode cX1_openVolume 16 = .ok (.iload_n 2, 1) := by decide +kernel
theorem dX1_openVolume_17 : decode cX1_openVolume 17 = .ok (.bipush 8, 2) := by decide +kernel
theorem dX1_openVolume_19 : decode cX1_openVolume 19 = .ok (.if_icmp .ge 62, 3) := by decide +kernel
theorem dX1_openVolume_22 : decode cX1_openVolume 22 = .ok (.aload_n 0, 1) := by decide +kernel
theorem dX1_openVolume_23 : decode cX1_openVolume 23 = .ok (.iload_n 2, 1) := by decide +kernel
theorem dX1_openVolume_24 : decode cX1_openVolume 24 = .ok (.invokevirtual 69, 3) := by decide +kernel
theorem dX1_openVolume_27 : decode cX1_openVolume 27 = .ok (.ifCond .ne 48, 3) := by decide +kernel
theorem dX1_openVolume_30 : decode cX1_openVolume 30 = .ok (.aload_n 0, 1) := by decide +kernel
theorem dX1_openVolume_31 : decode cX1_openVolume 31 = .ok (.getfield 9, 3) := by decide +kernel
theorem dX1_openVolume_34 : decode cX1_openVolume 34 = .ok (.iload_n 2, 1) := by decide +kernel
theorem dX1_openVolume_35 : decode cX1_openVolume 35 = .ok (.iload_n 1, 1) := by decide +kernel
theorem dX1_openVolume_36 : decode cX1_openVolume 36 = .ok (.iastore, 1) := by decide +kernel
theorem dX1_openVolume_37 : decode cX1_openVolume 37 = .ok (.aload_n 0, 1) := by decide +kernel
theorem dX1_openVolume_38 : decode cX1_openVolume 38 = .ok (.getfield 15, 3) := by decide +kernel
theorem dX1_openVolume_41 : decode cX1_openVolume 41 = .ok (.iload_n 2, 1) := by decide +kernel
theorem dX1_openVolume_42 : decode cX1_openVolume 42 = .ok (.bipush 50, 2) := by decide +kernel
theorem dX1_openVolume_44 : decode cX1_openVolume 44 = .ok (.iastore, 1) := by decide +kernel
theorem dX1_openVolume_45 : decode cX1_openVolume 45 = .ok (.aload_n 0, 1) := by decide +kernel
theorem dX1_openVolume_46 : decode cX1_openVolume 46 = .ok (.getfield 18, 3) := by decide +kernel
theorem dX1_openVolume_49 : decode cX1_openVolume 49 = .ok (.iload_n 2, 1) := by decide +kernel
theorem dX1_openVolume_50 : decode cX1_openVolume 50 = .ok (.iconst 0, 1) := by decide +kernel
theorem dX1_openVolume_51 : decode cX1_openVolume 51 = .ok (.iastore, 1) := by decide +kernel
theorem dX1_openVolume_52 : decode cX1_openVolume 52 = .ok (.aload_n 0, 1) := by decide +kernel
theorem dX1_openVolume_53 : decode cX1_openVolume 53 = .ok (.getfield 21, 3) := by decide +kernel
theorem dX1_openVolume_56 : decode cX1_openVolume 56 = .ok (.iload_n 2, 1) := by decide +kernel
theorem dX1_openVolume_57 : decode cX1_openVolume 57 = .ok (.iconst (-1), 1) := by decide +kernel
theorem dX1_openVolume_58 : decode cX1_openVolume 58 = .ok (.iastore, 1) := by decide +kernel
theorem dX1_openVolume_59 : decode cX1_openVolume 59 = .ok (.aload_n 0, 1) := by decide +kernel
theorem dX1_openVolume_60 : decode cX1_openVolume 60 = .ok (.getfield 24, 3) := by decide +kernel
theorem dX1_openVolume_63 : decode cX1_openVolume 63 = .ok (.iload_n 2, 1) := by decide +kernel
theorem dX1_openVolume_64 : decode cX1_openVolume 64 = .ok (.iconst 0, 1) := by decide +kernel
theorem dX1_openVolume_65 : decode cX1_openVolume 65 = .ok (.iastore, 1) := by decide +kernel
theorem dX1_openVolume_66 : decode cX1_openVolume 66 = .ok (.aload_n 0, 1) := by decide +kernel
theorem dX1_openVolume_67 : decode cX1_openVolume 67 = .ok (.getfield 27, 3) := by decide +kernel
theorem dX1_openVolume_70 : decode cX1_openVolume 70 = .ok (.iload_n 2, 1) := by decide +kernel
theorem dX1_openVolume_71 : decode cX1_openVolume 71 = .ok (.iconst 0, 1) := by decide +kernel
theorem dX1_openVolume_72 : decode cX1_openVolume 72 = .ok (.iastore, 1) := by decide +kernel
theorem dX1_openVolume_73 : decode cX1_openVolume 73 = .ok (.iload_n 2, 1) := by decide +kernel
theorem dX1_openVolume_74 : decode cX1_openVolume 74 = .ok (.ireturn, 1) := by decide +kernel
theorem dX1_openVolume_75 : decode cX1_openVolume 75 = .ok (.iinc 2 1, 3) := by decide +kernel
theorem dX1_openVolume_78 : decode cX1_openVolume 78 = .ok (.goto (-62), 3) := by decide +kernel
theorem dX1_openVolume_81 : decode cX1_openVolume 81 = .ok (.ldc 125, 2) := by decide +kernel
theorem dX1_openVolume_83 : decode cX1_openVolume 83 = .ok (.ireturn, 1) := by decide +kernel
set_option maxRecDepth 20000 in
theorem ggX1_cloneVolume_X1_lives : GoodIn wsX1_cloneVolume wsX1_lives := goodIn_r _ [10, 2, 32, 33, 34, 35, 36, 37, 38, 39, 40, 41, 42, 43, 44, 45] (by decide +kernel) (by decide +kernel)
set_option maxRecDepth 20000 in
theorem gX1_cloneVolume_X1_lives : GoodIn wsX1_cloneVolume (wsV RX1 69 RX1 yX1_lives wsX1_lives) := goodIn_app (goodIn_of _ (by decide +kernel)) ggX1_cloneVolume_X1_lives
set_option maxRecDepth 20000 in
theorem ggX1_cloneVolume_X1_openVolume : GoodIn wsX1_cloneVolume wsX1_openVolume := goodIn_r _ [14, 1, 2, 15, 16, 3, 17, 18, 19, 6, 7, 8, 9, 10, 32, 33, 34, 35, 36, 37, 38, 39, 40, 41, 42, 43, 44, 45] (by decide +kernel) (by decide +kernel)
set_option maxRecDepth 20000 in
theorem gX1_cloneVolume_X1_openVolume : GoodIn wsX1_cloneVolume (wsV RX1 126 RX1 yX1_openVolume wsX1_openVolume) := goodIn_app (goodIn_of _ (by decide +kernel)) ggX1_cloneVolume_X1_openVolume
set_option maxRecDepth 20000 in
theorem ggX1_cloneVolume_X1_pieceAt : GoodIn wsX1_cloneVolume wsX1_pieceAt := goodIn_r _ [23, 4, 24, 25, 26, 9, 27, 2, 6, 7, 8, 10, 32, 33, 34, 35, 36, 37, 38, 39, 40, 41, 42, 43, 44, 45] (by decide +kernel) (by decide +kernel)
set_option maxRecDepth 20000 in
theorem gX1_cloneVolume_X1_pieceAt : GoodIn wsX1_cloneVolume (wsV RX1 80 RX1 yX1_pieceAt wsX1_pieceAt) := goodIn_app (goodIn_of _ (by decide +kernel)) ggX1_cloneVolume_X1_pieceAt
set_option maxRecDepth 20000 in
theorem ggX1_cloneVolume_X1_isPiece : GoodIn wsX1_cloneVolume wsX1_isPiece := goodIn_r _ [31] (by decide +kernel) (by decide +kernel)
set_option maxRecDepth 20000 in
theorem gX1_cloneVolume_X1_isPiece : GoodIn wsX1_cloneVolume (wsV RX1 77 RX1 yX1_isPiece wsX1_isPiece) := goodIn_app (goodIn_of _ (by decide +kernel)) ggX1_cloneVolume_X1_isPiece
theorem dX1_cloneVolume_0 : decode cX1_cloneVolume 0 = .ok (.aload_n 0, 1) := by decide +kernel
theorem dX1_cloneVolume_1 : decode cX1_cloneVolume 1 = .ok (.iload_n 1, 1) := by decide +kernel
theorem dX1_cloneVolume_2 : decode cX1_cloneVolume 2 = .ok (.invokevirtual 69, 3) := by decide +kernel
theorem dX1_cloneVolume_5 : decode cX1_cloneVolume 5 = .ok (.ifCond .ne 6, 3) := by decide +kernel
theorem dX1_cloneVolume_8 : decode cX1_cloneVolume 8 = .ok (.ldc 124, 2) := by decide +kernel
theorem dX1_cloneVolume_10 : decode cX1_cloneVolume 10 = .ok (.ireturn, 1) := by decide +kernel
theorem dX1_cloneVolume_11 : decode cX1_cloneVolume 11 = .ok (.aload_n 0, 1) := by decide +kernel
theorem dX1_cloneVolume_12 : decode cX1_cloneVolume 12 = .ok (.aload_n 0, 1) := by decide +kernel
theorem dX1_cloneVolume_13 : decode cX1_cloneVolume 13 = .ok (.getfield 9, 3) := by decide +kernel
theorem dX1_cloneVolume_16 : decode cX1_cloneVolume 16 = .ok (.iload_n 1, 1) := by decide +kernel
theorem dX1_cloneVolume_17 : decode cX1_cloneVolume 17 = .ok (.iaload, 1) := by decide +kernel
theorem dX1_cloneVolume_18 : decode cX1_cloneVolume 18 = .ok (.invokevirtual 126, 3) := by decide +kernel
theorem dX1_cloneVolume_21 : decode cX1_cloneVolume 21 = .ok (.istore_n 2, 1) := by decide +kernel
theorem dX1_cloneVolume_22 : decode cX1_cloneVolume 22 = .ok (.aload_n 0, 1) := by decide +kernel
theorem dX1_cloneVolume_23 : decode cX1_cloneVolume 23 = .ok (.iload_n 2, 1) := by decide +kernel
theorem dX1_cloneVolume_24 : decode cX1_cloneVolume 24 = .ok (.invokevirtual 69, 3) := by decide +kernel
theorem dX1_cloneVolume_27 : decode cX1_cloneVolume 27 = .ok (.ifCond .ne 5, 3) := by decide +kernel
theorem dX1_cloneVolume_30 : decode cX1_cloneVolume 30 = .ok (.iload_n 2, 1) := by decide +kernel
theorem dX1_cloneVolume_31 : decode cX1_cloneVolume 31 = .ok (.ireturn, 1) := by decide +kernel
theorem dX1_cloneVolume_32 : decode cX1_cloneVolume 32 = .ok (.aload_n 0, 1) := by decide +kernel
theorem dX1_cloneVolume_33 : decode cX1_cloneVolume 33 = .ok (.getfield 21, 3) := by decide +kernel
theorem dX1_cloneVolume_36 : decode cX1_cloneVolume 36 = .ok (.iload_n 2, 1) := by decide +kernel
theorem dX1_cloneVolume_37 : decode cX1_cloneVolume 37 = .ok (.iload_n 1, 1) := by decide +kernel
theorem dX1_cloneVolume_38 : decode cX1_cloneVolume 38 = .ok (.iastore, 1) := by decide +kernel
theorem dX1_cloneVolume_39 : decode cX1_cloneVolume 39 = .ok (.iconst 0, 1) := by decide +kernel
theorem dX1_cloneVolume_40 : decode cX1_cloneVolume 40 = .ok (.istore_n 3, 1) := by decide +kernel
theorem dX1_cloneVolume_41 : decode cX1_cloneVolume 41 = .ok (.iload_n 3, 1) := by decide +kernel
theorem dX1_cloneVolume_42 : decode cX1_cloneVolume 42 = .ok (.bipush 40, 2) := by decide +kernel
theorem dX1_cloneVolume_44 : decode cX1_cloneVolume 44 = .ok (.if_icmp .ge 50, 3) := by decide +kernel
theorem dX1_cloneVolume_47 : decode cX1_cloneVolume 47 = .ok (.aload_n 0, 1) := by decide +kernel
theorem dX1_cloneVolume_48 : decode cX1_cloneVolume 48 = .ok (.iload_n 1, 1) := by decide +kernel
theorem dX1_cloneVolume_49 : decode cX1_cloneVolume 49 = .ok (.iload_n 3, 1) := by decide +kernel
theorem dX1_cloneVolume_50 : decode cX1_cloneVolume 50 = .ok (.invokevirtual 80, 3) := by decide +kernel
theorem dX1_cloneVolume_53 : decode cX1_cloneVolume 53 = .ok (.istore 4, 2) := by decide +kernel
theorem dX1_cloneVolume_55 : decode cX1_cloneVolume 55 = .ok (.aload_n 0, 1) := by decide +kernel
theorem dX1_cloneVolume_56 : decode cX1_cloneVolume 56 = .ok (.iload 4, 2) := by decide +kernel
theorem dX1_cloneVolume_58 : decode cX1_cloneVolume 58 = .ok (.invokevirtual 77, 3) := by decide +kernel
theorem dX1_cloneVolume_61 : decode cX1_cloneVolume 61 = .ok (.ifCond .eq 27, 3) := by decide +kernel
theorem dX1_cloneVolume_64 : decode cX1_cloneVolume 64 = .ok (.aload_n 0, 1) := by decide +kernel
theorem dX1_cloneVolume_65 : decode cX1_cloneVolume 65 = .ok (.getfield 30, 3) := by decide +kernel
theorem dX1_cloneVolume_68 : decode cX1_cloneVolume 68 = .ok (.iload_n 2, 1) := by decide +kernel
theorem dX1_cloneVolume_69 : decode cX1_cloneVolume 69 = .ok (.bipush 40, 2) := by decide +kernel
theorem dX1_cloneVolume_71 : decode cX1_cloneVolume 71 = .ok (.imul, 1) := by decide +kernel
theorem dX1_cloneVolume_72 : decode cX1_cloneVolume 72 = .ok (.iload_n 3, 1) := by decide +kernel
theorem dX1_cloneVolume_73 : decode cX1_cloneVolume 73 = .ok (.iadd, 1) := by decide +kernel
theorem dX1_cloneVolume_74 : decode cX1_cloneVolume 74 = .ok (.iload 4, 2) := by decide +kernel
theorem dX1_cloneVolume_76 : decode cX1_cloneVolume 76 = .ok (.iastore, 1) := by decide +kernel
theorem dX1_cloneVolume_77 : decode cX1_cloneVolume 77 = .ok (.aload_n 0, 1) := by decide +kernel
theorem dX1_cloneVolume_78 : decode cX1_cloneVolume 78 = .ok (.getfield 36, 3) := by decide +kernel
theorem dX1_cloneVolume_81 : decode cX1_cloneVolume 81 = .ok (.iload 4, 2) := by decide +kernel
theorem dX1_cloneVolume_83 : decode cX1_cloneVolume 83 = .ok (.dup2, 1) := by decide +kernel
theorem dX1_cloneVolume_84 : decode cX1_cloneVolume 84 = .ok (.iaload, 1) := by decide +kernel
theorem dX1_cloneVolume_85 : decode cX1_cloneVolume 85 = .ok (.iconst 1, 1) := by decide +kernel
theorem dX1_cloneVolume_86 : decode cX1_cloneVolume 86 = .ok (.iadd, 1) := by decide +kernel
theorem dX1_cloneVolume_87 : decode cX1_cloneVolume 87 = .ok (.iastore, 1) := by decide +kernel
theorem dX1_cloneVolume_88 : decode cX1_cloneVolume 88 = .ok (.iinc 3 1, 3) := by decide +kernel
theorem dX1_cloneVolume_91 : decode cX1_cloneVolume 91 = .ok (.goto (-50), 3) := by decide +kernel
theorem dX1_cloneVolume_94 : decode cX1_cloneVolume 94 = .ok (.iload_n 2, 1) := by decide +kernel
theorem dX1_cloneVolume_95 : decode cX1_cloneVolume 95 = .ok (.ireturn, 1) := by decide +kernel
set_option maxRecDepth 20000 in
theorem ggX1_dropVolume_X1_lives : GoodIn wsX1_dropVolume wsX1_lives := goodIn_r _ [9, 4, 29, 30, 31, 32, 33, 34, 35, 36, 37, 38, 39, 40, 41, 42] (by decide +kernel) (by decide +kernel)
set_option maxRecDepth 20000 in
theorem gX1_dropVolume_X1_lives : GoodIn wsX1_dropVolume (wsV RX1 69 RX1 yX1_lives wsX1_lives) := goodIn_app (goodIn_of _ (by decide +kernel)) ggX1_dropVolume_X1_lives
set_option maxRecDepth 20000 in
theorem ggX1_dropVolume_X1_loosen : GoodIn wsX1_dropVolume wsX1_loosen := goodIn_r _ [13, 14, 15, 16, 17, 18, 19, 8, 20, 21, 22, 23, 24, 4, 5, 6, 7, 9, 25, 26, 27, 28, 29, 30, 31, 32, 33, 34, 35, 36, 37, 38, 39, 40, 41, 42] (by decide +kernel) (by decide +kernel)
set_option maxRecDepth 20000 in
theorem gX1_dropVolume_X1_loosen : GoodIn wsX1_dropVolume (wsV RX1 129 RX1 yX1_loosen wsX1_loosen) := goodIn_app (goodIn_of _ (by decide +kernel)) ggX1_dropVolume_X1_loosen
theorem dX1_dropVolume_0 : decode cX1_dropVolume 0 = .ok (.aload_n 0, 1) := by decide +kernel
theorem dX1_dropVolume_1 : decode cX1_dropVolume 1 = .ok (.iload_n 1, 1) := by decide +kernel
theorem dX1_dropVolume_2 : decode cX1_dropVolume 2 = .ok (.invokevirtual 69, 3) := by decide +kernel
theorem dX1_dropVolume_5 : decode cX1_dropVolume 5 = .ok (.ifCond .ne 6, 3) := by decide +kernel
theorem dX1_dropVolume_8 : decode cX1_dropVolume 8 = .ok (.ldc 124, 2) := by decide +kernel
theorem dX1_dropVolume_10 : decode cX1_dropVolume 10 = .ok (.ireturn, 1) := by decide +kernel
theorem dX1_dropVolume_11 : decode cX1_dropVolume 11 = .ok (.iconst 0, 1) := by decide +kernel
theorem dX1_dropVolume_12 : decode cX1_dropVolume 12 = .ok (.istore_n 2, 1) := by decide +kernel
theorem dX1_dropVolume_13 : decode cX1_dropVolume 13 = .ok (.iconst 0, 1) := by decide +kernel
theorem dX1_dropVolume_14 : decode cX1_dropVolume 14 = .ok (.istore_n 3, 1) := by decide +kernel
theorem dX1_dropVolume_15 : decode cX1_dropVolume 15 = .ok (.iload_n 3, 1) := by decide +kernel
theorem dX1_dropVolume_16 : decode cX1_dropVolume 16 = .ok (.bipush 40, 2) := by decide +kernel
theorem dX1_dropVolume_18 : decode cX1_dropVolume 18 = .ok (.if_icmp .ge 18, 3) := by decide +kernel
theorem dX1_dropVolume_21 : decode cX1_dropVolume 21 = .ok (.iload_n 2, 1) := by decide +kernel
theorem dX1_dropVolume_22 : decode cX1_dropVolume 22 = .ok (.aload_n 0, 1) := by decide +kernel
theorem dX1_dropVolume_23 : decode cX1_dropVolume 23 = .ok (.iload_n 1, 1) := by decide +kernel
theorem dX1_dropVolume_24 : decode cX1_dropVolume 24 = .ok (.iload_n 3, 1) := by decide +kernel
theorem dX1_dropVolume_25 : decode cX1_dropVolume 25 = .ok (.invokevirtual 129, 3) := by decide +kernel
theorem dX1_dropVolume_28 : decode cX1_dropVolume 28 = .ok (.iadd, 1) := by decide +kernel
theorem dX1_dropVolume_29 : decode cX1_dropVolume 29 = .ok (.istore_n 2, 1) := by decide +kernel
theorem dX1_dropVolume_30 : decode cX1_dropVolume 30 = .ok (.iinc 3 1, 3) := by decide +kernel
theorem dX1_dropVolume_33 : decode cX1_dropVolume 33 = .ok (.goto (-18), 3) := by decide +kernel
theorem dX1_dropVolume_36 : decode cX1_dropVolume 36 = .ok (.iconst 0, 1) := by decide +kernel
theorem dX1_dropVolume_37 : decode cX1_dropVolume 37 = .ok (.istore_n 3, 1) := by decide +kernel
theorem dX1_dropVolume_38 : decode cX1_dropVolume 38 = .ok (.iload_n 3, 1) := by decide +kernel
theorem dX1_dropVolume_39 : decode cX1_dropVolume 39 = .ok (.bipush 8, 2) := by decide +kernel
theorem dX1_dropVolume_41 : decode cX1_dropVolume 41 = .ok (.if_icmp .ge 31, 3) := by decide +kernel
theorem dX1_dropVolume_44 : decode cX1_dropVolume 44 = .ok (.aload_n 0, 1) := by decide +kernel
theorem dX1_dropVolume_45 : decode cX1_dropVolume 45 = .ok (.getfield 21, 3) := by decide +kernel
theorem dX1_dropVolume_48 : decode cX1_dropVolume 48 = .ok (.iload_n 3, 1) := by decide +kernel
theorem dX1_dropVolume_49 : decode cX1_dropVolume 49 = .ok (.iaload, 1) := by decide +kernel
theorem dX1_dropVolume_50 : decode cX1_dropVolume 50 = .ok (.iload_n 1, 1) := by decide +kernel
theorem dX1_dropVolume_51 : decode cX1_dropVolume 51 = .ok (.if_icmp .ne 15, 3) := by decide +kernel
theorem dX1_dropVolume_54 : decode cX1_dropVolume 54 = .ok (.aload_n 0, 1) := by decide +kernel
theorem dX1_dropVolume_55 : decode cX1_dropVolume 55 = .ok (.getfield 21, 3) := by decide +kernel
theorem dX1_dropVolume_58 : decode cX1_dropVolume 58 = .ok (.iload_n 3, 1) := by decide +kernel
theorem dX1_dropVolume_59 : decode cX1_dropVolume 59 = .ok (.aload_n 0, 1) := by decide +kernel
theorem dX1_dropVolume_60 : decode cX1_dropVolume 60 = .ok (.getfield 21, 3) := by decide +kernel
theorem dX1_dropVolume_63 : decode cX1_dropVolume 63 = .ok (.iload_n 1, 1) := by decide +kernel
theorem dX1_dropVolume_64 : decode cX1_dropVolume 64 = .ok (.iaload, 1) := by decide +kernel
theorem dX1_dropVolume_65 : decode cX1_dropVolume 65 = .ok (.iastore, 1) := by decide +kernel
theorem dX1_dropVolume_66 : decode cX1_dropVolume 66 = .ok (.iinc 3 1, 3) := by decide +kernel
theorem dX1_dropVolume_69 : decode cX1_dropVolume 69 = .ok (.goto (-31), 3) := by decide +kernel
theorem dX1_dropVolume_72 : decode cX1_dropVolume 72 = .ok (.aload_n 0, 1) := by decide +kernel
theorem dX1_dropVolume_73 : decode cX1_dropVolume 73 = .ok (.getfield 21, 3) := by decide +kernel
theorem dX1_dropVolume_76 : decode cX1_dropVolume 76 = .ok (.iload_n 1, 1) := by decide +kernel
theorem dX1_dropVolume_77 : decode cX1_dropVolume 77 = .ok (.iconst (-1), 1) := by decide +kernel
theorem dX1_dropVolume_78 : decode cX1_dropVolume 78 = .ok (.iastore, 1) := by decide +kernel
theorem dX1_dropVolume_79 : decode cX1_dropVolume 79 = .ok (.aload_n 0, 1) := by decide +kernel
theorem dX1_dropVolume_80 : decode cX1_dropVolume 80 = .ok (.getfield 18, 3) := by decide +kernel
theorem dX1_dropVolume_83 : decode cX1_dropVolume 83 = .ok (.iload_n 1, 1) := by decide +kernel
theorem dX1_dropVolume_84 : decode cX1_dropVolume 84 = .ok (.iconst 0, 1) := by decide +kernel
theorem dX1_dropVolume_85 : decode cX1_dropVolume 85 = .ok (.iastore, 1) := by decide +kernel
theorem dX1_dropVolume_86 : decode cX1_dropVolume 86 = .ok (.aload_n 0, 1) := by decide +kernel
theorem dX1_dropVolume_87 : decode cX1_dropVolume 87 = .ok (.getfield 9, 3) := by decide +kernel
theorem dX1_dropVolume_90 : decode cX1_dropVolume 90 = .ok (.iload_n 1, 1) := by decide +kernel
theorem dX1_dropVolume_91 : decode cX1_dropVolume 91 = .ok (.iconst 0, 1) := by decide +kernel
theorem dX1_dropVolume_92 : decode cX1_dropVolume 92 = .ok (.iastore, 1) := by decide +kernel
theorem dX1_dropVolume_93 : decode cX1_dropVolume 93 = .ok (.iload_n 2, 1) := by decide +kernel
theorem dX1_dropVolume_94 : decode cX1_dropVolume 94 = .ok (.ireturn, 1) := by decide +kernel
set_option maxRecDepth 20000 in
theorem ggX1_changePromise_X1_lives : GoodIn wsX1_changePromise wsX1_lives := goodIn_r _ [8, 9, 54, 55, 56, 57, 58, 59, 60, 61, 62, 63, 64, 65, 66, 67] (by decide +kernel) (by decide +kernel)
set_option maxRecDepth 20000 in
theorem gX1_changePromise_X1_lives : GoodIn wsX1_changePromise (wsV RX1 69 RX1 yX1_lives wsX1_lives) := goodIn_app (goodIn_of _ (by decide +kernel)) ggX1_changePromise_X1_lives
set_option maxRecDepth 20000 in
theorem ggX1_changePromise_X1_allPromises : GoodIn wsX1_changePromise wsX1_allPromises := goodIn_r _ [13, 2, 54, 55, 56, 57, 58, 59, 60, 61, 62, 63, 64, 65, 66, 67] (by decide +kernel) (by decide +kernel)
set_option maxRecDepth 20000 in
theorem gX1_changePromise_X1_allPromises : GoodIn wsX1_changePromise (wsV RX1 100 RX1 yX1_allPromises wsX1_allPromises) := goodIn_app (goodIn_of _ (by decide +kernel)) ggX1_changePromise_X1_allPromises
set_option maxRecDepth 20000 in
theorem ggX1_changePromise_X1_freePieces : GoodIn wsX1_changePromise wsX1_freePieces := goodIn_r _ [17, 18, 54, 55, 56, 57, 58, 59, 60, 61, 62, 63, 64, 65, 66, 67] (by decide +kernel) (by decide +kernel)
set_option maxRecDepth 20000 in
theorem gX1_changePromise_X1_freePieces : GoodIn wsX1_changePromise (wsV RX1 96 RX1 yX1_freePieces wsX1_freePieces) := goodIn_app (goodIn_of _ (by decide +kernel)) ggX1_changePromise_X1_freePieces
set_option maxRecDepth 20000 in
theorem ggX1_changePromise_X1_level : GoodIn wsX1_changePromise wsX1_level := goodIn_r _ [22, 23, 24, 25, 7, 26, 14, 15, 16, 17, 18, 10, 11, 12, 13, 2, 27, 28, 29, 30, 31, 54, 55, 56, 57, 58, 59, 60, 61, 62, 63, 64, 65, 66, 67] (by decide +kernel) (by decide +kernel)
set_option maxRecDepth 20000 in
theorem gX1_changePromise_X1_level : GoodIn wsX1_changePromise (wsV RX1 133 RX1 yX1_level wsX1_level) := goodIn_app (goodIn_of _ (by decide +kernel)) ggX1_changePromise_X1_level
set_option maxRecDepth 20000 in
theorem ggX1_changePromise_X1_warnIfLevelRose : GoodIn wsX1_changePromise wsX1_warnIfLevelRose := goodIn_r _ [35, 36, 23, 24, 25, 7, 26, 14, 15, 16, 17, 18, 10, 11, 12, 13, 2, 27, 28, 29, 30, 31, 37, 38, 39, 40, 41, 42, 43, 44, 45, 46, 47, 48, 49, 50, 51, 52, 53, 54, 55, 56, 57, 58, 59, 60, 61, 62, 63, 64, 65, 66, 67, 68, 69, 70, 71] (by decide +kernel) (by decide +kernel)
set_option maxRecDepth 20000 in
theorem gX1_changePromise_X1_warnIfLevelRose : GoodIn wsX1_changePromise (wsV RX1 136 RX1 yX1_warnIfLevelRose wsX1_warnIfLevelRose) := goodIn_app (goodIn_of _ (by decide +kernel)) ggX1_changePromise_X1_warnIfLevelRose
theorem dX1_changePromise_0 : decode cX1_changePromise 0 = .ok (.aload_n 0, 1) := by decide +kernel
theorem dX1_changePromise_1 : decode cX1_changePromise 1 = .ok (.iload_n 1, 1) := by decide +kernel
theorem dX1_changePromise_2 : decode cX1_changePromise 2 = .ok (.invokevirtual 69, 3) := by decide +kernel
theorem dX1_changePromise_5 : decode cX1_changePromise 5 = .ok (.ifCond .eq 13, 3) := by decide +kernel
theorem dX1_changePromise_8 : decode cX1_changePromise 8 = .ok (.iload_n 2, 1) := by decide +kernel
theorem dX1_changePromise_9 : decode cX1_changePromise 9 = .ok (.ifCond .lt 9, 3) := by decide +kernel
theorem dX1_changePromise_12 : decode cX1_changePromise 12 = .ok (.iload_n 2, 1) := by decide +kernel
theorem dX1_changePromise_13 : decode cX1_changePromise 13 = .ok (.bipush 30, 2) := by decide +kernel
theorem dX1_changePromise_15 : decode cX1_changePromise 15 = .ok (.if_icmp .le 6, 3) := by decide +kernel
theorem dX1_changePromise_18 : decode cX1_changePromise 18 = .ok (.ldc 124, 2) := by decide +kernel
theorem dX1_changePromise_20 : decode cX1_changePromise 20 = .ok (.ireturn, 1) := by decide +kernel
theorem dX1_changePromise_21 : decode cX1_changePromise 21 = .ok (.aload_n 0, 1) := by decide +kernel
theorem dX1_changePromise_22 : decode cX1_changePromise 22 = .ok (.getfield 18, 3) := by decide +kernel
theorem dX1_changePromise_25 : decode cX1_changePromise 25 = .ok (.iload_n 1, 1) := by decide +kernel
theorem dX1_changePromise_26 : decode cX1_changePromise 26 = .ok (.iaload, 1) := by decide +kernel
theorem dX1_changePromise_27 : decode cX1_changePromise 27 = .ok (.istore_n 3, 1) := by decide +kernel
theorem dX1_changePromise_28 : decode cX1_changePromise 28 = .ok (.aload_n 0, 1) := by decide +kernel
theorem dX1_changePromise_29 : decode cX1_changePromise 29 = .ok (.invokevirtual 100, 3) := by decide +kernel
theorem dX1_changePromise_32 : decode cX1_changePromise 32 = .ok (.iload_n 3, 1) := by decide +kernel
theorem dX1_changePromise_33 : decode cX1_changePromise 33 = .ok (.isub, 1) := by decide +kernel
theorem dX1_changePromise_34 : decode cX1_changePromise 34 = .ok (.iload_n 2, 1) := by decide +kernel
theorem dX1_changePromise_35 : decode cX1_changePromise 35 = .ok (.iadd, 1) := by decide +kernel
theorem dX1_changePromise_36 : decode cX1_changePromise 36 = .ok (.aload_n 0, 1) := by decide +kernel
theorem dX1_changePromise_37 : decode cX1_changePromise 37 = .ok (.invokevirtual 96, 3) := by decide +kernel
theorem dX1_changePromise_40 : decode cX1_changePromise 40 = .ok (.if_icmp .le 6, 3) := by decide +kernel
theorem dX1_changePromise_43 : decode cX1_changePromise 43 = .ok (.ldc 132, 2) := by decide +kernel
theorem dX1_changePromise_45 : decode cX1_changePromise 45 = .ok (.ireturn, 1) := by decide +kernel
theorem dX1_changePromise_46 : decode cX1_changePromise 46 = .ok (.aload_n 0, 1) := by decide +kernel
theorem dX1_changePromise_47 : decode cX1_changePromise 47 = .ok (.invokevirtual 133, 3) := by decide +kernel
theorem dX1_changePromise_50 : decode cX1_changePromise 50 = .ok (.istore 4, 2) := by decide +kernel
theorem dX1_changePromise_52 : decode cX1_changePromise 52 = .ok (.aload_n 0, 1) := by decide +kernel
theorem dX1_changePromise_53 : decode cX1_changePromise 53 = .ok (.getfield 18, 3) := by decide +kernel
theorem dX1_changePromise_56 : decode cX1_changePromise 56 = .ok (.iload_n 1, 1) := by decide +kernel
theorem dX1_changePromise_57 : decode cX1_changePromise 57 = .ok (.iload_n 2, 1) := by decide +kernel
theorem dX1_changePromise_58 : decode cX1_changePromise 58 = .ok (.iastore, 1) := by decide +kernel
theorem dX1_changePromise_59 : decode cX1_changePromise 59 = .ok (.aload_n 0, 1) := by decide +kernel
theorem dX1_changePromise_60 : decode cX1_changePromise 60 = .ok (.iload 4, 2) := by decide +kernel
theorem dX1_changePromise_62 : decode cX1_changePromise 62 = .ok (.invokevirtual 136, 3) := by decide +kernel
theorem dX1_changePromise_65 : decode cX1_changePromise 65 = .ok (.iload_n 3, 1) := by decide +kernel
theorem dX1_changePromise_66 : decode cX1_changePromise 66 = .ok (.ireturn, 1) := by decide +kernel
set_option maxRecDepth 20000 in
theorem ggX1_changeSetting_X1_highestSetting : GoodIn wsX1_changeSetting wsX1_highestSetting := goodIn_r _ [7] (by decide +kernel) (by decide +kernel)
set_option maxRecDepth 20000 in
theorem gX1_changeSetting_X1_highestSetting : GoodIn wsX1_changeSetting (wsV RX1 140 RX1 yX1_highestSetting wsX1_highestSetting) := goodIn_app (goodIn_of _ (by decide +kernel)) ggX1_changeSetting_X1_highestSetting
set_option maxRecDepth 20000 in
theorem ggX1_changeSetting_X1_level : GoodIn wsX1_changeSetting wsX1_level := goodIn_r _ [11, 12, 13, 14, 6, 15, 16, 17, 18, 19, 20, 21, 22, 23, 24, 25, 26, 27, 28, 29, 2, 52, 53, 54, 55, 56, 57, 58, 59, 60, 61, 62, 63, 64, 65] (by decide +kernel) (by decide +kernel)
set_option maxRecDepth 20000 in
theorem gX1_changeSetting_X1_level : GoodIn wsX1_changeSetting (wsV RX1 133 RX1 yX1_level wsX1_level) := goodIn_app (goodIn_of _ (by decide +kernel)) ggX1_changeSetting_X1_level
set_option maxRecDepth 20000 in
theorem ggX1_changeSetting_X1_warnIfLevelRose : GoodIn wsX1_changeSetting wsX1_warnIfLevelRose := goodIn_r _ [33, 34, 12, 13, 14, 6, 15, 16, 17, 18, 19, 20, 21, 22, 23, 24, 25, 26, 27, 28, 29, 2, 35, 36, 37, 38, 39, 40, 41, 42, 43, 44, 45, 46, 47, 48, 49, 50, 51, 52, 53, 54, 55, 56, 57, 58, 59, 60, 61, 62, 63, 64, 65, 66, 67, 68, 69] (by decide +kernel) (by decide +kernel)
set_option maxRecDepth 20000 in
theorem gX1_changeSetting_X1_warnIfLevelRose : GoodIn wsX1_changeSetting (wsV RX1 136 RX1 yX1_warnIfLevelRose wsX1_warnIfLevelRose) := goodIn_app (goodIn_of _ (by decide +kernel)) ggX1_changeSetting_X1_warnIfLevelRose
theorem dX1_changeSetting_0 : decode cX1_changeSetting 0 = .ok (.iload_n 1, 1) := by decide +kernel
theorem dX1_changeSetting_1 : decode cX1_changeSetting 1 = .ok (.ifCond .lt 21, 3) := by decide +kernel
theorem dX1_changeSetting_4 : decode cX1_changeSetting 4 = .ok (.iload_n 1, 1) := by decide +kernel
theorem dX1_changeSetting_5 : decode cX1_changeSetting 5 = .ok (.iconst 3, 1) := by decide +kernel
theorem dX1_changeSetting_6 : decode cX1_changeSetting 6 = .ok (.if_icmp .ge 16, 3) := by decide +kernel
theorem dX1_changeSetting_9 : decode cX1_changeSetting 9 = .ok (.iload_n 2, 1) := by decide +kernel
theorem dX1_changeSetting_10 : decode cX1_changeSetting 10 = .ok (.ifCond .lt 12, 3) := by decide +kernel
theorem dX1_changeSetting_13 : decode cX1_changeSetting 13 = .ok (.iload_n 2, 1) := by decide +kernel
theorem dX1_changeSetting_14 : decode cX1_changeSetting 14 = .ok (.aload_n 0, 1) := by decide +kernel
theorem dX1_changeSetting_15 : decode cX1_changeSetting 15 = .ok (.iload_n 1, 1) := by decide +kernel
theorem dX1_changeSetting_16 : decode cX1_changeSetting 16 = .ok (.invokevirtual 140, 3) := by decide +kernel
theorem dX1_changeSetting_19 : decode cX1_changeSetting 19 = .ok (.if_icmp .le 6, 3) := by decide +kernel
theorem dX1_changeSetting_22 : decode cX1_changeSetting 22 = .ok (.ldc 124, 2) := by decide +kernel
theorem dX1_changeSetting_24 : decode cX1_changeSetting 24 = .ok (.ireturn, 1) := by decide +kernel
theorem dX1_changeSetting_25 : decode cX1_changeSetting 25 = .ok (.aload_n 0, 1) := by decide +kernel
theorem dX1_changeSetting_26 : decode cX1_changeSetting 26 = .ok (.getfield 39, 3) := by decide +kernel
theorem dX1_changeSetting_29 : decode cX1_changeSetting 29 = .ok (.iload_n 1, 1) := by decide +kernel
theorem dX1_changeSetting_30 : decode cX1_changeSetting 30 = .ok (.iaload, 1) := by decide +kernel
theorem dX1_changeSetting_31 : decode cX1_changeSetting 31 = .ok (.istore_n 3, 1) := by decide +kernel
theorem dX1_changeSetting_32 : decode cX1_changeSetting 32 = .ok (.aload_n 0, 1) := by decide +kernel
theorem dX1_changeSetting_33 : decode cX1_changeSetting 33 = .ok (.invokevirtual 133, 3) := by decide +kernel
theorem dX1_changeSetting_36 : decode cX1_changeSetting 36 = .ok (.istore 4, 2) := by decide +kernel
theorem dX1_changeSetting_38 : decode cX1_changeSetting 38 = .ok (.aload_n 0, 1) := by decide +kernel
theorem dX1_changeSetting_39 : decode cX1_changeSetting 39 = .ok (.getfield 39, 3) := by decide +kernel
theorem dX1_changeSetting_42 : decode cX1_changeSetting 42 = .ok (.iload_n 1, 1) := by decide +kernel
theorem dX1_changeSetting_43 : decode cX1_changeSetting 43 = .ok (.iload_n 2, 1) := by decide +kernel
theorem dX1_changeSetting_44 : decode cX1_changeSetting 44 = .ok (.iastore, 1) := by decide +kernel
theorem dX1_changeSetting_45 : decode cX1_changeSetting 45 = .ok (.aload_n 0, 1) := by decide +kernel
theorem dX1_changeSetting_46 : decode cX1_changeSetting 46 = .ok (.iload 4, 2) := by decide +kernel
theorem dX1_changeSetting_48 : decode cX1_changeSetting 48 = .ok (.invokevirtual 136, 3) := by decide +kernel
theorem dX1_changeSetting_51 : decode cX1_changeSetting 51 = .ok (.iload_n 3, 1) := by decide +kernel
theorem dX1_changeSetting_52 : decode cX1_changeSetting 52 = .ok (.ireturn, 1) := by decide +kernel
theorem dX1_highestSetting_0 : decode cX1_highestSetting 0 = .ok (.iload_n 1, 1) := by decide +kernel
theorem dX1_highestSetting_1 : decode cX1_highestSetting 1 = .ok (.iconst 2, 1) := by decide +kernel
theorem dX1_highestSetting_2 : decode cX1_highestSetting 2 = .ok (.if_icmp .ne 8, 3) := by decide +kernel
theorem dX1_highestSetting_5 : decode cX1_highestSetting 5 = .ok (.bipush 100, 2) := by decide +kernel
theorem dX1_highestSetting_7 : decode cX1_highestSetting 7 = .ok (.goto 5, 3) := by decide +kernel
theorem dX1_highestSetting_10 : decode cX1_highestSetting 10 = .ok (.bipush 30, 2) := by decide +kernel
theorem dX1_highestSetting_12 : decode cX1_highestSetting 12 = .ok (.ireturn, 1) := by decide +kernel
set_option maxRecDepth 20000 in
theorem ggX1_writePlace_X1_hasPlace : GoodIn wsX1_writePlace wsX1_hasPlace := goodIn_r _ [12, 13, 14, 15, 16, 11, 17, 105, 106, 107, 108, 109, 110, 111, 112, 113, 114, 115, 116, 117, 118] (by decide +kernel) (by decide +kernel)
set_option maxRecDepth 20000 in
theorem gX1_writePlace_X1_hasPlace : GoodIn wsX1_writePlace (wsV RX1 73 RX1 yX1_hasPlace wsX1_hasPlace) := goodIn_app (goodIn_of _ (by decide +kernel)) ggX1_writePlace_X1_hasPlace
set_option maxRecDepth 20000 in
theorem ggX1_writePlace_X1_pieceAt : GoodIn wsX1_writePlace wsX1_pieceAt := goodIn_r _ [21, 7, 8, 9, 10, 11, 12, 13, 14, 15, 16, 17, 105, 106, 107, 108, 109, 110, 111, 112, 113, 114, 115, 116, 117, 118] (by decide +kernel) (by decide +kernel)
set_option maxRecDepth 20000 in
theorem gX1_writePlace_X1_pieceAt : GoodIn wsX1_writePlace (wsV RX1 80 RX1 yX1_pieceAt wsX1_pieceAt) := goodIn_app (goodIn_of _ (by decide +kernel)) ggX1_writePlace_X1_pieceAt
set_option maxRecDepth 20000 in
theorem ggX1_writePlace_X1_isPiece : GoodIn wsX1_writePlace wsX1_isPiece := goodIn_r _ [25] (by decide +kernel) (by decide +kernel)
set_option maxRecDepth 20000 in
theorem gX1_writePlace_X1_isPiece : GoodIn wsX1_writePlace (wsV RX1 77 RX1 yX1_isPiece wsX1_isPiece) := goodIn_app (goodIn_of _ (by decide +kernel)) ggX1_writePlace_X1_isPiece
set_option maxRecDepth 20000 in
theorem ggX1_writePlace_X1_lowestFreePiece : GoodIn wsX1_writePlace wsX1_lowestFreePiece := goodIn_r _ [29, 2, 105, 106, 107, 108, 109, 110, 111, 112, 113, 114, 115, 116, 117, 118] (by decide +kernel) (by decide +kernel)
set_option maxRecDepth 20000 in
theorem gX1_writePlace_X1_lowestFreePiece : GoodIn wsX1_writePlace (wsV RX1 143 RX1 yX1_lowestFreePiece wsX1_lowestFreePiece) := goodIn_app (goodIn_of _ (by decide +kernel)) ggX1_writePlace_X1_lowestFreePiece
set_option maxRecDepth 20000 in
theorem ggX1_writePlace_X1_available : GoodIn wsX1_writePlace wsX1_available := goodIn_r _ [33, 34, 35, 36, 11, 37, 2, 38, 39, 40, 41, 4, 105, 106, 107, 108, 109, 110, 111, 112, 113, 114, 115, 116, 117, 118] (by decide +kernel) (by decide +kernel)
set_option maxRecDepth 20000 in
theorem gX1_writePlace_X1_available : GoodIn wsX1_writePlace (wsV RX1 103 RX1 yX1_available wsX1_available) := goodIn_app (goodIn_of _ (by decide +kernel)) ggX1_writePlace_X1_available
set_option maxRecDepth 20000 in
theorem ggX1_writePlace_X1_wouldGetUnpromised : GoodIn wsX1_writePlace wsX1_wouldGetUnpromised := goodIn_r _ [45, 46, 47, 48, 49, 11, 50, 51, 52, 53, 54, 5, 14, 15, 16, 17, 13, 105, 106, 107, 108, 109, 110, 111, 112, 113, 114, 115, 116, 117, 118] (by decide +kernel) (by decide +kernel)
set_option maxRecDepth 20000 in
theorem gX1_writePlace_X1_wouldGetUnpromised : GoodIn wsX1_writePlace (wsV RX1 113 RX1 yX1_wouldGetUnpromised wsX1_wouldGetUnpromised) := goodIn_app (goodIn_of _ (by decide +kernel)) ggX1_writePlace_X1_wouldGetUnpromised
set_option maxRecDepth 20000 in
theorem ggX1_writePlace_X1_refuse : GoodIn wsX1_writePlace wsX1_refuse := goodIn_r _ [58, 5, 59, 60, 61, 62, 63, 64, 65, 30, 31, 32, 11, 33, 34, 35, 36, 37, 2, 38, 39, 40, 41, 4, 66, 67, 68, 69, 70, 71, 72, 73, 74, 75, 76, 77, 78, 79, 80, 81, 105, 106, 107, 108, 109, 110, 111, 112, 113, 114, 115, 116, 117, 118, 119, 120, 121, 122] (by decide +kernel) (by decide +kernel)
set_option maxRecDepth 20000 in
theorem gX1_writePlace_X1_refuse : GoodIn wsX1_writePlace (wsV RX1 146 RX1 yX1_refuse wsX1_refuse) := goodIn_app (goodIn_of _ (by decide +kernel)) ggX1_writePlace_X1_refuse
set_option maxRecDepth 20000 in
theorem ggX1_writePlace_X1_level : GoodIn wsX1_writePlace wsX1_level := goodIn_r _ [85, 30, 31, 32, 11, 33, 34, 35, 36, 37, 2, 38, 39, 40, 41, 4, 47, 48, 49, 50, 46, 105, 106, 107, 108, 109, 110, 111, 112, 113, 114, 115, 116, 117, 118] (by decide +kernel) (by decide +kernel)
set_option maxRecDepth 20000 in
theorem gX1_writePlace_X1_level : GoodIn wsX1_writePlace (wsV RX1 133 RX1 yX1_level wsX1_level) := goodIn_app (goodIn_of _ (by decide +kernel)) ggX1_writePlace_X1_level
set_option maxRecDepth 20000 in
theorem ggX1_writePlace_X1_loosen : GoodIn wsX1_writePlace wsX1_loosen := goodIn_r _ [89, 7, 2, 90, 18, 19, 20, 11, 21, 8, 9, 10, 12, 13, 14, 15, 16, 17, 22, 23, 24, 25, 105, 106, 107, 108, 109, 110, 111, 112, 113, 114, 115, 116, 117, 118] (by decide +kernel) (by decide +kernel)
set_option maxRecDepth 20000 in
theorem gX1_writePlace_X1_loosen : GoodIn wsX1_writePlace (wsV RX1 129 RX1 yX1_loosen wsX1_loosen) := goodIn_app (goodIn_of _ (by decide +kernel)) ggX1_writePlace_X1_loosen
set_option maxRecDepth 20000 in
theorem ggX1_writePlace_X1_bookPiece : GoodIn wsX1_writePlace wsX1_bookPiece := goodIn_r _ [94, 95, 96, 5, 4, 65, 97, 98, 99, 11, 100, 59, 60, 61, 62, 101, 102, 103, 104, 30, 31, 32, 33, 34, 35, 36, 37, 2, 38, 39, 40, 41, 47, 48, 49, 50, 46, 66, 67, 68, 69, 70, 71, 72, 73, 74, 75, 76, 77, 78, 79, 80, 81, 105, 106, 107, 108, 109, 110, 111, 112, 113, 114, 115, 116, 117, 118, 119, 120, 121, 122] (by decide +kernel) (by decide +kernel)
set_option maxRecDepth 20000 in
theorem gX1_writePlace_X1_bookPiece : GoodIn wsX1_writePlace (wsV RX1 150 RX1 yX1_bookPiece wsX1_bookPiece) := goodIn_app (goodIn_of _ (by decide +kernel)) ggX1_writePlace_X1_bookPiece
theorem dX1_writePlace_0 : decode cX1_writePlace 0 = .ok (.aload_n 0, 1) := by decide +kernel
theorem dX1_writePlace_1 : decode cX1_writePlace 1 = .ok (.iload_n 1, 1) := by decide +kernel
theorem dX1_writePlace_2 : decode cX1_writePlace 2 = .ok (.iload_n 2, 1) := by decide +kernel
theorem dX1_writePlace_3 : decode cX1_writePlace 3 = .ok (.invokevirtual 73, 3) := by decide +kernel
theorem dX1_writePlace_6 : decode cX1_writePlace 6 = .ok (.ifCond .eq 13, 3) := by decide +kernel
theorem dX1_writePlace_9 : decode cX1_writePlace 9 = .ok (.iload_n 3, 1) := by decide +kernel
theorem dX1_writePlace_10 : decode cX1_writePlace 10 = .ok (.ifCond .lt 9, 3) := by decide +kernel
theorem dX1_writePlace_13 : decode cX1_writePlace 13 = .ok (.iload_n 3, 1) := by decide +kernel
theorem dX1_writePlace_14 : decode cX1_writePlace 14 = .ok (.bipush 99, 2) := by decide +kernel
theorem dX1_writePlace_16 : decode cX1_writePlace 16 = .ok (.if_icmp .le 6, 3) := by decide +kernel
theorem dX1_writePlace_19 : decode cX1_writePlace 19 = .ok (.ldc 124, 2) := by decide +kernel
theorem dX1_writePlace_21 : decode cX1_writePlace 21 = .ok (.ireturn, 1) := by decide +kernel
theorem dX1_writePlace_22 : decode cX1_writePlace 22 = .ok (.aload_n 0, 1) := by decide +kernel
theorem dX1_writePlace_23 : decode cX1_writePlace 23 = .ok (.iload_n 1, 1) := by decide +kernel
theorem dX1_writePlace_24 : decode cX1_writePlace 24 = .ok (.iload_n 2, 1) := by decide +kernel
theorem dX1_writePlace_25 : decode cX1_writePlace 25 = .ok (.invokevirtual 80, 3) := by decide +kernel
theorem dX1_writePlace_28 : decode cX1_writePlace 28 = .ok (.istore 4, 2) := by decide +kernel
theorem dX1_writePlace_30 : decode cX1_writePlace 30 = .ok (.aload_n 0, 1) := by decide +kernel
theorem dX1_writePlace_31 : decode cX1_writePlace 31 = .ok (.iload 4, 2) := by decide +kernel
theorem dX1_writePlace_33 : decode cX1_writePlace 33 = .ok (.invokevirtual 77, 3) := by decide +kernel
theorem dX1_writePlace_36 : decode cX1_writePlace 36 = .ok (.ifCond .eq 25, 3) := by decide +kernel
theorem dX1_writePlace_39 : decode cX1_writePlace 39 = .ok (.aload_n 0, 1) := by decide +kernel
theorem dX1_writePlace_40 : decode cX1_writePlace 40 = .ok (.getfield 36, 3) := by decide +kernel
theorem dX1_writePlace_43 : decode cX1_writePlace 43 = .ok (.iload 4, 2) := by decide +kernel
theorem dX1_writePlace_45 : decode cX1_writePlace 45 = .ok (.iaload, 1) := by decide +kernel
theorem dX1_writePlace_46 : decode cX1_writePlace 46 = .ok (.iconst 1, 1) := by decide +kernel
theorem dX1_writePlace_47 : decode cX1_writePlace 47 = .ok (.if_icmp .ne 14, 3) := by decide +kernel
theorem dX1_writePlace_50 : decode cX1_writePlace 50 = .ok (.aload_n 0, 1) := by decide +kernel
theorem dX1_writePlace_51 : decode cX1_writePlace 51 = .ok (.getfield 33, 3) := by decide +kernel
theorem dX1_writePlace_54 : decode cX1_writePlace 54 = .ok (.iload 4, 2) := by decide +kernel
theorem dX1_writePlace_56 : decode cX1_writePlace 56 = .ok (.iload_n 3, 1) := by decide +kernel
theorem dX1_writePlace_57 : decode cX1_writePlace 57 = .ok (.iastore, 1) := by decide +kernel
theorem dX1_writePlace_58 : decode cX1_writePlace 58 = .ok (.iload 4, 2) := by decide +kernel
theorem dX1_writePlace_60 : decode cX1_writePlace 60 = .ok (.ireturn, 1) := by decide +kernel
theorem dX1_writePlace_61 : decode cX1_writePlace 61 = .ok (.aload_n 0, 1) := by decide +kernel
theorem dX1_writePlace_62 : decode cX1_writePlace 62 = .ok (.invokevirtual 143, 3) := by decide +kernel
theorem dX1_writePlace_65 : decode cX1_writePlace 65 = .ok (.istore 5, 2) := by decide +kernel
theorem dX1_writePlace_67 : decode cX1_writePlace 67 = .ok (.aload_n 0, 1) := by decide +kernel
theorem dX1_writePlace_68 : decode cX1_writePlace 68 = .ok (.getfield 18, 3) := by decide +kernel
theorem dX1_writePlace_71 : decode cX1_writePlace 71 = .ok (.iload_n 1, 1) := by decide +kernel
theorem dX1_writePlace_72 : decode cX1_writePlace 72 = .ok (.iaload, 1) := by decide +kernel
theorem dX1_writePlace_73 : decode cX1_writePlace 73 = .ok (.ifCond .le 7, 3) := by decide +kernel
theorem dX1_writePlace_76 : decode cX1_writePlace 76 = .ok (.iconst 1, 1) := by decide +kernel
theorem dX1_writePlace_77 : decode cX1_writePlace 77 = .ok (.goto 4, 3) := by decide +kernel
theorem dX1_writePlace_80 : decode cX1_writePlace 80 = .ok (.iconst 0, 1) := by decide +kernel
theorem dX1_writePlace_81 : decode cX1_writePlace 81 = .ok (.istore 6, 2) := by decide +kernel
theorem dX1_writePlace_83 : decode cX1_writePlace 83 = .ok (.aload_n 0, 1) := by decide +kernel
theorem dX1_writePlace_84 : decode cX1_writePlace 84 = .ok (.iload 5, 2) := by decide +kernel
theorem dX1_writePlace_86 : decode cX1_writePlace 86 = .ok (.invokevirtual 77, 3) := by decide +kernel
theorem dX1_writePlace_89 : decode cX1_writePlace 89 = .ok (.ifCond .eq 26, 3) := by decide +kernel
theorem dX1_writePlace_92 : decode cX1_writePlace 92 = .ok (.iload 6, 2) := by decide +kernel
theorem dX1_writePlace_94 : decode cX1_writePlace 94 = .ok (.ifCond .ne 29, 3) := by decide +kernel
theorem dX1_writePlace_97 : decode cX1_writePlace 97 = .ok (.aload_n 0, 1) := by decide +kernel
theorem dX1_writePlace_98 : decode cX1_writePlace 98 = .ok (.iload_n 1, 1) := by decide +kernel
theorem dX1_writePlace_99 : decode cX1_writePlace 99 = .ok (.aload_n 0, 1) := by decide +kernel
theorem dX1_writePlace_100 : decode cX1_writePlace 100 = .ok (.getfield 15, 3) := by decide +kernel
theorem dX1_writePlace_103 : decode cX1_writePlace 103 = .ok (.iload_n 1, 1) := by decide +kernel
theorem dX1_writePlace_104 : decode cX1_writePlace 104 = .ok (.iaload, 1) := by decide +kernel
theorem dX1_writePlace_105 : decode cX1_writePlace 105 = .ok (.aload_n 0, 1) := by decide +kernel
theorem dX1_writePlace_106 : decode cX1_writePlace 106 = .ok (.invokevirtual 103, 3) := by decide +kernel
theorem dX1_writePlace_109 : decode cX1_writePlace 109 = .ok (.invokevirtual 113, 3) := by decide +kernel
theorem dX1_writePlace_112 : decode cX1_writePlace 112 = .ok (.ifCond .ne 11, 3) := by decide +kernel
theorem dX1_writePlace_115 : decode cX1_writePlace 115 = .ok (.aload_n 0, 1) := by decide +kernel
theorem dX1_writePlace_116 : decode cX1_writePlace 116 = .ok (.iload_n 1, 1) := by decide +kernel
theorem dX1_writePlace_117 : decode cX1_writePlace 117 = .ok (.invokevirtual 146, 3) := by decide +kernel
theorem dX1_writePlace_120 : decode cX1_writePlace 120 = .ok (.ldc 149, 2) := by decide +kernel
theorem dX1_writePlace_122 : decode cX1_writePlace 122 = .ok (.ireturn, 1) := by decide +kernel
theorem dX1_writePlace_123 : decode cX1_writePlace 123 = .ok (.aload_n 0, 1) := by decide +kernel
theorem dX1_writePlace_124 : decode cX1_writePlace 124 = .ok (.invokevirtual 133, 3) := by decide +kernel
theorem dX1_writePlace_127 : decode cX1_writePlace 127 = .ok (.istore 7, 2) := by decide +kernel
theorem dX1_writePlace_129 : decode cX1_writePlace 129 = .ok (.aload_n 0, 1) := by decide +kernel
theorem dX1_writePlace_130 : decode cX1_writePlace 130 = .ok (.iload_n 1, 1) := by decide +kernel
theorem dX1_writePlace_131 : decode cX1_writePlace 131 = .ok (.iload_n 2, 1) := by decide +kernel
theorem dX1_writePlace_132 : decode cX1_writePlace 132 = .ok (.invokevirtual 129, 3) := by decide +kernel
theorem dX1_writePlace_135 : decode cX1_writePlace 135 = .ok (.pop, 1) := by decide +kernel
theorem dX1_writePlace_136 : decode cX1_writePlace 136 = .ok (.aload_n 0, 1) := by decide +kernel
theorem dX1_writePlace_137 : decode cX1_writePlace 137 = .ok (.getfield 30, 3) := by decide +kernel
theorem dX1_writePlace_140 : decode cX1_writePlace 140 = .ok (.iload_n 1, 1) := by decide +kernel
theorem dX1_writePlace_141 : decode cX1_writePlace 141 = .ok (.bipush 40, 2) := by decide +kernel
theorem dX1_writePlace_143 : decode cX1_writePlace 143 = .ok (.imul, 1) := by decide +kernel
theorem dX1_writePlace_144 : decode cX1_writePlace 144 = .ok (.iload_n 2, 1) := by decide +kernel
theorem dX1_writePlace_145 : decode cX1_writePlace 145 = .ok (.iadd, 1) := by decide +kernel
theorem dX1_writePlace_146 : decode cX1_writePlace 146 = .ok (.iload 5, 2) := by decide +kernel
theorem dX1_writePlace_148 : decode cX1_writePlace 148 = .ok (.iastore, 1) := by decide +kernel
theorem dX1_writePlace_149 : decode cX1_writePlace 149 = .ok (.aload_n 0, 1) := by decide +kernel
theorem dX1_writePlace_150 : decode cX1_writePlace 150 = .ok (.getfield 36, 3) := by decide +kernel
theorem dX1_writePlace_153 : decode cX1_writePlace 153 = .ok (.iload 5, 2) := by decide +kernel
theorem dX1_writePlace_155 : decode cX1_writePlace 155 = .ok (.iconst 1, 1) := by decide +kernel
theorem dX1_writePlace_156 : decode cX1_writePlace 156 = .ok (.iastore, 1) := by decide +kernel
theorem dX1_writePlace_157 : decode cX1_writePlace 157 = .ok (.aload_n 0, 1) := by decide +kernel
theorem dX1_writePlace_158 : decode cX1_writePlace 158 = .ok (.getfield 33, 3) := by decide +kernel
theorem dX1_writePlace_161 : decode cX1_writePlace 161 = .ok (.iload 5, 2) := by decide +kernel
theorem dX1_writePlace_163 : decode cX1_writePlace 163 = .ok (.iload_n 3, 1) := by decide +kernel
theorem dX1_writePlace_164 : decode cX1_writePlace 164 = .ok (.iastore, 1) := by decide +kernel
theorem dX1_writePlace_165 : decode cX1_writePlace 165 = .ok (.aload_n 0, 1) := by decide +kernel
theorem dX1_writePlace_166 : decode cX1_writePlace 166 = .ok (.iload_n 1, 1) := by decide +kernel
theorem dX1_writePlace_167 : decode cX1_writePlace 167 = .ok (.iload 6, 2) := by decide +kernel
theorem dX1_writePlace_169 : decode cX1_writePlace 169 = .ok (.iload 7, 2) := by decide +kernel
theorem dX1_writePlace_171 : decode cX1_writePlace 171 = .ok (.invokevirtual 150, 3) := by decide +kernel
theorem dX1_writePlace_174 : decode cX1_writePlace 174 = .ok (.iload 5, 2) := by decide +kernel
theorem dX1_writePlace_176 : decode cX1_writePlace 176 = .ok (.ireturn, 1) := by decide +kernel
theorem dX1_lowestFreePiece_0 : decode cX1_lowestFreePiece 0 = .ok (.iconst 0, 1) := by decide +kernel
theorem dX1_lowestFreePiece_1 : decode cX1_lowestFreePiece 1 = .ok (.istore_n 1, 1) := by decide +kernel
theorem dX1_lowestFreePiece_2 : decode cX1_lowestFreePiece 2 = .ok (.iload_n 1, 1) := by decide +kernel
theorem dX1_lowestFreePiece_3 : decode cX1_lowestFreePiece 3 = .ok (.bipush 30, 2) := by decide +kernel
theorem dX1_lowestFreePiece_5 : decode cX1_lowestFreePiece 5 = .ok (.if_icmp .ge 20, 3) := by decide +kernel
theorem dX1_lowestFreePiece_8 : decode cX1_lowestFreePiece 8 = .ok (.aload_n 0, 1) := by decide +kernel
theorem dX1_lowestFreePiece_9 : decode cX1_lowestFreePiece 9 = .ok (.getfield 36, 3) := by decide +kernel
theorem dX1_lowestFreePiece_12 : decode cX1_lowestFreePiece 12 = .ok (.iload_n 1, 1) := by decide +kernel
theorem dX1_lowestFreePiece_13 : decode cX1_lowestFreePiece 13 = .ok (.iaload, 1) := by decide +kernel
theorem dX1_lowestFreePiece_14 : decode cX1_lowestFreePiece 14 = .ok (.ifCond .ne 5, 3) := by decide +kernel
theorem dX1_lowestFreePiece_17 : decode cX1_lowestFreePiece 17 = .ok (.iload_n 1, 1) := by decide +kernel
theorem dX1_lowestFreePiece_18 : decode cX1_lowestFreePiece 18 = .ok (.ireturn, 1) := by decide +kernel
theorem dX1_lowestFreePiece_19 : decode cX1_lowestFreePiece 19 = .ok (.iinc 1 1, 3) := by decide +kernel
theorem dX1_lowestFreePiece_22 : decode cX1_lowestFreePiece 22 = .ok (.goto (-20), 3) := by decide +kernel
theorem dX1_lowestFreePiece_25 : decode cX1_lowestFreePiece 25 = .ok (.iconst (-1), 1) := by decide +kernel
theorem dX1_lowestFreePiece_26 : decode cX1_lowestFreePiece 26 = .ok (.ireturn, 1) := by decide +kernel
set_option maxRecDepth 20000 in
theorem ggX1_refuse_X1_available : GoodIn wsX1_refuse wsX1_available := goodIn_r _ [13, 14, 15, 16, 12, 17, 18, 19, 20, 21, 22, 23, 40, 41, 42, 43, 44, 45, 46, 47, 48, 49, 50, 51, 52, 53] (by decide +kernel) (by decide +kernel)
set_option maxRecDepth 20000 in
theorem gX1_refuse_X1_available : GoodIn wsX1_refuse (wsV RX1 103 RX1 yX1_available wsX1_available) := goodIn_app (goodIn_of _ (by decide +kernel)) ggX1_refuse_X1_available
set_option maxRecDepth 20000 in
theorem ggX1_refuse_X4_add : GoodIn wsX1_refuse wsX4_add := goodIn_r _ [28, 29, 30, 31, 32, 33, 34, 35, 36, 37, 38, 4, 39, 54, 55, 56, 57] (by decide +kernel) (by decide +kernel)
set_option maxRecDepth 20000 in
theorem gX1_refuse_X4_add : GoodIn wsX1_refuse (wsV RX1 120 RX4 yX4_add wsX4_add) := goodIn_app (goodIn_of _ (by decide +kernel)) ggX1_refuse_X4_add
theorem dX1_refuse_0 : decode cX1_refuse 0 = .ok (.aload_n 0, 1) := by decide +kernel
theorem dX1_refuse_1 : decode cX1_refuse 1 = .ok (.getfield 15, 3) := by decide +kernel
theorem dX1_refuse_4 : decode cX1_refuse 4 = .ok (.iload_n 1, 1) := by decide +kernel
theorem dX1_refuse_5 : decode cX1_refuse 5 = .ok (.aload_n 0, 1) := by decide +kernel
theorem dX1_refuse_6 : decode cX1_refuse 6 = .ok (.getfield 15, 3) := by decide +kernel
theorem dX1_refuse_9 : decode cX1_refuse 9 = .ok (.iload_n 1, 1) := by decide +kernel
theorem dX1_refuse_10 : decode cX1_refuse 10 = .ok (.iaload, 1) := by decide +kernel
theorem dX1_refuse_11 : decode cX1_refuse 11 = .ok (.iconst 1, 1) := by decide +kernel
theorem dX1_refuse_12 : decode cX1_refuse 12 = .ok (.isub, 1) := by decide +kernel
theorem dX1_refuse_13 : decode cX1_refuse 13 = .ok (.iconst 0, 1) := by decide +kernel
theorem dX1_refuse_14 : decode cX1_refuse 14 = .ok (.invokestatic 91, 3) := by decide +kernel
theorem dX1_refuse_17 : decode cX1_refuse 17 = .ok (.iastore, 1) := by decide +kernel
theorem dX1_refuse_18 : decode cX1_refuse 18 = .ok (.aload_n 0, 1) := by decide +kernel
theorem dX1_refuse_19 : decode cX1_refuse 19 = .ok (.getfield 24, 3) := by decide +kernel
theorem dX1_refuse_22 : decode cX1_refuse 22 = .ok (.iload_n 1, 1) := by decide +kernel
theorem dX1_refuse_23 : decode cX1_refuse 23 = .ok (.dup2, 1) := by decide +kernel
theorem dX1_refuse_24 : decode cX1_refuse 24 = .ok (.iaload, 1) := by decide +kernel
theorem dX1_refuse_25 : decode cX1_refuse 25 = .ok (.iconst 1, 1) := by decide +kernel
theorem dX1_refuse_26 : decode cX1_refuse 26 = .ok (.iadd, 1) := by decide +kernel
theorem dX1_refuse_27 : decode cX1_refuse 27 = .ok (.iastore, 1) := by decide +kernel
theorem dX1_refuse_28 : decode cX1_refuse 28 = .ok (.aload_n 0, 1) := by decide +kernel
theorem dX1_refuse_29 : decode cX1_refuse 29 = .ok (.dup, 1) := by decide +kernel
theorem dX1_refuse_30 : decode cX1_refuse 30 = .ok (.getfield 59, 3) := by decide +kernel
theorem dX1_refuse_33 : decode cX1_refuse 33 = .ok (.iconst 1, 1) := by decide +kernel
theorem dX1_refuse_34 : decode cX1_refuse 34 = .ok (.iadd, 1) := by decide +kernel
theorem dX1_refuse_35 : decode cX1_refuse 35 = .ok (.putfield 59, 3) := by decide +kernel
theorem dX1_refuse_38 : decode cX1_refuse 38 = .ok (.aload_n 0, 1) := by decide +kernel
theorem dX1_refuse_39 : decode cX1_refuse 39 = .ok (.getfield 45, 3) := by decide +kernel
theorem dX1_refuse_42 : decode cX1_refuse 42 = .ok (.iconst 1, 1) := by decide +kernel
theorem dX1_refuse_43 : decode cX1_refuse 43 = .ok (.iload_n 1, 1) := by decide +kernel
theorem dX1_refuse_44 : decode cX1_refuse 44 = .ok (.aload_n 0, 1) := by decide +kernel
theorem dX1_refuse_45 : decode cX1_refuse 45 = .ok (.invokevirtual 103, 3) := by decide +kernel
theorem dX1_refuse_48 : decode cX1_refuse 48 = .ok (.invokevirtual 120, 3) := by decide +kernel
theorem dX1_refuse_51 : decode cX1_refuse 51 = .ok (.return_, 1) := by decide +kernel
set_option maxRecDepth 20000 in
theorem ggX1_bookPiece_X1_mannersBehindUnpromised : GoodIn wsX1_bookPiece wsX1_mannersBehindUnpromised := goodIn_r _ [10, 11, 12, 13, 14] (by decide +kernel) (by decide +kernel)
set_option maxRecDepth 20000 in
theorem gX1_bookPiece_X1_mannersBehindUnpromised : GoodIn wsX1_bookPiece (wsV RX1 117 RX1 yX1_mannersBehindUnpromised wsX1_mannersBehindUnpromised) := goodIn_app (goodIn_of _ (by decide +kernel)) ggX1_bookPiece_X1_mannersBehindUnpromised
set_option maxRecDepth 20000 in
theorem ggX1_bookPiece_X1_warnIfLevelRose : GoodIn wsX1_bookPiece wsX1_warnIfLevelRose := goodIn_r _ [18, 5, 19, 20, 21, 9, 22, 23, 24, 25, 26, 27, 28, 29, 30, 31, 4, 32, 33, 34, 35, 36, 37, 38, 39, 40, 41, 42, 43, 44, 45, 46, 47, 48, 49, 50, 51, 13, 52, 53, 54, 55, 56, 57, 58, 59, 60, 61, 62, 63, 64, 65, 66, 67, 68, 69, 70] (by decide +kernel) (by decide +kernel)
set_option maxRecDepth 20000 in
theorem gX1_bookPiece_X1_warnIfLevelRose : GoodIn wsX1_bookPiece (wsV RX1 136 RX1 yX1_warnIfLevelRose wsX1_warnIfLevelRose) := goodIn_app (goodIn_of _ (by decide +kernel)) ggX1_bookPiece_X1_warnIfLevelRose
set_option maxRecDepth 20000 in
theorem ggX1_bookPiece_X1_available : GoodIn wsX1_bookPiece wsX1_available := goodIn_r _ [22, 23, 24, 25, 9, 26, 27, 28, 29, 30, 31, 4, 53, 54, 55, 56, 57, 58, 59, 60, 61, 62, 63, 64, 65, 66] (by decide +kernel) (by decide +kernel)
set_option maxRecDepth 20000 in
theorem gX1_bookPiece_X1_available : GoodIn wsX1_bookPiece (wsV RX1 103 RX1 yX1_available wsX1_available) := goodIn_app (goodIn_of _ (by decide +kernel)) ggX1_bookPiece_X1_available
set_option maxRecDepth 20000 in
theorem ggX1_bookPiece_X4_add : GoodIn wsX1_bookPiece wsX4_add := goodIn_r _ [41, 42, 43, 44, 45, 46, 47, 48, 49, 50, 51, 13, 52, 67, 68, 69, 70] (by decide +kernel) (by decide +kernel)
set_option maxRecDepth 20000 in
theorem gX1_bookPiece_X4_add : GoodIn wsX1_bookPiece (wsV RX1 120 RX4 yX4_add wsX4_add) := goodIn_app (goodIn_of _ (by decide +kernel)) ggX1_bookPiece_X4_add
theorem dX1_bookPiece_0 : decode cX1_bookPiece 0 = .ok (.aload_n 0, 1) := by decide +kernel
theorem dX1_bookPiece_1 : decode cX1_bookPiece 1 = .ok (.getfield 27, 3) := by decide +kernel
theorem dX1_bookPiece_4 : decode cX1_bookPiece 4 = .ok (.iload_n 1, 1) := by decide +kernel
theorem dX1_bookPiece_5 : decode cX1_bookPiece 5 = .ok (.dup2, 1) := by decide +kernel
theorem dX1_bookPiece_6 : decode cX1_bookPiece 6 = .ok (.iaload, 1) := by decide +kernel
theorem dX1_bookPiece_7 : decode cX1_bookPiece 7 = .ok (.iconst 1, 1) := by decide +kernel
theorem dX1_bookPiece_8 : decode cX1_bookPiece 8 = .ok (.iadd, 1) := by decide +kernel
theorem dX1_bookPiece_9 : decode cX1_bookPiece 9 = .ok (.iastore, 1) := by decide +kernel
theorem dX1_bookPiece_10 : decode cX1_bookPiece 10 = .ok (.aload_n 0, 1) := by decide +kernel
theorem dX1_bookPiece_11 : decode cX1_bookPiece 11 = .ok (.dup, 1) := by decide +kernel
theorem dX1_bookPiece_12 : decode cX1_bookPiece 12 = .ok (.getfield 63, 3) := by decide +kernel
theorem dX1_bookPiece_15 : decode cX1_bookPiece 15 = .ok (.iconst 1, 1) := by decide +kernel
theorem dX1_bookPiece_16 : decode cX1_bookPiece 16 = .ok (.iadd, 1) := by decide +kernel
theorem dX1_bookPiece_17 : decode cX1_bookPiece 17 = .ok (.putfield 63, 3) := by decide +kernel
theorem dX1_bookPiece_20 : decode cX1_bookPiece 20 = .ok (.iload_n 2, 1) := by decide +kernel
theorem dX1_bookPiece_21 : decode cX1_bookPiece 21 = .ok (.ifCond .ne 26, 3) := by decide +kernel
theorem dX1_bookPiece_24 : decode cX1_bookPiece 24 = .ok (.aload_n 0, 1) := by decide +kernel
theorem dX1_bookPiece_25 : decode cX1_bookPiece 25 = .ok (.getfield 15, 3) := by decide +kernel
theorem dX1_bookPiece_28 : decode cX1_bookPiece 28 = .ok (.iload_n 1, 1) := by decide +kernel
theorem dX1_bookPiece_29 : decode cX1_bookPiece 29 = .ok (.aload_n 0, 1) := by decide +kernel
theorem dX1_bookPiece_30 : decode cX1_bookPiece 30 = .ok (.aload_n 0, 1) := by decide +kernel
theorem dX1_bookPiece_31 : decode cX1_bookPiece 31 = .ok (.getfield 15, 3) := by decide +kernel
theorem dX1_bookPiece_34 : decode cX1_bookPiece 34 = .ok (.iload_n 1, 1) := by decide +kernel
theorem dX1_bookPiece_35 : decode cX1_bookPiece 35 = .ok (.iaload, 1) := by decide +kernel
theorem dX1_bookPiece_36 : decode cX1_bookPiece 36 = .ok (.iload_n 3, 1) := by decide +kernel
theorem dX1_bookPiece_37 : decode cX1_bookPiece 37 = .ok (.invokevirtual 117, 3) := by decide +kernel
theorem dX1_bookPiece_40 : decode cX1_bookPiece 40 = .ok (.iastore, 1) := by decide +kernel
theorem dX1_bookPiece_41 : decode cX1_bookPiece 41 = .ok (.aload_n 0, 1) := by decide +kernel
theorem dX1_bookPiece_42 : decode cX1_bookPiece 42 = .ok (.iload_n 3, 1) := by decide +kernel
theorem dX1_bookPiece_43 : decode cX1_bookPiece 43 = .ok (.invokevirtual 136, 3) := by decide +kernel
theorem dX1_bookPiece_46 : decode cX1_bookPiece 46 = .ok (.return_, 1) := by decide +kernel
theorem dX1_bookPiece_47 : decode cX1_bookPiece 47 = .ok (.aload_n 0, 1) := by decide +kernel
theorem dX1_bookPiece_48 : decode cX1_bookPiece 48 = .ok (.getfield 18, 3) := by decide +kernel
theorem dX1_bookPiece_51 : decode cX1_bookPiece 51 = .ok (.iload_n 1, 1) := by decide +kernel
theorem dX1_bookPiece_52 : decode cX1_bookPiece 52 = .ok (.dup2, 1) := by decide +kernel
theorem dX1_bookPiece_53 : decode cX1_bookPiece 53 = .ok (.iaload, 1) := by decide +kernel
theorem dX1_bookPiece_54 : decode cX1_bookPiece 54 = .ok (.iconst 1, 1) := by decide +kernel
theorem dX1_bookPiece_55 : decode cX1_bookPiece 55 = .ok (.isub, 1) := by decide +kernel
theorem dX1_bookPiece_56 : decode cX1_bookPiece 56 = .ok (.iastore, 1) := by decide +kernel
theorem dX1_bookPiece_57 : decode cX1_bookPiece 57 = .ok (.aload_n 0, 1) := by decide +kernel
theorem dX1_bookPiece_58 : decode cX1_bookPiece 58 = .ok (.getfield 18, 3) := by decide +kernel
theorem dX1_bookPiece_61 : decode cX1_bookPiece 61 = .ok (.iload_n 1, 1) := by decide +kernel
theorem dX1_bookPiece_62 : decode cX1_bookPiece 62 = .ok (.iaload, 1) := by decide +kernel
theorem dX1_bookPiece_63 : decode cX1_bookPiece 63 = .ok (.ifCond .ne 16, 3) := by decide +kernel
theorem dX1_bookPiece_66 : decode cX1_bookPiece 66 = .ok (.aload_n 0, 1) := by decide +kernel
theorem dX1_bookPiece_67 : decode cX1_bookPiece 67 = .ok (.getfield 45, 3) := by decide +kernel
theorem dX1_bookPiece_70 : decode cX1_bookPiece 70 = .ok (.iconst 2, 1) := by decide +kernel
theorem dX1_bookPiece_71 : decode cX1_bookPiece 71 = .ok (.iload_n 1, 1) := by decide +kernel
theorem dX1_bookPiece_72 : decode cX1_bookPiece 72 = .ok (.aload_n 0, 1) := by decide +kernel
theorem dX1_bookPiece_73 : decode cX1_bookPiece 73 = .ok (.invokevirtual 103, 3) := by decide +kernel
theorem dX1_bookPiece_76 : decode cX1_bookPiece 76 = .ok (.invokevirtual 120, 3) := by decide +kernel
theorem dX1_bookPiece_79 : decode cX1_bookPiece 79 = .ok (.return_, 1) := by decide +kernel
set_option maxRecDepth 20000 in
theorem ggX1_trimPlace_X1_hasPlace : GoodIn wsX1_trimPlace wsX1_hasPlace := goodIn_r _ [7, 8, 9, 10, 11, 6, 12, 37, 38, 39, 40, 41, 42, 43, 44, 45, 46, 47, 48, 49, 50] (by decide +kernel) (by decide +kernel)
set_option maxRecDepth 20000 in
theorem gX1_trimPlace_X1_hasPlace : GoodIn wsX1_trimPlace (wsV RX1 73 RX1 yX1_hasPlace wsX1_hasPlace) := goodIn_app (goodIn_of _ (by decide +kernel)) ggX1_trimPlace_X1_hasPlace
set_option maxRecDepth 20000 in
theorem ggX1_trimPlace_X1_pieceAt : GoodIn wsX1_trimPlace wsX1_pieceAt := goodIn_r _ [16, 17, 3, 4, 5, 6, 7, 8, 9, 10, 11, 12, 37, 38, 39, 40, 41, 42, 43, 44, 45, 46, 47, 48, 49, 50] (by decide +kernel) (by decide +kernel)
set_option maxRecDepth 20000 in
theorem gX1_trimPlace_X1_pieceAt : GoodIn wsX1_trimPlace (wsV RX1 80 RX1 yX1_pieceAt wsX1_pieceAt) := goodIn_app (goodIn_of _ (by decide +kernel)) ggX1_trimPlace_X1_pieceAt
set_option maxRecDepth 20000 in
theorem ggX1_trimPlace_X1_loosen : GoodIn wsX1_trimPlace wsX1_loosen := goodIn_r _ [21, 17, 22, 23, 13, 14, 15, 6, 16, 3, 4, 5, 7, 8, 9, 10, 11, 12, 24, 25, 26, 27, 37, 38, 39, 40, 41, 42, 43, 44, 45, 46, 47, 48, 49, 50] (by decide +kernel) (by decide +kernel)
set_option maxRecDepth 20000 in
theorem gX1_trimPlace_X1_loosen : GoodIn wsX1_trimPlace (wsV RX1 129 RX1 yX1_loosen wsX1_loosen) := goodIn_app (goodIn_of _ (by decide +kernel)) ggX1_trimPlace_X1_loosen
set_option maxRecDepth 20000 in
theorem ggX1_trimPlace_X1_thank : GoodIn wsX1_trimPlace wsX1_thank := goodIn_r _ [31, 32, 33, 34, 35, 36, 37, 38, 39, 40, 41, 42, 43, 44, 45, 46, 47, 48, 49, 50] (by decide +kernel) (by decide +kernel)
set_option maxRecDepth 20000 in
theorem gX1_trimPlace_X1_thank : GoodIn wsX1_trimPlace (wsV RX1 154 RX1 yX1_thank wsX1_thank) := goodIn_app (goodIn_of _ (by decide +kernel)) ggX1_trimPlace_X1_thank
theorem dX1_trimPlace_0 : decode cX1_trimPlace 0 = .ok (.aload_n 0, 1) := by decide +kernel
theorem dX1_trimPlace_1 : decode cX1_trimPlace 1 = .ok (.iload_n 1, 1) := by decide +kernel
theorem dX1_trimPlace_2 : decode cX1_trimPlace 2 = .ok (.iload_n 2, 1) := by decide +kernel
theorem dX1_trimPlace_3 : decode cX1_trimPlace 3 = .ok (.invokevirtual 73, 3) := by decide +kernel
theorem dX1_trimPlace_6 : decode cX1_trimPlace 6 = .ok (.ifCond .ne 6, 3) := by decide +kernel
theorem dX1_trimPlace_9 : decode cX1_trimPlace 9 = .ok (.ldc 124, 2) := by decide +kernel
theorem dX1_trimPlace_11 : decode cX1_trimPlace 11 = .ok (.ireturn, 1) := by decide +kernel
theorem dX1_trimPlace_12 : decode cX1_trimPlace 12 = .ok (.aload_n 0, 1) := by decide +kernel
theorem dX1_trimPlace_13 : decode cX1_trimPlace 13 = .ok (.iload_n 1, 1) := by decide +kernel
theorem dX1_trimPlace_14 : decode cX1_trimPlace 14 = .ok (.iload_n 2, 1) := by decide +kernel
theorem dX1_trimPlace_15 : decode cX1_trimPlace 15 = .ok (.invokevirtual 80, 3) := by decide +kernel
theorem dX1_trimPlace_18 : decode cX1_trimPlace 18 = .ok (.iconst (-1), 1) := by decide +kernel
theorem dX1_trimPlace_19 : decode cX1_trimPlace 19 = .ok (.if_icmp .ne 6, 3) := by decide +kernel
theorem dX1_trimPlace_22 : decode cX1_trimPlace 22 = .ok (.ldc 132, 2) := by decide +kernel
theorem dX1_trimPlace_24 : decode cX1_trimPlace 24 = .ok (.ireturn, 1) := by decide +kernel
theorem dX1_trimPlace_25 : decode cX1_trimPlace 25 = .ok (.aload_n 0, 1) := by decide +kernel
theorem dX1_trimPlace_26 : decode cX1_trimPlace 26 = .ok (.iload_n 1, 1) := by decide +kernel
theorem dX1_trimPlace_27 : decode cX1_trimPlace 27 = .ok (.iload_n 2, 1) := by decide +kernel
theorem dX1_trimPlace_28 : decode cX1_trimPlace 28 = .ok (.invokevirtual 129, 3) := by decide +kernel
theorem dX1_trimPlace_31 : decode cX1_trimPlace 31 = .ok (.istore_n 3, 1) := by decide +kernel
theorem dX1_trimPlace_32 : decode cX1_trimPlace 32 = .ok (.aload_n 0, 1) := by decide +kernel
theorem dX1_trimPlace_33 : decode cX1_trimPlace 33 = .ok (.iload_n 1, 1) := by decide +kernel
theorem dX1_trimPlace_34 : decode cX1_trimPlace 34 = .ok (.iload_n 3, 1) := by decide +kernel
theorem dX1_trimPlace_35 : decode cX1_trimPlace 35 = .ok (.invokevirtual 154, 3) := by decide +kernel
theorem dX1_trimPlace_38 : decode cX1_trimPlace 38 = .ok (.iload_n 3, 1) := by decide +kernel
theorem dX1_trimPlace_39 : decode cX1_trimPlace 39 = .ok (.ireturn, 1) := by decide +kernel
set_option maxRecDepth 20000 in
theorem ggX1_sweepVolume_X1_lives : GoodIn wsX1_sweepVolume wsX1_lives := goodIn_r _ [7, 8, 37, 38, 39, 40, 41, 42, 43, 44, 45, 46, 47, 48, 49, 50] (by decide +kernel) (by decide +kernel)
set_option maxRecDepth 20000 in
theorem gX1_sweepVolume_X1_lives : GoodIn wsX1_sweepVolume (wsV RX1 69 RX1 yX1_lives wsX1_lives) := goodIn_app (goodIn_of _ (by decide +kernel)) ggX1_sweepVolume_X1_lives
set_option maxRecDepth 20000 in
theorem ggX1_sweepVolume_X1_pieceAt : GoodIn wsX1_sweepVolume wsX1_pieceAt := goodIn_r _ [12, 13, 14, 15, 16, 6, 17, 8, 3, 4, 5, 7, 37, 38, 39, 40, 41, 42, 43, 44, 45, 46, 47, 48, 49, 50] (by decide +kernel) (by decide +kernel)
set_option maxRecDepth 20000 in
theorem gX1_sweepVolume_X1_pieceAt : GoodIn wsX1_sweepVolume (wsV RX1 80 RX1 yX1_pieceAt wsX1_pieceAt) := goodIn_app (goodIn_of _ (by decide +kernel)) ggX1_sweepVolume_X1_pieceAt
set_option maxRecDepth 20000 in
theorem ggX1_sweepVolume_X1_isPiece : GoodIn wsX1_sweepVolume wsX1_isPiece := goodIn_r _ [21] (by decide +kernel) (by decide +kernel)
set_option maxRecDepth 20000 in
theorem gX1_sweepVolume_X1_isPiece : GoodIn wsX1_sweepVolume (wsV RX1 77 RX1 yX1_isPiece wsX1_isPiece) := goodIn_app (goodIn_of _ (by decide +kernel)) ggX1_sweepVolume_X1_isPiece
set_option maxRecDepth 20000 in
theorem ggX1_sweepVolume_X1_loosen : GoodIn wsX1_sweepVolume wsX1_loosen := goodIn_r _ [25, 13, 26, 27, 9, 10, 11, 6, 12, 14, 15, 16, 17, 8, 3, 4, 5, 7, 18, 19, 20, 21, 37, 38, 39, 40, 41, 42, 43, 44, 45, 46, 47, 48, 49, 50] (by decide +kernel) (by decide +kernel)
set_option maxRecDepth 20000 in
theorem gX1_sweepVolume_X1_loosen : GoodIn wsX1_sweepVolume (wsV RX1 129 RX1 yX1_loosen wsX1_loosen) := goodIn_app (goodIn_of _ (by decide +kernel)) ggX1_sweepVolume_X1_loosen
set_option maxRecDepth 20000 in
theorem ggX1_sweepVolume_X1_thank : GoodIn wsX1_sweepVolume wsX1_thank := goodIn_r _ [31, 32, 33, 34, 35, 36, 37, 38, 39, 40, 41, 42, 43, 44, 45, 46, 47, 48, 49, 50] (by decide +kernel) (by decide +kernel)
set_option maxRecDepth 20000 in
theorem gX1_sweepVolume_X1_thank : GoodIn wsX1_sweepVolume (wsV RX1 154 RX1 yX1_thank wsX1_thank) := goodIn_app (goodIn_of _ (by decide +kernel)) ggX1_sweepVolume_X1_thank
theorem dX1_sweepVolume_0 : decode cX1_sweepVolume 0 = .ok (.aload_n 0, 1) := by decide +kernel
theorem dX1_sweepVolume_1 : decode cX1_sweepVolume 1 = .ok (.iload_n 1, 1) := by decide +kernel
theorem dX1_sweepVolume_2 : decode cX1_sweepVolume 2 = .ok (.invokevirtual 69, 3) := by decide +kernel
theorem dX1_sweepVolume_5 : decode cX1_sweepVolume 5 = .ok (.ifCond .ne 6, 3) := by decide +kernel
theorem dX1_sweepVolume_8 : decode cX1_sweepVolume 8 = .ok (.ldc 124, 2) := by decide +kernel
theorem dX1_sweepVolume_10 : decode cX1_sweepVolume 10 = .ok (.ireturn, 1) := by decide +kernel
theorem dX1_sweepVolume_11 : decode cX1_sweepVolume 11 = .ok (.iconst 0, 1) := by decide +kernel
theorem dX1_sweepVolume_12 : decode cX1_sweepVolume 12 = .ok (.istore_n 2, 1) := by decide +kernel
theorem dX1_sweepVolume_13 : decode cX1_sweepVolume 13 = .ok (.iconst 0, 1) := by decide +kernel
theorem dX1_sweepVolume_14 : decode cX1_sweepVolume 14 = .ok (.istore_n 3, 1) := by decide +kernel
theorem dX1_sweepVolume_15 : decode cX1_sweepVolume 15 = .ok (.iload_n 3, 1) := by decide +kernel
theorem dX1_sweepVolume_16 : decode cX1_sweepVolume 16 = .ok (.bipush 40, 2) := by decide +kernel
theorem dX1_sweepVolume_18 : decode cX1_sweepVolume 18 = .ok (.if_icmp .ge 45, 3) := by decide +kernel
theorem dX1_sweepVolume_21 : decode cX1_sweepVolume 21 = .ok (.aload_n 0, 1) := by decide +kernel
theorem dX1_sweepVolume_22 : decode cX1_sweepVolume 22 = .ok (.iload_n 1, 1) := by decide +kernel
theorem dX1_sweepVolume_23 : decode cX1_sweepVolume 23 = .ok (.iload_n 3, 1) := by decide +kernel
theorem dX1_sweepVolume_24 : decode cX1_sweepVolume 24 = .ok (.invokevirtual 80, 3) := by decide +kernel
theorem dX1_sweepVolume_27 : decode cX1_sweepVolume 27 = .ok (.istore 4, 2) := by decide +kernel
theorem dX1_sweepVolume_29 : decode cX1_sweepVolume 29 = .ok (.aload_n 0, 1) := by decide +kernel
theorem dX1_sweepVolume_30 : decode cX1_sweepVolume 30 = .ok (.iload 4, 2) := by decide +kernel
theorem dX1_sweepVolume_32 : decode cX1_sweepVolume 32 = .ok (.invokevirtual 77, 3) := by decide +kernel
theorem dX1_sweepVolume_35 : decode cX1_sweepVolume 35 = .ok (.ifCond .eq 22, 3) := by decide +kernel
theorem dX1_sweepVolume_38 : decode cX1_sweepVolume 38 = .ok (.aload_n 0, 1) := by decide +kernel
theorem dX1_sweepVolume_39 : decode cX1_sweepVolume 39 = .ok (.getfield 33, 3) := by decide +kernel
theorem dX1_sweepVolume_42 : decode cX1_sweepVolume 42 = .ok (.iload 4, 2) := by decide +kernel
theorem dX1_sweepVolume_44 : decode cX1_sweepVolume 44 = .ok (.iaload, 1) := by decide +kernel
theorem dX1_sweepVolume_45 : decode cX1_sweepVolume 45 = .ok (.ifCond .ne 12, 3) := by decide +kernel
theorem dX1_sweepVolume_48 : decode cX1_sweepVolume 48 = .ok (.iload_n 2, 1) := by decide +kernel
theorem dX1_sweepVolume_49 : decode cX1_sweepVolume 49 = .ok (.aload_n 0, 1) := by decide +kernel
theorem dX1_sweepVolume_50 : decode cX1_sweepVolume 50 = .ok (.iload_n 1, 1) := by decide +kernel
theorem dX1_sweepVolume_51 : decode cX1_sweepVolume 51 = .ok (.iload_n 3, 1) := by decide +kernel
theorem dX1_sweepVolume_52 : decode cX1_sweepVolume 52 = .ok (.invokevirtual 129, 3) := by decide +kernel
theorem dX1_sweepVolume_55 : decode cX1_sweepVolume 55 = .ok (.iadd, 1) := by decide +kernel
theorem dX1_sweepVolume_56 : decode cX1_sweepVolume 56 = .ok (.istore_n 2, 1) := by decide +kernel
theorem dX1_sweepVolume_57 : decode cX1_sweepVolume 57 = .ok (.iinc 3 1, 3) := by decide +kernel
theorem dX1_sweepVolume_60 : decode cX1_sweepVolume 60 = .ok (.goto (-45), 3) := by decide +kernel
theorem dX1_sweepVolume_63 : decode cX1_sweepVolume 63 = .ok (.aload_n 0, 1) := by decide +kernel
theorem dX1_sweepVolume_64 : decode cX1_sweepVolume 64 = .ok (.iload_n 1, 1) := by decide +kernel
theorem dX1_sweepVolume_65 : decode cX1_sweepVolume 65 = .ok (.iload_n 2, 1) := by decide +kernel
theorem dX1_sweepVolume_66 : decode cX1_sweepVolume 66 = .ok (.invokevirtual 154, 3) := by decide +kernel
theorem dX1_sweepVolume_69 : decode cX1_sweepVolume 69 = .ok (.iload_n 2, 1) := by decide +kernel
theorem dX1_sweepVolume_70 : decode cX1_sweepVolume 70 = .ok (.ireturn, 1) := by decide +kernel
theorem dX1_thank_0 : decode cX1_thank 0 = .ok (.aload_n 0, 1) := by decide +kernel
theorem dX1_thank_1 : decode cX1_thank 1 = .ok (.getfield 15, 3) := by decide +kernel
theorem dX1_thank_4 : decode cX1_thank 4 = .ok (.iload_n 1, 1) := by decide +kernel
theorem dX1_thank_5 : decode cX1_thank 5 = .ok (.aload_n 0, 1) := by decide +kernel
theorem dX1_thank_6 : decode cX1_thank 6 = .ok (.getfield 15, 3) := by decide +kernel
theorem dX1_thank_9 : decode cX1_thank 9 = .ok (.iload_n 1, 1) := by decide +kernel
theorem dX1_thank_10 : decode cX1_thank 10 = .ok (.iaload, 1) := by decide +kernel
theorem dX1_thank_11 : decode cX1_thank 11 = .ok (.iconst 2, 1) := by decide +kernel
theorem dX1_thank_12 : decode cX1_thank 12 = .ok (.iload_n 2, 1) := by decide +kernel
theorem dX1_thank_13 : decode cX1_thank 13 = .ok (.imul, 1) := by decide +kernel
theorem dX1_thank_14 : decode cX1_thank 14 = .ok (.iadd, 1) := by decide +kernel
theorem dX1_thank_15 : decode cX1_thank 15 = .ok (.bipush 100, 2) := by decide +kernel
theorem dX1_thank_17 : decode cX1_thank 17 = .ok (.invokestatic 158, 3) := by decide +kernel
theorem dX1_thank_20 : decode cX1_thank 20 = .ok (.iastore, 1) := by decide +kernel
theorem dX1_thank_21 : decode cX1_thank 21 = .ok (.return_, 1) := by decide +kernel
set_option maxRecDepth 20000 in
theorem ggX1_loosen_X1_pieceAt : GoodIn wsX1_loosen wsX1_pieceAt := goodIn_r _ [8, 1, 9, 10, 11, 7, 12, 13, 14, 15, 16, 17, 22, 23, 24, 25, 26, 27, 28, 29, 30, 31, 32, 33, 34, 35] (by decide +kernel) (by decide +kernel)
set_option maxRecDepth 20000 in
theorem gX1_loosen_X1_pieceAt : GoodIn wsX1_loosen (wsV RX1 80 RX1 yX1_pieceAt wsX1_pieceAt) := goodIn_app (goodIn_of _ (by decide +kernel)) ggX1_loosen_X1_pieceAt
set_option maxRecDepth 20000 in
theorem ggX1_loosen_X1_isPiece : GoodIn wsX1_loosen wsX1_isPiece := goodIn_r _ [21] (by decide +kernel) (by decide +kernel)
set_option maxRecDepth 20000 in
theorem gX1_loosen_X1_isPiece : GoodIn wsX1_loosen (wsV RX1 77 RX1 yX1_isPiece wsX1_isPiece) := goodIn_app (goodIn_of _ (by decide +kernel)) ggX1_loosen_X1_isPiece
theorem dX1_loosen_0 : decode cX1_loosen 0 = .ok (.aload_n 0, 1) := by decide +kernel
theorem dX1_loosen_1 : decode cX1_loosen 1 = .ok (.iload_n 1, 1) := by decide +kernel
theorem dX1_loosen_2 : decode cX1_loosen 2 = .ok (.iload_n 2, 1) := by decide +kernel
theorem dX1_loosen_3 : decode cX1_loosen 3 = .ok (.invokevirtual 80, 3) := by decide +kernel
theorem dX1_loosen_6 : decode cX1_loosen 6 = .ok (.istore_n 3, 1) := by decide +kernel
theorem dX1_loosen_7 : decode cX1_loosen 7 = .ok (.aload_n 0, 1) := by decide +kernel
theorem dX1_loosen_8 : decode cX1_loosen 8 = .ok (.iload_n 3, 1) := by decide +kernel
theorem dX1_loosen_9 : decode cX1_loosen 9 = .ok (.invokevirtual 77, 3) := by decide +kernel
theorem dX1_loosen_12 : decode cX1_loosen 12 = .ok (.ifCond .ne 5, 3) := by decide +kernel
theorem dX1_loosen_15 : decode cX1_loosen 15 = .ok (.iconst 0, 1) := by decide +kernel
theorem dX1_loosen_16 : decode cX1_loosen 16 = .ok (.ireturn, 1) := by decide +kernel
theorem dX1_loosen_17 : decode cX1_loosen 17 = .ok (.aload_n 0, 1) := by decide +kernel
theorem dX1_loosen_18 : decode cX1_loosen 18 = .ok (.getfield 30, 3) := by decide +kernel
theorem dX1_loosen_21 : decode cX1_loosen 21 = .ok (.iload_n 1, 1) := by decide +kernel
theorem dX1_loosen_22 : decode cX1_loosen 22 = .ok (.bipush 40, 2) := by decide +kernel
theorem dX1_loosen_24 : decode cX1_loosen 24 = .ok (.imul, 1) := by decide +kernel
theorem dX1_loosen_25 : decode cX1_loosen 25 = .ok (.iload_n 2, 1) := by decide +kernel
theorem dX1_loosen_26 : decode cX1_loosen 26 = .ok (.iadd, 1) := by decide +kernel
theorem dX1_loosen_27 : decode cX1_loosen 27 = .ok (.iconst (-1), 1) := by decide +kernel
theorem dX1_loosen_28 : decode cX1_loosen 28 = .ok (.iastore, 1) := by decide +kernel
theorem dX1_loosen_29 : decode cX1_loosen 29 = .ok (.aload_n 0, 1) := by decide +kernel
theorem dX1_loosen_30 : decode cX1_loosen 30 = .ok (.getfield 36, 3) := by decide +kernel
theorem dX1_loosen_33 : decode cX1_loosen 33 = .ok (.iload_n 3, 1) := by decide +kernel
theorem dX1_loosen_34 : decode cX1_loosen 34 = .ok (.dup2, 1) := by decide +kernel
theorem dX1_loosen_35 : decode cX1_loosen 35 = .ok (.iaload, 1) := by decide +kernel
theorem dX1_loosen_36 : decode cX1_loosen 36 = .ok (.iconst 1, 1) := by decide +kernel
theorem dX1_loosen_37 : decode cX1_loosen 37 = .ok (.isub, 1) := by decide +kernel
theorem dX1_loosen_38 : decode cX1_loosen 38 = .ok (.iastore, 1) := by decide +kernel
theorem dX1_loosen_39 : decode cX1_loosen 39 = .ok (.aload_n 0, 1) := by decide +kernel
theorem dX1_loosen_40 : decode cX1_loosen 40 = .ok (.getfield 36, 3) := by decide +kernel
theorem dX1_loosen_43 : decode cX1_loosen 43 = .ok (.iload_n 3, 1) := by decide +kernel
theorem dX1_loosen_44 : decode cX1_loosen 44 = .ok (.iaload, 1) := by decide +kernel
theorem dX1_loosen_45 : decode cX1_loosen 45 = .ok (.ifCond .le 5, 3) := by decide +kernel
theorem dX1_loosen_48 : decode cX1_loosen 48 = .ok (.iconst 0, 1) := by decide +kernel
theorem dX1_loosen_49 : decode cX1_loosen 49 = .ok (.ireturn, 1) := by decide +kernel
theorem dX1_loosen_50 : decode cX1_loosen 50 = .ok (.aload_n 0, 1) := by decide +kernel
theorem dX1_loosen_51 : decode cX1_loosen 51 = .ok (.dup, 1) := by decide +kernel
theorem dX1_loosen_52 : decode cX1_loosen 52 = .ok (.getfield 66, 3) := by decide +kernel
theorem dX1_loosen_55 : decode cX1_loosen 55 = .ok (.iconst 1, 1) := by decide +kernel
theorem dX1_loosen_56 : decode cX1_loosen 56 = .ok (.iadd, 1) := by decide +kernel
theorem dX1_loosen_57 : decode cX1_loosen 57 = .ok (.putfield 66, 3) := by decide +kernel
theorem dX1_loosen_60 : decode cX1_loosen 60 = .ok (.iconst 1, 1) := by decide +kernel
theorem dX1_loosen_61 : decode cX1_loosen 61 = .ok (.ireturn, 1) := by decide +kernel
set_option maxRecDepth 20000 in
theorem ggX1_mergePieces_X1_moveOwners : GoodIn wsX1_mergePieces wsX1_moveOwners := goodIn_r _ [8, 9, 1, 10, 11, 12, 13, 14, 15, 16, 17, 18, 19, 20, 21, 22, 23] (by decide +kernel) (by decide +kernel)
set_option maxRecDepth 20000 in
theorem gX1_mergePieces_X1_moveOwners : GoodIn wsX1_mergePieces (wsV RX1 161 RX1 yX1_moveOwners wsX1_moveOwners) := goodIn_app (goodIn_of _ (by decide +kernel)) ggX1_mergePieces_X1_moveOwners
theorem dX1_mergePieces_0 : decode cX1_mergePieces 0 = .ok (.iconst 0, 1) := by decide +kernel
theorem dX1_mergePieces_1 : decode cX1_mergePieces 1 = .ok (.istore_n 1, 1) := by decide +kernel
theorem dX1_mergePieces_2 : decode cX1_mergePieces 2 = .ok (.iconst 0, 1) := by decide +kernel
theorem dX1_mergePieces_3 : decode cX1_mergePieces 3 = .ok (.istore_n 2, 1) := by decide +kernel
theorem dX1_mergePieces_4 : decode cX1_mergePieces 4 = .ok (.iload_n 2, 1) := by decide +kernel
theorem dX1_mergePieces_5 : decode cX1_mergePieces 5 = .ok (.bipush 30, 2) := by decide +kernel
theorem dX1_mergePieces_7 : decode cX1_mergePieces 7 = .ok (.if_icmp .ge 67, 3) := by decide +kernel
theorem dX1_mergePieces_10 : decode cX1_mergePieces 10 = .ok (.iload_n 2, 1) := by decide +kernel
theorem dX1_mergePieces_11 : decode cX1_mergePieces 11 = .ok (.iconst 1, 1) := by decide +kernel
theorem dX1_mergePieces_12 : decode cX1_mergePieces 12 = .ok (.iadd, 1) := by decide +kernel
theorem dX1_mergePieces_13 : decode cX1_mergePieces 13 = .ok (.istore_n 3, 1) := by decide +kernel
theorem dX1_mergePieces_14 : decode cX1_mergePieces 14 = .ok (.iload_n 3, 1) := by decide +kernel
theorem dX1_mergePieces_15 : decode cX1_mergePieces 15 = .ok (.bipush 30, 2) := by decide +kernel
theorem dX1_mergePieces_17 : decode cX1_mergePieces 17 = .ok (.if_icmp .ge 51, 3) := by decide +kernel
theorem dX1_mergePieces_20 : decode cX1_mergePieces 20 = .ok (.aload_n 0, 1) := by decide +kernel
theorem dX1_mergePieces_21 : decode cX1_mergePieces 21 = .ok (.getfield 36, 3) := by decide +kernel
theorem dX1_mergePieces_24 : decode cX1_mergePieces 24 = .ok (.iload_n 2, 1) := by decide +kernel
theorem dX1_mergePieces_25 : decode cX1_mergePieces 25 = .ok (.iaload, 1) := by decide +kernel
theorem dX1_mergePieces_26 : decode cX1_mergePieces 26 = .ok (.ifCond .le 36, 3) := by decide +kernel
theorem dX1_mergePieces_29 : decode cX1_mergePieces 29 = .ok (.aload_n 0, 1) := by decide +kernel
theorem dX1_mergePieces_30 : decode cX1_mergePieces 30 = .ok (.getfield 36, 3) := by decide +kernel
theorem dX1_mergePieces_33 : decode cX1_mergePieces 33 = .ok (.iload_n 3, 1) := by decide +kernel
theorem dX1_mergePieces_34 : decode cX1_mergePieces 34 = .ok (.iaload, 1) := by decide +kernel
theorem dX1_mergePieces_35 : decode cX1_mergePieces 35 = .ok (.ifCond .le 27, 3) := by decide +kernel
theorem dX1_mergePieces_38 : decode cX1_mergePieces 38 = .ok (.aload_n 0, 1) := by decide +kernel
theorem dX1_mergePieces_39 : decode cX1_mergePieces 39 = .ok (.getfield 33, 3) := by decide +kernel
theorem dX1_mergePieces_42 : decode cX1_mergePieces 42 = .ok (.iload_n 2, 1) := by decide +kernel
theorem dX1_mergePieces_43 : decode cX1_mergePieces 43 = .ok (.iaload, 1) := by decide +kernel
theorem dX1_mergePieces_44 : decode cX1_mergePieces 44 = .ok (.aload_n 0, 1) := by decide +kernel
theorem dX1_mergePieces_45 : decode cX1_mergePieces 45 = .ok (.getfield 33, 3) := by decide +kernel
theorem dX1_mergePieces_48 : decode cX1_mergePieces 48 = .ok (.iload_n 3, 1) := by decide +kernel
theorem dX1_mergePieces_49 : decode cX1_mergePieces 49 = .ok (.iaload, 1) := by decide +kernel
theorem dX1_mergePieces_50 : decode cX1_mergePieces 50 = .ok (.if_icmp .ne 12, 3) := by decide +kernel
theorem dX1_mergePieces_53 : decode cX1_mergePieces 53 = .ok (.aload_n 0, 1) := by decide +kernel
theorem dX1_mergePieces_54 : decode cX1_mergePieces 54 = .ok (.iload_n 3, 1) := by decide +kernel
theorem dX1_mergePieces_55 : decode cX1_mergePieces 55 = .ok (.iload_n 2, 1) := by decide +kernel
theorem dX1_mergePieces_56 : decode cX1_mergePieces 56 = .ok (.invokevirtual 161, 3) := by decide +kernel
theorem dX1_mergePieces_59 : decode cX1_mergePieces 59 = .ok (.iinc 1 1, 3) := by decide +kernel
theorem dX1_mergePieces_62 : decode cX1_mergePieces 62 = .ok (.iinc 3 1, 3) := by decide +kernel
theorem dX1_mergePieces_65 : decode cX1_mergePieces 65 = .ok (.goto (-51), 3) := by decide +kernel
theorem dX1_mergePieces_68 : decode cX1_mergePieces 68 = .ok (.iinc 2 1, 3) := by decide +kernel
theorem dX1_mergePieces_71 : decode cX1_mergePieces 71 = .ok (.goto (-67), 3) := by decide +kernel
theorem dX1_mergePieces_74 : decode cX1_mergePieces 74 = .ok (.aload_n 0, 1) := by decide +kernel
theorem dX1_mergePieces_75 : decode cX1_mergePieces 75 = .ok (.dup, 1) := by decide +kernel
theorem dX1_mergePieces_76 : decode cX1_mergePieces 76 = .ok (.getfield 66, 3) := by decide +kernel
theorem dX1_mergePieces_79 : decode cX1_mergePieces 79 = .ok (.iload_n 1, 1) := by decide +kernel
theorem dX1_mergePieces_80 : decode cX1_mergePieces 80 = .ok (.iadd, 1) := by decide +kernel
theorem dX1_mergePieces_81 : decode cX1_mergePieces 81 = .ok (.putfield 66, 3) := by decide +kernel
theorem dX1_mergePieces_84 : decode cX1_mergePieces 84 = .ok (.iload_n 1, 1) := by decide +kernel
theorem dX1_mergePieces_85 : decode cX1_mergePieces 85 = .ok (.ireturn, 1) := by decide +kernel
theorem dX1_moveOwners_0 : decode cX1_moveOwners 0 = .ok (.iconst 0, 1) := by decide +kernel
theorem dX1_moveOwners_1 : decode cX1_moveOwners 1 = .ok (.istore_n 3, 1) := by decide +kernel
theorem dX1_moveOwners_2 : decode cX1_moveOwners 2 = .ok (.iload_n 3, 1) := by decide +kernel
theorem dX1_moveOwners_3 : decode cX1_moveOwners 3 = .ok (.sipush 320, 3) := by decide +kernel
theorem dX1_moveOwners_6 : decode cX1_moveOwners 6 = .ok (.if_icmp .ge 26, 3) := by decide +kernel
theorem dX1_moveOwners_9 : decode cX1_moveOwners 9 = .ok (.aload_n 0, 1) := by decide +kernel
theorem dX1_moveOwners_10 : decode cX1_moveOwners 10 = .ok (.getfield 30, 3) := by decide +kernel
theorem dX1_moveOwners_13 : decode cX1_moveOwners 13 = .ok (.iload_n 3, 1) := by decide +kernel
theorem dX1_moveOwners_14 : decode cX1_moveOwners 14 = .ok (.iaload, 1) := by decide +kernel
theorem dX1_moveOwners_15 : decode cX1_moveOwners 15 = .ok (.iload_n 1, 1) := by decide +kernel
theorem dX1_moveOwners_16 : decode cX1_moveOwners 16 = .ok (.if_icmp .ne 10, 3) := by decide +kernel
theorem dX1_moveOwners_19 : decode cX1_moveOwners 19 = .ok (.aload_n 0, 1) := by decide +kernel
theorem dX1_moveOwners_20 : decode cX1_moveOwners 20 = .ok (.getfield 30, 3) := by decide +kernel
theorem dX1_moveOwners_23 : decode cX1_moveOwners 23 = .ok (.iload_n 3, 1) := by decide +kernel
theorem dX1_moveOwners_24 : decode cX1_moveOwners 24 = .ok (.iload_n 2, 1) := by decide +kernel
theorem dX1_moveOwners_25 : decode cX1_moveOwners 25 = .ok (.iastore, 1) := by decide +kernel
theorem dX1_moveOwners_26 : decode cX1_moveOwners 26 = .ok (.iinc 3 1, 3) := by decide +kernel
theorem dX1_moveOwners_29 : decode cX1_moveOwners 29 = .ok (.goto (-27), 3) := by decide +kernel
theorem dX1_moveOwners_32 : decode cX1_moveOwners 32 = .ok (.aload_n 0, 1) := by decide +kernel
theorem dX1_moveOwners_33 : decode cX1_moveOwners 33 = .ok (.getfield 36, 3) := by decide +kernel
theorem dX1_moveOwners_36 : decode cX1_moveOwners 36 = .ok (.iload_n 2, 1) := by decide +kernel
theorem dX1_moveOwners_37 : decode cX1_moveOwners 37 = .ok (.dup2, 1) := by decide +kernel
theorem dX1_moveOwners_38 : decode cX1_moveOwners 38 = .ok (.iaload, 1) := by decide +kernel
theorem dX1_moveOwners_39 : decode cX1_moveOwners 39 = .ok (.aload_n 0, 1) := by decide +kernel
theorem dX1_moveOwners_40 : decode cX1_moveOwners 40 = .ok (.getfield 36, 3) := by decide +kernel
theorem dX1_moveOwners_43 : decode cX1_moveOwners 43 = .ok (.iload_n 1, 1) := by decide +kernel
theorem dX1_moveOwners_44 : decode cX1_moveOwners 44 = .ok (.iaload, 1) := by decide +kernel
theorem dX1_moveOwners_45 : decode cX1_moveOwners 45 = .ok (.iadd, 1) := by decide +kernel
theorem dX1_moveOwners_46 : decode cX1_moveOwners 46 = .ok (.iastore, 1) := by decide +kernel
theorem dX1_moveOwners_47 : decode cX1_moveOwners 47 = .ok (.aload_n 0, 1) := by decide +kernel
theorem dX1_moveOwners_48 : decode cX1_moveOwners 48 = .ok (.getfield 36, 3) := by decide +kernel
theorem dX1_moveOwners_51 : decode cX1_moveOwners 51 = .ok (.iload_n 1, 1) := by decide +kernel
theorem dX1_moveOwners_52 : decode cX1_moveOwners 52 = .ok (.iconst 0, 1) := by decide +kernel
theorem dX1_moveOwners_53 : decode cX1_moveOwners 53 = .ok (.iastore, 1) := by decide +kernel
theorem dX1_moveOwners_54 : decode cX1_moveOwners 54 = .ok (.return_, 1) := by decide +kernel
set_option maxRecDepth 20000 in
theorem ggX2_init_X1_init : GoodIn wsX2_init wsX1_init := goodIn_r _ [10, 11, 2, 3, 12, 13, 14, 15, 16, 17, 18, 19, 20, 21, 22, 23, 24, 25, 26, 27, 28, 29, 30, 31, 32, 33, 34, 35, 36, 37, 38, 39, 40, 41, 42, 43, 44, 45, 46, 50, 51, 52, 53] (by decide +kernel) (by decide +kernel)
set_option maxRecDepth 20000 in
theorem gX2_init_X1_init : GoodIn wsX2_init (wsX1_init) := ggX2_init_X1_init
theorem dX2_init_0 : decode cX2_init 0 = .ok (.aload_n 0, 1) := by decide +kernel
theorem dX2_init_1 : decode cX2_init 1 = .ok (.invokespecial 3, 3) := by decide +kernel
theorem dX2_init_4 : decode cX2_init 4 = .ok (.aload_n 0, 1) := by decide +kernel
theorem dX2_init_5 : decode cX2_init 5 = .ok (.new 9, 3) := by decide +kernel
theorem dX2_init_8 : decode cX2_init 8 = .ok (.dup, 1) := by decide +kernel
theorem dX2_init_9 : decode cX2_init 9 = .ok (.invokespecial 11, 3) := by decide +kernel
theorem dX2_init_12 : decode cX2_init 12 = .ok (.putfield 12, 3) := by decide +kernel
theorem dX2_init_15 : decode cX2_init 15 = .ok (.return_, 1) := by decide +kernel
set_option maxRecDepth 20000 in
theorem ggX2_perform_X1_copyFrom : GoodIn wsX2_perform wsX1_copyFrom := goodIn_r _ [10, 11, 12, 13, 14, 15, 16, 17, 18, 19, 20, 21, 22, 23, 24, 25, 26, 27, 28, 29, 30, 31, 32, 33, 34, 35, 36, 37, 38, 216, 217, 218, 219, 220, 221, 222, 223, 224, 225, 226, 227, 228, 229, 230, 231, 232, 233] (by decide +kernel) (by decide +kernel)
set_option maxRecDepth 20000 in
theorem gX2_perform_X1_copyFrom : GoodIn wsX2_perform (wsV RX2 18 RX1 yX1_copyFrom wsX1_copyFrom) := goodIn_app (goodIn_of _ (by decide +kernel)) ggX2_perform_X1_copyFrom
set_option maxRecDepth 20000 in
theorem ggX2_perform_X3_readOrder : GoodIn wsX2_perform wsX3_readOrder := goodIn_r _ [43, 44, 45, 46, 47, 48, 49, 42, 50, 51, 52, 53, 54, 55, 56, 57, 58, 59, 60, 61, 62, 63, 64, 65, 66, 67, 68, 211, 212, 213, 214, 215] (by decide +kernel) (by decide +kernel)
set_option maxRecDepth 20000 in
theorem gX2_perform_X3_readOrder : GoodIn wsX2_perform (wsV RX2 34 RX3 yX3_readOrder wsX3_readOrder) := goodIn_app (goodIn_of _ (by decide +kernel)) ggX2_perform_X3_readOrder
set_option maxRecDepth 20000 in
theorem ggX2_perform_X2_obey : GoodIn wsX2_perform wsX2_obey := goodIn_r _ [73, 74, 75, 1, 76, 77, 78, 9, 79, 80, 23, 22, 17, 16, 81, 21, 82, 83, 84, 85, 11, 86, 87, 88, 89, 90, 91, 92, 93, 94, 95, 96, 97, 98, 99, 100, 101, 102, 103, 104, 105, 106, 107, 108, 109, 110, 111, 112, 113, 114, 115, 116, 117, 24, 118, 119, 120, 121, 122, 123, 124, 125, 126, 127, 128, 129, 130, 131, 132, 133, 19, 26, 25, 134, 135, 136, 32, 137, 34, 35, 13, 14, 15, 36, 37, 38, 138, 139, 140, 141, 142, 143, 144, 145, 146, 147, 148, 28, 149, 150, 151, 152, 20, 27, 153, 154, 155, 156, 157, 158, 159, 160, 161, 162, 163, 164, 165, 166, 167, 168, 169, 170, 171, 172, 173, 174, 175, 176, 177, 178, 18, 179, 180, 181, 182, 183, 184, 185, 186, 187, 188, 189, 190, 191, 192, 193, 194, 195, 211, 212, 213, 214, 215, 208, 209, 210, 216, 217, 218, 219, 220, 221, 222, 223, 224, 225, 226, 227, 228, 229, 230, 231, 232, 233] (by decide +kernel) (by decide +kernel)
set_option maxRecDepth 20000 in
theorem gX2_perform_X2_obey : GoodIn wsX2_perform (wsV RX2 38 RX2 yX2_obey wsX2_obey) := goodIn_app (goodIn_of _ (by decide +kernel)) ggX2_perform_X2_obey
set_option maxRecDepth 20000 in
theorem ggX2_perform_X2_reasonOf : GoodIn wsX2_perform wsX2_reasonOf := goodIn_r _ [199, 200, 201, 202, 203, 204, 205, 206, 207] (by decide +kernel) (by decide +kernel)
set_option maxRecDepth 20000 in
theorem gX2_perform_X2_reasonOf : GoodIn wsX2_perform (wsV RX2 42 RX2 yX2_reasonOf wsX2_reasonOf) := goodIn_app (goodIn_of _ (by decide +kernel)) ggX2_perform_X2_reasonOf
theorem dX2_perform_0 : decode cX2_perform 0 = .ok (.aload_n 0, 1) := by decide +kernel
theorem dX2_perform_1 : decode cX2_perform 1 = .ok (.getfield 12, 3) := by decide +kernel
theorem dX2_perform_4 : decode cX2_perform 4 = .ok (.aload_n 2, 1) := by decide +kernel
theorem dX2_perform_5 : decode cX2_perform 5 = .ok (.invokevirtual 18, 3) := by decide +kernel
theorem dX2_perform_8 : decode cX2_perform 8 = .ok (.aload_n 0, 1) := by decide +kernel
theorem dX2_perform_9 : decode cX2_perform 9 = .ok (.iconst 0, 1) := by decide +kernel
theorem dX2_perform_10 : decode cX2_perform 10 = .ok (.putfield 22, 3) := by decide +kernel
theorem dX2_perform_13 : decode cX2_perform 13 = .ok (.aload_n 0, 1) := by decide +kernel
theorem dX2_perform_14 : decode cX2_perform 14 = .ok (.iconst 0, 1) := by decide +kernel
theorem dX2_perform_15 : decode cX2_perform 15 = .ok (.putfield 26, 3) := by decide +kernel
theorem dX2_perform_18 : decode cX2_perform 18 = .ok (.iconst 0, 1) := by decide +kernel
theorem dX2_perform_19 : decode cX2_perform 19 = .ok (.istore_n 3, 1) := by decide +kernel
theorem dX2_perform_20 : decode cX2_perform 20 = .ok (.iload_n 3, 1) := by decide +kernel
theorem dX2_perform_21 : decode cX2_perform 21 = .ok (.bipush 60, 2) := by decide +kernel
theorem dX2_perform_23 : decode cX2_perform 23 = .ok (.if_icmp .ge 64, 3) := by decide +kernel
theorem dX2_perform_26 : decode cX2_perform 26 = .ok (.aload_n 0, 1) := by decide +kernel
theorem dX2_perform_27 : decode cX2_perform 27 = .ok (.getfield 22, 3) := by decide +kernel
theorem dX2_perform_30 : decode cX2_perform 30 = .ok (.aload_n 1, 1) := by decide +kernel
theorem dX2_perform_31 : decode cX2_perform 31 = .ok (.getfield 29, 3) := by decide +kernel
theorem dX2_perform_34 : decode cX2_perform 34 = .ok (.if_icmp .ge 53, 3) := by decide +kernel
theorem dX2_perform_37 : decode cX2_perform 37 = .ok (.aload_n 0, 1) := by decide +kernel
theorem dX2_perform_38 : decode cX2_perform 38 = .ok (.aload_n 1, 1) := by decide +kernel
theorem dX2_perform_39 : decode cX2_perform 39 = .ok (.aload_n 0, 1) := by decide +kernel
theorem dX2_perform_40 : decode cX2_perform 40 = .ok (.getfield 22, 3) := by decide +kernel
theorem dX2_perform_43 : decode cX2_perform 43 = .ok (.invokevirtual 34, 3) := by decide +kernel
theorem dX2_perform_46 : decode cX2_perform 46 = .ok (.ifCond .eq 15, 3) := by decide +kernel
theorem dX2_perform_49 : decode cX2_perform 49 = .ok (.aload_n 0, 1) := by decide +kernel
theorem dX2_perform_50 : decode cX2_perform 50 = .ok (.aload_n 0, 1) := by decide +kernel
theorem dX2_perform_51 : decode cX2_perform 51 = .ok (.aload_n 1, 1) := by decide +kernel
theorem dX2_perform_52 : decode cX2_perform 52 = .ok (.invokevirtual 38, 3) := by decide +kernel
theorem dX2_perform_55 : decode cX2_perform 55 = .ok (.invokevirtual 42, 3) := by decide +kernel
theorem dX2_perform_58 : decode cX2_perform 58 = .ok (.goto 4, 3) := by decide +kernel
theorem dX2_perform_61 : decode cX2_perform 61 = .ok (.iconst 1, 1) := by decide +kernel
theorem dX2_perform_62 : decode cX2_perform 62 = .ok (.putfield 26, 3) := by decide +kernel
theorem dX2_perform_65 : decode cX2_perform 65 = .ok (.aload_n 0, 1) := by decide +kernel
theorem dX2_perform_66 : decode cX2_perform 66 = .ok (.getfield 26, 3) := by decide +kernel
theorem dX2_perform_69 : decode cX2_perform 69 = .ok (.ifCond .eq 4, 3) := by decide +kernel
theorem dX2_perform_72 : decode cX2_perform 72 = .ok (.return_, 1) := by decide +kernel
theorem dX2_perform_73 : decode cX2_perform 73 = .ok (.aload_n 0, 1) := by decide +kernel
theorem dX2_perform_74 : decode cX2_perform 74 = .ok (.aload_n 1, 1) := by decide +kernel
theorem dX2_perform_75 : decode cX2_perform 75 = .ok (.getfield 46, 3) := by decide +kernel
theorem dX2_perform_78 : decode cX2_perform 78 = .ok (.putfield 22, 3) := by decide +kernel
theorem dX2_perform_81 : decode cX2_perform 81 = .ok (.iinc 3 1, 3) := by decide +kernel
theorem dX2_perform_84 : decode cX2_perform 84 = .ok (.goto (-64), 3) := by decide +kernel
theorem dX2_perform_87 : decode cX2_perform 87 = .ok (.return_, 1) := by decide +kernel
set_option maxRecDepth 20000 in
theorem ggX2_obey_X1_writePlace : GoodIn wsX2_obey wsX1_writePlace := goodIn_r _ [8, 9, 10, 11, 12, 13, 14, 15, 16, 17, 18, 7, 19, 20, 21, 22, 23, 24, 25, 26, 27, 28, 29, 30, 31, 32, 33, 34, 35, 36, 37, 38, 39, 40, 41, 42, 43, 44, 45, 46, 47, 48, 49, 50, 51, 52, 53, 54, 55, 56, 57, 58, 59, 60, 61, 62, 63, 64, 65, 66, 67, 68, 69, 70, 71, 72, 73, 74, 75, 76, 77, 78, 79, 80, 81, 82, 83, 84, 85, 86, 87, 88, 89, 90, 91, 92, 93, 94, 95, 96, 97, 98, 99, 100, 101, 102, 103, 104, 105, 106, 107, 108, 109, 110, 111, 156, 157, 158, 159, 160, 161, 162, 163, 164, 165, 166, 167, 168, 169, 170, 171, 172, 173] (by decide +kernel) (by decide +kernel)
set_option maxRecDepth 20000 in
theorem gX2_obey_X1_writePlace : GoodIn wsX2_obey (wsV RX2 56 RX1 yX1_writePlace wsX1_writePlace) := goodIn_app (goodIn_of _ (by decide +kernel)) ggX2_obey_X1_writePlace
set_option maxRecDepth 20000 in
theorem ggX2_obey_X1_trimPlace : GoodIn wsX2_obey wsX1_trimPlace := goodIn_r _ [115, 9, 116, 16, 17, 18, 7, 19, 20, 21, 22, 23, 24, 25, 26, 27, 28, 15, 93, 94, 95, 96, 10, 97, 29, 30, 31, 32, 117, 118, 119, 120, 13, 121, 87, 68, 88, 156, 157, 158, 159, 160, 161, 162, 163, 164, 165, 166, 167, 168, 169] (by decide +kernel) (by decide +kernel)
set_option maxRecDepth 20000 in
theorem gX2_obey_X1_trimPlace : GoodIn wsX2_obey (wsV RX2 60 RX1 yX1_trimPlace wsX1_trimPlace) := goodIn_app (goodIn_of _ (by decide +kernel)) ggX2_obey_X1_trimPlace
set_option maxRecDepth 20000 in
theorem ggX2_obey_X1_sweepVolume : GoodIn wsX2_obey wsX1_sweepVolume := goodIn_r _ [125, 9, 11, 21, 22, 23, 7, 24, 20, 25, 26, 27, 28, 15, 16, 17, 18, 19, 29, 30, 31, 32, 93, 94, 95, 96, 10, 97, 117, 118, 119, 120, 13, 121, 87, 68, 88, 156, 157, 158, 159, 160, 161, 162, 163, 164, 165, 166, 167, 168, 169] (by decide +kernel) (by decide +kernel)
set_option maxRecDepth 20000 in
theorem gX2_obey_X1_sweepVolume : GoodIn wsX2_obey (wsV RX2 64 RX1 yX1_sweepVolume wsX1_sweepVolume) := goodIn_app (goodIn_of _ (by decide +kernel)) ggX2_obey_X1_sweepVolume
set_option maxRecDepth 20000 in
theorem ggX2_obey_X1_cloneVolume : GoodIn wsX2_obey wsX1_cloneVolume := goodIn_r _ [129, 9, 20, 130, 15, 10, 21, 22, 23, 7, 24, 131, 132, 133, 134, 13, 12, 70, 102, 135, 25, 26, 27, 28, 16, 17, 18, 19, 29, 30, 31, 32, 156, 157, 158, 159, 160, 161, 162, 163, 164, 165, 166, 167, 168, 169] (by decide +kernel) (by decide +kernel)
set_option maxRecDepth 20000 in
theorem gX2_obey_X1_cloneVolume : GoodIn wsX2_obey (wsV RX2 67 RX1 yX1_cloneVolume wsX1_cloneVolume) := goodIn_app (goodIn_of _ (by decide +kernel)) ggX2_obey_X1_cloneVolume
set_option maxRecDepth 20000 in
theorem ggX2_obey_X1_dropVolume : GoodIn wsX2_obey wsX1_dropVolume := goodIn_r _ [139, 9, 130, 12, 20, 21, 22, 23, 7, 24, 93, 94, 95, 96, 15, 10, 97, 25, 26, 27, 28, 16, 17, 18, 19, 29, 30, 31, 32, 156, 157, 158, 159, 160, 161, 162, 163, 164, 165, 166, 167, 168, 169] (by decide +kernel) (by decide +kernel)
set_option maxRecDepth 20000 in
theorem gX2_obey_X1_dropVolume : GoodIn wsX2_obey (wsV RX2 70 RX1 yX1_dropVolume wsX1_dropVolume) := goodIn_app (goodIn_of _ (by decide +kernel)) ggX2_obey_X1_dropVolume
set_option maxRecDepth 20000 in
theorem ggX2_obey_X1_mergePieces : GoodIn wsX2_obey wsX1_mergePieces := goodIn_r _ [143, 10, 11, 97, 144, 145, 146, 7, 147, 15, 156, 157, 158, 159, 160, 161, 162, 163, 164, 165, 166, 167, 168, 169] (by decide +kernel) (by decide +kernel)
set_option maxRecDepth 20000 in
theorem gX2_obey_X1_mergePieces : GoodIn wsX2_obey (wsV RX2 73 RX1 yX1_mergePieces wsX1_mergePieces) := goodIn_app (goodIn_of _ (by decide +kernel)) ggX2_obey_X1_mergePieces
theorem dX2_obey_0 : decode cX2_obey 0 = .ok (.aload_n 1, 1) := by decide +kernel
theorem dX2_obey_1 : decode cX2_obey 1 = .ok (.getfield 49, 3) := by decide +kernel
theorem dX2_obey_4 : decode cX2_obey 4 = .ok (.iconst 0, 1) := by decide +kernel
theorem dX2_obey_5 : decode cX2_obey 5 = .ok (.iaload, 1) := by decide +kernel
theorem dX2_obey_6 : decode cX2_obey 6 = .ok (.istore_n 2, 1) := by decide +kernel
theorem dX2_obey_7 : decode cX2_obey 7 = .ok (.aload_n 1, 1) := by decide +kernel
theorem dX2_obey_8 : decode cX2_obey 8 = .ok (.getfield 53, 3) := by decide +kernel
theorem dX2_obey_11 : decode cX2_obey 11 = .ok (.lookupswitch 112 #[(99, 94), (100, 103), (115, 85), (116, 70), (119, 49)], 49) := by decide +kernel
theorem dX2_obey_60 : decode cX2_obey 60 = .ok (.aload_n 0, 1) := by decide +kernel
theorem dX2_obey_61 : decode cX2_obey 61 = .ok (.getfield 12, 3) := by decide +kernel
theorem dX2_obey_64 : decode cX2_obey 64 = .ok (.iload_n 2, 1) := by decide +kernel
theorem dX2_obey_65 : decode cX2_obey 65 = .ok (.aload_n 1, 1) := by decide +kernel
theorem dX2_obey_66 : decode cX2_obey 66 = .ok (.getfield 49, 3) := by decide +kernel
theorem dX2_obey_69 : decode cX2_obey 69 = .ok (.iconst 1, 1) := by decide +kernel
theorem dX2_obey_70 : decode cX2_obey 70 = .ok (.iaload, 1) := by decide +kernel
theorem dX2_obey_71 : decode cX2_obey 71 = .ok (.aload_n 1, 1) := by decide +kernel
theorem dX2_obey_72 : decode cX2_obey 72 = .ok (.getfield 49, 3) := by decide +kernel
theorem dX2_obey_75 : decode cX2_obey 75 = .ok (.iconst 2, 1) := by decide +kernel
theorem dX2_obey_76 : decode cX2_obey 76 = .ok (.iaload, 1) := by decide +kernel
theorem dX2_obey_77 : decode cX2_obey 77 = .ok (.invokevirtual 56, 3) := by decide +kernel
theorem dX2_obey_80 : decode cX2_obey 80 = .ok (.ireturn, 1) := by decide +kernel
theorem dX2_obey_81 : decode cX2_obey 81 = .ok (.aload_n 0, 1) := by decide +kernel
theorem dX2_obey_82 : decode cX2_obey 82 = .ok (.getfield 12, 3) := by decide +kernel
theorem dX2_obey_85 : decode cX2_obey 85 = .ok (.iload_n 2, 1) := by decide +kernel
theorem dX2_obey_86 : decode cX2_obey 86 = .ok (.aload_n 1, 1) := by decide +kernel
theorem dX2_obey_87 : decode cX2_obey 87 = .ok (.getfield 49, 3) := by decide +kernel
theorem dX2_obey_90 : decode cX2_obey 90 = .ok (.iconst 1, 1) := by decide +kernel
theorem dX2_obey_91 : decode cX2_obey 91 = .ok (.iaload, 1) := by decide +kernel
theorem dX2_obey_92 : decode cX2_obey 92 = .ok (.invokevirtual 60, 3) := by decide +kernel
theorem dX2_obey_95 : decode cX2_obey 95 = .ok (.ireturn, 1) := by decide +kernel
theorem dX2_obey_96 : decode cX2_obey 96 = .ok (.aload_n 0, 1) := by decide +kernel
theorem dX2_obey_97 : decode cX2_obey 97 = .ok (.getfield 12, 3) := by decide +kernel
theorem dX2_obey_100 : decode cX2_obey 100 = .ok (.iload_n 2, 1) := by decide +kernel
theorem dX2_obey_101 : decode cX2_obey 101 = .ok (.invokevirtual 64, 3) := by decide +kernel
theorem dX2_obey_104 : decode cX2_obey 104 = .ok (.ireturn, 1) := by decide +kernel
theorem dX2_obey_105 : decode cX2_obey 105 = .ok (.aload_n 0, 1) := by decide +kernel
theorem dX2_obey_106 : decode cX2_obey 106 = .ok (.getfield 12, 3) := by decide +kernel
theorem dX2_obey_109 : decode cX2_obey 109 = .ok (.iload_n 2, 1) := by decide +kernel
theorem dX2_obey_110 : decode cX2_obey 110 = .ok (.invokevirtual 67, 3) := by decide +kernel
theorem dX2_obey_113 : decode cX2_obey 113 = .ok (.ireturn, 1) := by decide +kernel
theorem dX2_obey_114 : decode cX2_obey 114 = .ok (.aload_n 0, 1) := by decide +kernel
theorem dX2_obey_115 : decode cX2_obey 115 = .ok (.getfield 12, 3) := by decide +kernel
theorem dX2_obey_118 : decode cX2_obey 118 = .ok (.iload_n 2, 1) := by decide +kernel
theorem dX2_obey_119 : decode cX2_obey 119 = .ok (.invokevirtual 70, 3) := by decide +kernel
theorem dX2_obey_122 : decode cX2_obey 122 = .ok (.ireturn, 1) := by decide +kernel
theorem dX2_obey_123 : decode cX2_obey 123 = .ok (.aload_n 0, 1) := by decide +kernel
theorem dX2_obey_124 : decode cX2_obey 124 = .ok (.getfield 12, 3) := by decide +kernel
theorem dX2_obey_127 : decode cX2_obey 127 = .ok (.invokevirtual 73, 3) := by decide +kernel
theorem dX2_obey_130 : decode cX2_obey 130 = .ok (.ireturn, 1) := by decide +kernel
set_option maxRecDepth 20000 in
theorem ggX2_reasonOf_X5_isError : GoodIn wsX2_reasonOf wsX5_isError := goodIn_r _ [4, 5, 6, 7, 8] (by decide +kernel) (by decide +kernel)
set_option maxRecDepth 20000 in
theorem gX2_reasonOf_X5_isError_n78 : GoodIn wsX2_reasonOf (wsX5_isError) := ggX2_reasonOf_X5_isError
theorem dX2_reasonOf_0 : decode cX2_reasonOf 0 = .ok (.iload_n 1, 1) := by decide +kernel
theorem dX2_reasonOf_1 : decode cX2_reasonOf 1 = .ok (.ldc 77, 2) := by decide +kernel
theorem dX2_reasonOf_3 : decode cX2_reasonOf 3 = .ok (.if_icmp .ne 5, 3) := by decide +kernel
theorem dX2_reasonOf_6 : decode cX2_reasonOf 6 = .ok (.iconst 2, 1) := by decide +kernel
theorem dX2_reasonOf_7 : decode cX2_reasonOf 7 = .ok (.ireturn, 1) := by decide +kernel
theorem dX2_reasonOf_8 : decode cX2_reasonOf 8 = .ok (.iload_n 1, 1) := by decide +kernel
theorem dX2_reasonOf_9 : decode cX2_reasonOf 9 = .ok (.invokestatic 78, 3) := by decide +kernel
theorem dX2_reasonOf_12 : decode cX2_reasonOf 12 = .ok (.ifCond .eq 7, 3) := by decide +kernel
theorem dX2_reasonOf_15 : decode cX2_reasonOf 15 = .ok (.iconst 3, 1) := by decide +kernel
theorem dX2_reasonOf_16 : decode cX2_reasonOf 16 = .ok (.goto 4, 3) := by decide +kernel
theorem dX2_reasonOf_19 : decode cX2_reasonOf 19 = .ok (.iconst 0, 1) := by decide +kernel
theorem dX2_reasonOf_20 : decode cX2_reasonOf 20 = .ok (.ireturn, 1) := by decide +kernel
theorem dX3_init_0 : decode cX3_init 0 = .ok (.aload_n 0, 1) := by decide +kernel
theorem dX3_init_1 : decode cX3_init 1 = .ok (.invokespecial 3, 3) := by decide +kernel
theorem dX3_init_4 : decode cX3_init 4 = .ok (.aload_n 0, 1) := by decide +kernel
theorem dX3_init_5 : decode cX3_init 5 = .ok (.bipush 60, 2) := by decide +kernel
theorem dX3_init_7 : decode cX3_init 7 = .ok (.newarray .int, 2) := by decide +kernel
theorem dX3_init_9 : decode cX3_init 9 = .ok (.putfield 9, 3) := by decide +kernel
theorem dX3_init_12 : decode cX3_init 12 = .ok (.aload_n 0, 1) := by decide +kernel
theorem dX3_init_13 : decode cX3_init 13 = .ok (.iconst 3, 1) := by decide +kernel
theorem dX3_init_14 : decode cX3_init 14 = .ok (.newarray .int, 2) := by decide +kernel
theorem dX3_init_16 : decode cX3_init 16 = .ok (.putfield 15, 3) := by decide +kernel
theorem dX3_init_19 : decode cX3_init 19 = .ok (.return_, 1) := by decide +kernel
theorem dX3_append_0 : decode cX3_append 0 = .ok (.aload_n 0, 1) := by decide +kernel
theorem dX3_append_1 : decode cX3_append 1 = .ok (.getfield 18, 3) := by decide +kernel
theorem dX3_append_4 : decode cX3_append 4 = .ok (.ifCond .lt 12, 3) := by decide +kernel
theorem dX3_append_7 : decode cX3_append 7 = .ok (.aload_n 0, 1) := by decide +kernel
theorem dX3_append_8 : decode cX3_append 8 = .ok (.getfield 18, 3) := by decide +kernel
theorem dX3_append_11 : decode cX3_append 11 = .ok (.bipush 60, 2) := by decide +kernel
theorem dX3_append_13 : decode cX3_append 13 = .ok (.if_icmp .lt 5, 3) := by decide +kernel
theorem dX3_append_16 : decode cX3_append 16 = .ok (.iconst 0, 1) := by decide +kernel
theorem dX3_append_17 : decode cX3_append 17 = .ok (.ireturn, 1) := by decide +kernel
theorem dX3_append_18 : decode cX3_append 18 = .ok (.aload_n 0, 1) := by decide +kernel
theorem dX3_append_19 : decode cX3_append 19 = .ok (.getfield 9, 3) := by decide +kernel
theorem dX3_append_22 : decode cX3_append 22 = .ok (.aload_n 0, 1) := by decide +kernel
theorem dX3_append_23 : decode cX3_append 23 = .ok (.getfield 18, 3) := by decide +kernel
theorem dX3_append_26 : decode cX3_append 26 = .ok (.iload_n 1, 1) := by decide +kernel
theorem dX3_append_27 : decode cX3_append 27 = .ok (.iastore, 1) := by decide +kernel
theorem dX3_append_28 : decode cX3_append 28 = .ok (.aload_n 0, 1) := by decide +kernel
theorem dX3_append_29 : decode cX3_append 29 = .ok (.dup, 1) := by decide +kernel
theorem dX3_append_30 : decode cX3_append 30 = .ok (.getfield 18, 3) := by decide +kernel
theorem dX3_append_33 : decode cX3_append 33 = .ok (.iconst 1, 1) := by decide +kernel
theorem dX3_append_34 : decode cX3_append 34 = .ok (.iadd, 1) := by decide +kernel
theorem dX3_append_35 : decode cX3_append 35 = .ok (.putfield 18, 3) := by decide +kernel
theorem dX3_append_38 : decode cX3_append 38 = .ok (.iconst 1, 1) := by decide +kernel
theorem dX3_append_39 : decode cX3_append 39 = .ok (.ireturn, 1) := by decide +kernel
set_option maxRecDepth 20000 in
theorem ggX3_readOrder_X3_signHere : GoodIn wsX3_readOrder wsX3_signHere := goodIn_r _ [8, 1, 9, 10, 27, 28, 29, 30, 31] (by decide +kernel) (by decide +kernel)
set_option maxRecDepth 20000 in
theorem gX3_readOrder_X3_signHere : GoodIn wsX3_readOrder (wsV RX3 25 RX3 yX3_signHere wsX3_signHere) := goodIn_app (goodIn_of _ (by decide +kernel)) ggX3_readOrder_X3_signHere
set_option maxRecDepth 20000 in
theorem ggX3_readOrder_X3_numbersDue : GoodIn wsX3_readOrder wsX3_numbersDue := goodIn_r _ [14] (by decide +kernel) (by decide +kernel)
set_option maxRecDepth 20000 in
theorem gX3_readOrder_X3_numbersDue : GoodIn wsX3_readOrder (wsV RX3 32 RX3 yX3_numbersDue wsX3_numbersDue) := goodIn_app (goodIn_of _ (by decide +kernel)) ggX3_readOrder_X3_numbersDue
set_option maxRecDepth 20000 in
theorem ggX3_readOrder_X3_passes : GoodIn wsX3_readOrder wsX3_passes := goodIn_r _ [18, 1, 4, 5, 6, 7, 8, 9, 10, 27, 28, 29, 30, 31] (by decide +kernel) (by decide +kernel)
set_option maxRecDepth 20000 in
theorem gX3_readOrder_X3_passes : GoodIn wsX3_readOrder (wsV RX3 36 RX3 yX3_passes wsX3_passes) := goodIn_app (goodIn_of _ (by decide +kernel)) ggX3_readOrder_X3_passes
set_option maxRecDepth 20000 in
theorem ggX3_readOrder_X3_readNumber : GoodIn wsX3_readOrder wsX3_readNumber := goodIn_r _ [22, 23, 24, 25, 7, 26, 1, 4, 5, 6, 8, 9, 10, 27, 28, 29, 30, 31] (by decide +kernel) (by decide +kernel)
set_option maxRecDepth 20000 in
theorem gX3_readOrder_X3_readNumber : GoodIn wsX3_readOrder (wsV RX3 40 RX3 yX3_readNumber wsX3_readNumber) := goodIn_app (goodIn_of _ (by decide +kernel)) ggX3_readOrder_X3_readNumber
theorem dX3_readOrder_0 : decode cX3_readOrder 0 = .ok (.aload_n 0, 1) := by decide +kernel
theorem dX3_readOrder_1 : decode cX3_readOrder 1 = .ok (.iload_n 1, 1) := by decide +kernel
theorem dX3_readOrder_2 : decode cX3_readOrder 2 = .ok (.putfield 22, 3) := by decide +kernel
theorem dX3_readOrder_5 : decode cX3_readOrder 5 = .ok (.aload_n 0, 1) := by decide +kernel
theorem dX3_readOrder_6 : decode cX3_readOrder 6 = .ok (.aload_n 0, 1) := by decide +kernel
theorem dX3_readOrder_7 : decode cX3_readOrder 7 = .ok (.invokevirtual 25, 3) := by decide +kernel
theorem dX3_readOrder_10 : decode cX3_readOrder 10 = .ok (.putfield 29, 3) := by decide +kernel
theorem dX3_readOrder_13 : decode cX3_readOrder 13 = .ok (.aload_n 0, 1) := by decide +kernel
theorem dX3_readOrder_14 : decode cX3_readOrder 14 = .ok (.dup, 1) := by decide +kernel
theorem dX3_readOrder_15 : decode cX3_readOrder 15 = .ok (.getfield 22, 3) := by decide +kernel
theorem dX3_readOrder_18 : decode cX3_readOrder 18 = .ok (.iconst 1, 1) := by decide +kernel
theorem dX3_readOrder_19 : decode cX3_readOrder 19 = .ok (.iadd, 1) := by decide +kernel
theorem dX3_readOrder_20 : decode cX3_readOrder 20 = .ok (.putfield 22, 3) := by decide +kernel
theorem dX3_readOrder_23 : decode cX3_readOrder 23 = .ok (.aload_n 0, 1) := by decide +kernel
theorem dX3_readOrder_24 : decode cX3_readOrder 24 = .ok (.aload_n 0, 1) := by decide +kernel
theorem dX3_readOrder_25 : decode cX3_readOrder 25 = .ok (.getfield 29, 3) := by decide +kernel
theorem dX3_readOrder_28 : decode cX3_readOrder 28 = .ok (.invokevirtual 32, 3) := by decide +kernel
theorem dX3_readOrder_31 : decode cX3_readOrder 31 = .ok (.istore_n 2, 1) := by decide +kernel
theorem dX3_readOrder_32 : decode cX3_readOrder 32 = .ok (.iload_n 2, 1) := by decide +kernel
theorem dX3_readOrder_33 : decode cX3_readOrder 33 = .ok (.iconst (-1), 1) := by decide +kernel
theorem dX3_readOrder_34 : decode cX3_readOrder 34 = .ok (.if_icmp .ne 5, 3) := by decide +kernel
theorem dX3_readOrder_37 : decode cX3_readOrder 37 = .ok (.iconst 0, 1) := by decide +kernel
theorem dX3_readOrder_38 : decode cX3_readOrder 38 = .ok (.ireturn, 1) := by decide +kernel
theorem dX3_readOrder_39 : decode cX3_readOrder 39 = .ok (.iconst 0, 1) := by decide +kernel
theorem dX3_readOrder_40 : decode cX3_readOrder 40 = .ok (.istore_n 3, 1) := by decide +kernel
theorem dX3_readOrder_41 : decode cX3_readOrder 41 = .ok (.iload_n 3, 1) := by decide +kernel
theorem dX3_readOrder_42 : decode cX3_readOrder 42 = .ok (.iload_n 2, 1) := by decide +kernel
theorem dX3_readOrder_43 : decode cX3_readOrder 43 = .ok (.if_icmp .ge 51, 3) := by decide +kernel
theorem dX3_readOrder_46 : decode cX3_readOrder 46 = .ok (.iload_n 3, 1) := by decide +kernel
theorem dX3_readOrder_47 : decode cX3_readOrder 47 = .ok (.iconst 3, 1) := by decide +kernel
theorem dX3_readOrder_48 : decode cX3_readOrder 48 = .ok (.if_icmp .ge 46, 3) := by decide +kernel
theorem dX3_readOrder_51 : decode cX3_readOrder 51 = .ok (.iload_n 3, 1) := by decide +kernel
theorem dX3_readOrder_52 : decode cX3_readOrder 52 = .ok (.ifCond .le 14, 3) := by decide +kernel
theorem dX3_readOrder_55 : decode cX3_readOrder 55 = .ok (.aload_n 0, 1) := by decide +kernel
theorem dX3_readOrder_56 : decode cX3_readOrder 56 = .ok (.bipush 44, 2) := by decide +kernel
theorem dX3_readOrder_58 : decode cX3_readOrder 58 = .ok (.invokevirtual 36, 3) := by decide +kernel
theorem dX3_readOrder_61 : decode cX3_readOrder 61 = .ok (.ifCond .ne 5, 3) := by decide +kernel
theorem dX3_readOrder_64 : decode cX3_readOrder 64 = .ok (.iconst 0, 1) := by decide +kernel
theorem dX3_readOrder_65 : decode cX3_readOrder 65 = .ok (.ireturn, 1) := by decide +kernel
theorem dX3_readOrder_66 : decode cX3_readOrder 66 = .ok (.aload_n 0, 1) := by decide +kernel
theorem dX3_readOrder_67 : decode cX3_readOrder 67 = .ok (.getfield 15, 3) := by decide +kernel
theorem dX3_readOrder_70 : decode cX3_readOrder 70 = .ok (.iload_n 3, 1) := by decide +kernel
theorem dX3_readOrder_71 : decode cX3_readOrder 71 = .ok (.aload_n 0, 1) := by decide +kernel
theorem dX3_readOrder_72 : decode cX3_readOrder 72 = .ok (.invokevirtual 40, 3) := by decide +kernel
theorem dX3_readOrder_75 : decode cX3_readOrder 75 = .ok (.iastore, 1) := by decide +kernel
theorem dX3_readOrder_76 : decode cX3_readOrder 76 = .ok (.aload_n 0, 1) := by decide +kernel
theorem dX3_readOrder_77 : decode cX3_readOrder 77 = .ok (.getfield 15, 3) := by decide +kernel
theorem dX3_readOrder_80 : decode cX3_readOrder 80 = .ok (.iload_n 3, 1) := by decide +kernel
theorem dX3_readOrder_81 : decode cX3_readOrder 81 = .ok (.iaload, 1) := by decide +kernel
theorem dX3_readOrder_82 : decode cX3_readOrder 82 = .ok (.iconst (-1), 1) := by decide +kernel
theorem dX3_readOrder_83 : decode cX3_readOrder 83 = .ok (.if_icmp .ne 5, 3) := by decide +kernel
theorem dX3_readOrder_86 : decode cX3_readOrder 86 = .ok (.iconst 0, 1) := by decide +kernel
theorem dX3_readOrder_87 : decode cX3_readOrder 87 = .ok (.ireturn, 1) := by decide +kernel
theorem dX3_readOrder_88 : decode cX3_readOrder 88 = .ok (.iinc 3 1, 3) := by decide +kernel
theorem dX3_readOrder_91 : decode cX3_readOrder 91 = .ok (.goto (-50), 3) := by decide +kernel
theorem dX3_readOrder_94 : decode cX3_readOrder 94 = .ok (.aload_n 0, 1) := by decide +kernel
theorem dX3_readOrder_95 : decode cX3_readOrder 95 = .ok (.bipush 59, 2) := by decide +kernel
theorem dX3_readOrder_97 : decode cX3_readOrder 97 = .ok (.invokevirtual 36, 3) := by decide +kernel
theorem dX3_readOrder_100 : decode cX3_readOrder 100 = .ok (.ireturn, 1) := by decide +kernel
theorem dX3_numbersDue_0 : decode cX3_numbersDue 0 = .ok (.iload_n 1, 1) := by decide +kernel
theorem dX3_numbersDue_1 : decode cX3_numbersDue 1 = .ok (.lookupswitch 67 #[(99, 63), (100, 63), (109, 65), (115, 63), (116, 61), (119, 59)], 59) := by decide +kernel
theorem dX3_numbersDue_60 : decode cX3_numbersDue 60 = .ok (.iconst 3, 1) := by decide +kernel
theorem dX3_numbersDue_61 : decode cX3_numbersDue 61 = .ok (.ireturn, 1) := by decide +kernel
theorem dX3_numbersDue_62 : decode cX3_numbersDue 62 = .ok (.iconst 2, 1) := by decide +kernel
theorem dX3_numbersDue_63 : decode cX3_numbersDue 63 = .ok (.ireturn, 1) := by decide +kernel
theorem dX3_numbersDue_64 : decode cX3_numbersDue 64 = .ok (.iconst 1, 1) := by decide +kernel
theorem dX3_numbersDue_65 : decode cX3_numbersDue 65 = .ok (.ireturn, 1) := by decide +kernel
theorem dX3_numbersDue_66 : decode cX3_numbersDue 66 = .ok (.iconst 0, 1) := by decide +kernel
theorem dX3_numbersDue_67 : decode cX3_numbersDue 67 = .ok (.ireturn, 1) := by decide +kernel
theorem dX3_numbersDue_68 : decode cX3_numbersDue 68 = .ok (.iconst (-1), 1) := by decide +kernel
theorem dX3_numbersDue_69 : decode cX3_numbersDue 69 = .ok (.ireturn, 1) := by decide +kernel
theorem dX3_signHere_0 : decode cX3_signHere 0 = .ok (.aload_n 0, 1) := by decide +kernel
theorem dX3_signHere_1 : decode cX3_signHere 1 = .ok (.getfield 22, 3) := by decide +kernel
theorem dX3_signHere_4 : decode cX3_signHere 4 = .ok (.ifCond .lt 35, 3) := by decide +kernel
theorem dX3_signHere_7 : decode cX3_signHere 7 = .ok (.aload_n 0, 1) := by decide +kernel
theorem dX3_signHere_8 : decode cX3_signHere 8 = .ok (.getfield 22, 3) := by decide +kernel
theorem dX3_signHere_11 : decode cX3_signHere 11 = .ok (.aload_n 0, 1) := by decide +kernel
theorem dX3_signHere_12 : decode cX3_signHere 12 = .ok (.getfield 18, 3) := by decide +kernel
theorem dX3_signHere_15 : decode cX3_signHere 15 = .ok (.if_icmp .ge 24, 3) := by decide +kernel
theorem dX3_signHere_18 : decode cX3_signHere 18 = .ok (.aload_n 0, 1) := by decide +kernel
theorem dX3_signHere_19 : decode cX3_signHere 19 = .ok (.getfield 22, 3) := by decide +kernel
theorem dX3_signHere_22 : decode cX3_signHere 22 = .ok (.bipush 60, 2) := by decide +kernel
theorem dX3_signHere_24 : decode cX3_signHere 24 = .ok (.if_icmp .ge 15, 3) := by decide +kernel
theorem dX3_signHere_27 : decode cX3_signHere 27 = .ok (.aload_n 0, 1) := by decide +kernel
theorem dX3_signHere_28 : decode cX3_signHere 28 = .ok (.getfield 9, 3) := by decide +kernel
theorem dX3_signHere_31 : decode cX3_signHere 31 = .ok (.aload_n 0, 1) := by decide +kernel
theorem dX3_signHere_32 : decode cX3_signHere 32 = .ok (.getfield 22, 3) := by decide +kernel
theorem dX3_signHere_35 : decode cX3_signHere 35 = .ok (.iaload, 1) := by decide +kernel
theorem dX3_signHere_36 : decode cX3_signHere 36 = .ok (.goto 4, 3) := by decide +kernel
theorem dX3_signHere_39 : decode cX3_signHere 39 = .ok (.iconst (-1), 1) := by decide +kernel
theorem dX3_signHere_40 : decode cX3_signHere 40 = .ok (.ireturn, 1) := by decide +kernel
set_option maxRecDepth 20000 in
theorem ggX3_passes_X3_signHere : GoodIn wsX3_passes wsX3_signHere := goodIn_r _ [6, 1, 7, 8, 9, 10, 11, 12, 13] (by decide +kernel) (by decide +kernel)
set_option maxRecDepth 20000 in
theorem gX3_passes_X3_signHere : GoodIn wsX3_passes (wsV RX3 25 RX3 yX3_signHere wsX3_signHere) := goodIn_app (goodIn_of _ (by decide +kernel)) ggX3_passes_X3_signHere
theorem dX3_passes_0 : decode cX3_passes 0 = .ok (.aload_n 0, 1) := by decide +kernel
theorem dX3_passes_1 : decode cX3_passes 1 = .ok (.invokevirtual 25, 3) := by decide +kernel
theorem dX3_passes_4 : decode cX3_passes 4 = .ok (.iload_n 1, 1) := by decide +kernel
theorem dX3_passes_5 : decode cX3_passes 5 = .ok (.if_icmp .eq 5, 3) := by decide +kernel
theorem dX3_passes_8 : decode cX3_passes 8 = .ok (.iconst 0, 1) := by decide +kernel
theorem dX3_passes_9 : decode cX3_passes 9 = .ok (.ireturn, 1) := by decide +kernel
theorem dX3_passes_10 : decode cX3_passes 10 = .ok (.aload_n 0, 1) := by decide +kernel
theorem dX3_passes_11 : decode cX3_passes 11 = .ok (.dup, 1) := by decide +kernel
theorem dX3_passes_12 : decode cX3_passes 12 = .ok (.getfield 22, 3) := by decide +kernel
theorem dX3_passes_15 : decode cX3_passes 15 = .ok (.iconst 1, 1) := by decide +kernel
theorem dX3_passes_16 : decode cX3_passes 16 = .ok (.iadd, 1) := by decide +kernel
theorem dX3_passes_17 : decode cX3_passes 17 = .ok (.putfield 22, 3) := by decide +kernel
theorem dX3_passes_20 : decode cX3_passes 20 = .ok (.iconst 1, 1) := by decide +kernel
theorem dX3_passes_21 : decode cX3_passes 21 = .ok (.ireturn, 1) := by decide +kernel
set_option maxRecDepth 20000 in
theorem ggX3_readNumber_X3_readDigit : GoodIn wsX3_readNumber wsX3_readDigit := goodIn_r _ [5, 6, 7, 8, 9, 4, 10, 11, 12, 13, 14, 15, 16, 17] (by decide +kernel) (by decide +kernel)
set_option maxRecDepth 20000 in
theorem gX3_readNumber_X3_readDigit : GoodIn wsX3_readNumber (wsV RX3 43 RX3 yX3_readDigit wsX3_readDigit) := goodIn_app (goodIn_of _ (by decide +kernel)) ggX3_readNumber_X3_readDigit
theorem dX3_readNumber_0 : decode cX3_readNumber 0 = .ok (.aload_n 0, 1) := by decide +kernel
theorem dX3_readNumber_1 : decode cX3_readNumber 1 = .ok (.invokevirtual 43, 3) := by decide +kernel
theorem dX3_readNumber_4 : decode cX3_readNumber 4 = .ok (.istore_n 1, 1) := by decide +kernel
theorem dX3_readNumber_5 : decode cX3_readNumber 5 = .ok (.iload_n 1, 1) := by decide +kernel
theorem dX3_readNumber_6 : decode cX3_readNumber 6 = .ok (.iconst (-1), 1) := by decide +kernel
theorem dX3_readNumber_7 : decode cX3_readNumber 7 = .ok (.if_icmp .ne 5, 3) := by decide +kernel
theorem dX3_readNumber_10 : decode cX3_readNumber 10 = .ok (.iconst (-1), 1) := by decide +kernel
theorem dX3_readNumber_11 : decode cX3_readNumber 11 = .ok (.ireturn, 1) := by decide +kernel
theorem dX3_readNumber_12 : decode cX3_readNumber 12 = .ok (.aload_n 0, 1) := by decide +kernel
theorem dX3_readNumber_13 : decode cX3_readNumber 13 = .ok (.invokevirtual 43, 3) := by decide +kernel
theorem dX3_readNumber_16 : decode cX3_readNumber 16 = .ok (.istore_n 2, 1) := by decide +kernel
theorem dX3_readNumber_17 : decode cX3_readNumber 17 = .ok (.iload_n 2, 1) := by decide +kernel
theorem dX3_readNumber_18 : decode cX3_readNumber 18 = .ok (.iconst (-1), 1) := by decide +kernel
theorem dX3_readNumber_19 : decode cX3_readNumber 19 = .ok (.if_icmp .ne 7, 3) := by decide +kernel
theorem dX3_readNumber_22 : decode cX3_readNumber 22 = .ok (.iload_n 1, 1) := by decide +kernel
theorem dX3_readNumber_23 : decode cX3_readNumber 23 = .ok (.goto 9, 3) := by decide +kernel
theorem dX3_readNumber_26 : decode cX3_readNumber 26 = .ok (.iload_n 1, 1) := by decide +kernel
theorem dX3_readNumber_27 : decode cX3_readNumber 27 = .ok (.bipush 10, 2) := by decide +kernel
theorem dX3_readNumber_29 : decode cX3_readNumber 29 = .ok (.imul, 1) := by decide +kernel
theorem dX3_readNumber_30 : decode cX3_readNumber 30 = .ok (.iload_n 2, 1) := by decide +kernel
theorem dX3_readNumber_31 : decode cX3_readNumber 31 = .ok (.iadd, 1) := by decide +kernel
theorem dX3_readNumber_32 : decode cX3_readNumber 32 = .ok (.ireturn, 1) := by decide +kernel
set_option maxRecDepth 20000 in
theorem ggX3_readDigit_X3_signHere : GoodIn wsX3_readDigit wsX3_signHere := goodIn_r _ [6, 1, 7, 8, 9, 10, 11, 12, 13] (by decide +kernel) (by decide +kernel)
set_option maxRecDepth 20000 in
theorem gX3_readDigit_X3_signHere : GoodIn wsX3_readDigit (wsV RX3 25 RX3 yX3_signHere wsX3_signHere) := goodIn_app (goodIn_of _ (by decide +kernel)) ggX3_readDigit_X3_signHere
theorem dX3_readDigit_0 : decode cX3_readDigit 0 = .ok (.aload_n 0, 1) := by decide +kernel
theorem dX3_readDigit_1 : decode cX3_readDigit 1 = .ok (.invokevirtual 25, 3) := by decide +kernel
theorem dX3_readDigit_4 : decode cX3_readDigit 4 = .ok (.istore_n 1, 1) := by decide +kernel
theorem dX3_readDigit_5 : decode cX3_readDigit 5 = .ok (.iload_n 1, 1) := by decide +kernel
theorem dX3_readDigit_6 : decode cX3_readDigit 6 = .ok (.bipush 48, 2) := by decide +kernel
theorem dX3_readDigit_8 : decode cX3_readDigit 8 = .ok (.if_icmp .lt 9, 3) := by decide +kernel
theorem dX3_readDigit_11 : decode cX3_readDigit 11 = .ok (.iload_n 1, 1) := by decide +kernel
theorem dX3_readDigit_12 : decode cX3_readDigit 12 = .ok (.bipush 57, 2) := by decide +kernel
theorem dX3_readDigit_14 : decode cX3_readDigit 14 = .ok (.if_icmp .le 5, 3) := by decide +kernel
theorem dX3_readDigit_17 : decode cX3_readDigit 17 = .ok (.iconst (-1), 1) := by decide +kernel
theorem dX3_readDigit_18 : decode cX3_readDigit 18 = .ok (.ireturn, 1) := by decide +kernel
theorem dX3_readDigit_19 : decode cX3_readDigit 19 = .ok (.aload_n 0, 1) := by decide +kernel
theorem dX3_readDigit_20 : decode cX3_readDigit 20 = .ok (.dup, 1) := by decide +kernel
theorem dX3_readDigit_21 : decode cX3_readDigit 21 = .ok (.getfield 22, 3) := by decide +kernel
theorem dX3_readDigit_24 : decode cX3_readDigit 24 = .ok (.iconst 1, 1) := by decide +kernel
theorem dX3_readDigit_25 : decode cX3_readDigit 25 = .ok (.iadd, 1) := by decide +kernel
theorem dX3_readDigit_26 : decode cX3_readDigit 26 = .ok (.putfield 22, 3) := by decide +kernel
theorem dX3_readDigit_29 : decode cX3_readDigit 29 = .ok (.iload_n 1, 1) := by decide +kernel
theorem dX3_readDigit_30 : decode cX3_readDigit 30 = .ok (.bipush 48, 2) := by decide +kernel
theorem dX3_readDigit_32 : decode cX3_readDigit 32 = .ok (.isub, 1) := by decide +kernel
theorem dX3_readDigit_33 : decode cX3_readDigit 33 = .ok (.ireturn, 1) := by decide +kernel
theorem dX4_init_0 : decode cX4_init 0 = .ok (.aload_n 0, 1) := by decide +kernel
theorem dX4_init_1 : decode cX4_init 1 = .ok (.invokespecial 3, 3) := by decide +kernel
theorem dX4_init_4 : decode cX4_init 4 = .ok (.aload_n 0, 1) := by decide +kernel
theorem dX4_init_5 : decode cX4_init 5 = .ok (.bipush 10, 2) := by decide +kernel
theorem dX4_init_7 : decode cX4_init 7 = .ok (.newarray .int, 2) := by decide +kernel
theorem dX4_init_9 : decode cX4_init 9 = .ok (.putfield 9, 3) := by decide +kernel
theorem dX4_init_12 : decode cX4_init 12 = .ok (.aload_n 0, 1) := by decide +kernel
theorem dX4_init_13 : decode cX4_init 13 = .ok (.bipush 10, 2) := by decide +kernel
theorem dX4_init_15 : decode cX4_init 15 = .ok (.newarray .int, 2) := by decide +kernel
theorem dX4_init_17 : decode cX4_init 17 = .ok (.putfield 15, 3) := by decide +kernel
theorem dX4_init_20 : decode cX4_init 20 = .ok (.aload_n 0, 1) := by decide +kernel
theorem dX4_init_21 : decode cX4_init 21 = .ok (.bipush 10, 2) := by decide +kernel
theorem dX4_init_23 : decode cX4_init 23 = .ok (.newarray .int, 2) := by decide +kernel
theorem dX4_init_25 : decode cX4_init 25 = .ok (.putfield 18, 3) := by decide +kernel
theorem dX4_init_28 : decode cX4_init 28 = .ok (.return_, 1) := by decide +kernel
theorem dX4_copyFrom_0 : decode cX4_copyFrom 0 = .ok (.aload_n 1, 1) := by decide +kernel
theorem dX4_copyFrom_1 : decode cX4_copyFrom 1 = .ok (.getfield 9, 3) := by decide +kernel
theorem dX4_copyFrom_4 : decode cX4_copyFrom 4 = .ok (.iconst 0, 1) := by decide +kernel
theorem dX4_copyFrom_5 : decode cX4_copyFrom 5 = .ok (.aload_n 0, 1) := by decide +kernel
theorem dX4_copyFrom_6 : decode cX4_copyFrom 6 = .ok (.getfield 9, 3) := by decide +kernel
theorem dX4_copyFrom_9 : decode cX4_copyFrom 9 = .ok (.iconst 0, 1) := by decide +kernel
theorem dX4_copyFrom_10 : decode cX4_copyFrom 10 = .ok (.bipush 10, 2) := by decide +kernel
theorem dX4_copyFrom_12 : decode cX4_copyFrom 12 = .ok (.invokestatic 21, 3) := by decide +kernel
theorem dX4_copyFrom_15 : decode cX4_copyFrom 15 = .ok (.aload_n 1, 1) := by decide +kernel
theorem dX4_copyFrom_16 : decode cX4_copyFrom 16 = .ok (.getfield 15, 3) := by decide +kernel
theorem dX4_copyFrom_19 : decode cX4_copyFrom 19 = .ok (.iconst 0, 1) := by decide +kernel
theorem dX4_copyFrom_20 : decode cX4_copyFrom 20 = .ok (.aload_n 0, 1) := by decide +kernel
theorem dX4_copyFrom_21 : decode cX4_copyFrom 21 = .ok (.getfield 15, 3) := by decide +kernel
theorem dX4_copyFrom_24 : decode cX4_copyFrom 24 = .ok (.iconst 0, 1) := by decide +kernel
theorem dX4_copyFrom_25 : decode cX4_copyFrom 25 = .ok (.bipush 10, 2) := by decide +kernel
theorem dX4_copyFrom_27 : decode cX4_copyFrom 27 = .ok (.invokestatic 21, 3) := by decide +kernel
theorem dX4_copyFrom_30 : decode cX4_copyFrom 30 = .ok (.aload_n 1, 1) := by decide +kernel
theorem dX4_copyFrom_31 : decode cX4_copyFrom 31 = .ok (.getfield 18, 3) := by decide +kernel
theorem dX4_copyFrom_34 : decode cX4_copyFrom 34 = .ok (.iconst 0, 1) := by decide +kernel
theorem dX4_copyFrom_35 : decode cX4_copyFrom 35 = .ok (.aload_n 0, 1) := by decide +kernel
theorem dX4_copyFrom_36 : decode cX4_copyFrom 36 = .ok (.getfield 18, 3) := by decide +kernel
theorem dX4_copyFrom_39 : decode cX4_copyFrom 39 = .ok (.iconst 0, 1) := by decide +kernel
theorem dX4_copyFrom_40 : decode cX4_copyFrom 40 = .ok (.bipush 10, 2) := by decide +kernel
theorem dX4_copyFrom_42 : decode cX4_copyFrom 42 = .ok (.invokestatic 21, 3) := by decide +kernel
theorem dX4_copyFrom_45 : decode cX4_copyFrom 45 = .ok (.aload_n 0, 1) := by decide +kernel
theorem dX4_copyFrom_46 : decode cX4_copyFrom 46 = .ok (.aload_n 1, 1) := by decide +kernel
theorem dX4_copyFrom_47 : decode cX4_copyFrom 47 = .ok (.getfield 27, 3) := by decide +kernel
theorem dX4_copyFrom_50 : decode cX4_copyFrom 50 = .ok (.putfield 27, 3) := by decide +kernel
theorem dX4_copyFrom_53 : decode cX4_copyFrom 53 = .ok (.return_, 1) := by decide +kernel
theorem dX4_add_0 : decode cX4_add 0 = .ok (.aload_n 0, 1) := by decide +kernel
theorem dX4_add_1 : decode cX4_add 1 = .ok (.getfield 9, 3) := by decide +kernel
theorem dX4_add_4 : decode cX4_add 4 = .ok (.iconst 0, 1) := by decide +kernel
theorem dX4_add_5 : decode cX4_add 5 = .ok (.aload_n 0, 1) := by decide +kernel
theorem dX4_add_6 : decode cX4_add 6 = .ok (.getfield 9, 3) := by decide +kernel
theorem dX4_add_9 : decode cX4_add 9 = .ok (.iconst 1, 1) := by decide +kernel
theorem dX4_add_10 : decode cX4_add 10 = .ok (.bipush 9, 2) := by decide +kernel
theorem dX4_add_12 : decode cX4_add 12 = .ok (.invokestatic 21, 3) := by decide +kernel
theorem dX4_add_15 : decode cX4_add 15 = .ok (.aload_n 0, 1) := by decide +kernel
theorem dX4_add_16 : decode cX4_add 16 = .ok (.getfield 15, 3) := by decide +kernel
theorem dX4_add_19 : decode cX4_add 19 = .ok (.iconst 0, 1) := by decide +kernel
theorem dX4_add_20 : decode cX4_add 20 = .ok (.aload_n 0, 1) := by decide +kernel
theorem dX4_add_21 : decode cX4_add 21 = .ok (.getfield 15, 3) := by decide +kernel
theorem dX4_add_24 : decode cX4_add 24 = .ok (.iconst 1, 1) := by decide +kernel
theorem dX4_add_25 : decode cX4_add 25 = .ok (.bipush 9, 2) := by decide +kernel
theorem dX4_add_27 : decode cX4_add 27 = .ok (.invokestatic 21, 3) := by decide +kernel
theorem dX4_add_30 : decode cX4_add 30 = .ok (.aload_n 0, 1) := by decide +kernel
theorem dX4_add_31 : decode cX4_add 31 = .ok (.getfield 18, 3) := by decide +kernel
theorem dX4_add_34 : decode cX4_add 34 = .ok (.iconst 0, 1) := by decide +kernel
theorem dX4_add_35 : decode cX4_add 35 = .ok (.aload_n 0, 1) := by decide +kernel
theorem dX4_add_36 : decode cX4_add 36 = .ok (.getfield 18, 3) := by decide +kernel
theorem dX4_add_39 : decode cX4_add 39 = .ok (.iconst 1, 1) := by decide +kernel
theorem dX4_add_40 : decode cX4_add 40 = .ok (.bipush 9, 2) := by decide +kernel
theorem dX4_add_42 : decode cX4_add 42 = .ok (.invokestatic 21, 3) := by decide +kernel
theorem dX4_add_45 : decode cX4_add 45 = .ok (.aload_n 0, 1) := by decide +kernel
theorem dX4_add_46 : decode cX4_add 46 = .ok (.getfield 9, 3) := by decide +kernel
theorem dX4_add_49 : decode cX4_add 49 = .ok (.iconst 0, 1) := by decide +kernel
theorem dX4_add_50 : decode cX4_add 50 = .ok (.iload_n 1, 1) := by decide +kernel
theorem dX4_add_51 : decode cX4_add 51 = .ok (.iastore, 1) := by decide +kernel
theorem dX4_add_52 : decode cX4_add 52 = .ok (.aload_n 0, 1) := by decide +kernel
theorem dX4_add_53 : decode cX4_add 53 = .ok (.getfield 15, 3) := by decide +kernel
theorem dX4_add_56 : decode cX4_add 56 = .ok (.iconst 0, 1) := by decide +kernel
theorem dX4_add_57 : decode cX4_add 57 = .ok (.iload_n 2, 1) := by decide +kernel
theorem dX4_add_58 : decode cX4_add 58 = .ok (.iastore, 1) := by decide +kernel
theorem dX4_add_59 : decode cX4_add 59 = .ok (.aload_n 0, 1) := by decide +kernel
theorem dX4_add_60 : decode cX4_add 60 = .ok (.getfield 18, 3) := by decide +kernel
theorem dX4_add_63 : decode cX4_add 63 = .ok (.iconst 0, 1) := by decide +kernel
theorem dX4_add_64 : decode cX4_add 64 = .ok (.iload_n 3, 1) := by decide +kernel
theorem dX4_add_65 : decode cX4_add 65 = .ok (.iastore, 1) := by decide +kernel
theorem dX4_add_66 : decode cX4_add 66 = .ok (.aload_n 0, 1) := by decide +kernel
theorem dX4_add_67 : decode cX4_add 67 = .ok (.aload_n 0, 1) := by decide +kernel
theorem dX4_add_68 : decode cX4_add 68 = .ok (.getfield 27, 3) := by decide +kernel
theorem dX4_add_71 : decode cX4_add 71 = .ok (.iconst 1, 1) := by decide +kernel
theorem dX4_add_72 : decode cX4_add 72 = .ok (.iadd, 1) := by decide +kernel
theorem dX4_add_73 : decode cX4_add 73 = .ok (.bipush 10, 2) := by decide +kernel
theorem dX4_add_75 : decode cX4_add 75 = .ok (.invokestatic 31, 3) := by decide +kernel
theorem dX4_add_78 : decode cX4_add 78 = .ok (.putfield 27, 3) := by decide +kernel
theorem dX4_add_81 : decode cX4_add 81 = .ok (.return_, 1) := by decide +kernel
theorem dX4_tell_0 : decode cX4_tell 0 = .ok (.iload_n 1, 1) := by decide +kernel
theorem dX4_tell_1 : decode cX4_tell 1 = .ok (.ifCond .lt 17, 3) := by decide +kernel
theorem dX4_tell_4 : decode cX4_tell 4 = .ok (.iload_n 1, 1) := by decide +kernel
theorem dX4_tell_5 : decode cX4_tell 5 = .ok (.aload_n 0, 1) := by decide +kernel
theorem dX4_tell_6 : decode cX4_tell 6 = .ok (.getfield 27, 3) := by decide +kernel
theorem dX4_tell_9 : decode cX4_tell 9 = .ok (.if_icmp .ge 9, 3) := by decide +kernel
theorem dX4_tell_12 : decode cX4_tell 12 = .ok (.iload_n 1, 1) := by decide +kernel
theorem dX4_tell_13 : decode cX4_tell 13 = .ok (.bipush 10, 2) := by decide +kernel
theorem dX4_tell_15 : decode cX4_tell 15 = .ok (.if_icmp .lt 6, 3) := by decide +kernel
theorem dX4_tell_18 : decode cX4_tell 18 = .ok (.ldc 37, 2) := by decide +kernel
theorem dX4_tell_20 : decode cX4_tell 20 = .ok (.ireturn, 1) := by decide +kernel
theorem dX4_tell_21 : decode cX4_tell 21 = .ok (.iload_n 2, 1) := by decide +kernel
theorem dX4_tell_22 : decode cX4_tell 22 = .ok (.lookupswitch 40 #[(0, 26), (1, 33)], 26) := by decide +kernel
theorem dX4_tell_48 : decode cX4_tell 48 = .ok (.aload_n 0, 1) := by decide +kernel
theorem dX4_tell_49 : decode cX4_tell 49 = .ok (.getfield 9, 3) := by decide +kernel
theorem dX4_tell_52 : decode cX4_tell 52 = .ok (.iload_n 1, 1) := by decide +kernel
theorem dX4_tell_53 : decode cX4_tell 53 = .ok (.iaload, 1) := by decide +kernel
theorem dX4_tell_54 : decode cX4_tell 54 = .ok (.ireturn, 1) := by decide +kernel
theorem dX4_tell_55 : decode cX4_tell 55 = .ok (.aload_n 0, 1) := by decide +kernel
theorem dX4_tell_56 : decode cX4_tell 56 = .ok (.getfield 15, 3) := by decide +kernel
theorem dX4_tell_59 : decode cX4_tell 59 = .ok (.iload_n 1, 1) := by decide +kernel
theorem dX4_tell_60 : decode cX4_tell 60 = .ok (.iaload, 1) := by decide +kernel
theorem dX4_tell_61 : decode cX4_tell 61 = .ok (.ireturn, 1) := by decide +kernel
theorem dX4_tell_62 : decode cX4_tell 62 = .ok (.aload_n 0, 1) := by decide +kernel
theorem dX4_tell_63 : decode cX4_tell 63 = .ok (.getfield 18, 3) := by decide +kernel
theorem dX4_tell_66 : decode cX4_tell 66 = .ok (.iload_n 1, 1) := by decide +kernel
theorem dX4_tell_67 : decode cX4_tell 67 = .ok (.iaload, 1) := by decide +kernel
theorem dX4_tell_68 : decode cX4_tell 68 = .ok (.ireturn, 1) := by decide +kernel
end
section
/-! A walk with its world, its locals and its stack in one proposition. -/
def Fx (p : Program) (s : State) (m : MethodId) (args : Array Value) (meth : Method) (c : Code) (cc : ByteArray) (n : Nat) (Ts : List Cond) (own : String) (ret : Option FieldType) (D : va_G) (tys : List (ClassId × FieldType)) (A : Nat → Prop) : Prop :=
  p.tables.exec = Jvm.exec ∧ c.code = cc ∧ c.maxLocals = n ∧ s.vm.findClass own = some m.cls ∧ (∀ w ∈ Ts, w.before args s = true) ∧ meth.sig.returnType = ret ∧ meth.locks = false ∧ va_K D vwCl tys s ∧ ∀ q : Nat, s.heap.size ≤ q → A q
def Wk (p : Program) (l : Launch) (e : Env) (R : Room) (s : State) (m : MethodId) (args : Array Value) (below : List Frame) (meth : Method) (c : Code) (n : Nat) (D : va_G) (A : Nat → Prop) (cells slots : Nat) (Q : State → Prop) (w : va_W) (lv : List (Nat × Value)) (pc : Nat) (st : List Value) : Prop :=
  ∀ (H : Heap) (locs : List Loc) (ls : Array Slot), va_P D vwCl w H → va_D A w → va_S A s.heap H locs → lv_has ls n lv → W p l e R s m args below meth c H locs cells slots Q (F0 m pc ls st)
section WK
variable {p : Program} {l : Launch} {e : Env} {R : Room} {s : State} {m : MethodId} {args : Array Value} {below : List Frame} {meth : Method} {c : Code} {n : Nat} {D : va_G} {A : Nat → Prop} {cells slots : Nat} {Q : State → Prop} {w : va_W} {lv : List (Nat × Value)} {pc pc' : Nat} {rest : List Value} {cc : ByteArray} {Ts : List Cond} {own : String} {ret : Option FieldType} {tys : List (ClassId × FieldType)}
theorem Fx.hts (F : Fx p s m args meth c cc n Ts own ret D tys A) : ∀ w ∈ Ts, w.before args s = true := F.2.2.2.2.1
theorem Fx.hown (F : Fx p s m args meth c cc n Ts own ret D tys A) : s.vm.findClass own = some m.cls := F.2.2.2.1
theorem Fx.hK (F : Fx p s m args meth c cc n Ts own ret D tys A) : va_K D vwCl tys s := F.2.2.2.2.2.2.2.1
theorem Fx.hA (F : Fx p s m args meth c cc n Ts own ret D tys A) : ∀ q : Nat, s.heap.size ≤ q → A q := F.2.2.2.2.2.2.2.2
theorem Fx.fix (F : Fx p s m args meth c cc n Ts own ret D tys A) : CallFix p m c cc n s args Ts own := ⟨F.1, F.2.1, F.2.2.1, F.2.2.2.1, F.2.2.2.2.1⟩
theorem Fx.at (F : Fx p s m args meth c cc n Ts own ret D tys A) {x : Cond} (i : Nat) (h : Ts[i]? = some x) : x.before args s = true := F.hts x (List.mem_of_getElem? h)
theorem wk_top {x y : Int32} (h : x = y) (kk : Wk p l e R s m args below meth c n D A cells slots Q w lv pc (.int y :: rest)) : Wk p l e R s m args below meth c n D A cells slots Q w lv pc (.int x :: rest) := h ▸ kk
theorem wk_lv {lv' : List (Nat × Value)} (ks : List Nat) (h : lv_pick lv ks = lv') (kk : Wk p l e R s m args below meth c n D A cells slots Q w lv' pc rest) : Wk p l e R s m args below meth c n D A cells slots Q w lv pc rest := fun H locs ls hP hD hS hl => kk H locs ls hP hD hS (lv_sub hl ks h)
theorem wk_w {w' : va_W} (h : w = w') (kk : Wk p l e R s m args below meth c n D A cells slots Q w' lv pc rest) : Wk p l e R s m args below meth c n D A cells slots Q w lv pc rest := h ▸ kk
theorem wk_pick {w' : va_W} (is : List Nat) (hn : va_nd is = true) (h : is.map (fun i => w[i]?) = w'.map some) (kk : Wk p l e R s m args below meth c n D A cells slots Q w' lv pc rest) : Wk p l e R s m args below meth c n D A cells slots Q w lv pc rest := fun H locs ls hP hD hS hl => kk H locs ls (hP.sub is (by
  have h2 : (is.map (fun i => w[i]?)).filterMap id = (w'.map some).filterMap id := by rw [h]
  rw [List.filterMap_map, List.filterMap_map] at h2
  simpa using h2)) (hD.sub is hn h) hS hl
theorem wk_iload_n (F : Fx p s m args meth c cc n Ts own ret D tys A) {k : Fin 4} {i : Nat} {x : Int32} (hdg : decode cc pc = .ok (.iload_n k, 1)) (hi : (k : Nat) = i) (q : Nat) (h : lv[q]? = some (i, .int x)) (hpc : pc + 1 = pc') (kk : Wk p l e R s m args below meth c n D A cells slots Q w lv pc' (.int x :: rest)) : Wk p l e R s m args below meth c n D A cells slots Q w lv pc (rest) := by
  subst hpc
  exact fun H locs ls hP hD hS hl => lv_iload_n F.1 F.2.1 hdg hi (lv_at hl q h) (kk H locs ls hP hD hS hl)
theorem wk_iload (F : Fx p s m args meth c cc n Ts own ret D tys A) {i : Nat} {x : Int32} (hdg : decode cc pc = .ok (.iload i, 2)) (q : Nat) (h : lv[q]? = some (i, .int x)) (hpc : pc + 2 = pc') (kk : Wk p l e R s m args below meth c n D A cells slots Q w lv pc' (.int x :: rest)) : Wk p l e R s m args below meth c n D A cells slots Q w lv pc (rest) := by
  subst hpc
  exact fun H locs ls hP hD hS hl => lv_iload F.1 F.2.1 hdg (lv_at hl q h) (kk H locs ls hP hD hS hl)
theorem wk_aload_n (F : Fx p s m args meth c cc n Ts own ret D tys A) {k : Fin 4} {i : Nat} {x : Nat} (hdg : decode cc pc = .ok (.aload_n k, 1)) (hi : (k : Nat) = i) (q : Nat) (h : lv[q]? = some (i, .ref x)) (hpc : pc + 1 = pc') (kk : Wk p l e R s m args below meth c n D A cells slots Q w lv pc' (.ref x :: rest)) : Wk p l e R s m args below meth c n D A cells slots Q w lv pc (rest) := by
  subst hpc
  exact fun H locs ls hP hD hS hl => lv_aload_n F.1 F.2.1 hdg hi (lv_at hl q h) (kk H locs ls hP hD hS hl)
theorem wk_aload (F : Fx p s m args meth c cc n Ts own ret D tys A) {i : Nat} {x : Nat} (hdg : decode cc pc = .ok (.aload i, 2)) (q : Nat) (h : lv[q]? = some (i, .ref x)) (hpc : pc + 2 = pc') (kk : Wk p l e R s m args below meth c n D A cells slots Q w lv pc' (.ref x :: rest)) : Wk p l e R s m args below meth c n D A cells slots Q w lv pc (rest) := by
  subst hpc
  exact fun H locs ls hP hD hS hl => lv_aload F.1 F.2.1 hdg (lv_at hl q h) (kk H locs ls hP hD hS hl)
theorem wk_iconst (F : Fx p s m args meth c cc n Ts own ret D tys A) {k : Int} {v : Int32} (hdg : decode cc pc = .ok (.iconst k, 1)) (hv : Int32.ofInt k = v) (hpc : pc + 1 = pc') (kk : Wk p l e R s m args below meth c n D A cells slots Q w lv pc' (.int v :: rest)) : Wk p l e R s m args below meth c n D A cells slots Q w lv pc (rest) := by
  subst hpc
  exact fun H locs ls hP hD hS hl => lv_iconst F.1 F.2.1 hdg hv (kk H locs ls hP hD hS hl)
theorem wk_bipush (F : Fx p s m args meth c cc n Ts own ret D tys A) {k : Int} {v : Int32} (hdg : decode cc pc = .ok (.bipush k, 2)) (hv : (Int8.ofInt k).toInt32 = v) (hpc : pc + 2 = pc') (kk : Wk p l e R s m args below meth c n D A cells slots Q w lv pc' (.int v :: rest)) : Wk p l e R s m args below meth c n D A cells slots Q w lv pc (rest) := by
  subst hpc
  exact fun H locs ls hP hD hS hl => lv_bipush F.1 F.2.1 hdg hv (kk H locs ls hP hD hS hl)
theorem wk_sipush (F : Fx p s m args meth c cc n Ts own ret D tys A) {k : Int} {v : Int32} (hdg : decode cc pc = .ok (.sipush k, 3)) (hv : (Int16.ofInt k).toInt32 = v) (hpc : pc + 3 = pc') (kk : Wk p l e R s m args below meth c n D A cells slots Q w lv pc' (.int v :: rest)) : Wk p l e R s m args below meth c n D A cells slots Q w lv pc (rest) := by
  subst hpc
  exact fun H locs ls hP hD hS hl => lv_sipush F.1 F.2.1 hdg hv (kk H locs ls hP hD hS hl)
theorem wk_ldc (F : Fx p s m args meth c cc n Ts own ret D tys A) {index : Nat} {v : Int32} (hdg : decode cc pc = .ok (.ldc index, 2)) (hc : (Cond.constant own index v).before args s = true) (hpc : pc + 2 = pc') (kk : Wk p l e R s m args below meth c n D A cells slots Q w lv pc' (.int v :: rest)) : Wk p l e R s m args below meth c n D A cells slots Q w lv pc (rest) := by
  subst hpc
  exact fun H locs ls hP hD hS hl => lv_ldc F.1 F.2.1 F.hown hc hdg (kk H locs ls hP hD hS hl)
theorem wk_dup (F : Fx p s m args meth c cc n Ts own ret D tys A) {va : Value} (hdg : decode cc pc = .ok (.dup, 1)) (hva : va.category = 1) (hpc : pc + 1 = pc') (kk : Wk p l e R s m args below meth c n D A cells slots Q w lv pc' (va :: va :: rest)) : Wk p l e R s m args below meth c n D A cells slots Q w lv pc (va :: rest) := by
  subst hpc
  exact fun H locs ls hP hD hS hl => lv_dup F.1 F.2.1 hdg hva (kk H locs ls hP hD hS hl)
theorem wk_dup2 (F : Fx p s m args meth c cc n Ts own ret D tys A) {va vb : Value} (hdg : decode cc pc = .ok (.dup2, 1)) (hva : va.category = 1) (hvb : vb.category = 1) (hpc : pc + 1 = pc') (kk : Wk p l e R s m args below meth c n D A cells slots Q w lv pc' (va :: vb :: va :: vb :: rest)) : Wk p l e R s m args below meth c n D A cells slots Q w lv pc (va :: vb :: rest) := by
  subst hpc
  exact fun H locs ls hP hD hS hl => lv_dup2_11 F.1 F.2.1 hdg hva hvb (kk H locs ls hP hD hS hl)
theorem wk_pop (F : Fx p s m args meth c cc n Ts own ret D tys A) {va : Value} (hdg : decode cc pc = .ok (.pop, 1)) (hva : va.category = 1) (hpc : pc + 1 = pc') (kk : Wk p l e R s m args below meth c n D A cells slots Q w lv pc' (rest)) : Wk p l e R s m args below meth c n D A cells slots Q w lv pc (va :: rest) := by
  subst hpc
  exact fun H locs ls hP hD hS hl => lv_pop F.1 F.2.1 hdg hva (kk H locs ls hP hD hS hl)
theorem wk_iadd (F : Fx p s m args meth c cc n Ts own ret D tys A) {x y : Int32} (hdg : decode cc pc = .ok (.iadd, 1)) (hpc : pc + 1 = pc') (kk : Wk p l e R s m args below meth c n D A cells slots Q w lv pc' (.int (x + y) :: rest)) : Wk p l e R s m args below meth c n D A cells slots Q w lv pc (.int y :: .int x :: rest) := by
  subst hpc
  exact fun H locs ls hP hD hS hl => lv_iadd F.1 F.2.1 hdg (kk H locs ls hP hD hS hl)
theorem wk_isub (F : Fx p s m args meth c cc n Ts own ret D tys A) {x y : Int32} (hdg : decode cc pc = .ok (.isub, 1)) (hpc : pc + 1 = pc') (kk : Wk p l e R s m args below meth c n D A cells slots Q w lv pc' (.int (x - y) :: rest)) : Wk p l e R s m args below meth c n D A cells slots Q w lv pc (.int y :: .int x :: rest) := by
  subst hpc
  exact fun H locs ls hP hD hS hl => lv_isub F.1 F.2.1 hdg (kk H locs ls hP hD hS hl)
theorem wk_imul (F : Fx p s m args meth c cc n Ts own ret D tys A) {x y : Int32} (hdg : decode cc pc = .ok (.imul, 1)) (hpc : pc + 1 = pc') (kk : Wk p l e R s m args below meth c n D A cells slots Q w lv pc' (.int (x * y) :: rest)) : Wk p l e R s m args below meth c n D A cells slots Q w lv pc (.int y :: .int x :: rest) := by
  subst hpc
  exact fun H locs ls hP hD hS hl => lv_imul F.1 F.2.1 hdg (kk H locs ls hP hD hS hl)
theorem wk_iand (F : Fx p s m args meth c cc n Ts own ret D tys A) {x y : Int32} (hdg : decode cc pc = .ok (.iand, 1)) (hpc : pc + 1 = pc') (kk : Wk p l e R s m args below meth c n D A cells slots Q w lv pc' (.int (x &&& y) :: rest)) : Wk p l e R s m args below meth c n D A cells slots Q w lv pc (.int y :: .int x :: rest) := by
  subst hpc
  exact fun H locs ls hP hD hS hl => lv_iand F.1 F.2.1 hdg (kk H locs ls hP hD hS hl)
theorem wk_ior (F : Fx p s m args meth c cc n Ts own ret D tys A) {x y : Int32} (hdg : decode cc pc = .ok (.ior, 1)) (hpc : pc + 1 = pc') (kk : Wk p l e R s m args below meth c n D A cells slots Q w lv pc' (.int (x ||| y) :: rest)) : Wk p l e R s m args below meth c n D A cells slots Q w lv pc (.int y :: .int x :: rest) := by
  subst hpc
  exact fun H locs ls hP hD hS hl => lv_ior F.1 F.2.1 hdg (kk H locs ls hP hD hS hl)
theorem wk_ixor (F : Fx p s m args meth c cc n Ts own ret D tys A) {x y : Int32} (hdg : decode cc pc = .ok (.ixor, 1)) (hpc : pc + 1 = pc') (kk : Wk p l e R s m args below meth c n D A cells slots Q w lv pc' (.int (x ^^^ y) :: rest)) : Wk p l e R s m args below meth c n D A cells slots Q w lv pc (.int y :: .int x :: rest) := by
  subst hpc
  exact fun H locs ls hP hD hS hl => lv_ixor F.1 F.2.1 hdg (kk H locs ls hP hD hS hl)
theorem wk_ishl (F : Fx p s m args meth c cc n Ts own ret D tys A) {x y : Int32} (hdg : decode cc pc = .ok (.ishl, 1)) (hpc : pc + 1 = pc') (kk : Wk p l e R s m args below meth c n D A cells slots Q w lv pc' (.int (x <<< (y &&& 31)) :: rest)) : Wk p l e R s m args below meth c n D A cells slots Q w lv pc (.int y :: .int x :: rest) := by
  subst hpc
  exact fun H locs ls hP hD hS hl => lv_ishl F.1 F.2.1 hdg (kk H locs ls hP hD hS hl)
theorem wk_ishr (F : Fx p s m args meth c cc n Ts own ret D tys A) {x y : Int32} (hdg : decode cc pc = .ok (.ishr, 1)) (hpc : pc + 1 = pc') (kk : Wk p l e R s m args below meth c n D A cells slots Q w lv pc' (.int (x >>> (y &&& 31)) :: rest)) : Wk p l e R s m args below meth c n D A cells slots Q w lv pc (.int y :: .int x :: rest) := by
  subst hpc
  exact fun H locs ls hP hD hS hl => lv_ishr F.1 F.2.1 hdg (kk H locs ls hP hD hS hl)
theorem wk_idiv (F : Fx p s m args meth c cc n Ts own ret D tys A) {x y : Int32} (hdg : decode cc pc = .ok (.idiv, 1)) (hne : ¬ y = 0) (hpc : pc + 1 = pc') (kk : Wk p l e R s m args below meth c n D A cells slots Q w lv pc' (.int (x / y) :: rest)) : Wk p l e R s m args below meth c n D A cells slots Q w lv pc (.int y :: .int x :: rest) := by
  subst hpc
  exact fun H locs ls hP hD hS hl => lv_idiv F.1 F.2.1 hdg hne (kk H locs ls hP hD hS hl)
theorem wk_irem (F : Fx p s m args meth c cc n Ts own ret D tys A) {x y : Int32} (hdg : decode cc pc = .ok (.irem, 1)) (hne : ¬ y = 0) (hpc : pc + 1 = pc') (kk : Wk p l e R s m args below meth c n D A cells slots Q w lv pc' (.int (x - x / y * y) :: rest)) : Wk p l e R s m args below meth c n D A cells slots Q w lv pc (.int y :: .int x :: rest) := by
  subst hpc
  exact fun H locs ls hP hD hS hl => lv_irem F.1 F.2.1 hdg hne (kk H locs ls hP hD hS hl)
theorem wk_ifnull (F : Fx p s m args meth c cc n Ts own ret D tys A) {x : Nat} {off : Int} (hdg : decode cc pc = .ok (.ifnull off, 3)) (hpc : pc + 3 = pc') (kk : Wk p l e R s m args below meth c n D A cells slots Q w lv pc' (rest)) : Wk p l e R s m args below meth c n D A cells slots Q w lv pc (.ref x :: rest) := by
  subst hpc
  exact fun H locs ls hP hD hS hl => lv_ifnull F.1 F.2.1 hdg (kk H locs ls hP hD hS hl)
theorem wk_istore_n (F : Fx p s m args meth c cc n Ts own ret D tys A) {k : Fin 4} {i : Nat} {x : Int32} {lv' : List (Nat × Value)} (hdg : decode cc pc = .ok (.istore_n k, 1)) (hi : (k : Nat) = i) (hn : i < n) (hl' : (i, Value.int x) :: lv.filter (fun q => !(q.1 == i) && !(q.1 + 1 == i && q.2.category == 2)) = lv') (hpc : pc + 1 = pc') (kk : Wk p l e R s m args below meth c n D A cells slots Q w lv' pc' (rest)) : Wk p l e R s m args below meth c n D A cells slots Q w lv pc (Value.int x :: rest) := by
  subst hpc
  exact fun H locs ls hP hD hS hl => lv_istore_n F.1 F.2.1 hdg hi hl hn hl' (fun ls' h => kk H locs ls' hP hD hS h)
theorem wk_istore (F : Fx p s m args meth c cc n Ts own ret D tys A) {i : Nat} {x : Int32} {lv' : List (Nat × Value)} (hdg : decode cc pc = .ok (.istore i, 2)) (hn : i < n) (hl' : (i, Value.int x) :: lv.filter (fun q => !(q.1 == i) && !(q.1 + 1 == i && q.2.category == 2)) = lv') (hpc : pc + 2 = pc') (kk : Wk p l e R s m args below meth c n D A cells slots Q w lv' pc' (rest)) : Wk p l e R s m args below meth c n D A cells slots Q w lv pc (Value.int x :: rest) := by
  subst hpc
  exact fun H locs ls hP hD hS hl => lv_istore F.1 F.2.1 hdg hl hn hl' (fun ls' h => kk H locs ls' hP hD hS h)
theorem wk_astore_n (F : Fx p s m args meth c cc n Ts own ret D tys A) {k : Fin 4} {i : Nat} {x : Nat} {lv' : List (Nat × Value)} (hdg : decode cc pc = .ok (.astore_n k, 1)) (hi : (k : Nat) = i) (hn : i < n) (hl' : (i, Value.ref x) :: lv.filter (fun q => !(q.1 == i) && !(q.1 + 1 == i && q.2.category == 2)) = lv') (hpc : pc + 1 = pc') (kk : Wk p l e R s m args below meth c n D A cells slots Q w lv' pc' (rest)) : Wk p l e R s m args below meth c n D A cells slots Q w lv pc (Value.ref x :: rest) := by
  subst hpc
  exact fun H locs ls hP hD hS hl => lv_astore_n F.1 F.2.1 hdg hi hl hn hl' (fun ls' h => kk H locs ls' hP hD hS h)
theorem wk_astore (F : Fx p s m args meth c cc n Ts own ret D tys A) {i : Nat} {x : Nat} {lv' : List (Nat × Value)} (hdg : decode cc pc = .ok (.astore i, 2)) (hn : i < n) (hl' : (i, Value.ref x) :: lv.filter (fun q => !(q.1 == i) && !(q.1 + 1 == i && q.2.category == 2)) = lv') (hpc : pc + 2 = pc') (kk : Wk p l e R s m args below meth c n D A cells slots Q w lv' pc' (rest)) : Wk p l e R s m args below meth c n D A cells slots Q w lv pc (Value.ref x :: rest) := by
  subst hpc
  exact fun H locs ls hP hD hS hl => lv_astore F.1 F.2.1 hdg hl hn hl' (fun ls' h => kk H locs ls' hP hD hS h)
theorem wk_iinc (F : Fx p s m args meth c cc n Ts own ret D tys A) {i k : Nat} {z : Int} {x v : Int32} {lv' : List (Nat × Value)} (hdg : decode cc pc = .ok (.iinc i z, 3)) (hk : lv[k]? = some (i, .int x)) (hv : x + Int32.ofInt z = v) (hn : i < n) (hl' : (i, Value.int v) :: lv.filter (fun q => !(q.1 == i) && !(q.1 + 1 == i && q.2.category == 2)) = lv') (hpc : pc + 3 = pc') (kk : Wk p l e R s m args below meth c n D A cells slots Q w lv' pc' (rest)) : Wk p l e R s m args below meth c n D A cells slots Q w lv pc (rest) := by
  subst hpc
  exact fun H locs ls hP hD hS hl => lv_iinc F.1 F.2.1 hdg hl hk hv hn hl' (fun ls' h => kk H locs ls' hP hD hS h)
theorem wk_icmp_eq (F : Fx p s m args meth c cc n Ts own ret D tys A) {x y : Int32} {off : Int} {tgt : Nat} (hdg : decode cc pc = .ok (.if_icmp .eq off, 3)) (ht : (pc : Int) + off = (tgt : Int)) (hpc : pc + 3 = pc') (kt : x = y → Wk p l e R s m args below meth c n D A cells slots Q w lv tgt (rest)) (kf : ¬ x = y → Wk p l e R s m args below meth c n D A cells slots Q w lv pc' (rest)) : Wk p l e R s m args below meth c n D A cells slots Q w lv pc (.int y :: .int x :: rest) := by
  subst hpc
  exact fun H locs ls hP hD hS hl => lv_icmp_eq F.1 F.2.1 hdg ht (fun h => kt h H locs ls hP hD hS hl) (fun h => kf h H locs ls hP hD hS hl)
theorem wk_if_eq (F : Fx p s m args meth c cc n Ts own ret D tys A) {x : Int32} {off : Int} {tgt : Nat} (hdg : decode cc pc = .ok (.ifCond .eq off, 3)) (ht : (pc : Int) + off = (tgt : Int)) (hpc : pc + 3 = pc') (kt : x = 0 → Wk p l e R s m args below meth c n D A cells slots Q w lv tgt (rest)) (kf : ¬ x = 0 → Wk p l e R s m args below meth c n D A cells slots Q w lv pc' (rest)) : Wk p l e R s m args below meth c n D A cells slots Q w lv pc (.int x :: rest) := by
  subst hpc
  exact fun H locs ls hP hD hS hl => lv_if_eq F.1 F.2.1 hdg ht (fun h => kt h H locs ls hP hD hS hl) (fun h => kf h H locs ls hP hD hS hl)
theorem wk_icmp_ne (F : Fx p s m args meth c cc n Ts own ret D tys A) {x y : Int32} {off : Int} {tgt : Nat} (hdg : decode cc pc = .ok (.if_icmp .ne off, 3)) (ht : (pc : Int) + off = (tgt : Int)) (hpc : pc + 3 = pc') (kt : ¬ x = y → Wk p l e R s m args below meth c n D A cells slots Q w lv tgt (rest)) (kf : x = y → Wk p l e R s m args below meth c n D A cells slots Q w lv pc' (rest)) : Wk p l e R s m args below meth c n D A cells slots Q w lv pc (.int y :: .int x :: rest) := by
  subst hpc
  exact fun H locs ls hP hD hS hl => lv_icmp_ne F.1 F.2.1 hdg ht (fun h => kt h H locs ls hP hD hS hl) (fun h => kf h H locs ls hP hD hS hl)
theorem wk_if_ne (F : Fx p s m args meth c cc n Ts own ret D tys A) {x : Int32} {off : Int} {tgt : Nat} (hdg : decode cc pc = .ok (.ifCond .ne off, 3)) (ht : (pc : Int) + off = (tgt : Int)) (hpc : pc + 3 = pc') (kt : ¬ x = 0 → Wk p l e R s m args below meth c n D A cells slots Q w lv tgt (rest)) (kf : x = 0 → Wk p l e R s m args below meth c n D A cells slots Q w lv pc' (rest)) : Wk p l e R s m args below meth c n D A cells slots Q w lv pc (.int x :: rest) := by
  subst hpc
  exact fun H locs ls hP hD hS hl => lv_if_ne F.1 F.2.1 hdg ht (fun h => kt h H locs ls hP hD hS hl) (fun h => kf h H locs ls hP hD hS hl)
theorem wk_icmp_lt (F : Fx p s m args meth c cc n Ts own ret D tys A) {x y : Int32} {off : Int} {tgt : Nat} (hdg : decode cc pc = .ok (.if_icmp .lt off, 3)) (ht : (pc : Int) + off = (tgt : Int)) (hpc : pc + 3 = pc') (kt : x < y → Wk p l e R s m args below meth c n D A cells slots Q w lv tgt (rest)) (kf : ¬ x < y → Wk p l e R s m args below meth c n D A cells slots Q w lv pc' (rest)) : Wk p l e R s m args below meth c n D A cells slots Q w lv pc (.int y :: .int x :: rest) := by
  subst hpc
  exact fun H locs ls hP hD hS hl => lv_icmp_lt F.1 F.2.1 hdg ht (fun h => kt h H locs ls hP hD hS hl) (fun h => kf h H locs ls hP hD hS hl)
theorem wk_if_lt (F : Fx p s m args meth c cc n Ts own ret D tys A) {x : Int32} {off : Int} {tgt : Nat} (hdg : decode cc pc = .ok (.ifCond .lt off, 3)) (ht : (pc : Int) + off = (tgt : Int)) (hpc : pc + 3 = pc') (kt : x < 0 → Wk p l e R s m args below meth c n D A cells slots Q w lv tgt (rest)) (kf : ¬ x < 0 → Wk p l e R s m args below meth c n D A cells slots Q w lv pc' (rest)) : Wk p l e R s m args below meth c n D A cells slots Q w lv pc (.int x :: rest) := by
  subst hpc
  exact fun H locs ls hP hD hS hl => lv_if_lt F.1 F.2.1 hdg ht (fun h => kt h H locs ls hP hD hS hl) (fun h => kf h H locs ls hP hD hS hl)
theorem wk_icmp_ge (F : Fx p s m args meth c cc n Ts own ret D tys A) {x y : Int32} {off : Int} {tgt : Nat} (hdg : decode cc pc = .ok (.if_icmp .ge off, 3)) (ht : (pc : Int) + off = (tgt : Int)) (hpc : pc + 3 = pc') (kt : y ≤ x → Wk p l e R s m args below meth c n D A cells slots Q w lv tgt (rest)) (kf : ¬ y ≤ x → Wk p l e R s m args below meth c n D A cells slots Q w lv pc' (rest)) : Wk p l e R s m args below meth c n D A cells slots Q w lv pc (.int y :: .int x :: rest) := by
  subst hpc
  exact fun H locs ls hP hD hS hl => lv_icmp_ge F.1 F.2.1 hdg ht (fun h => kt h H locs ls hP hD hS hl) (fun h => kf h H locs ls hP hD hS hl)
theorem wk_if_ge (F : Fx p s m args meth c cc n Ts own ret D tys A) {x : Int32} {off : Int} {tgt : Nat} (hdg : decode cc pc = .ok (.ifCond .ge off, 3)) (ht : (pc : Int) + off = (tgt : Int)) (hpc : pc + 3 = pc') (kt : 0 ≤ x → Wk p l e R s m args below meth c n D A cells slots Q w lv tgt (rest)) (kf : ¬ 0 ≤ x → Wk p l e R s m args below meth c n D A cells slots Q w lv pc' (rest)) : Wk p l e R s m args below meth c n D A cells slots Q w lv pc (.int x :: rest) := by
  subst hpc
  exact fun H locs ls hP hD hS hl => lv_if_ge F.1 F.2.1 hdg ht (fun h => kt h H locs ls hP hD hS hl) (fun h => kf h H locs ls hP hD hS hl)
theorem wk_icmp_gt (F : Fx p s m args meth c cc n Ts own ret D tys A) {x y : Int32} {off : Int} {tgt : Nat} (hdg : decode cc pc = .ok (.if_icmp .gt off, 3)) (ht : (pc : Int) + off = (tgt : Int)) (hpc : pc + 3 = pc') (kt : y < x → Wk p l e R s m args below meth c n D A cells slots Q w lv tgt (rest)) (kf : ¬ y < x → Wk p l e R s m args below meth c n D A cells slots Q w lv pc' (rest)) : Wk p l e R s m args below meth c n D A cells slots Q w lv pc (.int y :: .int x :: rest) := by
  subst hpc
  exact fun H locs ls hP hD hS hl => lv_icmp_gt F.1 F.2.1 hdg ht (fun h => kt h H locs ls hP hD hS hl) (fun h => kf h H locs ls hP hD hS hl)
theorem wk_if_gt (F : Fx p s m args meth c cc n Ts own ret D tys A) {x : Int32} {off : Int} {tgt : Nat} (hdg : decode cc pc = .ok (.ifCond .gt off, 3)) (ht : (pc : Int) + off = (tgt : Int)) (hpc : pc + 3 = pc') (kt : 0 < x → Wk p l e R s m args below meth c n D A cells slots Q w lv tgt (rest)) (kf : ¬ 0 < x → Wk p l e R s m args below meth c n D A cells slots Q w lv pc' (rest)) : Wk p l e R s m args below meth c n D A cells slots Q w lv pc (.int x :: rest) := by
  subst hpc
  exact fun H locs ls hP hD hS hl => lv_if_gt F.1 F.2.1 hdg ht (fun h => kt h H locs ls hP hD hS hl) (fun h => kf h H locs ls hP hD hS hl)
theorem wk_icmp_le (F : Fx p s m args meth c cc n Ts own ret D tys A) {x y : Int32} {off : Int} {tgt : Nat} (hdg : decode cc pc = .ok (.if_icmp .le off, 3)) (ht : (pc : Int) + off = (tgt : Int)) (hpc : pc + 3 = pc') (kt : x ≤ y → Wk p l e R s m args below meth c n D A cells slots Q w lv tgt (rest)) (kf : ¬ x ≤ y → Wk p l e R s m args below meth c n D A cells slots Q w lv pc' (rest)) : Wk p l e R s m args below meth c n D A cells slots Q w lv pc (.int y :: .int x :: rest) := by
  subst hpc
  exact fun H locs ls hP hD hS hl => lv_icmp_le F.1 F.2.1 hdg ht (fun h => kt h H locs ls hP hD hS hl) (fun h => kf h H locs ls hP hD hS hl)
theorem wk_if_le (F : Fx p s m args meth c cc n Ts own ret D tys A) {x : Int32} {off : Int} {tgt : Nat} (hdg : decode cc pc = .ok (.ifCond .le off, 3)) (ht : (pc : Int) + off = (tgt : Int)) (hpc : pc + 3 = pc') (kt : x ≤ 0 → Wk p l e R s m args below meth c n D A cells slots Q w lv tgt (rest)) (kf : ¬ x ≤ 0 → Wk p l e R s m args below meth c n D A cells slots Q w lv pc' (rest)) : Wk p l e R s m args below meth c n D A cells slots Q w lv pc (.int x :: rest) := by
  subst hpc
  exact fun H locs ls hP hD hS hl => lv_if_le F.1 F.2.1 hdg ht (fun h => kt h H locs ls hP hD hS hl) (fun h => kf h H locs ls hP hD hS hl)
theorem wk_goto (F : Fx p s m args meth c cc n Ts own ret D tys A) {off : Int} {tgt : Nat} (hdg : decode cc pc = .ok (.goto off, 3)) (ht : (pc : Int) + off = (tgt : Int)) (kk : Wk p l e R s m args below meth c n D A cells slots Q w lv tgt (rest)) : Wk p l e R s m args below meth c n D A cells slots Q w lv pc (rest) := fun H locs ls hP hD hS hl => lv_goto F.1 F.2.1 hdg ht (kk H locs ls hP hD hS hl)
theorem wk_ifnonnull (F : Fx p s m args meth c cc n Ts own ret D tys A) {x : Nat} {off : Int} {tgt : Nat} (hdg : decode cc pc = .ok (.ifnonnull off, 3)) (ht : (pc : Int) + off = (tgt : Int)) (kk : Wk p l e R s m args below meth c n D A cells slots Q w lv tgt (rest)) : Wk p l e R s m args below meth c n D A cells slots Q w lv pc (.ref x :: rest) := fun H locs ls hP hD hS hl => lv_ifnonnull F.1 F.2.1 hdg ht (kk H locs ls hP hD hS hl)
theorem wk_tableIn (F : Fx p s m args meth c cc n Ts own ret D tys A) {dflt lo hi : Int} {offs : Array Int} {len : Nat} {x : Int32} {off : Int} {tgt : Nat} (hdg : decode cc pc = .ok (.tableswitch dflt lo hi offs, len)) (h1 : ¬ x.toInt < lo) (h2 : ¬ hi < x.toInt) (ho : offs[(x.toInt - lo).toNat]? = some off) (ht : (pc : Int) + off = (tgt : Int)) (kk : Wk p l e R s m args below meth c n D A cells slots Q w lv tgt (rest)) : Wk p l e R s m args below meth c n D A cells slots Q w lv pc (.int x :: rest) := fun H locs ls hP hD hS hl => lv_tableIn F.1 F.2.1 hdg h1 h2 ho ht (kk H locs ls hP hD hS hl)
theorem wk_tableOut (F : Fx p s m args meth c cc n Ts own ret D tys A) {dflt lo hi : Int} {offs : Array Int} {len : Nat} {x : Int32} {tgt : Nat} (hdg : decode cc pc = .ok (.tableswitch dflt lo hi offs, len)) (h : x.toInt < lo ∨ hi < x.toInt) (ht : (pc : Int) + dflt = (tgt : Int)) (kk : Wk p l e R s m args below meth c n D A cells slots Q w lv tgt (rest)) : Wk p l e R s m args below meth c n D A cells slots Q w lv pc (.int x :: rest) := fun H locs ls hP hD hS hl => lv_tableOut F.1 F.2.1 hdg h ht (kk H locs ls hP hD hS hl)
theorem wk_lookup (F : Fx p s m args meth c cc n Ts own ret D tys A) {dflt : Int} {ps : Array (Int × Int)} {len : Nat} {x : Int32} {off : Int} {tgt : Nat} (hdg : decode cc pc = .ok (.lookupswitch dflt ps, len)) (hp : (ps.toList.zip (ps.toList.drop 1)).all (fun (a, next) => a.1 < next.1) = true) (ho : Op.lookupswitch.offset ps.toList dflt x.toInt = off) (ht : (pc : Int) + off = (tgt : Int)) (kk : Wk p l e R s m args below meth c n D A cells slots Q w lv tgt (rest)) : Wk p l e R s m args below meth c n D A cells slots Q w lv pc (.int x :: rest) := fun H locs ls hP hD hS hl => lv_lookup F.1 F.2.1 hdg hp ho ht (kk H locs ls hP hD hS hl)
theorem wk_iald (F : Fx p s m args meth c cc n Ts own ret D tys A) (q0 t0 : Nat) {a : Nat} {cA : ClassId} {N : Nat} {f : Nat → Int32} (ha : w[q0]? = some (a, .inl (cA, N, .inl f))) (ht : tys[t0]? = some (cA, .int)) {i : Int32} (hin : vp_in i N) (hdg : decode cc pc = .ok (.iaload, 1)) (hpc : pc + 1 = pc') (kk : Wk p l e R s m args below meth c n D A cells slots Q w lv pc' (.int (f i.toNatClampNeg) :: rest)) : Wk p l e R s m args below meth c n D A cells slots Q w lv pc (.int i :: .ref a :: rest) := by
  subst hpc
  exact fun H locs ls hP hD hS hl => va_iald F.1 F.2.1 F.hK hP q0 t0 ha ht hin hdg (kk H locs ls hP hD hS hl)
theorem wk_iald_n (F : Fx p s m args meth c cc n Ts own ret D tys A) (q0 t0 : Nat) {a : Nat} {cA : ClassId} {N : Nat} {f : Nat → Int32} (ha : w[q0]? = some (a, .inl (cA, N, .inl f))) (ht : tys[t0]? = some (cA, .int)) {i : Nat} (hi : i < N) (hN : N < 2 ^ 31) (hdg : decode cc pc = .ok (.iaload, 1)) (hpc : pc + 1 = pc') (kk : Wk p l e R s m args below meth c n D A cells slots Q w lv pc' (.int (f i) :: rest)) : Wk p l e R s m args below meth c n D A cells slots Q w lv pc (.int (nI i) :: .ref a :: rest) := wk_iald F q0 t0 ha ht (vp_in_nI hi hN) hdg hpc (by rw [nI_clamp (Nat.lt_trans hi hN)]; exact kk)
theorem wk_iast (F : Fx p s m args meth c cc n Ts own ret D tys A) (q0 t0 : Nat) {a : Nat} {cA : ClassId} {N : Nat} {f : Nat → Int32} {w' : va_W} {i x : Int32} (ha : w[q0]? = some (a, .inl (cA, N, .inl f))) (ht : tys[t0]? = some (cA, .int)) (hw : w.set q0 (a, .inl (cA, N, .inl (upd f i.toNatClampNeg x))) = w') (hin : vp_in i N) (hdg : decode cc pc = .ok (.iastore, 1)) (hpc : pc + 1 = pc') (kk : Wk p l e R s m args below meth c n D A cells slots Q w' lv pc' (rest)) : Wk p l e R s m args below meth c n D A cells slots Q w lv pc (.int x :: .int i :: .ref a :: rest) := by
  subst hw
  subst hpc
  exact fun H locs ls hP hD hS hl => va_iast F.1 F.2.1 F.hK hP hD hS q0 t0 ha ht hin hdg (fun H1 locs1 hP hD hS => kk H1 locs1 ls hP hD hS hl)
theorem wk_iast_n (F : Fx p s m args meth c cc n Ts own ret D tys A) (q0 t0 : Nat) {a : Nat} {cA : ClassId} {N : Nat} {f : Nat → Int32} {w' : va_W} {i : Nat} {x : Int32} (ha : w[q0]? = some (a, .inl (cA, N, .inl f))) (ht : tys[t0]? = some (cA, .int)) (hw : w.set q0 (a, .inl (cA, N, .inl (upd f i x))) = w') (hi : i < N) (hN : N < 2 ^ 31) (hdg : decode cc pc = .ok (.iastore, 1)) (hpc : pc + 1 = pc') (kk : Wk p l e R s m args below meth c n D A cells slots Q w' lv pc' (rest)) : Wk p l e R s m args below meth c n D A cells slots Q w lv pc (.int x :: .int (nI i) :: .ref a :: rest) := wk_iast F q0 t0 ha ht (by rw [nI_clamp (Nat.lt_trans hi hN)]; exact hw) (vp_in_nI hi hN) hdg hpc kk
theorem wk_aldq (F : Fx p s m args meth c cc n Ts own ret D tys A) (q0 t0 : Nat) {a b : Nat} {cA : ClassId} {C : String} {N : Nat} {f : Nat → Option Nat} (ha : w[q0]? = some (a, .inl (cA, N, .inr (.inr (.inr (.inr f)))))) (ht : tys[t0]? = some (cA, .object C)) {i : Int32} (hin : vp_in i N) (hv : f i.toNatClampNeg = some b) (hdg : decode cc pc = .ok (.aaload, 1)) (hpc : pc + 1 = pc') (kk : Wk p l e R s m args below meth c n D A cells slots Q w lv pc' (.ref b :: rest)) : Wk p l e R s m args below meth c n D A cells slots Q w lv pc (.int i :: .ref a :: rest) := by
  subst hpc
  exact fun H locs ls hP hD hS hl => va_aldq F.1 F.2.1 F.hK hP q0 t0 ha ht hin hdg (by rw [hv]; exact kk H locs ls hP hD hS hl)
theorem wk_get (F : Fx p s m args meth c cc n Ts own ret D tys A) {a ci : Nat} {fs : List Value} {C : String} {T : u_T} {N index : Nat} {v : Value} (q0 : Nat) (he : w[q0]? = some (a, .inr (ci, fs))) (hc : vwCl[ci]? = some (C, T, N)) (hin : ∀ w ∈ u_ws C T N, w ∈ Ts) (k : Nat) (hk : k < N) (hlink : (Cond.fieldLink own index (T k).1 (T k).2.1 (T k).2.2.1).before args s = true) (hv : fs[k]? = some v) (hdg : decode cc pc = .ok (.getfield index, 3)) (hpc : pc + 3 = pc') (kk : Wk p l e R s m args below meth c n D A cells slots Q w lv pc' (v :: rest)) : Wk p l e R s m args below meth c n D A cells slots Q w lv pc (.ref a :: rest) := by
  subst hpc
  exact fun H locs ls hP hD hS hl => va_get F.1 F.2.1 F.hts hin F.hown F.hK hP q0 he hc k hk hlink (fun _ h => h) hv hdg (kk H locs ls hP hD hS hl)
theorem wk_put (F : Fx p s m args meth c cc n Ts own ret D tys A) {a ci : Nat} {fs : List Value} {C : String} {T : u_T} {N index : Nat} {ty0 : Nat → FieldType} {w' : va_W} {x : Int32} (q0 : Nat) (he : w[q0]? = some (a, .inr (ci, fs))) (hc : vwCl[ci]? = some (C, T, N)) (hin : ∀ w ∈ u_ws C T N, w ∈ Ts) (hty : ∀ k, k < N → parseFieldDescriptor (T k).2.2.1 = some (ty0 k)) (hnm : ∀ a, a < N → ∀ b, b < N → a ≠ b → (T a).2.1 ≠ (T b).2.1) (k : Nat) (hk : k < N) (hlink : (Cond.fieldLink own index (T k).1 (T k).2.1 (T k).2.2.1).before args s = true) (hfin : (T k).2.2.2 = false) (hnr : narrow (ty0 k) (.int x) = .int x) (hft : fits (ty0 k) (.int x) = true) (hlen : k < fs.length) (hw : w.set q0 (a, .inr (ci, fs.set k (.int x))) = w') (hdg : decode cc pc = .ok (.putfield index, 3)) (hpc : pc + 3 = pc') (kk : Wk p l e R s m args below meth c n D A cells slots Q w' lv pc' (rest)) : Wk p l e R s m args below meth c n D A cells slots Q w lv pc (.int x :: .ref a :: rest) := by
  subst hw
  subst hpc
  exact fun H locs ls hP hD hS hl => va_put F.1 F.2.1 F.hts hin ty0 hty hnm F.hown F.hK hP hD hS q0 he hc k hk hlink (fun _ h => h) hfin (hty k hk) hnr hft hlen hdg (fun H1 locs1 hP hD hS => kk H1 locs1 ls hP hD hS hl)
theorem wk_putF (F : Fx p s m args meth c cc n Ts own ret D tys A) {a ci : Nat} {fs : List Value} {C : String} {T : u_T} {N index : Nat} {ty0 : Nat → FieldType} {w' : va_W} {x : Nat} (q0 : Nat) (he : w[q0]? = some (a, .inr (ci, fs))) (hc : vwCl[ci]? = some (C, T, N)) (hin : ∀ w ∈ u_ws C T N, w ∈ Ts) (hty : ∀ k, k < N → parseFieldDescriptor (T k).2.2.1 = some (ty0 k)) (hnm : ∀ a, a < N → ∀ b, b < N → a ≠ b → (T a).2.1 ≠ (T b).2.1) (k : Nat) (hk : k < N) (hlink : (Cond.fieldLink own index (T k).1 (T k).2.1 (T k).2.2.1).before args s = true) (hfin : (T k).2.2.2 = true) (hin2 : meth.name = "<init>") (hdecl : (T k).1 = own) (hnr : narrow (ty0 k) (.ref x) = .ref x) (hft : fits (ty0 k) (.ref x) = true) (hlen : k < fs.length) (hw : w.set q0 (a, .inr (ci, fs.set k (.ref x))) = w') (hdg : decode cc pc = .ok (.putfield index, 3)) (hpc : pc + 3 = pc') (kk : Wk p l e R s m args below meth c n D A cells slots Q w' lv pc' (rest)) : Wk p l e R s m args below meth c n D A cells slots Q w lv pc (.ref x :: .ref a :: rest) := by
  subst hw
  subst hpc
  exact fun H locs ls hP hD hS hl => va_putF F.1 F.2.1 F.hts hin ty0 hty hnm F.hown F.hK hP hD hS q0 he hc k hk hlink (fun _ h => h) hfin hin2 hdecl (hty k hk) hnr hft hlen hdg (fun H1 locs1 hP hD hS => kk H1 locs1 ls hP hD hS hl)
theorem wk_mmax (F : Fx p s m args meth c cc n Ts own ret D tys A) {x y : Int32} {index : Nat} (hlink : (Cond.methodLink own index Lib.Math.max.name).before args s = true) (hstat : (Cond.static Lib.Math.max.name).before args s = true) (hini : (Cond.initialized "java/lang/Math").before args s = true) (hcode : (Cond.code Lib.Math.max.name Lib.Math.max.code 2 (some .int)).before args s = true) (hfr : 1 ≤ R.frames) (hlo : (rest.map fun v => v.category).sum + 13 ≤ R.locals) (hcs : cells ≤ R.cells) (hss : slots ≤ R.slots) (hdg : decode cc pc = .ok (.invokestatic index, 3)) (hpc : pc + 3 = pc') (kk : Wk p l e R s m args below meth c n D A cells slots Q w lv pc' (.int (if x < y then y else x) :: rest)) : Wk p l e R s m args below meth c n D A cells slots Q w lv pc (.int y :: .int x :: rest) := by
  subst hpc
  exact fun H locs ls hP hD hS hl => va_mmax F.1 F.2.1 (F.2.2.1.trans hl.1.symm) F.hown hlink hstat hini hcode hfr hlo hcs hss hdg (kk H locs ls hP hD hS hl)
theorem wk_mmin (F : Fx p s m args meth c cc n Ts own ret D tys A) {x y : Int32} {index : Nat} (hlink : (Cond.methodLink own index Lib.Math.min.name).before args s = true) (hstat : (Cond.static Lib.Math.min.name).before args s = true) (hini : (Cond.initialized "java/lang/Math").before args s = true) (hcode : (Cond.code Lib.Math.min.name Lib.Math.min.code 2 (some .int)).before args s = true) (hfr : 1 ≤ R.frames) (hlo : (rest.map fun v => v.category).sum + 13 ≤ R.locals) (hcs : cells ≤ R.cells) (hss : slots ≤ R.slots) (hdg : decode cc pc = .ok (.invokestatic index, 3)) (hpc : pc + 3 = pc') (kk : Wk p l e R s m args below meth c n D A cells slots Q w lv pc' (.int (if y < x then y else x) :: rest)) : Wk p l e R s m args below meth c n D A cells slots Q w lv pc (.int y :: .int x :: rest) := by
  subst hpc
  exact fun H locs ls hP hD hS hl => va_mmin F.1 F.2.1 (F.2.2.1.trans hl.1.symm) F.hown hlink hstat hini hcode hfr hlo hcs hss hdg (kk H locs ls hP hD hS hl)
theorem wk_copyi (F : Fx p s m args meth c cc n Ts own ret D tys A) (q0 q1 t0 t1 : Nat) {index a0 a : Nat} {c0 c1 : ClassId} {n0 n1 : Nat} {f g : Nat → Int32} {w' : va_W} {sp dp k : Int32} (hlink : (Cond.methodLink own index arraycopyName).before args s = true) (hnat : (Cond.native arraycopyName).before args s = true) (hstat : (Cond.static arraycopyName).before args s = true) (hini : (Cond.initialized "java/lang/System").before args s = true) (ha0 : w[q0]? = some (a0, .inl (c0, n0, .inl f))) (ha1 : w[q1]? = some (a, .inl (c1, n1, .inl g))) (ht0 : tys[t0]? = some (c0, .int)) (ht1 : tys[t1]? = some (c1, .int)) (h1 : ¬ sp < 0) (h2 : ¬ dp < 0) (h3 : ¬ k < 0) (h4 : sp.toNatClampNeg + k.toNatClampNeg ≤ n0) (h5 : dp.toNatClampNeg + k.toNatClampNeg ≤ n1) (hfr : 1 ≤ R.frames) (hlo : (rest.map fun v => v.category).sum + (nativeFrameWords "java/lang/System" "arraycopy" 5 + 11) ≤ R.locals) (hw : w.set q1 (a, .inl (c1, n1, .inl (va_cpy f g sp.toNatClampNeg dp.toNatClampNeg k.toNatClampNeg))) = w') (hdg : decode cc pc = .ok (.invokestatic index, 3)) (hpc : pc + 3 = pc') (kk : Wk p l e R s m args below meth c n D A cells slots Q w' lv pc' (rest)) : Wk p l e R s m args below meth c n D A cells slots Q w lv pc (.int k :: .int dp :: .ref a :: .int sp :: .ref a0 :: rest) := by
  subst hw
  subst hpc
  exact fun H locs ls hP hD hS hl => va_copyi F.1 F.2.1 (F.2.2.1.trans hl.1.symm) F.hown hlink hnat hstat hini F.hK hP hD hS q0 q1 t0 t1 ha0 ha1 ht0 ht1 rfl h1 h2 h3 h4 h5 (fun _ _ => rfl) hfr hlo hdg (fun H1 locs1 hP hD hS => kk H1 locs1 ls hP hD hS hl)
theorem wk_iastu (F : Fx p s m args meth c cc n Ts own ret D tys A) (q0 t0 : Nat) {a : Nat} {cA : ClassId} {N : Nat} {f : Nat → Int32} {S0 : Type} {wg : S0 → va_W} {f0 : S0} {i x : Int32} (ha : w[q0]? = some (a, .inl (cA, N, .inl f))) (ht : tys[t0]? = some (cA, .int)) (hw : w.set q0 (a, .inl (cA, N, .inl (upd f i.toNatClampNeg x))) = wg f0) (hin : vp_in i N) (hdg : decode cc pc = .ok (.iastore, 1)) (hpc : pc + 1 = pc') (kk : ∀ u, f0 = u → Wk p l e R s m args below meth c n D A cells slots Q (wg u) lv pc' (rest)) : Wk p l e R s m args below meth c n D A cells slots Q w lv pc (.int x :: .int i :: .ref a :: rest) := wk_iast F q0 t0 ha ht hw hin hdg hpc (kk f0 rfl)
theorem wk_iastu_n (F : Fx p s m args meth c cc n Ts own ret D tys A) (q0 t0 : Nat) {a : Nat} {cA : ClassId} {N : Nat} {f : Nat → Int32} {S0 : Type} {wg : S0 → va_W} {f0 : S0} {i : Nat} {x : Int32} (ha : w[q0]? = some (a, .inl (cA, N, .inl f))) (ht : tys[t0]? = some (cA, .int)) (hw : w.set q0 (a, .inl (cA, N, .inl (upd f i x))) = wg f0) (hi : i < N) (hN : N < 2 ^ 31) (hdg : decode cc pc = .ok (.iastore, 1)) (hpc : pc + 1 = pc') (kk : ∀ u, f0 = u → Wk p l e R s m args below meth c n D A cells slots Q (wg u) lv pc' (rest)) : Wk p l e R s m args below meth c n D A cells slots Q w lv pc (.int x :: .int (nI i) :: .ref a :: rest) := wk_iast_n F q0 t0 ha ht hw hi hN hdg hpc (kk f0 rfl)
theorem wk_putu (F : Fx p s m args meth c cc n Ts own ret D tys A) {a ci : Nat} {fs : List Value} {C : String} {T : u_T} {N index : Nat} {ty0 : Nat → FieldType} {S0 : Type} {wg : S0 → va_W} {f0 : S0} {x : Int32} (q0 : Nat) (he : w[q0]? = some (a, .inr (ci, fs))) (hc : vwCl[ci]? = some (C, T, N)) (hin : ∀ w ∈ u_ws C T N, w ∈ Ts) (hty : ∀ k, k < N → parseFieldDescriptor (T k).2.2.1 = some (ty0 k)) (hnm : ∀ a, a < N → ∀ b, b < N → a ≠ b → (T a).2.1 ≠ (T b).2.1) (k : Nat) (hk : k < N) (hlink : (Cond.fieldLink own index (T k).1 (T k).2.1 (T k).2.2.1).before args s = true) (hfin : (T k).2.2.2 = false) (hnr : narrow (ty0 k) (.int x) = .int x) (hft : fits (ty0 k) (.int x) = true) (hlen : k < fs.length) (hw : w.set q0 (a, .inr (ci, fs.set k (.int x))) = wg f0) (hdg : decode cc pc = .ok (.putfield index, 3)) (hpc : pc + 3 = pc') (kk : ∀ u, f0 = u → Wk p l e R s m args below meth c n D A cells slots Q (wg u) lv pc' (rest)) : Wk p l e R s m args below meth c n D A cells slots Q w lv pc (.int x :: .ref a :: rest) := wk_put F q0 he hc hin hty hnm k hk hlink hfin hnr hft hlen hw hdg hpc (kk f0 rfl)
theorem wk_objInit (F : Fx p s m args meth c cc n Ts own ret D tys A) {idx a : Nat} (hlink : (Cond.methodLink own idx objectInit).before args s = true) (hinst : (Cond.instanceMethod objectInit).before args s = true) (hcode : (Cond.code objectInit ⟨#[0xb1]⟩ 1 none).before args s = true) (hdg : decode cc pc = .ok (.invokespecial idx, 3)) (hfr : 1 ≤ R.frames) (hlo : (rest.map fun v => v.category).sum + 12 ≤ R.locals) (hpc : pc + 3 = pc') (kk : Wk p l e R s m args below meth c n D A cells slots Q w lv pc' (rest)) : Wk p l e R s m args below meth c n D A cells slots Q w lv pc (.ref a :: rest) := by
  subst hpc
  exact fun H locs ls hP hD hS hl => W.objInit F.1 F.2.1 F.hown hlink hinst hcode rfl (hl.1.trans F.2.2.1.symm) rfl hdg hfr (by show 2 * 0 + _ + 12 ≤ _; omega) (kk H locs ls hP hD hS hl)
theorem wk_copyiu (F : Fx p s m args meth c cc n Ts own ret D tys A) (q0 q1 t0 t1 : Nat) {index a0 a : Nat} {c0 c1 : ClassId} {n0 n1 : Nat} {f g : Nat → Int32} {S0 : Type} {wg : S0 → va_W} {f0 : S0} {sp dp k : Int32} (hlink : (Cond.methodLink own index arraycopyName).before args s = true) (hnat : (Cond.native arraycopyName).before args s = true) (hstat : (Cond.static arraycopyName).before args s = true) (hini : (Cond.initialized "java/lang/System").before args s = true) (ha0 : w[q0]? = some (a0, .inl (c0, n0, .inl f))) (ha1 : w[q1]? = some (a, .inl (c1, n1, .inl g))) (ht0 : tys[t0]? = some (c0, .int)) (ht1 : tys[t1]? = some (c1, .int)) (h1 : ¬ sp < 0) (h2 : ¬ dp < 0) (h3 : ¬ k < 0) (h4 : sp.toNatClampNeg + k.toNatClampNeg ≤ n0) (h5 : dp.toNatClampNeg + k.toNatClampNeg ≤ n1) (hfr : 1 ≤ R.frames) (hlo : (rest.map fun v => v.category).sum + (nativeFrameWords "java/lang/System" "arraycopy" 5 + 11) ≤ R.locals) (hw : w.set q1 (a, .inl (c1, n1, .inl (va_cpy f g sp.toNatClampNeg dp.toNatClampNeg k.toNatClampNeg))) = wg f0) (hdg : decode cc pc = .ok (.invokestatic index, 3)) (hpc : pc + 3 = pc') (kk : ∀ u, f0 = u → Wk p l e R s m args below meth c n D A cells slots Q (wg u) lv pc' (rest)) : Wk p l e R s m args below meth c n D A cells slots Q w lv pc (.int k :: .int dp :: .ref a :: .int sp :: .ref a0 :: rest) := wk_copyi F q0 q1 t0 t1 hlink hnat hstat hini ha0 ha1 ht0 ht1 h1 h2 h3 h4 h5 hfr hlo hw hdg hpc (kk f0 rfl)

end WK
/-! CONTRACTS: the world ahead, the world behind, the answer -/
def cPc (D : va_G) (tys : List (ClassId × FieldType)) (w0 : va_W) (av : List Value) (sz : Nat) : Array Value → State → Prop := va_Pc av (fun U => U.heap.size = sz ∧ va_P D vwCl w0 U.heap ∧ va_K D vwCl tys U ∧ va_D (fun _ => True) w0)
def cBc {S : Type} (D : va_G) (tys : List (ClassId × FieldType)) (wf : S → va_W) (w0 : va_W) (sz : Nat) : S → State → Prop := fun u t => va_P D vwCl (wf u) t.heap ∧ va_K D vwCl tys t ∧ va_D (va_A w0 sz) (wf u)
def CI {S : Type} (l : Launch) (y : MethodName) (ws : List Cond) (rm : Room) (D : va_G) (tys : List (ClassId × FieldType)) (w0 : va_W) (wf : S → va_W) (av : List Value) (mc ms : Nat) (post : Int32 → S → Prop) : Prop :=
  ∀ sz : Nat, Met l y ws rm (cPc D tys w0 av sz) (va_Qi post (cBc D tys wf w0 sz) (va_A w0 sz)) mc ms (va_A w0 sz)
def CV {S : Type} (l : Launch) (y : MethodName) (ws : List Cond) (rm : Room) (D : va_G) (tys : List (ClassId × FieldType)) (w0 : va_W) (wf : S → va_W) (av : List Value) (mc ms : Nat) (post : S → Prop) : Prop :=
  ∀ sz : Nat, Met l y ws rm (cPc D tys w0 av sz) (va_Qv post (cBc D tys wf w0 sz) (va_A w0 sz)) mc ms (va_A w0 sz)
theorem cPc_blind {D : va_G} {tys : List (ClassId × FieldType)} {w0 : va_W} {av : List Value} {sz : Nat} : FrameBlind (cPc D tys w0 av sz) := by
  intro a U g mk q
  obtain ⟨q0, q1, qP, qK, qD⟩ := q
  exact ⟨q0, q1, qP, va_K.moved (u := U) (U := U.calling g mk a) (Vm.Alike.refl U.vm) qK, qD⟩
theorem fm_of {α β : Type} {f : α → Option β} {l : List α} {r : List β} (h : l.map f = r.map some) : l.filterMap f = r := by
  have h2 : (l.map f).filterMap id = (r.map some).filterMap id := by rw [h]
  rw [List.filterMap_map, List.filterMap_map] at h2
  simpa using h2
theorem CI.of {S : Type} {l : Launch} {y : MethodName} {ws ws' : List Cond} {rm : Room} {D : va_G} {tys : List (ClassId × FieldType)} {w0 : va_W} {wf : S → va_W} {av : List Value} {mc ms : Nat} {post : Int32 → S → Prop} {cc : ByteArray} {maxL : Nat} {rt : FieldType} {own : String} {lv0 : List (Nat × Value)}
    (hy : plainName y.cls = true) (hown : y.cls = own) (hw : ws = Cond.code y cc maxL (some rt) :: ws') (hn : (lg_sl av).length ≤ maxL) (hlv : lv_args 0 av = lv0)
    (body : ∀ (p : Program) (e : Env) (s : State) (m : MethodId) (args : Array Value) (below : List Frame) (meth : Method) (c : Code) (A : Nat → Prop) (Q : State → Prop), Fx p s m args meth c cc maxL ws own (some rt) D tys A →
      (∀ (pc : Nat) (lv : List (Nat × Value)) (r : Int32) (u : S), decode cc pc = .ok (.ireturn, 1) → narrow rt (.int r) = .int r → post r u → Wk p l e rm s m args below meth c maxL D A mc ms Q (wf u) lv pc [.int r]) →
      Wk p l e rm s m args below meth c maxL D A 0 0 Q w0 lv0 0 []) : CI l y ws rm D tys w0 wf av mc ms post := by
  subst hlv
  intro sz
  refine Met.ofW (cc := cc) (maxL := maxL) (ret := some rt) hy hw ?_
  intro p e s m args below meth c s₁ B hml hv
  obtain ⟨rfl, hsz, hP, hK, hD0⟩ := hv
  have hts := atoms_spec (ws := ws) B.pre
  have hown' : s.vm.findClass own = some m.cls := hown ▸ findClass_of_methodNamed B.named
  subst hsz
  have hD := hD0.self (sz := s.heap.size)
  have F : Fx p s m av.toArray meth c cc maxL ws own (some rt) D tys (va_A w0 s.heap.size) := ⟨B.exec, B.bytes, hml, hown', hts, B.returns, B.notSynchronized, hK, fun q h => Or.inr h⟩
  have hl := lv_entry av (n := maxL) hn
  rw [lg_entry_eq]
  exact body p e s m av.toArray below meth c (va_A w0 s.heap.size) _ F (fun pc lv r u hdg hnr hpost H locs ls hP hD hS hl => W.zret B.exec B.bytes B.returns hnr (fun t ht hW => ⟨⟨r, u, rfl, hpost, by rw [ht]; exact hP, va_K.moved hW.alike hK, hD⟩, hS.F ht⟩) hS.2.2 hdg B.notSynchronized) s.heap [] _ hP hD va_S.rf hl
theorem CV.of {S : Type} {l : Launch} {y : MethodName} {ws ws' : List Cond} {rm : Room} {D : va_G} {tys : List (ClassId × FieldType)} {w0 : va_W} {wf : S → va_W} {av : List Value} {mc ms : Nat} {post : S → Prop} {cc : ByteArray} {maxL : Nat} {own : String} {lv0 : List (Nat × Value)}
    (hy : plainName y.cls = true) (hown : y.cls = own) (hw : ws = Cond.code y cc maxL none :: ws') (hn : (lg_sl av).length ≤ maxL) (hlv : lv_args 0 av = lv0)
    (body : ∀ (p : Program) (e : Env) (s : State) (m : MethodId) (args : Array Value) (below : List Frame) (meth : Method) (c : Code) (A : Nat → Prop) (Q : State → Prop), Fx p s m args meth c cc maxL ws own none D tys A → meth.name = y.name →
      (∀ (pc : Nat) (lv : List (Nat × Value)) (u : S), decode cc pc = .ok (.return_, 1) → post u → Wk p l e rm s m args below meth c maxL D A mc ms Q (wf u) lv pc []) →
      Wk p l e rm s m args below meth c maxL D A 0 0 Q w0 lv0 0 []) : CV l y ws rm D tys w0 wf av mc ms post := by
  subst hlv
  intro sz
  refine Met.ofW (cc := cc) (maxL := maxL) (ret := none) hy hw ?_
  intro p e s m args below meth c s₁ B hml hv
  obtain ⟨rfl, hsz, hP, hK, hD0⟩ := hv
  have hts := atoms_spec (ws := ws) B.pre
  have hown' : s.vm.findClass own = some m.cls := hown ▸ findClass_of_methodNamed B.named
  have hnm : meth.name = y.name := (name_of_methodNamed B.named B.method).1
  subst hsz
  have hD := hD0.self (sz := s.heap.size)
  have F : Fx p s m av.toArray meth c cc maxL ws own none D tys (va_A w0 s.heap.size) := ⟨B.exec, B.bytes, hml, hown', hts, B.returns, B.notSynchronized, hK, fun q h => Or.inr h⟩
  have hl := lv_entry av (n := maxL) hn
  rw [lg_entry_eq]
  exact body p e s m av.toArray below meth c (va_A w0 s.heap.size) _ F hnm (fun pc lv u hdg hpost H locs ls hP hD hS hl => W.vret B.exec B.bytes B.returns (fun t ht hW => ⟨⟨u, rfl, hpost, by rw [ht]; exact hP, va_K.moved hW.alike hK, hD⟩, hS.F ht⟩) hS.2.2 hdg B.notSynchronized) s.heap [] _ hP hD va_S.rf hl
section WC
variable {p : Program} {l : Launch} {e : Env} {R : Room} {s : State} {m : MethodId} {args : Array Value} {below : List Frame} {meth : Method} {c : Code} {n : Nat} {D : va_G} {A : Nat → Prop} {cells slots : Nat} {Q : State → Prop} {w : va_W} {lv : List (Nat × Value)} {pc pc' : Nat} {st rest : List Value} {cc : ByteArray} {Ts : List Cond} {own : String} {ret : Option FieldType} {tys : List (ClassId × FieldType)}
variable {S : Type} {y : MethodName} {ws2 : List Cond} {rm2 : Room} {w0 wr : va_W} {wf : S → va_W} {b : Nat} {As : List Value} {mc ms maxL nA index : Nat} {bytes : ByteArray} {C : String}
theorem wk_calliV (F : Fx p s m args meth c cc n Ts own ret D tys A) {rt : FieldType} {post : Int32 → S → Prop} (hM : CI l y ws2 rm2 D tys w0 wf (.ref b :: As) mc ms post) (cw : CallW R s args own C index y bytes maxL (some rt) ws2 rm2 mc ms nA) (isC isR : List Nat) (hC : isC.map (fun i => w[i]?) = w0.map some) (hR : isR.map (fun i => w[i]?) = wr.map some) (hnC : va_nd isC = true) (hnR : va_nd isR = true) (hdis : ∀ i ∈ isR, i ∉ isC) (q0 ci : Nat) {fs : List Value} {T : u_T} {N : Nat} (hrec : w0[q0]? = some (b, .inr (ci, fs))) (hcl : vwCl[ci]? = some (C, T, N)) (hn : As.length = nA) (hst : st = As.reverse ++ (.ref b :: rest)) (hsum : (rest.map fun v => v.category).sum ≤ 8) (hdg : decode cc pc = .ok (.invokevirtual index, 3)) (hroom : cells + mc ≤ R.cells ∧ slots + ms ≤ R.slots) (hpc : pc + 3 = pc') (kk : ∀ (r : Int32) (u : S), post r u → Wk p l e R s m args below meth c n D A (cells + mc) (slots + ms) Q (wr ++ wf u) lv pc' (.int r :: rest)) : Wk p l e R s m args below meth c n D A cells slots Q w lv pc st := by
  subst hpc
  intro H locs ls hP hD hS hl
  have hPc := hP.sub isC (fm_of hC)
  have hDc := hD.sub isC hnC hC
  have hFc := va_free (wc := w0) hD hS F.hA isC hC
  refine va_calli (va_runV (As := As) (rest := rest) F.fix (hM H.size) cw ⟨cPc_blind, va_recv F.hK hPc hcl hrec, fun U hU hW => ⟨rfl, by rw [hU], by rw [hU]; exact hPc, va_K.moved hW.alike F.hK, hDc.weaken (fun _ _ _ _ => trivial)⟩⟩ rfl hn hl.1 hst (lv_room (rest := st) (ls := ls) (m := m) (pc := pc) hsum) hdg hroom) hS (fun q _ h => hFc q h) hFc (fun r u t H1 locs1 ht hvm hpost hB hz1 hk1 hS => ?_)
  obtain ⟨hP1, hK1, hD1⟩ := hB
  rw [ht] at hP1
  obtain ⟨hP2, hD2⟩ := va_join hP hD isC isR hC hR hnR hdis hk1 hFc hP1 hD1
  exact kk r u hpost H1 locs1 ls hP2 hD2 hS hl
theorem wk_callvV (F : Fx p s m args meth c cc n Ts own ret D tys A) {post : S → Prop} (hM : CV l y ws2 rm2 D tys w0 wf (.ref b :: As) mc ms post) (cw : CallW R s args own C index y bytes maxL none ws2 rm2 mc ms nA) (isC isR : List Nat) (hC : isC.map (fun i => w[i]?) = w0.map some) (hR : isR.map (fun i => w[i]?) = wr.map some) (hnC : va_nd isC = true) (hnR : va_nd isR = true) (hdis : ∀ i ∈ isR, i ∉ isC) (q0 ci : Nat) {fs : List Value} {T : u_T} {N : Nat} (hrec : w0[q0]? = some (b, .inr (ci, fs))) (hcl : vwCl[ci]? = some (C, T, N)) (hn : As.length = nA) (hst : st = As.reverse ++ (.ref b :: rest)) (hsum : (rest.map fun v => v.category).sum ≤ 8) (hdg : decode cc pc = .ok (.invokevirtual index, 3)) (hroom : cells + mc ≤ R.cells ∧ slots + ms ≤ R.slots) (hpc : pc + 3 = pc') (kk : ∀ u : S, post u → Wk p l e R s m args below meth c n D A (cells + mc) (slots + ms) Q (wr ++ wf u) lv pc' rest) : Wk p l e R s m args below meth c n D A cells slots Q w lv pc st := by
  subst hpc
  intro H locs ls hP hD hS hl
  have hPc := hP.sub isC (fm_of hC)
  have hDc := hD.sub isC hnC hC
  have hFc := va_free (wc := w0) hD hS F.hA isC hC
  refine va_callv (va_runV (As := As) (rest := rest) F.fix (hM H.size) cw ⟨cPc_blind, va_recv F.hK hPc hcl hrec, fun U hU hW => ⟨rfl, by rw [hU], by rw [hU]; exact hPc, va_K.moved hW.alike F.hK, hDc.weaken (fun _ _ _ _ => trivial)⟩⟩ rfl hn hl.1 hst (lv_room (rest := st) (ls := ls) (m := m) (pc := pc) hsum) hdg hroom) hS (fun q _ h => hFc q h) hFc (fun u t H1 locs1 ht hvm hpost hB hz1 hk1 hS => ?_)
  obtain ⟨hP1, hK1, hD1⟩ := hB
  rw [ht] at hP1
  obtain ⟨hP2, hD2⟩ := va_join hP hD isC isR hC hR hnR hdis hk1 hFc hP1 hD1
  exact kk u hpost H1 locs1 ls hP2 hD2 hS hl
theorem wk_calliS (F : Fx p s m args meth c cc n Ts own ret D tys A) {rt : FieldType} {post : Int32 → S → Prop} (hM : CI l y ws2 rm2 D tys w0 wf As mc ms post) (cw : CallB R s args own index y bytes maxL (some rt) ws2 rm2 mc ms nA ∧ (Cond.static y).before args s = true) (isC isR : List Nat) (hC : isC.map (fun i => w[i]?) = w0.map some) (hR : isR.map (fun i => w[i]?) = wr.map some) (hnC : va_nd isC = true) (hnR : va_nd isR = true) (hdis : ∀ i ∈ isR, i ∉ isC) (hn : As.length = nA) (hst : st = As.reverse ++ rest) (hsum : (rest.map fun v => v.category).sum ≤ 8) (hdg : decode cc pc = .ok (.invokestatic index, 3)) (hroom : cells + mc ≤ R.cells ∧ slots + ms ≤ R.slots) (hpc : pc + 3 = pc') (kk : ∀ (r : Int32) (u : S), post r u → Wk p l e R s m args below meth c n D A (cells + mc) (slots + ms) Q (wr ++ wf u) lv pc' (.int r :: rest)) : Wk p l e R s m args below meth c n D A cells slots Q w lv pc st := by
  subst hpc
  intro H locs ls hP hD hS hl
  have hPc := hP.sub isC (fm_of hC)
  have hDc := hD.sub isC hnC hC
  have hFc := va_free (wc := w0) hD hS F.hA isC hC
  refine va_calli (va_runS (As := As) (rest := rest) F.fix (hM H.size) cw ⟨cPc_blind, fun U hU hW => ⟨rfl, by rw [hU], by rw [hU]; exact hPc, va_K.moved hW.alike F.hK, hDc.weaken (fun _ _ _ _ => trivial)⟩⟩ rfl hn hl.1 hst (lv_room (rest := st) (ls := ls) (m := m) (pc := pc) hsum) hdg hroom) hS (fun q _ h => hFc q h) hFc (fun r u t H1 locs1 ht hvm hpost hB hz1 hk1 hS => ?_)
  obtain ⟨hP1, hK1, hD1⟩ := hB
  rw [ht] at hP1
  obtain ⟨hP2, hD2⟩ := va_join hP hD isC isR hC hR hnR hdis hk1 hFc hP1 hD1
  exact kk r u hpost H1 locs1 ls hP2 hD2 hS hl
theorem wk_callvS (F : Fx p s m args meth c cc n Ts own ret D tys A) {post : S → Prop} (hM : CV l y ws2 rm2 D tys w0 wf As mc ms post) (cw : CallB R s args own index y bytes maxL none ws2 rm2 mc ms nA ∧ (Cond.static y).before args s = true) (isC isR : List Nat) (hC : isC.map (fun i => w[i]?) = w0.map some) (hR : isR.map (fun i => w[i]?) = wr.map some) (hnC : va_nd isC = true) (hnR : va_nd isR = true) (hdis : ∀ i ∈ isR, i ∉ isC) (hn : As.length = nA) (hst : st = As.reverse ++ rest) (hsum : (rest.map fun v => v.category).sum ≤ 8) (hdg : decode cc pc = .ok (.invokestatic index, 3)) (hroom : cells + mc ≤ R.cells ∧ slots + ms ≤ R.slots) (hpc : pc + 3 = pc') (kk : ∀ u : S, post u → Wk p l e R s m args below meth c n D A (cells + mc) (slots + ms) Q (wr ++ wf u) lv pc' rest) : Wk p l e R s m args below meth c n D A cells slots Q w lv pc st := by
  subst hpc
  intro H locs ls hP hD hS hl
  have hPc := hP.sub isC (fm_of hC)
  have hDc := hD.sub isC hnC hC
  have hFc := va_free (wc := w0) hD hS F.hA isC hC
  refine va_callv (va_runS (As := As) (rest := rest) F.fix (hM H.size) cw ⟨cPc_blind, fun U hU hW => ⟨rfl, by rw [hU], by rw [hU]; exact hPc, va_K.moved hW.alike F.hK, hDc.weaken (fun _ _ _ _ => trivial)⟩⟩ rfl hn hl.1 hst (lv_room (rest := st) (ls := ls) (m := m) (pc := pc) hsum) hdg hroom) hS (fun q _ h => hFc q h) hFc (fun u t H1 locs1 ht hvm hpost hB hz1 hk1 hS => ?_)
  obtain ⟨hP1, hK1, hD1⟩ := hB
  rw [ht] at hP1
  obtain ⟨hP2, hD2⟩ := va_join hP hD isC isR hC hR hnR hdis hk1 hFc hP1 hD1
  exact kk u hpost H1 locs1 ls hP2 hD2 hS hl
theorem wk_callvI (F : Fx p s m args meth c cc n Ts own ret D tys A) {post : S → Prop} (hM : CV l y ws2 rm2 D tys w0 wf (.ref b :: As) mc ms post) (cw : CallB R s args own index y bytes maxL none ws2 rm2 mc ms nA ∧ y.name = "<init>" ∧ (Cond.instanceMethod y).before args s = true) (isC isR : List Nat) (hC : isC.map (fun i => w[i]?) = w0.map some) (hR : isR.map (fun i => w[i]?) = wr.map some) (hnC : va_nd isC = true) (hnR : va_nd isR = true) (hdis : ∀ i ∈ isR, i ∉ isC) (hn : As.length = nA) (hst : st = As.reverse ++ (.ref b :: rest)) (hsum : (rest.map fun v => v.category).sum ≤ 8) (hdg : decode cc pc = .ok (.invokespecial index, 3)) (hroom : cells + mc ≤ R.cells ∧ slots + ms ≤ R.slots) (hpc : pc + 3 = pc') (kk : ∀ u : S, post u → Wk p l e R s m args below meth c n D A (cells + mc) (slots + ms) Q (wr ++ wf u) lv pc' rest) : Wk p l e R s m args below meth c n D A cells slots Q w lv pc st := by
  subst hpc
  intro H locs ls hP hD hS hl
  have hPc := hP.sub isC (fm_of hC)
  have hDc := hD.sub isC hnC hC
  have hFc := va_free (wc := w0) hD hS F.hA isC hC
  refine va_callv (va_runI (As := As) (rest := rest) F.fix (hM H.size) cw ⟨cPc_blind, fun U hU hW => ⟨rfl, by rw [hU], by rw [hU]; exact hPc, va_K.moved hW.alike F.hK, hDc.weaken (fun _ _ _ _ => trivial)⟩⟩ rfl hn hl.1 hst (lv_room (rest := st) (ls := ls) (m := m) (pc := pc) hsum) hdg hroom) hS (fun q _ h => hFc q h) hFc (fun u t H1 locs1 ht hvm hpost hB hz1 hk1 hS => ?_)
  obtain ⟨hP1, hK1, hD1⟩ := hB
  rw [ht] at hP1
  obtain ⟨hP2, hD2⟩ := va_join hP hD isC isR hC hR hnR hdis hk1 hFc hP1 hD1
  exact kk u hpost H1 locs1 ls hP2 hD2 hS hl
theorem nd_range' (k : Nat) : ∀ a : Nat, va_nd (List.range' a k) = true := by
  induction k with
  | zero => intro a; rfl
  | succ k ih =>
    intro a
    rw [List.range'_succ]
    show (decide (a ∉ List.range' (a + 1) k) && va_nd (List.range' (a + 1) k)) = true
    rw [ih, Bool.and_true, decide_eq_true_eq]
    intro h
    have := (List.mem_range'_1.mp h).1
    omega
theorem nd_range (k : Nat) : va_nd (List.range k) = true := by
  rw [List.range_eq_range']
  exact nd_range' k 0
theorem all_map (w : va_W) : (List.range w.length).map (fun i => w[i]?) = w.map some := by
  apply List.ext_getElem?
  intro i
  by_cases h : i < w.length
  · simp [h]
  · simp [h]
/-- the callee's world is the caller's -/
theorem wk_same_i (F : Fx p s m args meth c cc n Ts own ret D tys A) {rt : FieldType} {post : Int32 → S → Prop} (hM : CI l y ws2 rm2 D tys w wf (.ref b :: As) 0 0 post) (cw : CallW R s args own C index y bytes maxL (some rt) ws2 rm2 0 0 nA) (q0 ci : Nat) {fs : List Value} {T : u_T} {N : Nat} (hrec : w[q0]? = some (b, .inr (ci, fs))) (hcl : vwCl[ci]? = some (C, T, N)) (hn : As.length = nA) (hst : st = As.reverse ++ (.ref b :: rest)) (hsum : (rest.map fun v => v.category).sum ≤ 8) (hdg : decode cc pc = .ok (.invokevirtual index, 3)) (hroom : cells ≤ R.cells ∧ slots ≤ R.slots) (hpc : pc + 3 = pc') (kk : ∀ (r : Int32) (u : S), post r u → Wk p l e R s m args below meth c n D A cells slots Q (wf u) lv pc' (.int r :: rest)) : Wk p l e R s m args below meth c n D A cells slots Q w lv pc st :=
  wk_calliV (wr := []) F hM cw (List.range w.length) [] (all_map w) rfl (nd_range _) rfl (fun _ h => absurd h List.not_mem_nil) q0 ci hrec hcl hn hst hsum hdg hroom hpc kk
theorem wk_same_v (F : Fx p s m args meth c cc n Ts own ret D tys A) {post : S → Prop} (hM : CV l y ws2 rm2 D tys w wf (.ref b :: As) 0 0 post) (cw : CallW R s args own C index y bytes maxL none ws2 rm2 0 0 nA) (q0 ci : Nat) {fs : List Value} {T : u_T} {N : Nat} (hrec : w[q0]? = some (b, .inr (ci, fs))) (hcl : vwCl[ci]? = some (C, T, N)) (hn : As.length = nA) (hst : st = As.reverse ++ (.ref b :: rest)) (hsum : (rest.map fun v => v.category).sum ≤ 8) (hdg : decode cc pc = .ok (.invokevirtual index, 3)) (hroom : cells ≤ R.cells ∧ slots ≤ R.slots) (hpc : pc + 3 = pc') (kk : ∀ u : S, post u → Wk p l e R s m args below meth c n D A cells slots Q (wf u) lv pc' rest) : Wk p l e R s m args below meth c n D A cells slots Q w lv pc st :=
  wk_callvV (wr := []) F hM cw (List.range w.length) [] (all_map w) rfl (nd_range _) rfl (fun _ h => absurd h List.not_mem_nil) q0 ci hrec hcl hn hst hsum hdg hroom hpc kk
/-- a method that answers and leaves its world as it was -/
def CP {S : Type} (l : Launch) (y : MethodName) (ws : List Cond) (rm : Room) (D : va_G) (tys : List (ClassId × FieldType)) (wf : S → va_W) (u : S) (av : List Value) (v : Int32) : Prop := CI l y ws rm D tys (wf u) wf av 0 0 (fun r u2 => r = v ∧ u2 = u)
/-- a method that sees no world -/
def CN (l : Launch) (y : MethodName) (ws : List Cond) (rm : Room) (D : va_G) (tys : List (ClassId × FieldType)) (av : List Value) (v : Int32) : Prop := CI (S := Unit) l y ws rm D tys [] (fun _ => []) av 0 0 (fun r _ => r = v)
theorem wk_same_p {u0 : S} {v : Int32} (F : Fx p s m args meth c cc n Ts own ret D tys A) {rt : FieldType} (hM : CP l y ws2 rm2 D tys wf u0 (.ref b :: As) v) (cw : CallW R s args own C index y bytes maxL (some rt) ws2 rm2 0 0 nA) (q0 ci : Nat) {fs : List Value} {T : u_T} {N : Nat} (hrec : (wf u0)[q0]? = some (b, .inr (ci, fs))) (hcl : vwCl[ci]? = some (C, T, N)) (hn : As.length = nA) (hst : st = As.reverse ++ (.ref b :: rest)) (hsum : (rest.map fun v => v.category).sum ≤ 8) (hdg : decode cc pc = .ok (.invokevirtual index, 3)) (hroom : cells ≤ R.cells ∧ slots ≤ R.slots) (hpc : pc + 3 = pc') (kk : Wk p l e R s m args below meth c n D A cells slots Q (wf u0) lv pc' (.int v :: rest)) : Wk p l e R s m args below meth c n D A cells slots Q (wf u0) lv pc st :=
  wk_same_i F hM cw q0 ci hrec hcl hn hst hsum hdg hroom hpc (fun r u h => by obtain ⟨h1, h2⟩ := h; rw [h1, h2]; exact kk)
theorem wk_sub_p {u0 : S} {v : Int32} (F : Fx p s m args meth c cc n Ts own ret D tys A) {rt : FieldType} (hM : CP l y ws2 rm2 D tys wf u0 (.ref b :: As) v) (cw : CallW R s args own C index y bytes maxL (some rt) ws2 rm2 0 0 nA) (isC isR : List Nat) (hC : isC.map (fun i => w[i]?) = (wf u0).map some) (hR : isR.map (fun i => w[i]?) = wr.map some) (hnC : va_nd isC = true) (hnR : va_nd isR = true) (hdis : ∀ i ∈ isR, i ∉ isC) (q0 ci : Nat) {fs : List Value} {T : u_T} {N : Nat} (hrec : (wf u0)[q0]? = some (b, .inr (ci, fs))) (hcl : vwCl[ci]? = some (C, T, N)) (hn : As.length = nA) (hst : st = As.reverse ++ (.ref b :: rest)) (hsum : (rest.map fun v => v.category).sum ≤ 8) (hdg : decode cc pc = .ok (.invokevirtual index, 3)) (hroom : cells ≤ R.cells ∧ slots ≤ R.slots) (hpc : pc + 3 = pc') (perm : List Nat) (hnp : va_nd perm = true) (hp : perm.map (fun i => (wr ++ wf u0)[i]?) = w.map some) (kk : Wk p l e R s m args below meth c n D A cells slots Q w lv pc' (.int v :: rest)) : Wk p l e R s m args below meth c n D A cells slots Q w lv pc st :=
  wk_calliV F hM cw isC isR hC hR hnC hnR hdis q0 ci hrec hcl hn hst hsum hdg hroom hpc (fun r u h => by obtain ⟨h1, h2⟩ := h; rw [h1, h2]; exact wk_pick perm hnp hp kk)
theorem wk_sub_i {f : Int32 × S} {w' : S → va_W} (F : Fx p s m args meth c cc n Ts own ret D tys A) {rt : FieldType} (hM : CI l y ws2 rm2 D tys w0 wf (.ref b :: As) 0 0 (fun r u => f = (r, u))) (cw : CallW R s args own C index y bytes maxL (some rt) ws2 rm2 0 0 nA) (isC isR : List Nat) (hC : isC.map (fun i => w[i]?) = w0.map some) (hR : isR.map (fun i => w[i]?) = wr.map some) (hnC : va_nd isC = true) (hnR : va_nd isR = true) (hdis : ∀ i ∈ isR, i ∉ isC) (q0 ci : Nat) {fs : List Value} {T : u_T} {N : Nat} (hrec : w0[q0]? = some (b, .inr (ci, fs))) (hcl : vwCl[ci]? = some (C, T, N)) (hn : As.length = nA) (hst : st = As.reverse ++ (.ref b :: rest)) (hsum : (rest.map fun v => v.category).sum ≤ 8) (hdg : decode cc pc = .ok (.invokevirtual index, 3)) (hroom : cells ≤ R.cells ∧ slots ≤ R.slots) (hpc : pc + 3 = pc') (hw : wr ++ wf f.2 = w' f.2) (kk : ∀ (r : Int32) (u : S), f = (r, u) → Wk p l e R s m args below meth c n D A cells slots Q (w' u) lv pc' (.int r :: rest)) : Wk p l e R s m args below meth c n D A cells slots Q w lv pc st :=
  wk_calliV F hM cw isC isR hC hR hnC hnR hdis q0 ci hrec hcl hn hst hsum hdg hroom hpc (fun r u h => (show wr ++ wf u = w' u by have h2 : f.2 = u := (by rw [h]); rw [← h2]; exact hw) ▸ kk r u h)
theorem wk_sub_v {f : S} {w' : S → va_W} (F : Fx p s m args meth c cc n Ts own ret D tys A) (hM : CV l y ws2 rm2 D tys w0 wf (.ref b :: As) 0 0 (fun u => f = u)) (cw : CallW R s args own C index y bytes maxL none ws2 rm2 0 0 nA) (isC isR : List Nat) (hC : isC.map (fun i => w[i]?) = w0.map some) (hR : isR.map (fun i => w[i]?) = wr.map some) (hnC : va_nd isC = true) (hnR : va_nd isR = true) (hdis : ∀ i ∈ isR, i ∉ isC) (q0 ci : Nat) {fs : List Value} {T : u_T} {N : Nat} (hrec : w0[q0]? = some (b, .inr (ci, fs))) (hcl : vwCl[ci]? = some (C, T, N)) (hn : As.length = nA) (hst : st = As.reverse ++ (.ref b :: rest)) (hsum : (rest.map fun v => v.category).sum ≤ 8) (hdg : decode cc pc = .ok (.invokevirtual index, 3)) (hroom : cells ≤ R.cells ∧ slots ≤ R.slots) (hpc : pc + 3 = pc') (hw : wr ++ wf f = w' f) (kk : ∀ u : S, f = u → Wk p l e R s m args below meth c n D A cells slots Q (w' u) lv pc' rest) : Wk p l e R s m args below meth c n D A cells slots Q w lv pc st :=
  wk_callvV F hM cw isC isR hC hR hnC hnR hdis q0 ci hrec hcl hn hst hsum hdg hroom hpc (fun u h => by rw [← h, hw]; exact kk f rfl)
theorem wk_none_s {v : Int32} (F : Fx p s m args meth c cc n Ts own ret D tys A) {rt : FieldType} (hM : CN l y ws2 rm2 D tys As v) (cw : CallB R s args own index y bytes maxL (some rt) ws2 rm2 0 0 nA ∧ (Cond.static y).before args s = true) (hn : As.length = nA) (hst : st = As.reverse ++ rest) (hsum : (rest.map fun v => v.category).sum ≤ 8) (hdg : decode cc pc = .ok (.invokestatic index, 3)) (hroom : cells ≤ R.cells ∧ slots ≤ R.slots) (hpc : pc + 3 = pc') (kk : Wk p l e R s m args below meth c n D A cells slots Q w lv pc' (.int v :: rest)) : Wk p l e R s m args below meth c n D A cells slots Q w lv pc st :=
  wk_calliS (wr := w) F hM cw [] (List.range w.length) rfl (all_map w) rfl (nd_range _) (fun _ _ h => absurd h List.not_mem_nil) hn hst hsum hdg hroom hpc (fun r u h => by rw [h, List.append_nil]; exact kk)
end WC
theorem CP.of {S : Type} {l : Launch} {y : MethodName} {ws ws' : List Cond} {rm : Room} {D : va_G} {tys : List (ClassId × FieldType)} {wf : S → va_W} {u0 : S} {av : List Value} {v : Int32} {cc : ByteArray} {maxL : Nat} {rt : FieldType} {own : String} {lv0 : List (Nat × Value)}
    (hy : plainName y.cls = true) (hown : y.cls = own) (hw : ws = Cond.code y cc maxL (some rt) :: ws') (hn : (lg_sl av).length ≤ maxL) (hlv : lv_args 0 av = lv0)
    (body : ∀ (p : Program) (e : Env) (s : State) (m : MethodId) (args : Array Value) (below : List Frame) (meth : Method) (c : Code) (A : Nat → Prop) (Q : State → Prop), Fx p s m args meth c cc maxL ws own (some rt) D tys A →
      (∀ (pc : Nat) (lv : List (Nat × Value)) (r : Int32), decode cc pc = .ok (.ireturn, 1) → narrow rt (.int r) = .int r → r = v → Wk p l e rm s m args below meth c maxL D A 0 0 Q (wf u0) lv pc [.int r]) →
      Wk p l e rm s m args below meth c maxL D A 0 0 Q (wf u0) lv0 0 []) : CP l y ws rm D tys wf u0 av v :=
  CI.of hy hown hw hn hlv (fun p e s m args below meth c A Q F hret => body p e s m args below meth c A Q F (fun pc lv r hd hn2 h => hret pc lv r u0 hd hn2 ⟨h, rfl⟩))
theorem CN.of {l : Launch} {y : MethodName} {ws ws' : List Cond} {rm : Room} {D : va_G} {tys : List (ClassId × FieldType)} {av : List Value} {v : Int32} {cc : ByteArray} {maxL : Nat} {rt : FieldType} {own : String} {lv0 : List (Nat × Value)}
    (hy : plainName y.cls = true) (hown : y.cls = own) (hw : ws = Cond.code y cc maxL (some rt) :: ws') (hn : (lg_sl av).length ≤ maxL) (hlv : lv_args 0 av = lv0)
    (body : ∀ (p : Program) (e : Env) (s : State) (m : MethodId) (args : Array Value) (below : List Frame) (meth : Method) (c : Code) (A : Nat → Prop) (Q : State → Prop), Fx p s m args meth c cc maxL ws own (some rt) D tys A →
      (∀ (pc : Nat) (lv : List (Nat × Value)) (r : Int32), decode cc pc = .ok (.ireturn, 1) → narrow rt (.int r) = .int r → r = v → Wk p l e rm s m args below meth c maxL D A 0 0 Q [] lv pc [.int r]) →
      Wk p l e rm s m args below meth c maxL D A 0 0 Q [] lv0 0 []) : CN l y ws rm D tys av v :=
  CI.of hy hown hw hn hlv (fun p e s m args below meth c A Q F hret => body p e s m args below meth c A Q F (fun pc lv r hd hn2 h => hret pc lv r () hd hn2 h))
abbrev PS : Type := Nat → Nat → Int32
abbrev cty (cI cP : ClassId) : List (ClassId × FieldType) := [(cI, .int), (cP, .object "ThinVolumes$Pool")]
/-- row j of a state is f; place k of row j is x -/
def setA (u : PS) (j : Nat) (f : Nat → Int32) : PS := fun b => bif Nat.beq b j then f else u b
def wr (u : PS) (j k : Nat) (x : Int32) : PS := setA u j (upd (u j) k x)
theorem nI_inc (i : Nat) : nI i + Int32.ofInt 1 = nI (i + 1) := nI_1 i
theorem nI_dec {i : Nat} (h : 0 < i) : nI i + Int32.ofInt (-1) = nI (i - 1) := by
  obtain ⟨k, rfl⟩ : ∃ k, i = k + 1 := ⟨i - 1, by omega⟩
  exact pk_m1 k
theorem vin {x : Int32} {N : Nat} (h0 : ¬ x < 0) (h1 : ¬ nI N ≤ x) (hN : N < 2 ^ 31) : vp_in x N := by
  obtain ⟨j, hj, rfl⟩ := nI_of h0
  refine vp_in_nI ?_ hN
  rcases Nat.lt_or_ge j N with h | h
  · exact h
  · exact absurd (nI_le h hj) h1
theorem ti_ne {x y : Int32} {k : Int} (h : ¬ x = y) (hk : y.toInt = k) : x.toInt ≠ k := fun e => h (Int32.toInt_inj.mp (e.trans hk.symm))
theorem lt_nle {x y : Int32} (h : x < y) : ¬ y ≤ x := Int32.not_le.mpr h
theorem ge_nlt {x y : Int32} (h : y ≤ x) : ¬ x < y := Int32.not_lt.mpr h
theorem nlt_nle {x : Int32} {N : Nat} (h : ¬ nI N < x) (hN : N + 1 < 2 ^ 31) : ¬ nI (N + 1) ≤ x := fun q => h (Int32.lt_of_lt_of_le (nI_lt (Nat.lt_succ_self N) hN) q)
theorem le_nle {x : Int32} {N : Nat} (h : x ≤ nI N) (hN : N + 1 < 2 ^ 31) : ¬ nI (N + 1) ≤ x := nlt_nle (Int32.not_lt.mpr h) hN
/-! the worlds -/
def wPool (cI : ClassId) (hs : Nat → Nat) (u : PS) : va_W := [(hs 0, .inr (1, [.ref (hs 1), .ref (hs 2), .ref (hs 3), .ref (hs 4), .ref (hs 5), .ref (hs 6), .ref (hs 7), .ref (hs 8), .ref (hs 9), .ref (hs 10), .ref (hs 11), .int (u 13 0), .int (u 13 1), .int (u 13 2)])),
  (hs 1, .inl (cI, 8, .inl (u 0))), (hs 2, .inl (cI, 8, .inl (u 1))), (hs 3, .inl (cI, 8, .inl (u 2))), (hs 4, .inl (cI, 8, .inl (u 3))), (hs 5, .inl (cI, 8, .inl (u 4))), (hs 6, .inl (cI, 8, .inl (u 5))), (hs 7, .inl (cI, 320, .inl (u 6))), (hs 8, .inl (cI, 30, .inl (u 7))), (hs 9, .inl (cI, 30, .inl (u 8))), (hs 10, .inl (cI, 3, .inl (u 9))),
  (hs 11, .inr (4, [.ref (hs 12), .ref (hs 13), .ref (hs 14), .int (u 13 3)])), (hs 12, .inl (cI, 10, .inl (u 10))), (hs 13, .inl (cI, 10, .inl (u 11))), (hs 14, .inl (cI, 10, .inl (u 12)))]
def wWarn (cI : ClassId) (hs : Nat → Nat) (u : PS) : va_W := [(hs 11, .inr (4, [.ref (hs 12), .ref (hs 13), .ref (hs 14), .int (u 13 3)])), (hs 12, .inl (cI, 10, .inl (u 10))), (hs 13, .inl (cI, 10, .inl (u 11))), (hs 14, .inl (cI, 10, .inl (u 12)))]
def wText (cI : ClassId) (hs : Nat → Nat) (u : PS) : va_W := [(hs 0, .inr (3, [.ref (hs 1), .int (u 2 0), .int (u 2 1), .ref (hs 2), .int (u 2 2)])), (hs 1, .inl (cI, 60, .inl (u 0))), (hs 2, .inl (cI, 3, .inl (u 1)))]
def wMod (cI : ClassId) (hs : Nat → Nat) (u : PS) : va_W := [(hs 0, .inr (6, [.ref (hs 1), .ref (hs 2), .ref (hs 3), .ref (hs 4), .int (u 6 0), .int (u 6 1), .ref (hs 5), .int (u 6 2), .int (u 6 3), .int (u 6 4), .int (u 6 5), .ref (hs 6)])),
  (hs 1, .inl (cI, 443, .inl (u 0))), (hs 2, .inl (cI, 1772, .inl (u 1))), (hs 3, .inl (cI, 443, .inl (u 2))), (hs 4, .inl (cI, 443, .inl (u 3))), (hs 5, .inl (cI, 60, .inl (u 4))), (hs 6, .inl (cI, 3, .inl (u 5)))]
theorem aP_0 {cI : ClassId} {hs : Nat → Nat} {u : PS} {f : Nat → Int32} : (wPool cI hs u).set 1 (hs 1, .inl (cI, 8, .inl f)) = wPool cI hs (setA u 0 f) := rfl
theorem aP_1 {cI : ClassId} {hs : Nat → Nat} {u : PS} {f : Nat → Int32} : (wPool cI hs u).set 2 (hs 2, .inl (cI, 8, .inl f)) = wPool cI hs (setA u 1 f) := rfl
theorem aP_2 {cI : ClassId} {hs : Nat → Nat} {u : PS} {f : Nat → Int32} : (wPool cI hs u).set 3 (hs 3, .inl (cI, 8, .inl f)) = wPool cI hs (setA u 2 f) := rfl
theorem aP_3 {cI : ClassId} {hs : Nat → Nat} {u : PS} {f : Nat → Int32} : (wPool cI hs u).set 4 (hs 4, .inl (cI, 8, .inl f)) = wPool cI hs (setA u 3 f) := rfl
theorem aP_4 {cI : ClassId} {hs : Nat → Nat} {u : PS} {f : Nat → Int32} : (wPool cI hs u).set 5 (hs 5, .inl (cI, 8, .inl f)) = wPool cI hs (setA u 4 f) := rfl
theorem aP_5 {cI : ClassId} {hs : Nat → Nat} {u : PS} {f : Nat → Int32} : (wPool cI hs u).set 6 (hs 6, .inl (cI, 8, .inl f)) = wPool cI hs (setA u 5 f) := rfl
theorem aP_6 {cI : ClassId} {hs : Nat → Nat} {u : PS} {f : Nat → Int32} : (wPool cI hs u).set 7 (hs 7, .inl (cI, 320, .inl f)) = wPool cI hs (setA u 6 f) := rfl
theorem aP_7 {cI : ClassId} {hs : Nat → Nat} {u : PS} {f : Nat → Int32} : (wPool cI hs u).set 8 (hs 8, .inl (cI, 30, .inl f)) = wPool cI hs (setA u 7 f) := rfl
theorem aP_8 {cI : ClassId} {hs : Nat → Nat} {u : PS} {f : Nat → Int32} : (wPool cI hs u).set 9 (hs 9, .inl (cI, 30, .inl f)) = wPool cI hs (setA u 8 f) := rfl
theorem aP_9 {cI : ClassId} {hs : Nat → Nat} {u : PS} {f : Nat → Int32} : (wPool cI hs u).set 10 (hs 10, .inl (cI, 3, .inl f)) = wPool cI hs (setA u 9 f) := rfl
theorem aP_10 {cI : ClassId} {hs : Nat → Nat} {u : PS} {f : Nat → Int32} : (wPool cI hs u).set 12 (hs 12, .inl (cI, 10, .inl f)) = wPool cI hs (setA u 10 f) := rfl
theorem aP_11 {cI : ClassId} {hs : Nat → Nat} {u : PS} {f : Nat → Int32} : (wPool cI hs u).set 13 (hs 13, .inl (cI, 10, .inl f)) = wPool cI hs (setA u 11 f) := rfl
theorem aP_12 {cI : ClassId} {hs : Nat → Nat} {u : PS} {f : Nat → Int32} : (wPool cI hs u).set 14 (hs 14, .inl (cI, 10, .inl f)) = wPool cI hs (setA u 12 f) := rfl
theorem sP_0 {cI : ClassId} {hs : Nat → Nat} {u : PS} {x : Int32} : (wPool cI hs u).set 0 (hs 0, .inr (1, ([.ref (hs 1), .ref (hs 2), .ref (hs 3), .ref (hs 4), .ref (hs 5), .ref (hs 6), .ref (hs 7), .ref (hs 8), .ref (hs 9), .ref (hs 10), .ref (hs 11), .int (u 13 0), .int (u 13 1), .int (u 13 2)] : List Value).set 11 (.int x))) = wPool cI hs (wr u 13 0 x) := rfl
theorem sP_1 {cI : ClassId} {hs : Nat → Nat} {u : PS} {x : Int32} : (wPool cI hs u).set 0 (hs 0, .inr (1, ([.ref (hs 1), .ref (hs 2), .ref (hs 3), .ref (hs 4), .ref (hs 5), .ref (hs 6), .ref (hs 7), .ref (hs 8), .ref (hs 9), .ref (hs 10), .ref (hs 11), .int (u 13 0), .int (u 13 1), .int (u 13 2)] : List Value).set 12 (.int x))) = wPool cI hs (wr u 13 1 x) := rfl
theorem sP_2 {cI : ClassId} {hs : Nat → Nat} {u : PS} {x : Int32} : (wPool cI hs u).set 0 (hs 0, .inr (1, ([.ref (hs 1), .ref (hs 2), .ref (hs 3), .ref (hs 4), .ref (hs 5), .ref (hs 6), .ref (hs 7), .ref (hs 8), .ref (hs 9), .ref (hs 10), .ref (hs 11), .int (u 13 0), .int (u 13 1), .int (u 13 2)] : List Value).set 13 (.int x))) = wPool cI hs (wr u 13 2 x) := rfl
theorem aW_10 {cI : ClassId} {hs : Nat → Nat} {u : PS} {f : Nat → Int32} : (wWarn cI hs u).set 1 (hs 12, .inl (cI, 10, .inl f)) = wWarn cI hs (setA u 10 f) := rfl
theorem aW_11 {cI : ClassId} {hs : Nat → Nat} {u : PS} {f : Nat → Int32} : (wWarn cI hs u).set 2 (hs 13, .inl (cI, 10, .inl f)) = wWarn cI hs (setA u 11 f) := rfl
theorem aW_12 {cI : ClassId} {hs : Nat → Nat} {u : PS} {f : Nat → Int32} : (wWarn cI hs u).set 3 (hs 14, .inl (cI, 10, .inl f)) = wWarn cI hs (setA u 12 f) := rfl
theorem sW_3 {cI : ClassId} {hs : Nat → Nat} {u : PS} {x : Int32} : (wWarn cI hs u).set 0 (hs 11, .inr (4, ([.ref (hs 12), .ref (hs 13), .ref (hs 14), .int (u 13 3)] : List Value).set 3 (.int x))) = wWarn cI hs (wr u 13 3 x) := rfl
theorem aT_0 {cI : ClassId} {hs : Nat → Nat} {u : PS} {f : Nat → Int32} : (wText cI hs u).set 1 (hs 1, .inl (cI, 60, .inl f)) = wText cI hs (setA u 0 f) := rfl
theorem aT_1 {cI : ClassId} {hs : Nat → Nat} {u : PS} {f : Nat → Int32} : (wText cI hs u).set 2 (hs 2, .inl (cI, 3, .inl f)) = wText cI hs (setA u 1 f) := rfl
theorem sT_0 {cI : ClassId} {hs : Nat → Nat} {u : PS} {x : Int32} : (wText cI hs u).set 0 (hs 0, .inr (3, ([.ref (hs 1), .int (u 2 0), .int (u 2 1), .ref (hs 2), .int (u 2 2)] : List Value).set 1 (.int x))) = wText cI hs (wr u 2 0 x) := rfl
theorem sT_1 {cI : ClassId} {hs : Nat → Nat} {u : PS} {x : Int32} : (wText cI hs u).set 0 (hs 0, .inr (3, ([.ref (hs 1), .int (u 2 0), .int (u 2 1), .ref (hs 2), .int (u 2 2)] : List Value).set 2 (.int x))) = wText cI hs (wr u 2 1 x) := rfl
theorem sT_2 {cI : ClassId} {hs : Nat → Nat} {u : PS} {x : Int32} : (wText cI hs u).set 0 (hs 0, .inr (3, ([.ref (hs 1), .int (u 2 0), .int (u 2 1), .ref (hs 2), .int (u 2 2)] : List Value).set 4 (.int x))) = wText cI hs (wr u 2 2 x) := rfl
theorem aM_0 {cI : ClassId} {hs : Nat → Nat} {u : PS} {f : Nat → Int32} : (wMod cI hs u).set 1 (hs 1, .inl (cI, 443, .inl f)) = wMod cI hs (setA u 0 f) := rfl
theorem aM_1 {cI : ClassId} {hs : Nat → Nat} {u : PS} {f : Nat → Int32} : (wMod cI hs u).set 2 (hs 2, .inl (cI, 1772, .inl f)) = wMod cI hs (setA u 1 f) := rfl
theorem aM_2 {cI : ClassId} {hs : Nat → Nat} {u : PS} {f : Nat → Int32} : (wMod cI hs u).set 3 (hs 3, .inl (cI, 443, .inl f)) = wMod cI hs (setA u 2 f) := rfl
theorem aM_3 {cI : ClassId} {hs : Nat → Nat} {u : PS} {f : Nat → Int32} : (wMod cI hs u).set 4 (hs 4, .inl (cI, 443, .inl f)) = wMod cI hs (setA u 3 f) := rfl
theorem aM_4 {cI : ClassId} {hs : Nat → Nat} {u : PS} {f : Nat → Int32} : (wMod cI hs u).set 5 (hs 5, .inl (cI, 60, .inl f)) = wMod cI hs (setA u 4 f) := rfl
theorem aM_5 {cI : ClassId} {hs : Nat → Nat} {u : PS} {f : Nat → Int32} : (wMod cI hs u).set 6 (hs 6, .inl (cI, 3, .inl f)) = wMod cI hs (setA u 5 f) := rfl
theorem sM_0 {cI : ClassId} {hs : Nat → Nat} {u : PS} {x : Int32} : (wMod cI hs u).set 0 (hs 0, .inr (6, ([.ref (hs 1), .ref (hs 2), .ref (hs 3), .ref (hs 4), .int (u 6 0), .int (u 6 1), .ref (hs 5), .int (u 6 2), .int (u 6 3), .int (u 6 4), .int (u 6 5), .ref (hs 6)] : List Value).set 4 (.int x))) = wMod cI hs (wr u 6 0 x) := rfl
theorem sM_1 {cI : ClassId} {hs : Nat → Nat} {u : PS} {x : Int32} : (wMod cI hs u).set 0 (hs 0, .inr (6, ([.ref (hs 1), .ref (hs 2), .ref (hs 3), .ref (hs 4), .int (u 6 0), .int (u 6 1), .ref (hs 5), .int (u 6 2), .int (u 6 3), .int (u 6 4), .int (u 6 5), .ref (hs 6)] : List Value).set 5 (.int x))) = wMod cI hs (wr u 6 1 x) := rfl
theorem sM_2 {cI : ClassId} {hs : Nat → Nat} {u : PS} {x : Int32} : (wMod cI hs u).set 0 (hs 0, .inr (6, ([.ref (hs 1), .ref (hs 2), .ref (hs 3), .ref (hs 4), .int (u 6 0), .int (u 6 1), .ref (hs 5), .int (u 6 2), .int (u 6 3), .int (u 6 4), .int (u 6 5), .ref (hs 6)] : List Value).set 7 (.int x))) = wMod cI hs (wr u 6 2 x) := rfl
theorem sM_3 {cI : ClassId} {hs : Nat → Nat} {u : PS} {x : Int32} : (wMod cI hs u).set 0 (hs 0, .inr (6, ([.ref (hs 1), .ref (hs 2), .ref (hs 3), .ref (hs 4), .int (u 6 0), .int (u 6 1), .ref (hs 5), .int (u 6 2), .int (u 6 3), .int (u 6 4), .int (u 6 5), .ref (hs 6)] : List Value).set 8 (.int x))) = wMod cI hs (wr u 6 3 x) := rfl
theorem sM_4 {cI : ClassId} {hs : Nat → Nat} {u : PS} {x : Int32} : (wMod cI hs u).set 0 (hs 0, .inr (6, ([.ref (hs 1), .ref (hs 2), .ref (hs 3), .ref (hs 4), .int (u 6 0), .int (u 6 1), .ref (hs 5), .int (u 6 2), .int (u 6 3), .int (u 6 4), .int (u 6 5), .ref (hs 6)] : List Value).set 9 (.int x))) = wMod cI hs (wr u 6 4 x) := rfl
theorem sM_5 {cI : ClassId} {hs : Nat → Nat} {u : PS} {x : Int32} : (wMod cI hs u).set 0 (hs 0, .inr (6, ([.ref (hs 1), .ref (hs 2), .ref (hs 3), .ref (hs 4), .int (u 6 0), .int (u 6 1), .ref (hs 5), .int (u 6 2), .int (u 6 3), .int (u 6 4), .int (u 6 5), .ref (hs 6)] : List Value).set 10 (.int x))) = wMod cI hs (wr u 6 5 x) := rfl
def wPool11 (cI : ClassId) (hs : Nat → Nat) (u : PS) : va_W := [(hs 0, .inr (1, [.ref (hs 1), .ref (hs 2), .ref (hs 3), .ref (hs 4), .ref (hs 5), .ref (hs 6), .ref (hs 7), .ref (hs 8), .ref (hs 9), .ref (hs 10), .ref (hs 11), .int (u 13 0), .int (u 13 1), .int (u 13 2)])), (hs 1, .inl (cI, 8, .inl (u 0))), (hs 2, .inl (cI, 8, .inl (u 1))), (hs 3, .inl (cI, 8, .inl (u 2))), (hs 4, .inl (cI, 8, .inl (u 3))), (hs 5, .inl (cI, 8, .inl (u 4))), (hs 6, .inl (cI, 8, .inl (u 5))), (hs 7, .inl (cI, 320, .inl (u 6))), (hs 8, .inl (cI, 30, .inl (u 7))), (hs 9, .inl (cI, 30, .inl (u 8))), (hs 10, .inl (cI, 3, .inl (u 9)))]
theorem hCW {cI : ClassId} {hs : Nat → Nat} {u : PS} : [11, 12, 13, 14].map (fun i => (wPool cI hs u)[i]?) = (wWarn cI hs u).map some := rfl
theorem hRW {cI : ClassId} {hs : Nat → Nat} {u : PS} : [0, 1, 2, 3, 4, 5, 6, 7, 8, 9, 10].map (fun i => (wPool cI hs u)[i]?) = (wPool11 cI hs u).map some := rfl
end
section
theorem pnX0 : plainName RX0 = true := by decide +kernel
theorem pnX1 : plainName RX1 = true := by decide +kernel
theorem pnX2 : plainName RX2 = true := by decide +kernel
theorem pnX3 : plainName RX3 = true := by decide +kernel
theorem pnX4 : plainName RX4 = true := by decide +kernel
theorem pnX5 : plainName RX5 = true := by decide +kernel
theorem pnX6 : plainName RX6 = true := by decide +kernel
theorem hdX0_copyInto : yX0_copyInto.cls = RX0 ∧ yX0_copyInto.cls ≠ "java/lang/invoke/MethodHandle" ∧ yX0_copyInto.cls ≠ "java/lang/invoke/VarHandle" ∧ (parseMethodDescriptor yX0_copyInto.desc).map (fun d => d.parameters.length) = some 2 := by decide +kernel
theorem hdX0_dropOldest : yX0_dropOldest.cls = RX0 ∧ yX0_dropOldest.cls ≠ "java/lang/invoke/MethodHandle" ∧ yX0_dropOldest.cls ≠ "java/lang/invoke/VarHandle" ∧ (parseMethodDescriptor yX0_dropOldest.desc).map (fun d => d.parameters.length) = some 0 := by decide +kernel
theorem hdX0_init : yX0_init.cls ≠ "java/lang/invoke/MethodHandle" ∧ yX0_init.cls ≠ "java/lang/invoke/VarHandle" ∧ (parseMethodDescriptor yX0_init.desc).map (fun d => d.parameters.length) = some 0 := by decide +kernel
theorem hdX0_keepPrepared : yX0_keepPrepared.cls = RX0 ∧ yX0_keepPrepared.cls ≠ "java/lang/invoke/MethodHandle" ∧ yX0_keepPrepared.cls ≠ "java/lang/invoke/VarHandle" ∧ (parseMethodDescriptor yX0_keepPrepared.desc).map (fun d => d.parameters.length) = some 0 := by decide +kernel
theorem hdX0_prepare : yX0_prepare.cls = RX0 ∧ yX0_prepare.cls ≠ "java/lang/invoke/MethodHandle" ∧ yX0_prepare.cls ≠ "java/lang/invoke/VarHandle" ∧ (parseMethodDescriptor yX0_prepare.desc).map (fun d => d.parameters.length) = some 1 := by decide +kernel
theorem hdX0_restore : yX0_restore.cls = RX0 ∧ yX0_restore.cls ≠ "java/lang/invoke/MethodHandle" ∧ yX0_restore.cls ≠ "java/lang/invoke/VarHandle" ∧ (parseMethodDescriptor yX0_restore.desc).map (fun d => d.parameters.length) = some 1 := by decide +kernel
theorem hdX1_allOwners : yX1_allOwners.cls = RX1 ∧ yX1_allOwners.cls ≠ "java/lang/invoke/MethodHandle" ∧ yX1_allOwners.cls ≠ "java/lang/invoke/VarHandle" ∧ (parseMethodDescriptor yX1_allOwners.desc).map (fun d => d.parameters.length) = some 0 := by decide +kernel
theorem hdX1_allPromises : yX1_allPromises.cls = RX1 ∧ yX1_allPromises.cls ≠ "java/lang/invoke/MethodHandle" ∧ yX1_allPromises.cls ≠ "java/lang/invoke/VarHandle" ∧ (parseMethodDescriptor yX1_allPromises.desc).map (fun d => d.parameters.length) = some 0 := by decide +kernel
theorem hdX1_allSizes : yX1_allSizes.cls = RX1 ∧ yX1_allSizes.cls ≠ "java/lang/invoke/MethodHandle" ∧ yX1_allSizes.cls ≠ "java/lang/invoke/VarHandle" ∧ (parseMethodDescriptor yX1_allSizes.desc).map (fun d => d.parameters.length) = some 0 := by decide +kernel
theorem hdX1_available : yX1_available.cls = RX1 ∧ yX1_available.cls ≠ "java/lang/invoke/MethodHandle" ∧ yX1_available.cls ≠ "java/lang/invoke/VarHandle" ∧ (parseMethodDescriptor yX1_available.desc).map (fun d => d.parameters.length) = some 0 := by decide +kernel
theorem hdX1_bookPiece : yX1_bookPiece.cls = RX1 ∧ yX1_bookPiece.cls ≠ "java/lang/invoke/MethodHandle" ∧ yX1_bookPiece.cls ≠ "java/lang/invoke/VarHandle" ∧ (parseMethodDescriptor yX1_bookPiece.desc).map (fun d => d.parameters.length) = some 3 := by decide +kernel
theorem hdX1_changePromise : yX1_changePromise.cls = RX1 ∧ yX1_changePromise.cls ≠ "java/lang/invoke/MethodHandle" ∧ yX1_changePromise.cls ≠ "java/lang/invoke/VarHandle" ∧ (parseMethodDescriptor yX1_changePromise.desc).map (fun d => d.parameters.length) = some 2 := by decide +kernel
theorem hdX1_changeSetting : yX1_changeSetting.cls = RX1 ∧ yX1_changeSetting.cls ≠ "java/lang/invoke/MethodHandle" ∧ yX1_changeSetting.cls ≠ "java/lang/invoke/VarHandle" ∧ (parseMethodDescriptor yX1_changeSetting.desc).map (fun d => d.parameters.length) = some 2 := by decide +kernel
theorem hdX1_cloneVolume : yX1_cloneVolume.cls = RX1 ∧ yX1_cloneVolume.cls ≠ "java/lang/invoke/MethodHandle" ∧ yX1_cloneVolume.cls ≠ "java/lang/invoke/VarHandle" ∧ (parseMethodDescriptor yX1_cloneVolume.desc).map (fun d => d.parameters.length) = some 1 := by decide +kernel
theorem hdX1_clonesOf : yX1_clonesOf.cls = RX1 ∧ yX1_clonesOf.cls ≠ "java/lang/invoke/MethodHandle" ∧ yX1_clonesOf.cls ≠ "java/lang/invoke/VarHandle" ∧ (parseMethodDescriptor yX1_clonesOf.desc).map (fun d => d.parameters.length) = some 1 := by decide +kernel
theorem hdX1_copyFrom : yX1_copyFrom.cls = RX1 ∧ yX1_copyFrom.cls ≠ "java/lang/invoke/MethodHandle" ∧ yX1_copyFrom.cls ≠ "java/lang/invoke/VarHandle" ∧ (parseMethodDescriptor yX1_copyFrom.desc).map (fun d => d.parameters.length) = some 1 := by decide +kernel
theorem hdX1_dropVolume : yX1_dropVolume.cls = RX1 ∧ yX1_dropVolume.cls ≠ "java/lang/invoke/MethodHandle" ∧ yX1_dropVolume.cls ≠ "java/lang/invoke/VarHandle" ∧ (parseMethodDescriptor yX1_dropVolume.desc).map (fun d => d.parameters.length) = some 1 := by decide +kernel
theorem hdX1_familyOf : yX1_familyOf.cls = RX1 ∧ yX1_familyOf.cls ≠ "java/lang/invoke/MethodHandle" ∧ yX1_familyOf.cls ≠ "java/lang/invoke/VarHandle" ∧ (parseMethodDescriptor yX1_familyOf.desc).map (fun d => d.parameters.length) = some 1 := by decide +kernel
theorem hdX1_freePieces : yX1_freePieces.cls = RX1 ∧ yX1_freePieces.cls ≠ "java/lang/invoke/MethodHandle" ∧ yX1_freePieces.cls ≠ "java/lang/invoke/VarHandle" ∧ (parseMethodDescriptor yX1_freePieces.desc).map (fun d => d.parameters.length) = some 0 := by decide +kernel
theorem hdX1_hasPlace : yX1_hasPlace.cls = RX1 ∧ yX1_hasPlace.cls ≠ "java/lang/invoke/MethodHandle" ∧ yX1_hasPlace.cls ≠ "java/lang/invoke/VarHandle" ∧ (parseMethodDescriptor yX1_hasPlace.desc).map (fun d => d.parameters.length) = some 2 := by decide +kernel
theorem hdX1_highestSetting : yX1_highestSetting.cls = RX1 ∧ yX1_highestSetting.cls ≠ "java/lang/invoke/MethodHandle" ∧ yX1_highestSetting.cls ≠ "java/lang/invoke/VarHandle" ∧ (parseMethodDescriptor yX1_highestSetting.desc).map (fun d => d.parameters.length) = some 1 := by decide +kernel
theorem hdX1_init : yX1_init.cls ≠ "java/lang/invoke/MethodHandle" ∧ yX1_init.cls ≠ "java/lang/invoke/VarHandle" ∧ (parseMethodDescriptor yX1_init.desc).map (fun d => d.parameters.length) = some 0 := by decide +kernel
theorem hdX1_isPiece : yX1_isPiece.cls = RX1 ∧ yX1_isPiece.cls ≠ "java/lang/invoke/MethodHandle" ∧ yX1_isPiece.cls ≠ "java/lang/invoke/VarHandle" ∧ (parseMethodDescriptor yX1_isPiece.desc).map (fun d => d.parameters.length) = some 1 := by decide +kernel
theorem hdX1_level : yX1_level.cls = RX1 ∧ yX1_level.cls ≠ "java/lang/invoke/MethodHandle" ∧ yX1_level.cls ≠ "java/lang/invoke/VarHandle" ∧ (parseMethodDescriptor yX1_level.desc).map (fun d => d.parameters.length) = some 0 := by decide +kernel
theorem hdX1_levelWith : yX1_levelWith.cls = RX1 ∧ yX1_levelWith.cls ≠ "java/lang/invoke/MethodHandle" ∧ yX1_levelWith.cls ≠ "java/lang/invoke/VarHandle" ∧ (parseMethodDescriptor yX1_levelWith.desc).map (fun d => d.parameters.length) = some 1 := by decide +kernel
theorem hdX1_lives : yX1_lives.cls = RX1 ∧ yX1_lives.cls ≠ "java/lang/invoke/MethodHandle" ∧ yX1_lives.cls ≠ "java/lang/invoke/VarHandle" ∧ (parseMethodDescriptor yX1_lives.desc).map (fun d => d.parameters.length) = some 1 := by decide +kernel
theorem hdX1_longestLineFrom : yX1_longestLineFrom.cls = RX1 ∧ yX1_longestLineFrom.cls ≠ "java/lang/invoke/MethodHandle" ∧ yX1_longestLineFrom.cls ≠ "java/lang/invoke/VarHandle" ∧ (parseMethodDescriptor yX1_longestLineFrom.desc).map (fun d => d.parameters.length) = some 1 := by decide +kernel
theorem hdX1_loosen : yX1_loosen.cls = RX1 ∧ yX1_loosen.cls ≠ "java/lang/invoke/MethodHandle" ∧ yX1_loosen.cls ≠ "java/lang/invoke/VarHandle" ∧ (parseMethodDescriptor yX1_loosen.desc).map (fun d => d.parameters.length) = some 2 := by decide +kernel
theorem hdX1_lowestFreePiece : yX1_lowestFreePiece.cls = RX1 ∧ yX1_lowestFreePiece.cls ≠ "java/lang/invoke/MethodHandle" ∧ yX1_lowestFreePiece.cls ≠ "java/lang/invoke/VarHandle" ∧ (parseMethodDescriptor yX1_lowestFreePiece.desc).map (fun d => d.parameters.length) = some 0 := by decide +kernel
theorem hdX1_mannersBehindUnpromised : yX1_mannersBehindUnpromised.cls = RX1 ∧ yX1_mannersBehindUnpromised.cls ≠ "java/lang/invoke/MethodHandle" ∧ yX1_mannersBehindUnpromised.cls ≠ "java/lang/invoke/VarHandle" ∧ (parseMethodDescriptor yX1_mannersBehindUnpromised.desc).map (fun d => d.parameters.length) = some 2 := by decide +kernel
theorem hdX1_mergePieces : yX1_mergePieces.cls = RX1 ∧ yX1_mergePieces.cls ≠ "java/lang/invoke/MethodHandle" ∧ yX1_mergePieces.cls ≠ "java/lang/invoke/VarHandle" ∧ (parseMethodDescriptor yX1_mergePieces.desc).map (fun d => d.parameters.length) = some 0 := by decide +kernel
theorem hdX1_moveOwners : yX1_moveOwners.cls = RX1 ∧ yX1_moveOwners.cls ≠ "java/lang/invoke/MethodHandle" ∧ yX1_moveOwners.cls ≠ "java/lang/invoke/VarHandle" ∧ (parseMethodDescriptor yX1_moveOwners.desc).map (fun d => d.parameters.length) = some 2 := by decide +kernel
theorem hdX1_openVolume : yX1_openVolume.cls = RX1 ∧ yX1_openVolume.cls ≠ "java/lang/invoke/MethodHandle" ∧ yX1_openVolume.cls ≠ "java/lang/invoke/VarHandle" ∧ (parseMethodDescriptor yX1_openVolume.desc).map (fun d => d.parameters.length) = some 1 := by decide +kernel
theorem hdX1_pieceAt : yX1_pieceAt.cls = RX1 ∧ yX1_pieceAt.cls ≠ "java/lang/invoke/MethodHandle" ∧ yX1_pieceAt.cls ≠ "java/lang/invoke/VarHandle" ∧ (parseMethodDescriptor yX1_pieceAt.desc).map (fun d => d.parameters.length) = some 2 := by decide +kernel
theorem hdX1_piecesInReach : yX1_piecesInReach.cls = RX1 ∧ yX1_piecesInReach.cls ≠ "java/lang/invoke/MethodHandle" ∧ yX1_piecesInReach.cls ≠ "java/lang/invoke/VarHandle" ∧ (parseMethodDescriptor yX1_piecesInReach.desc).map (fun d => d.parameters.length) = some 1 := by decide +kernel
theorem hdX1_piecesOwnedOnlyBy : yX1_piecesOwnedOnlyBy.cls = RX1 ∧ yX1_piecesOwnedOnlyBy.cls ≠ "java/lang/invoke/MethodHandle" ∧ yX1_piecesOwnedOnlyBy.cls ≠ "java/lang/invoke/VarHandle" ∧ (parseMethodDescriptor yX1_piecesOwnedOnlyBy.desc).map (fun d => d.parameters.length) = some 1 := by decide +kernel
theorem hdX1_placesWithPieces : yX1_placesWithPieces.cls = RX1 ∧ yX1_placesWithPieces.cls ≠ "java/lang/invoke/MethodHandle" ∧ yX1_placesWithPieces.cls ≠ "java/lang/invoke/VarHandle" ∧ (parseMethodDescriptor yX1_placesWithPieces.desc).map (fun d => d.parameters.length) = some 1 := by decide +kernel
theorem hdX1_rankWith : yX1_rankWith.cls = RX1 ∧ yX1_rankWith.cls ≠ "java/lang/invoke/MethodHandle" ∧ yX1_rankWith.cls ≠ "java/lang/invoke/VarHandle" ∧ (parseMethodDescriptor yX1_rankWith.desc).map (fun d => d.parameters.length) = some 2 := by decide +kernel
theorem hdX1_refuse : yX1_refuse.cls = RX1 ∧ yX1_refuse.cls ≠ "java/lang/invoke/MethodHandle" ∧ yX1_refuse.cls ≠ "java/lang/invoke/VarHandle" ∧ (parseMethodDescriptor yX1_refuse.desc).map (fun d => d.parameters.length) = some 1 := by decide +kernel
theorem hdX1_sharedPieces : yX1_sharedPieces.cls = RX1 ∧ yX1_sharedPieces.cls ≠ "java/lang/invoke/MethodHandle" ∧ yX1_sharedPieces.cls ≠ "java/lang/invoke/VarHandle" ∧ (parseMethodDescriptor yX1_sharedPieces.desc).map (fun d => d.parameters.length) = some 0 := by decide +kernel
theorem hdX1_stepsUp : yX1_stepsUp.cls = RX1 ∧ yX1_stepsUp.cls ≠ "java/lang/invoke/MethodHandle" ∧ yX1_stepsUp.cls ≠ "java/lang/invoke/VarHandle" ∧ (parseMethodDescriptor yX1_stepsUp.desc).map (fun d => d.parameters.length) = some 2 := by decide +kernel
theorem hdX1_sweepVolume : yX1_sweepVolume.cls = RX1 ∧ yX1_sweepVolume.cls ≠ "java/lang/invoke/MethodHandle" ∧ yX1_sweepVolume.cls ≠ "java/lang/invoke/VarHandle" ∧ (parseMethodDescriptor yX1_sweepVolume.desc).map (fun d => d.parameters.length) = some 1 := by decide +kernel
theorem hdX1_thank : yX1_thank.cls = RX1 ∧ yX1_thank.cls ≠ "java/lang/invoke/MethodHandle" ∧ yX1_thank.cls ≠ "java/lang/invoke/VarHandle" ∧ (parseMethodDescriptor yX1_thank.desc).map (fun d => d.parameters.length) = some 2 := by decide +kernel
theorem hdX1_trimPlace : yX1_trimPlace.cls = RX1 ∧ yX1_trimPlace.cls ≠ "java/lang/invoke/MethodHandle" ∧ yX1_trimPlace.cls ≠ "java/lang/invoke/VarHandle" ∧ (parseMethodDescriptor yX1_trimPlace.desc).map (fun d => d.parameters.length) = some 2 := by decide +kernel
theorem hdX1_valueOf : yX1_valueOf.cls = RX1 ∧ yX1_valueOf.cls ≠ "java/lang/invoke/MethodHandle" ∧ yX1_valueOf.cls ≠ "java/lang/invoke/VarHandle" ∧ (parseMethodDescriptor yX1_valueOf.desc).map (fun d => d.parameters.length) = some 1 := by decide +kernel
theorem hdX1_volumeWithRank : yX1_volumeWithRank.cls = RX1 ∧ yX1_volumeWithRank.cls ≠ "java/lang/invoke/MethodHandle" ∧ yX1_volumeWithRank.cls ≠ "java/lang/invoke/VarHandle" ∧ (parseMethodDescriptor yX1_volumeWithRank.desc).map (fun d => d.parameters.length) = some 1 := by decide +kernel
theorem hdX1_volumesThatLive : yX1_volumesThatLive.cls = RX1 ∧ yX1_volumesThatLive.cls ≠ "java/lang/invoke/MethodHandle" ∧ yX1_volumesThatLive.cls ≠ "java/lang/invoke/VarHandle" ∧ (parseMethodDescriptor yX1_volumesThatLive.desc).map (fun d => d.parameters.length) = some 0 := by decide +kernel
theorem hdX1_volumesThatOwn : yX1_volumesThatOwn.cls = RX1 ∧ yX1_volumesThatOwn.cls ≠ "java/lang/invoke/MethodHandle" ∧ yX1_volumesThatOwn.cls ≠ "java/lang/invoke/VarHandle" ∧ (parseMethodDescriptor yX1_volumesThatOwn.desc).map (fun d => d.parameters.length) = some 1 := by decide +kernel
theorem hdX1_warnIfLevelRose : yX1_warnIfLevelRose.cls = RX1 ∧ yX1_warnIfLevelRose.cls ≠ "java/lang/invoke/MethodHandle" ∧ yX1_warnIfLevelRose.cls ≠ "java/lang/invoke/VarHandle" ∧ (parseMethodDescriptor yX1_warnIfLevelRose.desc).map (fun d => d.parameters.length) = some 1 := by decide +kernel
theorem hdX1_wouldGetUnpromised : yX1_wouldGetUnpromised.cls = RX1 ∧ yX1_wouldGetUnpromised.cls ≠ "java/lang/invoke/MethodHandle" ∧ yX1_wouldGetUnpromised.cls ≠ "java/lang/invoke/VarHandle" ∧ (parseMethodDescriptor yX1_wouldGetUnpromised.desc).map (fun d => d.parameters.length) = some 3 := by decide +kernel
theorem hdX1_writePlace : yX1_writePlace.cls = RX1 ∧ yX1_writePlace.cls ≠ "java/lang/invoke/MethodHandle" ∧ yX1_writePlace.cls ≠ "java/lang/invoke/VarHandle" ∧ (parseMethodDescriptor yX1_writePlace.desc).map (fun d => d.parameters.length) = some 3 := by decide +kernel
theorem hdX2_init : yX2_init.cls ≠ "java/lang/invoke/MethodHandle" ∧ yX2_init.cls ≠ "java/lang/invoke/VarHandle" ∧ (parseMethodDescriptor yX2_init.desc).map (fun d => d.parameters.length) = some 0 := by decide +kernel
theorem hdX2_obey : yX2_obey.cls = RX2 ∧ yX2_obey.cls ≠ "java/lang/invoke/MethodHandle" ∧ yX2_obey.cls ≠ "java/lang/invoke/VarHandle" ∧ (parseMethodDescriptor yX2_obey.desc).map (fun d => d.parameters.length) = some 1 := by decide +kernel
theorem hdX2_perform : yX2_perform.cls = RX2 ∧ yX2_perform.cls ≠ "java/lang/invoke/MethodHandle" ∧ yX2_perform.cls ≠ "java/lang/invoke/VarHandle" ∧ (parseMethodDescriptor yX2_perform.desc).map (fun d => d.parameters.length) = some 2 := by decide +kernel
theorem hdX2_reasonOf : yX2_reasonOf.cls = RX2 ∧ yX2_reasonOf.cls ≠ "java/lang/invoke/MethodHandle" ∧ yX2_reasonOf.cls ≠ "java/lang/invoke/VarHandle" ∧ (parseMethodDescriptor yX2_reasonOf.desc).map (fun d => d.parameters.length) = some 1 := by decide +kernel
theorem hdX3_append : yX3_append.cls = RX3 ∧ yX3_append.cls ≠ "java/lang/invoke/MethodHandle" ∧ yX3_append.cls ≠ "java/lang/invoke/VarHandle" ∧ (parseMethodDescriptor yX3_append.desc).map (fun d => d.parameters.length) = some 1 := by decide +kernel
theorem hdX3_init : yX3_init.cls ≠ "java/lang/invoke/MethodHandle" ∧ yX3_init.cls ≠ "java/lang/invoke/VarHandle" ∧ (parseMethodDescriptor yX3_init.desc).map (fun d => d.parameters.length) = some 0 := by decide +kernel
theorem hdX3_numbersDue : yX3_numbersDue.cls = RX3 ∧ yX3_numbersDue.cls ≠ "java/lang/invoke/MethodHandle" ∧ yX3_numbersDue.cls ≠ "java/lang/invoke/VarHandle" ∧ (parseMethodDescriptor yX3_numbersDue.desc).map (fun d => d.parameters.length) = some 1 := by decide +kernel
theorem hdX3_passes : yX3_passes.cls = RX3 ∧ yX3_passes.cls ≠ "java/lang/invoke/MethodHandle" ∧ yX3_passes.cls ≠ "java/lang/invoke/VarHandle" ∧ (parseMethodDescriptor yX3_passes.desc).map (fun d => d.parameters.length) = some 1 := by decide +kernel
theorem hdX3_readDigit : yX3_readDigit.cls = RX3 ∧ yX3_readDigit.cls ≠ "java/lang/invoke/MethodHandle" ∧ yX3_readDigit.cls ≠ "java/lang/invoke/VarHandle" ∧ (parseMethodDescriptor yX3_readDigit.desc).map (fun d => d.parameters.length) = some 0 := by decide +kernel
theorem hdX3_readNumber : yX3_readNumber.cls = RX3 ∧ yX3_readNumber.cls ≠ "java/lang/invoke/MethodHandle" ∧ yX3_readNumber.cls ≠ "java/lang/invoke/VarHandle" ∧ (parseMethodDescriptor yX3_readNumber.desc).map (fun d => d.parameters.length) = some 0 := by decide +kernel
theorem hdX3_readOrder : yX3_readOrder.cls = RX3 ∧ yX3_readOrder.cls ≠ "java/lang/invoke/MethodHandle" ∧ yX3_readOrder.cls ≠ "java/lang/invoke/VarHandle" ∧ (parseMethodDescriptor yX3_readOrder.desc).map (fun d => d.parameters.length) = some 1 := by decide +kernel
theorem hdX3_signHere : yX3_signHere.cls = RX3 ∧ yX3_signHere.cls ≠ "java/lang/invoke/MethodHandle" ∧ yX3_signHere.cls ≠ "java/lang/invoke/VarHandle" ∧ (parseMethodDescriptor yX3_signHere.desc).map (fun d => d.parameters.length) = some 0 := by decide +kernel
theorem hdX4_add : yX4_add.cls = RX4 ∧ yX4_add.cls ≠ "java/lang/invoke/MethodHandle" ∧ yX4_add.cls ≠ "java/lang/invoke/VarHandle" ∧ (parseMethodDescriptor yX4_add.desc).map (fun d => d.parameters.length) = some 3 := by decide +kernel
theorem hdX4_copyFrom : yX4_copyFrom.cls = RX4 ∧ yX4_copyFrom.cls ≠ "java/lang/invoke/MethodHandle" ∧ yX4_copyFrom.cls ≠ "java/lang/invoke/VarHandle" ∧ (parseMethodDescriptor yX4_copyFrom.desc).map (fun d => d.parameters.length) = some 1 := by decide +kernel
theorem hdX4_init : yX4_init.cls ≠ "java/lang/invoke/MethodHandle" ∧ yX4_init.cls ≠ "java/lang/invoke/VarHandle" ∧ (parseMethodDescriptor yX4_init.desc).map (fun d => d.parameters.length) = some 0 := by decide +kernel
theorem hdX4_tell : yX4_tell.cls = RX4 ∧ yX4_tell.cls ≠ "java/lang/invoke/MethodHandle" ∧ yX4_tell.cls ≠ "java/lang/invoke/VarHandle" ∧ (parseMethodDescriptor yX4_tell.desc).map (fun d => d.parameters.length) = some 2 := by decide +kernel
theorem hdX5_clearText : yX5_clearText.cls = RX5 ∧ yX5_clearText.cls ≠ "java/lang/invoke/MethodHandle" ∧ yX5_clearText.cls ≠ "java/lang/invoke/VarHandle" ∧ (parseMethodDescriptor yX5_clearText.desc).map (fun d => d.parameters.length) = some 0 := by decide +kernel
theorem hdX5_commonDivisorWithPieces : yX5_commonDivisorWithPieces.cls ≠ "java/lang/invoke/MethodHandle" ∧ yX5_commonDivisorWithPieces.cls ≠ "java/lang/invoke/VarHandle" ∧ (parseMethodDescriptor yX5_commonDivisorWithPieces.desc).map (fun d => d.parameters.length) = some 1 := by decide +kernel
theorem hdX5_couldFree : yX5_couldFree.cls = RX5 ∧ yX5_couldFree.cls ≠ "java/lang/invoke/MethodHandle" ∧ yX5_couldFree.cls ≠ "java/lang/invoke/VarHandle" ∧ (parseMethodDescriptor yX5_couldFree.desc).map (fun d => d.parameters.length) = some 1 := by decide +kernel
theorem hdX5_couldGet : yX5_couldGet.cls = RX5 ∧ yX5_couldGet.cls ≠ "java/lang/invoke/MethodHandle" ∧ yX5_couldGet.cls ≠ "java/lang/invoke/VarHandle" ∧ (parseMethodDescriptor yX5_couldGet.desc).map (fun d => d.parameters.length) = some 1 := by decide +kernel
theorem hdX5_count : yX5_count.cls = RX5 ∧ yX5_count.cls ≠ "java/lang/invoke/MethodHandle" ∧ yX5_count.cls ≠ "java/lang/invoke/VarHandle" ∧ (parseMethodDescriptor yX5_count.desc).map (fun d => d.parameters.length) = some 1 := by decide +kernel
theorem hdX5_drop : yX5_drop.cls = RX5 ∧ yX5_drop.cls ≠ "java/lang/invoke/MethodHandle" ∧ yX5_drop.cls ≠ "java/lang/invoke/VarHandle" ∧ (parseMethodDescriptor yX5_drop.desc).map (fun d => d.parameters.length) = some 1 := by decide +kernel
theorem hdX5_family : yX5_family.cls = RX5 ∧ yX5_family.cls ≠ "java/lang/invoke/MethodHandle" ∧ yX5_family.cls ≠ "java/lang/invoke/VarHandle" ∧ (parseMethodDescriptor yX5_family.desc).map (fun d => d.parameters.length) = some 2 := by decide +kernel
theorem hdX5_fault : yX5_fault.cls = RX5 ∧ yX5_fault.cls ≠ "java/lang/invoke/MethodHandle" ∧ yX5_fault.cls ≠ "java/lang/invoke/VarHandle" ∧ (parseMethodDescriptor yX5_fault.desc).map (fun d => d.parameters.length) = some 1 := by decide +kernel
theorem hdX5_init : yX5_init.cls ≠ "java/lang/invoke/MethodHandle" ∧ yX5_init.cls ≠ "java/lang/invoke/VarHandle" ∧ (parseMethodDescriptor yX5_init.desc).map (fun d => d.parameters.length) = some 0 := by decide +kernel
theorem hdX5_isError : yX5_isError.cls ≠ "java/lang/invoke/MethodHandle" ∧ yX5_isError.cls ≠ "java/lang/invoke/VarHandle" ∧ (parseMethodDescriptor yX5_isError.desc).map (fun d => d.parameters.length) = some 1 := by decide +kernel
theorem hdX5_merge : yX5_merge.cls = RX5 ∧ yX5_merge.cls ≠ "java/lang/invoke/MethodHandle" ∧ yX5_merge.cls ≠ "java/lang/invoke/VarHandle" ∧ (parseMethodDescriptor yX5_merge.desc).map (fun d => d.parameters.length) = some 0 := by decide +kernel
theorem hdX5_over : yX5_over.cls = RX5 ∧ yX5_over.cls ≠ "java/lang/invoke/MethodHandle" ∧ yX5_over.cls ≠ "java/lang/invoke/VarHandle" ∧ (parseMethodDescriptor yX5_over.desc).map (fun d => d.parameters.length) = some 1 := by decide +kernel
theorem hdX5_pieceOf : yX5_pieceOf.cls = RX5 ∧ yX5_pieceOf.cls ≠ "java/lang/invoke/MethodHandle" ∧ yX5_pieceOf.cls ≠ "java/lang/invoke/VarHandle" ∧ (parseMethodDescriptor yX5_pieceOf.desc).map (fun d => d.parameters.length) = some 2 := by decide +kernel
theorem hdX5_play : yX5_play.cls = RX5 ∧ yX5_play.cls ≠ "java/lang/invoke/MethodHandle" ∧ yX5_play.cls ≠ "java/lang/invoke/VarHandle" ∧ (parseMethodDescriptor yX5_play.desc).map (fun d => d.parameters.length) = some 0 := by decide +kernel
theorem hdX5_promise : yX5_promise.cls = RX5 ∧ yX5_promise.cls ≠ "java/lang/invoke/MethodHandle" ∧ yX5_promise.cls ≠ "java/lang/invoke/VarHandle" ∧ (parseMethodDescriptor yX5_promise.desc).map (fun d => d.parameters.length) = some 2 := by decide +kernel
theorem hdX5_ranked : yX5_ranked.cls = RX5 ∧ yX5_ranked.cls ≠ "java/lang/invoke/MethodHandle" ∧ yX5_ranked.cls ≠ "java/lang/invoke/VarHandle" ∧ (parseMethodDescriptor yX5_ranked.desc).map (fun d => d.parameters.length) = some 1 := by decide +kernel
theorem hdX5_read : yX5_read.cls = RX5 ∧ yX5_read.cls ≠ "java/lang/invoke/MethodHandle" ∧ yX5_read.cls ≠ "java/lang/invoke/VarHandle" ∧ (parseMethodDescriptor yX5_read.desc).map (fun d => d.parameters.length) = some 3 := by decide +kernel
theorem hdX5_set : yX5_set.cls = RX5 ∧ yX5_set.cls ≠ "java/lang/invoke/MethodHandle" ∧ yX5_set.cls ≠ "java/lang/invoke/VarHandle" ∧ (parseMethodDescriptor yX5_set.desc).map (fun d => d.parameters.length) = some 2 := by decide +kernel
theorem hdX5_settle : yX5_settle.cls = RX5 ∧ yX5_settle.cls ≠ "java/lang/invoke/MethodHandle" ∧ yX5_settle.cls ≠ "java/lang/invoke/VarHandle" ∧ (parseMethodDescriptor yX5_settle.desc).map (fun d => d.parameters.length) = some 1 := by decide +kernel
theorem hdX5_share : yX5_share.cls = RX5 ∧ yX5_share.cls ≠ "java/lang/invoke/MethodHandle" ∧ yX5_share.cls ≠ "java/lang/invoke/VarHandle" ∧ (parseMethodDescriptor yX5_share.desc).map (fun d => d.parameters.length) = some 1 := by decide +kernel
theorem hdX5_sweep : yX5_sweep.cls = RX5 ∧ yX5_sweep.cls ≠ "java/lang/invoke/MethodHandle" ∧ yX5_sweep.cls ≠ "java/lang/invoke/VarHandle" ∧ (parseMethodDescriptor yX5_sweep.desc).map (fun d => d.parameters.length) = some 1 := by decide +kernel
theorem hdX5_trim : yX5_trim.cls = RX5 ∧ yX5_trim.cls ≠ "java/lang/invoke/MethodHandle" ∧ yX5_trim.cls ≠ "java/lang/invoke/VarHandle" ∧ (parseMethodDescriptor yX5_trim.desc).map (fun d => d.parameters.length) = some 2 := by decide +kernel
theorem hdX5_type : yX5_type.cls = RX5 ∧ yX5_type.cls ≠ "java/lang/invoke/MethodHandle" ∧ yX5_type.cls ≠ "java/lang/invoke/VarHandle" ∧ (parseMethodDescriptor yX5_type.desc).map (fun d => d.parameters.length) = some 1 := by decide +kernel
theorem hdX5_undo : yX5_undo.cls = RX5 ∧ yX5_undo.cls ≠ "java/lang/invoke/MethodHandle" ∧ yX5_undo.cls ≠ "java/lang/invoke/VarHandle" ∧ (parseMethodDescriptor yX5_undo.desc).map (fun d => d.parameters.length) = some 0 := by decide +kernel
theorem hdX5_volume : yX5_volume.cls = RX5 ∧ yX5_volume.cls ≠ "java/lang/invoke/MethodHandle" ∧ yX5_volume.cls ≠ "java/lang/invoke/VarHandle" ∧ (parseMethodDescriptor yX5_volume.desc).map (fun d => d.parameters.length) = some 1 := by decide +kernel
theorem hdX5_volumeOf : yX5_volumeOf.cls = RX5 ∧ yX5_volumeOf.cls ≠ "java/lang/invoke/MethodHandle" ∧ yX5_volumeOf.cls ≠ "java/lang/invoke/VarHandle" ∧ (parseMethodDescriptor yX5_volumeOf.desc).map (fun d => d.parameters.length) = some 2 := by decide +kernel
theorem hdX5_warningOf : yX5_warningOf.cls = RX5 ∧ yX5_warningOf.cls ≠ "java/lang/invoke/MethodHandle" ∧ yX5_warningOf.cls ≠ "java/lang/invoke/VarHandle" ∧ (parseMethodDescriptor yX5_warningOf.desc).map (fun d => d.parameters.length) = some 2 := by decide +kernel
theorem hdX5_write : yX5_write.cls = RX5 ∧ yX5_write.cls ≠ "java/lang/invoke/MethodHandle" ∧ yX5_write.cls ≠ "java/lang/invoke/VarHandle" ∧ (parseMethodDescriptor yX5_write.desc).map (fun d => d.parameters.length) = some 3 := by decide +kernel
theorem hdX6_asks : yX6_asks.cls = RX6 ∧ yX6_asks.cls ≠ "java/lang/invoke/MethodHandle" ∧ yX6_asks.cls ≠ "java/lang/invoke/VarHandle" ∧ (parseMethodDescriptor yX6_asks.desc).map (fun d => d.parameters.length) = some 2 := by decide +kernel
theorem hdX6_available : yX6_available.cls = RX6 ∧ yX6_available.cls ≠ "java/lang/invoke/MethodHandle" ∧ yX6_available.cls ≠ "java/lang/invoke/VarHandle" ∧ (parseMethodDescriptor yX6_available.desc).map (fun d => d.parameters.length) = some 0 := by decide +kernel
theorem hdX6_begins : yX6_begins.cls = RX6 ∧ yX6_begins.cls ≠ "java/lang/invoke/MethodHandle" ∧ yX6_begins.cls ≠ "java/lang/invoke/VarHandle" ∧ (parseMethodDescriptor yX6_begins.desc).map (fun d => d.parameters.length) = some 2 := by decide +kernel
theorem hdX6_behaves : yX6_behaves.cls = RX6 ∧ yX6_behaves.cls ≠ "java/lang/invoke/MethodHandle" ∧ yX6_behaves.cls ≠ "java/lang/invoke/VarHandle" ∧ (parseMethodDescriptor yX6_behaves.desc).map (fun d => d.parameters.length) = some 2 := by decide +kernel
theorem hdX6_best : yX6_best.cls = RX6 ∧ yX6_best.cls ≠ "java/lang/invoke/MethodHandle" ∧ yX6_best.cls ≠ "java/lang/invoke/VarHandle" ∧ (parseMethodDescriptor yX6_best.desc).map (fun d => d.parameters.length) = some 0 := by decide +kernel
theorem hdX6_changes : yX6_changes.cls = RX6 ∧ yX6_changes.cls ≠ "java/lang/invoke/MethodHandle" ∧ yX6_changes.cls ≠ "java/lang/invoke/VarHandle" ∧ (parseMethodDescriptor yX6_changes.desc).map (fun d => d.parameters.length) = some 0 := by decide +kernel
theorem hdX6_clearText : yX6_clearText.cls = RX6 ∧ yX6_clearText.cls ≠ "java/lang/invoke/MethodHandle" ∧ yX6_clearText.cls ≠ "java/lang/invoke/VarHandle" ∧ (parseMethodDescriptor yX6_clearText.desc).map (fun d => d.parameters.length) = some 0 := by decide +kernel
theorem hdX6_clones : yX6_clones.cls = RX6 ∧ yX6_clones.cls ≠ "java/lang/invoke/MethodHandle" ∧ yX6_clones.cls ≠ "java/lang/invoke/VarHandle" ∧ (parseMethodDescriptor yX6_clones.desc).map (fun d => d.parameters.length) = some 1 := by decide +kernel
theorem hdX6_copies : yX6_copies.cls ≠ "java/lang/invoke/MethodHandle" ∧ yX6_copies.cls ≠ "java/lang/invoke/VarHandle" ∧ (parseMethodDescriptor yX6_copies.desc).map (fun d => d.parameters.length) = some 2 := by decide +kernel
theorem hdX6_couldFree : yX6_couldFree.cls = RX6 ∧ yX6_couldFree.cls ≠ "java/lang/invoke/MethodHandle" ∧ yX6_couldFree.cls ≠ "java/lang/invoke/VarHandle" ∧ (parseMethodDescriptor yX6_couldFree.desc).map (fun d => d.parameters.length) = some 1 := by decide +kernel
theorem hdX6_couldGet : yX6_couldGet.cls = RX6 ∧ yX6_couldGet.cls ≠ "java/lang/invoke/MethodHandle" ∧ yX6_couldGet.cls ≠ "java/lang/invoke/VarHandle" ∧ (parseMethodDescriptor yX6_couldGet.desc).map (fun d => d.parameters.length) = some 1 := by decide +kernel
theorem hdX6_count : yX6_count.cls = RX6 ∧ yX6_count.cls ≠ "java/lang/invoke/MethodHandle" ∧ yX6_count.cls ≠ "java/lang/invoke/VarHandle" ∧ (parseMethodDescriptor yX6_count.desc).map (fun d => d.parameters.length) = some 1 := by decide +kernel
theorem hdX6_does : yX6_does.cls = RX6 ∧ yX6_does.cls ≠ "java/lang/invoke/MethodHandle" ∧ yX6_does.cls ≠ "java/lang/invoke/VarHandle" ∧ (parseMethodDescriptor yX6_does.desc).map (fun d => d.parameters.length) = some 0 := by decide +kernel
theorem hdX6_drop : yX6_drop.cls = RX6 ∧ yX6_drop.cls ≠ "java/lang/invoke/MethodHandle" ∧ yX6_drop.cls ≠ "java/lang/invoke/VarHandle" ∧ (parseMethodDescriptor yX6_drop.desc).map (fun d => d.parameters.length) = some 1 := by decide +kernel
theorem hdX6_ends : yX6_ends.cls = RX6 ∧ yX6_ends.cls ≠ "java/lang/invoke/MethodHandle" ∧ yX6_ends.cls ≠ "java/lang/invoke/VarHandle" ∧ (parseMethodDescriptor yX6_ends.desc).map (fun d => d.parameters.length) = some 1 := by decide +kernel
theorem hdX6_family : yX6_family.cls = RX6 ∧ yX6_family.cls ≠ "java/lang/invoke/MethodHandle" ∧ yX6_family.cls ≠ "java/lang/invoke/VarHandle" ∧ (parseMethodDescriptor yX6_family.desc).map (fun d => d.parameters.length) = some 2 := by decide +kernel
theorem hdX6_fault : yX6_fault.cls = RX6 ∧ yX6_fault.cls ≠ "java/lang/invoke/MethodHandle" ∧ yX6_fault.cls ≠ "java/lang/invoke/VarHandle" ∧ (parseMethodDescriptor yX6_fault.desc).map (fun d => d.parameters.length) = some 1 := by decide +kernel
theorem hdX6_filled : yX6_filled.cls = RX6 ∧ yX6_filled.cls ≠ "java/lang/invoke/MethodHandle" ∧ yX6_filled.cls ≠ "java/lang/invoke/VarHandle" ∧ (parseMethodDescriptor yX6_filled.desc).map (fun d => d.parameters.length) = some 1 := by decide +kernel
theorem hdX6_free : yX6_free.cls = RX6 ∧ yX6_free.cls ≠ "java/lang/invoke/MethodHandle" ∧ yX6_free.cls ≠ "java/lang/invoke/VarHandle" ∧ (parseMethodDescriptor yX6_free.desc).map (fun d => d.parameters.length) = some 0 := by decide +kernel
theorem hdX6_free8 : yX6_free8.cls = RX6 ∧ yX6_free8.cls ≠ "java/lang/invoke/MethodHandle" ∧ yX6_free8.cls ≠ "java/lang/invoke/VarHandle" ∧ (parseMethodDescriptor yX6_free8.desc).map (fun d => d.parameters.length) = some 0 := by decide +kernel
theorem hdX6_in : yX6_in.cls ≠ "java/lang/invoke/MethodHandle" ∧ yX6_in.cls ≠ "java/lang/invoke/VarHandle" ∧ (parseMethodDescriptor yX6_in.desc).map (fun d => d.parameters.length) = some 3 := by decide +kernel
theorem hdX6_init : yX6_init.cls ≠ "java/lang/invoke/MethodHandle" ∧ yX6_init.cls ≠ "java/lang/invoke/VarHandle" ∧ (parseMethodDescriptor yX6_init.desc).map (fun d => d.parameters.length) = some 0 := by decide +kernel
theorem hdX6_isAt : yX6_isAt.cls = RX6 ∧ yX6_isAt.cls ≠ "java/lang/invoke/MethodHandle" ∧ yX6_isAt.cls ≠ "java/lang/invoke/VarHandle" ∧ (parseMethodDescriptor yX6_isAt.desc).map (fun d => d.parameters.length) = some 2 := by decide +kernel
theorem hdX6_isDone : yX6_isDone.cls = RX6 ∧ yX6_isDone.cls ≠ "java/lang/invoke/MethodHandle" ∧ yX6_isDone.cls ≠ "java/lang/invoke/VarHandle" ∧ (parseMethodDescriptor yX6_isDone.desc).map (fun d => d.parameters.length) = some 1 := by decide +kernel
theorem hdX6_isForm : yX6_isForm.cls = RX6 ∧ yX6_isForm.cls ≠ "java/lang/invoke/MethodHandle" ∧ yX6_isForm.cls ≠ "java/lang/invoke/VarHandle" ∧ (parseMethodDescriptor yX6_isForm.desc).map (fun d => d.parameters.length) = some 2 := by decide +kernel
theorem hdX6_isPlace : yX6_isPlace.cls = RX6 ∧ yX6_isPlace.cls ≠ "java/lang/invoke/MethodHandle" ∧ yX6_isPlace.cls ≠ "java/lang/invoke/VarHandle" ∧ (parseMethodDescriptor yX6_isPlace.desc).map (fun d => d.parameters.length) = some 2 := by decide +kernel
theorem hdX6_isVolume : yX6_isVolume.cls = RX6 ∧ yX6_isVolume.cls ≠ "java/lang/invoke/MethodHandle" ∧ yX6_isVolume.cls ≠ "java/lang/invoke/VarHandle" ∧ (parseMethodDescriptor yX6_isVolume.desc).map (fun d => d.parameters.length) = some 1 := by decide +kernel
theorem hdX6_levelBy : yX6_levelBy.cls = RX6 ∧ yX6_levelBy.cls ≠ "java/lang/invoke/MethodHandle" ∧ yX6_levelBy.cls ≠ "java/lang/invoke/VarHandle" ∧ (parseMethodDescriptor yX6_levelBy.desc).map (fun d => d.parameters.length) = some 1 := by decide +kernel
theorem hdX6_living : yX6_living.cls = RX6 ∧ yX6_living.cls ≠ "java/lang/invoke/MethodHandle" ∧ yX6_living.cls ≠ "java/lang/invoke/VarHandle" ∧ (parseMethodDescriptor yX6_living.desc).map (fun d => d.parameters.length) = some 1 := by decide +kernel
theorem hdX6_lowestFree : yX6_lowestFree.cls = RX6 ∧ yX6_lowestFree.cls ≠ "java/lang/invoke/MethodHandle" ∧ yX6_lowestFree.cls ≠ "java/lang/invoke/VarHandle" ∧ (parseMethodDescriptor yX6_lowestFree.desc).map (fun d => d.parameters.length) = some 0 := by decide +kernel
theorem hdX6_merge : yX6_merge.cls = RX6 ∧ yX6_merge.cls ≠ "java/lang/invoke/MethodHandle" ∧ yX6_merge.cls ≠ "java/lang/invoke/VarHandle" ∧ (parseMethodDescriptor yX6_merge.desc).map (fun d => d.parameters.length) = some 0 := by decide +kernel
theorem hdX6_merges : yX6_merges.cls = RX6 ∧ yX6_merges.cls ≠ "java/lang/invoke/MethodHandle" ∧ yX6_merges.cls ≠ "java/lang/invoke/VarHandle" ∧ (parseMethodDescriptor yX6_merges.desc).map (fun d => d.parameters.length) = some 0 := by decide +kernel
theorem hdX6_moves : yX6_moves.cls = RX6 ∧ yX6_moves.cls ≠ "java/lang/invoke/MethodHandle" ∧ yX6_moves.cls ≠ "java/lang/invoke/VarHandle" ∧ (parseMethodDescriptor yX6_moves.desc).map (fun d => d.parameters.length) = some 2 := by decide +kernel
theorem hdX6_number : yX6_number.cls = RX6 ∧ yX6_number.cls ≠ "java/lang/invoke/MethodHandle" ∧ yX6_number.cls ≠ "java/lang/invoke/VarHandle" ∧ (parseMethodDescriptor yX6_number.desc).map (fun d => d.parameters.length) = some 2 := by decide +kernel
theorem hdX6_of : yX6_of.cls = RX6 ∧ yX6_of.cls ≠ "java/lang/invoke/MethodHandle" ∧ yX6_of.cls ≠ "java/lang/invoke/VarHandle" ∧ (parseMethodDescriptor yX6_of.desc).map (fun d => d.parameters.length) = some 2 := by decide +kernel
theorem hdX6_over : yX6_over.cls = RX6 ∧ yX6_over.cls ≠ "java/lang/invoke/MethodHandle" ∧ yX6_over.cls ≠ "java/lang/invoke/VarHandle" ∧ (parseMethodDescriptor yX6_over.desc).map (fun d => d.parameters.length) = some 1 := by decide +kernel
theorem hdX6_ownedBy : yX6_ownedBy.cls = RX6 ∧ yX6_ownedBy.cls ≠ "java/lang/invoke/MethodHandle" ∧ yX6_ownedBy.cls ≠ "java/lang/invoke/VarHandle" ∧ (parseMethodDescriptor yX6_ownedBy.desc).map (fun d => d.parameters.length) = some 1 := by decide +kernel
theorem hdX6_owners : yX6_owners.cls = RX6 ∧ yX6_owners.cls ≠ "java/lang/invoke/MethodHandle" ∧ yX6_owners.cls ≠ "java/lang/invoke/VarHandle" ∧ (parseMethodDescriptor yX6_owners.desc).map (fun d => d.parameters.length) = some 1 := by decide +kernel
theorem hdX6_ownersIn : yX6_ownersIn.cls = RX6 ∧ yX6_ownersIn.cls ≠ "java/lang/invoke/MethodHandle" ∧ yX6_ownersIn.cls ≠ "java/lang/invoke/VarHandle" ∧ (parseMethodDescriptor yX6_ownersIn.desc).map (fun d => d.parameters.length) = some 2 := by decide +kernel
theorem hdX6_piece : yX6_piece.cls = RX6 ∧ yX6_piece.cls ≠ "java/lang/invoke/MethodHandle" ∧ yX6_piece.cls ≠ "java/lang/invoke/VarHandle" ∧ (parseMethodDescriptor yX6_piece.desc).map (fun d => d.parameters.length) = some 2 := by decide +kernel
theorem hdX6_pieceOf : yX6_pieceOf.cls = RX6 ∧ yX6_pieceOf.cls ≠ "java/lang/invoke/MethodHandle" ∧ yX6_pieceOf.cls ≠ "java/lang/invoke/VarHandle" ∧ (parseMethodDescriptor yX6_pieceOf.desc).map (fun d => d.parameters.length) = some 2 := by decide +kernel
theorem hdX6_play : yX6_play.cls = RX6 ∧ yX6_play.cls ≠ "java/lang/invoke/MethodHandle" ∧ yX6_play.cls ≠ "java/lang/invoke/VarHandle" ∧ (parseMethodDescriptor yX6_play.desc).map (fun d => d.parameters.length) = some 0 := by decide +kernel
theorem hdX6_plays : yX6_plays.cls = RX6 ∧ yX6_plays.cls ≠ "java/lang/invoke/MethodHandle" ∧ yX6_plays.cls ≠ "java/lang/invoke/VarHandle" ∧ (parseMethodDescriptor yX6_plays.desc).map (fun d => d.parameters.length) = some 0 := by decide +kernel
theorem hdX6_promise : yX6_promise.cls = RX6 ∧ yX6_promise.cls ≠ "java/lang/invoke/MethodHandle" ∧ yX6_promise.cls ≠ "java/lang/invoke/VarHandle" ∧ (parseMethodDescriptor yX6_promise.desc).map (fun d => d.parameters.length) = some 2 := by decide +kernel
theorem hdX6_promises : yX6_promises.cls = RX6 ∧ yX6_promises.cls ≠ "java/lang/invoke/MethodHandle" ∧ yX6_promises.cls ≠ "java/lang/invoke/VarHandle" ∧ (parseMethodDescriptor yX6_promises.desc).map (fun d => d.parameters.length) = some 0 := by decide +kernel
theorem hdX6_puts : yX6_puts.cls = RX6 ∧ yX6_puts.cls ≠ "java/lang/invoke/MethodHandle" ∧ yX6_puts.cls ≠ "java/lang/invoke/VarHandle" ∧ (parseMethodDescriptor yX6_puts.desc).map (fun d => d.parameters.length) = some 3 := by decide +kernel
theorem hdX6_rank : yX6_rank.cls = RX6 ∧ yX6_rank.cls ≠ "java/lang/invoke/MethodHandle" ∧ yX6_rank.cls ≠ "java/lang/invoke/VarHandle" ∧ (parseMethodDescriptor yX6_rank.desc).map (fun d => d.parameters.length) = some 1 := by decide +kernel
theorem hdX6_ranked : yX6_ranked.cls = RX6 ∧ yX6_ranked.cls ≠ "java/lang/invoke/MethodHandle" ∧ yX6_ranked.cls ≠ "java/lang/invoke/VarHandle" ∧ (parseMethodDescriptor yX6_ranked.desc).map (fun d => d.parameters.length) = some 1 := by decide +kernel
theorem hdX6_read : yX6_read.cls = RX6 ∧ yX6_read.cls ≠ "java/lang/invoke/MethodHandle" ∧ yX6_read.cls ≠ "java/lang/invoke/VarHandle" ∧ (parseMethodDescriptor yX6_read.desc).map (fun d => d.parameters.length) = some 3 := by decide +kernel
theorem hdX6_set : yX6_set.cls = RX6 ∧ yX6_set.cls ≠ "java/lang/invoke/MethodHandle" ∧ yX6_set.cls ≠ "java/lang/invoke/VarHandle" ∧ (parseMethodDescriptor yX6_set.desc).map (fun d => d.parameters.length) = some 2 := by decide +kernel
theorem hdX6_share : yX6_share.cls = RX6 ∧ yX6_share.cls ≠ "java/lang/invoke/MethodHandle" ∧ yX6_share.cls ≠ "java/lang/invoke/VarHandle" ∧ (parseMethodDescriptor yX6_share.desc).map (fun d => d.parameters.length) = some 1 := by decide +kernel
theorem hdX6_shared : yX6_shared.cls = RX6 ∧ yX6_shared.cls ≠ "java/lang/invoke/MethodHandle" ∧ yX6_shared.cls ≠ "java/lang/invoke/VarHandle" ∧ (parseMethodDescriptor yX6_shared.desc).map (fun d => d.parameters.length) = some 0 := by decide +kernel
theorem hdX6_sweep : yX6_sweep.cls = RX6 ∧ yX6_sweep.cls ≠ "java/lang/invoke/MethodHandle" ∧ yX6_sweep.cls ≠ "java/lang/invoke/VarHandle" ∧ (parseMethodDescriptor yX6_sweep.desc).map (fun d => d.parameters.length) = some 1 := by decide +kernel
theorem hdX6_sweeps : yX6_sweeps.cls = RX6 ∧ yX6_sweeps.cls ≠ "java/lang/invoke/MethodHandle" ∧ yX6_sweeps.cls ≠ "java/lang/invoke/VarHandle" ∧ (parseMethodDescriptor yX6_sweeps.desc).map (fun d => d.parameters.length) = some 1 := by decide +kernel
theorem hdX6_trim : yX6_trim.cls = RX6 ∧ yX6_trim.cls ≠ "java/lang/invoke/MethodHandle" ∧ yX6_trim.cls ≠ "java/lang/invoke/VarHandle" ∧ (parseMethodDescriptor yX6_trim.desc).map (fun d => d.parameters.length) = some 2 := by decide +kernel
theorem hdX6_trims : yX6_trims.cls = RX6 ∧ yX6_trims.cls ≠ "java/lang/invoke/MethodHandle" ∧ yX6_trims.cls ≠ "java/lang/invoke/VarHandle" ∧ (parseMethodDescriptor yX6_trims.desc).map (fun d => d.parameters.length) = some 2 := by decide +kernel
theorem hdX6_type : yX6_type.cls = RX6 ∧ yX6_type.cls ≠ "java/lang/invoke/MethodHandle" ∧ yX6_type.cls ≠ "java/lang/invoke/VarHandle" ∧ (parseMethodDescriptor yX6_type.desc).map (fun d => d.parameters.length) = some 1 := by decide +kernel
theorem hdX6_undo : yX6_undo.cls = RX6 ∧ yX6_undo.cls ≠ "java/lang/invoke/MethodHandle" ∧ yX6_undo.cls ≠ "java/lang/invoke/VarHandle" ∧ (parseMethodDescriptor yX6_undo.desc).map (fun d => d.parameters.length) = some 0 := by decide +kernel
theorem hdX6_volume : yX6_volume.cls = RX6 ∧ yX6_volume.cls ≠ "java/lang/invoke/MethodHandle" ∧ yX6_volume.cls ≠ "java/lang/invoke/VarHandle" ∧ (parseMethodDescriptor yX6_volume.desc).map (fun d => d.parameters.length) = some 1 := by decide +kernel
theorem hdX6_volumeOf : yX6_volumeOf.cls = RX6 ∧ yX6_volumeOf.cls ≠ "java/lang/invoke/MethodHandle" ∧ yX6_volumeOf.cls ≠ "java/lang/invoke/VarHandle" ∧ (parseMethodDescriptor yX6_volumeOf.desc).map (fun d => d.parameters.length) = some 2 := by decide +kernel
theorem hdX6_volumesOf : yX6_volumesOf.cls = RX6 ∧ yX6_volumesOf.cls ≠ "java/lang/invoke/MethodHandle" ∧ yX6_volumesOf.cls ≠ "java/lang/invoke/VarHandle" ∧ (parseMethodDescriptor yX6_volumesOf.desc).map (fun d => d.parameters.length) = some 1 := by decide +kernel
theorem hdX6_warningOf : yX6_warningOf.cls = RX6 ∧ yX6_warningOf.cls ≠ "java/lang/invoke/MethodHandle" ∧ yX6_warningOf.cls ≠ "java/lang/invoke/VarHandle" ∧ (parseMethodDescriptor yX6_warningOf.desc).map (fun d => d.parameters.length) = some 2 := by decide +kernel
theorem hdX6_warns : yX6_warns.cls = RX6 ∧ yX6_warns.cls ≠ "java/lang/invoke/MethodHandle" ∧ yX6_warns.cls ≠ "java/lang/invoke/VarHandle" ∧ (parseMethodDescriptor yX6_warns.desc).map (fun d => d.parameters.length) = some 2 := by decide +kernel
theorem hdX6_write : yX6_write.cls = RX6 ∧ yX6_write.cls ≠ "java/lang/invoke/MethodHandle" ∧ yX6_write.cls ≠ "java/lang/invoke/VarHandle" ∧ (parseMethodDescriptor yX6_write.desc).map (fun d => d.parameters.length) = some 3 := by decide +kernel
theorem bp_8 : (Int8.ofInt (8)).toInt32 = (8 : Int32) := by decide
theorem bp_9 : (Int8.ofInt (9)).toInt32 = (9 : Int32) := by decide
theorem bp_10 : (Int8.ofInt (10)).toInt32 = (10 : Int32) := by decide
theorem bp_30 : (Int8.ofInt (30)).toInt32 = (30 : Int32) := by decide
theorem bp_40 : (Int8.ofInt (40)).toInt32 = (40 : Int32) := by decide
theorem bp_50 : (Int8.ofInt (50)).toInt32 = (50 : Int32) := by decide
theorem bp_99 : (Int8.ofInt (99)).toInt32 = (99 : Int32) := by decide
theorem bp_100 : (Int8.ofInt (100)).toInt32 = (100 : Int32) := by decide
theorem ic_m1 : Int32.ofInt (-1) = (-1 : Int32) := by decide
theorem ic_0 : Int32.ofInt (0) = (0 : Int32) := by decide
theorem ic_1 : Int32.ofInt (1) = (1 : Int32) := by decide
theorem ic_2 : Int32.ofInt (2) = (2 : Int32) := by decide
theorem ic_3 : Int32.ofInt (3) = (3 : Int32) := by decide
theorem sp_320 : (Int16.ofInt (320)).toInt32 = (320 : Int32) := by decide
end
section
theorem ix_spot {v q : Int32} (hv : vp_in v 8) (hq : vp_in q 40) : vp_in (v * 40 + q) 320 := by
  obtain ⟨a, ha, rfl⟩ := vp_in_of hv (by decide)
  obtain ⟨b, hb, rfl⟩ := vp_in_of hq (by decide)
  have h : nI a * 40 + nI b = nI (a * 40 + b) := by
    rw [← nI_add, ← pk_mul]; rfl
  rw [h]
  exact vp_in_nI (by omega) (by decide)
def f1_lives (σ : PS) (p1 : Int32) : Int32 := (if p1 < 0 then (0 : Int32) else (if (8 : Int32) ≤ p1 then (0 : Int32) else (if (σ 0 p1.toNatClampNeg) ≤ 0 then (0 : Int32) else (1 : Int32))))
set_option maxHeartbeats 4000000 in
set_option maxRecDepth 100000 in
theorem c1_lives (l : Launch) (D : va_G) (cI cP : ClassId) (hs : Nat → Nat) (σ : PS) (p1 : Int32) : CP l yX1_lives wsX1_lives ({ frames := 0, cells := 0, slots := 0, locals := 0 } : Room) D (cty cI cP) (wPool cI hs) σ [.ref (hs 0), .int p1] (f1_lives σ p1) := by
  refine CP.of (cc := cX1_lives) (maxL := 2) (rt := .boolean) (own := RX1) (lv0 := [(0, .ref (hs 0)), (1, .int p1)]) pnX1 rfl rfl (Nat.le_of_ble_eq_true rfl) rfl (fun p e s m args below meth c A Q F hret => ?_)
  have w_1 := F.at (x := Cond.fieldLink RX1 9 "ThinVolumes$Pool" "sizes" "[I") 1 rfl
  have k_1 : ∀ w ∈ wsX10, w ∈ wsX1_lives := fun _ h => List.mem_cons_of_mem _ (List.mem_append_right _ (h))
  refine wk_iload_n F dX1_lives_0 rfl 1 rfl (pc' := 1) rfl ?_
  refine wk_if_lt (tgt := 23) F dX1_lives_1 (by decide) (pc' := 4) rfl (fun c1 => ?_) (fun c1 => ?_)
  · refine wk_iconst F dX1_lives_23 ic_0 (pc' := 24) rfl ?_
    exact hret _ _ _ dX1_lives_24 rfl (by simp only [f1_lives, if_pos c1])
  · refine wk_iload_n F dX1_lives_4 rfl 1 rfl (pc' := 5) rfl ?_
    refine wk_bipush F dX1_lives_5 bp_8 (pc' := 7) rfl ?_
    refine wk_icmp_ge (tgt := 23) F dX1_lives_7 (by decide) (pc' := 10) rfl (fun c2 => ?_) (fun c2 => ?_)
    · refine wk_iconst F dX1_lives_23 ic_0 (pc' := 24) rfl ?_
      exact hret _ _ _ dX1_lives_24 rfl (by simp only [f1_lives, if_neg c1, if_pos c2])
    · refine wk_aload_n F dX1_lives_10 rfl 0 rfl (pc' := 11) rfl ?_
      refine wk_get (C := RX1) (T := TX1) (N := 14) F 0 rfl rfl k_1 0 (Nat.le_of_ble_eq_true rfl) w_1 rfl dX1_lives_11 (pc' := 14) rfl ?_
      refine wk_iload_n F dX1_lives_14 rfl 1 rfl (pc' := 15) rfl ?_
      refine wk_iald F 1 0 rfl rfl (vin c1 c2 (Nat.le_of_ble_eq_true rfl)) dX1_lives_15 (pc' := 16) rfl ?_
      refine wk_if_le (tgt := 23) F dX1_lives_16 (by decide) (pc' := 19) rfl (fun c3 => ?_) (fun c3 => ?_)
      · refine wk_iconst F dX1_lives_23 ic_0 (pc' := 24) rfl ?_
        exact hret _ _ _ dX1_lives_24 rfl (by simp only [f1_lives, if_neg c1, if_neg c2, if_pos c3])
      · refine wk_iconst F dX1_lives_19 ic_1 (pc' := 20) rfl ?_
        refine wk_goto (tgt := 24) F dX1_lives_20 (by decide) ?_
        exact hret _ _ _ dX1_lives_24 rfl (by simp only [f1_lives, if_neg c1, if_neg c2, if_neg c3])
theorem lives_in {σ : PS} {x : Int32} (h : ¬ f1_lives σ x = 0) : vp_in x 8 := by
  unfold f1_lives at h
  split at h
  · exact absurd rfl h
  · split at h
    · exact absurd rfl h
    · exact vin (by assumption) (by assumption) (by decide)
def f1_hasPlace (σ : PS) (p1 : Int32) (p2 : Int32) : Int32 := (if (f1_lives σ p1) = 0 then (0 : Int32) else (if p2 < 0 then (0 : Int32) else (if (σ 0 p1.toNatClampNeg) ≤ p2 then (0 : Int32) else (if (40 : Int32) ≤ p2 then (0 : Int32) else (1 : Int32)))))
set_option maxHeartbeats 4000000 in
set_option maxRecDepth 100000 in
theorem c1_hasPlace (l : Launch) (D : va_G) (cI cP : ClassId) (hs : Nat → Nat) (σ : PS) (p1 : Int32) (p2 : Int32) : CP l yX1_hasPlace wsX1_hasPlace ({ frames := 1, cells := 0, slots := 0, locals := 21 } : Room) D (cty cI cP) (wPool cI hs) σ [.ref (hs 0), .int p1, .int p2] (f1_hasPlace σ p1 p2) := by
  refine CP.of (cc := cX1_hasPlace) (maxL := 3) (rt := .boolean) (own := RX1) (lv0 := [(0, .ref (hs 0)), (1, .int p1), (2, .int p2)]) pnX1 rfl rfl (Nat.le_of_ble_eq_true rfl) rfl (fun p e s m args below meth c A Q F hret => ?_)
  have w_1 := F.at (x := Cond.fieldLink RX1 9 "ThinVolumes$Pool" "sizes" "[I") 1 rfl
  have k_1 : ∀ w ∈ wsX10, w ∈ wsX1_hasPlace := fun _ h => List.mem_cons_of_mem _ (List.mem_append_right _ (h))
  refine wk_aload_n F dX1_hasPlace_0 rfl 0 rfl (pc' := 1) rfl ?_
  refine wk_iload_n F dX1_hasPlace_1 rfl 1 rfl (pc' := 2) rfl ?_
  refine wk_same_p F (c1_lives l D cI cP hs σ p1) (cwV 1 F.hts gX1_hasPlace_X1_lives rfl rfl rfl hdX1_lives ⟨Nat.le_of_ble_eq_true rfl, Nat.le_of_ble_eq_true rfl⟩) 0 1 rfl rfl rfl rfl (Nat.le_of_ble_eq_true rfl) dX1_hasPlace_2 ⟨Nat.zero_le _, Nat.zero_le _⟩ (pc' := 5) rfl ?_
  refine wk_if_eq (tgt := 32) F dX1_hasPlace_5 (by decide) (pc' := 8) rfl (fun c1 => ?_) (fun c1 => ?_)
  · refine wk_iconst F dX1_hasPlace_32 ic_0 (pc' := 33) rfl ?_
    exact hret _ _ _ dX1_hasPlace_33 rfl (by simp only [f1_hasPlace, if_pos c1])
  · refine wk_iload_n F dX1_hasPlace_8 rfl 2 rfl (pc' := 9) rfl ?_
    refine wk_if_lt (tgt := 32) F dX1_hasPlace_9 (by decide) (pc' := 12) rfl (fun c2 => ?_) (fun c2 => ?_)
    · refine wk_iconst F dX1_hasPlace_32 ic_0 (pc' := 33) rfl ?_
      exact hret _ _ _ dX1_hasPlace_33 rfl (by simp only [f1_hasPlace, if_neg c1, if_pos c2])
    · refine wk_iload_n F dX1_hasPlace_12 rfl 2 rfl (pc' := 13) rfl ?_
      refine wk_aload_n F dX1_hasPlace_13 rfl 0 rfl (pc' := 14) rfl ?_
      refine wk_get (C := RX1) (T := TX1) (N := 14) F 0 rfl rfl k_1 0 (Nat.le_of_ble_eq_true rfl) w_1 rfl dX1_hasPlace_14 (pc' := 17) rfl ?_
      refine wk_iload_n F dX1_hasPlace_17 rfl 1 rfl (pc' := 18) rfl ?_
      refine wk_iald F 1 0 rfl rfl (lives_in c1) dX1_hasPlace_18 (pc' := 19) rfl ?_
      refine wk_icmp_ge (tgt := 32) F dX1_hasPlace_19 (by decide) (pc' := 22) rfl (fun c3 => ?_) (fun c3 => ?_)
      · refine wk_iconst F dX1_hasPlace_32 ic_0 (pc' := 33) rfl ?_
        exact hret _ _ _ dX1_hasPlace_33 rfl (by simp only [f1_hasPlace, if_neg c1, if_neg c2, if_pos c3])
      · refine wk_iload_n F dX1_hasPlace_22 rfl 2 rfl (pc' := 23) rfl ?_
        refine wk_bipush F dX1_hasPlace_23 bp_40 (pc' := 25) rfl ?_
        refine wk_icmp_ge (tgt := 32) F dX1_hasPlace_25 (by decide) (pc' := 28) rfl (fun c4 => ?_) (fun c4 => ?_)
        · refine wk_iconst F dX1_hasPlace_32 ic_0 (pc' := 33) rfl ?_
          exact hret _ _ _ dX1_hasPlace_33 rfl (by simp only [f1_hasPlace, if_neg c1, if_neg c2, if_neg c3, if_pos c4])
        · refine wk_iconst F dX1_hasPlace_28 ic_1 (pc' := 29) rfl ?_
          refine wk_goto (tgt := 33) F dX1_hasPlace_29 (by decide) ?_
          exact hret _ _ _ dX1_hasPlace_33 rfl (by simp only [f1_hasPlace, if_neg c1, if_neg c2, if_neg c3, if_neg c4])
theorem hasPlace_v {σ : PS} {x y : Int32} (h : ¬ f1_hasPlace σ x y = 0) : vp_in x 8 := by
  unfold f1_hasPlace at h
  split at h
  · exact absurd rfl h
  · exact lives_in (by assumption)
theorem hasPlace_p {σ : PS} {x y : Int32} (h : ¬ f1_hasPlace σ x y = 0) : vp_in y 40 := by
  unfold f1_hasPlace at h
  split at h
  · exact absurd rfl h
  · split at h
    · exact absurd rfl h
    · split at h
      · exact absurd rfl h
      · split at h
        · exact absurd rfl h
        · exact vin (by assumption) (by assumption) (by decide)
def f1_isPiece (σ : PS) (p1 : Int32) : Int32 := (if p1 < 0 then (0 : Int32) else (if (30 : Int32) ≤ p1 then (0 : Int32) else (1 : Int32)))
set_option maxHeartbeats 4000000 in
set_option maxRecDepth 100000 in
theorem c1_isPiece (l : Launch) (D : va_G) (cI cP : ClassId) (hs : Nat → Nat) (σ : PS) (p1 : Int32) : CP l yX1_isPiece wsX1_isPiece ({ frames := 0, cells := 0, slots := 0, locals := 0 } : Room) D (cty cI cP) (wPool cI hs) σ [.ref (hs 0), .int p1] (f1_isPiece σ p1) := by
  refine CP.of (cc := cX1_isPiece) (maxL := 2) (rt := .boolean) (own := RX1) (lv0 := [(0, .ref (hs 0)), (1, .int p1)]) pnX1 rfl rfl (Nat.le_of_ble_eq_true rfl) rfl (fun p e s m args below meth c A Q F hret => ?_)
  refine wk_iload_n F dX1_isPiece_0 rfl 1 rfl (pc' := 1) rfl ?_
  refine wk_if_lt (tgt := 14) F dX1_isPiece_1 (by decide) (pc' := 4) rfl (fun c1 => ?_) (fun c1 => ?_)
  · refine wk_iconst F dX1_isPiece_14 ic_0 (pc' := 15) rfl ?_
    exact hret _ _ _ dX1_isPiece_15 rfl (by simp only [f1_isPiece, if_pos c1])
  · refine wk_iload_n F dX1_isPiece_4 rfl 1 rfl (pc' := 5) rfl ?_
    refine wk_bipush F dX1_isPiece_5 bp_30 (pc' := 7) rfl ?_
    refine wk_icmp_ge (tgt := 14) F dX1_isPiece_7 (by decide) (pc' := 10) rfl (fun c2 => ?_) (fun c2 => ?_)
    · refine wk_iconst F dX1_isPiece_14 ic_0 (pc' := 15) rfl ?_
      exact hret _ _ _ dX1_isPiece_15 rfl (by simp only [f1_isPiece, if_neg c1, if_pos c2])
    · refine wk_iconst F dX1_isPiece_10 ic_1 (pc' := 11) rfl ?_
      refine wk_goto (tgt := 15) F dX1_isPiece_11 (by decide) ?_
      exact hret _ _ _ dX1_isPiece_15 rfl (by simp only [f1_isPiece, if_neg c1, if_neg c2])
theorem isPiece_in {σ : PS} {x : Int32} (h : ¬ f1_isPiece σ x = 0) : vp_in x 30 := by
  unfold f1_isPiece at h
  split at h
  · exact absurd rfl h
  · split at h
    · exact absurd rfl h
    · exact vin (by assumption) (by assumption) (by decide)
def f1_pieceAt (σ : PS) (p1 : Int32) (p2 : Int32) : Int32 := (if (f1_hasPlace σ p1 p2) = 0 then (-1 : Int32) else σ 6 ((p1 * (40 : Int32)) + p2).toNatClampNeg)
set_option maxHeartbeats 4000000 in
set_option maxRecDepth 100000 in
theorem c1_pieceAt (l : Launch) (D : va_G) (cI cP : ClassId) (hs : Nat → Nat) (σ : PS) (p1 : Int32) (p2 : Int32) : CP l yX1_pieceAt wsX1_pieceAt ({ frames := 2, cells := 0, slots := 0, locals := 43 } : Room) D (cty cI cP) (wPool cI hs) σ [.ref (hs 0), .int p1, .int p2] (f1_pieceAt σ p1 p2) := by
  refine CP.of (cc := cX1_pieceAt) (maxL := 3) (rt := .int) (own := RX1) (lv0 := [(0, .ref (hs 0)), (1, .int p1), (2, .int p2)]) pnX1 rfl rfl (Nat.le_of_ble_eq_true rfl) rfl (fun p e s m args below meth c A Q F hret => ?_)
  have w_1 := F.at (x := Cond.fieldLink RX1 30 "ThinVolumes$Pool" "spots" "[I") 1 rfl
  have k_1 : ∀ w ∈ wsX10, w ∈ wsX1_pieceAt := fun _ h => List.mem_cons_of_mem _ (List.mem_append_right _ (h))
  refine wk_aload_n F dX1_pieceAt_0 rfl 0 rfl (pc' := 1) rfl ?_
  refine wk_iload_n F dX1_pieceAt_1 rfl 1 rfl (pc' := 2) rfl ?_
  refine wk_iload_n F dX1_pieceAt_2 rfl 2 rfl (pc' := 3) rfl ?_
  refine wk_same_p F (c1_hasPlace l D cI cP hs σ p1 p2) (cwV 2 F.hts gX1_pieceAt_X1_hasPlace rfl rfl rfl hdX1_hasPlace ⟨Nat.le_of_ble_eq_true rfl, Nat.le_of_ble_eq_true rfl⟩) 0 1 rfl rfl rfl rfl (Nat.le_of_ble_eq_true rfl) dX1_pieceAt_3 ⟨Nat.zero_le _, Nat.zero_le _⟩ (pc' := 6) rfl ?_
  refine wk_if_eq (tgt := 23) F dX1_pieceAt_6 (by decide) (pc' := 9) rfl (fun c1 => ?_) (fun c1 => ?_)
  · refine wk_iconst F dX1_pieceAt_23 ic_m1 (pc' := 24) rfl ?_
    exact hret _ _ _ dX1_pieceAt_24 rfl (by simp only [f1_pieceAt, if_pos c1])
  · refine wk_aload_n F dX1_pieceAt_9 rfl 0 rfl (pc' := 10) rfl ?_
    refine wk_get (C := RX1) (T := TX1) (N := 14) F 0 rfl rfl k_1 6 (Nat.le_of_ble_eq_true rfl) w_1 rfl dX1_pieceAt_10 (pc' := 13) rfl ?_
    refine wk_iload_n F dX1_pieceAt_13 rfl 1 rfl (pc' := 14) rfl ?_
    refine wk_bipush F dX1_pieceAt_14 bp_40 (pc' := 16) rfl ?_
    refine wk_imul F dX1_pieceAt_16 (pc' := 17) rfl ?_
    refine wk_iload_n F dX1_pieceAt_17 rfl 2 rfl (pc' := 18) rfl ?_
    refine wk_iadd F dX1_pieceAt_18 (pc' := 19) rfl ?_
    refine wk_iald F 7 0 rfl rfl (ix_spot (hasPlace_v c1) (hasPlace_p c1)) dX1_pieceAt_19 (pc' := 20) rfl ?_
    refine wk_goto (tgt := 24) F dX1_pieceAt_20 (by decide) ?_
    exact hret _ _ _ dX1_pieceAt_24 rfl (by simp only [f1_pieceAt, if_neg c1])
theorem pieceAt_has {σ τ : PS} {x y : Int32} (h : ¬ f1_isPiece τ (f1_pieceAt σ x y) = 0) : ¬ f1_hasPlace σ x y = 0 := by
  intro h2
  apply h
  unfold f1_pieceAt
  rw [if_pos h2]
  rfl
def f1_valueOf (σ : PS) (p1 : Int32) : Int32 := (if (f1_isPiece σ p1) = 0 then (0 : Int32) else σ 7 p1.toNatClampNeg)
set_option maxHeartbeats 4000000 in
set_option maxRecDepth 100000 in
theorem c1_valueOf (l : Launch) (D : va_G) (cI cP : ClassId) (hs : Nat → Nat) (σ : PS) (p1 : Int32) : CP l yX1_valueOf wsX1_valueOf ({ frames := 1, cells := 0, slots := 0, locals := 21 } : Room) D (cty cI cP) (wPool cI hs) σ [.ref (hs 0), .int p1] (f1_valueOf σ p1) := by
  refine CP.of (cc := cX1_valueOf) (maxL := 2) (rt := .int) (own := RX1) (lv0 := [(0, .ref (hs 0)), (1, .int p1)]) pnX1 rfl rfl (Nat.le_of_ble_eq_true rfl) rfl (fun p e s m args below meth c A Q F hret => ?_)
  have w_1 := F.at (x := Cond.fieldLink RX1 33 "ThinVolumes$Pool" "values" "[I") 1 rfl
  have k_1 : ∀ w ∈ wsX10, w ∈ wsX1_valueOf := fun _ h => List.mem_cons_of_mem _ (List.mem_append_right _ (h))
  refine wk_aload_n F dX1_valueOf_0 rfl 0 rfl (pc' := 1) rfl ?_
  refine wk_iload_n F dX1_valueOf_1 rfl 1 rfl (pc' := 2) rfl ?_
  refine wk_same_p F (c1_isPiece l D cI cP hs σ p1) (cwV 1 F.hts gX1_valueOf_X1_isPiece rfl rfl rfl hdX1_isPiece ⟨Nat.le_of_ble_eq_true rfl, Nat.le_of_ble_eq_true rfl⟩) 0 1 rfl rfl rfl rfl (Nat.le_of_ble_eq_true rfl) dX1_valueOf_2 ⟨Nat.zero_le _, Nat.zero_le _⟩ (pc' := 5) rfl ?_
  refine wk_if_eq (tgt := 17) F dX1_valueOf_5 (by decide) (pc' := 8) rfl (fun c1 => ?_) (fun c1 => ?_)
  · refine wk_iconst F dX1_valueOf_17 ic_0 (pc' := 18) rfl ?_
    exact hret _ _ _ dX1_valueOf_18 rfl (by simp only [f1_valueOf, if_pos c1])
  · refine wk_aload_n F dX1_valueOf_8 rfl 0 rfl (pc' := 9) rfl ?_
    refine wk_get (C := RX1) (T := TX1) (N := 14) F 0 rfl rfl k_1 7 (Nat.le_of_ble_eq_true rfl) w_1 rfl dX1_valueOf_9 (pc' := 12) rfl ?_
    refine wk_iload_n F dX1_valueOf_12 rfl 1 rfl (pc' := 13) rfl ?_
    refine wk_iald F 8 0 rfl rfl (isPiece_in c1) dX1_valueOf_13 (pc' := 14) rfl ?_
    refine wk_goto (tgt := 18) F dX1_valueOf_14 (by decide) ?_
    exact hret _ _ _ dX1_valueOf_18 rfl (by simp only [f1_valueOf, if_neg c1])
def f1_volumesThatLive_L4 (σ : PS) : Nat → Nat → Int32 → Int32
  | 0, i, x1 => x1
  | n + 1, i, x1 => (if (f1_lives σ (nI i)) = 0 then f1_volumesThatLive_L4 σ n (i + 1) x1 else f1_volumesThatLive_L4 σ n (i + 1) (x1 + 1))
def f1_volumesThatLive (σ : PS) : Int32 := ((fun (y3 : Int32) => y3) (f1_volumesThatLive_L4 σ 8 0 (0 : Int32)))
set_option maxHeartbeats 4000000 in
set_option maxRecDepth 100000 in
theorem c1_volumesThatLive (l : Launch) (D : va_G) (cI cP : ClassId) (hs : Nat → Nat) (σ : PS) : CP l yX1_volumesThatLive wsX1_volumesThatLive ({ frames := 1, cells := 0, slots := 0, locals := 21 } : Room) D (cty cI cP) (wPool cI hs) σ [.ref (hs 0)] (f1_volumesThatLive σ) := by
  refine CP.of (cc := cX1_volumesThatLive) (maxL := 3) (rt := .int) (own := RX1) (lv0 := [(0, .ref (hs 0))]) pnX1 rfl rfl (Nat.le_of_ble_eq_true rfl) rfl (fun p e s m args below meth c A Q F hret => ?_)
  have L4 : ∀ (n : Nat) (i : Nat) (x1 : Int32), i + n = 8 → (∀ (y1 : Int32), f1_volumesThatLive_L4 σ n i x1 = y1 → Wk p l e ({ frames := 1, cells := 0, slots := 0, locals := 21 } : Room) s m args below meth c 3 D A 0 0 Q (wPool cI hs σ) [(1, .int y1)] 27 []) → Wk p l e ({ frames := 1, cells := 0, slots := 0, locals := 21 } : Room) s m args below meth c 3 D A 0 0 Q (wPool cI hs σ) [(0, .ref (hs 0)), (1, .int x1), (2, .int (nI i))] 4 [] := by
    intro n
    induction n with
    | zero =>
      intro i x1 hi kx
      refine wk_iload_n F dX1_volumesThatLive_4 rfl 2 rfl (pc' := 5) rfl ?_
      refine wk_bipush F dX1_volumesThatLive_5 bp_8 (pc' := 7) rfl ?_
      refine wk_icmp_ge (tgt := 27) F dX1_volumesThatLive_7 (by decide) (pc' := 10) rfl (fun _ => ?_) (fun c => absurd ((nI_leI (a := 8) (b := i) (by omega) (by omega)).mpr (by omega)) c)
      refine wk_lv [1] rfl ?_
      exact kx x1 (by simp only [f1_volumesThatLive_L4])
    | succ n ih =>
      intro i x1 hi kx
      refine wk_iload_n F dX1_volumesThatLive_4 rfl 2 rfl (pc' := 5) rfl ?_
      refine wk_bipush F dX1_volumesThatLive_5 bp_8 (pc' := 7) rfl ?_
      refine wk_icmp_ge (tgt := 27) F dX1_volumesThatLive_7 (by decide) (pc' := 10) rfl (fun c => absurd ((nI_leI (a := 8) (b := i) (by omega) (by omega)).mp c) (by omega)) (fun _ => ?_)
      refine wk_aload_n F dX1_volumesThatLive_10 rfl 0 rfl (pc' := 11) rfl ?_
      refine wk_iload_n F dX1_volumesThatLive_11 rfl 2 rfl (pc' := 12) rfl ?_
      refine wk_same_p F (c1_lives l D cI cP hs σ (nI i)) (cwV 1 F.hts gX1_volumesThatLive_X1_lives rfl rfl rfl hdX1_lives ⟨Nat.le_of_ble_eq_true rfl, Nat.le_of_ble_eq_true rfl⟩) 0 1 rfl rfl rfl rfl (Nat.le_of_ble_eq_true rfl) dX1_volumesThatLive_12 ⟨Nat.zero_le _, Nat.zero_le _⟩ (pc' := 15) rfl ?_
      refine wk_if_eq (tgt := 21) F dX1_volumesThatLive_15 (by decide) (pc' := 18) rfl (fun c1 => ?_) (fun c1 => ?_)
      · refine wk_iinc (k := 2) (v := nI (i + 1)) (lv' := [(2, .int (nI (i + 1))), (0, .ref (hs 0)), (1, .int x1)]) F dX1_volumesThatLive_21 rfl (nI_inc i) (Nat.le_of_ble_eq_true rfl) rfl (pc' := 24) rfl ?_
        refine wk_goto (tgt := 4) F dX1_volumesThatLive_24 (by decide) ?_
        refine wk_lv [1, 2, 0] rfl ?_
        exact ih (i + 1) x1 (by omega) (fun y1_ h_ => kx y1_ (Eq.trans (by simp only [f1_volumesThatLive_L4, if_pos c1]) h_))
      · refine wk_iinc (k := 1) (v := x1 + 1) (lv' := [(1, .int (x1 + 1)), (0, .ref (hs 0)), (2, .int (nI i))]) F dX1_volumesThatLive_18 rfl rfl (Nat.le_of_ble_eq_true rfl) rfl (pc' := 21) rfl ?_
        refine wk_iinc (k := 2) (v := nI (i + 1)) (lv' := [(2, .int (nI (i + 1))), (1, .int (x1 + 1)), (0, .ref (hs 0))]) F dX1_volumesThatLive_21 rfl (nI_inc i) (Nat.le_of_ble_eq_true rfl) rfl (pc' := 24) rfl ?_
        refine wk_goto (tgt := 4) F dX1_volumesThatLive_24 (by decide) ?_
        refine wk_lv [2, 1, 0] rfl ?_
        exact ih (i + 1) (x1 + 1) (by omega) (fun y1_ h_ => kx y1_ (Eq.trans (by simp only [f1_volumesThatLive_L4, if_neg c1]) h_))
  refine wk_iconst F dX1_volumesThatLive_0 ic_0 (pc' := 1) rfl ?_
  refine wk_istore_n (lv' := [(1, .int (0 : Int32)), (0, .ref (hs 0))]) F dX1_volumesThatLive_1 rfl (Nat.le_of_ble_eq_true rfl) rfl (pc' := 2) rfl ?_
  refine wk_iconst F dX1_volumesThatLive_2 ic_0 (pc' := 3) rfl ?_
  refine wk_istore_n (lv' := [(2, .int (0 : Int32)), (1, .int (0 : Int32)), (0, .ref (hs 0))]) F dX1_volumesThatLive_3 rfl (Nat.le_of_ble_eq_true rfl) rfl (pc' := 4) rfl ?_
  refine wk_lv [2, 1, 0] rfl ?_
  refine L4 8 0 (0 : Int32) (by omega) (fun y3 h2 => ?_)
  refine wk_iload_n F dX1_volumesThatLive_27 rfl 0 rfl (pc' := 28) rfl ?_
  exact hret _ _ _ dX1_volumesThatLive_28 rfl (by simp only [f1_volumesThatLive, h2])
def f1_allSizes_L4 (σ : PS) : Nat → Nat → Int32 → Int32
  | 0, i, x1 => x1
  | n + 1, i, x1 => f1_allSizes_L4 σ n (i + 1) (x1 + (σ 0 i))
def f1_allSizes (σ : PS) : Int32 := ((fun (y2 : Int32) => y2) (f1_allSizes_L4 σ 8 0 (0 : Int32)))
set_option maxHeartbeats 4000000 in
set_option maxRecDepth 100000 in
theorem c1_allSizes (l : Launch) (D : va_G) (cI cP : ClassId) (hs : Nat → Nat) (σ : PS) : CP l yX1_allSizes wsX1_allSizes ({ frames := 0, cells := 0, slots := 0, locals := 0 } : Room) D (cty cI cP) (wPool cI hs) σ [.ref (hs 0)] (f1_allSizes σ) := by
  refine CP.of (cc := cX1_allSizes) (maxL := 3) (rt := .int) (own := RX1) (lv0 := [(0, .ref (hs 0))]) pnX1 rfl rfl (Nat.le_of_ble_eq_true rfl) rfl (fun p e s m args below meth c A Q F hret => ?_)
  have w_1 := F.at (x := Cond.fieldLink RX1 9 "ThinVolumes$Pool" "sizes" "[I") 1 rfl
  have k_1 : ∀ w ∈ wsX10, w ∈ wsX1_allSizes := fun _ h => List.mem_cons_of_mem _ (List.mem_append_right _ (h))
  have L4 : ∀ (n : Nat) (i : Nat) (x1 : Int32), i + n = 8 → (∀ (y1 : Int32), f1_allSizes_L4 σ n i x1 = y1 → Wk p l e ({ frames := 0, cells := 0, slots := 0, locals := 0 } : Room) s m args below meth c 3 D A 0 0 Q (wPool cI hs σ) [(1, .int y1)] 25 []) → Wk p l e ({ frames := 0, cells := 0, slots := 0, locals := 0 } : Room) s m args below meth c 3 D A 0 0 Q (wPool cI hs σ) [(0, .ref (hs 0)), (1, .int x1), (2, .int (nI i))] 4 [] := by
    intro n
    induction n with
    | zero =>
      intro i x1 hi kx
      refine wk_iload_n F dX1_allSizes_4 rfl 2 rfl (pc' := 5) rfl ?_
      refine wk_bipush F dX1_allSizes_5 bp_8 (pc' := 7) rfl ?_
      refine wk_icmp_ge (tgt := 25) F dX1_allSizes_7 (by decide) (pc' := 10) rfl (fun _ => ?_) (fun c => absurd ((nI_leI (a := 8) (b := i) (by omega) (by omega)).mpr (by omega)) c)
      refine wk_lv [1] rfl ?_
      exact kx x1 (by simp only [f1_allSizes_L4])
    | succ n ih =>
      intro i x1 hi kx
      refine wk_iload_n F dX1_allSizes_4 rfl 2 rfl (pc' := 5) rfl ?_
      refine wk_bipush F dX1_allSizes_5 bp_8 (pc' := 7) rfl ?_
      refine wk_icmp_ge (tgt := 25) F dX1_allSizes_7 (by decide) (pc' := 10) rfl (fun c => absurd ((nI_leI (a := 8) (b := i) (by omega) (by omega)).mp c) (by omega)) (fun _ => ?_)
      refine wk_iload_n F dX1_allSizes_10 rfl 1 rfl (pc' := 11) rfl ?_
      refine wk_aload_n F dX1_allSizes_11 rfl 0 rfl (pc' := 12) rfl ?_
      refine wk_get (C := RX1) (T := TX1) (N := 14) F 0 rfl rfl k_1 0 (Nat.le_of_ble_eq_true rfl) w_1 rfl dX1_allSizes_12 (pc' := 15) rfl ?_
      refine wk_iload_n F dX1_allSizes_15 rfl 2 rfl (pc' := 16) rfl ?_
      refine wk_iald_n (i := i) F 1 0 rfl rfl (by omega) (Nat.le_of_ble_eq_true rfl) dX1_allSizes_16 (pc' := 17) rfl ?_
      refine wk_iadd F dX1_allSizes_17 (pc' := 18) rfl ?_
      refine wk_istore_n (lv' := [(1, .int (x1 + (σ 0 i))), (0, .ref (hs 0)), (2, .int (nI i))]) F dX1_allSizes_18 rfl (Nat.le_of_ble_eq_true rfl) rfl (pc' := 19) rfl ?_
      refine wk_iinc (k := 2) (v := nI (i + 1)) (lv' := [(2, .int (nI (i + 1))), (1, .int (x1 + (σ 0 i))), (0, .ref (hs 0))]) F dX1_allSizes_19 rfl (nI_inc i) (Nat.le_of_ble_eq_true rfl) rfl (pc' := 22) rfl ?_
      refine wk_goto (tgt := 4) F dX1_allSizes_22 (by decide) ?_
      refine wk_lv [2, 1, 0] rfl ?_
      exact ih (i + 1) (x1 + (σ 0 i)) (by omega) (fun y1_ h_ => kx y1_ (Eq.trans (by simp only [f1_allSizes_L4]) h_))
  refine wk_iconst F dX1_allSizes_0 ic_0 (pc' := 1) rfl ?_
  refine wk_istore_n (lv' := [(1, .int (0 : Int32)), (0, .ref (hs 0))]) F dX1_allSizes_1 rfl (Nat.le_of_ble_eq_true rfl) rfl (pc' := 2) rfl ?_
  refine wk_iconst F dX1_allSizes_2 ic_0 (pc' := 3) rfl ?_
  refine wk_istore_n (lv' := [(2, .int (0 : Int32)), (1, .int (0 : Int32)), (0, .ref (hs 0))]) F dX1_allSizes_3 rfl (Nat.le_of_ble_eq_true rfl) rfl (pc' := 4) rfl ?_
  refine wk_lv [2, 1, 0] rfl ?_
  refine L4 8 0 (0 : Int32) (by omega) (fun y2 h1 => ?_)
  refine wk_iload_n F dX1_allSizes_25 rfl 0 rfl (pc' := 26) rfl ?_
  exact hret _ _ _ dX1_allSizes_26 rfl (by simp only [f1_allSizes, h1])
def f1_allPromises_L4 (σ : PS) : Nat → Nat → Int32 → Int32
  | 0, i, x1 => x1
  | n + 1, i, x1 => f1_allPromises_L4 σ n (i + 1) (x1 + (σ 2 i))
def f1_allPromises (σ : PS) : Int32 := ((fun (y2 : Int32) => y2) (f1_allPromises_L4 σ 8 0 (0 : Int32)))
set_option maxHeartbeats 4000000 in
set_option maxRecDepth 100000 in
theorem c1_allPromises (l : Launch) (D : va_G) (cI cP : ClassId) (hs : Nat → Nat) (σ : PS) : CP l yX1_allPromises wsX1_allPromises ({ frames := 0, cells := 0, slots := 0, locals := 0 } : Room) D (cty cI cP) (wPool cI hs) σ [.ref (hs 0)] (f1_allPromises σ) := by
  refine CP.of (cc := cX1_allPromises) (maxL := 3) (rt := .int) (own := RX1) (lv0 := [(0, .ref (hs 0))]) pnX1 rfl rfl (Nat.le_of_ble_eq_true rfl) rfl (fun p e s m args below meth c A Q F hret => ?_)
  have w_1 := F.at (x := Cond.fieldLink RX1 18 "ThinVolumes$Pool" "promises" "[I") 1 rfl
  have k_1 : ∀ w ∈ wsX10, w ∈ wsX1_allPromises := fun _ h => List.mem_cons_of_mem _ (List.mem_append_right _ (h))
  have L4 : ∀ (n : Nat) (i : Nat) (x1 : Int32), i + n = 8 → (∀ (y1 : Int32), f1_allPromises_L4 σ n i x1 = y1 → Wk p l e ({ frames := 0, cells := 0, slots := 0, locals := 0 } : Room) s m args below meth c 3 D A 0 0 Q (wPool cI hs σ) [(1, .int y1)] 25 []) → Wk p l e ({ frames := 0, cells := 0, slots := 0, locals := 0 } : Room) s m args below meth c 3 D A 0 0 Q (wPool cI hs σ) [(0, .ref (hs 0)), (1, .int x1), (2, .int (nI i))] 4 [] := by
    intro n
    induction n with
    | zero =>
      intro i x1 hi kx
      refine wk_iload_n F dX1_allPromises_4 rfl 2 rfl (pc' := 5) rfl ?_
      refine wk_bipush F dX1_allPromises_5 bp_8 (pc' := 7) rfl ?_
      refine wk_icmp_ge (tgt := 25) F dX1_allPromises_7 (by decide) (pc' := 10) rfl (fun _ => ?_) (fun c => absurd ((nI_leI (a := 8) (b := i) (by omega) (by omega)).mpr (by omega)) c)
      refine wk_lv [1] rfl ?_
      exact kx x1 (by simp only [f1_allPromises_L4])
    | succ n ih =>
      intro i x1 hi kx
      refine wk_iload_n F dX1_allPromises_4 rfl 2 rfl (pc' := 5) rfl ?_
      refine wk_bipush F dX1_allPromises_5 bp_8 (pc' := 7) rfl ?_
      refine wk_icmp_ge (tgt := 25) F dX1_allPromises_7 (by decide) (pc' := 10) rfl (fun c => absurd ((nI_leI (a := 8) (b := i) (by omega) (by omega)).mp c) (by omega)) (fun _ => ?_)
      refine wk_iload_n F dX1_allPromises_10 rfl 1 rfl (pc' := 11) rfl ?_
      refine wk_aload_n F dX1_allPromises_11 rfl 0 rfl (pc' := 12) rfl ?_
      refine wk_get (C := RX1) (T := TX1) (N := 14) F 0 rfl rfl k_1 2 (Nat.le_of_ble_eq_true rfl) w_1 rfl dX1_allPromises_12 (pc' := 15) rfl ?_
      refine wk_iload_n F dX1_allPromises_15 rfl 2 rfl (pc' := 16) rfl ?_
      refine wk_iald_n (i := i) F 3 0 rfl rfl (by omega) (Nat.le_of_ble_eq_true rfl) dX1_allPromises_16 (pc' := 17) rfl ?_
      refine wk_iadd F dX1_allPromises_17 (pc' := 18) rfl ?_
      refine wk_istore_n (lv' := [(1, .int (x1 + (σ 2 i))), (0, .ref (hs 0)), (2, .int (nI i))]) F dX1_allPromises_18 rfl (Nat.le_of_ble_eq_true rfl) rfl (pc' := 19) rfl ?_
      refine wk_iinc (k := 2) (v := nI (i + 1)) (lv' := [(2, .int (nI (i + 1))), (1, .int (x1 + (σ 2 i))), (0, .ref (hs 0))]) F dX1_allPromises_19 rfl (nI_inc i) (Nat.le_of_ble_eq_true rfl) rfl (pc' := 22) rfl ?_
      refine wk_goto (tgt := 4) F dX1_allPromises_22 (by decide) ?_
      refine wk_lv [2, 1, 0] rfl ?_
      exact ih (i + 1) (x1 + (σ 2 i)) (by omega) (fun y1_ h_ => kx y1_ (Eq.trans (by simp only [f1_allPromises_L4]) h_))
  refine wk_iconst F dX1_allPromises_0 ic_0 (pc' := 1) rfl ?_
  refine wk_istore_n (lv' := [(1, .int (0 : Int32)), (0, .ref (hs 0))]) F dX1_allPromises_1 rfl (Nat.le_of_ble_eq_true rfl) rfl (pc' := 2) rfl ?_
  refine wk_iconst F dX1_allPromises_2 ic_0 (pc' := 3) rfl ?_
  refine wk_istore_n (lv' := [(2, .int (0 : Int32)), (1, .int (0 : Int32)), (0, .ref (hs 0))]) F dX1_allPromises_3 rfl (Nat.le_of_ble_eq_true rfl) rfl (pc' := 4) rfl ?_
  refine wk_lv [2, 1, 0] rfl ?_
  refine L4 8 0 (0 : Int32) (by omega) (fun y2 h1 => ?_)
  refine wk_iload_n F dX1_allPromises_25 rfl 0 rfl (pc' := 26) rfl ?_
  exact hret _ _ _ dX1_allPromises_26 rfl (by simp only [f1_allPromises, h1])
def f1_allOwners_L4 (σ : PS) : Nat → Nat → Int32 → Int32
  | 0, i, x1 => x1
  | n + 1, i, x1 => f1_allOwners_L4 σ n (i + 1) (x1 + (σ 8 i))
def f1_allOwners (σ : PS) : Int32 := ((fun (y2 : Int32) => y2) (f1_allOwners_L4 σ 30 0 (0 : Int32)))
set_option maxHeartbeats 4000000 in
set_option maxRecDepth 100000 in
theorem c1_allOwners (l : Launch) (D : va_G) (cI cP : ClassId) (hs : Nat → Nat) (σ : PS) : CP l yX1_allOwners wsX1_allOwners ({ frames := 0, cells := 0, slots := 0, locals := 0 } : Room) D (cty cI cP) (wPool cI hs) σ [.ref (hs 0)] (f1_allOwners σ) := by
  refine CP.of (cc := cX1_allOwners) (maxL := 3) (rt := .int) (own := RX1) (lv0 := [(0, .ref (hs 0))]) pnX1 rfl rfl (Nat.le_of_ble_eq_true rfl) rfl (fun p e s m args below meth c A Q F hret => ?_)
  have w_1 := F.at (x := Cond.fieldLink RX1 36 "ThinVolumes$Pool" "owners" "[I") 1 rfl
  have k_1 : ∀ w ∈ wsX10, w ∈ wsX1_allOwners := fun _ h => List.mem_cons_of_mem _ (List.mem_append_right _ (h))
  have L4 : ∀ (n : Nat) (i : Nat) (x1 : Int32), i + n = 30 → (∀ (y1 : Int32), f1_allOwners_L4 σ n i x1 = y1 → Wk p l e ({ frames := 0, cells := 0, slots := 0, locals := 0 } : Room) s m args below meth c 3 D A 0 0 Q (wPool cI hs σ) [(1, .int y1)] 25 []) → Wk p l e ({ frames := 0, cells := 0, slots := 0, locals := 0 } : Room) s m args below meth c 3 D A 0 0 Q (wPool cI hs σ) [(0, .ref (hs 0)), (1, .int x1), (2, .int (nI i))] 4 [] := by
    intro n
    induction n with
    | zero =>
      intro i x1 hi kx
      refine wk_iload_n F dX1_allOwners_4 rfl 2 rfl (pc' := 5) rfl ?_
      refine wk_bipush F dX1_allOwners_5 bp_30 (pc' := 7) rfl ?_
      refine wk_icmp_ge (tgt := 25) F dX1_allOwners_7 (by decide) (pc' := 10) rfl (fun _ => ?_) (fun c => absurd ((nI_leI (a := 30) (b := i) (by omega) (by omega)).mpr (by omega)) c)
      refine wk_lv [1] rfl ?_
      exact kx x1 (by simp only [f1_allOwners_L4])
    | succ n ih =>
      intro i x1 hi kx
      refine wk_iload_n F dX1_allOwners_4 rfl 2 rfl (pc' := 5) rfl ?_
      refine wk_bipush F dX1_allOwners_5 bp_30 (pc' := 7) rfl ?_
      refine wk_icmp_ge (tgt := 25) F dX1_allOwners_7 (by decide) (pc' := 10) rfl (fun c => absurd ((nI_leI (a := 30) (b := i) (by omega) (by omega)).mp c) (by omega)) (fun _ => ?_)
      refine wk_iload_n F dX1_allOwners_10 rfl 1 rfl (pc' := 11) rfl ?_
      refine wk_aload_n F dX1_allOwners_11 rfl 0 rfl (pc' := 12) rfl ?_
      refine wk_get (C := RX1) (T := TX1) (N := 14) F 0 rfl rfl k_1 8 (Nat.le_of_ble_eq_true rfl) w_1 rfl dX1_allOwners_12 (pc' := 15) rfl ?_
      refine wk_iload_n F dX1_allOwners_15 rfl 2 rfl (pc' := 16) rfl ?_
      refine wk_iald_n (i := i) F 9 0 rfl rfl (by omega) (Nat.le_of_ble_eq_true rfl) dX1_allOwners_16 (pc' := 17) rfl ?_
      refine wk_iadd F dX1_allOwners_17 (pc' := 18) rfl ?_
      refine wk_istore_n (lv' := [(1, .int (x1 + (σ 8 i))), (0, .ref (hs 0)), (2, .int (nI i))]) F dX1_allOwners_18 rfl (Nat.le_of_ble_eq_true rfl) rfl (pc' := 19) rfl ?_
      refine wk_iinc (k := 2) (v := nI (i + 1)) (lv' := [(2, .int (nI (i + 1))), (1, .int (x1 + (σ 8 i))), (0, .ref (hs 0))]) F dX1_allOwners_19 rfl (nI_inc i) (Nat.le_of_ble_eq_true rfl) rfl (pc' := 22) rfl ?_
      refine wk_goto (tgt := 4) F dX1_allOwners_22 (by decide) ?_
      refine wk_lv [2, 1, 0] rfl ?_
      exact ih (i + 1) (x1 + (σ 8 i)) (by omega) (fun y1_ h_ => kx y1_ (Eq.trans (by simp only [f1_allOwners_L4]) h_))
  refine wk_iconst F dX1_allOwners_0 ic_0 (pc' := 1) rfl ?_
  refine wk_istore_n (lv' := [(1, .int (0 : Int32)), (0, .ref (hs 0))]) F dX1_allOwners_1 rfl (Nat.le_of_ble_eq_true rfl) rfl (pc' := 2) rfl ?_
  refine wk_iconst F dX1_allOwners_2 ic_0 (pc' := 3) rfl ?_
  refine wk_istore_n (lv' := [(2, .int (0 : Int32)), (1, .int (0 : Int32)), (0, .ref (hs 0))]) F dX1_allOwners_3 rfl (Nat.le_of_ble_eq_true rfl) rfl (pc' := 4) rfl ?_
  refine wk_lv [2, 1, 0] rfl ?_
  refine L4 30 0 (0 : Int32) (by omega) (fun y2 h1 => ?_)
  refine wk_iload_n F dX1_allOwners_25 rfl 0 rfl (pc' := 26) rfl ?_
  exact hret _ _ _ dX1_allOwners_26 rfl (by simp only [f1_allOwners, h1])
def f1_freePieces_L4 (σ : PS) : Nat → Nat → Int32 → Int32
  | 0, i, x1 => x1
  | n + 1, i, x1 => (if (σ 8 i) = 0 then f1_freePieces_L4 σ n (i + 1) (x1 + 1) else f1_freePieces_L4 σ n (i + 1) x1)
def f1_freePieces (σ : PS) : Int32 := ((fun (y3 : Int32) => y3) (f1_freePieces_L4 σ 30 0 (0 : Int32)))
set_option maxHeartbeats 4000000 in
set_option maxRecDepth 100000 in
theorem c1_freePieces (l : Launch) (D : va_G) (cI cP : ClassId) (hs : Nat → Nat) (σ : PS) : CP l yX1_freePieces wsX1_freePieces ({ frames := 0, cells := 0, slots := 0, locals := 0 } : Room) D (cty cI cP) (wPool cI hs) σ [.ref (hs 0)] (f1_freePieces σ) := by
  refine CP.of (cc := cX1_freePieces) (maxL := 3) (rt := .int) (own := RX1) (lv0 := [(0, .ref (hs 0))]) pnX1 rfl rfl (Nat.le_of_ble_eq_true rfl) rfl (fun p e s m args below meth c A Q F hret => ?_)
  have w_1 := F.at (x := Cond.fieldLink RX1 36 "ThinVolumes$Pool" "owners" "[I") 1 rfl
  have k_1 : ∀ w ∈ wsX10, w ∈ wsX1_freePieces := fun _ h => List.mem_cons_of_mem _ (List.mem_append_right _ (h))
  have L4 : ∀ (n : Nat) (i : Nat) (x1 : Int32), i + n = 30 → (∀ (y1 : Int32), f1_freePieces_L4 σ n i x1 = y1 → Wk p l e ({ frames := 0, cells := 0, slots := 0, locals := 0 } : Room) s m args below meth c 3 D A 0 0 Q (wPool cI hs σ) [(1, .int y1)] 28 []) → Wk p l e ({ frames := 0, cells := 0, slots := 0, locals := 0 } : Room) s m args below meth c 3 D A 0 0 Q (wPool cI hs σ) [(0, .ref (hs 0)), (1, .int x1), (2, .int (nI i))] 4 [] := by
    intro n
    induction n with
    | zero =>
      intro i x1 hi kx
      refine wk_iload_n F dX1_freePieces_4 rfl 2 rfl (pc' := 5) rfl ?_
      refine wk_bipush F dX1_freePieces_5 bp_30 (pc' := 7) rfl ?_
      refine wk_icmp_ge (tgt := 28) F dX1_freePieces_7 (by decide) (pc' := 10) rfl (fun _ => ?_) (fun c => absurd ((nI_leI (a := 30) (b := i) (by omega) (by omega)).mpr (by omega)) c)
      refine wk_lv [1] rfl ?_
      exact kx x1 (by simp only [f1_freePieces_L4])
    | succ n ih =>
      intro i x1 hi kx
      refine wk_iload_n F dX1_freePieces_4 rfl 2 rfl (pc' := 5) rfl ?_
      refine wk_bipush F dX1_freePieces_5 bp_30 (pc' := 7) rfl ?_
      refine wk_icmp_ge (tgt := 28) F dX1_freePieces_7 (by decide) (pc' := 10) rfl (fun c => absurd ((nI_leI (a := 30) (b := i) (by omega) (by omega)).mp c) (by omega)) (fun _ => ?_)
      refine wk_aload_n F dX1_freePieces_10 rfl 0 rfl (pc' := 11) rfl ?_
      refine wk_get (C := RX1) (T := TX1) (N := 14) F 0 rfl rfl k_1 8 (Nat.le_of_ble_eq_true rfl) w_1 rfl dX1_freePieces_11 (pc' := 14) rfl ?_
      refine wk_iload_n F dX1_freePieces_14 rfl 2 rfl (pc' := 15) rfl ?_
      refine wk_iald_n (i := i) F 9 0 rfl rfl (by omega) (Nat.le_of_ble_eq_true rfl) dX1_freePieces_15 (pc' := 16) rfl ?_
      refine wk_if_ne (tgt := 22) F dX1_freePieces_16 (by decide) (pc' := 19) rfl (fun c1 => ?_) (fun c1 => ?_)
      · refine wk_iinc (k := 2) (v := nI (i + 1)) (lv' := [(2, .int (nI (i + 1))), (0, .ref (hs 0)), (1, .int x1)]) F dX1_freePieces_22 rfl (nI_inc i) (Nat.le_of_ble_eq_true rfl) rfl (pc' := 25) rfl ?_
        refine wk_goto (tgt := 4) F dX1_freePieces_25 (by decide) ?_
        refine wk_lv [1, 2, 0] rfl ?_
        exact ih (i + 1) x1 (by omega) (fun y1_ h_ => kx y1_ (Eq.trans (by simp only [f1_freePieces_L4, if_neg c1]) h_))
      · refine wk_iinc (k := 1) (v := x1 + 1) (lv' := [(1, .int (x1 + 1)), (0, .ref (hs 0)), (2, .int (nI i))]) F dX1_freePieces_19 rfl rfl (Nat.le_of_ble_eq_true rfl) rfl (pc' := 22) rfl ?_
        refine wk_iinc (k := 2) (v := nI (i + 1)) (lv' := [(2, .int (nI (i + 1))), (1, .int (x1 + 1)), (0, .ref (hs 0))]) F dX1_freePieces_22 rfl (nI_inc i) (Nat.le_of_ble_eq_true rfl) rfl (pc' := 25) rfl ?_
        refine wk_goto (tgt := 4) F dX1_freePieces_25 (by decide) ?_
        refine wk_lv [2, 1, 0] rfl ?_
        exact ih (i + 1) (x1 + 1) (by omega) (fun y1_ h_ => kx y1_ (Eq.trans (by simp only [f1_freePieces_L4, if_pos c1]) h_))
  refine wk_iconst F dX1_freePieces_0 ic_0 (pc' := 1) rfl ?_
  refine wk_istore_n (lv' := [(1, .int (0 : Int32)), (0, .ref (hs 0))]) F dX1_freePieces_1 rfl (Nat.le_of_ble_eq_true rfl) rfl (pc' := 2) rfl ?_
  refine wk_iconst F dX1_freePieces_2 ic_0 (pc' := 3) rfl ?_
  refine wk_istore_n (lv' := [(2, .int (0 : Int32)), (1, .int (0 : Int32)), (0, .ref (hs 0))]) F dX1_freePieces_3 rfl (Nat.le_of_ble_eq_true rfl) rfl (pc' := 4) rfl ?_
  refine wk_lv [2, 1, 0] rfl ?_
  refine L4 30 0 (0 : Int32) (by omega) (fun y3 h2 => ?_)
  refine wk_iload_n F dX1_freePieces_28 rfl 0 rfl (pc' := 29) rfl ?_
  exact hret _ _ _ dX1_freePieces_29 rfl (by simp only [f1_freePieces, h2])
def f1_sharedPieces_L4 (σ : PS) : Nat → Nat → Int32 → Int32
  | 0, i, x1 => x1
  | n + 1, i, x1 => (if (σ 8 i) ≤ (1 : Int32) then f1_sharedPieces_L4 σ n (i + 1) x1 else f1_sharedPieces_L4 σ n (i + 1) (x1 + 1))
def f1_sharedPieces (σ : PS) : Int32 := ((fun (y3 : Int32) => y3) (f1_sharedPieces_L4 σ 30 0 (0 : Int32)))
set_option maxHeartbeats 4000000 in
set_option maxRecDepth 100000 in
theorem c1_sharedPieces (l : Launch) (D : va_G) (cI cP : ClassId) (hs : Nat → Nat) (σ : PS) : CP l yX1_sharedPieces wsX1_sharedPieces ({ frames := 0, cells := 0, slots := 0, locals := 0 } : Room) D (cty cI cP) (wPool cI hs) σ [.ref (hs 0)] (f1_sharedPieces σ) := by
  refine CP.of (cc := cX1_sharedPieces) (maxL := 3) (rt := .int) (own := RX1) (lv0 := [(0, .ref (hs 0))]) pnX1 rfl rfl (Nat.le_of_ble_eq_true rfl) rfl (fun p e s m args below meth c A Q F hret => ?_)
  have w_1 := F.at (x := Cond.fieldLink RX1 36 "ThinVolumes$Pool" "owners" "[I") 1 rfl
  have k_1 : ∀ w ∈ wsX10, w ∈ wsX1_sharedPieces := fun _ h => List.mem_cons_of_mem _ (List.mem_append_right _ (h))
  have L4 : ∀ (n : Nat) (i : Nat) (x1 : Int32), i + n = 30 → (∀ (y1 : Int32), f1_sharedPieces_L4 σ n i x1 = y1 → Wk p l e ({ frames := 0, cells := 0, slots := 0, locals := 0 } : Room) s m args below meth c 3 D A 0 0 Q (wPool cI hs σ) [(1, .int y1)] 29 []) → Wk p l e ({ frames := 0, cells := 0, slots := 0, locals := 0 } : Room) s m args below meth c 3 D A 0 0 Q (wPool cI hs σ) [(0, .ref (hs 0)), (1, .int x1), (2, .int (nI i))] 4 [] := by
    intro n
    induction n with
    | zero =>
      intro i x1 hi kx
      refine wk_iload_n F dX1_sharedPieces_4 rfl 2 rfl (pc' := 5) rfl ?_
      refine wk_bipush F dX1_sharedPieces_5 bp_30 (pc' := 7) rfl ?_
      refine wk_icmp_ge (tgt := 29) F dX1_sharedPieces_7 (by decide) (pc' := 10) rfl (fun _ => ?_) (fun c => absurd ((nI_leI (a := 30) (b := i) (by omega) (by omega)).mpr (by omega)) c)
      refine wk_lv [1] rfl ?_
      exact kx x1 (by simp only [f1_sharedPieces_L4])
    | succ n ih =>
      intro i x1 hi kx
      refine wk_iload_n F dX1_sharedPieces_4 rfl 2 rfl (pc' := 5) rfl ?_
      refine wk_bipush F dX1_sharedPieces_5 bp_30 (pc' := 7) rfl ?_
      refine wk_icmp_ge (tgt := 29) F dX1_sharedPieces_7 (by decide) (pc' := 10) rfl (fun c => absurd ((nI_leI (a := 30) (b := i) (by omega) (by omega)).mp c) (by omega)) (fun _ => ?_)
      refine wk_aload_n F dX1_sharedPieces_10 rfl 0 rfl (pc' := 11) rfl ?_
      refine wk_get (C := RX1) (T := TX1) (N := 14) F 0 rfl rfl k_1 8 (Nat.le_of_ble_eq_true rfl) w_1 rfl dX1_sharedPieces_11 (pc' := 14) rfl ?_
      refine wk_iload_n F dX1_sharedPieces_14 rfl 2 rfl (pc' := 15) rfl ?_
      refine wk_iald_n (i := i) F 9 0 rfl rfl (by omega) (Nat.le_of_ble_eq_true rfl) dX1_sharedPieces_15 (pc' := 16) rfl ?_
      refine wk_iconst F dX1_sharedPieces_16 ic_1 (pc' := 17) rfl ?_
      refine wk_icmp_le (tgt := 23) F dX1_sharedPieces_17 (by decide) (pc' := 20) rfl (fun c1 => ?_) (fun c1 => ?_)
      · refine wk_iinc (k := 2) (v := nI (i + 1)) (lv' := [(2, .int (nI (i + 1))), (0, .ref (hs 0)), (1, .int x1)]) F dX1_sharedPieces_23 rfl (nI_inc i) (Nat.le_of_ble_eq_true rfl) rfl (pc' := 26) rfl ?_
        refine wk_goto (tgt := 4) F dX1_sharedPieces_26 (by decide) ?_
        refine wk_lv [1, 2, 0] rfl ?_
        exact ih (i + 1) x1 (by omega) (fun y1_ h_ => kx y1_ (Eq.trans (by simp only [f1_sharedPieces_L4, if_pos c1]) h_))
      · refine wk_iinc (k := 1) (v := x1 + 1) (lv' := [(1, .int (x1 + 1)), (0, .ref (hs 0)), (2, .int (nI i))]) F dX1_sharedPieces_20 rfl rfl (Nat.le_of_ble_eq_true rfl) rfl (pc' := 23) rfl ?_
        refine wk_iinc (k := 2) (v := nI (i + 1)) (lv' := [(2, .int (nI (i + 1))), (1, .int (x1 + 1)), (0, .ref (hs 0))]) F dX1_sharedPieces_23 rfl (nI_inc i) (Nat.le_of_ble_eq_true rfl) rfl (pc' := 26) rfl ?_
        refine wk_goto (tgt := 4) F dX1_sharedPieces_26 (by decide) ?_
        refine wk_lv [2, 1, 0] rfl ?_
        exact ih (i + 1) (x1 + 1) (by omega) (fun y1_ h_ => kx y1_ (Eq.trans (by simp only [f1_sharedPieces_L4, if_neg c1]) h_))
  refine wk_iconst F dX1_sharedPieces_0 ic_0 (pc' := 1) rfl ?_
  refine wk_istore_n (lv' := [(1, .int (0 : Int32)), (0, .ref (hs 0))]) F dX1_sharedPieces_1 rfl (Nat.le_of_ble_eq_true rfl) rfl (pc' := 2) rfl ?_
  refine wk_iconst F dX1_sharedPieces_2 ic_0 (pc' := 3) rfl ?_
  refine wk_istore_n (lv' := [(2, .int (0 : Int32)), (1, .int (0 : Int32)), (0, .ref (hs 0))]) F dX1_sharedPieces_3 rfl (Nat.le_of_ble_eq_true rfl) rfl (pc' := 4) rfl ?_
  refine wk_lv [2, 1, 0] rfl ?_
  refine L4 30 0 (0 : Int32) (by omega) (fun y3 h2 => ?_)
  refine wk_iload_n F dX1_sharedPieces_29 rfl 0 rfl (pc' := 30) rfl ?_
  exact hret _ _ _ dX1_sharedPieces_30 rfl (by simp only [f1_sharedPieces, h2])
def f1_placesWithPieces_L4 (σ : PS) (p1 : Int32) : Nat → Nat → Int32 → Int32
  | 0, i, x2 => x2
  | n + 1, i, x2 => (if (f1_pieceAt σ p1 (nI i)) = (-1 : Int32) then f1_placesWithPieces_L4 σ p1 n (i + 1) x2 else f1_placesWithPieces_L4 σ p1 n (i + 1) (x2 + 1))
def f1_placesWithPieces (σ : PS) (p1 : Int32) : Int32 := ((fun (y3 : Int32) => y3) (f1_placesWithPieces_L4 σ p1 40 0 (0 : Int32)))
set_option maxHeartbeats 4000000 in
set_option maxRecDepth 100000 in
theorem c1_placesWithPieces (l : Launch) (D : va_G) (cI cP : ClassId) (hs : Nat → Nat) (σ : PS) (p1 : Int32) : CP l yX1_placesWithPieces wsX1_placesWithPieces ({ frames := 3, cells := 0, slots := 0, locals := 65 } : Room) D (cty cI cP) (wPool cI hs) σ [.ref (hs 0), .int p1] (f1_placesWithPieces σ p1) := by
  refine CP.of (cc := cX1_placesWithPieces) (maxL := 4) (rt := .int) (own := RX1) (lv0 := [(0, .ref (hs 0)), (1, .int p1)]) pnX1 rfl rfl (Nat.le_of_ble_eq_true rfl) rfl (fun p e s m args below meth c A Q F hret => ?_)
  have L4 : ∀ (n : Nat) (i : Nat) (x2 : Int32), i + n = 40 → (∀ (y2 : Int32), f1_placesWithPieces_L4 σ p1 n i x2 = y2 → Wk p l e ({ frames := 3, cells := 0, slots := 0, locals := 65 } : Room) s m args below meth c 4 D A 0 0 Q (wPool cI hs σ) [(2, .int y2)] 29 []) → Wk p l e ({ frames := 3, cells := 0, slots := 0, locals := 65 } : Room) s m args below meth c 4 D A 0 0 Q (wPool cI hs σ) [(0, .ref (hs 0)), (1, .int p1), (2, .int x2), (3, .int (nI i))] 4 [] := by
    intro n
    induction n with
    | zero =>
      intro i x2 hi kx
      refine wk_iload_n F dX1_placesWithPieces_4 rfl 3 rfl (pc' := 5) rfl ?_
      refine wk_bipush F dX1_placesWithPieces_5 bp_40 (pc' := 7) rfl ?_
      refine wk_icmp_ge (tgt := 29) F dX1_placesWithPieces_7 (by decide) (pc' := 10) rfl (fun _ => ?_) (fun c => absurd ((nI_leI (a := 40) (b := i) (by omega) (by omega)).mpr (by omega)) c)
      refine wk_lv [2] rfl ?_
      exact kx x2 (by simp only [f1_placesWithPieces_L4])
    | succ n ih =>
      intro i x2 hi kx
      refine wk_iload_n F dX1_placesWithPieces_4 rfl 3 rfl (pc' := 5) rfl ?_
      refine wk_bipush F dX1_placesWithPieces_5 bp_40 (pc' := 7) rfl ?_
      refine wk_icmp_ge (tgt := 29) F dX1_placesWithPieces_7 (by decide) (pc' := 10) rfl (fun c => absurd ((nI_leI (a := 40) (b := i) (by omega) (by omega)).mp c) (by omega)) (fun _ => ?_)
      refine wk_aload_n F dX1_placesWithPieces_10 rfl 0 rfl (pc' := 11) rfl ?_
      refine wk_iload_n F dX1_placesWithPieces_11 rfl 1 rfl (pc' := 12) rfl ?_
      refine wk_iload_n F dX1_placesWithPieces_12 rfl 3 rfl (pc' := 13) rfl ?_
      refine wk_same_p F (c1_pieceAt l D cI cP hs σ p1 (nI i)) (cwV 2 F.hts gX1_placesWithPieces_X1_pieceAt rfl rfl rfl hdX1_pieceAt ⟨Nat.le_of_ble_eq_true rfl, Nat.le_of_ble_eq_true rfl⟩) 0 1 rfl rfl rfl rfl (Nat.le_of_ble_eq_true rfl) dX1_placesWithPieces_13 ⟨Nat.zero_le _, Nat.zero_le _⟩ (pc' := 16) rfl ?_
      refine wk_iconst F dX1_placesWithPieces_16 ic_m1 (pc' := 17) rfl ?_
      refine wk_icmp_eq (tgt := 23) F dX1_placesWithPieces_17 (by decide) (pc' := 20) rfl (fun c1 => ?_) (fun c1 => ?_)
      · refine wk_iinc (k := 3) (v := nI (i + 1)) (lv' := [(3, .int (nI (i + 1))), (0, .ref (hs 0)), (1, .int p1), (2, .int x2)]) F dX1_placesWithPieces_23 rfl (nI_inc i) (Nat.le_of_ble_eq_true rfl) rfl (pc' := 26) rfl ?_
        refine wk_goto (tgt := 4) F dX1_placesWithPieces_26 (by decide) ?_
        refine wk_lv [1, 2, 3, 0] rfl ?_
        exact ih (i + 1) x2 (by omega) (fun y2_ h_ => kx y2_ (Eq.trans (by simp only [f1_placesWithPieces_L4, if_pos c1]) h_))
      · refine wk_iinc (k := 2) (v := x2 + 1) (lv' := [(2, .int (x2 + 1)), (0, .ref (hs 0)), (1, .int p1), (3, .int (nI i))]) F dX1_placesWithPieces_20 rfl rfl (Nat.le_of_ble_eq_true rfl) rfl (pc' := 23) rfl ?_
        refine wk_iinc (k := 3) (v := nI (i + 1)) (lv' := [(3, .int (nI (i + 1))), (2, .int (x2 + 1)), (0, .ref (hs 0)), (1, .int p1)]) F dX1_placesWithPieces_23 rfl (nI_inc i) (Nat.le_of_ble_eq_true rfl) rfl (pc' := 26) rfl ?_
        refine wk_goto (tgt := 4) F dX1_placesWithPieces_26 (by decide) ?_
        refine wk_lv [2, 3, 1, 0] rfl ?_
        exact ih (i + 1) (x2 + 1) (by omega) (fun y2_ h_ => kx y2_ (Eq.trans (by simp only [f1_placesWithPieces_L4, if_neg c1]) h_))
  refine wk_iconst F dX1_placesWithPieces_0 ic_0 (pc' := 1) rfl ?_
  refine wk_istore_n (lv' := [(2, .int (0 : Int32)), (0, .ref (hs 0)), (1, .int p1)]) F dX1_placesWithPieces_1 rfl (Nat.le_of_ble_eq_true rfl) rfl (pc' := 2) rfl ?_
  refine wk_iconst F dX1_placesWithPieces_2 ic_0 (pc' := 3) rfl ?_
  refine wk_istore_n (lv' := [(3, .int (0 : Int32)), (2, .int (0 : Int32)), (0, .ref (hs 0)), (1, .int p1)]) F dX1_placesWithPieces_3 rfl (Nat.le_of_ble_eq_true rfl) rfl (pc' := 4) rfl ?_
  refine wk_lv [2, 3, 1, 0] rfl ?_
  refine L4 40 0 (0 : Int32) (by omega) (fun y3 h2 => ?_)
  refine wk_iload_n F dX1_placesWithPieces_29 rfl 0 rfl (pc' := 30) rfl ?_
  exact hret _ _ _ dX1_placesWithPieces_30 rfl (by simp only [f1_placesWithPieces, h2])
def f1_volumesThatOwn_L13 (σ : PS) (p1 : Int32) (j3 : Nat) : Nat → Nat → Int32 → Int32
  | 0, i, x2 => x2
  | n + 1, i, x2 => (if (f1_pieceAt σ (nI j3) (nI i)) = p1 then f1_volumesThatOwn_L13 σ p1 j3 n (i + 1) (x2 ||| ((1 : Int32) <<< ((nI j3) &&& 31))) else f1_volumesThatOwn_L13 σ p1 j3 n (i + 1) x2)
def f1_volumesThatOwn_L4 (σ : PS) (p1 : Int32) : Nat → Nat → Int32 → Int32
  | 0, i, x2 => x2
  | n + 1, i, x2 => ((fun (y3 : Int32) => f1_volumesThatOwn_L4 σ p1 n (i + 1) y3) (f1_volumesThatOwn_L13 σ p1 i 40 0 x2))
def f1_volumesThatOwn (σ : PS) (p1 : Int32) : Int32 := ((fun (y5 : Int32) => y5) (f1_volumesThatOwn_L4 σ p1 8 0 (0 : Int32)))
set_option maxHeartbeats 4000000 in
set_option maxRecDepth 100000 in
theorem c1_volumesThatOwn (l : Launch) (D : va_G) (cI cP : ClassId) (hs : Nat → Nat) (σ : PS) (p1 : Int32) : CP l yX1_volumesThatOwn wsX1_volumesThatOwn ({ frames := 3, cells := 0, slots := 0, locals := 65 } : Room) D (cty cI cP) (wPool cI hs) σ [.ref (hs 0), .int p1] (f1_volumesThatOwn σ p1) := by
  refine CP.of (cc := cX1_volumesThatOwn) (maxL := 5) (rt := .int) (own := RX1) (lv0 := [(0, .ref (hs 0)), (1, .int p1)]) pnX1 rfl rfl (Nat.le_of_ble_eq_true rfl) rfl (fun p e s m args below meth c A Q F hret => ?_)
  have L13 : ∀ (j3 : Nat) (hj3 : j3 < 8) (n : Nat) (i : Nat) (x2 : Int32), i + n = 40 → (∀ (y2 : Int32), f1_volumesThatOwn_L13 σ p1 j3 n i x2 = y2 → Wk p l e ({ frames := 3, cells := 0, slots := 0, locals := 65 } : Room) s m args below meth c 5 D A 0 0 Q (wPool cI hs σ) [(0, .ref (hs 0)), (1, .int p1), (2, .int y2), (3, .int (nI j3))] 43 []) → Wk p l e ({ frames := 3, cells := 0, slots := 0, locals := 65 } : Room) s m args below meth c 5 D A 0 0 Q (wPool cI hs σ) [(0, .ref (hs 0)), (1, .int p1), (2, .int x2), (3, .int (nI j3)), (4, .int (nI i))] 13 [] := by
    intro j3 hj3 n
    induction n with
    | zero =>
      intro i x2 hi kx
      refine wk_iload F dX1_volumesThatOwn_13 4 rfl (pc' := 15) rfl ?_
      refine wk_bipush F dX1_volumesThatOwn_15 bp_40 (pc' := 17) rfl ?_
      refine wk_icmp_ge (tgt := 43) F dX1_volumesThatOwn_17 (by decide) (pc' := 20) rfl (fun _ => ?_) (fun c => absurd ((nI_leI (a := 40) (b := i) (by omega) (by omega)).mpr (by omega)) c)
      refine wk_lv [0, 1, 2, 3] rfl ?_
      exact kx x2 (by simp only [f1_volumesThatOwn_L13])
    | succ n ih =>
      intro i x2 hi kx
      refine wk_iload F dX1_volumesThatOwn_13 4 rfl (pc' := 15) rfl ?_
      refine wk_bipush F dX1_volumesThatOwn_15 bp_40 (pc' := 17) rfl ?_
      refine wk_icmp_ge (tgt := 43) F dX1_volumesThatOwn_17 (by decide) (pc' := 20) rfl (fun c => absurd ((nI_leI (a := 40) (b := i) (by omega) (by omega)).mp c) (by omega)) (fun _ => ?_)
      refine wk_aload_n F dX1_volumesThatOwn_20 rfl 0 rfl (pc' := 21) rfl ?_
      refine wk_iload_n F dX1_volumesThatOwn_21 rfl 3 rfl (pc' := 22) rfl ?_
      refine wk_iload F dX1_volumesThatOwn_22 4 rfl (pc' := 24) rfl ?_
      refine wk_same_p F (c1_pieceAt l D cI cP hs σ (nI j3) (nI i)) (cwV 2 F.hts gX1_volumesThatOwn_X1_pieceAt rfl rfl rfl hdX1_pieceAt ⟨Nat.le_of_ble_eq_true rfl, Nat.le_of_ble_eq_true rfl⟩) 0 1 rfl rfl rfl rfl (Nat.le_of_ble_eq_true rfl) dX1_volumesThatOwn_24 ⟨Nat.zero_le _, Nat.zero_le _⟩ (pc' := 27) rfl ?_
      refine wk_iload_n F dX1_volumesThatOwn_27 rfl 1 rfl (pc' := 28) rfl ?_
      refine wk_icmp_ne (tgt := 37) F dX1_volumesThatOwn_28 (by decide) (pc' := 31) rfl (fun c1 => ?_) (fun c1 => ?_)
      · refine wk_iinc (k := 4) (v := nI (i + 1)) (lv' := [(4, .int (nI (i + 1))), (0, .ref (hs 0)), (1, .int p1), (2, .int x2), (3, .int (nI j3))]) F dX1_volumesThatOwn_37 rfl (nI_inc i) (Nat.le_of_ble_eq_true rfl) rfl (pc' := 40) rfl ?_
        refine wk_goto (tgt := 13) F dX1_volumesThatOwn_40 (by decide) ?_
        refine wk_lv [1, 2, 3, 4, 0] rfl ?_
        exact ih (i + 1) x2 (by omega) (fun y2_ h_ => kx y2_ (Eq.trans (by simp only [f1_volumesThatOwn_L13, if_neg c1]) h_))
      · refine wk_iload_n F dX1_volumesThatOwn_31 rfl 2 rfl (pc' := 32) rfl ?_
        refine wk_iconst F dX1_volumesThatOwn_32 ic_1 (pc' := 33) rfl ?_
        refine wk_iload_n F dX1_volumesThatOwn_33 rfl 3 rfl (pc' := 34) rfl ?_
        refine wk_ishl F dX1_volumesThatOwn_34 (pc' := 35) rfl ?_
        refine wk_ior F dX1_volumesThatOwn_35 (pc' := 36) rfl ?_
        refine wk_istore_n (lv' := [(2, .int (x2 ||| ((1 : Int32) <<< ((nI j3) &&& 31)))), (0, .ref (hs 0)), (1, .int p1), (3, .int (nI j3)), (4, .int (nI i))]) F dX1_volumesThatOwn_36 rfl (Nat.le_of_ble_eq_true rfl) rfl (pc' := 37) rfl ?_
        refine wk_iinc (k := 4) (v := nI (i + 1)) (lv' := [(4, .int (nI (i + 1))), (2, .int (x2 ||| ((1 : Int32) <<< ((nI j3) &&& 31)))), (0, .ref (hs 0)), (1, .int p1), (3, .int (nI j3))]) F dX1_volumesThatOwn_37 rfl (nI_inc i) (Nat.le_of_ble_eq_true rfl) rfl (pc' := 40) rfl ?_
        refine wk_goto (tgt := 13) F dX1_volumesThatOwn_40 (by decide) ?_
        refine wk_lv [2, 3, 1, 4, 0] rfl ?_
        exact ih (i + 1) (x2 ||| ((1 : Int32) <<< ((nI j3) &&& 31))) (by omega) (fun y2_ h_ => kx y2_ (Eq.trans (by simp only [f1_volumesThatOwn_L13, if_pos c1]) h_))
  have L4 : ∀ (n : Nat) (i : Nat) (x2 : Int32), i + n = 8 → (∀ (y2 : Int32), f1_volumesThatOwn_L4 σ p1 n i x2 = y2 → Wk p l e ({ frames := 3, cells := 0, slots := 0, locals := 65 } : Room) s m args below meth c 5 D A 0 0 Q (wPool cI hs σ) [(2, .int y2)] 49 []) → Wk p l e ({ frames := 3, cells := 0, slots := 0, locals := 65 } : Room) s m args below meth c 5 D A 0 0 Q (wPool cI hs σ) [(0, .ref (hs 0)), (1, .int p1), (2, .int x2), (3, .int (nI i))] 4 [] := by
    intro n
    induction n with
    | zero =>
      intro i x2 hi kx
      refine wk_iload_n F dX1_volumesThatOwn_4 rfl 3 rfl (pc' := 5) rfl ?_
      refine wk_bipush F dX1_volumesThatOwn_5 bp_8 (pc' := 7) rfl ?_
      refine wk_icmp_ge (tgt := 49) F dX1_volumesThatOwn_7 (by decide) (pc' := 10) rfl (fun _ => ?_) (fun c => absurd ((nI_leI (a := 8) (b := i) (by omega) (by omega)).mpr (by omega)) c)
      refine wk_lv [2] rfl ?_
      exact kx x2 (by simp only [f1_volumesThatOwn_L4])
    | succ n ih =>
      intro i x2 hi kx
      refine wk_iload_n F dX1_volumesThatOwn_4 rfl 3 rfl (pc' := 5) rfl ?_
      refine wk_bipush F dX1_volumesThatOwn_5 bp_8 (pc' := 7) rfl ?_
      refine wk_icmp_ge (tgt := 49) F dX1_volumesThatOwn_7 (by decide) (pc' := 10) rfl (fun c => absurd ((nI_leI (a := 8) (b := i) (by omega) (by omega)).mp c) (by omega)) (fun _ => ?_)
      refine wk_iconst F dX1_volumesThatOwn_10 ic_0 (pc' := 11) rfl ?_
      refine wk_istore (lv' := [(4, .int (0 : Int32)), (0, .ref (hs 0)), (1, .int p1), (2, .int x2), (3, .int (nI i))]) F dX1_volumesThatOwn_11 (Nat.le_of_ble_eq_true rfl) rfl (pc' := 13) rfl ?_
      refine wk_lv [1, 2, 3, 4, 0] rfl ?_
      refine L13 i (by omega) 40 0 x2 (by omega) (fun y3 h2 => ?_)
      refine wk_iinc (k := 3) (v := nI (i + 1)) (lv' := [(3, .int (nI (i + 1))), (0, .ref (hs 0)), (1, .int p1), (2, .int y3)]) F dX1_volumesThatOwn_43 rfl (nI_inc i) (Nat.le_of_ble_eq_true rfl) rfl (pc' := 46) rfl ?_
      refine wk_goto (tgt := 4) F dX1_volumesThatOwn_46 (by decide) ?_
      refine wk_lv [1, 2, 3, 0] rfl ?_
      exact ih (i + 1) y3 (by omega) (fun y2_ h_ => kx y2_ (Eq.trans (by simp only [f1_volumesThatOwn_L4, h2]) h_))
  refine wk_iconst F dX1_volumesThatOwn_0 ic_0 (pc' := 1) rfl ?_
  refine wk_istore_n (lv' := [(2, .int (0 : Int32)), (0, .ref (hs 0)), (1, .int p1)]) F dX1_volumesThatOwn_1 rfl (Nat.le_of_ble_eq_true rfl) rfl (pc' := 2) rfl ?_
  refine wk_iconst F dX1_volumesThatOwn_2 ic_0 (pc' := 3) rfl ?_
  refine wk_istore_n (lv' := [(3, .int (0 : Int32)), (2, .int (0 : Int32)), (0, .ref (hs 0)), (1, .int p1)]) F dX1_volumesThatOwn_3 rfl (Nat.le_of_ble_eq_true rfl) rfl (pc' := 4) rfl ?_
  refine wk_lv [2, 3, 1, 0] rfl ?_
  refine L4 8 0 (0 : Int32) (by omega) (fun y5 h4 => ?_)
  refine wk_iload_n F dX1_volumesThatOwn_49 rfl 0 rfl (pc' := 50) rfl ?_
  exact hret _ _ _ dX1_volumesThatOwn_50 rfl (by simp only [f1_volumesThatOwn, h4])
def f1_piecesOwnedOnlyBy_L4 (σ : PS) (p1 : Int32) : Nat → Nat → Int32 → Int32
  | 0, i, x2 => x2
  | n + 1, i, x2 => (if (σ 8 i) ≤ 0 then f1_piecesOwnedOnlyBy_L4 σ p1 n (i + 1) x2 else (if ((f1_volumesThatOwn σ (nI i)) &&& (p1 ^^^ (-1 : Int32))) = 0 then f1_piecesOwnedOnlyBy_L4 σ p1 n (i + 1) (x2 + 1) else f1_piecesOwnedOnlyBy_L4 σ p1 n (i + 1) x2))
def f1_piecesOwnedOnlyBy (σ : PS) (p1 : Int32) : Int32 := ((fun (y4 : Int32) => y4) (f1_piecesOwnedOnlyBy_L4 σ p1 30 0 (0 : Int32)))
set_option maxHeartbeats 4000000 in
set_option maxRecDepth 100000 in
theorem c1_piecesOwnedOnlyBy (l : Launch) (D : va_G) (cI cP : ClassId) (hs : Nat → Nat) (σ : PS) (p1 : Int32) : CP l yX1_piecesOwnedOnlyBy wsX1_piecesOwnedOnlyBy ({ frames := 4, cells := 0, slots := 0, locals := 89 } : Room) D (cty cI cP) (wPool cI hs) σ [.ref (hs 0), .int p1] (f1_piecesOwnedOnlyBy σ p1) := by
  refine CP.of (cc := cX1_piecesOwnedOnlyBy) (maxL := 4) (rt := .int) (own := RX1) (lv0 := [(0, .ref (hs 0)), (1, .int p1)]) pnX1 rfl rfl (Nat.le_of_ble_eq_true rfl) rfl (fun p e s m args below meth c A Q F hret => ?_)
  have w_1 := F.at (x := Cond.fieldLink RX1 36 "ThinVolumes$Pool" "owners" "[I") 1 rfl
  have k_1 : ∀ w ∈ wsX10, w ∈ wsX1_piecesOwnedOnlyBy := fun _ h => List.mem_cons_of_mem _ (List.mem_append_right _ (h))
  have L4 : ∀ (n : Nat) (i : Nat) (x2 : Int32), i + n = 30 → (∀ (y2 : Int32), f1_piecesOwnedOnlyBy_L4 σ p1 n i x2 = y2 → Wk p l e ({ frames := 4, cells := 0, slots := 0, locals := 89 } : Room) s m args below meth c 4 D A 0 0 Q (wPool cI hs σ) [(2, .int y2)] 40 []) → Wk p l e ({ frames := 4, cells := 0, slots := 0, locals := 89 } : Room) s m args below meth c 4 D A 0 0 Q (wPool cI hs σ) [(0, .ref (hs 0)), (1, .int p1), (2, .int x2), (3, .int (nI i))] 4 [] := by
    intro n
    induction n with
    | zero =>
      intro i x2 hi kx
      refine wk_iload_n F dX1_piecesOwnedOnlyBy_4 rfl 3 rfl (pc' := 5) rfl ?_
      refine wk_bipush F dX1_piecesOwnedOnlyBy_5 bp_30 (pc' := 7) rfl ?_
      refine wk_icmp_ge (tgt := 40) F dX1_piecesOwnedOnlyBy_7 (by decide) (pc' := 10) rfl (fun _ => ?_) (fun c => absurd ((nI_leI (a := 30) (b := i) (by omega) (by omega)).mpr (by omega)) c)
      refine wk_lv [2] rfl ?_
      exact kx x2 (by simp only [f1_piecesOwnedOnlyBy_L4])
    | succ n ih =>
      intro i x2 hi kx
      refine wk_iload_n F dX1_piecesOwnedOnlyBy_4 rfl 3 rfl (pc' := 5) rfl ?_
      refine wk_bipush F dX1_piecesOwnedOnlyBy_5 bp_30 (pc' := 7) rfl ?_
      refine wk_icmp_ge (tgt := 40) F dX1_piecesOwnedOnlyBy_7 (by decide) (pc' := 10) rfl (fun c => absurd ((nI_leI (a := 30) (b := i) (by omega) (by omega)).mp c) (by omega)) (fun _ => ?_)
      refine wk_aload_n F dX1_piecesOwnedOnlyBy_10 rfl 0 rfl (pc' := 11) rfl ?_
      refine wk_get (C := RX1) (T := TX1) (N := 14) F 0 rfl rfl k_1 8 (Nat.le_of_ble_eq_true rfl) w_1 rfl dX1_piecesOwnedOnlyBy_11 (pc' := 14) rfl ?_
      refine wk_iload_n F dX1_piecesOwnedOnlyBy_14 rfl 3 rfl (pc' := 15) rfl ?_
      refine wk_iald_n (i := i) F 9 0 rfl rfl (by omega) (Nat.le_of_ble_eq_true rfl) dX1_piecesOwnedOnlyBy_15 (pc' := 16) rfl ?_
      refine wk_if_le (tgt := 34) F dX1_piecesOwnedOnlyBy_16 (by decide) (pc' := 19) rfl (fun c1 => ?_) (fun c1 => ?_)
      · refine wk_iinc (k := 3) (v := nI (i + 1)) (lv' := [(3, .int (nI (i + 1))), (0, .ref (hs 0)), (1, .int p1), (2, .int x2)]) F dX1_piecesOwnedOnlyBy_34 rfl (nI_inc i) (Nat.le_of_ble_eq_true rfl) rfl (pc' := 37) rfl ?_
        refine wk_goto (tgt := 4) F dX1_piecesOwnedOnlyBy_37 (by decide) ?_
        refine wk_lv [1, 2, 3, 0] rfl ?_
        exact ih (i + 1) x2 (by omega) (fun y2_ h_ => kx y2_ (Eq.trans (by simp only [f1_piecesOwnedOnlyBy_L4, if_pos c1]) h_))
      · refine wk_aload_n F dX1_piecesOwnedOnlyBy_19 rfl 0 rfl (pc' := 20) rfl ?_
        refine wk_iload_n F dX1_piecesOwnedOnlyBy_20 rfl 3 rfl (pc' := 21) rfl ?_
        refine wk_same_p F (c1_volumesThatOwn l D cI cP hs σ (nI i)) (cwV 1 F.hts gX1_piecesOwnedOnlyBy_X1_volumesThatOwn rfl rfl rfl hdX1_volumesThatOwn ⟨Nat.le_of_ble_eq_true rfl, Nat.le_of_ble_eq_true rfl⟩) 0 1 rfl rfl rfl rfl (Nat.le_of_ble_eq_true rfl) dX1_piecesOwnedOnlyBy_21 ⟨Nat.zero_le _, Nat.zero_le _⟩ (pc' := 24) rfl ?_
        refine wk_iload_n F dX1_piecesOwnedOnlyBy_24 rfl 1 rfl (pc' := 25) rfl ?_
        refine wk_iconst F dX1_piecesOwnedOnlyBy_25 ic_m1 (pc' := 26) rfl ?_
        refine wk_ixor F dX1_piecesOwnedOnlyBy_26 (pc' := 27) rfl ?_
        refine wk_iand F dX1_piecesOwnedOnlyBy_27 (pc' := 28) rfl ?_
        refine wk_if_ne (tgt := 34) F dX1_piecesOwnedOnlyBy_28 (by decide) (pc' := 31) rfl (fun c2 => ?_) (fun c2 => ?_)
        · refine wk_iinc (k := 3) (v := nI (i + 1)) (lv' := [(3, .int (nI (i + 1))), (0, .ref (hs 0)), (1, .int p1), (2, .int x2)]) F dX1_piecesOwnedOnlyBy_34 rfl (nI_inc i) (Nat.le_of_ble_eq_true rfl) rfl (pc' := 37) rfl ?_
          refine wk_goto (tgt := 4) F dX1_piecesOwnedOnlyBy_37 (by decide) ?_
          refine wk_lv [1, 2, 3, 0] rfl ?_
          exact ih (i + 1) x2 (by omega) (fun y2_ h_ => kx y2_ (Eq.trans (by simp only [f1_piecesOwnedOnlyBy_L4, if_neg c1, if_neg c2]) h_))
        · refine wk_iinc (k := 2) (v := x2 + 1) (lv' := [(2, .int (x2 + 1)), (0, .ref (hs 0)), (1, .int p1), (3, .int (nI i))]) F dX1_piecesOwnedOnlyBy_31 rfl rfl (Nat.le_of_ble_eq_true rfl) rfl (pc' := 34) rfl ?_
          refine wk_iinc (k := 3) (v := nI (i + 1)) (lv' := [(3, .int (nI (i + 1))), (2, .int (x2 + 1)), (0, .ref (hs 0)), (1, .int p1)]) F dX1_piecesOwnedOnlyBy_34 rfl (nI_inc i) (Nat.le_of_ble_eq_true rfl) rfl (pc' := 37) rfl ?_
          refine wk_goto (tgt := 4) F dX1_piecesOwnedOnlyBy_37 (by decide) ?_
          refine wk_lv [2, 3, 1, 0] rfl ?_
          exact ih (i + 1) (x2 + 1) (by omega) (fun y2_ h_ => kx y2_ (Eq.trans (by simp only [f1_piecesOwnedOnlyBy_L4, if_neg c1, if_pos c2]) h_))
  refine wk_iconst F dX1_piecesOwnedOnlyBy_0 ic_0 (pc' := 1) rfl ?_
  refine wk_istore_n (lv' := [(2, .int (0 : Int32)), (0, .ref (hs 0)), (1, .int p1)]) F dX1_piecesOwnedOnlyBy_1 rfl (Nat.le_of_ble_eq_true rfl) rfl (pc' := 2) rfl ?_
  refine wk_iconst F dX1_piecesOwnedOnlyBy_2 ic_0 (pc' := 3) rfl ?_
  refine wk_istore_n (lv' := [(3, .int (0 : Int32)), (2, .int (0 : Int32)), (0, .ref (hs 0)), (1, .int p1)]) F dX1_piecesOwnedOnlyBy_3 rfl (Nat.le_of_ble_eq_true rfl) rfl (pc' := 4) rfl ?_
  refine wk_lv [2, 3, 1, 0] rfl ?_
  refine L4 30 0 (0 : Int32) (by omega) (fun y4 h3 => ?_)
  refine wk_iload_n F dX1_piecesOwnedOnlyBy_40 rfl 0 rfl (pc' := 41) rfl ?_
  exact hret _ _ _ dX1_piecesOwnedOnlyBy_41 rfl (by simp only [f1_piecesOwnedOnlyBy, h3])
def f1_clonesOf_L4 (σ : PS) (p1 : Int32) : Nat → Nat → Int32 → Int32
  | 0, i, x2 => x2
  | n + 1, i, x2 => (if (f1_lives σ (nI i)) = 0 then f1_clonesOf_L4 σ p1 n (i + 1) x2 else (if (σ 3 i) = p1 then f1_clonesOf_L4 σ p1 n (i + 1) (x2 ||| ((1 : Int32) <<< ((nI i) &&& 31))) else f1_clonesOf_L4 σ p1 n (i + 1) x2))
def f1_clonesOf (σ : PS) (p1 : Int32) : Int32 := ((fun (y4 : Int32) => y4) (f1_clonesOf_L4 σ p1 8 0 (0 : Int32)))
set_option maxHeartbeats 4000000 in
set_option maxRecDepth 100000 in
theorem c1_clonesOf (l : Launch) (D : va_G) (cI cP : ClassId) (hs : Nat → Nat) (σ : PS) (p1 : Int32) : CP l yX1_clonesOf wsX1_clonesOf ({ frames := 1, cells := 0, slots := 0, locals := 21 } : Room) D (cty cI cP) (wPool cI hs) σ [.ref (hs 0), .int p1] (f1_clonesOf σ p1) := by
  refine CP.of (cc := cX1_clonesOf) (maxL := 4) (rt := .int) (own := RX1) (lv0 := [(0, .ref (hs 0)), (1, .int p1)]) pnX1 rfl rfl (Nat.le_of_ble_eq_true rfl) rfl (fun p e s m args below meth c A Q F hret => ?_)
  have w_1 := F.at (x := Cond.fieldLink RX1 21 "ThinVolumes$Pool" "parents" "[I") 1 rfl
  have k_1 : ∀ w ∈ wsX10, w ∈ wsX1_clonesOf := fun _ h => List.mem_cons_of_mem _ (List.mem_append_right _ (h))
  have L4 : ∀ (n : Nat) (i : Nat) (x2 : Int32), i + n = 8 → (∀ (y2 : Int32), f1_clonesOf_L4 σ p1 n i x2 = y2 → Wk p l e ({ frames := 1, cells := 0, slots := 0, locals := 21 } : Room) s m args below meth c 4 D A 0 0 Q (wPool cI hs σ) [(2, .int y2)] 40 []) → Wk p l e ({ frames := 1, cells := 0, slots := 0, locals := 21 } : Room) s m args below meth c 4 D A 0 0 Q (wPool cI hs σ) [(0, .ref (hs 0)), (1, .int p1), (2, .int x2), (3, .int (nI i))] 4 [] := by
    intro n
    induction n with
    | zero =>
      intro i x2 hi kx
      refine wk_iload_n F dX1_clonesOf_4 rfl 3 rfl (pc' := 5) rfl ?_
      refine wk_bipush F dX1_clonesOf_5 bp_8 (pc' := 7) rfl ?_
      refine wk_icmp_ge (tgt := 40) F dX1_clonesOf_7 (by decide) (pc' := 10) rfl (fun _ => ?_) (fun c => absurd ((nI_leI (a := 8) (b := i) (by omega) (by omega)).mpr (by omega)) c)
      refine wk_lv [2] rfl ?_
      exact kx x2 (by simp only [f1_clonesOf_L4])
    | succ n ih =>
      intro i x2 hi kx
      refine wk_iload_n F dX1_clonesOf_4 rfl 3 rfl (pc' := 5) rfl ?_
      refine wk_bipush F dX1_clonesOf_5 bp_8 (pc' := 7) rfl ?_
      refine wk_icmp_ge (tgt := 40) F dX1_clonesOf_7 (by decide) (pc' := 10) rfl (fun c => absurd ((nI_leI (a := 8) (b := i) (by omega) (by omega)).mp c) (by omega)) (fun _ => ?_)
      refine wk_aload_n F dX1_clonesOf_10 rfl 0 rfl (pc' := 11) rfl ?_
      refine wk_iload_n F dX1_clonesOf_11 rfl 3 rfl (pc' := 12) rfl ?_
      refine wk_same_p F (c1_lives l D cI cP hs σ (nI i)) (cwV 1 F.hts gX1_clonesOf_X1_lives rfl rfl rfl hdX1_lives ⟨Nat.le_of_ble_eq_true rfl, Nat.le_of_ble_eq_true rfl⟩) 0 1 rfl rfl rfl rfl (Nat.le_of_ble_eq_true rfl) dX1_clonesOf_12 ⟨Nat.zero_le _, Nat.zero_le _⟩ (pc' := 15) rfl ?_
      refine wk_if_eq (tgt := 34) F dX1_clonesOf_15 (by decide) (pc' := 18) rfl (fun c1 => ?_) (fun c1 => ?_)
      · refine wk_iinc (k := 3) (v := nI (i + 1)) (lv' := [(3, .int (nI (i + 1))), (0, .ref (hs 0)), (1, .int p1), (2, .int x2)]) F dX1_clonesOf_34 rfl (nI_inc i) (Nat.le_of_ble_eq_true rfl) rfl (pc' := 37) rfl ?_
        refine wk_goto (tgt := 4) F dX1_clonesOf_37 (by decide) ?_
        refine wk_lv [1, 2, 3, 0] rfl ?_
        exact ih (i + 1) x2 (by omega) (fun y2_ h_ => kx y2_ (Eq.trans (by simp only [f1_clonesOf_L4, if_pos c1]) h_))
      · refine wk_aload_n F dX1_clonesOf_18 rfl 0 rfl (pc' := 19) rfl ?_
        refine wk_get (C := RX1) (T := TX1) (N := 14) F 0 rfl rfl k_1 3 (Nat.le_of_ble_eq_true rfl) w_1 rfl dX1_clonesOf_19 (pc' := 22) rfl ?_
        refine wk_iload_n F dX1_clonesOf_22 rfl 3 rfl (pc' := 23) rfl ?_
        refine wk_iald_n (i := i) F 4 0 rfl rfl (by omega) (Nat.le_of_ble_eq_true rfl) dX1_clonesOf_23 (pc' := 24) rfl ?_
        refine wk_iload_n F dX1_clonesOf_24 rfl 1 rfl (pc' := 25) rfl ?_
        refine wk_icmp_ne (tgt := 34) F dX1_clonesOf_25 (by decide) (pc' := 28) rfl (fun c2 => ?_) (fun c2 => ?_)
        · refine wk_iinc (k := 3) (v := nI (i + 1)) (lv' := [(3, .int (nI (i + 1))), (0, .ref (hs 0)), (1, .int p1), (2, .int x2)]) F dX1_clonesOf_34 rfl (nI_inc i) (Nat.le_of_ble_eq_true rfl) rfl (pc' := 37) rfl ?_
          refine wk_goto (tgt := 4) F dX1_clonesOf_37 (by decide) ?_
          refine wk_lv [1, 2, 3, 0] rfl ?_
          exact ih (i + 1) x2 (by omega) (fun y2_ h_ => kx y2_ (Eq.trans (by simp only [f1_clonesOf_L4, if_neg c1, if_neg c2]) h_))
        · refine wk_iload_n F dX1_clonesOf_28 rfl 2 rfl (pc' := 29) rfl ?_
          refine wk_iconst F dX1_clonesOf_29 ic_1 (pc' := 30) rfl ?_
          refine wk_iload_n F dX1_clonesOf_30 rfl 3 rfl (pc' := 31) rfl ?_
          refine wk_ishl F dX1_clonesOf_31 (pc' := 32) rfl ?_
          refine wk_ior F dX1_clonesOf_32 (pc' := 33) rfl ?_
          refine wk_istore_n (lv' := [(2, .int (x2 ||| ((1 : Int32) <<< ((nI i) &&& 31)))), (0, .ref (hs 0)), (1, .int p1), (3, .int (nI i))]) F dX1_clonesOf_33 rfl (Nat.le_of_ble_eq_true rfl) rfl (pc' := 34) rfl ?_
          refine wk_iinc (k := 3) (v := nI (i + 1)) (lv' := [(3, .int (nI (i + 1))), (2, .int (x2 ||| ((1 : Int32) <<< ((nI i) &&& 31)))), (0, .ref (hs 0)), (1, .int p1)]) F dX1_clonesOf_34 rfl (nI_inc i) (Nat.le_of_ble_eq_true rfl) rfl (pc' := 37) rfl ?_
          refine wk_goto (tgt := 4) F dX1_clonesOf_37 (by decide) ?_
          refine wk_lv [2, 3, 1, 0] rfl ?_
          exact ih (i + 1) (x2 ||| ((1 : Int32) <<< ((nI i) &&& 31))) (by omega) (fun y2_ h_ => kx y2_ (Eq.trans (by simp only [f1_clonesOf_L4, if_neg c1, if_pos c2]) h_))
  refine wk_iconst F dX1_clonesOf_0 ic_0 (pc' := 1) rfl ?_
  refine wk_istore_n (lv' := [(2, .int (0 : Int32)), (0, .ref (hs 0)), (1, .int p1)]) F dX1_clonesOf_1 rfl (Nat.le_of_ble_eq_true rfl) rfl (pc' := 2) rfl ?_
  refine wk_iconst F dX1_clonesOf_2 ic_0 (pc' := 3) rfl ?_
  refine wk_istore_n (lv' := [(3, .int (0 : Int32)), (2, .int (0 : Int32)), (0, .ref (hs 0)), (1, .int p1)]) F dX1_clonesOf_3 rfl (Nat.le_of_ble_eq_true rfl) rfl (pc' := 4) rfl ?_
  refine wk_lv [2, 3, 1, 0] rfl ?_
  refine L4 8 0 (0 : Int32) (by omega) (fun y4 h3 => ?_)
  refine wk_iload_n F dX1_clonesOf_40 rfl 0 rfl (pc' := 41) rfl ?_
  exact hret _ _ _ dX1_clonesOf_41 rfl (by simp only [f1_clonesOf, h3])
def f1_stepsUp_L5 (σ : PS) (p1 : Int32) (p2 : Int32) : Nat → Nat → Int32 → Int32
  | 0, i, x3 => (-1 : Int32)
  | n + 1, i, x3 => (if (f1_lives σ x3) = 0 then (-1 : Int32) else (if x3 = p2 then nI i else f1_stepsUp_L5 σ p1 p2 n (i + 1) (σ 3 x3.toNatClampNeg)))
def f1_stepsUp (σ : PS) (p1 : Int32) (p2 : Int32) : Int32 := f1_stepsUp_L5 σ p1 p2 8 0 p1
set_option maxHeartbeats 4000000 in
set_option maxRecDepth 100000 in
theorem c1_stepsUp (l : Launch) (D : va_G) (cI cP : ClassId) (hs : Nat → Nat) (σ : PS) (p1 : Int32) (p2 : Int32) : CP l yX1_stepsUp wsX1_stepsUp ({ frames := 1, cells := 0, slots := 0, locals := 21 } : Room) D (cty cI cP) (wPool cI hs) σ [.ref (hs 0), .int p1, .int p2] (f1_stepsUp σ p1 p2) := by
  refine CP.of (cc := cX1_stepsUp) (maxL := 5) (rt := .int) (own := RX1) (lv0 := [(0, .ref (hs 0)), (1, .int p1), (2, .int p2)]) pnX1 rfl rfl (Nat.le_of_ble_eq_true rfl) rfl (fun p e s m args below meth c A Q F hret => ?_)
  have w_1 := F.at (x := Cond.fieldLink RX1 21 "ThinVolumes$Pool" "parents" "[I") 1 rfl
  have k_1 : ∀ w ∈ wsX10, w ∈ wsX1_stepsUp := fun _ h => List.mem_cons_of_mem _ (List.mem_append_right _ (h))
  have L5 : ∀ (n : Nat) (i : Nat) (x3 : Int32), i + n = 8 → f1_stepsUp_L5 σ p1 p2 n i x3 = f1_stepsUp σ p1 p2 → Wk p l e ({ frames := 1, cells := 0, slots := 0, locals := 21 } : Room) s m args below meth c 5 D A 0 0 Q (wPool cI hs σ) [(0, .ref (hs 0)), (2, .int p2), (3, .int x3), (4, .int (nI i))] 5 [] := by
    intro n
    induction n with
    | zero =>
      intro i x3 hi hp
      refine wk_iload F dX1_stepsUp_5 3 rfl (pc' := 7) rfl ?_
      refine wk_bipush F dX1_stepsUp_7 bp_8 (pc' := 9) rfl ?_
      refine wk_icmp_ge (tgt := 43) F dX1_stepsUp_9 (by decide) (pc' := 12) rfl (fun _ => ?_) (fun c => absurd ((nI_leI (a := 8) (b := i) (by omega) (by omega)).mpr (by omega)) c)
      refine wk_iconst F dX1_stepsUp_43 ic_m1 (pc' := 44) rfl ?_
      exact hret _ _ _ dX1_stepsUp_44 rfl (Eq.trans (by simp only [f1_stepsUp_L5]) hp)
    | succ n ih =>
      intro i x3 hi hp
      refine wk_iload F dX1_stepsUp_5 3 rfl (pc' := 7) rfl ?_
      refine wk_bipush F dX1_stepsUp_7 bp_8 (pc' := 9) rfl ?_
      refine wk_icmp_ge (tgt := 43) F dX1_stepsUp_9 (by decide) (pc' := 12) rfl (fun c => absurd ((nI_leI (a := 8) (b := i) (by omega) (by omega)).mp c) (by omega)) (fun _ => ?_)
      refine wk_aload_n F dX1_stepsUp_12 rfl 0 rfl (pc' := 13) rfl ?_
      refine wk_iload_n F dX1_stepsUp_13 rfl 2 rfl (pc' := 14) rfl ?_
      refine wk_same_p F (c1_lives l D cI cP hs σ x3) (cwV 1 F.hts gX1_stepsUp_X1_lives rfl rfl rfl hdX1_lives ⟨Nat.le_of_ble_eq_true rfl, Nat.le_of_ble_eq_true rfl⟩) 0 1 rfl rfl rfl rfl (Nat.le_of_ble_eq_true rfl) dX1_stepsUp_14 ⟨Nat.zero_le _, Nat.zero_le _⟩ (pc' := 17) rfl ?_
      refine wk_if_ne (tgt := 22) F dX1_stepsUp_17 (by decide) (pc' := 20) rfl (fun c1 => ?_) (fun c1 => ?_)
      · refine wk_iload_n F dX1_stepsUp_22 rfl 2 rfl (pc' := 23) rfl ?_
        refine wk_iload_n F dX1_stepsUp_23 rfl 1 rfl (pc' := 24) rfl ?_
        refine wk_icmp_ne (tgt := 30) F dX1_stepsUp_24 (by decide) (pc' := 27) rfl (fun c2 => ?_) (fun c2 => ?_)
        · refine wk_aload_n F dX1_stepsUp_30 rfl 0 rfl (pc' := 31) rfl ?_
          refine wk_get (C := RX1) (T := TX1) (N := 14) F 0 rfl rfl k_1 3 (Nat.le_of_ble_eq_true rfl) w_1 rfl dX1_stepsUp_31 (pc' := 34) rfl ?_
          refine wk_iload_n F dX1_stepsUp_34 rfl 2 rfl (pc' := 35) rfl ?_
          refine wk_iald F 4 0 rfl rfl (lives_in c1) dX1_stepsUp_35 (pc' := 36) rfl ?_
          refine wk_istore_n (lv' := [(3, .int (σ 3 x3.toNatClampNeg)), (0, .ref (hs 0)), (2, .int p2), (4, .int (nI i))]) F dX1_stepsUp_36 rfl (Nat.le_of_ble_eq_true rfl) rfl (pc' := 37) rfl ?_
          refine wk_iinc (k := 3) (v := nI (i + 1)) (lv' := [(4, .int (nI (i + 1))), (3, .int (σ 3 x3.toNatClampNeg)), (0, .ref (hs 0)), (2, .int p2)]) F dX1_stepsUp_37 rfl (nI_inc i) (Nat.le_of_ble_eq_true rfl) rfl (pc' := 40) rfl ?_
          refine wk_goto (tgt := 5) F dX1_stepsUp_40 (by decide) ?_
          refine wk_lv [2, 3, 1, 0] rfl ?_
          exact ih (i + 1) (σ 3 x3.toNatClampNeg) (by omega) (Eq.trans (Eq.symm (by simp only [f1_stepsUp_L5, if_neg c1, if_neg c2])) hp)
        · refine wk_iload F dX1_stepsUp_27 3 rfl (pc' := 29) rfl ?_
          exact hret _ _ _ dX1_stepsUp_29 rfl (Eq.trans (by simp only [f1_stepsUp_L5, if_neg c1, if_pos c2]) hp)
      · refine wk_iconst F dX1_stepsUp_20 ic_m1 (pc' := 21) rfl ?_
        exact hret _ _ _ dX1_stepsUp_21 rfl (Eq.trans (by simp only [f1_stepsUp_L5, if_pos c1]) hp)
  refine wk_iload_n F dX1_stepsUp_0 rfl 1 rfl (pc' := 1) rfl ?_
  refine wk_istore_n (lv' := [(3, .int p1), (0, .ref (hs 0)), (1, .int p1), (2, .int p2)]) F dX1_stepsUp_1 rfl (Nat.le_of_ble_eq_true rfl) rfl (pc' := 2) rfl ?_
  refine wk_iconst F dX1_stepsUp_2 ic_0 (pc' := 3) rfl ?_
  refine wk_istore (lv' := [(4, .int (0 : Int32)), (3, .int p1), (0, .ref (hs 0)), (1, .int p1), (2, .int p2)]) F dX1_stepsUp_3 (Nat.le_of_ble_eq_true rfl) rfl (pc' := 5) rfl ?_
  refine wk_lv [2, 4, 1, 0] rfl ?_
  exact L5 8 0 p1 (by omega) (by simp only [f1_stepsUp])
def f1_familyOf_L4 (σ : PS) (p1 : Int32) : Nat → Nat → Int32 → Int32
  | 0, i, x2 => x2
  | n + 1, i, x2 => (if (f1_stepsUp σ (nI i) p1) = (-1 : Int32) then f1_familyOf_L4 σ p1 n (i + 1) x2 else f1_familyOf_L4 σ p1 n (i + 1) (x2 ||| ((1 : Int32) <<< ((nI i) &&& 31))))
def f1_familyOf (σ : PS) (p1 : Int32) : Int32 := ((fun (y3 : Int32) => y3) (f1_familyOf_L4 σ p1 8 0 (0 : Int32)))
set_option maxHeartbeats 4000000 in
set_option maxRecDepth 100000 in
theorem c1_familyOf (l : Launch) (D : va_G) (cI cP : ClassId) (hs : Nat → Nat) (σ : PS) (p1 : Int32) : CP l yX1_familyOf wsX1_familyOf ({ frames := 2, cells := 0, slots := 0, locals := 45 } : Room) D (cty cI cP) (wPool cI hs) σ [.ref (hs 0), .int p1] (f1_familyOf σ p1) := by
  refine CP.of (cc := cX1_familyOf) (maxL := 4) (rt := .int) (own := RX1) (lv0 := [(0, .ref (hs 0)), (1, .int p1)]) pnX1 rfl rfl (Nat.le_of_ble_eq_true rfl) rfl (fun p e s m args below meth c A Q F hret => ?_)
  have L4 : ∀ (n : Nat) (i : Nat) (x2 : Int32), i + n = 8 → (∀ (y2 : Int32), f1_familyOf_L4 σ p1 n i x2 = y2 → Wk p l e ({ frames := 2, cells := 0, slots := 0, locals := 45 } : Room) s m args below meth c 4 D A 0 0 Q (wPool cI hs σ) [(2, .int y2)] 32 []) → Wk p l e ({ frames := 2, cells := 0, slots := 0, locals := 45 } : Room) s m args below meth c 4 D A 0 0 Q (wPool cI hs σ) [(0, .ref (hs 0)), (1, .int p1), (2, .int x2), (3, .int (nI i))] 4 [] := by
    intro n
    induction n with
    | zero =>
      intro i x2 hi kx
      refine wk_iload_n F dX1_familyOf_4 rfl 3 rfl (pc' := 5) rfl ?_
      refine wk_bipush F dX1_familyOf_5 bp_8 (pc' := 7) rfl ?_
      refine wk_icmp_ge (tgt := 32) F dX1_familyOf_7 (by decide) (pc' := 10) rfl (fun _ => ?_) (fun c => absurd ((nI_leI (a := 8) (b := i) (by omega) (by omega)).mpr (by omega)) c)
      refine wk_lv [2] rfl ?_
      exact kx x2 (by simp only [f1_familyOf_L4])
    | succ n ih =>
      intro i x2 hi kx
      refine wk_iload_n F dX1_familyOf_4 rfl 3 rfl (pc' := 5) rfl ?_
      refine wk_bipush F dX1_familyOf_5 bp_8 (pc' := 7) rfl ?_
      refine wk_icmp_ge (tgt := 32) F dX1_familyOf_7 (by decide) (pc' := 10) rfl (fun c => absurd ((nI_leI (a := 8) (b := i) (by omega) (by omega)).mp c) (by omega)) (fun _ => ?_)
      refine wk_aload_n F dX1_familyOf_10 rfl 0 rfl (pc' := 11) rfl ?_
      refine wk_iload_n F dX1_familyOf_11 rfl 3 rfl (pc' := 12) rfl ?_
      refine wk_iload_n F dX1_familyOf_12 rfl 1 rfl (pc' := 13) rfl ?_
      refine wk_same_p F (c1_stepsUp l D cI cP hs σ (nI i) p1) (cwV 2 F.hts gX1_familyOf_X1_stepsUp rfl rfl rfl hdX1_stepsUp ⟨Nat.le_of_ble_eq_true rfl, Nat.le_of_ble_eq_true rfl⟩) 0 1 rfl rfl rfl rfl (Nat.le_of_ble_eq_true rfl) dX1_familyOf_13 ⟨Nat.zero_le _, Nat.zero_le _⟩ (pc' := 16) rfl ?_
      refine wk_iconst F dX1_familyOf_16 ic_m1 (pc' := 17) rfl ?_
      refine wk_icmp_eq (tgt := 26) F dX1_familyOf_17 (by decide) (pc' := 20) rfl (fun c1 => ?_) (fun c1 => ?_)
      · refine wk_iinc (k := 3) (v := nI (i + 1)) (lv' := [(3, .int (nI (i + 1))), (0, .ref (hs 0)), (1, .int p1), (2, .int x2)]) F dX1_familyOf_26 rfl (nI_inc i) (Nat.le_of_ble_eq_true rfl) rfl (pc' := 29) rfl ?_
        refine wk_goto (tgt := 4) F dX1_familyOf_29 (by decide) ?_
        refine wk_lv [1, 2, 3, 0] rfl ?_
        exact ih (i + 1) x2 (by omega) (fun y2_ h_ => kx y2_ (Eq.trans (by simp only [f1_familyOf_L4, if_pos c1]) h_))
      · refine wk_iload_n F dX1_familyOf_20 rfl 2 rfl (pc' := 21) rfl ?_
        refine wk_iconst F dX1_familyOf_21 ic_1 (pc' := 22) rfl ?_
        refine wk_iload_n F dX1_familyOf_22 rfl 3 rfl (pc' := 23) rfl ?_
        refine wk_ishl F dX1_familyOf_23 (pc' := 24) rfl ?_
        refine wk_ior F dX1_familyOf_24 (pc' := 25) rfl ?_
        refine wk_istore_n (lv' := [(2, .int (x2 ||| ((1 : Int32) <<< ((nI i) &&& 31)))), (0, .ref (hs 0)), (1, .int p1), (3, .int (nI i))]) F dX1_familyOf_25 rfl (Nat.le_of_ble_eq_true rfl) rfl (pc' := 26) rfl ?_
        refine wk_iinc (k := 3) (v := nI (i + 1)) (lv' := [(3, .int (nI (i + 1))), (2, .int (x2 ||| ((1 : Int32) <<< ((nI i) &&& 31)))), (0, .ref (hs 0)), (1, .int p1)]) F dX1_familyOf_26 rfl (nI_inc i) (Nat.le_of_ble_eq_true rfl) rfl (pc' := 29) rfl ?_
        refine wk_goto (tgt := 4) F dX1_familyOf_29 (by decide) ?_
        refine wk_lv [2, 3, 1, 0] rfl ?_
        exact ih (i + 1) (x2 ||| ((1 : Int32) <<< ((nI i) &&& 31))) (by omega) (fun y2_ h_ => kx y2_ (Eq.trans (by simp only [f1_familyOf_L4, if_neg c1]) h_))
  refine wk_iconst F dX1_familyOf_0 ic_0 (pc' := 1) rfl ?_
  refine wk_istore_n (lv' := [(2, .int (0 : Int32)), (0, .ref (hs 0)), (1, .int p1)]) F dX1_familyOf_1 rfl (Nat.le_of_ble_eq_true rfl) rfl (pc' := 2) rfl ?_
  refine wk_iconst F dX1_familyOf_2 ic_0 (pc' := 3) rfl ?_
  refine wk_istore_n (lv' := [(3, .int (0 : Int32)), (2, .int (0 : Int32)), (0, .ref (hs 0)), (1, .int p1)]) F dX1_familyOf_3 rfl (Nat.le_of_ble_eq_true rfl) rfl (pc' := 4) rfl ?_
  refine wk_lv [2, 3, 1, 0] rfl ?_
  refine L4 8 0 (0 : Int32) (by omega) (fun y3 h2 => ?_)
  refine wk_iload_n F dX1_familyOf_32 rfl 0 rfl (pc' := 33) rfl ?_
  exact hret _ _ _ dX1_familyOf_33 rfl (by simp only [f1_familyOf, h2])
def f1_longestLineFrom_L4 (σ : PS) (p1 : Int32) : Nat → Nat → Int32 → Int32
  | 0, i, x2 => x2
  | n + 1, i, x2 => f1_longestLineFrom_L4 σ p1 n (i + 1) (if x2 < (f1_stepsUp σ (nI i) p1) then (f1_stepsUp σ (nI i) p1) else x2)
def f1_longestLineFrom (σ : PS) (p1 : Int32) : Int32 := ((fun (y2 : Int32) => y2) (f1_longestLineFrom_L4 σ p1 8 0 (0 : Int32)))
set_option maxHeartbeats 4000000 in
set_option maxRecDepth 100000 in
theorem c1_longestLineFrom (l : Launch) (D : va_G) (cI cP : ClassId) (hs : Nat → Nat) (σ : PS) (p1 : Int32) : CP l yX1_longestLineFrom wsX1_longestLineFrom ({ frames := 2, cells := 0, slots := 0, locals := 45 } : Room) D (cty cI cP) (wPool cI hs) σ [.ref (hs 0), .int p1] (f1_longestLineFrom σ p1) := by
  refine CP.of (cc := cX1_longestLineFrom) (maxL := 4) (rt := .int) (own := RX1) (lv0 := [(0, .ref (hs 0)), (1, .int p1)]) pnX1 rfl rfl (Nat.le_of_ble_eq_true rfl) rfl (fun p e s m args below meth c A Q F hret => ?_)
  have w_1 := F.at (x := Cond.methodLink RX1 91 Lib.Math.max.name) 1 rfl
  have w_2 := F.at (x := Cond.static Lib.Math.max.name) 2 rfl
  have w_3 := F.at (x := Cond.initialized "java/lang/Math") 3 rfl
  have w_4 := F.at (x := Cond.code Lib.Math.max.name Lib.Math.max.code 2 (some .int)) 4 rfl
  have L4 : ∀ (n : Nat) (i : Nat) (x2 : Int32), i + n = 8 → (∀ (y2 : Int32), f1_longestLineFrom_L4 σ p1 n i x2 = y2 → Wk p l e ({ frames := 2, cells := 0, slots := 0, locals := 45 } : Room) s m args below meth c 4 D A 0 0 Q (wPool cI hs σ) [(2, .int y2)] 27 []) → Wk p l e ({ frames := 2, cells := 0, slots := 0, locals := 45 } : Room) s m args below meth c 4 D A 0 0 Q (wPool cI hs σ) [(0, .ref (hs 0)), (1, .int p1), (2, .int x2), (3, .int (nI i))] 4 [] := by
    intro n
    induction n with
    | zero =>
      intro i x2 hi kx
      refine wk_iload_n F dX1_longestLineFrom_4 rfl 3 rfl (pc' := 5) rfl ?_
      refine wk_bipush F dX1_longestLineFrom_5 bp_8 (pc' := 7) rfl ?_
      refine wk_icmp_ge (tgt := 27) F dX1_longestLineFrom_7 (by decide) (pc' := 10) rfl (fun _ => ?_) (fun c => absurd ((nI_leI (a := 8) (b := i) (by omega) (by omega)).mpr (by omega)) c)
      refine wk_lv [2] rfl ?_
      exact kx x2 (by simp only [f1_longestLineFrom_L4])
    | succ n ih =>
      intro i x2 hi kx
      refine wk_iload_n F dX1_longestLineFrom_4 rfl 3 rfl (pc' := 5) rfl ?_
      refine wk_bipush F dX1_longestLineFrom_5 bp_8 (pc' := 7) rfl ?_
      refine wk_icmp_ge (tgt := 27) F dX1_longestLineFrom_7 (by decide) (pc' := 10) rfl (fun c => absurd ((nI_leI (a := 8) (b := i) (by omega) (by omega)).mp c) (by omega)) (fun _ => ?_)
      refine wk_iload_n F dX1_longestLineFrom_10 rfl 2 rfl (pc' := 11) rfl ?_
      refine wk_aload_n F dX1_longestLineFrom_11 rfl 0 rfl (pc' := 12) rfl ?_
      refine wk_iload_n F dX1_longestLineFrom_12 rfl 3 rfl (pc' := 13) rfl ?_
      refine wk_iload_n F dX1_longestLineFrom_13 rfl 1 rfl (pc' := 14) rfl ?_
      refine wk_same_p F (c1_stepsUp l D cI cP hs σ (nI i) p1) (cwV 2 F.hts gX1_longestLineFrom_X1_stepsUp rfl rfl rfl hdX1_stepsUp ⟨Nat.le_of_ble_eq_true rfl, Nat.le_of_ble_eq_true rfl⟩) 0 1 rfl rfl rfl rfl (Nat.le_of_ble_eq_true rfl) dX1_longestLineFrom_14 ⟨Nat.zero_le _, Nat.zero_le _⟩ (pc' := 17) rfl ?_
      refine wk_mmax F w_1 w_2 w_3 w_4 (Nat.le_of_ble_eq_true rfl) (Nat.le_of_ble_eq_true rfl) (Nat.zero_le _) (Nat.zero_le _) dX1_longestLineFrom_17 (pc' := 20) rfl ?_
      refine wk_istore_n (lv' := [(2, .int (if x2 < (f1_stepsUp σ (nI i) p1) then (f1_stepsUp σ (nI i) p1) else x2)), (0, .ref (hs 0)), (1, .int p1), (3, .int (nI i))]) F dX1_longestLineFrom_20 rfl (Nat.le_of_ble_eq_true rfl) rfl (pc' := 21) rfl ?_
      refine wk_iinc (k := 3) (v := nI (i + 1)) (lv' := [(3, .int (nI (i + 1))), (2, .int (if x2 < (f1_stepsUp σ (nI i) p1) then (f1_stepsUp σ (nI i) p1) else x2)), (0, .ref (hs 0)), (1, .int p1)]) F dX1_longestLineFrom_21 rfl (nI_inc i) (Nat.le_of_ble_eq_true rfl) rfl (pc' := 24) rfl ?_
      refine wk_goto (tgt := 4) F dX1_longestLineFrom_24 (by decide) ?_
      refine wk_lv [2, 3, 1, 0] rfl ?_
      exact ih (i + 1) (if x2 < (f1_stepsUp σ (nI i) p1) then (f1_stepsUp σ (nI i) p1) else x2) (by omega) (fun y2_ h_ => kx y2_ (Eq.trans (by simp only [f1_longestLineFrom_L4]) h_))
  refine wk_iconst F dX1_longestLineFrom_0 ic_0 (pc' := 1) rfl ?_
  refine wk_istore_n (lv' := [(2, .int (0 : Int32)), (0, .ref (hs 0)), (1, .int p1)]) F dX1_longestLineFrom_1 rfl (Nat.le_of_ble_eq_true rfl) rfl (pc' := 2) rfl ?_
  refine wk_iconst F dX1_longestLineFrom_2 ic_0 (pc' := 3) rfl ?_
  refine wk_istore_n (lv' := [(3, .int (0 : Int32)), (2, .int (0 : Int32)), (0, .ref (hs 0)), (1, .int p1)]) F dX1_longestLineFrom_3 rfl (Nat.le_of_ble_eq_true rfl) rfl (pc' := 4) rfl ?_
  refine wk_lv [2, 3, 1, 0] rfl ?_
  refine L4 8 0 (0 : Int32) (by omega) (fun y2 h1 => ?_)
  refine wk_iload_n F dX1_longestLineFrom_27 rfl 0 rfl (pc' := 28) rfl ?_
  exact hret _ _ _ dX1_longestLineFrom_28 rfl (by simp only [f1_longestLineFrom, h1])
def f1_available (σ : PS) : Int32 := (f1_freePieces σ) - (f1_allPromises σ)
set_option maxHeartbeats 4000000 in
set_option maxRecDepth 100000 in
theorem c1_available (l : Launch) (D : va_G) (cI cP : ClassId) (hs : Nat → Nat) (σ : PS) : CP l yX1_available wsX1_available ({ frames := 1, cells := 0, slots := 0, locals := 22 } : Room) D (cty cI cP) (wPool cI hs) σ [.ref (hs 0)] (f1_available σ) := by
  refine CP.of (cc := cX1_available) (maxL := 1) (rt := .int) (own := RX1) (lv0 := [(0, .ref (hs 0))]) pnX1 rfl rfl (Nat.le_of_ble_eq_true rfl) rfl (fun p e s m args below meth c A Q F hret => ?_)
  refine wk_aload_n F dX1_available_0 rfl 0 rfl (pc' := 1) rfl ?_
  refine wk_same_p F (c1_freePieces l D cI cP hs σ) (cwV 0 F.hts gX1_available_X1_freePieces rfl rfl rfl hdX1_freePieces ⟨Nat.le_of_ble_eq_true rfl, Nat.le_of_ble_eq_true rfl⟩) 0 1 rfl rfl rfl rfl (Nat.le_of_ble_eq_true rfl) dX1_available_1 ⟨Nat.zero_le _, Nat.zero_le _⟩ (pc' := 4) rfl ?_
  refine wk_aload_n F dX1_available_4 rfl 0 rfl (pc' := 5) rfl ?_
  refine wk_same_p F (c1_allPromises l D cI cP hs σ) (cwV 0 F.hts gX1_available_X1_allPromises rfl rfl rfl hdX1_allPromises ⟨Nat.le_of_ble_eq_true rfl, Nat.le_of_ble_eq_true rfl⟩) 0 1 rfl rfl rfl rfl (Nat.le_of_ble_eq_true rfl) dX1_available_5 ⟨Nat.zero_le _, Nat.zero_le _⟩ (pc' := 8) rfl ?_
  refine wk_isub F dX1_available_8 (pc' := 9) rfl ?_
  exact hret _ _ _ dX1_available_9 rfl (by simp only [f1_available])
def f1_levelWith (σ : PS) (p1 : Int32) : Int32 := (if (σ 9 1) < p1 then (if (σ 9 0) < p1 then (0 : Int32) else (1 : Int32)) else (2 : Int32))
set_option maxHeartbeats 4000000 in
set_option maxRecDepth 100000 in
theorem c1_levelWith (l : Launch) (D : va_G) (cI cP : ClassId) (hs : Nat → Nat) (σ : PS) (p1 : Int32) : CP l yX1_levelWith wsX1_levelWith ({ frames := 0, cells := 0, slots := 0, locals := 0 } : Room) D (cty cI cP) (wPool cI hs) σ [.ref (hs 0), .int p1] (f1_levelWith σ p1) := by
  refine CP.of (cc := cX1_levelWith) (maxL := 2) (rt := .int) (own := RX1) (lv0 := [(0, .ref (hs 0)), (1, .int p1)]) pnX1 rfl rfl (Nat.le_of_ble_eq_true rfl) rfl (fun p e s m args below meth c A Q F hret => ?_)
  have w_1 := F.at (x := Cond.fieldLink RX1 39 "ThinVolumes$Pool" "settings" "[I") 1 rfl
  have k_1 : ∀ w ∈ wsX10, w ∈ wsX1_levelWith := fun _ h => List.mem_cons_of_mem _ (List.mem_append_right _ (h))
  refine wk_iload_n F dX1_levelWith_0 rfl 1 rfl (pc' := 1) rfl ?_
  refine wk_aload_n F dX1_levelWith_1 rfl 0 rfl (pc' := 2) rfl ?_
  refine wk_get (C := RX1) (T := TX1) (N := 14) F 0 rfl rfl k_1 9 (Nat.le_of_ble_eq_true rfl) w_1 rfl dX1_levelWith_2 (pc' := 5) rfl ?_
  refine wk_iconst F dX1_levelWith_5 ic_1 (pc' := 6) rfl ?_
  refine wk_iald_n (i := 1) F 10 0 rfl rfl (by omega) (Nat.le_of_ble_eq_true rfl) dX1_levelWith_6 (pc' := 7) rfl ?_
  refine wk_icmp_gt (tgt := 12) F dX1_levelWith_7 (by decide) (pc' := 10) rfl (fun c1 => ?_) (fun c1 => ?_)
  · refine wk_iload_n F dX1_levelWith_12 rfl 1 rfl (pc' := 13) rfl ?_
    refine wk_aload_n F dX1_levelWith_13 rfl 0 rfl (pc' := 14) rfl ?_
    refine wk_get (C := RX1) (T := TX1) (N := 14) F 0 rfl rfl k_1 9 (Nat.le_of_ble_eq_true rfl) w_1 rfl dX1_levelWith_14 (pc' := 17) rfl ?_
    refine wk_iconst F dX1_levelWith_17 ic_0 (pc' := 18) rfl ?_
    refine wk_iald_n (i := 0) F 10 0 rfl rfl (by omega) (Nat.le_of_ble_eq_true rfl) dX1_levelWith_18 (pc' := 19) rfl ?_
    refine wk_icmp_gt (tgt := 26) F dX1_levelWith_19 (by decide) (pc' := 22) rfl (fun c2 => ?_) (fun c2 => ?_)
    · refine wk_iconst F dX1_levelWith_26 ic_0 (pc' := 27) rfl ?_
      exact hret _ _ _ dX1_levelWith_27 rfl (by simp only [f1_levelWith, if_pos c1, if_pos c2])
    · refine wk_iconst F dX1_levelWith_22 ic_1 (pc' := 23) rfl ?_
      refine wk_goto (tgt := 27) F dX1_levelWith_23 (by decide) ?_
      exact hret _ _ _ dX1_levelWith_27 rfl (by simp only [f1_levelWith, if_pos c1, if_neg c2])
  · refine wk_iconst F dX1_levelWith_10 ic_2 (pc' := 11) rfl ?_
    exact hret _ _ _ dX1_levelWith_11 rfl (by simp only [f1_levelWith, if_neg c1])
def f1_level (σ : PS) : Int32 := f1_levelWith σ (f1_available σ)
set_option maxHeartbeats 4000000 in
set_option maxRecDepth 100000 in
theorem c1_level (l : Launch) (D : va_G) (cI cP : ClassId) (hs : Nat → Nat) (σ : PS) : CP l yX1_level wsX1_level ({ frames := 2, cells := 0, slots := 0, locals := 42 } : Room) D (cty cI cP) (wPool cI hs) σ [.ref (hs 0)] (f1_level σ) := by
  refine CP.of (cc := cX1_level) (maxL := 1) (rt := .int) (own := RX1) (lv0 := [(0, .ref (hs 0))]) pnX1 rfl rfl (Nat.le_of_ble_eq_true rfl) rfl (fun p e s m args below meth c A Q F hret => ?_)
  refine wk_aload_n F dX1_level_0 rfl 0 rfl (pc' := 1) rfl ?_
  refine wk_aload_n F dX1_level_1 rfl 0 rfl (pc' := 2) rfl ?_
  refine wk_same_p F (c1_available l D cI cP hs σ) (cwV 0 F.hts gX1_level_X1_available rfl rfl rfl hdX1_available ⟨Nat.le_of_ble_eq_true rfl, Nat.le_of_ble_eq_true rfl⟩) 0 1 rfl rfl rfl rfl (Nat.le_of_ble_eq_true rfl) dX1_level_2 ⟨Nat.zero_le _, Nat.zero_le _⟩ (pc' := 5) rfl ?_
  refine wk_same_p F (c1_levelWith l D cI cP hs σ (f1_available σ)) (cwV 1 F.hts gX1_level_X1_levelWith rfl rfl rfl hdX1_levelWith ⟨Nat.le_of_ble_eq_true rfl, Nat.le_of_ble_eq_true rfl⟩) 0 1 rfl rfl rfl rfl (Nat.le_of_ble_eq_true rfl) dX1_level_5 ⟨Nat.zero_le _, Nat.zero_le _⟩ (pc' := 8) rfl ?_
  exact hret _ _ _ dX1_level_8 rfl (by simp only [f1_level])
def f1_rankWith_L5 (σ : PS) (p1 : Int32) (p2 : Int32) : Nat → Nat → Int32 → Int32
  | 0, i, x3 => x3
  | n + 1, i, x3 => (if p2 < (σ 1 i) then (if (nI i) = p1 then f1_rankWith_L5 σ p1 p2 n (i + 1) x3 else (if (f1_lives σ (nI i)) = 0 then f1_rankWith_L5 σ p1 p2 n (i + 1) x3 else f1_rankWith_L5 σ p1 p2 n (i + 1) (x3 + 1))) else (if (σ 1 i) = p2 then (if p1 ≤ (nI i) then (if (nI i) = p1 then f1_rankWith_L5 σ p1 p2 n (i + 1) x3 else (if (f1_lives σ (nI i)) = 0 then f1_rankWith_L5 σ p1 p2 n (i + 1) x3 else f1_rankWith_L5 σ p1 p2 n (i + 1) x3)) else (if (nI i) = p1 then f1_rankWith_L5 σ p1 p2 n (i + 1) x3 else (if (f1_lives σ (nI i)) = 0 then f1_rankWith_L5 σ p1 p2 n (i + 1) x3 else f1_rankWith_L5 σ p1 p2 n (i + 1) (x3 + 1)))) else (if (nI i) = p1 then f1_rankWith_L5 σ p1 p2 n (i + 1) x3 else (if (f1_lives σ (nI i)) = 0 then f1_rankWith_L5 σ p1 p2 n (i + 1) x3 else f1_rankWith_L5 σ p1 p2 n (i + 1) x3))))
def f1_rankWith (σ : PS) (p1 : Int32) (p2 : Int32) : Int32 := ((fun (y13 : Int32) => y13) (f1_rankWith_L5 σ p1 p2 8 0 (0 : Int32)))
set_option maxHeartbeats 4000000 in
set_option maxRecDepth 100000 in
theorem c1_rankWith (l : Launch) (D : va_G) (cI cP : ClassId) (hs : Nat → Nat) (σ : PS) (p1 : Int32) (p2 : Int32) : CP l yX1_rankWith wsX1_rankWith ({ frames := 1, cells := 0, slots := 0, locals := 21 } : Room) D (cty cI cP) (wPool cI hs) σ [.ref (hs 0), .int p1, .int p2] (f1_rankWith σ p1 p2) := by
  refine CP.of (cc := cX1_rankWith) (maxL := 6) (rt := .int) (own := RX1) (lv0 := [(0, .ref (hs 0)), (1, .int p1), (2, .int p2)]) pnX1 rfl rfl (Nat.le_of_ble_eq_true rfl) rfl (fun p e s m args below meth c A Q F hret => ?_)
  have w_1 := F.at (x := Cond.fieldLink RX1 15 "ThinVolumes$Pool" "manners" "[I") 1 rfl
  have k_1 : ∀ w ∈ wsX10, w ∈ wsX1_rankWith := fun _ h => List.mem_cons_of_mem _ (List.mem_append_right _ (h))
  have L5 : ∀ (n : Nat) (i : Nat) (x3 : Int32), i + n = 8 → (∀ (y3 : Int32), f1_rankWith_L5 σ p1 p2 n i x3 = y3 → Wk p l e ({ frames := 1, cells := 0, slots := 0, locals := 21 } : Room) s m args below meth c 6 D A 0 0 Q (wPool cI hs σ) [(3, .int y3)] 76 []) → Wk p l e ({ frames := 1, cells := 0, slots := 0, locals := 21 } : Room) s m args below meth c 6 D A 0 0 Q (wPool cI hs σ) [(0, .ref (hs 0)), (1, .int p1), (2, .int p2), (3, .int x3), (4, .int (nI i))] 5 [] := by
    intro n
    induction n with
    | zero =>
      intro i x3 hi kx
      refine wk_iload F dX1_rankWith_5 4 rfl (pc' := 7) rfl ?_
      refine wk_bipush F dX1_rankWith_7 bp_8 (pc' := 9) rfl ?_
      refine wk_icmp_ge (tgt := 76) F dX1_rankWith_9 (by decide) (pc' := 12) rfl (fun _ => ?_) (fun c => absurd ((nI_leI (a := 8) (b := i) (by omega) (by omega)).mpr (by omega)) c)
      refine wk_lv [3] rfl ?_
      exact kx x3 (by simp only [f1_rankWith_L5])
    | succ n ih =>
      intro i x3 hi kx
      refine wk_iload F dX1_rankWith_5 4 rfl (pc' := 7) rfl ?_
      refine wk_bipush F dX1_rankWith_7 bp_8 (pc' := 9) rfl ?_
      refine wk_icmp_ge (tgt := 76) F dX1_rankWith_9 (by decide) (pc' := 12) rfl (fun c => absurd ((nI_leI (a := 8) (b := i) (by omega) (by omega)).mp c) (by omega)) (fun _ => ?_)
      refine wk_aload_n F dX1_rankWith_12 rfl 0 rfl (pc' := 13) rfl ?_
      refine wk_get (C := RX1) (T := TX1) (N := 14) F 0 rfl rfl k_1 1 (Nat.le_of_ble_eq_true rfl) w_1 rfl dX1_rankWith_13 (pc' := 16) rfl ?_
      refine wk_iload F dX1_rankWith_16 4 rfl (pc' := 18) rfl ?_
      refine wk_iald_n (i := i) F 2 0 rfl rfl (by omega) (Nat.le_of_ble_eq_true rfl) dX1_rankWith_18 (pc' := 19) rfl ?_
      refine wk_iload_n F dX1_rankWith_19 rfl 2 rfl (pc' := 20) rfl ?_
      refine wk_icmp_gt (tgt := 40) F dX1_rankWith_20 (by decide) (pc' := 23) rfl (fun c1 => ?_) (fun c1 => ?_)
      · refine wk_iconst F dX1_rankWith_40 ic_1 (pc' := 41) rfl ?_
        refine wk_goto (tgt := 45) F dX1_rankWith_41 (by decide) ?_
        refine wk_istore (lv' := [(5, .int (1 : Int32)), (0, .ref (hs 0)), (1, .int p1), (2, .int p2), (3, .int x3), (4, .int (nI i))]) F dX1_rankWith_45 (Nat.le_of_ble_eq_true rfl) rfl (pc' := 47) rfl ?_
        refine wk_iload F dX1_rankWith_47 5 rfl (pc' := 49) rfl ?_
        refine wk_iload_n F dX1_rankWith_49 rfl 2 rfl (pc' := 50) rfl ?_
        refine wk_icmp_eq (tgt := 70) F dX1_rankWith_50 (by decide) (pc' := 53) rfl (fun c2 => ?_) (fun c2 => ?_)
        · refine wk_iinc (k := 5) (v := nI (i + 1)) (lv' := [(4, .int (nI (i + 1))), (5, .int (1 : Int32)), (0, .ref (hs 0)), (1, .int p1), (2, .int p2), (3, .int x3)]) F dX1_rankWith_70 rfl (nI_inc i) (Nat.le_of_ble_eq_true rfl) rfl (pc' := 73) rfl ?_
          refine wk_goto (tgt := 5) F dX1_rankWith_73 (by decide) ?_
          refine wk_lv [2, 3, 4, 5, 0] rfl ?_
          exact ih (i + 1) x3 (by omega) (fun y3_ h_ => kx y3_ (Eq.trans (by simp only [f1_rankWith_L5, if_pos c1, if_pos c2]) h_))
        · refine wk_aload_n F dX1_rankWith_53 rfl 1 rfl (pc' := 54) rfl ?_
          refine wk_iload F dX1_rankWith_54 5 rfl (pc' := 56) rfl ?_
          refine wk_same_p F (c1_lives l D cI cP hs σ (nI i)) (cwV 1 F.hts gX1_rankWith_X1_lives rfl rfl rfl hdX1_lives ⟨Nat.le_of_ble_eq_true rfl, Nat.le_of_ble_eq_true rfl⟩) 0 1 rfl rfl rfl rfl (Nat.le_of_ble_eq_true rfl) dX1_rankWith_56 ⟨Nat.zero_le _, Nat.zero_le _⟩ (pc' := 59) rfl ?_
          refine wk_if_eq (tgt := 70) F dX1_rankWith_59 (by decide) (pc' := 62) rfl (fun c3 => ?_) (fun c3 => ?_)
          · refine wk_iinc (k := 5) (v := nI (i + 1)) (lv' := [(4, .int (nI (i + 1))), (5, .int (1 : Int32)), (0, .ref (hs 0)), (1, .int p1), (2, .int p2), (3, .int x3)]) F dX1_rankWith_70 rfl (nI_inc i) (Nat.le_of_ble_eq_true rfl) rfl (pc' := 73) rfl ?_
            refine wk_goto (tgt := 5) F dX1_rankWith_73 (by decide) ?_
            refine wk_lv [2, 3, 4, 5, 0] rfl ?_
            exact ih (i + 1) x3 (by omega) (fun y3_ h_ => kx y3_ (Eq.trans (by simp only [f1_rankWith_L5, if_pos c1, if_neg c2, if_pos c3]) h_))
          · refine wk_iload F dX1_rankWith_62 0 rfl (pc' := 64) rfl ?_
            refine wk_if_eq (tgt := 70) F dX1_rankWith_64 (by decide) (pc' := 67) rfl (fun c => absurd c (by decide)) (fun _ => ?_)
            refine wk_iinc (k := 4) (v := x3 + 1) (lv' := [(3, .int (x3 + 1)), (5, .int (1 : Int32)), (0, .ref (hs 0)), (1, .int p1), (2, .int p2), (4, .int (nI i))]) F dX1_rankWith_67 rfl rfl (Nat.le_of_ble_eq_true rfl) rfl (pc' := 70) rfl ?_
            refine wk_iinc (k := 5) (v := nI (i + 1)) (lv' := [(4, .int (nI (i + 1))), (3, .int (x3 + 1)), (5, .int (1 : Int32)), (0, .ref (hs 0)), (1, .int p1), (2, .int p2)]) F dX1_rankWith_70 rfl (nI_inc i) (Nat.le_of_ble_eq_true rfl) rfl (pc' := 73) rfl ?_
            refine wk_goto (tgt := 5) F dX1_rankWith_73 (by decide) ?_
            refine wk_lv [3, 4, 5, 1, 0] rfl ?_
            exact ih (i + 1) (x3 + 1) (by omega) (fun y3_ h_ => kx y3_ (Eq.trans (by simp only [f1_rankWith_L5, if_pos c1, if_neg c2, if_neg c3]) h_))
      · refine wk_aload_n F dX1_rankWith_23 rfl 0 rfl (pc' := 24) rfl ?_
        refine wk_get (C := RX1) (T := TX1) (N := 14) F 0 rfl rfl k_1 1 (Nat.le_of_ble_eq_true rfl) w_1 rfl dX1_rankWith_24 (pc' := 27) rfl ?_
        refine wk_iload F dX1_rankWith_27 4 rfl (pc' := 29) rfl ?_
        refine wk_iald_n (i := i) F 2 0 rfl rfl (by omega) (Nat.le_of_ble_eq_true rfl) dX1_rankWith_29 (pc' := 30) rfl ?_
        refine wk_iload_n F dX1_rankWith_30 rfl 2 rfl (pc' := 31) rfl ?_
        refine wk_icmp_ne (tgt := 44) F dX1_rankWith_31 (by decide) (pc' := 34) rfl (fun c4 => ?_) (fun c4 => ?_)
        · refine wk_iconst F dX1_rankWith_44 ic_0 (pc' := 45) rfl ?_
          refine wk_istore (lv' := [(5, .int (0 : Int32)), (0, .ref (hs 0)), (1, .int p1), (2, .int p2), (3, .int x3), (4, .int (nI i))]) F dX1_rankWith_45 (Nat.le_of_ble_eq_true rfl) rfl (pc' := 47) rfl ?_
          refine wk_iload F dX1_rankWith_47 5 rfl (pc' := 49) rfl ?_
          refine wk_iload_n F dX1_rankWith_49 rfl 2 rfl (pc' := 50) rfl ?_
          refine wk_icmp_eq (tgt := 70) F dX1_rankWith_50 (by decide) (pc' := 53) rfl (fun c5 => ?_) (fun c5 => ?_)
          · refine wk_iinc (k := 5) (v := nI (i + 1)) (lv' := [(4, .int (nI (i + 1))), (5, .int (0 : Int32)), (0, .ref (hs 0)), (1, .int p1), (2, .int p2), (3, .int x3)]) F dX1_rankWith_70 rfl (nI_inc i) (Nat.le_of_ble_eq_true rfl) rfl (pc' := 73) rfl ?_
            refine wk_goto (tgt := 5) F dX1_rankWith_73 (by decide) ?_
            refine wk_lv [2, 3, 4, 5, 0] rfl ?_
            exact ih (i + 1) x3 (by omega) (fun y3_ h_ => kx y3_ (Eq.trans (by simp only [f1_rankWith_L5, if_neg c1, if_neg c4, if_pos c5]) h_))
          · refine wk_aload_n F dX1_rankWith_53 rfl 1 rfl (pc' := 54) rfl ?_
            refine wk_iload F dX1_rankWith_54 5 rfl (pc' := 56) rfl ?_
            refine wk_same_p F (c1_lives l D cI cP hs σ (nI i)) (cwV 1 F.hts gX1_rankWith_X1_lives rfl rfl rfl hdX1_lives ⟨Nat.le_of_ble_eq_true rfl, Nat.le_of_ble_eq_true rfl⟩) 0 1 rfl rfl rfl rfl (Nat.le_of_ble_eq_true rfl) dX1_rankWith_56 ⟨Nat.zero_le _, Nat.zero_le _⟩ (pc' := 59) rfl ?_
            refine wk_if_eq (tgt := 70) F dX1_rankWith_59 (by decide) (pc' := 62) rfl (fun c6 => ?_) (fun c6 => ?_)
            · refine wk_iinc (k := 5) (v := nI (i + 1)) (lv' := [(4, .int (nI (i + 1))), (5, .int (0 : Int32)), (0, .ref (hs 0)), (1, .int p1), (2, .int p2), (3, .int x3)]) F dX1_rankWith_70 rfl (nI_inc i) (Nat.le_of_ble_eq_true rfl) rfl (pc' := 73) rfl ?_
              refine wk_goto (tgt := 5) F dX1_rankWith_73 (by decide) ?_
              refine wk_lv [2, 3, 4, 5, 0] rfl ?_
              exact ih (i + 1) x3 (by omega) (fun y3_ h_ => kx y3_ (Eq.trans (by simp only [f1_rankWith_L5, if_neg c1, if_neg c4, if_neg c5, if_pos c6]) h_))
            · refine wk_iload F dX1_rankWith_62 0 rfl (pc' := 64) rfl ?_
              refine wk_if_eq (tgt := 70) F dX1_rankWith_64 (by decide) (pc' := 67) rfl (fun _ => ?_) (fun c => absurd (by decide) c)
              refine wk_iinc (k := 5) (v := nI (i + 1)) (lv' := [(4, .int (nI (i + 1))), (5, .int (0 : Int32)), (0, .ref (hs 0)), (1, .int p1), (2, .int p2), (3, .int x3)]) F dX1_rankWith_70 rfl (nI_inc i) (Nat.le_of_ble_eq_true rfl) rfl (pc' := 73) rfl ?_
              refine wk_goto (tgt := 5) F dX1_rankWith_73 (by decide) ?_
              refine wk_lv [2, 3, 4, 5, 0] rfl ?_
              exact ih (i + 1) x3 (by omega) (fun y3_ h_ => kx y3_ (Eq.trans (by simp only [f1_rankWith_L5, if_neg c1, if_neg c4, if_neg c5, if_neg c6]) h_))
        · refine wk_iload F dX1_rankWith_34 4 rfl (pc' := 36) rfl ?_
          refine wk_iload_n F dX1_rankWith_36 rfl 1 rfl (pc' := 37) rfl ?_
          refine wk_icmp_ge (tgt := 44) F dX1_rankWith_37 (by decide) (pc' := 40) rfl (fun c7 => ?_) (fun c7 => ?_)
          · refine wk_iconst F dX1_rankWith_44 ic_0 (pc' := 45) rfl ?_
            refine wk_istore (lv' := [(5, .int (0 : Int32)), (0, .ref (hs 0)), (1, .int p1), (2, .int p2), (3, .int x3), (4, .int (nI i))]) F dX1_rankWith_45 (Nat.le_of_ble_eq_true rfl) rfl (pc' := 47) rfl ?_
            refine wk_iload F dX1_rankWith_47 5 rfl (pc' := 49) rfl ?_
            refine wk_iload_n F dX1_rankWith_49 rfl 2 rfl (pc' := 50) rfl ?_
            refine wk_icmp_eq (tgt := 70) F dX1_rankWith_50 (by decide) (pc' := 53) rfl (fun c8 => ?_) (fun c8 => ?_)
            · refine wk_iinc (k := 5) (v := nI (i + 1)) (lv' := [(4, .int (nI (i + 1))), (5, .int (0 : Int32)), (0, .ref (hs 0)), (1, .int p1), (2, .int p2), (3, .int x3)]) F dX1_rankWith_70 rfl (nI_inc i) (Nat.le_of_ble_eq_true rfl) rfl (pc' := 73) rfl ?_
              refine wk_goto (tgt := 5) F dX1_rankWith_73 (by decide) ?_
              refine wk_lv [2, 3, 4, 5, 0] rfl ?_
              exact ih (i + 1) x3 (by omega) (fun y3_ h_ => kx y3_ (Eq.trans (by simp only [f1_rankWith_L5, if_neg c1, if_pos c4, if_pos c7, if_pos c8]) h_))
            · refine wk_aload_n F dX1_rankWith_53 rfl 1 rfl (pc' := 54) rfl ?_
              refine wk_iload F dX1_rankWith_54 5 rfl (pc' := 56) rfl ?_
              refine wk_same_p F (c1_lives l D cI cP hs σ (nI i)) (cwV 1 F.hts gX1_rankWith_X1_lives rfl rfl rfl hdX1_lives ⟨Nat.le_of_ble_eq_true rfl, Nat.le_of_ble_eq_true rfl⟩) 0 1 rfl rfl rfl rfl (Nat.le_of_ble_eq_true rfl) dX1_rankWith_56 ⟨Nat.zero_le _, Nat.zero_le _⟩ (pc' := 59) rfl ?_
              refine wk_if_eq (tgt := 70) F dX1_rankWith_59 (by decide) (pc' := 62) rfl (fun c9 => ?_) (fun c9 => ?_)
              · refine wk_iinc (k := 5) (v := nI (i + 1)) (lv' := [(4, .int (nI (i + 1))), (5, .int (0 : Int32)), (0, .ref (hs 0)), (1, .int p1), (2, .int p2), (3, .int x3)]) F dX1_rankWith_70 rfl (nI_inc i) (Nat.le_of_ble_eq_true rfl) rfl (pc' := 73) rfl ?_
                refine wk_goto (tgt := 5) F dX1_rankWith_73 (by decide) ?_
                refine wk_lv [2, 3, 4, 5, 0] rfl ?_
                exact ih (i + 1) x3 (by omega) (fun y3_ h_ => kx y3_ (Eq.trans (by simp only [f1_rankWith_L5, if_neg c1, if_pos c4, if_pos c7, if_neg c8, if_pos c9]) h_))
              · refine wk_iload F dX1_rankWith_62 0 rfl (pc' := 64) rfl ?_
                refine wk_if_eq (tgt := 70) F dX1_rankWith_64 (by decide) (pc' := 67) rfl (fun _ => ?_) (fun c => absurd (by decide) c)
                refine wk_iinc (k := 5) (v := nI (i + 1)) (lv' := [(4, .int (nI (i + 1))), (5, .int (0 : Int32)), (0, .ref (hs 0)), (1, .int p1), (2, .int p2), (3, .int x3)]) F dX1_rankWith_70 rfl (nI_inc i) (Nat.le_of_ble_eq_true rfl) rfl (pc' := 73) rfl ?_
                refine wk_goto (tgt := 5) F dX1_rankWith_73 (by decide) ?_
                refine wk_lv [2, 3, 4, 5, 0] rfl ?_
                exact ih (i + 1) x3 (by omega) (fun y3_ h_ => kx y3_ (Eq.trans (by simp only [f1_rankWith_L5, if_neg c1, if_pos c4, if_pos c7, if_neg c8, if_neg c9]) h_))
          · refine wk_iconst F dX1_rankWith_40 ic_1 (pc' := 41) rfl ?_
            refine wk_goto (tgt := 45) F dX1_rankWith_41 (by decide) ?_
            refine wk_istore (lv' := [(5, .int (1 : Int32)), (0, .ref (hs 0)), (1, .int p1), (2, .int p2), (3, .int x3), (4, .int (nI i))]) F dX1_rankWith_45 (Nat.le_of_ble_eq_true rfl) rfl (pc' := 47) rfl ?_
            refine wk_iload F dX1_rankWith_47 5 rfl (pc' := 49) rfl ?_
            refine wk_iload_n F dX1_rankWith_49 rfl 2 rfl (pc' := 50) rfl ?_
            refine wk_icmp_eq (tgt := 70) F dX1_rankWith_50 (by decide) (pc' := 53) rfl (fun c10 => ?_) (fun c10 => ?_)
            · refine wk_iinc (k := 5) (v := nI (i + 1)) (lv' := [(4, .int (nI (i + 1))), (5, .int (1 : Int32)), (0, .ref (hs 0)), (1, .int p1), (2, .int p2), (3, .int x3)]) F dX1_rankWith_70 rfl (nI_inc i) (Nat.le_of_ble_eq_true rfl) rfl (pc' := 73) rfl ?_
              refine wk_goto (tgt := 5) F dX1_rankWith_73 (by decide) ?_
              refine wk_lv [2, 3, 4, 5, 0] rfl ?_
              exact ih (i + 1) x3 (by omega) (fun y3_ h_ => kx y3_ (Eq.trans (by simp only [f1_rankWith_L5, if_neg c1, if_pos c4, if_neg c7, if_pos c10]) h_))
            · refine wk_aload_n F dX1_rankWith_53 rfl 1 rfl (pc' := 54) rfl ?_
              refine wk_iload F dX1_rankWith_54 5 rfl (pc' := 56) rfl ?_
              refine wk_same_p F (c1_lives l D cI cP hs σ (nI i)) (cwV 1 F.hts gX1_rankWith_X1_lives rfl rfl rfl hdX1_lives ⟨Nat.le_of_ble_eq_true rfl, Nat.le_of_ble_eq_true rfl⟩) 0 1 rfl rfl rfl rfl (Nat.le_of_ble_eq_true rfl) dX1_rankWith_56 ⟨Nat.zero_le _, Nat.zero_le _⟩ (pc' := 59) rfl ?_
              refine wk_if_eq (tgt := 70) F dX1_rankWith_59 (by decide) (pc' := 62) rfl (fun c11 => ?_) (fun c11 => ?_)
              · refine wk_iinc (k := 5) (v := nI (i + 1)) (lv' := [(4, .int (nI (i + 1))), (5, .int (1 : Int32)), (0, .ref (hs 0)), (1, .int p1), (2, .int p2), (3, .int x3)]) F dX1_rankWith_70 rfl (nI_inc i) (Nat.le_of_ble_eq_true rfl) rfl (pc' := 73) rfl ?_
                refine wk_goto (tgt := 5) F dX1_rankWith_73 (by decide) ?_
                refine wk_lv [2, 3, 4, 5, 0] rfl ?_
                exact ih (i + 1) x3 (by omega) (fun y3_ h_ => kx y3_ (Eq.trans (by simp only [f1_rankWith_L5, if_neg c1, if_pos c4, if_neg c7, if_neg c10, if_pos c11]) h_))
              · refine wk_iload F dX1_rankWith_62 0 rfl (pc' := 64) rfl ?_
                refine wk_if_eq (tgt := 70) F dX1_rankWith_64 (by decide) (pc' := 67) rfl (fun c => absurd c (by decide)) (fun _ => ?_)
                refine wk_iinc (k := 4) (v := x3 + 1) (lv' := [(3, .int (x3 + 1)), (5, .int (1 : Int32)), (0, .ref (hs 0)), (1, .int p1), (2, .int p2), (4, .int (nI i))]) F dX1_rankWith_67 rfl rfl (Nat.le_of_ble_eq_true rfl) rfl (pc' := 70) rfl ?_
                refine wk_iinc (k := 5) (v := nI (i + 1)) (lv' := [(4, .int (nI (i + 1))), (3, .int (x3 + 1)), (5, .int (1 : Int32)), (0, .ref (hs 0)), (1, .int p1), (2, .int p2)]) F dX1_rankWith_70 rfl (nI_inc i) (Nat.le_of_ble_eq_true rfl) rfl (pc' := 73) rfl ?_
                refine wk_goto (tgt := 5) F dX1_rankWith_73 (by decide) ?_
                refine wk_lv [3, 4, 5, 1, 0] rfl ?_
                exact ih (i + 1) (x3 + 1) (by omega) (fun y3_ h_ => kx y3_ (Eq.trans (by simp only [f1_rankWith_L5, if_neg c1, if_pos c4, if_neg c7, if_neg c10, if_neg c11]) h_))
  refine wk_iconst F dX1_rankWith_0 ic_0 (pc' := 1) rfl ?_
  refine wk_istore_n (lv' := [(3, .int (0 : Int32)), (0, .ref (hs 0)), (1, .int p1), (2, .int p2)]) F dX1_rankWith_1 rfl (Nat.le_of_ble_eq_true rfl) rfl (pc' := 2) rfl ?_
  refine wk_iconst F dX1_rankWith_2 ic_0 (pc' := 3) rfl ?_
  refine wk_istore (lv' := [(4, .int (0 : Int32)), (3, .int (0 : Int32)), (0, .ref (hs 0)), (1, .int p1), (2, .int p2)]) F dX1_rankWith_3 (Nat.le_of_ble_eq_true rfl) rfl (pc' := 5) rfl ?_
  refine wk_lv [2, 3, 4, 1, 0] rfl ?_
  refine L5 8 0 (0 : Int32) (by omega) (fun y13 h12 => ?_)
  refine wk_iload_n F dX1_rankWith_76 rfl 0 rfl (pc' := 77) rfl ?_
  exact hret _ _ _ dX1_rankWith_77 rfl (by simp only [f1_rankWith, h12])
def f1_volumeWithRank_L2 (σ : PS) (p1 : Int32) : Nat → Nat → Int32
  | 0, i => (-1000004 : Int32)
  | n + 1, i => (if (f1_lives σ (nI i)) = 0 then f1_volumeWithRank_L2 σ p1 n (i + 1) else (if (f1_rankWith σ (nI i) (σ 1 i)) = p1 then nI i else f1_volumeWithRank_L2 σ p1 n (i + 1)))
def f1_volumeWithRank (σ : PS) (p1 : Int32) : Int32 := f1_volumeWithRank_L2 σ p1 8 0
set_option maxHeartbeats 4000000 in
set_option maxRecDepth 100000 in
theorem c1_volumeWithRank (l : Launch) (D : va_G) (cI cP : ClassId) (hs : Nat → Nat) (σ : PS) (p1 : Int32) : CP l yX1_volumeWithRank wsX1_volumeWithRank ({ frames := 2, cells := 0, slots := 0, locals := 46 } : Room) D (cty cI cP) (wPool cI hs) σ [.ref (hs 0), .int p1] (f1_volumeWithRank σ p1) := by
  refine CP.of (cc := cX1_volumeWithRank) (maxL := 3) (rt := .int) (own := RX1) (lv0 := [(0, .ref (hs 0)), (1, .int p1)]) pnX1 rfl rfl (Nat.le_of_ble_eq_true rfl) rfl (fun p e s m args below meth c A Q F hret => ?_)
  have w_2 := F.at (x := Cond.constant RX1 112 (-1000004)) 2 rfl
  have w_1 := F.at (x := Cond.fieldLink RX1 15 "ThinVolumes$Pool" "manners" "[I") 1 rfl
  have k_1 : ∀ w ∈ wsX10, w ∈ wsX1_volumeWithRank := fun _ h => List.mem_cons_of_mem _ (List.mem_append_right _ (h))
  have L2 : ∀ (n : Nat) (i : Nat), i + n = 8 → f1_volumeWithRank_L2 σ p1 n i = f1_volumeWithRank σ p1 → Wk p l e ({ frames := 2, cells := 0, slots := 0, locals := 46 } : Room) s m args below meth c 3 D A 0 0 Q (wPool cI hs σ) [(0, .ref (hs 0)), (1, .int p1), (2, .int (nI i))] 2 [] := by
    intro n
    induction n with
    | zero =>
      intro i hi hp
      refine wk_iload_n F dX1_volumeWithRank_2 rfl 2 rfl (pc' := 3) rfl ?_
      refine wk_bipush F dX1_volumeWithRank_3 bp_8 (pc' := 5) rfl ?_
      refine wk_icmp_ge (tgt := 39) F dX1_volumeWithRank_5 (by decide) (pc' := 8) rfl (fun _ => ?_) (fun c => absurd ((nI_leI (a := 8) (b := i) (by omega) (by omega)).mpr (by omega)) c)
      refine wk_ldc F dX1_volumeWithRank_39 w_2 (pc' := 41) rfl ?_
      exact hret _ _ _ dX1_volumeWithRank_41 rfl (Eq.trans (by simp only [f1_volumeWithRank_L2]) hp)
    | succ n ih =>
      intro i hi hp
      refine wk_iload_n F dX1_volumeWithRank_2 rfl 2 rfl (pc' := 3) rfl ?_
      refine wk_bipush F dX1_volumeWithRank_3 bp_8 (pc' := 5) rfl ?_
      refine wk_icmp_ge (tgt := 39) F dX1_volumeWithRank_5 (by decide) (pc' := 8) rfl (fun c => absurd ((nI_leI (a := 8) (b := i) (by omega) (by omega)).mp c) (by omega)) (fun _ => ?_)
      refine wk_aload_n F dX1_volumeWithRank_8 rfl 0 rfl (pc' := 9) rfl ?_
      refine wk_iload_n F dX1_volumeWithRank_9 rfl 2 rfl (pc' := 10) rfl ?_
      refine wk_same_p F (c1_lives l D cI cP hs σ (nI i)) (cwV 1 F.hts gX1_volumeWithRank_X1_lives rfl rfl rfl hdX1_lives ⟨Nat.le_of_ble_eq_true rfl, Nat.le_of_ble_eq_true rfl⟩) 0 1 rfl rfl rfl rfl (Nat.le_of_ble_eq_true rfl) dX1_volumeWithRank_10 ⟨Nat.zero_le _, Nat.zero_le _⟩ (pc' := 13) rfl ?_
      refine wk_if_eq (tgt := 33) F dX1_volumeWithRank_13 (by decide) (pc' := 16) rfl (fun c1 => ?_) (fun c1 => ?_)
      · refine wk_iinc (k := 2) (v := nI (i + 1)) (lv' := [(2, .int (nI (i + 1))), (0, .ref (hs 0)), (1, .int p1)]) F dX1_volumeWithRank_33 rfl (nI_inc i) (Nat.le_of_ble_eq_true rfl) rfl (pc' := 36) rfl ?_
        refine wk_goto (tgt := 2) F dX1_volumeWithRank_36 (by decide) ?_
        refine wk_lv [1, 2, 0] rfl ?_
        exact ih (i + 1) (by omega) (Eq.trans (Eq.symm (by simp only [f1_volumeWithRank_L2, if_pos c1])) hp)
      · refine wk_aload_n F dX1_volumeWithRank_16 rfl 0 rfl (pc' := 17) rfl ?_
        refine wk_iload_n F dX1_volumeWithRank_17 rfl 2 rfl (pc' := 18) rfl ?_
        refine wk_aload_n F dX1_volumeWithRank_18 rfl 0 rfl (pc' := 19) rfl ?_
        refine wk_get (C := RX1) (T := TX1) (N := 14) F 0 rfl rfl k_1 1 (Nat.le_of_ble_eq_true rfl) w_1 rfl dX1_volumeWithRank_19 (pc' := 22) rfl ?_
        refine wk_iload_n F dX1_volumeWithRank_22 rfl 2 rfl (pc' := 23) rfl ?_
        refine wk_iald_n (i := i) F 2 0 rfl rfl (by omega) (Nat.le_of_ble_eq_true rfl) dX1_volumeWithRank_23 (pc' := 24) rfl ?_
        refine wk_same_p F (c1_rankWith l D cI cP hs σ (nI i) (σ 1 i)) (cwV 2 F.hts gX1_volumeWithRank_X1_rankWith rfl rfl rfl hdX1_rankWith ⟨Nat.le_of_ble_eq_true rfl, Nat.le_of_ble_eq_true rfl⟩) 0 1 rfl rfl rfl rfl (Nat.le_of_ble_eq_true rfl) dX1_volumeWithRank_24 ⟨Nat.zero_le _, Nat.zero_le _⟩ (pc' := 27) rfl ?_
        refine wk_iload_n F dX1_volumeWithRank_27 rfl 1 rfl (pc' := 28) rfl ?_
        refine wk_icmp_ne (tgt := 33) F dX1_volumeWithRank_28 (by decide) (pc' := 31) rfl (fun c2 => ?_) (fun c2 => ?_)
        · refine wk_iinc (k := 2) (v := nI (i + 1)) (lv' := [(2, .int (nI (i + 1))), (0, .ref (hs 0)), (1, .int p1)]) F dX1_volumeWithRank_33 rfl (nI_inc i) (Nat.le_of_ble_eq_true rfl) rfl (pc' := 36) rfl ?_
          refine wk_goto (tgt := 2) F dX1_volumeWithRank_36 (by decide) ?_
          refine wk_lv [1, 2, 0] rfl ?_
          exact ih (i + 1) (by omega) (Eq.trans (Eq.symm (by simp only [f1_volumeWithRank_L2, if_neg c1, if_neg c2])) hp)
        · refine wk_iload_n F dX1_volumeWithRank_31 rfl 2 rfl (pc' := 32) rfl ?_
          exact hret _ _ _ dX1_volumeWithRank_32 rfl (Eq.trans (by simp only [f1_volumeWithRank_L2, if_neg c1, if_pos c2]) hp)
  refine wk_iconst F dX1_volumeWithRank_0 ic_0 (pc' := 1) rfl ?_
  refine wk_istore_n (lv' := [(2, .int (0 : Int32)), (0, .ref (hs 0)), (1, .int p1)]) F dX1_volumeWithRank_1 rfl (Nat.le_of_ble_eq_true rfl) rfl (pc' := 2) rfl ?_
  refine wk_lv [1, 2, 0] rfl ?_
  exact L2 8 0 (by omega) (by simp only [f1_volumeWithRank])
def f1_wouldGetUnpromised (σ : PS) (p1 : Int32) (p2 : Int32) (p3 : Int32) : Int32 := (if 0 < p3 then (if (f1_levelWith σ p3) = (2 : Int32) then (if (f1_rankWith σ p1 p2) = 0 then (1 : Int32) else (0 : Int32)) else (if (f1_levelWith σ p3) = 0 then (1 : Int32) else (if p2 < (σ 9 2) then (0 : Int32) else (1 : Int32)))) else (0 : Int32))
set_option maxHeartbeats 4000000 in
set_option maxRecDepth 100000 in
theorem c1_wouldGetUnpromised (l : Launch) (D : va_G) (cI cP : ClassId) (hs : Nat → Nat) (σ : PS) (p1 : Int32) (p2 : Int32) (p3 : Int32) : CP l yX1_wouldGetUnpromised wsX1_wouldGetUnpromised ({ frames := 2, cells := 0, slots := 0, locals := 46 } : Room) D (cty cI cP) (wPool cI hs) σ [.ref (hs 0), .int p1, .int p2, .int p3] (f1_wouldGetUnpromised σ p1 p2 p3) := by
  refine CP.of (cc := cX1_wouldGetUnpromised) (maxL := 5) (rt := .boolean) (own := RX1) (lv0 := [(0, .ref (hs 0)), (1, .int p1), (2, .int p2), (3, .int p3)]) pnX1 rfl rfl (Nat.le_of_ble_eq_true rfl) rfl (fun p e s m args below meth c A Q F hret => ?_)
  have w_1 := F.at (x := Cond.fieldLink RX1 39 "ThinVolumes$Pool" "settings" "[I") 1 rfl
  have k_1 : ∀ w ∈ wsX10, w ∈ wsX1_wouldGetUnpromised := fun _ h => List.mem_cons_of_mem _ (List.mem_append_right _ (h))
  refine wk_iload_n F dX1_wouldGetUnpromised_0 rfl 3 rfl (pc' := 1) rfl ?_
  refine wk_if_gt (tgt := 6) F dX1_wouldGetUnpromised_1 (by decide) (pc' := 4) rfl (fun c1 => ?_) (fun c1 => ?_)
  · refine wk_aload_n F dX1_wouldGetUnpromised_6 rfl 0 rfl (pc' := 7) rfl ?_
    refine wk_iload_n F dX1_wouldGetUnpromised_7 rfl 3 rfl (pc' := 8) rfl ?_
    refine wk_same_p F (c1_levelWith l D cI cP hs σ p3) (cwV 1 F.hts gX1_wouldGetUnpromised_X1_levelWith rfl rfl rfl hdX1_levelWith ⟨Nat.le_of_ble_eq_true rfl, Nat.le_of_ble_eq_true rfl⟩) 0 1 rfl rfl rfl rfl (Nat.le_of_ble_eq_true rfl) dX1_wouldGetUnpromised_8 ⟨Nat.zero_le _, Nat.zero_le _⟩ (pc' := 11) rfl ?_
    refine wk_istore (lv' := [(4, .int (f1_levelWith σ p3)), (0, .ref (hs 0)), (1, .int p1), (2, .int p2), (3, .int p3)]) F dX1_wouldGetUnpromised_11 (Nat.le_of_ble_eq_true rfl) rfl (pc' := 13) rfl ?_
    refine wk_iload F dX1_wouldGetUnpromised_13 0 rfl (pc' := 15) rfl ?_
    refine wk_iconst F dX1_wouldGetUnpromised_15 ic_2 (pc' := 16) rfl ?_
    refine wk_icmp_ne (tgt := 34) F dX1_wouldGetUnpromised_16 (by decide) (pc' := 19) rfl (fun c2 => ?_) (fun c2 => ?_)
    · refine wk_iload F dX1_wouldGetUnpromised_34 0 rfl (pc' := 36) rfl ?_
      refine wk_if_eq (tgt := 49) F dX1_wouldGetUnpromised_36 (by decide) (pc' := 39) rfl (fun c3 => ?_) (fun c3 => ?_)
      · refine wk_iconst F dX1_wouldGetUnpromised_49 ic_1 (pc' := 50) rfl ?_
        refine wk_goto (tgt := 54) F dX1_wouldGetUnpromised_50 (by decide) ?_
        exact hret _ _ _ dX1_wouldGetUnpromised_54 rfl (by simp only [f1_wouldGetUnpromised, if_pos c1, if_neg c2, if_pos c3])
      · refine wk_iload_n F dX1_wouldGetUnpromised_39 rfl 3 rfl (pc' := 40) rfl ?_
        refine wk_aload_n F dX1_wouldGetUnpromised_40 rfl 1 rfl (pc' := 41) rfl ?_
        refine wk_get (C := RX1) (T := TX1) (N := 14) F 0 rfl rfl k_1 9 (Nat.le_of_ble_eq_true rfl) w_1 rfl dX1_wouldGetUnpromised_41 (pc' := 44) rfl ?_
        refine wk_iconst F dX1_wouldGetUnpromised_44 ic_2 (pc' := 45) rfl ?_
        refine wk_iald_n (i := 2) F 10 0 rfl rfl (by omega) (Nat.le_of_ble_eq_true rfl) dX1_wouldGetUnpromised_45 (pc' := 46) rfl ?_
        refine wk_icmp_lt (tgt := 53) F dX1_wouldGetUnpromised_46 (by decide) (pc' := 49) rfl (fun c4 => ?_) (fun c4 => ?_)
        · refine wk_iconst F dX1_wouldGetUnpromised_53 ic_0 (pc' := 54) rfl ?_
          exact hret _ _ _ dX1_wouldGetUnpromised_54 rfl (by simp only [f1_wouldGetUnpromised, if_pos c1, if_neg c2, if_neg c3, if_pos c4])
        · refine wk_iconst F dX1_wouldGetUnpromised_49 ic_1 (pc' := 50) rfl ?_
          refine wk_goto (tgt := 54) F dX1_wouldGetUnpromised_50 (by decide) ?_
          exact hret _ _ _ dX1_wouldGetUnpromised_54 rfl (by simp only [f1_wouldGetUnpromised, if_pos c1, if_neg c2, if_neg c3, if_neg c4])
    · refine wk_aload_n F dX1_wouldGetUnpromised_19 rfl 1 rfl (pc' := 20) rfl ?_
      refine wk_iload_n F dX1_wouldGetUnpromised_20 rfl 2 rfl (pc' := 21) rfl ?_
      refine wk_iload_n F dX1_wouldGetUnpromised_21 rfl 3 rfl (pc' := 22) rfl ?_
      refine wk_same_p F (c1_rankWith l D cI cP hs σ p1 p2) (cwV 2 F.hts gX1_wouldGetUnpromised_X1_rankWith rfl rfl rfl hdX1_rankWith ⟨Nat.le_of_ble_eq_true rfl, Nat.le_of_ble_eq_true rfl⟩) 0 1 rfl rfl rfl rfl (Nat.le_of_ble_eq_true rfl) dX1_wouldGetUnpromised_22 ⟨Nat.zero_le _, Nat.zero_le _⟩ (pc' := 25) rfl ?_
      refine wk_if_ne (tgt := 32) F dX1_wouldGetUnpromised_25 (by decide) (pc' := 28) rfl (fun c5 => ?_) (fun c5 => ?_)
      · refine wk_iconst F dX1_wouldGetUnpromised_32 ic_0 (pc' := 33) rfl ?_
        exact hret _ _ _ dX1_wouldGetUnpromised_33 rfl (by simp only [f1_wouldGetUnpromised, if_pos c1, if_pos c2, if_neg c5])
      · refine wk_iconst F dX1_wouldGetUnpromised_28 ic_1 (pc' := 29) rfl ?_
        refine wk_goto (tgt := 33) F dX1_wouldGetUnpromised_29 (by decide) ?_
        exact hret _ _ _ dX1_wouldGetUnpromised_33 rfl (by simp only [f1_wouldGetUnpromised, if_pos c1, if_pos c2, if_pos c5])
  · refine wk_iconst F dX1_wouldGetUnpromised_4 ic_0 (pc' := 5) rfl ?_
    exact hret _ _ _ dX1_wouldGetUnpromised_5 rfl (by simp only [f1_wouldGetUnpromised, if_neg c1])
def f1_mannersBehindUnpromised (σ : PS) (p1 : Int32) (p2 : Int32) : Int32 := (if p2 = 0 then p1 else if (p1 - (3 : Int32)) < (0 : Int32) then (0 : Int32) else (p1 - (3 : Int32)))
set_option maxHeartbeats 4000000 in
set_option maxRecDepth 100000 in
theorem c1_mannersBehindUnpromised (l : Launch) (D : va_G) (cI cP : ClassId) (hs : Nat → Nat) (σ : PS) (p1 : Int32) (p2 : Int32) : CP l yX1_mannersBehindUnpromised wsX1_mannersBehindUnpromised ({ frames := 1, cells := 0, slots := 0, locals := 13 } : Room) D (cty cI cP) (wPool cI hs) σ [.ref (hs 0), .int p1, .int p2] (f1_mannersBehindUnpromised σ p1 p2) := by
  refine CP.of (cc := cX1_mannersBehindUnpromised) (maxL := 3) (rt := .int) (own := RX1) (lv0 := [(0, .ref (hs 0)), (1, .int p1), (2, .int p2)]) pnX1 rfl rfl (Nat.le_of_ble_eq_true rfl) rfl (fun p e s m args below meth c A Q F hret => ?_)
  have w_1 := F.at (x := Cond.methodLink RX1 91 Lib.Math.max.name) 1 rfl
  have w_2 := F.at (x := Cond.static Lib.Math.max.name) 2 rfl
  have w_3 := F.at (x := Cond.initialized "java/lang/Math") 3 rfl
  have w_4 := F.at (x := Cond.code Lib.Math.max.name Lib.Math.max.code 2 (some .int)) 4 rfl
  refine wk_iload_n F dX1_mannersBehindUnpromised_0 rfl 2 rfl (pc' := 1) rfl ?_
  refine wk_if_ne (tgt := 8) F dX1_mannersBehindUnpromised_1 (by decide) (pc' := 4) rfl (fun c1 => ?_) (fun c1 => ?_)
  · refine wk_iload_n F dX1_mannersBehindUnpromised_8 rfl 1 rfl (pc' := 9) rfl ?_
    refine wk_iconst F dX1_mannersBehindUnpromised_9 ic_3 (pc' := 10) rfl ?_
    refine wk_isub F dX1_mannersBehindUnpromised_10 (pc' := 11) rfl ?_
    refine wk_iconst F dX1_mannersBehindUnpromised_11 ic_0 (pc' := 12) rfl ?_
    refine wk_mmax F w_1 w_2 w_3 w_4 (Nat.le_of_ble_eq_true rfl) (Nat.le_of_ble_eq_true rfl) (Nat.zero_le _) (Nat.zero_le _) dX1_mannersBehindUnpromised_12 (pc' := 15) rfl ?_
    exact hret _ _ _ dX1_mannersBehindUnpromised_15 rfl (by simp only [f1_mannersBehindUnpromised, if_neg c1])
  · refine wk_iload_n F dX1_mannersBehindUnpromised_4 rfl 1 rfl (pc' := 5) rfl ?_
    refine wk_goto (tgt := 15) F dX1_mannersBehindUnpromised_5 (by decide) ?_
    exact hret _ _ _ dX1_mannersBehindUnpromised_15 rfl (by simp only [f1_mannersBehindUnpromised, if_pos c1])
theorem le_clamp (x : Int32) : x.toInt ≤ (x.toNatClampNeg : Int) := by
  show x.toInt ≤ ((x.toInt.toNat : Nat) : Int)
  omega
theorem le0_of {x : Int32} (h : x.toInt ≤ 0) : x ≤ 0 := Int32.le_iff_toInt_le.mpr h
theorem dec_le {x : Int32} {n : Nat} (h : ¬ x ≤ 0) (hx : x.toInt ≤ ((n + 1 : Nat) : Int)) : (x + (-1)).toInt ≤ (n : Int) := by
  have h1 : ¬ x < 0 := fun q => h (Int32.le_of_lt q)
  obtain ⟨j, hj, rfl⟩ := nI_of h1
  have hj0 : 0 < j := by
    rcases Nat.eq_zero_or_pos j with rfl | q
    · exact absurd (Int32.le_refl 0) h
    · exact q
  rw [nI_toInt hj] at hx
  have e : nI j + (-1) = nI (j - 1) := nI_dec hj0
  rw [e, nI_toInt (by omega)]
  omega
def f1_piecesInReach_L30 (σ : PS) (p1 : Int32) : Nat → Int32 → Int32 → Int32 → Int32
  | 0, x2, x3, x4 => x2
  | n + 1, x2, x3, x4 => (if x4 ≤ 0 then x2 else (if (f1_wouldGetUnpromised σ p1 x3 x4) = 0 then x2 else f1_piecesInReach_L30 σ p1 n (x2 + 1) (f1_mannersBehindUnpromised σ x3 (f1_levelWith σ x4)) (x4 + (-1))))
def f1_piecesInReach (σ : PS) (p1 : Int32) : Int32 := (if (f1_lives σ p1) = 0 then (0 : Int32) else f1_piecesInReach_L30 σ p1 ((f1_available σ).toNatClampNeg) (σ 2 p1.toNatClampNeg) (σ 1 p1.toNatClampNeg) (f1_available σ))
set_option maxHeartbeats 4000000 in
set_option maxRecDepth 100000 in
theorem c1_piecesInReach (l : Launch) (D : va_G) (cI cP : ClassId) (hs : Nat → Nat) (σ : PS) (p1 : Int32) : CP l yX1_piecesInReach wsX1_piecesInReach ({ frames := 3, cells := 0, slots := 0, locals := 70 } : Room) D (cty cI cP) (wPool cI hs) σ [.ref (hs 0), .int p1] (f1_piecesInReach σ p1) := by
  refine CP.of (cc := cX1_piecesInReach) (maxL := 5) (rt := .int) (own := RX1) (lv0 := [(0, .ref (hs 0)), (1, .int p1)]) pnX1 rfl rfl (Nat.le_of_ble_eq_true rfl) rfl (fun p e s m args below meth c A Q F hret => ?_)
  have w_1 := F.at (x := Cond.fieldLink RX1 18 "ThinVolumes$Pool" "promises" "[I") 1 rfl
  have w_2 := F.at (x := Cond.fieldLink RX1 15 "ThinVolumes$Pool" "manners" "[I") 2 rfl
  have k_1 : ∀ w ∈ wsX10, w ∈ wsX1_piecesInReach := fun _ h => List.mem_cons_of_mem _ (List.mem_append_right _ (h))
  have L30 : ∀ (n : Nat) (x2 : Int32) (x3 : Int32) (x4 : Int32), x4.toInt ≤ (n : Int) → f1_piecesInReach_L30 σ p1 n x2 x3 x4 = f1_piecesInReach σ p1 → Wk p l e ({ frames := 3, cells := 0, slots := 0, locals := 70 } : Room) s m args below meth c 5 D A 0 0 Q (wPool cI hs σ) [(0, .ref (hs 0)), (1, .int p1), (2, .int x2), (3, .int x3), (4, .int x4)] 30 [] := by
    intro n
    induction n with
    | zero =>
      intro x2 x3 x4 hv0 hp
      refine wk_iload F dX1_piecesInReach_30 4 rfl (pc' := 32) rfl ?_
      refine wk_if_le (tgt := 69) F dX1_piecesInReach_32 (by decide) (pc' := 35) rfl (fun _ => ?_) (fun c => absurd (le0_of hv0) c)
      refine wk_iload_n F dX1_piecesInReach_69 rfl 2 rfl (pc' := 70) rfl ?_
      exact hret _ _ _ dX1_piecesInReach_70 rfl (Eq.trans (by simp only [f1_piecesInReach_L30]) hp)
    | succ n ih =>
      intro x2 x3 x4 hv0 hp
      refine wk_iload F dX1_piecesInReach_30 4 rfl (pc' := 32) rfl ?_
      refine wk_if_le (tgt := 69) F dX1_piecesInReach_32 (by decide) (pc' := 35) rfl (fun c1 => ?_) (fun c1 => ?_)
      · refine wk_iload_n F dX1_piecesInReach_69 rfl 2 rfl (pc' := 70) rfl ?_
        exact hret _ _ _ dX1_piecesInReach_70 rfl (Eq.trans (by simp only [f1_piecesInReach_L30, if_pos c1]) hp)
      · refine wk_aload_n F dX1_piecesInReach_35 rfl 0 rfl (pc' := 36) rfl ?_
        refine wk_iload_n F dX1_piecesInReach_36 rfl 1 rfl (pc' := 37) rfl ?_
        refine wk_iload_n F dX1_piecesInReach_37 rfl 3 rfl (pc' := 38) rfl ?_
        refine wk_iload F dX1_piecesInReach_38 4 rfl (pc' := 40) rfl ?_
        refine wk_same_p F (c1_wouldGetUnpromised l D cI cP hs σ p1 x3 x4) (cwV 3 F.hts gX1_piecesInReach_X1_wouldGetUnpromised rfl rfl rfl hdX1_wouldGetUnpromised ⟨Nat.le_of_ble_eq_true rfl, Nat.le_of_ble_eq_true rfl⟩) 0 1 rfl rfl rfl rfl (Nat.le_of_ble_eq_true rfl) dX1_piecesInReach_40 ⟨Nat.zero_le _, Nat.zero_le _⟩ (pc' := 43) rfl ?_
        refine wk_if_ne (tgt := 48) F dX1_piecesInReach_43 (by decide) (pc' := 46) rfl (fun c2 => ?_) (fun c2 => ?_)
        · refine wk_aload_n F dX1_piecesInReach_48 rfl 0 rfl (pc' := 49) rfl ?_
          refine wk_iload_n F dX1_piecesInReach_49 rfl 3 rfl (pc' := 50) rfl ?_
          refine wk_aload_n F dX1_piecesInReach_50 rfl 0 rfl (pc' := 51) rfl ?_
          refine wk_iload F dX1_piecesInReach_51 4 rfl (pc' := 53) rfl ?_
          refine wk_same_p F (c1_levelWith l D cI cP hs σ x4) (cwV 1 F.hts gX1_piecesInReach_X1_levelWith rfl rfl rfl hdX1_levelWith ⟨Nat.le_of_ble_eq_true rfl, Nat.le_of_ble_eq_true rfl⟩) 0 1 rfl rfl rfl rfl (Nat.le_of_ble_eq_true rfl) dX1_piecesInReach_53 ⟨Nat.zero_le _, Nat.zero_le _⟩ (pc' := 56) rfl ?_
          refine wk_same_p F (c1_mannersBehindUnpromised l D cI cP hs σ x3 (f1_levelWith σ x4)) (cwV 2 F.hts gX1_piecesInReach_X1_mannersBehindUnpromised rfl rfl rfl hdX1_mannersBehindUnpromised ⟨Nat.le_of_ble_eq_true rfl, Nat.le_of_ble_eq_true rfl⟩) 0 1 rfl rfl rfl rfl (Nat.le_of_ble_eq_true rfl) dX1_piecesInReach_56 ⟨Nat.zero_le _, Nat.zero_le _⟩ (pc' := 59) rfl ?_
          refine wk_istore_n (lv' := [(3, .int (f1_mannersBehindUnpromised σ x3 (f1_levelWith σ x4))), (0, .ref (hs 0)), (1, .int p1), (2, .int x2), (4, .int x4)]) F dX1_piecesInReach_59 rfl (Nat.le_of_ble_eq_true rfl) rfl (pc' := 60) rfl ?_
          refine wk_iinc (k := 3) (v := x2 + 1) (lv' := [(2, .int (x2 + 1)), (3, .int (f1_mannersBehindUnpromised σ x3 (f1_levelWith σ x4))), (0, .ref (hs 0)), (1, .int p1), (4, .int x4)]) F dX1_piecesInReach_60 rfl rfl (Nat.le_of_ble_eq_true rfl) rfl (pc' := 63) rfl ?_
          refine wk_iinc (k := 4) (v := x4 + (-1)) (lv' := [(4, .int (x4 + (-1))), (2, .int (x2 + 1)), (3, .int (f1_mannersBehindUnpromised σ x3 (f1_levelWith σ x4))), (0, .ref (hs 0)), (1, .int p1)]) F dX1_piecesInReach_63 rfl rfl (Nat.le_of_ble_eq_true rfl) rfl (pc' := 66) rfl ?_
          refine wk_goto (tgt := 30) F dX1_piecesInReach_66 (by decide) ?_
          refine wk_lv [3, 4, 1, 2, 0] rfl ?_
          exact ih (x2 + 1) (f1_mannersBehindUnpromised σ x3 (f1_levelWith σ x4)) (x4 + (-1)) (dec_le c1 hv0) (Eq.trans (Eq.symm (by simp only [f1_piecesInReach_L30, if_neg c1, if_neg c2])) hp)
        · refine wk_iload_n F dX1_piecesInReach_46 rfl 2 rfl (pc' := 47) rfl ?_
          exact hret _ _ _ dX1_piecesInReach_47 rfl (Eq.trans (by simp only [f1_piecesInReach_L30, if_neg c1, if_pos c2]) hp)
  refine wk_aload_n F dX1_piecesInReach_0 rfl 0 rfl (pc' := 1) rfl ?_
  refine wk_iload_n F dX1_piecesInReach_1 rfl 1 rfl (pc' := 2) rfl ?_
  refine wk_same_p F (c1_lives l D cI cP hs σ p1) (cwV 1 F.hts gX1_piecesInReach_X1_lives rfl rfl rfl hdX1_lives ⟨Nat.le_of_ble_eq_true rfl, Nat.le_of_ble_eq_true rfl⟩) 0 1 rfl rfl rfl rfl (Nat.le_of_ble_eq_true rfl) dX1_piecesInReach_2 ⟨Nat.zero_le _, Nat.zero_le _⟩ (pc' := 5) rfl ?_
  refine wk_if_ne (tgt := 10) F dX1_piecesInReach_5 (by decide) (pc' := 8) rfl (fun c3 => ?_) (fun c3 => ?_)
  · refine wk_aload_n F dX1_piecesInReach_10 rfl 0 rfl (pc' := 11) rfl ?_
    refine wk_get (C := RX1) (T := TX1) (N := 14) F 0 rfl rfl k_1 2 (Nat.le_of_ble_eq_true rfl) w_1 rfl dX1_piecesInReach_11 (pc' := 14) rfl ?_
    refine wk_iload_n F dX1_piecesInReach_14 rfl 1 rfl (pc' := 15) rfl ?_
    refine wk_iald F 3 0 rfl rfl (lives_in c3) dX1_piecesInReach_15 (pc' := 16) rfl ?_
    refine wk_istore_n (lv' := [(2, .int (σ 2 p1.toNatClampNeg)), (0, .ref (hs 0)), (1, .int p1)]) F dX1_piecesInReach_16 rfl (Nat.le_of_ble_eq_true rfl) rfl (pc' := 17) rfl ?_
    refine wk_aload_n F dX1_piecesInReach_17 rfl 1 rfl (pc' := 18) rfl ?_
    refine wk_get (C := RX1) (T := TX1) (N := 14) F 0 rfl rfl k_1 1 (Nat.le_of_ble_eq_true rfl) w_2 rfl dX1_piecesInReach_18 (pc' := 21) rfl ?_
    refine wk_iload_n F dX1_piecesInReach_21 rfl 2 rfl (pc' := 22) rfl ?_
    refine wk_iald F 2 0 rfl rfl (lives_in c3) dX1_piecesInReach_22 (pc' := 23) rfl ?_
    refine wk_istore_n (lv' := [(3, .int (σ 1 p1.toNatClampNeg)), (2, .int (σ 2 p1.toNatClampNeg)), (0, .ref (hs 0)), (1, .int p1)]) F dX1_piecesInReach_23 rfl (Nat.le_of_ble_eq_true rfl) rfl (pc' := 24) rfl ?_
    refine wk_aload_n F dX1_piecesInReach_24 rfl 2 rfl (pc' := 25) rfl ?_
    refine wk_same_p F (c1_available l D cI cP hs σ) (cwV 0 F.hts gX1_piecesInReach_X1_available rfl rfl rfl hdX1_available ⟨Nat.le_of_ble_eq_true rfl, Nat.le_of_ble_eq_true rfl⟩) 0 1 rfl rfl rfl rfl (Nat.le_of_ble_eq_true rfl) dX1_piecesInReach_25 ⟨Nat.zero_le _, Nat.zero_le _⟩ (pc' := 28) rfl ?_
    refine wk_istore (lv' := [(4, .int (f1_available σ)), (3, .int (σ 1 p1.toNatClampNeg)), (2, .int (σ 2 p1.toNatClampNeg)), (0, .ref (hs 0)), (1, .int p1)]) F dX1_piecesInReach_28 (Nat.le_of_ble_eq_true rfl) rfl (pc' := 30) rfl ?_
    refine wk_lv [3, 4, 2, 1, 0] rfl ?_
    exact L30 ((f1_available σ).toNatClampNeg) (σ 2 p1.toNatClampNeg) (σ 1 p1.toNatClampNeg) (f1_available σ) (le_clamp _) (by simp only [f1_piecesInReach, if_neg c3])
  · refine wk_iconst F dX1_piecesInReach_8 ic_0 (pc' := 9) rfl ?_
    exact hret _ _ _ dX1_piecesInReach_9 rfl (by simp only [f1_piecesInReach, if_pos c3])
def f1_highestSetting (σ : PS) (p1 : Int32) : Int32 := (if p1 = (2 : Int32) then (100 : Int32) else (30 : Int32))
set_option maxHeartbeats 4000000 in
set_option maxRecDepth 100000 in
theorem c1_highestSetting (l : Launch) (D : va_G) (cI cP : ClassId) (hs : Nat → Nat) (σ : PS) (p1 : Int32) : CP l yX1_highestSetting wsX1_highestSetting ({ frames := 0, cells := 0, slots := 0, locals := 0 } : Room) D (cty cI cP) (wPool cI hs) σ [.ref (hs 0), .int p1] (f1_highestSetting σ p1) := by
  refine CP.of (cc := cX1_highestSetting) (maxL := 2) (rt := .int) (own := RX1) (lv0 := [(0, .ref (hs 0)), (1, .int p1)]) pnX1 rfl rfl (Nat.le_of_ble_eq_true rfl) rfl (fun p e s m args below meth c A Q F hret => ?_)
  refine wk_iload_n F dX1_highestSetting_0 rfl 1 rfl (pc' := 1) rfl ?_
  refine wk_iconst F dX1_highestSetting_1 ic_2 (pc' := 2) rfl ?_
  refine wk_icmp_ne (tgt := 10) F dX1_highestSetting_2 (by decide) (pc' := 5) rfl (fun c1 => ?_) (fun c1 => ?_)
  · refine wk_bipush F dX1_highestSetting_10 bp_30 (pc' := 12) rfl ?_
    exact hret _ _ _ dX1_highestSetting_12 rfl (by simp only [f1_highestSetting, if_neg c1])
  · refine wk_bipush F dX1_highestSetting_5 bp_100 (pc' := 7) rfl ?_
    refine wk_goto (tgt := 12) F dX1_highestSetting_7 (by decide) ?_
    exact hret _ _ _ dX1_highestSetting_12 rfl (by simp only [f1_highestSetting, if_pos c1])
def f1_lowestFreePiece_L2 (σ : PS) : Nat → Nat → Int32
  | 0, i => (-1 : Int32)
  | n + 1, i => (if (σ 8 i) = 0 then nI i else f1_lowestFreePiece_L2 σ n (i + 1))
def f1_lowestFreePiece (σ : PS) : Int32 := f1_lowestFreePiece_L2 σ 30 0
set_option maxHeartbeats 4000000 in
set_option maxRecDepth 100000 in
theorem c1_lowestFreePiece (l : Launch) (D : va_G) (cI cP : ClassId) (hs : Nat → Nat) (σ : PS) : CP l yX1_lowestFreePiece wsX1_lowestFreePiece ({ frames := 0, cells := 0, slots := 0, locals := 0 } : Room) D (cty cI cP) (wPool cI hs) σ [.ref (hs 0)] (f1_lowestFreePiece σ) := by
  refine CP.of (cc := cX1_lowestFreePiece) (maxL := 2) (rt := .int) (own := RX1) (lv0 := [(0, .ref (hs 0))]) pnX1 rfl rfl (Nat.le_of_ble_eq_true rfl) rfl (fun p e s m args below meth c A Q F hret => ?_)
  have w_1 := F.at (x := Cond.fieldLink RX1 36 "ThinVolumes$Pool" "owners" "[I") 1 rfl
  have k_1 : ∀ w ∈ wsX10, w ∈ wsX1_lowestFreePiece := fun _ h => List.mem_cons_of_mem _ (List.mem_append_right _ (h))
  have L2 : ∀ (n : Nat) (i : Nat), i + n = 30 → f1_lowestFreePiece_L2 σ n i = f1_lowestFreePiece σ → Wk p l e ({ frames := 0, cells := 0, slots := 0, locals := 0 } : Room) s m args below meth c 2 D A 0 0 Q (wPool cI hs σ) [(0, .ref (hs 0)), (1, .int (nI i))] 2 [] := by
    intro n
    induction n with
    | zero =>
      intro i hi hp
      refine wk_iload_n F dX1_lowestFreePiece_2 rfl 1 rfl (pc' := 3) rfl ?_
      refine wk_bipush F dX1_lowestFreePiece_3 bp_30 (pc' := 5) rfl ?_
      refine wk_icmp_ge (tgt := 25) F dX1_lowestFreePiece_5 (by decide) (pc' := 8) rfl (fun _ => ?_) (fun c => absurd ((nI_leI (a := 30) (b := i) (by omega) (by omega)).mpr (by omega)) c)
      refine wk_iconst F dX1_lowestFreePiece_25 ic_m1 (pc' := 26) rfl ?_
      exact hret _ _ _ dX1_lowestFreePiece_26 rfl (Eq.trans (by simp only [f1_lowestFreePiece_L2]) hp)
    | succ n ih =>
      intro i hi hp
      refine wk_iload_n F dX1_lowestFreePiece_2 rfl 1 rfl (pc' := 3) rfl ?_
      refine wk_bipush F dX1_lowestFreePiece_3 bp_30 (pc' := 5) rfl ?_
      refine wk_icmp_ge (tgt := 25) F dX1_lowestFreePiece_5 (by decide) (pc' := 8) rfl (fun c => absurd ((nI_leI (a := 30) (b := i) (by omega) (by omega)).mp c) (by omega)) (fun _ => ?_)
      refine wk_aload_n F dX1_lowestFreePiece_8 rfl 0 rfl (pc' := 9) rfl ?_
      refine wk_get (C := RX1) (T := TX1) (N := 14) F 0 rfl rfl k_1 8 (Nat.le_of_ble_eq_true rfl) w_1 rfl dX1_lowestFreePiece_9 (pc' := 12) rfl ?_
      refine wk_iload_n F dX1_lowestFreePiece_12 rfl 1 rfl (pc' := 13) rfl ?_
      refine wk_iald_n (i := i) F 9 0 rfl rfl (by omega) (Nat.le_of_ble_eq_true rfl) dX1_lowestFreePiece_13 (pc' := 14) rfl ?_
      refine wk_if_ne (tgt := 19) F dX1_lowestFreePiece_14 (by decide) (pc' := 17) rfl (fun c1 => ?_) (fun c1 => ?_)
      · refine wk_iinc (k := 1) (v := nI (i + 1)) (lv' := [(1, .int (nI (i + 1))), (0, .ref (hs 0))]) F dX1_lowestFreePiece_19 rfl (nI_inc i) (Nat.le_of_ble_eq_true rfl) rfl (pc' := 22) rfl ?_
        refine wk_goto (tgt := 2) F dX1_lowestFreePiece_22 (by decide) ?_
        refine wk_lv [1, 0] rfl ?_
        exact ih (i + 1) (by omega) (Eq.trans (Eq.symm (by simp only [f1_lowestFreePiece_L2, if_neg c1])) hp)
      · refine wk_iload_n F dX1_lowestFreePiece_17 rfl 1 rfl (pc' := 18) rfl ?_
        exact hret _ _ _ dX1_lowestFreePiece_18 rfl (Eq.trans (by simp only [f1_lowestFreePiece_L2, if_pos c1]) hp)
  refine wk_iconst F dX1_lowestFreePiece_0 ic_0 (pc' := 1) rfl ?_
  refine wk_istore_n (lv' := [(1, .int (0 : Int32)), (0, .ref (hs 0))]) F dX1_lowestFreePiece_1 rfl (Nat.le_of_ble_eq_true rfl) rfl (pc' := 2) rfl ?_
  refine wk_lv [1, 0] rfl ?_
  exact L2 30 0 (by omega) (by simp only [f1_lowestFreePiece])
end
section
def f4_tell (σ : PS) (p1 : Int32) (p2 : Int32) : Int32 := (if p1 < 0 then (-1000004 : Int32) else (if (σ 13 3) ≤ p1 then (-1000004 : Int32) else (if p1 < (10 : Int32) then (if p2 = (0 : Int32) then σ 10 p1.toNatClampNeg else (if p2 = (1 : Int32) then σ 11 p1.toNatClampNeg else σ 12 p1.toNatClampNeg)) else (-1000004 : Int32))))
set_option maxHeartbeats 4000000 in
set_option maxRecDepth 100000 in
theorem c4_tell (l : Launch) (D : va_G) (cI cP : ClassId) (hs : Nat → Nat) (σ : PS) (p1 : Int32) (p2 : Int32) : CP l yX4_tell wsX4_tell ({ frames := 0, cells := 0, slots := 0, locals := 0 } : Room) D (cty cI cP) (wWarn cI hs) σ [.ref (hs 11), .int p1, .int p2] (f4_tell σ p1 p2) := by
  refine CP.of (cc := cX4_tell) (maxL := 3) (rt := .int) (own := RX4) (lv0 := [(0, .ref (hs 11)), (1, .int p1), (2, .int p2)]) pnX4 rfl rfl (Nat.le_of_ble_eq_true rfl) rfl (fun p e s m args below meth c A Q F hret => ?_)
  have w_2 := F.at (x := Cond.constant RX4 37 (-1000004)) 2 rfl
  have w_1 := F.at (x := Cond.fieldLink RX4 27 "ThinVolumes$Warnings" "kept" "I") 1 rfl
  have w_3 := F.at (x := Cond.fieldLink RX4 9 "ThinVolumes$Warnings" "kinds" "[I") 3 rfl
  have w_4 := F.at (x := Cond.fieldLink RX4 15 "ThinVolumes$Warnings" "volumes" "[I") 4 rfl
  have w_5 := F.at (x := Cond.fieldLink RX4 18 "ThinVolumes$Warnings" "available" "[I") 5 rfl
  have k_4 : ∀ w ∈ wsX40, w ∈ wsX4_tell := fun _ h => List.mem_cons_of_mem _ (List.mem_append_right _ (h))
  refine wk_iload_n F dX4_tell_0 rfl 1 rfl (pc' := 1) rfl ?_
  refine wk_if_lt (tgt := 18) F dX4_tell_1 (by decide) (pc' := 4) rfl (fun c1 => ?_) (fun c1 => ?_)
  · refine wk_ldc F dX4_tell_18 w_2 (pc' := 20) rfl ?_
    exact hret _ _ _ dX4_tell_20 rfl (by simp only [f4_tell, if_pos c1])
  · refine wk_iload_n F dX4_tell_4 rfl 1 rfl (pc' := 5) rfl ?_
    refine wk_aload_n F dX4_tell_5 rfl 0 rfl (pc' := 6) rfl ?_
    refine wk_get (C := RX4) (T := TX4) (N := 4) F 0 rfl rfl k_4 3 (Nat.le_of_ble_eq_true rfl) w_1 rfl dX4_tell_6 (pc' := 9) rfl ?_
    refine wk_icmp_ge (tgt := 18) F dX4_tell_9 (by decide) (pc' := 12) rfl (fun c2 => ?_) (fun c2 => ?_)
    · refine wk_ldc F dX4_tell_18 w_2 (pc' := 20) rfl ?_
      exact hret _ _ _ dX4_tell_20 rfl (by simp only [f4_tell, if_neg c1, if_pos c2])
    · refine wk_iload_n F dX4_tell_12 rfl 1 rfl (pc' := 13) rfl ?_
      refine wk_bipush F dX4_tell_13 bp_10 (pc' := 15) rfl ?_
      refine wk_icmp_lt (tgt := 21) F dX4_tell_15 (by decide) (pc' := 18) rfl (fun c3 => ?_) (fun c3 => ?_)
      · refine wk_iload_n F dX4_tell_21 rfl 2 rfl (pc' := 22) rfl ?_
        by_cases c4 : p2 = (0 : Int32)
        · refine wk_top c4 ?_
          refine wk_lookup (off := 26) (tgt := 48) F dX4_tell_22 (by decide) (by decide) (by decide) ?_
          refine wk_aload_n F dX4_tell_48 rfl 0 rfl (pc' := 49) rfl ?_
          refine wk_get (C := RX4) (T := TX4) (N := 4) F 0 rfl rfl k_4 0 (Nat.le_of_ble_eq_true rfl) w_3 rfl dX4_tell_49 (pc' := 52) rfl ?_
          refine wk_iload_n F dX4_tell_52 rfl 1 rfl (pc' := 53) rfl ?_
          refine wk_iald F 1 0 rfl rfl (vin c1 (lt_nle c3) (Nat.le_of_ble_eq_true rfl)) dX4_tell_53 (pc' := 54) rfl ?_
          exact hret _ _ _ dX4_tell_54 rfl (by simp only [f4_tell, if_neg c1, if_neg c2, if_pos c3, if_pos c4])
        by_cases c5 : p2 = (1 : Int32)
        · refine wk_top c5 ?_
          refine wk_lookup (off := 33) (tgt := 55) F dX4_tell_22 (by decide) (by decide) (by decide) ?_
          refine wk_aload_n F dX4_tell_55 rfl 0 rfl (pc' := 56) rfl ?_
          refine wk_get (C := RX4) (T := TX4) (N := 4) F 0 rfl rfl k_4 1 (Nat.le_of_ble_eq_true rfl) w_4 rfl dX4_tell_56 (pc' := 59) rfl ?_
          refine wk_iload_n F dX4_tell_59 rfl 1 rfl (pc' := 60) rfl ?_
          refine wk_iald F 2 0 rfl rfl (vin c1 (lt_nle c3) (Nat.le_of_ble_eq_true rfl)) dX4_tell_60 (pc' := 61) rfl ?_
          exact hret _ _ _ dX4_tell_61 rfl (by simp only [f4_tell, if_neg c1, if_neg c2, if_pos c3, if_neg c4, if_pos c5])
        refine wk_lookup (off := 40) (tgt := 62) F dX4_tell_22 (by decide) (by have ec4 := ti_ne (k := 0) c4 (by decide); have ec5 := ti_ne (k := 1) c5 (by decide); simp [Op.lookupswitch.offset, Ne.symm ec4, Ne.symm ec5]) (by decide) ?_
        refine wk_aload_n F dX4_tell_62 rfl 0 rfl (pc' := 63) rfl ?_
        refine wk_get (C := RX4) (T := TX4) (N := 4) F 0 rfl rfl k_4 2 (Nat.le_of_ble_eq_true rfl) w_5 rfl dX4_tell_63 (pc' := 66) rfl ?_
        refine wk_iload_n F dX4_tell_66 rfl 1 rfl (pc' := 67) rfl ?_
        refine wk_iald F 3 0 rfl rfl (vin c1 (lt_nle c3) (Nat.le_of_ble_eq_true rfl)) dX4_tell_67 (pc' := 68) rfl ?_
        exact hret _ _ _ dX4_tell_68 rfl (by simp only [f4_tell, if_neg c1, if_neg c2, if_pos c3, if_neg c4, if_neg c5])
      · refine wk_ldc F dX4_tell_18 w_2 (pc' := 20) rfl ?_
        exact hret _ _ _ dX4_tell_20 rfl (by simp only [f4_tell, if_neg c1, if_neg c2, if_neg c3])
def f4_add (σ : PS) (p1 : Int32) (p2 : Int32) (p3 : Int32) : PS := ((fun (u1 : PS) => ((fun (u3 : PS) => ((fun (u5 : PS) => ((fun (u7 : PS) => ((fun (u9 : PS) => ((fun (u11 : PS) => ((fun (u13 : PS) => u13) (wr u11 13 3 (if (10 : Int32) < ((u11 13 3) + (1 : Int32)) then (10 : Int32) else ((u11 13 3) + (1 : Int32)))))) (wr u9 12 0 p3))) (wr u7 11 0 p2))) (wr u5 10 0 p1))) (setA u3 12 (va_cpy (u3 12) (u3 12) 0 1 9)))) (setA u1 11 (va_cpy (u1 11) (u1 11) 0 1 9)))) (setA σ 10 (va_cpy (σ 10) (σ 10) 0 1 9)))
set_option maxHeartbeats 4000000 in
set_option maxRecDepth 100000 in
theorem c4_add (l : Launch) (D : va_G) (cI cP : ClassId) (hs : Nat → Nat) (σ : PS) (p1 : Int32) (p2 : Int32) (p3 : Int32) : CV l yX4_add wsX4_add ({ frames := 1, cells := 0, slots := 0, locals := 60 } : Room) D (cty cI cP) (wWarn cI hs σ) (wWarn cI hs) [.ref (hs 11), .int p1, .int p2, .int p3] 0 0 (fun u => f4_add σ p1 p2 p3 = u) := by
  refine CV.of (cc := cX4_add) (maxL := 4) (own := RX4) (lv0 := [(0, .ref (hs 11)), (1, .int p1), (2, .int p2), (3, .int p3)]) pnX4 rfl rfl (Nat.le_of_ble_eq_true rfl) rfl (fun p e s m args below meth c A Q F hmn hret => ?_)
  have w_1 := F.at (x := Cond.fieldLink RX4 9 "ThinVolumes$Warnings" "kinds" "[I") 1 rfl
  have w_2 := F.at (x := Cond.methodLink RX4 21 arraycopyName) 2 rfl
  have w_3 := F.at (x := Cond.native arraycopyName) 3 rfl
  have w_4 := F.at (x := Cond.static arraycopyName) 4 rfl
  have w_5 := F.at (x := Cond.initialized "java/lang/System") 5 rfl
  have w_6 := F.at (x := Cond.fieldLink RX4 15 "ThinVolumes$Warnings" "volumes" "[I") 6 rfl
  have w_7 := F.at (x := Cond.fieldLink RX4 18 "ThinVolumes$Warnings" "available" "[I") 7 rfl
  have w_8 := F.at (x := Cond.fieldLink RX4 27 "ThinVolumes$Warnings" "kept" "I") 8 rfl
  have w_9 := F.at (x := Cond.methodLink RX4 31 Lib.Math.min.name) 9 rfl
  have w_10 := F.at (x := Cond.static Lib.Math.min.name) 10 rfl
  have w_11 := F.at (x := Cond.initialized "java/lang/Math") 11 rfl
  have w_12 := F.at (x := Cond.code Lib.Math.min.name Lib.Math.min.code 2 (some .int)) 12 rfl
  have k_4 : ∀ w ∈ wsX40, w ∈ wsX4_add := fun _ h => List.mem_cons_of_mem _ (List.mem_append_right _ (h))
  refine wk_aload_n F dX4_add_0 rfl 0 rfl (pc' := 1) rfl ?_
  refine wk_get (C := RX4) (T := TX4) (N := 4) F 0 rfl rfl k_4 0 (Nat.le_of_ble_eq_true rfl) w_1 rfl dX4_add_1 (pc' := 4) rfl ?_
  refine wk_iconst F dX4_add_4 ic_0 (pc' := 5) rfl ?_
  refine wk_aload_n F dX4_add_5 rfl 0 rfl (pc' := 6) rfl ?_
  refine wk_get (C := RX4) (T := TX4) (N := 4) F 0 rfl rfl k_4 0 (Nat.le_of_ble_eq_true rfl) w_1 rfl dX4_add_6 (pc' := 9) rfl ?_
  refine wk_iconst F dX4_add_9 ic_1 (pc' := 10) rfl ?_
  refine wk_bipush F dX4_add_10 bp_9 (pc' := 12) rfl ?_
  refine wk_copyiu (wg := wWarn cI hs) (f0 := setA σ 10 (va_cpy (σ 10) (σ 10) 0 1 9)) F 1 1 0 0 w_2 w_3 w_4 w_5 rfl rfl rfl rfl (by decide) (by decide) (by decide) (Nat.le_of_ble_eq_true rfl) (Nat.le_of_ble_eq_true rfl) (Nat.le_of_ble_eq_true rfl) (Nat.le_of_ble_eq_true rfl) aW_10 dX4_add_12 (pc' := 15) rfl (fun u1 h2 => ?_)
  refine wk_aload_n F dX4_add_15 rfl 0 rfl (pc' := 16) rfl ?_
  refine wk_get (C := RX4) (T := TX4) (N := 4) F 0 rfl rfl k_4 1 (Nat.le_of_ble_eq_true rfl) w_6 rfl dX4_add_16 (pc' := 19) rfl ?_
  refine wk_iconst F dX4_add_19 ic_0 (pc' := 20) rfl ?_
  refine wk_aload_n F dX4_add_20 rfl 0 rfl (pc' := 21) rfl ?_
  refine wk_get (C := RX4) (T := TX4) (N := 4) F 0 rfl rfl k_4 1 (Nat.le_of_ble_eq_true rfl) w_6 rfl dX4_add_21 (pc' := 24) rfl ?_
  refine wk_iconst F dX4_add_24 ic_1 (pc' := 25) rfl ?_
  refine wk_bipush F dX4_add_25 bp_9 (pc' := 27) rfl ?_
  refine wk_copyiu (wg := wWarn cI hs) (f0 := setA u1 11 (va_cpy (u1 11) (u1 11) 0 1 9)) F 2 2 0 0 w_2 w_3 w_4 w_5 rfl rfl rfl rfl (by decide) (by decide) (by decide) (Nat.le_of_ble_eq_true rfl) (Nat.le_of_ble_eq_true rfl) (Nat.le_of_ble_eq_true rfl) (Nat.le_of_ble_eq_true rfl) aW_11 dX4_add_27 (pc' := 30) rfl (fun u3 h4 => ?_)
  refine wk_aload_n F dX4_add_30 rfl 0 rfl (pc' := 31) rfl ?_
  refine wk_get (C := RX4) (T := TX4) (N := 4) F 0 rfl rfl k_4 2 (Nat.le_of_ble_eq_true rfl) w_7 rfl dX4_add_31 (pc' := 34) rfl ?_
  refine wk_iconst F dX4_add_34 ic_0 (pc' := 35) rfl ?_
  refine wk_aload_n F dX4_add_35 rfl 0 rfl (pc' := 36) rfl ?_
  refine wk_get (C := RX4) (T := TX4) (N := 4) F 0 rfl rfl k_4 2 (Nat.le_of_ble_eq_true rfl) w_7 rfl dX4_add_36 (pc' := 39) rfl ?_
  refine wk_iconst F dX4_add_39 ic_1 (pc' := 40) rfl ?_
  refine wk_bipush F dX4_add_40 bp_9 (pc' := 42) rfl ?_
  refine wk_copyiu (wg := wWarn cI hs) (f0 := setA u3 12 (va_cpy (u3 12) (u3 12) 0 1 9)) F 3 3 0 0 w_2 w_3 w_4 w_5 rfl rfl rfl rfl (by decide) (by decide) (by decide) (Nat.le_of_ble_eq_true rfl) (Nat.le_of_ble_eq_true rfl) (Nat.le_of_ble_eq_true rfl) (Nat.le_of_ble_eq_true rfl) aW_12 dX4_add_42 (pc' := 45) rfl (fun u5 h6 => ?_)
  refine wk_aload_n F dX4_add_45 rfl 0 rfl (pc' := 46) rfl ?_
  refine wk_get (C := RX4) (T := TX4) (N := 4) F 0 rfl rfl k_4 0 (Nat.le_of_ble_eq_true rfl) w_1 rfl dX4_add_46 (pc' := 49) rfl ?_
  refine wk_iconst F dX4_add_49 ic_0 (pc' := 50) rfl ?_
  refine wk_iload_n F dX4_add_50 rfl 1 rfl (pc' := 51) rfl ?_
  refine wk_iastu_n (wg := wWarn cI hs) (f0 := wr u5 10 0 p1) (i := 0) F 1 0 rfl rfl aW_10 (by omega) (Nat.le_of_ble_eq_true rfl) dX4_add_51 (pc' := 52) rfl (fun u7 h8 => ?_)
  refine wk_aload_n F dX4_add_52 rfl 0 rfl (pc' := 53) rfl ?_
  refine wk_get (C := RX4) (T := TX4) (N := 4) F 0 rfl rfl k_4 1 (Nat.le_of_ble_eq_true rfl) w_6 rfl dX4_add_53 (pc' := 56) rfl ?_
  refine wk_iconst F dX4_add_56 ic_0 (pc' := 57) rfl ?_
  refine wk_iload_n F dX4_add_57 rfl 2 rfl (pc' := 58) rfl ?_
  refine wk_iastu_n (wg := wWarn cI hs) (f0 := wr u7 11 0 p2) (i := 0) F 2 0 rfl rfl aW_11 (by omega) (Nat.le_of_ble_eq_true rfl) dX4_add_58 (pc' := 59) rfl (fun u9 h10 => ?_)
  refine wk_aload_n F dX4_add_59 rfl 0 rfl (pc' := 60) rfl ?_
  refine wk_get (C := RX4) (T := TX4) (N := 4) F 0 rfl rfl k_4 2 (Nat.le_of_ble_eq_true rfl) w_7 rfl dX4_add_60 (pc' := 63) rfl ?_
  refine wk_iconst F dX4_add_63 ic_0 (pc' := 64) rfl ?_
  refine wk_iload_n F dX4_add_64 rfl 3 rfl (pc' := 65) rfl ?_
  refine wk_iastu_n (wg := wWarn cI hs) (f0 := wr u9 12 0 p3) (i := 0) F 3 0 rfl rfl aW_12 (by omega) (Nat.le_of_ble_eq_true rfl) dX4_add_65 (pc' := 66) rfl (fun u11 h12 => ?_)
  refine wk_aload_n F dX4_add_66 rfl 0 rfl (pc' := 67) rfl ?_
  refine wk_aload_n F dX4_add_67 rfl 0 rfl (pc' := 68) rfl ?_
  refine wk_get (C := RX4) (T := TX4) (N := 4) F 0 rfl rfl k_4 3 (Nat.le_of_ble_eq_true rfl) w_8 rfl dX4_add_68 (pc' := 71) rfl ?_
  refine wk_iconst F dX4_add_71 ic_1 (pc' := 72) rfl ?_
  refine wk_iadd F dX4_add_72 (pc' := 73) rfl ?_
  refine wk_bipush F dX4_add_73 bp_10 (pc' := 75) rfl ?_
  refine wk_mmin F w_9 w_10 w_11 w_12 (Nat.le_of_ble_eq_true rfl) (Nat.le_of_ble_eq_true rfl) (Nat.zero_le _) (Nat.zero_le _) dX4_add_75 (pc' := 78) rfl ?_
  refine wk_putu (wg := wWarn cI hs) (f0 := wr u11 13 3 (if (10 : Int32) < ((u11 13 3) + (1 : Int32)) then (10 : Int32) else ((u11 13 3) + (1 : Int32)))) (C := RX4) (T := TX4) (N := 4) (ty0 := tyX4) F 0 rfl rfl k_4 tyX4_ok nmX4 3 (Nat.le_of_ble_eq_true rfl) w_8 rfl rfl rfl (Nat.le_of_ble_eq_true rfl) sW_3 dX4_add_78 (pc' := 81) rfl (fun u13 h14 => ?_)
  exact hret _ _ _ dX4_add_81 (by simp only [f4_add, h2, h4, h6, h8, h10, h12, h14])
theorem hw_add {cI : ClassId} {hs : Nat → Nat} {u : PS} {a b c : Int32} : wPool11 cI hs u ++ wWarn cI hs (f4_add u a b c) = wPool cI hs (f4_add u a b c) := rfl
end
section
def f1_warnIfLevelRose (σ : PS) (p1 : Int32) : PS := (if (f1_levelWith σ (f1_available σ)) ≤ p1 then σ else ((fun (u2 : PS) => u2) (f4_add σ (0 : Int32) (-1 : Int32) (f1_available σ))))
set_option maxHeartbeats 4000000 in
set_option maxRecDepth 100000 in
theorem c1_warnIfLevelRose (l : Launch) (D : va_G) (cI cP : ClassId) (hs : Nat → Nat) (σ : PS) (p1 : Int32) : CV l yX1_warnIfLevelRose wsX1_warnIfLevelRose ({ frames := 2, cells := 0, slots := 0, locals := 83 } : Room) D (cty cI cP) (wPool cI hs σ) (wPool cI hs) [.ref (hs 0), .int p1] 0 0 (fun u => f1_warnIfLevelRose σ p1 = u) := by
  refine CV.of (cc := cX1_warnIfLevelRose) (maxL := 3) (own := RX1) (lv0 := [(0, .ref (hs 0)), (1, .int p1)]) pnX1 rfl rfl (Nat.le_of_ble_eq_true rfl) rfl (fun p e s m args below meth c A Q F hmn hret => ?_)
  have w_1 := F.at (x := Cond.fieldLink RX1 45 "ThinVolumes$Pool" "warnings" "LThinVolumes$Warnings;") 1 rfl
  have k_1 : ∀ w ∈ wsX10, w ∈ wsX1_warnIfLevelRose := fun _ h => List.mem_cons_of_mem _ (List.mem_append_left _ (List.mem_append_right _ (h)))
  refine wk_aload_n F dX1_warnIfLevelRose_0 rfl 0 rfl (pc' := 1) rfl ?_
  refine wk_same_p F (c1_available l D cI cP hs σ) (cwV 0 F.hts gX1_warnIfLevelRose_X1_available rfl rfl rfl hdX1_available ⟨Nat.le_of_ble_eq_true rfl, Nat.le_of_ble_eq_true rfl⟩) 0 1 rfl rfl rfl rfl (Nat.le_of_ble_eq_true rfl) dX1_warnIfLevelRose_1 ⟨Nat.zero_le _, Nat.zero_le _⟩ (pc' := 4) rfl ?_
  refine wk_istore_n (lv' := [(2, .int (f1_available σ)), (0, .ref (hs 0)), (1, .int p1)]) F dX1_warnIfLevelRose_4 rfl (Nat.le_of_ble_eq_true rfl) rfl (pc' := 5) rfl ?_
  refine wk_aload_n F dX1_warnIfLevelRose_5 rfl 1 rfl (pc' := 6) rfl ?_
  refine wk_iload_n F dX1_warnIfLevelRose_6 rfl 0 rfl (pc' := 7) rfl ?_
  refine wk_same_p F (c1_levelWith l D cI cP hs σ (f1_available σ)) (cwV 1 F.hts gX1_warnIfLevelRose_X1_levelWith rfl rfl rfl hdX1_levelWith ⟨Nat.le_of_ble_eq_true rfl, Nat.le_of_ble_eq_true rfl⟩) 0 1 rfl rfl rfl rfl (Nat.le_of_ble_eq_true rfl) dX1_warnIfLevelRose_7 ⟨Nat.zero_le _, Nat.zero_le _⟩ (pc' := 10) rfl ?_
  refine wk_iload_n F dX1_warnIfLevelRose_10 rfl 2 rfl (pc' := 11) rfl ?_
  refine wk_icmp_le (tgt := 24) F dX1_warnIfLevelRose_11 (by decide) (pc' := 14) rfl (fun c1 => ?_) (fun c1 => ?_)
  · exact hret _ _ _ dX1_warnIfLevelRose_24 (by simp only [f1_warnIfLevelRose, if_pos c1])
  · refine wk_aload_n F dX1_warnIfLevelRose_14 rfl 1 rfl (pc' := 15) rfl ?_
    refine wk_get (C := RX1) (T := TX1) (N := 14) F 0 rfl rfl k_1 10 (Nat.le_of_ble_eq_true rfl) w_1 rfl dX1_warnIfLevelRose_15 (pc' := 18) rfl ?_
    refine wk_iconst F dX1_warnIfLevelRose_18 ic_0 (pc' := 19) rfl ?_
    refine wk_iconst F dX1_warnIfLevelRose_19 ic_m1 (pc' := 20) rfl ?_
    refine wk_iload_n F dX1_warnIfLevelRose_20 rfl 0 rfl (pc' := 21) rfl ?_
    refine wk_sub_v (w' := wPool cI hs) (wr := wPool11 cI hs σ) F (c4_add l D cI cP hs σ (0 : Int32) (-1 : Int32) (f1_available σ)) (cwV 3 F.hts gX1_warnIfLevelRose_X4_add rfl rfl rfl hdX4_add ⟨Nat.le_of_ble_eq_true rfl, Nat.le_of_ble_eq_true rfl⟩) [11, 12, 13, 14] [0, 1, 2, 3, 4, 5, 6, 7, 8, 9, 10] hCW hRW rfl rfl (by decide) 0 4 rfl rfl rfl rfl (Nat.le_of_ble_eq_true rfl) dX1_warnIfLevelRose_21 ⟨Nat.zero_le _, Nat.zero_le _⟩ (pc' := 24) rfl hw_add (fun u2 h3 => ?_)
    exact hret _ _ _ dX1_warnIfLevelRose_24 (by simp only [f1_warnIfLevelRose, h3, if_neg c1])
def f1_openVolume_L16 (p1 : Int32) : Nat → Nat → PS → Int32 × PS
  | 0, i, u => ((-1000003 : Int32), u)
  | n + 1, i, u => (if (f1_lives u (nI i)) = 0 then ((fun (u2 : PS) => ((fun (u4 : PS) => ((fun (u6 : PS) => ((fun (u8 : PS) => ((fun (u10 : PS) => ((fun (u12 : PS) => (nI i, u12)) (wr u10 5 i (0 : Int32)))) (wr u8 4 i (0 : Int32)))) (wr u6 3 i (-1 : Int32)))) (wr u4 2 i (0 : Int32)))) (wr u2 1 i (50 : Int32)))) (wr u 0 i p1)) else f1_openVolume_L16 p1 n (i + 1) u)
def f1_openVolume (σ : PS) (p1 : Int32) : Int32 × PS := (if p1 < (1 : Int32) then ((-1000001 : Int32), σ) else (if p1 ≤ (40 : Int32) then f1_openVolume_L16 p1 8 0 σ else ((-1000001 : Int32), σ)))
set_option maxHeartbeats 4000000 in
set_option maxRecDepth 100000 in
theorem c1_openVolume (l : Launch) (D : va_G) (cI cP : ClassId) (hs : Nat → Nat) (σ : PS) (p1 : Int32) : CI l yX1_openVolume wsX1_openVolume ({ frames := 1, cells := 0, slots := 0, locals := 21 } : Room) D (cty cI cP) (wPool cI hs σ) (wPool cI hs) [.ref (hs 0), .int p1] 0 0 (fun r u => f1_openVolume σ p1 = (r, u)) := by
  refine CI.of (cc := cX1_openVolume) (maxL := 3) (rt := .int) (own := RX1) (lv0 := [(0, .ref (hs 0)), (1, .int p1)]) pnX1 rfl rfl (Nat.le_of_ble_eq_true rfl) rfl (fun p e s m args below meth c A Q F hret => ?_)
  have w_8 := F.at (x := Cond.constant RX1 125 (-1000003)) 8 rfl
  have w_2 := F.at (x := Cond.fieldLink RX1 9 "ThinVolumes$Pool" "sizes" "[I") 2 rfl
  have w_3 := F.at (x := Cond.fieldLink RX1 15 "ThinVolumes$Pool" "manners" "[I") 3 rfl
  have w_4 := F.at (x := Cond.fieldLink RX1 18 "ThinVolumes$Pool" "promises" "[I") 4 rfl
  have w_5 := F.at (x := Cond.fieldLink RX1 21 "ThinVolumes$Pool" "parents" "[I") 5 rfl
  have w_6 := F.at (x := Cond.fieldLink RX1 24 "ThinVolumes$Pool" "refusalsOf" "[I") 6 rfl
  have w_7 := F.at (x := Cond.fieldLink RX1 27 "ThinVolumes$Pool" "piecesGotBy" "[I") 7 rfl
  have w_1 := F.at (x := Cond.constant RX1 124 (-1000001)) 1 rfl
  have k_1 : ∀ w ∈ wsX10, w ∈ wsX1_openVolume := fun _ h => List.mem_cons_of_mem _ (List.mem_append_right _ (h))
  have L16 : ∀ (n : Nat) (i : Nat) (u : PS), i + n = 8 → f1_openVolume_L16 p1 n i u = f1_openVolume σ p1 → Wk p l e ({ frames := 1, cells := 0, slots := 0, locals := 21 } : Room) s m args below meth c 3 D A 0 0 Q (wPool cI hs u) [(0, .ref (hs 0)), (1, .int p1), (2, .int (nI i))] 16 [] := by
    intro n
    induction n with
    | zero =>
      intro i u hi hp
      refine wk_iload_n F dX1_openVolume_16 rfl 2 rfl (pc' := 17) rfl ?_
      refine wk_bipush F dX1_openVolume_17 bp_8 (pc' := 19) rfl ?_
      refine wk_icmp_ge (tgt := 81) F dX1_openVolume_19 (by decide) (pc' := 22) rfl (fun _ => ?_) (fun c => absurd ((nI_leI (a := 8) (b := i) (by omega) (by omega)).mpr (by omega)) c)
      refine wk_ldc F dX1_openVolume_81 w_8 (pc' := 83) rfl ?_
      exact hret _ _ _ _ dX1_openVolume_83 rfl (Eq.trans hp.symm (by simp only [f1_openVolume_L16]))
    | succ n ih =>
      intro i u hi hp
      refine wk_iload_n F dX1_openVolume_16 rfl 2 rfl (pc' := 17) rfl ?_
      refine wk_bipush F dX1_openVolume_17 bp_8 (pc' := 19) rfl ?_
      refine wk_icmp_ge (tgt := 81) F dX1_openVolume_19 (by decide) (pc' := 22) rfl (fun c => absurd ((nI_leI (a := 8) (b := i) (by omega) (by omega)).mp c) (by omega)) (fun _ => ?_)
      refine wk_aload_n F dX1_openVolume_22 rfl 0 rfl (pc' := 23) rfl ?_
      refine wk_iload_n F dX1_openVolume_23 rfl 2 rfl (pc' := 24) rfl ?_
      refine wk_same_p F (c1_lives l D cI cP hs u (nI i)) (cwV 1 F.hts gX1_openVolume_X1_lives rfl rfl rfl hdX1_lives ⟨Nat.le_of_ble_eq_true rfl, Nat.le_of_ble_eq_true rfl⟩) 0 1 rfl rfl rfl rfl (Nat.le_of_ble_eq_true rfl) dX1_openVolume_24 ⟨Nat.zero_le _, Nat.zero_le _⟩ (pc' := 27) rfl ?_
      refine wk_if_ne (tgt := 75) F dX1_openVolume_27 (by decide) (pc' := 30) rfl (fun c1 => ?_) (fun c1 => ?_)
      · refine wk_iinc (k := 2) (v := nI (i + 1)) (lv' := [(2, .int (nI (i + 1))), (0, .ref (hs 0)), (1, .int p1)]) F dX1_openVolume_75 rfl (nI_inc i) (Nat.le_of_ble_eq_true rfl) rfl (pc' := 78) rfl ?_
        refine wk_goto (tgt := 16) F dX1_openVolume_78 (by decide) ?_
        refine wk_lv [1, 2, 0] rfl ?_
        exact ih (i + 1) u (by omega) (Eq.trans (Eq.symm (by simp only [f1_openVolume_L16, if_neg c1])) hp)
      · refine wk_aload_n F dX1_openVolume_30 rfl 0 rfl (pc' := 31) rfl ?_
        refine wk_get (C := RX1) (T := TX1) (N := 14) F 0 rfl rfl k_1 0 (Nat.le_of_ble_eq_true rfl) w_2 rfl dX1_openVolume_31 (pc' := 34) rfl ?_
        refine wk_iload_n F dX1_openVolume_34 rfl 2 rfl (pc' := 35) rfl ?_
        refine wk_iload_n F dX1_openVolume_35 rfl 1 rfl (pc' := 36) rfl ?_
        refine wk_iastu_n (wg := wPool cI hs) (f0 := wr u 0 i p1) (i := i) F 1 0 rfl rfl aP_0 (by omega) (Nat.le_of_ble_eq_true rfl) dX1_openVolume_36 (pc' := 37) rfl (fun u2 h3 => ?_)
        refine wk_aload_n F dX1_openVolume_37 rfl 0 rfl (pc' := 38) rfl ?_
        refine wk_get (C := RX1) (T := TX1) (N := 14) F 0 rfl rfl k_1 1 (Nat.le_of_ble_eq_true rfl) w_3 rfl dX1_openVolume_38 (pc' := 41) rfl ?_
        refine wk_iload_n F dX1_openVolume_41 rfl 2 rfl (pc' := 42) rfl ?_
        refine wk_bipush F dX1_openVolume_42 bp_50 (pc' := 44) rfl ?_
        refine wk_iastu_n (wg := wPool cI hs) (f0 := wr u2 1 i (50 : Int32)) (i := i) F 2 0 rfl rfl aP_1 (by omega) (Nat.le_of_ble_eq_true rfl) dX1_openVolume_44 (pc' := 45) rfl (fun u4 h5 => ?_)
        refine wk_aload_n F dX1_openVolume_45 rfl 0 rfl (pc' := 46) rfl ?_
        refine wk_get (C := RX1) (T := TX1) (N := 14) F 0 rfl rfl k_1 2 (Nat.le_of_ble_eq_true rfl) w_4 rfl dX1_openVolume_46 (pc' := 49) rfl ?_
        refine wk_iload_n F dX1_openVolume_49 rfl 2 rfl (pc' := 50) rfl ?_
        refine wk_iconst F dX1_openVolume_50 ic_0 (pc' := 51) rfl ?_
        refine wk_iastu_n (wg := wPool cI hs) (f0 := wr u4 2 i (0 : Int32)) (i := i) F 3 0 rfl rfl aP_2 (by omega) (Nat.le_of_ble_eq_true rfl) dX1_openVolume_51 (pc' := 52) rfl (fun u6 h7 => ?_)
        refine wk_aload_n F dX1_openVolume_52 rfl 0 rfl (pc' := 53) rfl ?_
        refine wk_get (C := RX1) (T := TX1) (N := 14) F 0 rfl rfl k_1 3 (Nat.le_of_ble_eq_true rfl) w_5 rfl dX1_openVolume_53 (pc' := 56) rfl ?_
        refine wk_iload_n F dX1_openVolume_56 rfl 2 rfl (pc' := 57) rfl ?_
        refine wk_iconst F dX1_openVolume_57 ic_m1 (pc' := 58) rfl ?_
        refine wk_iastu_n (wg := wPool cI hs) (f0 := wr u6 3 i (-1 : Int32)) (i := i) F 4 0 rfl rfl aP_3 (by omega) (Nat.le_of_ble_eq_true rfl) dX1_openVolume_58 (pc' := 59) rfl (fun u8 h9 => ?_)
        refine wk_aload_n F dX1_openVolume_59 rfl 0 rfl (pc' := 60) rfl ?_
        refine wk_get (C := RX1) (T := TX1) (N := 14) F 0 rfl rfl k_1 4 (Nat.le_of_ble_eq_true rfl) w_6 rfl dX1_openVolume_60 (pc' := 63) rfl ?_
        refine wk_iload_n F dX1_openVolume_63 rfl 2 rfl (pc' := 64) rfl ?_
        refine wk_iconst F dX1_openVolume_64 ic_0 (pc' := 65) rfl ?_
        refine wk_iastu_n (wg := wPool cI hs) (f0 := wr u8 4 i (0 : Int32)) (i := i) F 5 0 rfl rfl aP_4 (by omega) (Nat.le_of_ble_eq_true rfl) dX1_openVolume_65 (pc' := 66) rfl (fun u10 h11 => ?_)
        refine wk_aload_n F dX1_openVolume_66 rfl 0 rfl (pc' := 67) rfl ?_
        refine wk_get (C := RX1) (T := TX1) (N := 14) F 0 rfl rfl k_1 5 (Nat.le_of_ble_eq_true rfl) w_7 rfl dX1_openVolume_67 (pc' := 70) rfl ?_
        refine wk_iload_n F dX1_openVolume_70 rfl 2 rfl (pc' := 71) rfl ?_
        refine wk_iconst F dX1_openVolume_71 ic_0 (pc' := 72) rfl ?_
        refine wk_iastu_n (wg := wPool cI hs) (f0 := wr u10 5 i (0 : Int32)) (i := i) F 6 0 rfl rfl aP_5 (by omega) (Nat.le_of_ble_eq_true rfl) dX1_openVolume_72 (pc' := 73) rfl (fun u12 h13 => ?_)
        refine wk_iload_n F dX1_openVolume_73 rfl 2 rfl (pc' := 74) rfl ?_
        exact hret _ _ _ _ dX1_openVolume_74 rfl (Eq.trans hp.symm (by simp only [f1_openVolume_L16, h3, h5, h7, h9, h11, h13, if_pos c1]))
  refine wk_iload_n F dX1_openVolume_0 rfl 1 rfl (pc' := 1) rfl ?_
  refine wk_iconst F dX1_openVolume_1 ic_1 (pc' := 2) rfl ?_
  refine wk_icmp_lt (tgt := 11) F dX1_openVolume_2 (by decide) (pc' := 5) rfl (fun c14 => ?_) (fun c14 => ?_)
  · refine wk_ldc F dX1_openVolume_11 w_1 (pc' := 13) rfl ?_
    exact hret _ _ _ _ dX1_openVolume_13 rfl (by simp only [f1_openVolume, if_pos c14])
  · refine wk_iload_n F dX1_openVolume_5 rfl 1 rfl (pc' := 6) rfl ?_
    refine wk_bipush F dX1_openVolume_6 bp_40 (pc' := 8) rfl ?_
    refine wk_icmp_le (tgt := 14) F dX1_openVolume_8 (by decide) (pc' := 11) rfl (fun c15 => ?_) (fun c15 => ?_)
    · refine wk_iconst F dX1_openVolume_14 ic_0 (pc' := 15) rfl ?_
      refine wk_istore_n (lv' := [(2, .int (0 : Int32)), (0, .ref (hs 0)), (1, .int p1)]) F dX1_openVolume_15 rfl (Nat.le_of_ble_eq_true rfl) rfl (pc' := 16) rfl ?_
      refine wk_lv [1, 2, 0] rfl ?_
      exact L16 8 0 σ (by omega) (by simp only [f1_openVolume, if_neg c14, if_pos c15])
    · refine wk_ldc F dX1_openVolume_11 w_1 (pc' := 13) rfl ?_
      exact hret _ _ _ _ dX1_openVolume_13 rfl (by simp only [f1_openVolume, if_neg c14, if_neg c15])
def f1_loosen (σ : PS) (p1 : Int32) (p2 : Int32) : Int32 × PS := (if (f1_isPiece σ (f1_pieceAt σ p1 p2)) = 0 then ((0 : Int32), σ) else ((fun (u2 : PS) => ((fun (u4 : PS) => (if (u4 8 (f1_pieceAt σ p1 p2).toNatClampNeg) ≤ 0 then ((fun (u7 : PS) => ((1 : Int32), u7)) (wr u4 13 2 ((u4 13 2) + (1 : Int32)))) else ((0 : Int32), u4))) (wr u2 8 (f1_pieceAt σ p1 p2).toNatClampNeg ((u2 8 (f1_pieceAt σ p1 p2).toNatClampNeg) - (1 : Int32))))) (wr σ 6 ((p1 * (40 : Int32)) + p2).toNatClampNeg (-1 : Int32))))
set_option maxHeartbeats 4000000 in
set_option maxRecDepth 100000 in
theorem c1_loosen (l : Launch) (D : va_G) (cI cP : ClassId) (hs : Nat → Nat) (σ : PS) (p1 : Int32) (p2 : Int32) : CI l yX1_loosen wsX1_loosen ({ frames := 3, cells := 0, slots := 0, locals := 65 } : Room) D (cty cI cP) (wPool cI hs σ) (wPool cI hs) [.ref (hs 0), .int p1, .int p2] 0 0 (fun r u => f1_loosen σ p1 p2 = (r, u)) := by
  refine CI.of (cc := cX1_loosen) (maxL := 4) (rt := .int) (own := RX1) (lv0 := [(0, .ref (hs 0)), (1, .int p1), (2, .int p2)]) pnX1 rfl rfl (Nat.le_of_ble_eq_true rfl) rfl (fun p e s m args below meth c A Q F hret => ?_)
  have w_1 := F.at (x := Cond.fieldLink RX1 30 "ThinVolumes$Pool" "spots" "[I") 1 rfl
  have w_2 := F.at (x := Cond.fieldLink RX1 36 "ThinVolumes$Pool" "owners" "[I") 2 rfl
  have w_3 := F.at (x := Cond.fieldLink RX1 66 "ThinVolumes$Pool" "piecesFreed" "I") 3 rfl
  have k_1 : ∀ w ∈ wsX10, w ∈ wsX1_loosen := fun _ h => List.mem_cons_of_mem _ (List.mem_append_right _ (h))
  refine wk_aload_n F dX1_loosen_0 rfl 0 rfl (pc' := 1) rfl ?_
  refine wk_iload_n F dX1_loosen_1 rfl 1 rfl (pc' := 2) rfl ?_
  refine wk_iload_n F dX1_loosen_2 rfl 2 rfl (pc' := 3) rfl ?_
  refine wk_same_p F (c1_pieceAt l D cI cP hs σ p1 p2) (cwV 2 F.hts gX1_loosen_X1_pieceAt rfl rfl rfl hdX1_pieceAt ⟨Nat.le_of_ble_eq_true rfl, Nat.le_of_ble_eq_true rfl⟩) 0 1 rfl rfl rfl rfl (Nat.le_of_ble_eq_true rfl) dX1_loosen_3 ⟨Nat.zero_le _, Nat.zero_le _⟩ (pc' := 6) rfl ?_
  refine wk_istore_n (lv' := [(3, .int (f1_pieceAt σ p1 p2)), (0, .ref (hs 0)), (1, .int p1), (2, .int p2)]) F dX1_loosen_6 rfl (Nat.le_of_ble_eq_true rfl) rfl (pc' := 7) rfl ?_
  refine wk_aload_n F dX1_loosen_7 rfl 1 rfl (pc' := 8) rfl ?_
  refine wk_iload_n F dX1_loosen_8 rfl 0 rfl (pc' := 9) rfl ?_
  refine wk_same_p F (c1_isPiece l D cI cP hs σ (f1_pieceAt σ p1 p2)) (cwV 1 F.hts gX1_loosen_X1_isPiece rfl rfl rfl hdX1_isPiece ⟨Nat.le_of_ble_eq_true rfl, Nat.le_of_ble_eq_true rfl⟩) 0 1 rfl rfl rfl rfl (Nat.le_of_ble_eq_true rfl) dX1_loosen_9 ⟨Nat.zero_le _, Nat.zero_le _⟩ (pc' := 12) rfl ?_
  refine wk_if_ne (tgt := 17) F dX1_loosen_12 (by decide) (pc' := 15) rfl (fun c1 => ?_) (fun c1 => ?_)
  · refine wk_aload_n F dX1_loosen_17 rfl 1 rfl (pc' := 18) rfl ?_
    refine wk_get (C := RX1) (T := TX1) (N := 14) F 0 rfl rfl k_1 6 (Nat.le_of_ble_eq_true rfl) w_1 rfl dX1_loosen_18 (pc' := 21) rfl ?_
    refine wk_iload_n F dX1_loosen_21 rfl 2 rfl (pc' := 22) rfl ?_
    refine wk_bipush F dX1_loosen_22 bp_40 (pc' := 24) rfl ?_
    refine wk_imul F dX1_loosen_24 (pc' := 25) rfl ?_
    refine wk_iload_n F dX1_loosen_25 rfl 3 rfl (pc' := 26) rfl ?_
    refine wk_iadd F dX1_loosen_26 (pc' := 27) rfl ?_
    refine wk_iconst F dX1_loosen_27 ic_m1 (pc' := 28) rfl ?_
    refine wk_iastu (wg := wPool cI hs) (f0 := wr σ 6 ((p1 * (40 : Int32)) + p2).toNatClampNeg (-1 : Int32)) F 7 0 rfl rfl aP_6 (ix_spot (hasPlace_v (pieceAt_has c1)) (hasPlace_p (pieceAt_has c1))) dX1_loosen_28 (pc' := 29) rfl (fun u2 h3 => ?_)
    refine wk_aload_n F dX1_loosen_29 rfl 1 rfl (pc' := 30) rfl ?_
    refine wk_get (C := RX1) (T := TX1) (N := 14) F 0 rfl rfl k_1 8 (Nat.le_of_ble_eq_true rfl) w_2 rfl dX1_loosen_30 (pc' := 33) rfl ?_
    refine wk_iload_n F dX1_loosen_33 rfl 0 rfl (pc' := 34) rfl ?_
    refine wk_dup2 F dX1_loosen_34 rfl rfl (pc' := 35) rfl ?_
    refine wk_iald F 9 0 rfl rfl (isPiece_in c1) dX1_loosen_35 (pc' := 36) rfl ?_
    refine wk_iconst F dX1_loosen_36 ic_1 (pc' := 37) rfl ?_
    refine wk_isub F dX1_loosen_37 (pc' := 38) rfl ?_
    refine wk_iastu (wg := wPool cI hs) (f0 := wr u2 8 (f1_pieceAt σ p1 p2).toNatClampNeg ((u2 8 (f1_pieceAt σ p1 p2).toNatClampNeg) - (1 : Int32))) F 9 0 rfl rfl aP_8 (isPiece_in c1) dX1_loosen_38 (pc' := 39) rfl (fun u4 h5 => ?_)
    refine wk_aload_n F dX1_loosen_39 rfl 1 rfl (pc' := 40) rfl ?_
    refine wk_get (C := RX1) (T := TX1) (N := 14) F 0 rfl rfl k_1 8 (Nat.le_of_ble_eq_true rfl) w_2 rfl dX1_loosen_40 (pc' := 43) rfl ?_
    refine wk_iload_n F dX1_loosen_43 rfl 0 rfl (pc' := 44) rfl ?_
    refine wk_iald F 9 0 rfl rfl (isPiece_in c1) dX1_loosen_44 (pc' := 45) rfl ?_
    refine wk_if_le (tgt := 50) F dX1_loosen_45 (by decide) (pc' := 48) rfl (fun c6 => ?_) (fun c6 => ?_)
    · refine wk_aload_n F dX1_loosen_50 rfl 1 rfl (pc' := 51) rfl ?_
      refine wk_dup F dX1_loosen_51 rfl (pc' := 52) rfl ?_
      refine wk_get (C := RX1) (T := TX1) (N := 14) F 0 rfl rfl k_1 13 (Nat.le_of_ble_eq_true rfl) w_3 rfl dX1_loosen_52 (pc' := 55) rfl ?_
      refine wk_iconst F dX1_loosen_55 ic_1 (pc' := 56) rfl ?_
      refine wk_iadd F dX1_loosen_56 (pc' := 57) rfl ?_
      refine wk_putu (wg := wPool cI hs) (f0 := wr u4 13 2 ((u4 13 2) + (1 : Int32))) (C := RX1) (T := TX1) (N := 14) (ty0 := tyX1) F 0 rfl rfl k_1 tyX1_ok nmX1 13 (Nat.le_of_ble_eq_true rfl) w_3 rfl rfl rfl (Nat.le_of_ble_eq_true rfl) sP_2 dX1_loosen_57 (pc' := 60) rfl (fun u7 h8 => ?_)
      refine wk_iconst F dX1_loosen_60 ic_1 (pc' := 61) rfl ?_
      exact hret _ _ _ _ dX1_loosen_61 rfl (by simp only [f1_loosen, h3, h5, h8, if_neg c1, if_pos c6])
    · refine wk_iconst F dX1_loosen_48 ic_0 (pc' := 49) rfl ?_
      exact hret _ _ _ _ dX1_loosen_49 rfl (by simp only [f1_loosen, h3, h5, if_neg c1, if_neg c6])
  · refine wk_iconst F dX1_loosen_15 ic_0 (pc' := 16) rfl ?_
    exact hret _ _ _ _ dX1_loosen_16 rfl (by simp only [f1_loosen, if_pos c1])
def f1_cloneVolume_L41 (p1 : Int32) (y2 : Int32) : Nat → Nat → PS → PS
  | 0, i, u => u
  | n + 1, i, u => (if (f1_isPiece u (f1_pieceAt u p1 (nI i))) = 0 then f1_cloneVolume_L41 p1 y2 n (i + 1) u else ((fun (u2 : PS) => ((fun (u4 : PS) => f1_cloneVolume_L41 p1 y2 n (i + 1) u4) (wr u2 8 (f1_pieceAt u p1 (nI i)).toNatClampNeg ((u2 8 (f1_pieceAt u p1 (nI i)).toNatClampNeg) + (1 : Int32))))) (wr u 6 ((y2 * (40 : Int32)) + (nI i)).toNatClampNeg (f1_pieceAt u p1 (nI i)))))
def f1_cloneVolume (σ : PS) (p1 : Int32) : Int32 × PS := (if (f1_lives σ p1) = 0 then ((-1000001 : Int32), σ) else (match f1_openVolume σ (σ 0 p1.toNatClampNeg) with | (r8, u7) => (if (f1_lives u7 r8) = 0 then (r8, u7) else ((fun (u11 : PS) => ((fun (u14 : PS) => (r8, u14)) (f1_cloneVolume_L41 p1 r8 40 0 u11))) (wr u7 3 r8.toNatClampNeg p1)))))
set_option maxHeartbeats 4000000 in
set_option maxRecDepth 100000 in
theorem c1_cloneVolume (l : Launch) (D : va_G) (cI cP : ClassId) (hs : Nat → Nat) (σ : PS) (p1 : Int32) : CI l yX1_cloneVolume wsX1_cloneVolume ({ frames := 3, cells := 0, slots := 0, locals := 65 } : Room) D (cty cI cP) (wPool cI hs σ) (wPool cI hs) [.ref (hs 0), .int p1] 0 0 (fun r u => f1_cloneVolume σ p1 = (r, u)) := by
  refine CI.of (cc := cX1_cloneVolume) (maxL := 5) (rt := .int) (own := RX1) (lv0 := [(0, .ref (hs 0)), (1, .int p1)]) pnX1 rfl rfl (Nat.le_of_ble_eq_true rfl) rfl (fun p e s m args below meth c A Q F hret => ?_)
  have w_4 := F.at (x := Cond.fieldLink RX1 30 "ThinVolumes$Pool" "spots" "[I") 4 rfl
  have w_5 := F.at (x := Cond.fieldLink RX1 36 "ThinVolumes$Pool" "owners" "[I") 5 rfl
  have w_2 := F.at (x := Cond.fieldLink RX1 9 "ThinVolumes$Pool" "sizes" "[I") 2 rfl
  have w_3 := F.at (x := Cond.fieldLink RX1 21 "ThinVolumes$Pool" "parents" "[I") 3 rfl
  have w_1 := F.at (x := Cond.constant RX1 124 (-1000001)) 1 rfl
  have k_1 : ∀ w ∈ wsX10, w ∈ wsX1_cloneVolume := fun _ h => List.mem_cons_of_mem _ (List.mem_append_right _ (h))
  have L41 : ∀ (y2 : Int32) (n : Nat) (i : Nat) (u : PS), i + n = 40 → vp_in y2 8 → (∀ (uu : PS), f1_cloneVolume_L41 p1 y2 n i u = uu → Wk p l e ({ frames := 3, cells := 0, slots := 0, locals := 65 } : Room) s m args below meth c 5 D A 0 0 Q (wPool cI hs uu) [(2, .int y2)] 94 []) → Wk p l e ({ frames := 3, cells := 0, slots := 0, locals := 65 } : Room) s m args below meth c 5 D A 0 0 Q (wPool cI hs u) [(0, .ref (hs 0)), (1, .int p1), (2, .int y2), (3, .int (nI i))] 41 [] := by
    intro y2 n
    induction n with
    | zero =>
      intro i u hi hv0 kx
      refine wk_iload_n F dX1_cloneVolume_41 rfl 3 rfl (pc' := 42) rfl ?_
      refine wk_bipush F dX1_cloneVolume_42 bp_40 (pc' := 44) rfl ?_
      refine wk_icmp_ge (tgt := 94) F dX1_cloneVolume_44 (by decide) (pc' := 47) rfl (fun _ => ?_) (fun c => absurd ((nI_leI (a := 40) (b := i) (by omega) (by omega)).mpr (by omega)) c)
      refine wk_lv [2] rfl ?_
      exact kx u (by simp only [f1_cloneVolume_L41])
    | succ n ih =>
      intro i u hi hv0 kx
      refine wk_iload_n F dX1_cloneVolume_41 rfl 3 rfl (pc' := 42) rfl ?_
      refine wk_bipush F dX1_cloneVolume_42 bp_40 (pc' := 44) rfl ?_
      refine wk_icmp_ge (tgt := 94) F dX1_cloneVolume_44 (by decide) (pc' := 47) rfl (fun c => absurd ((nI_leI (a := 40) (b := i) (by omega) (by omega)).mp c) (by omega)) (fun _ => ?_)
      refine wk_aload_n F dX1_cloneVolume_47 rfl 0 rfl (pc' := 48) rfl ?_
      refine wk_iload_n F dX1_cloneVolume_48 rfl 1 rfl (pc' := 49) rfl ?_
      refine wk_iload_n F dX1_cloneVolume_49 rfl 3 rfl (pc' := 50) rfl ?_
      refine wk_same_p F (c1_pieceAt l D cI cP hs u p1 (nI i)) (cwV 2 F.hts gX1_cloneVolume_X1_pieceAt rfl rfl rfl hdX1_pieceAt ⟨Nat.le_of_ble_eq_true rfl, Nat.le_of_ble_eq_true rfl⟩) 0 1 rfl rfl rfl rfl (Nat.le_of_ble_eq_true rfl) dX1_cloneVolume_50 ⟨Nat.zero_le _, Nat.zero_le _⟩ (pc' := 53) rfl ?_
      refine wk_istore (lv' := [(4, .int (f1_pieceAt u p1 (nI i))), (0, .ref (hs 0)), (1, .int p1), (2, .int y2), (3, .int (nI i))]) F dX1_cloneVolume_53 (Nat.le_of_ble_eq_true rfl) rfl (pc' := 55) rfl ?_
      refine wk_aload_n F dX1_cloneVolume_55 rfl 1 rfl (pc' := 56) rfl ?_
      refine wk_iload F dX1_cloneVolume_56 0 rfl (pc' := 58) rfl ?_
      refine wk_same_p F (c1_isPiece l D cI cP hs u (f1_pieceAt u p1 (nI i))) (cwV 1 F.hts gX1_cloneVolume_X1_isPiece rfl rfl rfl hdX1_isPiece ⟨Nat.le_of_ble_eq_true rfl, Nat.le_of_ble_eq_true rfl⟩) 0 1 rfl rfl rfl rfl (Nat.le_of_ble_eq_true rfl) dX1_cloneVolume_58 ⟨Nat.zero_le _, Nat.zero_le _⟩ (pc' := 61) rfl ?_
      refine wk_if_eq (tgt := 88) F dX1_cloneVolume_61 (by decide) (pc' := 64) rfl (fun c1 => ?_) (fun c1 => ?_)
      · refine wk_iinc (k := 4) (v := nI (i + 1)) (lv' := [(3, .int (nI (i + 1))), (4, .int (f1_pieceAt u p1 (nI i))), (0, .ref (hs 0)), (1, .int p1), (2, .int y2)]) F dX1_cloneVolume_88 rfl (nI_inc i) (Nat.le_of_ble_eq_true rfl) rfl (pc' := 91) rfl ?_
        refine wk_goto (tgt := 41) F dX1_cloneVolume_91 (by decide) ?_
        refine wk_lv [2, 3, 4, 0] rfl ?_
        exact ih (i + 1) u (by omega) hv0 (fun u_ h_ => kx u_ (Eq.trans (by simp only [f1_cloneVolume_L41, if_pos c1]) h_))
      · refine wk_aload_n F dX1_cloneVolume_64 rfl 1 rfl (pc' := 65) rfl ?_
        refine wk_get (C := RX1) (T := TX1) (N := 14) F 0 rfl rfl k_1 6 (Nat.le_of_ble_eq_true rfl) w_4 rfl dX1_cloneVolume_65 (pc' := 68) rfl ?_
        refine wk_iload_n F dX1_cloneVolume_68 rfl 3 rfl (pc' := 69) rfl ?_
        refine wk_bipush F dX1_cloneVolume_69 bp_40 (pc' := 71) rfl ?_
        refine wk_imul F dX1_cloneVolume_71 (pc' := 72) rfl ?_
        refine wk_iload_n F dX1_cloneVolume_72 rfl 4 rfl (pc' := 73) rfl ?_
        refine wk_iadd F dX1_cloneVolume_73 (pc' := 74) rfl ?_
        refine wk_iload F dX1_cloneVolume_74 0 rfl (pc' := 76) rfl ?_
        refine wk_iastu (wg := wPool cI hs) (f0 := wr u 6 ((y2 * (40 : Int32)) + (nI i)).toNatClampNeg (f1_pieceAt u p1 (nI i))) F 7 0 rfl rfl aP_6 (ix_spot hv0 (vp_in_nI (n := i) (N := 40) (by omega) (Nat.le_of_ble_eq_true rfl))) dX1_cloneVolume_76 (pc' := 77) rfl (fun u2 h3 => ?_)
        refine wk_aload_n F dX1_cloneVolume_77 rfl 1 rfl (pc' := 78) rfl ?_
        refine wk_get (C := RX1) (T := TX1) (N := 14) F 0 rfl rfl k_1 8 (Nat.le_of_ble_eq_true rfl) w_5 rfl dX1_cloneVolume_78 (pc' := 81) rfl ?_
        refine wk_iload F dX1_cloneVolume_81 0 rfl (pc' := 83) rfl ?_
        refine wk_dup2 F dX1_cloneVolume_83 rfl rfl (pc' := 84) rfl ?_
        refine wk_iald F 9 0 rfl rfl (isPiece_in c1) dX1_cloneVolume_84 (pc' := 85) rfl ?_
        refine wk_iconst F dX1_cloneVolume_85 ic_1 (pc' := 86) rfl ?_
        refine wk_iadd F dX1_cloneVolume_86 (pc' := 87) rfl ?_
        refine wk_iastu (wg := wPool cI hs) (f0 := wr u2 8 (f1_pieceAt u p1 (nI i)).toNatClampNeg ((u2 8 (f1_pieceAt u p1 (nI i)).toNatClampNeg) + (1 : Int32))) F 9 0 rfl rfl aP_8 (isPiece_in c1) dX1_cloneVolume_87 (pc' := 88) rfl (fun u4 h5 => ?_)
        refine wk_iinc (k := 4) (v := nI (i + 1)) (lv' := [(3, .int (nI (i + 1))), (4, .int (f1_pieceAt u p1 (nI i))), (0, .ref (hs 0)), (1, .int p1), (2, .int y2)]) F dX1_cloneVolume_88 rfl (nI_inc i) (Nat.le_of_ble_eq_true rfl) rfl (pc' := 91) rfl ?_
        refine wk_goto (tgt := 41) F dX1_cloneVolume_91 (by decide) ?_
        refine wk_lv [2, 3, 4, 0] rfl ?_
        exact ih (i + 1) u4 (by omega) hv0 (fun u_ h_ => kx u_ (Eq.trans (by simp only [f1_cloneVolume_L41, h3, h5, if_neg c1]) h_))
  refine wk_aload_n F dX1_cloneVolume_0 rfl 0 rfl (pc' := 1) rfl ?_
  refine wk_iload_n F dX1_cloneVolume_1 rfl 1 rfl (pc' := 2) rfl ?_
  refine wk_same_p F (c1_lives l D cI cP hs σ p1) (cwV 1 F.hts gX1_cloneVolume_X1_lives rfl rfl rfl hdX1_lives ⟨Nat.le_of_ble_eq_true rfl, Nat.le_of_ble_eq_true rfl⟩) 0 1 rfl rfl rfl rfl (Nat.le_of_ble_eq_true rfl) dX1_cloneVolume_2 ⟨Nat.zero_le _, Nat.zero_le _⟩ (pc' := 5) rfl ?_
  refine wk_if_ne (tgt := 11) F dX1_cloneVolume_5 (by decide) (pc' := 8) rfl (fun c6 => ?_) (fun c6 => ?_)
  · refine wk_aload_n F dX1_cloneVolume_11 rfl 0 rfl (pc' := 12) rfl ?_
    refine wk_aload_n F dX1_cloneVolume_12 rfl 0 rfl (pc' := 13) rfl ?_
    refine wk_get (C := RX1) (T := TX1) (N := 14) F 0 rfl rfl k_1 0 (Nat.le_of_ble_eq_true rfl) w_2 rfl dX1_cloneVolume_13 (pc' := 16) rfl ?_
    refine wk_iload_n F dX1_cloneVolume_16 rfl 1 rfl (pc' := 17) rfl ?_
    refine wk_iald F 1 0 rfl rfl (lives_in c6) dX1_cloneVolume_17 (pc' := 18) rfl ?_
    refine wk_same_i F (c1_openVolume l D cI cP hs σ (σ 0 p1.toNatClampNeg)) (cwV 1 F.hts gX1_cloneVolume_X1_openVolume rfl rfl rfl hdX1_openVolume ⟨Nat.le_of_ble_eq_true rfl, Nat.le_of_ble_eq_true rfl⟩) 0 1 rfl rfl rfl rfl (Nat.le_of_ble_eq_true rfl) dX1_cloneVolume_18 ⟨Nat.zero_le _, Nat.zero_le _⟩ (pc' := 21) rfl (fun r8 u7 h9 => ?_)
    refine wk_istore_n (lv' := [(2, .int r8), (0, .ref (hs 0)), (1, .int p1)]) F dX1_cloneVolume_21 rfl (Nat.le_of_ble_eq_true rfl) rfl (pc' := 22) rfl ?_
    refine wk_aload_n F dX1_cloneVolume_22 rfl 1 rfl (pc' := 23) rfl ?_
    refine wk_iload_n F dX1_cloneVolume_23 rfl 0 rfl (pc' := 24) rfl ?_
    refine wk_same_p F (c1_lives l D cI cP hs u7 r8) (cwV 1 F.hts gX1_cloneVolume_X1_lives rfl rfl rfl hdX1_lives ⟨Nat.le_of_ble_eq_true rfl, Nat.le_of_ble_eq_true rfl⟩) 0 1 rfl rfl rfl rfl (Nat.le_of_ble_eq_true rfl) dX1_cloneVolume_24 ⟨Nat.zero_le _, Nat.zero_le _⟩ (pc' := 27) rfl ?_
    refine wk_if_ne (tgt := 32) F dX1_cloneVolume_27 (by decide) (pc' := 30) rfl (fun c10 => ?_) (fun c10 => ?_)
    · refine wk_aload_n F dX1_cloneVolume_32 rfl 1 rfl (pc' := 33) rfl ?_
      refine wk_get (C := RX1) (T := TX1) (N := 14) F 0 rfl rfl k_1 3 (Nat.le_of_ble_eq_true rfl) w_3 rfl dX1_cloneVolume_33 (pc' := 36) rfl ?_
      refine wk_iload_n F dX1_cloneVolume_36 rfl 0 rfl (pc' := 37) rfl ?_
      refine wk_iload_n F dX1_cloneVolume_37 rfl 2 rfl (pc' := 38) rfl ?_
      refine wk_iastu (wg := wPool cI hs) (f0 := wr u7 3 r8.toNatClampNeg p1) F 4 0 rfl rfl aP_3 (lives_in c10) dX1_cloneVolume_38 (pc' := 39) rfl (fun u11 h12 => ?_)
      refine wk_iconst F dX1_cloneVolume_39 ic_0 (pc' := 40) rfl ?_
      refine wk_istore_n (lv' := [(3, .int (0 : Int32)), (2, .int r8), (0, .ref (hs 0)), (1, .int p1)]) F dX1_cloneVolume_40 rfl (Nat.le_of_ble_eq_true rfl) rfl (pc' := 41) rfl ?_
      refine wk_lv [2, 3, 1, 0] rfl ?_
      refine L41 r8 40 0 u11 (by omega) (lives_in c10) (fun u14 h13 => ?_)
      refine wk_iload_n F dX1_cloneVolume_94 rfl 0 rfl (pc' := 95) rfl ?_
      exact hret _ _ _ _ dX1_cloneVolume_95 rfl (by simp only [f1_cloneVolume, h9, h12, h13, if_neg c6, if_neg c10])
    · refine wk_iload_n F dX1_cloneVolume_30 rfl 0 rfl (pc' := 31) rfl ?_
      exact hret _ _ _ _ dX1_cloneVolume_31 rfl (by simp only [f1_cloneVolume, h9, if_neg c6, if_pos c10])
  · refine wk_ldc F dX1_cloneVolume_8 w_1 (pc' := 10) rfl ?_
    exact hret _ _ _ _ dX1_cloneVolume_10 rfl (by simp only [f1_cloneVolume, if_pos c6])
def f1_dropVolume_L15 (p1 : Int32) : Nat → Nat → Int32 → PS → Int32 × PS
  | 0, i, x2, u => (x2, u)
  | n + 1, i, x2, u => (match f1_loosen u p1 (nI i) with | (r2, u1) => f1_dropVolume_L15 p1 n (i + 1) (x2 + r2) u1)
def f1_dropVolume_L38 (p1 : Int32) (y2 : Int32) : Nat → Nat → PS → PS
  | 0, i, u => u
  | n + 1, i, u => (if (u 3 i) = p1 then ((fun (u5 : PS) => f1_dropVolume_L38 p1 y2 n (i + 1) u5) (wr u 3 i (u 3 p1.toNatClampNeg))) else f1_dropVolume_L38 p1 y2 n (i + 1) u)
def f1_dropVolume (σ : PS) (p1 : Int32) : Int32 × PS := (if (f1_lives σ p1) = 0 then ((-1000001 : Int32), σ) else (match f1_dropVolume_L15 p1 40 0 (0 : Int32) σ with | (y9, u10) => ((fun (u12 : PS) => ((fun (u13 : PS) => ((fun (u15 : PS) => ((fun (u17 : PS) => (y9, u17)) (wr u15 0 p1.toNatClampNeg (0 : Int32)))) (wr u13 2 p1.toNatClampNeg (0 : Int32)))) (wr u12 3 p1.toNatClampNeg (-1 : Int32)))) (f1_dropVolume_L38 p1 y9 8 0 u10))))
set_option maxHeartbeats 4000000 in
set_option maxRecDepth 100000 in
theorem c1_dropVolume (l : Launch) (D : va_G) (cI cP : ClassId) (hs : Nat → Nat) (σ : PS) (p1 : Int32) : CI l yX1_dropVolume wsX1_dropVolume ({ frames := 4, cells := 0, slots := 0, locals := 88 } : Room) D (cty cI cP) (wPool cI hs σ) (wPool cI hs) [.ref (hs 0), .int p1] 0 0 (fun r u => f1_dropVolume σ p1 = (r, u)) := by
  refine CI.of (cc := cX1_dropVolume) (maxL := 4) (rt := .int) (own := RX1) (lv0 := [(0, .ref (hs 0)), (1, .int p1)]) pnX1 rfl rfl (Nat.le_of_ble_eq_true rfl) rfl (fun p e s m args below meth c A Q F hret => ?_)
  have w_2 := F.at (x := Cond.fieldLink RX1 21 "ThinVolumes$Pool" "parents" "[I") 2 rfl
  have w_3 := F.at (x := Cond.fieldLink RX1 18 "ThinVolumes$Pool" "promises" "[I") 3 rfl
  have w_4 := F.at (x := Cond.fieldLink RX1 9 "ThinVolumes$Pool" "sizes" "[I") 4 rfl
  have w_1 := F.at (x := Cond.constant RX1 124 (-1000001)) 1 rfl
  have k_1 : ∀ w ∈ wsX10, w ∈ wsX1_dropVolume := fun _ h => List.mem_cons_of_mem _ (List.mem_append_right _ (h))
  have L15 : ∀ (n : Nat) (i : Nat) (x2 : Int32) (u : PS), i + n = 40 → (∀ (y2 : Int32) (uu : PS), f1_dropVolume_L15 p1 n i x2 u = (y2, uu) → Wk p l e ({ frames := 4, cells := 0, slots := 0, locals := 88 } : Room) s m args below meth c 4 D A 0 0 Q (wPool cI hs uu) [(0, .ref (hs 0)), (1, .int p1), (2, .int y2)] 36 []) → Wk p l e ({ frames := 4, cells := 0, slots := 0, locals := 88 } : Room) s m args below meth c 4 D A 0 0 Q (wPool cI hs u) [(0, .ref (hs 0)), (1, .int p1), (2, .int x2), (3, .int (nI i))] 15 [] := by
    intro n
    induction n with
    | zero =>
      intro i x2 u hi kx
      refine wk_iload_n F dX1_dropVolume_15 rfl 3 rfl (pc' := 16) rfl ?_
      refine wk_bipush F dX1_dropVolume_16 bp_40 (pc' := 18) rfl ?_
      refine wk_icmp_ge (tgt := 36) F dX1_dropVolume_18 (by decide) (pc' := 21) rfl (fun _ => ?_) (fun c => absurd ((nI_leI (a := 40) (b := i) (by omega) (by omega)).mpr (by omega)) c)
      refine wk_lv [0, 1, 2] rfl ?_
      exact kx x2 u (by simp only [f1_dropVolume_L15])
    | succ n ih =>
      intro i x2 u hi kx
      refine wk_iload_n F dX1_dropVolume_15 rfl 3 rfl (pc' := 16) rfl ?_
      refine wk_bipush F dX1_dropVolume_16 bp_40 (pc' := 18) rfl ?_
      refine wk_icmp_ge (tgt := 36) F dX1_dropVolume_18 (by decide) (pc' := 21) rfl (fun c => absurd ((nI_leI (a := 40) (b := i) (by omega) (by omega)).mp c) (by omega)) (fun _ => ?_)
      refine wk_iload_n F dX1_dropVolume_21 rfl 2 rfl (pc' := 22) rfl ?_
      refine wk_aload_n F dX1_dropVolume_22 rfl 0 rfl (pc' := 23) rfl ?_
      refine wk_iload_n F dX1_dropVolume_23 rfl 1 rfl (pc' := 24) rfl ?_
      refine wk_iload_n F dX1_dropVolume_24 rfl 3 rfl (pc' := 25) rfl ?_
      refine wk_same_i F (c1_loosen l D cI cP hs u p1 (nI i)) (cwV 2 F.hts gX1_dropVolume_X1_loosen rfl rfl rfl hdX1_loosen ⟨Nat.le_of_ble_eq_true rfl, Nat.le_of_ble_eq_true rfl⟩) 0 1 rfl rfl rfl rfl (Nat.le_of_ble_eq_true rfl) dX1_dropVolume_25 ⟨Nat.zero_le _, Nat.zero_le _⟩ (pc' := 28) rfl (fun r2 u1 h3 => ?_)
      refine wk_iadd F dX1_dropVolume_28 (pc' := 29) rfl ?_
      refine wk_istore_n (lv' := [(2, .int (x2 + r2)), (0, .ref (hs 0)), (1, .int p1), (3, .int (nI i))]) F dX1_dropVolume_29 rfl (Nat.le_of_ble_eq_true rfl) rfl (pc' := 30) rfl ?_
      refine wk_iinc (k := 3) (v := nI (i + 1)) (lv' := [(3, .int (nI (i + 1))), (2, .int (x2 + r2)), (0, .ref (hs 0)), (1, .int p1)]) F dX1_dropVolume_30 rfl (nI_inc i) (Nat.le_of_ble_eq_true rfl) rfl (pc' := 33) rfl ?_
      refine wk_goto (tgt := 15) F dX1_dropVolume_33 (by decide) ?_
      refine wk_lv [2, 3, 1, 0] rfl ?_
      exact ih (i + 1) (x2 + r2) u1 (by omega) (fun y2_ u_ h_ => kx y2_ u_ (Eq.trans (by simp only [f1_dropVolume_L15, h3]) h_))
  have L38 : ∀ (y2 : Int32) (n : Nat) (i : Nat) (u : PS), i + n = 8 → vp_in p1 8 → (∀ (uu : PS), f1_dropVolume_L38 p1 y2 n i u = uu → Wk p l e ({ frames := 4, cells := 0, slots := 0, locals := 88 } : Room) s m args below meth c 4 D A 0 0 Q (wPool cI hs uu) [(0, .ref (hs 0)), (1, .int p1), (2, .int y2)] 72 []) → Wk p l e ({ frames := 4, cells := 0, slots := 0, locals := 88 } : Room) s m args below meth c 4 D A 0 0 Q (wPool cI hs u) [(0, .ref (hs 0)), (1, .int p1), (2, .int y2), (3, .int (nI i))] 38 [] := by
    intro y2 n
    induction n with
    | zero =>
      intro i u hi hv0 kx
      refine wk_iload_n F dX1_dropVolume_38 rfl 3 rfl (pc' := 39) rfl ?_
      refine wk_bipush F dX1_dropVolume_39 bp_8 (pc' := 41) rfl ?_
      refine wk_icmp_ge (tgt := 72) F dX1_dropVolume_41 (by decide) (pc' := 44) rfl (fun _ => ?_) (fun c => absurd ((nI_leI (a := 8) (b := i) (by omega) (by omega)).mpr (by omega)) c)
      refine wk_lv [0, 1, 2] rfl ?_
      exact kx u (by simp only [f1_dropVolume_L38])
    | succ n ih =>
      intro i u hi hv0 kx
      refine wk_iload_n F dX1_dropVolume_38 rfl 3 rfl (pc' := 39) rfl ?_
      refine wk_bipush F dX1_dropVolume_39 bp_8 (pc' := 41) rfl ?_
      refine wk_icmp_ge (tgt := 72) F dX1_dropVolume_41 (by decide) (pc' := 44) rfl (fun c => absurd ((nI_leI (a := 8) (b := i) (by omega) (by omega)).mp c) (by omega)) (fun _ => ?_)
      refine wk_aload_n F dX1_dropVolume_44 rfl 0 rfl (pc' := 45) rfl ?_
      refine wk_get (C := RX1) (T := TX1) (N := 14) F 0 rfl rfl k_1 3 (Nat.le_of_ble_eq_true rfl) w_2 rfl dX1_dropVolume_45 (pc' := 48) rfl ?_
      refine wk_iload_n F dX1_dropVolume_48 rfl 3 rfl (pc' := 49) rfl ?_
      refine wk_iald_n (i := i) F 4 0 rfl rfl (by omega) (Nat.le_of_ble_eq_true rfl) dX1_dropVolume_49 (pc' := 50) rfl ?_
      refine wk_iload_n F dX1_dropVolume_50 rfl 1 rfl (pc' := 51) rfl ?_
      refine wk_icmp_ne (tgt := 66) F dX1_dropVolume_51 (by decide) (pc' := 54) rfl (fun c4 => ?_) (fun c4 => ?_)
      · refine wk_iinc (k := 3) (v := nI (i + 1)) (lv' := [(3, .int (nI (i + 1))), (0, .ref (hs 0)), (1, .int p1), (2, .int y2)]) F dX1_dropVolume_66 rfl (nI_inc i) (Nat.le_of_ble_eq_true rfl) rfl (pc' := 69) rfl ?_
        refine wk_goto (tgt := 38) F dX1_dropVolume_69 (by decide) ?_
        refine wk_lv [1, 2, 3, 0] rfl ?_
        exact ih (i + 1) u (by omega) hv0 (fun u_ h_ => kx u_ (Eq.trans (by simp only [f1_dropVolume_L38, if_neg c4]) h_))
      · refine wk_aload_n F dX1_dropVolume_54 rfl 0 rfl (pc' := 55) rfl ?_
        refine wk_get (C := RX1) (T := TX1) (N := 14) F 0 rfl rfl k_1 3 (Nat.le_of_ble_eq_true rfl) w_2 rfl dX1_dropVolume_55 (pc' := 58) rfl ?_
        refine wk_iload_n F dX1_dropVolume_58 rfl 3 rfl (pc' := 59) rfl ?_
        refine wk_aload_n F dX1_dropVolume_59 rfl 0 rfl (pc' := 60) rfl ?_
        refine wk_get (C := RX1) (T := TX1) (N := 14) F 0 rfl rfl k_1 3 (Nat.le_of_ble_eq_true rfl) w_2 rfl dX1_dropVolume_60 (pc' := 63) rfl ?_
        refine wk_iload_n F dX1_dropVolume_63 rfl 1 rfl (pc' := 64) rfl ?_
        refine wk_iald F 4 0 rfl rfl hv0 dX1_dropVolume_64 (pc' := 65) rfl ?_
        refine wk_iastu_n (wg := wPool cI hs) (f0 := wr u 3 i (u 3 p1.toNatClampNeg)) (i := i) F 4 0 rfl rfl aP_3 (by omega) (Nat.le_of_ble_eq_true rfl) dX1_dropVolume_65 (pc' := 66) rfl (fun u5 h6 => ?_)
        refine wk_iinc (k := 3) (v := nI (i + 1)) (lv' := [(3, .int (nI (i + 1))), (0, .ref (hs 0)), (1, .int p1), (2, .int y2)]) F dX1_dropVolume_66 rfl (nI_inc i) (Nat.le_of_ble_eq_true rfl) rfl (pc' := 69) rfl ?_
        refine wk_goto (tgt := 38) F dX1_dropVolume_69 (by decide) ?_
        refine wk_lv [1, 2, 3, 0] rfl ?_
        exact ih (i + 1) u5 (by omega) hv0 (fun u_ h_ => kx u_ (Eq.trans (by simp only [f1_dropVolume_L38, h6, if_pos c4]) h_))
  refine wk_aload_n F dX1_dropVolume_0 rfl 0 rfl (pc' := 1) rfl ?_
  refine wk_iload_n F dX1_dropVolume_1 rfl 1 rfl (pc' := 2) rfl ?_
  refine wk_same_p F (c1_lives l D cI cP hs σ p1) (cwV 1 F.hts gX1_dropVolume_X1_lives rfl rfl rfl hdX1_lives ⟨Nat.le_of_ble_eq_true rfl, Nat.le_of_ble_eq_true rfl⟩) 0 1 rfl rfl rfl rfl (Nat.le_of_ble_eq_true rfl) dX1_dropVolume_2 ⟨Nat.zero_le _, Nat.zero_le _⟩ (pc' := 5) rfl ?_
  refine wk_if_ne (tgt := 11) F dX1_dropVolume_5 (by decide) (pc' := 8) rfl (fun c7 => ?_) (fun c7 => ?_)
  · refine wk_iconst F dX1_dropVolume_11 ic_0 (pc' := 12) rfl ?_
    refine wk_istore_n (lv' := [(2, .int (0 : Int32)), (0, .ref (hs 0)), (1, .int p1)]) F dX1_dropVolume_12 rfl (Nat.le_of_ble_eq_true rfl) rfl (pc' := 13) rfl ?_
    refine wk_iconst F dX1_dropVolume_13 ic_0 (pc' := 14) rfl ?_
    refine wk_istore_n (lv' := [(3, .int (0 : Int32)), (2, .int (0 : Int32)), (0, .ref (hs 0)), (1, .int p1)]) F dX1_dropVolume_14 rfl (Nat.le_of_ble_eq_true rfl) rfl (pc' := 15) rfl ?_
    refine wk_lv [2, 3, 1, 0] rfl ?_
    refine L15 40 0 (0 : Int32) σ (by omega) (fun y9 u10 h8 => ?_)
    refine wk_iconst F dX1_dropVolume_36 ic_0 (pc' := 37) rfl ?_
    refine wk_istore_n (lv' := [(3, .int (0 : Int32)), (0, .ref (hs 0)), (1, .int p1), (2, .int y9)]) F dX1_dropVolume_37 rfl (Nat.le_of_ble_eq_true rfl) rfl (pc' := 38) rfl ?_
    refine wk_lv [1, 2, 3, 0] rfl ?_
    refine L38 y9 8 0 u10 (by omega) (lives_in c7) (fun u12 h11 => ?_)
    refine wk_aload_n F dX1_dropVolume_72 rfl 0 rfl (pc' := 73) rfl ?_
    refine wk_get (C := RX1) (T := TX1) (N := 14) F 0 rfl rfl k_1 3 (Nat.le_of_ble_eq_true rfl) w_2 rfl dX1_dropVolume_73 (pc' := 76) rfl ?_
    refine wk_iload_n F dX1_dropVolume_76 rfl 1 rfl (pc' := 77) rfl ?_
    refine wk_iconst F dX1_dropVolume_77 ic_m1 (pc' := 78) rfl ?_
    refine wk_iastu (wg := wPool cI hs) (f0 := wr u12 3 p1.toNatClampNeg (-1 : Int32)) F 4 0 rfl rfl aP_3 (lives_in c7) dX1_dropVolume_78 (pc' := 79) rfl (fun u13 h14 => ?_)
    refine wk_aload_n F dX1_dropVolume_79 rfl 0 rfl (pc' := 80) rfl ?_
    refine wk_get (C := RX1) (T := TX1) (N := 14) F 0 rfl rfl k_1 2 (Nat.le_of_ble_eq_true rfl) w_3 rfl dX1_dropVolume_80 (pc' := 83) rfl ?_
    refine wk_iload_n F dX1_dropVolume_83 rfl 1 rfl (pc' := 84) rfl ?_
    refine wk_iconst F dX1_dropVolume_84 ic_0 (pc' := 85) rfl ?_
    refine wk_iastu (wg := wPool cI hs) (f0 := wr u13 2 p1.toNatClampNeg (0 : Int32)) F 3 0 rfl rfl aP_2 (lives_in c7) dX1_dropVolume_85 (pc' := 86) rfl (fun u15 h16 => ?_)
    refine wk_aload_n F dX1_dropVolume_86 rfl 0 rfl (pc' := 87) rfl ?_
    refine wk_get (C := RX1) (T := TX1) (N := 14) F 0 rfl rfl k_1 0 (Nat.le_of_ble_eq_true rfl) w_4 rfl dX1_dropVolume_87 (pc' := 90) rfl ?_
    refine wk_iload_n F dX1_dropVolume_90 rfl 1 rfl (pc' := 91) rfl ?_
    refine wk_iconst F dX1_dropVolume_91 ic_0 (pc' := 92) rfl ?_
    refine wk_iastu (wg := wPool cI hs) (f0 := wr u15 0 p1.toNatClampNeg (0 : Int32)) F 1 0 rfl rfl aP_0 (lives_in c7) dX1_dropVolume_92 (pc' := 93) rfl (fun u17 h18 => ?_)
    refine wk_iload_n F dX1_dropVolume_93 rfl 2 rfl (pc' := 94) rfl ?_
    exact hret _ _ _ _ dX1_dropVolume_94 rfl (by simp only [f1_dropVolume, h8, h11, h14, h16, h18, if_neg c7])
  · refine wk_ldc F dX1_dropVolume_8 w_1 (pc' := 10) rfl ?_
    exact hret _ _ _ _ dX1_dropVolume_10 rfl (by simp only [f1_dropVolume, if_pos c7])
def f1_changePromise (σ : PS) (p1 : Int32) (p2 : Int32) : Int32 × PS := (if (f1_lives σ p1) = 0 then ((-1000001 : Int32), σ) else (if p2 < 0 then ((-1000001 : Int32), σ) else (if p2 ≤ (30 : Int32) then (if (((f1_allPromises σ) - (σ 2 p1.toNatClampNeg)) + p2) ≤ (f1_freePieces σ) then ((fun (u5 : PS) => ((fun (u7 : PS) => (σ 2 p1.toNatClampNeg, u7)) (f1_warnIfLevelRose u5 (f1_level σ)))) (wr σ 2 p1.toNatClampNeg p2)) else ((-1000002 : Int32), σ)) else ((-1000001 : Int32), σ))))
set_option maxHeartbeats 4000000 in
set_option maxRecDepth 100000 in
theorem c1_changePromise (l : Launch) (D : va_G) (cI cP : ClassId) (hs : Nat → Nat) (σ : PS) (p1 : Int32) (p2 : Int32) : CI l yX1_changePromise wsX1_changePromise ({ frames := 3, cells := 0, slots := 0, locals := 105 } : Room) D (cty cI cP) (wPool cI hs σ) (wPool cI hs) [.ref (hs 0), .int p1, .int p2] 0 0 (fun r u => f1_changePromise σ p1 p2 = (r, u)) := by
  refine CI.of (cc := cX1_changePromise) (maxL := 5) (rt := .int) (own := RX1) (lv0 := [(0, .ref (hs 0)), (1, .int p1), (2, .int p2)]) pnX1 rfl rfl (Nat.le_of_ble_eq_true rfl) rfl (fun p e s m args below meth c A Q F hret => ?_)
  have w_1 := F.at (x := Cond.constant RX1 124 (-1000001)) 1 rfl
  have w_2 := F.at (x := Cond.fieldLink RX1 18 "ThinVolumes$Pool" "promises" "[I") 2 rfl
  have w_3 := F.at (x := Cond.constant RX1 132 (-1000002)) 3 rfl
  have k_1 : ∀ w ∈ wsX10, w ∈ wsX1_changePromise := fun _ h => List.mem_cons_of_mem _ (List.mem_append_left _ (List.mem_append_right _ (h)))
  refine wk_aload_n F dX1_changePromise_0 rfl 0 rfl (pc' := 1) rfl ?_
  refine wk_iload_n F dX1_changePromise_1 rfl 1 rfl (pc' := 2) rfl ?_
  refine wk_same_p F (c1_lives l D cI cP hs σ p1) (cwV 1 F.hts gX1_changePromise_X1_lives rfl rfl rfl hdX1_lives ⟨Nat.le_of_ble_eq_true rfl, Nat.le_of_ble_eq_true rfl⟩) 0 1 rfl rfl rfl rfl (Nat.le_of_ble_eq_true rfl) dX1_changePromise_2 ⟨Nat.zero_le _, Nat.zero_le _⟩ (pc' := 5) rfl ?_
  refine wk_if_eq (tgt := 18) F dX1_changePromise_5 (by decide) (pc' := 8) rfl (fun c1 => ?_) (fun c1 => ?_)
  · refine wk_ldc F dX1_changePromise_18 w_1 (pc' := 20) rfl ?_
    exact hret _ _ _ _ dX1_changePromise_20 rfl (by simp only [f1_changePromise, if_pos c1])
  · refine wk_iload_n F dX1_changePromise_8 rfl 2 rfl (pc' := 9) rfl ?_
    refine wk_if_lt (tgt := 18) F dX1_changePromise_9 (by decide) (pc' := 12) rfl (fun c2 => ?_) (fun c2 => ?_)
    · refine wk_ldc F dX1_changePromise_18 w_1 (pc' := 20) rfl ?_
      exact hret _ _ _ _ dX1_changePromise_20 rfl (by simp only [f1_changePromise, if_neg c1, if_pos c2])
    · refine wk_iload_n F dX1_changePromise_12 rfl 2 rfl (pc' := 13) rfl ?_
      refine wk_bipush F dX1_changePromise_13 bp_30 (pc' := 15) rfl ?_
      refine wk_icmp_le (tgt := 21) F dX1_changePromise_15 (by decide) (pc' := 18) rfl (fun c3 => ?_) (fun c3 => ?_)
      · refine wk_aload_n F dX1_changePromise_21 rfl 0 rfl (pc' := 22) rfl ?_
        refine wk_get (C := RX1) (T := TX1) (N := 14) F 0 rfl rfl k_1 2 (Nat.le_of_ble_eq_true rfl) w_2 rfl dX1_changePromise_22 (pc' := 25) rfl ?_
        refine wk_iload_n F dX1_changePromise_25 rfl 1 rfl (pc' := 26) rfl ?_
        refine wk_iald F 3 0 rfl rfl (lives_in c1) dX1_changePromise_26 (pc' := 27) rfl ?_
        refine wk_istore_n (lv' := [(3, .int (σ 2 p1.toNatClampNeg)), (0, .ref (hs 0)), (1, .int p1), (2, .int p2)]) F dX1_changePromise_27 rfl (Nat.le_of_ble_eq_true rfl) rfl (pc' := 28) rfl ?_
        refine wk_aload_n F dX1_changePromise_28 rfl 1 rfl (pc' := 29) rfl ?_
        refine wk_same_p F (c1_allPromises l D cI cP hs σ) (cwV 0 F.hts gX1_changePromise_X1_allPromises rfl rfl rfl hdX1_allPromises ⟨Nat.le_of_ble_eq_true rfl, Nat.le_of_ble_eq_true rfl⟩) 0 1 rfl rfl rfl rfl (Nat.le_of_ble_eq_true rfl) dX1_changePromise_29 ⟨Nat.zero_le _, Nat.zero_le _⟩ (pc' := 32) rfl ?_
        refine wk_iload_n F dX1_changePromise_32 rfl 0 rfl (pc' := 33) rfl ?_
        refine wk_isub F dX1_changePromise_33 (pc' := 34) rfl ?_
        refine wk_iload_n F dX1_changePromise_34 rfl 3 rfl (pc' := 35) rfl ?_
        refine wk_iadd F dX1_changePromise_35 (pc' := 36) rfl ?_
        refine wk_aload_n F dX1_changePromise_36 rfl 1 rfl (pc' := 37) rfl ?_
        refine wk_same_p F (c1_freePieces l D cI cP hs σ) (cwV 0 F.hts gX1_changePromise_X1_freePieces rfl rfl rfl hdX1_freePieces ⟨Nat.le_of_ble_eq_true rfl, Nat.le_of_ble_eq_true rfl⟩) 0 1 rfl rfl rfl rfl (Nat.le_of_ble_eq_true rfl) dX1_changePromise_37 ⟨Nat.zero_le _, Nat.zero_le _⟩ (pc' := 40) rfl ?_
        refine wk_icmp_le (tgt := 46) F dX1_changePromise_40 (by decide) (pc' := 43) rfl (fun c4 => ?_) (fun c4 => ?_)
        · refine wk_aload_n F dX1_changePromise_46 rfl 1 rfl (pc' := 47) rfl ?_
          refine wk_same_p F (c1_level l D cI cP hs σ) (cwV 0 F.hts gX1_changePromise_X1_level rfl rfl rfl hdX1_level ⟨Nat.le_of_ble_eq_true rfl, Nat.le_of_ble_eq_true rfl⟩) 0 1 rfl rfl rfl rfl (Nat.le_of_ble_eq_true rfl) dX1_changePromise_47 ⟨Nat.zero_le _, Nat.zero_le _⟩ (pc' := 50) rfl ?_
          refine wk_istore (lv' := [(4, .int (f1_level σ)), (3, .int (σ 2 p1.toNatClampNeg)), (0, .ref (hs 0)), (1, .int p1), (2, .int p2)]) F dX1_changePromise_50 (Nat.le_of_ble_eq_true rfl) rfl (pc' := 52) rfl ?_
          refine wk_aload_n F dX1_changePromise_52 rfl 2 rfl (pc' := 53) rfl ?_
          refine wk_get (C := RX1) (T := TX1) (N := 14) F 0 rfl rfl k_1 2 (Nat.le_of_ble_eq_true rfl) w_2 rfl dX1_changePromise_53 (pc' := 56) rfl ?_
          refine wk_iload_n F dX1_changePromise_56 rfl 3 rfl (pc' := 57) rfl ?_
          refine wk_iload_n F dX1_changePromise_57 rfl 4 rfl (pc' := 58) rfl ?_
          refine wk_iastu (wg := wPool cI hs) (f0 := wr σ 2 p1.toNatClampNeg p2) F 3 0 rfl rfl aP_2 (lives_in c1) dX1_changePromise_58 (pc' := 59) rfl (fun u5 h6 => ?_)
          refine wk_aload_n F dX1_changePromise_59 rfl 2 rfl (pc' := 60) rfl ?_
          refine wk_iload F dX1_changePromise_60 0 rfl (pc' := 62) rfl ?_
          refine wk_same_v F (c1_warnIfLevelRose l D cI cP hs u5 (f1_level σ)) (cwV 1 F.hts gX1_changePromise_X1_warnIfLevelRose rfl rfl rfl hdX1_warnIfLevelRose ⟨Nat.le_of_ble_eq_true rfl, Nat.le_of_ble_eq_true rfl⟩) 0 1 rfl rfl rfl rfl (Nat.le_of_ble_eq_true rfl) dX1_changePromise_62 ⟨Nat.zero_le _, Nat.zero_le _⟩ (pc' := 65) rfl (fun u7 h8 => ?_)
          refine wk_iload_n F dX1_changePromise_65 rfl 1 rfl (pc' := 66) rfl ?_
          exact hret _ _ _ _ dX1_changePromise_66 rfl (by simp only [f1_changePromise, h6, h8, if_neg c1, if_neg c2, if_pos c3, if_pos c4])
        · refine wk_ldc F dX1_changePromise_43 w_3 (pc' := 45) rfl ?_
          exact hret _ _ _ _ dX1_changePromise_45 rfl (by simp only [f1_changePromise, if_neg c1, if_neg c2, if_pos c3, if_neg c4])
      · refine wk_ldc F dX1_changePromise_18 w_1 (pc' := 20) rfl ?_
        exact hret _ _ _ _ dX1_changePromise_20 rfl (by simp only [f1_changePromise, if_neg c1, if_neg c2, if_neg c3])
def f1_changeSetting (σ : PS) (p1 : Int32) (p2 : Int32) : Int32 × PS := (if p1 < 0 then ((-1000001 : Int32), σ) else (if (3 : Int32) ≤ p1 then ((-1000001 : Int32), σ) else (if p2 < 0 then ((-1000001 : Int32), σ) else (if p2 ≤ (f1_highestSetting σ p1) then ((fun (u5 : PS) => ((fun (u7 : PS) => (σ 9 p1.toNatClampNeg, u7)) (f1_warnIfLevelRose u5 (f1_level σ)))) (wr σ 9 p1.toNatClampNeg p2)) else ((-1000001 : Int32), σ)))))
set_option maxHeartbeats 4000000 in
set_option maxRecDepth 100000 in
theorem c1_changeSetting (l : Launch) (D : va_G) (cI cP : ClassId) (hs : Nat → Nat) (σ : PS) (p1 : Int32) (p2 : Int32) : CI l yX1_changeSetting wsX1_changeSetting ({ frames := 3, cells := 0, slots := 0, locals := 105 } : Room) D (cty cI cP) (wPool cI hs σ) (wPool cI hs) [.ref (hs 0), .int p1, .int p2] 0 0 (fun r u => f1_changeSetting σ p1 p2 = (r, u)) := by
  refine CI.of (cc := cX1_changeSetting) (maxL := 5) (rt := .int) (own := RX1) (lv0 := [(0, .ref (hs 0)), (1, .int p1), (2, .int p2)]) pnX1 rfl rfl (Nat.le_of_ble_eq_true rfl) rfl (fun p e s m args below meth c A Q F hret => ?_)
  have w_1 := F.at (x := Cond.constant RX1 124 (-1000001)) 1 rfl
  have w_2 := F.at (x := Cond.fieldLink RX1 39 "ThinVolumes$Pool" "settings" "[I") 2 rfl
  have k_1 : ∀ w ∈ wsX10, w ∈ wsX1_changeSetting := fun _ h => List.mem_cons_of_mem _ (List.mem_append_left _ (List.mem_append_right _ (h)))
  refine wk_iload_n F dX1_changeSetting_0 rfl 1 rfl (pc' := 1) rfl ?_
  refine wk_if_lt (tgt := 22) F dX1_changeSetting_1 (by decide) (pc' := 4) rfl (fun c1 => ?_) (fun c1 => ?_)
  · refine wk_ldc F dX1_changeSetting_22 w_1 (pc' := 24) rfl ?_
    exact hret _ _ _ _ dX1_changeSetting_24 rfl (by simp only [f1_changeSetting, if_pos c1])
  · refine wk_iload_n F dX1_changeSetting_4 rfl 1 rfl (pc' := 5) rfl ?_
    refine wk_iconst F dX1_changeSetting_5 ic_3 (pc' := 6) rfl ?_
    refine wk_icmp_ge (tgt := 22) F dX1_changeSetting_6 (by decide) (pc' := 9) rfl (fun c2 => ?_) (fun c2 => ?_)
    · refine wk_ldc F dX1_changeSetting_22 w_1 (pc' := 24) rfl ?_
      exact hret _ _ _ _ dX1_changeSetting_24 rfl (by simp only [f1_changeSetting, if_neg c1, if_pos c2])
    · refine wk_iload_n F dX1_changeSetting_9 rfl 2 rfl (pc' := 10) rfl ?_
      refine wk_if_lt (tgt := 22) F dX1_changeSetting_10 (by decide) (pc' := 13) rfl (fun c3 => ?_) (fun c3 => ?_)
      · refine wk_ldc F dX1_changeSetting_22 w_1 (pc' := 24) rfl ?_
        exact hret _ _ _ _ dX1_changeSetting_24 rfl (by simp only [f1_changeSetting, if_neg c1, if_neg c2, if_pos c3])
      · refine wk_iload_n F dX1_changeSetting_13 rfl 2 rfl (pc' := 14) rfl ?_
        refine wk_aload_n F dX1_changeSetting_14 rfl 0 rfl (pc' := 15) rfl ?_
        refine wk_iload_n F dX1_changeSetting_15 rfl 1 rfl (pc' := 16) rfl ?_
        refine wk_same_p F (c1_highestSetting l D cI cP hs σ p1) (cwV 1 F.hts gX1_changeSetting_X1_highestSetting rfl rfl rfl hdX1_highestSetting ⟨Nat.le_of_ble_eq_true rfl, Nat.le_of_ble_eq_true rfl⟩) 0 1 rfl rfl rfl rfl (Nat.le_of_ble_eq_true rfl) dX1_changeSetting_16 ⟨Nat.zero_le _, Nat.zero_le _⟩ (pc' := 19) rfl ?_
        refine wk_icmp_le (tgt := 25) F dX1_changeSetting_19 (by decide) (pc' := 22) rfl (fun c4 => ?_) (fun c4 => ?_)
        · refine wk_aload_n F dX1_changeSetting_25 rfl 0 rfl (pc' := 26) rfl ?_
          refine wk_get (C := RX1) (T := TX1) (N := 14) F 0 rfl rfl k_1 9 (Nat.le_of_ble_eq_true rfl) w_2 rfl dX1_changeSetting_26 (pc' := 29) rfl ?_
          refine wk_iload_n F dX1_changeSetting_29 rfl 1 rfl (pc' := 30) rfl ?_
          refine wk_iald F 10 0 rfl rfl (vin c1 c2 (Nat.le_of_ble_eq_true rfl)) dX1_changeSetting_30 (pc' := 31) rfl ?_
          refine wk_istore_n (lv' := [(3, .int (σ 9 p1.toNatClampNeg)), (0, .ref (hs 0)), (1, .int p1), (2, .int p2)]) F dX1_changeSetting_31 rfl (Nat.le_of_ble_eq_true rfl) rfl (pc' := 32) rfl ?_
          refine wk_aload_n F dX1_changeSetting_32 rfl 1 rfl (pc' := 33) rfl ?_
          refine wk_same_p F (c1_level l D cI cP hs σ) (cwV 0 F.hts gX1_changeSetting_X1_level rfl rfl rfl hdX1_level ⟨Nat.le_of_ble_eq_true rfl, Nat.le_of_ble_eq_true rfl⟩) 0 1 rfl rfl rfl rfl (Nat.le_of_ble_eq_true rfl) dX1_changeSetting_33 ⟨Nat.zero_le _, Nat.zero_le _⟩ (pc' := 36) rfl ?_
          refine wk_istore (lv' := [(4, .int (f1_level σ)), (3, .int (σ 9 p1.toNatClampNeg)), (0, .ref (hs 0)), (1, .int p1), (2, .int p2)]) F dX1_changeSetting_36 (Nat.le_of_ble_eq_true rfl) rfl (pc' := 38) rfl ?_
          refine wk_aload_n F dX1_changeSetting_38 rfl 2 rfl (pc' := 39) rfl ?_
          refine wk_get (C := RX1) (T := TX1) (N := 14) F 0 rfl rfl k_1 9 (Nat.le_of_ble_eq_true rfl) w_2 rfl dX1_changeSetting_39 (pc' := 42) rfl ?_
          refine wk_iload_n F dX1_changeSetting_42 rfl 3 rfl (pc' := 43) rfl ?_
          refine wk_iload_n F dX1_changeSetting_43 rfl 4 rfl (pc' := 44) rfl ?_
          refine wk_iastu (wg := wPool cI hs) (f0 := wr σ 9 p1.toNatClampNeg p2) F 10 0 rfl rfl aP_9 (vin c1 c2 (Nat.le_of_ble_eq_true rfl)) dX1_changeSetting_44 (pc' := 45) rfl (fun u5 h6 => ?_)
          refine wk_aload_n F dX1_changeSetting_45 rfl 2 rfl (pc' := 46) rfl ?_
          refine wk_iload F dX1_changeSetting_46 0 rfl (pc' := 48) rfl ?_
          refine wk_same_v F (c1_warnIfLevelRose l D cI cP hs u5 (f1_level σ)) (cwV 1 F.hts gX1_changeSetting_X1_warnIfLevelRose rfl rfl rfl hdX1_warnIfLevelRose ⟨Nat.le_of_ble_eq_true rfl, Nat.le_of_ble_eq_true rfl⟩) 0 1 rfl rfl rfl rfl (Nat.le_of_ble_eq_true rfl) dX1_changeSetting_48 ⟨Nat.zero_le _, Nat.zero_le _⟩ (pc' := 51) rfl (fun u7 h8 => ?_)
          refine wk_iload_n F dX1_changeSetting_51 rfl 1 rfl (pc' := 52) rfl ?_
          exact hret _ _ _ _ dX1_changeSetting_52 rfl (by simp only [f1_changeSetting, h6, h8, if_neg c1, if_neg c2, if_neg c3, if_pos c4])
        · refine wk_ldc F dX1_changeSetting_22 w_1 (pc' := 24) rfl ?_
          exact hret _ _ _ _ dX1_changeSetting_24 rfl (by simp only [f1_changeSetting, if_neg c1, if_neg c2, if_neg c3, if_neg c4])
def f1_refuse (σ : PS) (p1 : Int32) : PS := ((fun (u1 : PS) => ((fun (u3 : PS) => ((fun (u5 : PS) => ((fun (u7 : PS) => u7) (f4_add u5 (1 : Int32) p1 (f1_available u5)))) (wr u3 13 0 ((u3 13 0) + (1 : Int32))))) (wr u1 4 p1.toNatClampNeg ((u1 4 p1.toNatClampNeg) + (1 : Int32))))) (wr σ 1 p1.toNatClampNeg (if ((σ 1 p1.toNatClampNeg) - (1 : Int32)) < (0 : Int32) then (0 : Int32) else ((σ 1 p1.toNatClampNeg) - (1 : Int32)))))
set_option maxHeartbeats 4000000 in
set_option maxRecDepth 100000 in
theorem c1_refuse (l : Launch) (D : va_G) (cI cP : ClassId) (hs : Nat → Nat) (σ : PS) (p1 : Int32) (hp_p1 : vp_in p1 8) : CV l yX1_refuse wsX1_refuse ({ frames := 2, cells := 0, slots := 0, locals := 83 } : Room) D (cty cI cP) (wPool cI hs σ) (wPool cI hs) [.ref (hs 0), .int p1] 0 0 (fun u => f1_refuse σ p1 = u) := by
  refine CV.of (cc := cX1_refuse) (maxL := 2) (own := RX1) (lv0 := [(0, .ref (hs 0)), (1, .int p1)]) pnX1 rfl rfl (Nat.le_of_ble_eq_true rfl) rfl (fun p e s m args below meth c A Q F hmn hret => ?_)
  have w_1 := F.at (x := Cond.fieldLink RX1 15 "ThinVolumes$Pool" "manners" "[I") 1 rfl
  have w_2 := F.at (x := Cond.methodLink RX1 91 Lib.Math.max.name) 2 rfl
  have w_3 := F.at (x := Cond.static Lib.Math.max.name) 3 rfl
  have w_4 := F.at (x := Cond.initialized "java/lang/Math") 4 rfl
  have w_5 := F.at (x := Cond.code Lib.Math.max.name Lib.Math.max.code 2 (some .int)) 5 rfl
  have w_6 := F.at (x := Cond.fieldLink RX1 24 "ThinVolumes$Pool" "refusalsOf" "[I") 6 rfl
  have w_7 := F.at (x := Cond.fieldLink RX1 59 "ThinVolumes$Pool" "refusals" "I") 7 rfl
  have w_8 := F.at (x := Cond.fieldLink RX1 45 "ThinVolumes$Pool" "warnings" "LThinVolumes$Warnings;") 8 rfl
  have k_1 : ∀ w ∈ wsX10, w ∈ wsX1_refuse := fun _ h => List.mem_cons_of_mem _ (List.mem_append_left _ (List.mem_append_right _ (h)))
  refine wk_aload_n F dX1_refuse_0 rfl 0 rfl (pc' := 1) rfl ?_
  refine wk_get (C := RX1) (T := TX1) (N := 14) F 0 rfl rfl k_1 1 (Nat.le_of_ble_eq_true rfl) w_1 rfl dX1_refuse_1 (pc' := 4) rfl ?_
  refine wk_iload_n F dX1_refuse_4 rfl 1 rfl (pc' := 5) rfl ?_
  refine wk_aload_n F dX1_refuse_5 rfl 0 rfl (pc' := 6) rfl ?_
  refine wk_get (C := RX1) (T := TX1) (N := 14) F 0 rfl rfl k_1 1 (Nat.le_of_ble_eq_true rfl) w_1 rfl dX1_refuse_6 (pc' := 9) rfl ?_
  refine wk_iload_n F dX1_refuse_9 rfl 1 rfl (pc' := 10) rfl ?_
  refine wk_iald F 2 0 rfl rfl hp_p1 dX1_refuse_10 (pc' := 11) rfl ?_
  refine wk_iconst F dX1_refuse_11 ic_1 (pc' := 12) rfl ?_
  refine wk_isub F dX1_refuse_12 (pc' := 13) rfl ?_
  refine wk_iconst F dX1_refuse_13 ic_0 (pc' := 14) rfl ?_
  refine wk_mmax F w_2 w_3 w_4 w_5 (Nat.le_of_ble_eq_true rfl) (Nat.le_of_ble_eq_true rfl) (Nat.zero_le _) (Nat.zero_le _) dX1_refuse_14 (pc' := 17) rfl ?_
  refine wk_iastu (wg := wPool cI hs) (f0 := wr σ 1 p1.toNatClampNeg (if ((σ 1 p1.toNatClampNeg) - (1 : Int32)) < (0 : Int32) then (0 : Int32) else ((σ 1 p1.toNatClampNeg) - (1 : Int32)))) F 2 0 rfl rfl aP_1 hp_p1 dX1_refuse_17 (pc' := 18) rfl (fun u1 h2 => ?_)
  refine wk_aload_n F dX1_refuse_18 rfl 0 rfl (pc' := 19) rfl ?_
  refine wk_get (C := RX1) (T := TX1) (N := 14) F 0 rfl rfl k_1 4 (Nat.le_of_ble_eq_true rfl) w_6 rfl dX1_refuse_19 (pc' := 22) rfl ?_
  refine wk_iload_n F dX1_refuse_22 rfl 1 rfl (pc' := 23) rfl ?_
  refine wk_dup2 F dX1_refuse_23 rfl rfl (pc' := 24) rfl ?_
  refine wk_iald F 5 0 rfl rfl hp_p1 dX1_refuse_24 (pc' := 25) rfl ?_
  refine wk_iconst F dX1_refuse_25 ic_1 (pc' := 26) rfl ?_
  refine wk_iadd F dX1_refuse_26 (pc' := 27) rfl ?_
  refine wk_iastu (wg := wPool cI hs) (f0 := wr u1 4 p1.toNatClampNeg ((u1 4 p1.toNatClampNeg) + (1 : Int32))) F 5 0 rfl rfl aP_4 hp_p1 dX1_refuse_27 (pc' := 28) rfl (fun u3 h4 => ?_)
  refine wk_aload_n F dX1_refuse_28 rfl 0 rfl (pc' := 29) rfl ?_
  refine wk_dup F dX1_refuse_29 rfl (pc' := 30) rfl ?_
  refine wk_get (C := RX1) (T := TX1) (N := 14) F 0 rfl rfl k_1 11 (Nat.le_of_ble_eq_true rfl) w_7 rfl dX1_refuse_30 (pc' := 33) rfl ?_
  refine wk_iconst F dX1_refuse_33 ic_1 (pc' := 34) rfl ?_
  refine wk_iadd F dX1_refuse_34 (pc' := 35) rfl ?_
  refine wk_putu (wg := wPool cI hs) (f0 := wr u3 13 0 ((u3 13 0) + (1 : Int32))) (C := RX1) (T := TX1) (N := 14) (ty0 := tyX1) F 0 rfl rfl k_1 tyX1_ok nmX1 11 (Nat.le_of_ble_eq_true rfl) w_7 rfl rfl rfl (Nat.le_of_ble_eq_true rfl) sP_0 dX1_refuse_35 (pc' := 38) rfl (fun u5 h6 => ?_)
  refine wk_aload_n F dX1_refuse_38 rfl 0 rfl (pc' := 39) rfl ?_
  refine wk_get (C := RX1) (T := TX1) (N := 14) F 0 rfl rfl k_1 10 (Nat.le_of_ble_eq_true rfl) w_8 rfl dX1_refuse_39 (pc' := 42) rfl ?_
  refine wk_iconst F dX1_refuse_42 ic_1 (pc' := 43) rfl ?_
  refine wk_iload_n F dX1_refuse_43 rfl 1 rfl (pc' := 44) rfl ?_
  refine wk_aload_n F dX1_refuse_44 rfl 0 rfl (pc' := 45) rfl ?_
  refine wk_same_p F (c1_available l D cI cP hs u5) (cwV 0 F.hts gX1_refuse_X1_available rfl rfl rfl hdX1_available ⟨Nat.le_of_ble_eq_true rfl, Nat.le_of_ble_eq_true rfl⟩) 0 1 rfl rfl rfl rfl (Nat.le_of_ble_eq_true rfl) dX1_refuse_45 ⟨Nat.zero_le _, Nat.zero_le _⟩ (pc' := 48) rfl ?_
  refine wk_sub_v (w' := wPool cI hs) (wr := wPool11 cI hs u5) F (c4_add l D cI cP hs u5 (1 : Int32) p1 (f1_available u5)) (cwV 3 F.hts gX1_refuse_X4_add rfl rfl rfl hdX4_add ⟨Nat.le_of_ble_eq_true rfl, Nat.le_of_ble_eq_true rfl⟩) [11, 12, 13, 14] [0, 1, 2, 3, 4, 5, 6, 7, 8, 9, 10] hCW hRW rfl rfl (by decide) 0 4 rfl rfl rfl rfl (Nat.le_of_ble_eq_true rfl) dX1_refuse_48 ⟨Nat.zero_le _, Nat.zero_le _⟩ (pc' := 51) rfl hw_add (fun u7 h8 => ?_)
  exact hret _ _ _ dX1_refuse_51 (by simp only [f1_refuse, h2, h4, h6, h8])
def f1_bookPiece (σ : PS) (p1 : Int32) (p2 : Int32) (p3 : Int32) : PS := ((fun (u1 : PS) => ((fun (u3 : PS) => (if p2 = 0 then ((fun (u11 : PS) => ((fun (u13 : PS) => u13) (f1_warnIfLevelRose u11 p3))) (wr u3 1 p1.toNatClampNeg (f1_mannersBehindUnpromised u3 (u3 1 p1.toNatClampNeg) p3))) else ((fun (u6 : PS) => (if (u6 2 p1.toNatClampNeg) = 0 then ((fun (u9 : PS) => u9) (f4_add u6 (2 : Int32) p1 (f1_available u6))) else u6)) (wr u3 2 p1.toNatClampNeg ((u3 2 p1.toNatClampNeg) - (1 : Int32)))))) (wr u1 13 1 ((u1 13 1) + (1 : Int32))))) (wr σ 5 p1.toNatClampNeg ((σ 5 p1.toNatClampNeg) + (1 : Int32))))
set_option maxHeartbeats 4000000 in
set_option maxRecDepth 100000 in
theorem c1_bookPiece (l : Launch) (D : va_G) (cI cP : ClassId) (hs : Nat → Nat) (σ : PS) (p1 : Int32) (p2 : Int32) (p3 : Int32) (hp_p1 : vp_in p1 8) : CV l yX1_bookPiece wsX1_bookPiece ({ frames := 3, cells := 0, slots := 0, locals := 105 } : Room) D (cty cI cP) (wPool cI hs σ) (wPool cI hs) [.ref (hs 0), .int p1, .int p2, .int p3] 0 0 (fun u => f1_bookPiece σ p1 p2 p3 = u) := by
  refine CV.of (cc := cX1_bookPiece) (maxL := 4) (own := RX1) (lv0 := [(0, .ref (hs 0)), (1, .int p1), (2, .int p2), (3, .int p3)]) pnX1 rfl rfl (Nat.le_of_ble_eq_true rfl) rfl (fun p e s m args below meth c A Q F hmn hret => ?_)
  have w_1 := F.at (x := Cond.fieldLink RX1 27 "ThinVolumes$Pool" "piecesGotBy" "[I") 1 rfl
  have w_2 := F.at (x := Cond.fieldLink RX1 63 "ThinVolumes$Pool" "piecesGot" "I") 2 rfl
  have w_4 := F.at (x := Cond.fieldLink RX1 18 "ThinVolumes$Pool" "promises" "[I") 4 rfl
  have w_5 := F.at (x := Cond.fieldLink RX1 45 "ThinVolumes$Pool" "warnings" "LThinVolumes$Warnings;") 5 rfl
  have w_3 := F.at (x := Cond.fieldLink RX1 15 "ThinVolumes$Pool" "manners" "[I") 3 rfl
  have k_1 : ∀ w ∈ wsX10, w ∈ wsX1_bookPiece := fun _ h => List.mem_cons_of_mem _ (List.mem_append_left _ (List.mem_append_right _ (h)))
  refine wk_aload_n F dX1_bookPiece_0 rfl 0 rfl (pc' := 1) rfl ?_
  refine wk_get (C := RX1) (T := TX1) (N := 14) F 0 rfl rfl k_1 5 (Nat.le_of_ble_eq_true rfl) w_1 rfl dX1_bookPiece_1 (pc' := 4) rfl ?_
  refine wk_iload_n F dX1_bookPiece_4 rfl 1 rfl (pc' := 5) rfl ?_
  refine wk_dup2 F dX1_bookPiece_5 rfl rfl (pc' := 6) rfl ?_
  refine wk_iald F 6 0 rfl rfl hp_p1 dX1_bookPiece_6 (pc' := 7) rfl ?_
  refine wk_iconst F dX1_bookPiece_7 ic_1 (pc' := 8) rfl ?_
  refine wk_iadd F dX1_bookPiece_8 (pc' := 9) rfl ?_
  refine wk_iastu (wg := wPool cI hs) (f0 := wr σ 5 p1.toNatClampNeg ((σ 5 p1.toNatClampNeg) + (1 : Int32))) F 6 0 rfl rfl aP_5 hp_p1 dX1_bookPiece_9 (pc' := 10) rfl (fun u1 h2 => ?_)
  refine wk_aload_n F dX1_bookPiece_10 rfl 0 rfl (pc' := 11) rfl ?_
  refine wk_dup F dX1_bookPiece_11 rfl (pc' := 12) rfl ?_
  refine wk_get (C := RX1) (T := TX1) (N := 14) F 0 rfl rfl k_1 12 (Nat.le_of_ble_eq_true rfl) w_2 rfl dX1_bookPiece_12 (pc' := 15) rfl ?_
  refine wk_iconst F dX1_bookPiece_15 ic_1 (pc' := 16) rfl ?_
  refine wk_iadd F dX1_bookPiece_16 (pc' := 17) rfl ?_
  refine wk_putu (wg := wPool cI hs) (f0 := wr u1 13 1 ((u1 13 1) + (1 : Int32))) (C := RX1) (T := TX1) (N := 14) (ty0 := tyX1) F 0 rfl rfl k_1 tyX1_ok nmX1 12 (Nat.le_of_ble_eq_true rfl) w_2 rfl rfl rfl (Nat.le_of_ble_eq_true rfl) sP_1 dX1_bookPiece_17 (pc' := 20) rfl (fun u3 h4 => ?_)
  refine wk_iload_n F dX1_bookPiece_20 rfl 2 rfl (pc' := 21) rfl ?_
  refine wk_if_ne (tgt := 47) F dX1_bookPiece_21 (by decide) (pc' := 24) rfl (fun c5 => ?_) (fun c5 => ?_)
  · refine wk_aload_n F dX1_bookPiece_47 rfl 0 rfl (pc' := 48) rfl ?_
    refine wk_get (C := RX1) (T := TX1) (N := 14) F 0 rfl rfl k_1 2 (Nat.le_of_ble_eq_true rfl) w_4 rfl dX1_bookPiece_48 (pc' := 51) rfl ?_
    refine wk_iload_n F dX1_bookPiece_51 rfl 1 rfl (pc' := 52) rfl ?_
    refine wk_dup2 F dX1_bookPiece_52 rfl rfl (pc' := 53) rfl ?_
    refine wk_iald F 3 0 rfl rfl hp_p1 dX1_bookPiece_53 (pc' := 54) rfl ?_
    refine wk_iconst F dX1_bookPiece_54 ic_1 (pc' := 55) rfl ?_
    refine wk_isub F dX1_bookPiece_55 (pc' := 56) rfl ?_
    refine wk_iastu (wg := wPool cI hs) (f0 := wr u3 2 p1.toNatClampNeg ((u3 2 p1.toNatClampNeg) - (1 : Int32))) F 3 0 rfl rfl aP_2 hp_p1 dX1_bookPiece_56 (pc' := 57) rfl (fun u6 h7 => ?_)
    refine wk_aload_n F dX1_bookPiece_57 rfl 0 rfl (pc' := 58) rfl ?_
    refine wk_get (C := RX1) (T := TX1) (N := 14) F 0 rfl rfl k_1 2 (Nat.le_of_ble_eq_true rfl) w_4 rfl dX1_bookPiece_58 (pc' := 61) rfl ?_
    refine wk_iload_n F dX1_bookPiece_61 rfl 1 rfl (pc' := 62) rfl ?_
    refine wk_iald F 3 0 rfl rfl hp_p1 dX1_bookPiece_62 (pc' := 63) rfl ?_
    refine wk_if_ne (tgt := 79) F dX1_bookPiece_63 (by decide) (pc' := 66) rfl (fun c8 => ?_) (fun c8 => ?_)
    · exact hret _ _ _ dX1_bookPiece_79 (by simp only [f1_bookPiece, h2, h4, h7, if_neg c5, if_neg c8])
    · refine wk_aload_n F dX1_bookPiece_66 rfl 0 rfl (pc' := 67) rfl ?_
      refine wk_get (C := RX1) (T := TX1) (N := 14) F 0 rfl rfl k_1 10 (Nat.le_of_ble_eq_true rfl) w_5 rfl dX1_bookPiece_67 (pc' := 70) rfl ?_
      refine wk_iconst F dX1_bookPiece_70 ic_2 (pc' := 71) rfl ?_
      refine wk_iload_n F dX1_bookPiece_71 rfl 1 rfl (pc' := 72) rfl ?_
      refine wk_aload_n F dX1_bookPiece_72 rfl 0 rfl (pc' := 73) rfl ?_
      refine wk_same_p F (c1_available l D cI cP hs u6) (cwV 0 F.hts gX1_bookPiece_X1_available rfl rfl rfl hdX1_available ⟨Nat.le_of_ble_eq_true rfl, Nat.le_of_ble_eq_true rfl⟩) 0 1 rfl rfl rfl rfl (Nat.le_of_ble_eq_true rfl) dX1_bookPiece_73 ⟨Nat.zero_le _, Nat.zero_le _⟩ (pc' := 76) rfl ?_
      refine wk_sub_v (w' := wPool cI hs) (wr := wPool11 cI hs u6) F (c4_add l D cI cP hs u6 (2 : Int32) p1 (f1_available u6)) (cwV 3 F.hts gX1_bookPiece_X4_add rfl rfl rfl hdX4_add ⟨Nat.le_of_ble_eq_true rfl, Nat.le_of_ble_eq_true rfl⟩) [11, 12, 13, 14] [0, 1, 2, 3, 4, 5, 6, 7, 8, 9, 10] hCW hRW rfl rfl (by decide) 0 4 rfl rfl rfl rfl (Nat.le_of_ble_eq_true rfl) dX1_bookPiece_76 ⟨Nat.zero_le _, Nat.zero_le _⟩ (pc' := 79) rfl hw_add (fun u9 h10 => ?_)
      exact hret _ _ _ dX1_bookPiece_79 (by simp only [f1_bookPiece, h2, h4, h7, h10, if_neg c5, if_pos c8])
  · refine wk_aload_n F dX1_bookPiece_24 rfl 0 rfl (pc' := 25) rfl ?_
    refine wk_get (C := RX1) (T := TX1) (N := 14) F 0 rfl rfl k_1 1 (Nat.le_of_ble_eq_true rfl) w_3 rfl dX1_bookPiece_25 (pc' := 28) rfl ?_
    refine wk_iload_n F dX1_bookPiece_28 rfl 1 rfl (pc' := 29) rfl ?_
    refine wk_aload_n F dX1_bookPiece_29 rfl 0 rfl (pc' := 30) rfl ?_
    refine wk_aload_n F dX1_bookPiece_30 rfl 0 rfl (pc' := 31) rfl ?_
    refine wk_get (C := RX1) (T := TX1) (N := 14) F 0 rfl rfl k_1 1 (Nat.le_of_ble_eq_true rfl) w_3 rfl dX1_bookPiece_31 (pc' := 34) rfl ?_
    refine wk_iload_n F dX1_bookPiece_34 rfl 1 rfl (pc' := 35) rfl ?_
    refine wk_iald F 2 0 rfl rfl hp_p1 dX1_bookPiece_35 (pc' := 36) rfl ?_
    refine wk_iload_n F dX1_bookPiece_36 rfl 3 rfl (pc' := 37) rfl ?_
    refine wk_same_p F (c1_mannersBehindUnpromised l D cI cP hs u3 (u3 1 p1.toNatClampNeg) p3) (cwV 2 F.hts gX1_bookPiece_X1_mannersBehindUnpromised rfl rfl rfl hdX1_mannersBehindUnpromised ⟨Nat.le_of_ble_eq_true rfl, Nat.le_of_ble_eq_true rfl⟩) 0 1 rfl rfl rfl rfl (Nat.le_of_ble_eq_true rfl) dX1_bookPiece_37 ⟨Nat.zero_le _, Nat.zero_le _⟩ (pc' := 40) rfl ?_
    refine wk_iastu (wg := wPool cI hs) (f0 := wr u3 1 p1.toNatClampNeg (f1_mannersBehindUnpromised u3 (u3 1 p1.toNatClampNeg) p3)) F 2 0 rfl rfl aP_1 hp_p1 dX1_bookPiece_40 (pc' := 41) rfl (fun u11 h12 => ?_)
    refine wk_aload_n F dX1_bookPiece_41 rfl 0 rfl (pc' := 42) rfl ?_
    refine wk_iload_n F dX1_bookPiece_42 rfl 3 rfl (pc' := 43) rfl ?_
    refine wk_same_v F (c1_warnIfLevelRose l D cI cP hs u11 p3) (cwV 1 F.hts gX1_bookPiece_X1_warnIfLevelRose rfl rfl rfl hdX1_warnIfLevelRose ⟨Nat.le_of_ble_eq_true rfl, Nat.le_of_ble_eq_true rfl⟩) 0 1 rfl rfl rfl rfl (Nat.le_of_ble_eq_true rfl) dX1_bookPiece_43 ⟨Nat.zero_le _, Nat.zero_le _⟩ (pc' := 46) rfl (fun u13 h14 => ?_)
    exact hret _ _ _ dX1_bookPiece_46 (by simp only [f1_bookPiece, h2, h4, h12, h14, if_pos c5])
def f1_writePlace (σ : PS) (p1 : Int32) (p2 : Int32) (p3 : Int32) : Int32 × PS := (if (f1_hasPlace σ p1 p2) = 0 then ((-1000001 : Int32), σ) else (if p3 < 0 then ((-1000001 : Int32), σ) else (if p3 ≤ (99 : Int32) then (if (f1_isPiece σ (f1_pieceAt σ p1 p2)) = 0 then (if (σ 2 p1.toNatClampNeg) ≤ 0 then (if (f1_isPiece σ (f1_lowestFreePiece σ)) = 0 then ((fun (u7 : PS) => ((-1000005 : Int32), u7)) (f1_refuse σ p1)) else (if (f1_wouldGetUnpromised σ p1 (σ 1 p1.toNatClampNeg) (f1_available σ)) = 0 then ((fun (u21 : PS) => ((-1000005 : Int32), u21)) (f1_refuse σ p1)) else (match f1_loosen σ p1 p2 with | (r11, u10) => ((fun (u13 : PS) => ((fun (u15 : PS) => ((fun (u17 : PS) => ((fun (u19 : PS) => (f1_lowestFreePiece σ, u19)) (f1_bookPiece u17 p1 (0 : Int32) (f1_level σ)))) (wr u15 7 (f1_lowestFreePiece σ).toNatClampNeg p3))) (wr u13 8 (f1_lowestFreePiece σ).toNatClampNeg (1 : Int32)))) (wr u10 6 ((p1 * (40 : Int32)) + p2).toNatClampNeg (f1_lowestFreePiece σ)))))) else (if (f1_isPiece σ (f1_lowestFreePiece σ)) = 0 then ((fun (u24 : PS) => ((-1000005 : Int32), u24)) (f1_refuse σ p1)) else (match f1_loosen σ p1 p2 with | (r27, u26) => ((fun (u29 : PS) => ((fun (u31 : PS) => ((fun (u33 : PS) => ((fun (u35 : PS) => (f1_lowestFreePiece σ, u35)) (f1_bookPiece u33 p1 (1 : Int32) (f1_level σ)))) (wr u31 7 (f1_lowestFreePiece σ).toNatClampNeg p3))) (wr u29 8 (f1_lowestFreePiece σ).toNatClampNeg (1 : Int32)))) (wr u26 6 ((p1 * (40 : Int32)) + p2).toNatClampNeg (f1_lowestFreePiece σ)))))) else (if (σ 8 (f1_pieceAt σ p1 p2).toNatClampNeg) = (1 : Int32) then ((fun (u70 : PS) => (f1_pieceAt σ p1 p2, u70)) (wr σ 7 (f1_pieceAt σ p1 p2).toNatClampNeg p3)) else (if (σ 2 p1.toNatClampNeg) ≤ 0 then (if (f1_isPiece σ (f1_lowestFreePiece σ)) = 0 then ((fun (u40 : PS) => ((-1000005 : Int32), u40)) (f1_refuse σ p1)) else (if (f1_wouldGetUnpromised σ p1 (σ 1 p1.toNatClampNeg) (f1_available σ)) = 0 then ((fun (u54 : PS) => ((-1000005 : Int32), u54)) (f1_refuse σ p1)) else (match f1_loosen σ p1 p2 with | (r44, u43) => ((fun (u46 : PS) => ((fun (u48 : PS) => ((fun (u50 : PS) => ((fun (u52 : PS) => (f1_lowestFreePiece σ, u52)) (f1_bookPiece u50 p1 (0 : Int32) (f1_level σ)))) (wr u48 7 (f1_lowestFreePiece σ).toNatClampNeg p3))) (wr u46 8 (f1_lowestFreePiece σ).toNatClampNeg (1 : Int32)))) (wr u43 6 ((p1 * (40 : Int32)) + p2).toNatClampNeg (f1_lowestFreePiece σ)))))) else (if (f1_isPiece σ (f1_lowestFreePiece σ)) = 0 then ((fun (u57 : PS) => ((-1000005 : Int32), u57)) (f1_refuse σ p1)) else (match f1_loosen σ p1 p2 with | (r60, u59) => ((fun (u62 : PS) => ((fun (u64 : PS) => ((fun (u66 : PS) => ((fun (u68 : PS) => (f1_lowestFreePiece σ, u68)) (f1_bookPiece u66 p1 (1 : Int32) (f1_level σ)))) (wr u64 7 (f1_lowestFreePiece σ).toNatClampNeg p3))) (wr u62 8 (f1_lowestFreePiece σ).toNatClampNeg (1 : Int32)))) (wr u59 6 ((p1 * (40 : Int32)) + p2).toNatClampNeg (f1_lowestFreePiece σ)))))))) else ((-1000001 : Int32), σ))))
set_option maxHeartbeats 4000000 in
set_option maxRecDepth 100000 in
theorem c1_writePlace (l : Launch) (D : va_G) (cI cP : ClassId) (hs : Nat → Nat) (σ : PS) (p1 : Int32) (p2 : Int32) (p3 : Int32) : CI l yX1_writePlace wsX1_writePlace ({ frames := 4, cells := 0, slots := 0, locals := 128 } : Room) D (cty cI cP) (wPool cI hs σ) (wPool cI hs) [.ref (hs 0), .int p1, .int p2, .int p3] 0 0 (fun r u => f1_writePlace σ p1 p2 p3 = (r, u)) := by
  refine CI.of (cc := cX1_writePlace) (maxL := 8) (rt := .int) (own := RX1) (lv0 := [(0, .ref (hs 0)), (1, .int p1), (2, .int p2), (3, .int p3)]) pnX1 rfl rfl (Nat.le_of_ble_eq_true rfl) rfl (fun p e s m args below meth c A Q F hret => ?_)
  have w_1 := F.at (x := Cond.constant RX1 124 (-1000001)) 1 rfl
  have w_4 := F.at (x := Cond.fieldLink RX1 18 "ThinVolumes$Pool" "promises" "[I") 4 rfl
  have w_6 := F.at (x := Cond.constant RX1 149 (-1000005)) 6 rfl
  have w_5 := F.at (x := Cond.fieldLink RX1 15 "ThinVolumes$Pool" "manners" "[I") 5 rfl
  have w_7 := F.at (x := Cond.fieldLink RX1 30 "ThinVolumes$Pool" "spots" "[I") 7 rfl
  have w_2 := F.at (x := Cond.fieldLink RX1 36 "ThinVolumes$Pool" "owners" "[I") 2 rfl
  have w_3 := F.at (x := Cond.fieldLink RX1 33 "ThinVolumes$Pool" "values" "[I") 3 rfl
  have k_1 : ∀ w ∈ wsX10, w ∈ wsX1_writePlace := fun _ h => List.mem_cons_of_mem _ (List.mem_append_left _ (List.mem_append_right _ (h)))
  refine wk_aload_n F dX1_writePlace_0 rfl 0 rfl (pc' := 1) rfl ?_
  refine wk_iload_n F dX1_writePlace_1 rfl 1 rfl (pc' := 2) rfl ?_
  refine wk_iload_n F dX1_writePlace_2 rfl 2 rfl (pc' := 3) rfl ?_
  refine wk_same_p F (c1_hasPlace l D cI cP hs σ p1 p2) (cwV 2 F.hts gX1_writePlace_X1_hasPlace rfl rfl rfl hdX1_hasPlace ⟨Nat.le_of_ble_eq_true rfl, Nat.le_of_ble_eq_true rfl⟩) 0 1 rfl rfl rfl rfl (Nat.le_of_ble_eq_true rfl) dX1_writePlace_3 ⟨Nat.zero_le _, Nat.zero_le _⟩ (pc' := 6) rfl ?_
  refine wk_if_eq (tgt := 19) F dX1_writePlace_6 (by decide) (pc' := 9) rfl (fun c1 => ?_) (fun c1 => ?_)
  · refine wk_ldc F dX1_writePlace_19 w_1 (pc' := 21) rfl ?_
    exact hret _ _ _ _ dX1_writePlace_21 rfl (by simp only [f1_writePlace, if_pos c1])
  · refine wk_iload_n F dX1_writePlace_9 rfl 3 rfl (pc' := 10) rfl ?_
    refine wk_if_lt (tgt := 19) F dX1_writePlace_10 (by decide) (pc' := 13) rfl (fun c2 => ?_) (fun c2 => ?_)
    · refine wk_ldc F dX1_writePlace_19 w_1 (pc' := 21) rfl ?_
      exact hret _ _ _ _ dX1_writePlace_21 rfl (by simp only [f1_writePlace, if_neg c1, if_pos c2])
    · refine wk_iload_n F dX1_writePlace_13 rfl 3 rfl (pc' := 14) rfl ?_
      refine wk_bipush F dX1_writePlace_14 bp_99 (pc' := 16) rfl ?_
      refine wk_icmp_le (tgt := 22) F dX1_writePlace_16 (by decide) (pc' := 19) rfl (fun c3 => ?_) (fun c3 => ?_)
      · refine wk_aload_n F dX1_writePlace_22 rfl 0 rfl (pc' := 23) rfl ?_
        refine wk_iload_n F dX1_writePlace_23 rfl 1 rfl (pc' := 24) rfl ?_
        refine wk_iload_n F dX1_writePlace_24 rfl 2 rfl (pc' := 25) rfl ?_
        refine wk_same_p F (c1_pieceAt l D cI cP hs σ p1 p2) (cwV 2 F.hts gX1_writePlace_X1_pieceAt rfl rfl rfl hdX1_pieceAt ⟨Nat.le_of_ble_eq_true rfl, Nat.le_of_ble_eq_true rfl⟩) 0 1 rfl rfl rfl rfl (Nat.le_of_ble_eq_true rfl) dX1_writePlace_25 ⟨Nat.zero_le _, Nat.zero_le _⟩ (pc' := 28) rfl ?_
        refine wk_istore (lv' := [(4, .int (f1_pieceAt σ p1 p2)), (0, .ref (hs 0)), (1, .int p1), (2, .int p2), (3, .int p3)]) F dX1_writePlace_28 (Nat.le_of_ble_eq_true rfl) rfl (pc' := 30) rfl ?_
        refine wk_aload_n F dX1_writePlace_30 rfl 1 rfl (pc' := 31) rfl ?_
        refine wk_iload F dX1_writePlace_31 0 rfl (pc' := 33) rfl ?_
        refine wk_same_p F (c1_isPiece l D cI cP hs σ (f1_pieceAt σ p1 p2)) (cwV 1 F.hts gX1_writePlace_X1_isPiece rfl rfl rfl hdX1_isPiece ⟨Nat.le_of_ble_eq_true rfl, Nat.le_of_ble_eq_true rfl⟩) 0 1 rfl rfl rfl rfl (Nat.le_of_ble_eq_true rfl) dX1_writePlace_33 ⟨Nat.zero_le _, Nat.zero_le _⟩ (pc' := 36) rfl ?_
        refine wk_if_eq (tgt := 61) F dX1_writePlace_36 (by decide) (pc' := 39) rfl (fun c4 => ?_) (fun c4 => ?_)
        · refine wk_aload_n F dX1_writePlace_61 rfl 1 rfl (pc' := 62) rfl ?_
          refine wk_same_p F (c1_lowestFreePiece l D cI cP hs σ) (cwV 0 F.hts gX1_writePlace_X1_lowestFreePiece rfl rfl rfl hdX1_lowestFreePiece ⟨Nat.le_of_ble_eq_true rfl, Nat.le_of_ble_eq_true rfl⟩) 0 1 rfl rfl rfl rfl (Nat.le_of_ble_eq_true rfl) dX1_writePlace_62 ⟨Nat.zero_le _, Nat.zero_le _⟩ (pc' := 65) rfl ?_
          refine wk_istore (lv' := [(5, .int (f1_lowestFreePiece σ)), (4, .int (f1_pieceAt σ p1 p2)), (0, .ref (hs 0)), (1, .int p1), (2, .int p2), (3, .int p3)]) F dX1_writePlace_65 (Nat.le_of_ble_eq_true rfl) rfl (pc' := 67) rfl ?_
          refine wk_aload_n F dX1_writePlace_67 rfl 2 rfl (pc' := 68) rfl ?_
          refine wk_get (C := RX1) (T := TX1) (N := 14) F 0 rfl rfl k_1 2 (Nat.le_of_ble_eq_true rfl) w_4 rfl dX1_writePlace_68 (pc' := 71) rfl ?_
          refine wk_iload_n F dX1_writePlace_71 rfl 3 rfl (pc' := 72) rfl ?_
          refine wk_iald F 3 0 rfl rfl (hasPlace_v c1) dX1_writePlace_72 (pc' := 73) rfl ?_
          refine wk_if_le (tgt := 80) F dX1_writePlace_73 (by decide) (pc' := 76) rfl (fun c5 => ?_) (fun c5 => ?_)
          · refine wk_iconst F dX1_writePlace_80 ic_0 (pc' := 81) rfl ?_
            refine wk_istore (lv' := [(6, .int (0 : Int32)), (5, .int (f1_lowestFreePiece σ)), (4, .int (f1_pieceAt σ p1 p2)), (0, .ref (hs 0)), (1, .int p1), (2, .int p2), (3, .int p3)]) F dX1_writePlace_81 (Nat.le_of_ble_eq_true rfl) rfl (pc' := 83) rfl ?_
            refine wk_aload_n F dX1_writePlace_83 rfl 3 rfl (pc' := 84) rfl ?_
            refine wk_iload F dX1_writePlace_84 1 rfl (pc' := 86) rfl ?_
            refine wk_same_p F (c1_isPiece l D cI cP hs σ (f1_lowestFreePiece σ)) (cwV 1 F.hts gX1_writePlace_X1_isPiece rfl rfl rfl hdX1_isPiece ⟨Nat.le_of_ble_eq_true rfl, Nat.le_of_ble_eq_true rfl⟩) 0 1 rfl rfl rfl rfl (Nat.le_of_ble_eq_true rfl) dX1_writePlace_86 ⟨Nat.zero_le _, Nat.zero_le _⟩ (pc' := 89) rfl ?_
            refine wk_if_eq (tgt := 115) F dX1_writePlace_89 (by decide) (pc' := 92) rfl (fun c6 => ?_) (fun c6 => ?_)
            · refine wk_aload_n F dX1_writePlace_115 rfl 3 rfl (pc' := 116) rfl ?_
              refine wk_iload_n F dX1_writePlace_116 rfl 4 rfl (pc' := 117) rfl ?_
              refine wk_same_v F (c1_refuse l D cI cP hs σ p1 (hasPlace_v c1)) (cwV 1 F.hts gX1_writePlace_X1_refuse rfl rfl rfl hdX1_refuse ⟨Nat.le_of_ble_eq_true rfl, Nat.le_of_ble_eq_true rfl⟩) 0 1 rfl rfl rfl rfl (Nat.le_of_ble_eq_true rfl) dX1_writePlace_117 ⟨Nat.zero_le _, Nat.zero_le _⟩ (pc' := 120) rfl (fun u7 h8 => ?_)
              refine wk_ldc F dX1_writePlace_120 w_6 (pc' := 122) rfl ?_
              exact hret _ _ _ _ dX1_writePlace_122 rfl (by simp only [f1_writePlace, h8, if_neg c1, if_neg c2, if_pos c3, if_pos c4, if_pos c5, if_pos c6])
            · refine wk_iload F dX1_writePlace_92 0 rfl (pc' := 94) rfl ?_
              refine wk_if_ne (tgt := 123) F dX1_writePlace_94 (by decide) (pc' := 97) rfl (fun c => absurd (by decide) c) (fun _ => ?_)
              refine wk_aload_n F dX1_writePlace_97 rfl 3 rfl (pc' := 98) rfl ?_
              refine wk_iload_n F dX1_writePlace_98 rfl 4 rfl (pc' := 99) rfl ?_
              refine wk_aload_n F dX1_writePlace_99 rfl 3 rfl (pc' := 100) rfl ?_
              refine wk_get (C := RX1) (T := TX1) (N := 14) F 0 rfl rfl k_1 1 (Nat.le_of_ble_eq_true rfl) w_5 rfl dX1_writePlace_100 (pc' := 103) rfl ?_
              refine wk_iload_n F dX1_writePlace_103 rfl 4 rfl (pc' := 104) rfl ?_
              refine wk_iald F 2 0 rfl rfl (hasPlace_v c1) dX1_writePlace_104 (pc' := 105) rfl ?_
              refine wk_aload_n F dX1_writePlace_105 rfl 3 rfl (pc' := 106) rfl ?_
              refine wk_same_p F (c1_available l D cI cP hs σ) (cwV 0 F.hts gX1_writePlace_X1_available rfl rfl rfl hdX1_available ⟨Nat.le_of_ble_eq_true rfl, Nat.le_of_ble_eq_true rfl⟩) 0 1 rfl rfl rfl rfl (Nat.le_of_ble_eq_true rfl) dX1_writePlace_106 ⟨Nat.zero_le _, Nat.zero_le _⟩ (pc' := 109) rfl ?_
              refine wk_same_p F (c1_wouldGetUnpromised l D cI cP hs σ p1 (σ 1 p1.toNatClampNeg) (f1_available σ)) (cwV 3 F.hts gX1_writePlace_X1_wouldGetUnpromised rfl rfl rfl hdX1_wouldGetUnpromised ⟨Nat.le_of_ble_eq_true rfl, Nat.le_of_ble_eq_true rfl⟩) 0 1 rfl rfl rfl rfl (Nat.le_of_ble_eq_true rfl) dX1_writePlace_109 ⟨Nat.zero_le _, Nat.zero_le _⟩ (pc' := 112) rfl ?_
              refine wk_if_ne (tgt := 123) F dX1_writePlace_112 (by decide) (pc' := 115) rfl (fun c9 => ?_) (fun c9 => ?_)
              · refine wk_aload_n F dX1_writePlace_123 rfl 3 rfl (pc' := 124) rfl ?_
                refine wk_same_p F (c1_level l D cI cP hs σ) (cwV 0 F.hts gX1_writePlace_X1_level rfl rfl rfl hdX1_level ⟨Nat.le_of_ble_eq_true rfl, Nat.le_of_ble_eq_true rfl⟩) 0 1 rfl rfl rfl rfl (Nat.le_of_ble_eq_true rfl) dX1_writePlace_124 ⟨Nat.zero_le _, Nat.zero_le _⟩ (pc' := 127) rfl ?_
                refine wk_istore (lv' := [(7, .int (f1_level σ)), (6, .int (0 : Int32)), (5, .int (f1_lowestFreePiece σ)), (4, .int (f1_pieceAt σ p1 p2)), (0, .ref (hs 0)), (1, .int p1), (2, .int p2), (3, .int p3)]) F dX1_writePlace_127 (Nat.le_of_ble_eq_true rfl) rfl (pc' := 129) rfl ?_
                refine wk_aload_n F dX1_writePlace_129 rfl 4 rfl (pc' := 130) rfl ?_
                refine wk_iload_n F dX1_writePlace_130 rfl 5 rfl (pc' := 131) rfl ?_
                refine wk_iload_n F dX1_writePlace_131 rfl 6 rfl (pc' := 132) rfl ?_
                refine wk_same_i F (c1_loosen l D cI cP hs σ p1 p2) (cwV 2 F.hts gX1_writePlace_X1_loosen rfl rfl rfl hdX1_loosen ⟨Nat.le_of_ble_eq_true rfl, Nat.le_of_ble_eq_true rfl⟩) 0 1 rfl rfl rfl rfl (Nat.le_of_ble_eq_true rfl) dX1_writePlace_132 ⟨Nat.zero_le _, Nat.zero_le _⟩ (pc' := 135) rfl (fun r11 u10 h12 => ?_)
                refine wk_pop F dX1_writePlace_135 rfl (pc' := 136) rfl ?_
                refine wk_aload_n F dX1_writePlace_136 rfl 4 rfl (pc' := 137) rfl ?_
                refine wk_get (C := RX1) (T := TX1) (N := 14) F 0 rfl rfl k_1 6 (Nat.le_of_ble_eq_true rfl) w_7 rfl dX1_writePlace_137 (pc' := 140) rfl ?_
                refine wk_iload_n F dX1_writePlace_140 rfl 5 rfl (pc' := 141) rfl ?_
                refine wk_bipush F dX1_writePlace_141 bp_40 (pc' := 143) rfl ?_
                refine wk_imul F dX1_writePlace_143 (pc' := 144) rfl ?_
                refine wk_iload_n F dX1_writePlace_144 rfl 6 rfl (pc' := 145) rfl ?_
                refine wk_iadd F dX1_writePlace_145 (pc' := 146) rfl ?_
                refine wk_iload F dX1_writePlace_146 2 rfl (pc' := 148) rfl ?_
                refine wk_iastu (wg := wPool cI hs) (f0 := wr u10 6 ((p1 * (40 : Int32)) + p2).toNatClampNeg (f1_lowestFreePiece σ)) F 7 0 rfl rfl aP_6 (ix_spot (hasPlace_v c1) (hasPlace_p c1)) dX1_writePlace_148 (pc' := 149) rfl (fun u13 h14 => ?_)
                refine wk_aload_n F dX1_writePlace_149 rfl 4 rfl (pc' := 150) rfl ?_
                refine wk_get (C := RX1) (T := TX1) (N := 14) F 0 rfl rfl k_1 8 (Nat.le_of_ble_eq_true rfl) w_2 rfl dX1_writePlace_150 (pc' := 153) rfl ?_
                refine wk_iload F dX1_writePlace_153 2 rfl (pc' := 155) rfl ?_
                refine wk_iconst F dX1_writePlace_155 ic_1 (pc' := 156) rfl ?_
                refine wk_iastu (wg := wPool cI hs) (f0 := wr u13 8 (f1_lowestFreePiece σ).toNatClampNeg (1 : Int32)) F 9 0 rfl rfl aP_8 (isPiece_in c6) dX1_writePlace_156 (pc' := 157) rfl (fun u15 h16 => ?_)
                refine wk_aload_n F dX1_writePlace_157 rfl 4 rfl (pc' := 158) rfl ?_
                refine wk_get (C := RX1) (T := TX1) (N := 14) F 0 rfl rfl k_1 7 (Nat.le_of_ble_eq_true rfl) w_3 rfl dX1_writePlace_158 (pc' := 161) rfl ?_
                refine wk_iload F dX1_writePlace_161 2 rfl (pc' := 163) rfl ?_
                refine wk_iload_n F dX1_writePlace_163 rfl 7 rfl (pc' := 164) rfl ?_
                refine wk_iastu (wg := wPool cI hs) (f0 := wr u15 7 (f1_lowestFreePiece σ).toNatClampNeg p3) F 8 0 rfl rfl aP_7 (isPiece_in c6) dX1_writePlace_164 (pc' := 165) rfl (fun u17 h18 => ?_)
                refine wk_aload_n F dX1_writePlace_165 rfl 4 rfl (pc' := 166) rfl ?_
                refine wk_iload_n F dX1_writePlace_166 rfl 5 rfl (pc' := 167) rfl ?_
                refine wk_iload F dX1_writePlace_167 1 rfl (pc' := 169) rfl ?_
                refine wk_iload F dX1_writePlace_169 0 rfl (pc' := 171) rfl ?_
                refine wk_same_v F (c1_bookPiece l D cI cP hs u17 p1 (0 : Int32) (f1_level σ) (hasPlace_v c1)) (cwV 3 F.hts gX1_writePlace_X1_bookPiece rfl rfl rfl hdX1_bookPiece ⟨Nat.le_of_ble_eq_true rfl, Nat.le_of_ble_eq_true rfl⟩) 0 1 rfl rfl rfl rfl (Nat.le_of_ble_eq_true rfl) dX1_writePlace_171 ⟨Nat.zero_le _, Nat.zero_le _⟩ (pc' := 174) rfl (fun u19 h20 => ?_)
                refine wk_iload F dX1_writePlace_174 2 rfl (pc' := 176) rfl ?_
                exact hret _ _ _ _ dX1_writePlace_176 rfl (by simp only [f1_writePlace, h12, h14, h16, h18, h20, if_neg c1, if_neg c2, if_pos c3, if_pos c4, if_pos c5, if_neg c6, if_neg c9])
              · refine wk_aload_n F dX1_writePlace_115 rfl 3 rfl (pc' := 116) rfl ?_
                refine wk_iload_n F dX1_writePlace_116 rfl 4 rfl (pc' := 117) rfl ?_
                refine wk_same_v F (c1_refuse l D cI cP hs σ p1 (hasPlace_v c1)) (cwV 1 F.hts gX1_writePlace_X1_refuse rfl rfl rfl hdX1_refuse ⟨Nat.le_of_ble_eq_true rfl, Nat.le_of_ble_eq_true rfl⟩) 0 1 rfl rfl rfl rfl (Nat.le_of_ble_eq_true rfl) dX1_writePlace_117 ⟨Nat.zero_le _, Nat.zero_le _⟩ (pc' := 120) rfl (fun u21 h22 => ?_)
                refine wk_ldc F dX1_writePlace_120 w_6 (pc' := 122) rfl ?_
                exact hret _ _ _ _ dX1_writePlace_122 rfl (by simp only [f1_writePlace, h22, if_neg c1, if_neg c2, if_pos c3, if_pos c4, if_pos c5, if_neg c6, if_pos c9])
          · refine wk_iconst F dX1_writePlace_76 ic_1 (pc' := 77) rfl ?_
            refine wk_goto (tgt := 81) F dX1_writePlace_77 (by decide) ?_
            refine wk_istore (lv' := [(6, .int (1 : Int32)), (5, .int (f1_lowestFreePiece σ)), (4, .int (f1_pieceAt σ p1 p2)), (0, .ref (hs 0)), (1, .int p1), (2, .int p2), (3, .int p3)]) F dX1_writePlace_81 (Nat.le_of_ble_eq_true rfl) rfl (pc' := 83) rfl ?_
            refine wk_aload_n F dX1_writePlace_83 rfl 3 rfl (pc' := 84) rfl ?_
            refine wk_iload F dX1_writePlace_84 1 rfl (pc' := 86) rfl ?_
            refine wk_same_p F (c1_isPiece l D cI cP hs σ (f1_lowestFreePiece σ)) (cwV 1 F.hts gX1_writePlace_X1_isPiece rfl rfl rfl hdX1_isPiece ⟨Nat.le_of_ble_eq_true rfl, Nat.le_of_ble_eq_true rfl⟩) 0 1 rfl rfl rfl rfl (Nat.le_of_ble_eq_true rfl) dX1_writePlace_86 ⟨Nat.zero_le _, Nat.zero_le _⟩ (pc' := 89) rfl ?_
            refine wk_if_eq (tgt := 115) F dX1_writePlace_89 (by decide) (pc' := 92) rfl (fun c23 => ?_) (fun c23 => ?_)
            · refine wk_aload_n F dX1_writePlace_115 rfl 3 rfl (pc' := 116) rfl ?_
              refine wk_iload_n F dX1_writePlace_116 rfl 4 rfl (pc' := 117) rfl ?_
              refine wk_same_v F (c1_refuse l D cI cP hs σ p1 (hasPlace_v c1)) (cwV 1 F.hts gX1_writePlace_X1_refuse rfl rfl rfl hdX1_refuse ⟨Nat.le_of_ble_eq_true rfl, Nat.le_of_ble_eq_true rfl⟩) 0 1 rfl rfl rfl rfl (Nat.le_of_ble_eq_true rfl) dX1_writePlace_117 ⟨Nat.zero_le _, Nat.zero_le _⟩ (pc' := 120) rfl (fun u24 h25 => ?_)
              refine wk_ldc F dX1_writePlace_120 w_6 (pc' := 122) rfl ?_
              exact hret _ _ _ _ dX1_writePlace_122 rfl (by simp only [f1_writePlace, h25, if_neg c1, if_neg c2, if_pos c3, if_pos c4, if_neg c5, if_pos c23])
            · refine wk_iload F dX1_writePlace_92 0 rfl (pc' := 94) rfl ?_
              refine wk_if_ne (tgt := 123) F dX1_writePlace_94 (by decide) (pc' := 97) rfl (fun _ => ?_) (fun c => absurd c (by decide))
              refine wk_aload_n F dX1_writePlace_123 rfl 3 rfl (pc' := 124) rfl ?_
              refine wk_same_p F (c1_level l D cI cP hs σ) (cwV 0 F.hts gX1_writePlace_X1_level rfl rfl rfl hdX1_level ⟨Nat.le_of_ble_eq_true rfl, Nat.le_of_ble_eq_true rfl⟩) 0 1 rfl rfl rfl rfl (Nat.le_of_ble_eq_true rfl) dX1_writePlace_124 ⟨Nat.zero_le _, Nat.zero_le _⟩ (pc' := 127) rfl ?_
              refine wk_istore (lv' := [(7, .int (f1_level σ)), (6, .int (1 : Int32)), (5, .int (f1_lowestFreePiece σ)), (4, .int (f1_pieceAt σ p1 p2)), (0, .ref (hs 0)), (1, .int p1), (2, .int p2), (3, .int p3)]) F dX1_writePlace_127 (Nat.le_of_ble_eq_true rfl) rfl (pc' := 129) rfl ?_
              refine wk_aload_n F dX1_writePlace_129 rfl 4 rfl (pc' := 130) rfl ?_
              refine wk_iload_n F dX1_writePlace_130 rfl 5 rfl (pc' := 131) rfl ?_
              refine wk_iload_n F dX1_writePlace_131 rfl 6 rfl (pc' := 132) rfl ?_
              refine wk_same_i F (c1_loosen l D cI cP hs σ p1 p2) (cwV 2 F.hts gX1_writePlace_X1_loosen rfl rfl rfl hdX1_loosen ⟨Nat.le_of_ble_eq_true rfl, Nat.le_of_ble_eq_true rfl⟩) 0 1 rfl rfl rfl rfl (Nat.le_of_ble_eq_true rfl) dX1_writePlace_132 ⟨Nat.zero_le _, Nat.zero_le _⟩ (pc' := 135) rfl (fun r27 u26 h28 => ?_)
              refine wk_pop F dX1_writePlace_135 rfl (pc' := 136) rfl ?_
              refine wk_aload_n F dX1_writePlace_136 rfl 4 rfl (pc' := 137) rfl ?_
              refine wk_get (C := RX1) (T := TX1) (N := 14) F 0 rfl rfl k_1 6 (Nat.le_of_ble_eq_true rfl) w_7 rfl dX1_writePlace_137 (pc' := 140) rfl ?_
              refine wk_iload_n F dX1_writePlace_140 rfl 5 rfl (pc' := 141) rfl ?_
              refine wk_bipush F dX1_writePlace_141 bp_40 (pc' := 143) rfl ?_
              refine wk_imul F dX1_writePlace_143 (pc' := 144) rfl ?_
              refine wk_iload_n F dX1_writePlace_144 rfl 6 rfl (pc' := 145) rfl ?_
              refine wk_iadd F dX1_writePlace_145 (pc' := 146) rfl ?_
              refine wk_iload F dX1_writePlace_146 2 rfl (pc' := 148) rfl ?_
              refine wk_iastu (wg := wPool cI hs) (f0 := wr u26 6 ((p1 * (40 : Int32)) + p2).toNatClampNeg (f1_lowestFreePiece σ)) F 7 0 rfl rfl aP_6 (ix_spot (hasPlace_v c1) (hasPlace_p c1)) dX1_writePlace_148 (pc' := 149) rfl (fun u29 h30 => ?_)
              refine wk_aload_n F dX1_writePlace_149 rfl 4 rfl (pc' := 150) rfl ?_
              refine wk_get (C := RX1) (T := TX1) (N := 14) F 0 rfl rfl k_1 8 (Nat.le_of_ble_eq_true rfl) w_2 rfl dX1_writePlace_150 (pc' := 153) rfl ?_
              refine wk_iload F dX1_writePlace_153 2 rfl (pc' := 155) rfl ?_
              refine wk_iconst F dX1_writePlace_155 ic_1 (pc' := 156) rfl ?_
              refine wk_iastu (wg := wPool cI hs) (f0 := wr u29 8 (f1_lowestFreePiece σ).toNatClampNeg (1 : Int32)) F 9 0 rfl rfl aP_8 (isPiece_in c23) dX1_writePlace_156 (pc' := 157) rfl (fun u31 h32 => ?_)
              refine wk_aload_n F dX1_writePlace_157 rfl 4 rfl (pc' := 158) rfl ?_
              refine wk_get (C := RX1) (T := TX1) (N := 14) F 0 rfl rfl k_1 7 (Nat.le_of_ble_eq_true rfl) w_3 rfl dX1_writePlace_158 (pc' := 161) rfl ?_
              refine wk_iload F dX1_writePlace_161 2 rfl (pc' := 163) rfl ?_
              refine wk_iload_n F dX1_writePlace_163 rfl 7 rfl (pc' := 164) rfl ?_
              refine wk_iastu (wg := wPool cI hs) (f0 := wr u31 7 (f1_lowestFreePiece σ).toNatClampNeg p3) F 8 0 rfl rfl aP_7 (isPiece_in c23) dX1_writePlace_164 (pc' := 165) rfl (fun u33 h34 => ?_)
              refine wk_aload_n F dX1_writePlace_165 rfl 4 rfl (pc' := 166) rfl ?_
              refine wk_iload_n F dX1_writePlace_166 rfl 5 rfl (pc' := 167) rfl ?_
              refine wk_iload F dX1_writePlace_167 1 rfl (pc' := 169) rfl ?_
              refine wk_iload F dX1_writePlace_169 0 rfl (pc' := 171) rfl ?_
              refine wk_same_v F (c1_bookPiece l D cI cP hs u33 p1 (1 : Int32) (f1_level σ) (hasPlace_v c1)) (cwV 3 F.hts gX1_writePlace_X1_bookPiece rfl rfl rfl hdX1_bookPiece ⟨Nat.le_of_ble_eq_true rfl, Nat.le_of_ble_eq_true rfl⟩) 0 1 rfl rfl rfl rfl (Nat.le_of_ble_eq_true rfl) dX1_writePlace_171 ⟨Nat.zero_le _, Nat.zero_le _⟩ (pc' := 174) rfl (fun u35 h36 => ?_)
              refine wk_iload F dX1_writePlace_174 2 rfl (pc' := 176) rfl ?_
              exact hret _ _ _ _ dX1_writePlace_176 rfl (by simp only [f1_writePlace, h28, h30, h32, h34, h36, if_neg c1, if_neg c2, if_pos c3, if_pos c4, if_neg c5, if_neg c23])
        · refine wk_aload_n F dX1_writePlace_39 rfl 1 rfl (pc' := 40) rfl ?_
          refine wk_get (C := RX1) (T := TX1) (N := 14) F 0 rfl rfl k_1 8 (Nat.le_of_ble_eq_true rfl) w_2 rfl dX1_writePlace_40 (pc' := 43) rfl ?_
          refine wk_iload F dX1_writePlace_43 0 rfl (pc' := 45) rfl ?_
          refine wk_iald F 9 0 rfl rfl (isPiece_in c4) dX1_writePlace_45 (pc' := 46) rfl ?_
          refine wk_iconst F dX1_writePlace_46 ic_1 (pc' := 47) rfl ?_
          refine wk_icmp_ne (tgt := 61) F dX1_writePlace_47 (by decide) (pc' := 50) rfl (fun c37 => ?_) (fun c37 => ?_)
          · refine wk_aload_n F dX1_writePlace_61 rfl 1 rfl (pc' := 62) rfl ?_
            refine wk_same_p F (c1_lowestFreePiece l D cI cP hs σ) (cwV 0 F.hts gX1_writePlace_X1_lowestFreePiece rfl rfl rfl hdX1_lowestFreePiece ⟨Nat.le_of_ble_eq_true rfl, Nat.le_of_ble_eq_true rfl⟩) 0 1 rfl rfl rfl rfl (Nat.le_of_ble_eq_true rfl) dX1_writePlace_62 ⟨Nat.zero_le _, Nat.zero_le _⟩ (pc' := 65) rfl ?_
            refine wk_istore (lv' := [(5, .int (f1_lowestFreePiece σ)), (4, .int (f1_pieceAt σ p1 p2)), (0, .ref (hs 0)), (1, .int p1), (2, .int p2), (3, .int p3)]) F dX1_writePlace_65 (Nat.le_of_ble_eq_true rfl) rfl (pc' := 67) rfl ?_
            refine wk_aload_n F dX1_writePlace_67 rfl 2 rfl (pc' := 68) rfl ?_
            refine wk_get (C := RX1) (T := TX1) (N := 14) F 0 rfl rfl k_1 2 (Nat.le_of_ble_eq_true rfl) w_4 rfl dX1_writePlace_68 (pc' := 71) rfl ?_
            refine wk_iload_n F dX1_writePlace_71 rfl 3 rfl (pc' := 72) rfl ?_
            refine wk_iald F 3 0 rfl rfl (hasPlace_v c1) dX1_writePlace_72 (pc' := 73) rfl ?_
            refine wk_if_le (tgt := 80) F dX1_writePlace_73 (by decide) (pc' := 76) rfl (fun c38 => ?_) (fun c38 => ?_)
            · refine wk_iconst F dX1_writePlace_80 ic_0 (pc' := 81) rfl ?_
              refine wk_istore (lv' := [(6, .int (0 : Int32)), (5, .int (f1_lowestFreePiece σ)), (4, .int (f1_pieceAt σ p1 p2)), (0, .ref (hs 0)), (1, .int p1), (2, .int p2), (3, .int p3)]) F dX1_writePlace_81 (Nat.le_of_ble_eq_true rfl) rfl (pc' := 83) rfl ?_
              refine wk_aload_n F dX1_writePlace_83 rfl 3 rfl (pc' := 84) rfl ?_
              refine wk_iload F dX1_writePlace_84 1 rfl (pc' := 86) rfl ?_
              refine wk_same_p F (c1_isPiece l D cI cP hs σ (f1_lowestFreePiece σ)) (cwV 1 F.hts gX1_writePlace_X1_isPiece rfl rfl rfl hdX1_isPiece ⟨Nat.le_of_ble_eq_true rfl, Nat.le_of_ble_eq_true rfl⟩) 0 1 rfl rfl rfl rfl (Nat.le_of_ble_eq_true rfl) dX1_writePlace_86 ⟨Nat.zero_le _, Nat.zero_le _⟩ (pc' := 89) rfl ?_
              refine wk_if_eq (tgt := 115) F dX1_writePlace_89 (by decide) (pc' := 92) rfl (fun c39 => ?_) (fun c39 => ?_)
              · refine wk_aload_n F dX1_writePlace_115 rfl 3 rfl (pc' := 116) rfl ?_
                refine wk_iload_n F dX1_writePlace_116 rfl 4 rfl (pc' := 117) rfl ?_
                refine wk_same_v F (c1_refuse l D cI cP hs σ p1 (hasPlace_v c1)) (cwV 1 F.hts gX1_writePlace_X1_refuse rfl rfl rfl hdX1_refuse ⟨Nat.le_of_ble_eq_true rfl, Nat.le_of_ble_eq_true rfl⟩) 0 1 rfl rfl rfl rfl (Nat.le_of_ble_eq_true rfl) dX1_writePlace_117 ⟨Nat.zero_le _, Nat.zero_le _⟩ (pc' := 120) rfl (fun u40 h41 => ?_)
                refine wk_ldc F dX1_writePlace_120 w_6 (pc' := 122) rfl ?_
                exact hret _ _ _ _ dX1_writePlace_122 rfl (by simp only [f1_writePlace, h41, if_neg c1, if_neg c2, if_pos c3, if_neg c4, if_neg c37, if_pos c38, if_pos c39])
              · refine wk_iload F dX1_writePlace_92 0 rfl (pc' := 94) rfl ?_
                refine wk_if_ne (tgt := 123) F dX1_writePlace_94 (by decide) (pc' := 97) rfl (fun c => absurd (by decide) c) (fun _ => ?_)
                refine wk_aload_n F dX1_writePlace_97 rfl 3 rfl (pc' := 98) rfl ?_
                refine wk_iload_n F dX1_writePlace_98 rfl 4 rfl (pc' := 99) rfl ?_
                refine wk_aload_n F dX1_writePlace_99 rfl 3 rfl (pc' := 100) rfl ?_
                refine wk_get (C := RX1) (T := TX1) (N := 14) F 0 rfl rfl k_1 1 (Nat.le_of_ble_eq_true rfl) w_5 rfl dX1_writePlace_100 (pc' := 103) rfl ?_
                refine wk_iload_n F dX1_writePlace_103 rfl 4 rfl (pc' := 104) rfl ?_
                refine wk_iald F 2 0 rfl rfl (hasPlace_v c1) dX1_writePlace_104 (pc' := 105) rfl ?_
                refine wk_aload_n F dX1_writePlace_105 rfl 3 rfl (pc' := 106) rfl ?_
                refine wk_same_p F (c1_available l D cI cP hs σ) (cwV 0 F.hts gX1_writePlace_X1_available rfl rfl rfl hdX1_available ⟨Nat.le_of_ble_eq_true rfl, Nat.le_of_ble_eq_true rfl⟩) 0 1 rfl rfl rfl rfl (Nat.le_of_ble_eq_true rfl) dX1_writePlace_106 ⟨Nat.zero_le _, Nat.zero_le _⟩ (pc' := 109) rfl ?_
                refine wk_same_p F (c1_wouldGetUnpromised l D cI cP hs σ p1 (σ 1 p1.toNatClampNeg) (f1_available σ)) (cwV 3 F.hts gX1_writePlace_X1_wouldGetUnpromised rfl rfl rfl hdX1_wouldGetUnpromised ⟨Nat.le_of_ble_eq_true rfl, Nat.le_of_ble_eq_true rfl⟩) 0 1 rfl rfl rfl rfl (Nat.le_of_ble_eq_true rfl) dX1_writePlace_109 ⟨Nat.zero_le _, Nat.zero_le _⟩ (pc' := 112) rfl ?_
                refine wk_if_ne (tgt := 123) F dX1_writePlace_112 (by decide) (pc' := 115) rfl (fun c42 => ?_) (fun c42 => ?_)
                · refine wk_aload_n F dX1_writePlace_123 rfl 3 rfl (pc' := 124) rfl ?_
                  refine wk_same_p F (c1_level l D cI cP hs σ) (cwV 0 F.hts gX1_writePlace_X1_level rfl rfl rfl hdX1_level ⟨Nat.le_of_ble_eq_true rfl, Nat.le_of_ble_eq_true rfl⟩) 0 1 rfl rfl rfl rfl (Nat.le_of_ble_eq_true rfl) dX1_writePlace_124 ⟨Nat.zero_le _, Nat.zero_le _⟩ (pc' := 127) rfl ?_
                  refine wk_istore (lv' := [(7, .int (f1_level σ)), (6, .int (0 : Int32)), (5, .int (f1_lowestFreePiece σ)), (4, .int (f1_pieceAt σ p1 p2)), (0, .ref (hs 0)), (1, .int p1), (2, .int p2), (3, .int p3)]) F dX1_writePlace_127 (Nat.le_of_ble_eq_true rfl) rfl (pc' := 129) rfl ?_
                  refine wk_aload_n F dX1_writePlace_129 rfl 4 rfl (pc' := 130) rfl ?_
                  refine wk_iload_n F dX1_writePlace_130 rfl 5 rfl (pc' := 131) rfl ?_
                  refine wk_iload_n F dX1_writePlace_131 rfl 6 rfl (pc' := 132) rfl ?_
                  refine wk_same_i F (c1_loosen l D cI cP hs σ p1 p2) (cwV 2 F.hts gX1_writePlace_X1_loosen rfl rfl rfl hdX1_loosen ⟨Nat.le_of_ble_eq_true rfl, Nat.le_of_ble_eq_true rfl⟩) 0 1 rfl rfl rfl rfl (Nat.le_of_ble_eq_true rfl) dX1_writePlace_132 ⟨Nat.zero_le _, Nat.zero_le _⟩ (pc' := 135) rfl (fun r44 u43 h45 => ?_)
                  refine wk_pop F dX1_writePlace_135 rfl (pc' := 136) rfl ?_
                  refine wk_aload_n F dX1_writePlace_136 rfl 4 rfl (pc' := 137) rfl ?_
                  refine wk_get (C := RX1) (T := TX1) (N := 14) F 0 rfl rfl k_1 6 (Nat.le_of_ble_eq_true rfl) w_7 rfl dX1_writePlace_137 (pc' := 140) rfl ?_
                  refine wk_iload_n F dX1_writePlace_140 rfl 5 rfl (pc' := 141) rfl ?_
                  refine wk_bipush F dX1_writePlace_141 bp_40 (pc' := 143) rfl ?_
                  refine wk_imul F dX1_writePlace_143 (pc' := 144) rfl ?_
                  refine wk_iload_n F dX1_writePlace_144 rfl 6 rfl (pc' := 145) rfl ?_
                  refine wk_iadd F dX1_writePlace_145 (pc' := 146) rfl ?_
                  refine wk_iload F dX1_writePlace_146 2 rfl (pc' := 148) rfl ?_
                  refine wk_iastu (wg := wPool cI hs) (f0 := wr u43 6 ((p1 * (40 : Int32)) + p2).toNatClampNeg (f1_lowestFreePiece σ)) F 7 0 rfl rfl aP_6 (ix_spot (hasPlace_v c1) (hasPlace_p c1)) dX1_writePlace_148 (pc' := 149) rfl (fun u46 h47 => ?_)
                  refine wk_aload_n F dX1_writePlace_149 rfl 4 rfl (pc' := 150) rfl ?_
                  refine wk_get (C := RX1) (T := TX1) (N := 14) F 0 rfl rfl k_1 8 (Nat.le_of_ble_eq_true rfl) w_2 rfl dX1_writePlace_150 (pc' := 153) rfl ?_
                  refine wk_iload F dX1_writePlace_153 2 rfl (pc' := 155) rfl ?_
                  refine wk_iconst F dX1_writePlace_155 ic_1 (pc' := 156) rfl ?_
                  refine wk_iastu (wg := wPool cI hs) (f0 := wr u46 8 (f1_lowestFreePiece σ).toNatClampNeg (1 : Int32)) F 9 0 rfl rfl aP_8 (isPiece_in c39) dX1_writePlace_156 (pc' := 157) rfl (fun u48 h49 => ?_)
                  refine wk_aload_n F dX1_writePlace_157 rfl 4 rfl (pc' := 158) rfl ?_
                  refine wk_get (C := RX1) (T := TX1) (N := 14) F 0 rfl rfl k_1 7 (Nat.le_of_ble_eq_true rfl) w_3 rfl dX1_writePlace_158 (pc' := 161) rfl ?_
                  refine wk_iload F dX1_writePlace_161 2 rfl (pc' := 163) rfl ?_
                  refine wk_iload_n F dX1_writePlace_163 rfl 7 rfl (pc' := 164) rfl ?_
                  refine wk_iastu (wg := wPool cI hs) (f0 := wr u48 7 (f1_lowestFreePiece σ).toNatClampNeg p3) F 8 0 rfl rfl aP_7 (isPiece_in c39) dX1_writePlace_164 (pc' := 165) rfl (fun u50 h51 => ?_)
                  refine wk_aload_n F dX1_writePlace_165 rfl 4 rfl (pc' := 166) rfl ?_
                  refine wk_iload_n F dX1_writePlace_166 rfl 5 rfl (pc' := 167) rfl ?_
                  refine wk_iload F dX1_writePlace_167 1 rfl (pc' := 169) rfl ?_
                  refine wk_iload F dX1_writePlace_169 0 rfl (pc' := 171) rfl ?_
                  refine wk_same_v F (c1_bookPiece l D cI cP hs u50 p1 (0 : Int32) (f1_level σ) (hasPlace_v c1)) (cwV 3 F.hts gX1_writePlace_X1_bookPiece rfl rfl rfl hdX1_bookPiece ⟨Nat.le_of_ble_eq_true rfl, Nat.le_of_ble_eq_true rfl⟩) 0 1 rfl rfl rfl rfl (Nat.le_of_ble_eq_true rfl) dX1_writePlace_171 ⟨Nat.zero_le _, Nat.zero_le _⟩ (pc' := 174) rfl (fun u52 h53 => ?_)
                  refine wk_iload F dX1_writePlace_174 2 rfl (pc' := 176) rfl ?_
                  exact hret _ _ _ _ dX1_writePlace_176 rfl (by simp only [f1_writePlace, h45, h47, h49, h51, h53, if_neg c1, if_neg c2, if_pos c3, if_neg c4, if_neg c37, if_pos c38, if_neg c39, if_neg c42])
                · refine wk_aload_n F dX1_writePlace_115 rfl 3 rfl (pc' := 116) rfl ?_
                  refine wk_iload_n F dX1_writePlace_116 rfl 4 rfl (pc' := 117) rfl ?_
                  refine wk_same_v F (c1_refuse l D cI cP hs σ p1 (hasPlace_v c1)) (cwV 1 F.hts gX1_writePlace_X1_refuse rfl rfl rfl hdX1_refuse ⟨Nat.le_of_ble_eq_true rfl, Nat.le_of_ble_eq_true rfl⟩) 0 1 rfl rfl rfl rfl (Nat.le_of_ble_eq_true rfl) dX1_writePlace_117 ⟨Nat.zero_le _, Nat.zero_le _⟩ (pc' := 120) rfl (fun u54 h55 => ?_)
                  refine wk_ldc F dX1_writePlace_120 w_6 (pc' := 122) rfl ?_
                  exact hret _ _ _ _ dX1_writePlace_122 rfl (by simp only [f1_writePlace, h55, if_neg c1, if_neg c2, if_pos c3, if_neg c4, if_neg c37, if_pos c38, if_neg c39, if_pos c42])
            · refine wk_iconst F dX1_writePlace_76 ic_1 (pc' := 77) rfl ?_
              refine wk_goto (tgt := 81) F dX1_writePlace_77 (by decide) ?_
              refine wk_istore (lv' := [(6, .int (1 : Int32)), (5, .int (f1_lowestFreePiece σ)), (4, .int (f1_pieceAt σ p1 p2)), (0, .ref (hs 0)), (1, .int p1), (2, .int p2), (3, .int p3)]) F dX1_writePlace_81 (Nat.le_of_ble_eq_true rfl) rfl (pc' := 83) rfl ?_
              refine wk_aload_n F dX1_writePlace_83 rfl 3 rfl (pc' := 84) rfl ?_
              refine wk_iload F dX1_writePlace_84 1 rfl (pc' := 86) rfl ?_
              refine wk_same_p F (c1_isPiece l D cI cP hs σ (f1_lowestFreePiece σ)) (cwV 1 F.hts gX1_writePlace_X1_isPiece rfl rfl rfl hdX1_isPiece ⟨Nat.le_of_ble_eq_true rfl, Nat.le_of_ble_eq_true rfl⟩) 0 1 rfl rfl rfl rfl (Nat.le_of_ble_eq_true rfl) dX1_writePlace_86 ⟨Nat.zero_le _, Nat.zero_le _⟩ (pc' := 89) rfl ?_
              refine wk_if_eq (tgt := 115) F dX1_writePlace_89 (by decide) (pc' := 92) rfl (fun c56 => ?_) (fun c56 => ?_)
              · refine wk_aload_n F dX1_writePlace_115 rfl 3 rfl (pc' := 116) rfl ?_
                refine wk_iload_n F dX1_writePlace_116 rfl 4 rfl (pc' := 117) rfl ?_
                refine wk_same_v F (c1_refuse l D cI cP hs σ p1 (hasPlace_v c1)) (cwV 1 F.hts gX1_writePlace_X1_refuse rfl rfl rfl hdX1_refuse ⟨Nat.le_of_ble_eq_true rfl, Nat.le_of_ble_eq_true rfl⟩) 0 1 rfl rfl rfl rfl (Nat.le_of_ble_eq_true rfl) dX1_writePlace_117 ⟨Nat.zero_le _, Nat.zero_le _⟩ (pc' := 120) rfl (fun u57 h58 => ?_)
                refine wk_ldc F dX1_writePlace_120 w_6 (pc' := 122) rfl ?_
                exact hret _ _ _ _ dX1_writePlace_122 rfl (by simp only [f1_writePlace, h58, if_neg c1, if_neg c2, if_pos c3, if_neg c4, if_neg c37, if_neg c38, if_pos c56])
              · refine wk_iload F dX1_writePlace_92 0 rfl (pc' := 94) rfl ?_
                refine wk_if_ne (tgt := 123) F dX1_writePlace_94 (by decide) (pc' := 97) rfl (fun _ => ?_) (fun c => absurd c (by decide))
                refine wk_aload_n F dX1_writePlace_123 rfl 3 rfl (pc' := 124) rfl ?_
                refine wk_same_p F (c1_level l D cI cP hs σ) (cwV 0 F.hts gX1_writePlace_X1_level rfl rfl rfl hdX1_level ⟨Nat.le_of_ble_eq_true rfl, Nat.le_of_ble_eq_true rfl⟩) 0 1 rfl rfl rfl rfl (Nat.le_of_ble_eq_true rfl) dX1_writePlace_124 ⟨Nat.zero_le _, Nat.zero_le _⟩ (pc' := 127) rfl ?_
                refine wk_istore (lv' := [(7, .int (f1_level σ)), (6, .int (1 : Int32)), (5, .int (f1_lowestFreePiece σ)), (4, .int (f1_pieceAt σ p1 p2)), (0, .ref (hs 0)), (1, .int p1), (2, .int p2), (3, .int p3)]) F dX1_writePlace_127 (Nat.le_of_ble_eq_true rfl) rfl (pc' := 129) rfl ?_
                refine wk_aload_n F dX1_writePlace_129 rfl 4 rfl (pc' := 130) rfl ?_
                refine wk_iload_n F dX1_writePlace_130 rfl 5 rfl (pc' := 131) rfl ?_
                refine wk_iload_n F dX1_writePlace_131 rfl 6 rfl (pc' := 132) rfl ?_
                refine wk_same_i F (c1_loosen l D cI cP hs σ p1 p2) (cwV 2 F.hts gX1_writePlace_X1_loosen rfl rfl rfl hdX1_loosen ⟨Nat.le_of_ble_eq_true rfl, Nat.le_of_ble_eq_true rfl⟩) 0 1 rfl rfl rfl rfl (Nat.le_of_ble_eq_true rfl) dX1_writePlace_132 ⟨Nat.zero_le _, Nat.zero_le _⟩ (pc' := 135) rfl (fun r60 u59 h61 => ?_)
                refine wk_pop F dX1_writePlace_135 rfl (pc' := 136) rfl ?_
                refine wk_aload_n F dX1_writePlace_136 rfl 4 rfl (pc' := 137) rfl ?_
                refine wk_get (C := RX1) (T := TX1) (N := 14) F 0 rfl rfl k_1 6 (Nat.le_of_ble_eq_true rfl) w_7 rfl dX1_writePlace_137 (pc' := 140) rfl ?_
                refine wk_iload_n F dX1_writePlace_140 rfl 5 rfl (pc' := 141) rfl ?_
                refine wk_bipush F dX1_writePlace_141 bp_40 (pc' := 143) rfl ?_
                refine wk_imul F dX1_writePlace_143 (pc' := 144) rfl ?_
                refine wk_iload_n F dX1_writePlace_144 rfl 6 rfl (pc' := 145) rfl ?_
                refine wk_iadd F dX1_writePlace_145 (pc' := 146) rfl ?_
                refine wk_iload F dX1_writePlace_146 2 rfl (pc' := 148) rfl ?_
                refine wk_iastu (wg := wPool cI hs) (f0 := wr u59 6 ((p1 * (40 : Int32)) + p2).toNatClampNeg (f1_lowestFreePiece σ)) F 7 0 rfl rfl aP_6 (ix_spot (hasPlace_v c1) (hasPlace_p c1)) dX1_writePlace_148 (pc' := 149) rfl (fun u62 h63 => ?_)
                refine wk_aload_n F dX1_writePlace_149 rfl 4 rfl (pc' := 150) rfl ?_
                refine wk_get (C := RX1) (T := TX1) (N := 14) F 0 rfl rfl k_1 8 (Nat.le_of_ble_eq_true rfl) w_2 rfl dX1_writePlace_150 (pc' := 153) rfl ?_
                refine wk_iload F dX1_writePlace_153 2 rfl (pc' := 155) rfl ?_
                refine wk_iconst F dX1_writePlace_155 ic_1 (pc' := 156) rfl ?_
                refine wk_iastu (wg := wPool cI hs) (f0 := wr u62 8 (f1_lowestFreePiece σ).toNatClampNeg (1 : Int32)) F 9 0 rfl rfl aP_8 (isPiece_in c56) dX1_writePlace_156 (pc' := 157) rfl (fun u64 h65 => ?_)
                refine wk_aload_n F dX1_writePlace_157 rfl 4 rfl (pc' := 158) rfl ?_
                refine wk_get (C := RX1) (T := TX1) (N := 14) F 0 rfl rfl k_1 7 (Nat.le_of_ble_eq_true rfl) w_3 rfl dX1_writePlace_158 (pc' := 161) rfl ?_
                refine wk_iload F dX1_writePlace_161 2 rfl (pc' := 163) rfl ?_
                refine wk_iload_n F dX1_writePlace_163 rfl 7 rfl (pc' := 164) rfl ?_
                refine wk_iastu (wg := wPool cI hs) (f0 := wr u64 7 (f1_lowestFreePiece σ).toNatClampNeg p3) F 8 0 rfl rfl aP_7 (isPiece_in c56) dX1_writePlace_164 (pc' := 165) rfl (fun u66 h67 => ?_)
                refine wk_aload_n F dX1_writePlace_165 rfl 4 rfl (pc' := 166) rfl ?_
                refine wk_iload_n F dX1_writePlace_166 rfl 5 rfl (pc' := 167) rfl ?_
                refine wk_iload F dX1_writePlace_167 1 rfl (pc' := 169) rfl ?_
                refine wk_iload F dX1_writePlace_169 0 rfl (pc' := 171) rfl ?_
                refine wk_same_v F (c1_bookPiece l D cI cP hs u66 p1 (1 : Int32) (f1_level σ) (hasPlace_v c1)) (cwV 3 F.hts gX1_writePlace_X1_bookPiece rfl rfl rfl hdX1_bookPiece ⟨Nat.le_of_ble_eq_true rfl, Nat.le_of_ble_eq_true rfl⟩) 0 1 rfl rfl rfl rfl (Nat.le_of_ble_eq_true rfl) dX1_writePlace_171 ⟨Nat.zero_le _, Nat.zero_le _⟩ (pc' := 174) rfl (fun u68 h69 => ?_)
                refine wk_iload F dX1_writePlace_174 2 rfl (pc' := 176) rfl ?_
                exact hret _ _ _ _ dX1_writePlace_176 rfl (by simp only [f1_writePlace, h61, h63, h65, h67, h69, if_neg c1, if_neg c2, if_pos c3, if_neg c4, if_neg c37, if_neg c38, if_neg c56])
          · refine wk_aload_n F dX1_writePlace_50 rfl 1 rfl (pc' := 51) rfl ?_
            refine wk_get (C := RX1) (T := TX1) (N := 14) F 0 rfl rfl k_1 7 (Nat.le_of_ble_eq_true rfl) w_3 rfl dX1_writePlace_51 (pc' := 54) rfl ?_
            refine wk_iload F dX1_writePlace_54 0 rfl (pc' := 56) rfl ?_
            refine wk_iload_n F dX1_writePlace_56 rfl 4 rfl (pc' := 57) rfl ?_
            refine wk_iastu (wg := wPool cI hs) (f0 := wr σ 7 (f1_pieceAt σ p1 p2).toNatClampNeg p3) F 8 0 rfl rfl aP_7 (isPiece_in c4) dX1_writePlace_57 (pc' := 58) rfl (fun u70 h71 => ?_)
            refine wk_iload F dX1_writePlace_58 0 rfl (pc' := 60) rfl ?_
            exact hret _ _ _ _ dX1_writePlace_60 rfl (by simp only [f1_writePlace, h71, if_neg c1, if_neg c2, if_pos c3, if_neg c4, if_pos c37])
      · refine wk_ldc F dX1_writePlace_19 w_1 (pc' := 21) rfl ?_
        exact hret _ _ _ _ dX1_writePlace_21 rfl (by simp only [f1_writePlace, if_neg c1, if_neg c2, if_neg c3])
def f1_thank (σ : PS) (p1 : Int32) (p2 : Int32) : PS := ((fun (u1 : PS) => u1) (wr σ 1 p1.toNatClampNeg (if (100 : Int32) < ((σ 1 p1.toNatClampNeg) + ((2 : Int32) * p2)) then (100 : Int32) else ((σ 1 p1.toNatClampNeg) + ((2 : Int32) * p2)))))
set_option maxHeartbeats 4000000 in
set_option maxRecDepth 100000 in
theorem c1_thank (l : Launch) (D : va_G) (cI cP : ClassId) (hs : Nat → Nat) (σ : PS) (p1 : Int32) (p2 : Int32) (hp_p1 : vp_in p1 8) : CV l yX1_thank wsX1_thank ({ frames := 1, cells := 0, slots := 0, locals := 15 } : Room) D (cty cI cP) (wPool cI hs σ) (wPool cI hs) [.ref (hs 0), .int p1, .int p2] 0 0 (fun u => f1_thank σ p1 p2 = u) := by
  refine CV.of (cc := cX1_thank) (maxL := 3) (own := RX1) (lv0 := [(0, .ref (hs 0)), (1, .int p1), (2, .int p2)]) pnX1 rfl rfl (Nat.le_of_ble_eq_true rfl) rfl (fun p e s m args below meth c A Q F hmn hret => ?_)
  have w_1 := F.at (x := Cond.fieldLink RX1 15 "ThinVolumes$Pool" "manners" "[I") 1 rfl
  have w_2 := F.at (x := Cond.methodLink RX1 158 Lib.Math.min.name) 2 rfl
  have w_3 := F.at (x := Cond.static Lib.Math.min.name) 3 rfl
  have w_4 := F.at (x := Cond.initialized "java/lang/Math") 4 rfl
  have w_5 := F.at (x := Cond.code Lib.Math.min.name Lib.Math.min.code 2 (some .int)) 5 rfl
  have k_1 : ∀ w ∈ wsX10, w ∈ wsX1_thank := fun _ h => List.mem_cons_of_mem _ (List.mem_append_right _ (h))
  refine wk_aload_n F dX1_thank_0 rfl 0 rfl (pc' := 1) rfl ?_
  refine wk_get (C := RX1) (T := TX1) (N := 14) F 0 rfl rfl k_1 1 (Nat.le_of_ble_eq_true rfl) w_1 rfl dX1_thank_1 (pc' := 4) rfl ?_
  refine wk_iload_n F dX1_thank_4 rfl 1 rfl (pc' := 5) rfl ?_
  refine wk_aload_n F dX1_thank_5 rfl 0 rfl (pc' := 6) rfl ?_
  refine wk_get (C := RX1) (T := TX1) (N := 14) F 0 rfl rfl k_1 1 (Nat.le_of_ble_eq_true rfl) w_1 rfl dX1_thank_6 (pc' := 9) rfl ?_
  refine wk_iload_n F dX1_thank_9 rfl 1 rfl (pc' := 10) rfl ?_
  refine wk_iald F 2 0 rfl rfl hp_p1 dX1_thank_10 (pc' := 11) rfl ?_
  refine wk_iconst F dX1_thank_11 ic_2 (pc' := 12) rfl ?_
  refine wk_iload_n F dX1_thank_12 rfl 2 rfl (pc' := 13) rfl ?_
  refine wk_imul F dX1_thank_13 (pc' := 14) rfl ?_
  refine wk_iadd F dX1_thank_14 (pc' := 15) rfl ?_
  refine wk_bipush F dX1_thank_15 bp_100 (pc' := 17) rfl ?_
  refine wk_mmin F w_2 w_3 w_4 w_5 (Nat.le_of_ble_eq_true rfl) (Nat.le_of_ble_eq_true rfl) (Nat.zero_le _) (Nat.zero_le _) dX1_thank_17 (pc' := 20) rfl ?_
  refine wk_iastu (wg := wPool cI hs) (f0 := wr σ 1 p1.toNatClampNeg (if (100 : Int32) < ((σ 1 p1.toNatClampNeg) + ((2 : Int32) * p2)) then (100 : Int32) else ((σ 1 p1.toNatClampNeg) + ((2 : Int32) * p2)))) F 2 0 rfl rfl aP_1 hp_p1 dX1_thank_20 (pc' := 21) rfl (fun u1 h2 => ?_)
  exact hret _ _ _ dX1_thank_21 (by simp only [f1_thank, h2])
def f1_trimPlace (σ : PS) (p1 : Int32) (p2 : Int32) : Int32 × PS := (if (f1_hasPlace σ p1 p2) = 0 then ((-1000001 : Int32), σ) else (if (f1_pieceAt σ p1 p2) = (-1 : Int32) then ((-1000002 : Int32), σ) else (match f1_loosen σ p1 p2 with | (r4, u3) => ((fun (u6 : PS) => (r4, u6)) (f1_thank u3 p1 r4)))))
set_option maxHeartbeats 4000000 in
set_option maxRecDepth 100000 in
theorem c1_trimPlace (l : Launch) (D : va_G) (cI cP : ClassId) (hs : Nat → Nat) (σ : PS) (p1 : Int32) (p2 : Int32) : CI l yX1_trimPlace wsX1_trimPlace ({ frames := 4, cells := 0, slots := 0, locals := 88 } : Room) D (cty cI cP) (wPool cI hs σ) (wPool cI hs) [.ref (hs 0), .int p1, .int p2] 0 0 (fun r u => f1_trimPlace σ p1 p2 = (r, u)) := by
  refine CI.of (cc := cX1_trimPlace) (maxL := 4) (rt := .int) (own := RX1) (lv0 := [(0, .ref (hs 0)), (1, .int p1), (2, .int p2)]) pnX1 rfl rfl (Nat.le_of_ble_eq_true rfl) rfl (fun p e s m args below meth c A Q F hret => ?_)
  have w_2 := F.at (x := Cond.constant RX1 132 (-1000002)) 2 rfl
  have w_1 := F.at (x := Cond.constant RX1 124 (-1000001)) 1 rfl
  refine wk_aload_n F dX1_trimPlace_0 rfl 0 rfl (pc' := 1) rfl ?_
  refine wk_iload_n F dX1_trimPlace_1 rfl 1 rfl (pc' := 2) rfl ?_
  refine wk_iload_n F dX1_trimPlace_2 rfl 2 rfl (pc' := 3) rfl ?_
  refine wk_same_p F (c1_hasPlace l D cI cP hs σ p1 p2) (cwV 2 F.hts gX1_trimPlace_X1_hasPlace rfl rfl rfl hdX1_hasPlace ⟨Nat.le_of_ble_eq_true rfl, Nat.le_of_ble_eq_true rfl⟩) 0 1 rfl rfl rfl rfl (Nat.le_of_ble_eq_true rfl) dX1_trimPlace_3 ⟨Nat.zero_le _, Nat.zero_le _⟩ (pc' := 6) rfl ?_
  refine wk_if_ne (tgt := 12) F dX1_trimPlace_6 (by decide) (pc' := 9) rfl (fun c1 => ?_) (fun c1 => ?_)
  · refine wk_aload_n F dX1_trimPlace_12 rfl 0 rfl (pc' := 13) rfl ?_
    refine wk_iload_n F dX1_trimPlace_13 rfl 1 rfl (pc' := 14) rfl ?_
    refine wk_iload_n F dX1_trimPlace_14 rfl 2 rfl (pc' := 15) rfl ?_
    refine wk_same_p F (c1_pieceAt l D cI cP hs σ p1 p2) (cwV 2 F.hts gX1_trimPlace_X1_pieceAt rfl rfl rfl hdX1_pieceAt ⟨Nat.le_of_ble_eq_true rfl, Nat.le_of_ble_eq_true rfl⟩) 0 1 rfl rfl rfl rfl (Nat.le_of_ble_eq_true rfl) dX1_trimPlace_15 ⟨Nat.zero_le _, Nat.zero_le _⟩ (pc' := 18) rfl ?_
    refine wk_iconst F dX1_trimPlace_18 ic_m1 (pc' := 19) rfl ?_
    refine wk_icmp_ne (tgt := 25) F dX1_trimPlace_19 (by decide) (pc' := 22) rfl (fun c2 => ?_) (fun c2 => ?_)
    · refine wk_aload_n F dX1_trimPlace_25 rfl 0 rfl (pc' := 26) rfl ?_
      refine wk_iload_n F dX1_trimPlace_26 rfl 1 rfl (pc' := 27) rfl ?_
      refine wk_iload_n F dX1_trimPlace_27 rfl 2 rfl (pc' := 28) rfl ?_
      refine wk_same_i F (c1_loosen l D cI cP hs σ p1 p2) (cwV 2 F.hts gX1_trimPlace_X1_loosen rfl rfl rfl hdX1_loosen ⟨Nat.le_of_ble_eq_true rfl, Nat.le_of_ble_eq_true rfl⟩) 0 1 rfl rfl rfl rfl (Nat.le_of_ble_eq_true rfl) dX1_trimPlace_28 ⟨Nat.zero_le _, Nat.zero_le _⟩ (pc' := 31) rfl (fun r4 u3 h5 => ?_)
      refine wk_istore_n (lv' := [(3, .int r4), (0, .ref (hs 0)), (1, .int p1), (2, .int p2)]) F dX1_trimPlace_31 rfl (Nat.le_of_ble_eq_true rfl) rfl (pc' := 32) rfl ?_
      refine wk_aload_n F dX1_trimPlace_32 rfl 1 rfl (pc' := 33) rfl ?_
      refine wk_iload_n F dX1_trimPlace_33 rfl 2 rfl (pc' := 34) rfl ?_
      refine wk_iload_n F dX1_trimPlace_34 rfl 0 rfl (pc' := 35) rfl ?_
      refine wk_same_v F (c1_thank l D cI cP hs u3 p1 r4 (hasPlace_v c1)) (cwV 2 F.hts gX1_trimPlace_X1_thank rfl rfl rfl hdX1_thank ⟨Nat.le_of_ble_eq_true rfl, Nat.le_of_ble_eq_true rfl⟩) 0 1 rfl rfl rfl rfl (Nat.le_of_ble_eq_true rfl) dX1_trimPlace_35 ⟨Nat.zero_le _, Nat.zero_le _⟩ (pc' := 38) rfl (fun u6 h7 => ?_)
      refine wk_iload_n F dX1_trimPlace_38 rfl 0 rfl (pc' := 39) rfl ?_
      exact hret _ _ _ _ dX1_trimPlace_39 rfl (by simp only [f1_trimPlace, h5, h7, if_neg c1, if_neg c2])
    · refine wk_ldc F dX1_trimPlace_22 w_2 (pc' := 24) rfl ?_
      exact hret _ _ _ _ dX1_trimPlace_24 rfl (by simp only [f1_trimPlace, if_neg c1, if_pos c2])
  · refine wk_ldc F dX1_trimPlace_9 w_1 (pc' := 11) rfl ?_
    exact hret _ _ _ _ dX1_trimPlace_11 rfl (by simp only [f1_trimPlace, if_pos c1])
def f1_sweepVolume_L15 (p1 : Int32) : Nat → Nat → Int32 → PS → Int32 × PS
  | 0, i, x2, u => (x2, u)
  | n + 1, i, x2, u => (if (f1_isPiece u (f1_pieceAt u p1 (nI i))) = 0 then f1_sweepVolume_L15 p1 n (i + 1) x2 u else (if (u 7 (f1_pieceAt u p1 (nI i)).toNatClampNeg) = 0 then (match f1_loosen u p1 (nI i) with | (r4, u3) => f1_sweepVolume_L15 p1 n (i + 1) (x2 + r4) u3) else f1_sweepVolume_L15 p1 n (i + 1) x2 u))
def f1_sweepVolume (σ : PS) (p1 : Int32) : Int32 × PS := (if (f1_lives σ p1) = 0 then ((-1000001 : Int32), σ) else (match f1_sweepVolume_L15 p1 40 0 (0 : Int32) σ with | (y8, u9) => ((fun (u10 : PS) => (y8, u10)) (f1_thank u9 p1 y8))))
set_option maxHeartbeats 4000000 in
set_option maxRecDepth 100000 in
theorem c1_sweepVolume (l : Launch) (D : va_G) (cI cP : ClassId) (hs : Nat → Nat) (σ : PS) (p1 : Int32) : CI l yX1_sweepVolume wsX1_sweepVolume ({ frames := 4, cells := 0, slots := 0, locals := 88 } : Room) D (cty cI cP) (wPool cI hs σ) (wPool cI hs) [.ref (hs 0), .int p1] 0 0 (fun r u => f1_sweepVolume σ p1 = (r, u)) := by
  refine CI.of (cc := cX1_sweepVolume) (maxL := 5) (rt := .int) (own := RX1) (lv0 := [(0, .ref (hs 0)), (1, .int p1)]) pnX1 rfl rfl (Nat.le_of_ble_eq_true rfl) rfl (fun p e s m args below meth c A Q F hret => ?_)
  have w_2 := F.at (x := Cond.fieldLink RX1 33 "ThinVolumes$Pool" "values" "[I") 2 rfl
  have w_1 := F.at (x := Cond.constant RX1 124 (-1000001)) 1 rfl
  have k_1 : ∀ w ∈ wsX10, w ∈ wsX1_sweepVolume := fun _ h => List.mem_cons_of_mem _ (List.mem_append_right _ (h))
  have L15 : ∀ (n : Nat) (i : Nat) (x2 : Int32) (u : PS), i + n = 40 → (∀ (y2 : Int32) (uu : PS), f1_sweepVolume_L15 p1 n i x2 u = (y2, uu) → Wk p l e ({ frames := 4, cells := 0, slots := 0, locals := 88 } : Room) s m args below meth c 5 D A 0 0 Q (wPool cI hs uu) [(0, .ref (hs 0)), (1, .int p1), (2, .int y2)] 63 []) → Wk p l e ({ frames := 4, cells := 0, slots := 0, locals := 88 } : Room) s m args below meth c 5 D A 0 0 Q (wPool cI hs u) [(0, .ref (hs 0)), (1, .int p1), (2, .int x2), (3, .int (nI i))] 15 [] := by
    intro n
    induction n with
    | zero =>
      intro i x2 u hi kx
      refine wk_iload_n F dX1_sweepVolume_15 rfl 3 rfl (pc' := 16) rfl ?_
      refine wk_bipush F dX1_sweepVolume_16 bp_40 (pc' := 18) rfl ?_
      refine wk_icmp_ge (tgt := 63) F dX1_sweepVolume_18 (by decide) (pc' := 21) rfl (fun _ => ?_) (fun c => absurd ((nI_leI (a := 40) (b := i) (by omega) (by omega)).mpr (by omega)) c)
      refine wk_lv [0, 1, 2] rfl ?_
      exact kx x2 u (by simp only [f1_sweepVolume_L15])
    | succ n ih =>
      intro i x2 u hi kx
      refine wk_iload_n F dX1_sweepVolume_15 rfl 3 rfl (pc' := 16) rfl ?_
      refine wk_bipush F dX1_sweepVolume_16 bp_40 (pc' := 18) rfl ?_
      refine wk_icmp_ge (tgt := 63) F dX1_sweepVolume_18 (by decide) (pc' := 21) rfl (fun c => absurd ((nI_leI (a := 40) (b := i) (by omega) (by omega)).mp c) (by omega)) (fun _ => ?_)
      refine wk_aload_n F dX1_sweepVolume_21 rfl 0 rfl (pc' := 22) rfl ?_
      refine wk_iload_n F dX1_sweepVolume_22 rfl 1 rfl (pc' := 23) rfl ?_
      refine wk_iload_n F dX1_sweepVolume_23 rfl 3 rfl (pc' := 24) rfl ?_
      refine wk_same_p F (c1_pieceAt l D cI cP hs u p1 (nI i)) (cwV 2 F.hts gX1_sweepVolume_X1_pieceAt rfl rfl rfl hdX1_pieceAt ⟨Nat.le_of_ble_eq_true rfl, Nat.le_of_ble_eq_true rfl⟩) 0 1 rfl rfl rfl rfl (Nat.le_of_ble_eq_true rfl) dX1_sweepVolume_24 ⟨Nat.zero_le _, Nat.zero_le _⟩ (pc' := 27) rfl ?_
      refine wk_istore (lv' := [(4, .int (f1_pieceAt u p1 (nI i))), (0, .ref (hs 0)), (1, .int p1), (2, .int x2), (3, .int (nI i))]) F dX1_sweepVolume_27 (Nat.le_of_ble_eq_true rfl) rfl (pc' := 29) rfl ?_
      refine wk_aload_n F dX1_sweepVolume_29 rfl 1 rfl (pc' := 30) rfl ?_
      refine wk_iload F dX1_sweepVolume_30 0 rfl (pc' := 32) rfl ?_
      refine wk_same_p F (c1_isPiece l D cI cP hs u (f1_pieceAt u p1 (nI i))) (cwV 1 F.hts gX1_sweepVolume_X1_isPiece rfl rfl rfl hdX1_isPiece ⟨Nat.le_of_ble_eq_true rfl, Nat.le_of_ble_eq_true rfl⟩) 0 1 rfl rfl rfl rfl (Nat.le_of_ble_eq_true rfl) dX1_sweepVolume_32 ⟨Nat.zero_le _, Nat.zero_le _⟩ (pc' := 35) rfl ?_
      refine wk_if_eq (tgt := 57) F dX1_sweepVolume_35 (by decide) (pc' := 38) rfl (fun c1 => ?_) (fun c1 => ?_)
      · refine wk_iinc (k := 4) (v := nI (i + 1)) (lv' := [(3, .int (nI (i + 1))), (4, .int (f1_pieceAt u p1 (nI i))), (0, .ref (hs 0)), (1, .int p1), (2, .int x2)]) F dX1_sweepVolume_57 rfl (nI_inc i) (Nat.le_of_ble_eq_true rfl) rfl (pc' := 60) rfl ?_
        refine wk_goto (tgt := 15) F dX1_sweepVolume_60 (by decide) ?_
        refine wk_lv [2, 3, 4, 0] rfl ?_
        exact ih (i + 1) x2 u (by omega) (fun y2_ u_ h_ => kx y2_ u_ (Eq.trans (by simp only [f1_sweepVolume_L15, if_pos c1]) h_))
      · refine wk_aload_n F dX1_sweepVolume_38 rfl 1 rfl (pc' := 39) rfl ?_
        refine wk_get (C := RX1) (T := TX1) (N := 14) F 0 rfl rfl k_1 7 (Nat.le_of_ble_eq_true rfl) w_2 rfl dX1_sweepVolume_39 (pc' := 42) rfl ?_
        refine wk_iload F dX1_sweepVolume_42 0 rfl (pc' := 44) rfl ?_
        refine wk_iald F 8 0 rfl rfl (isPiece_in c1) dX1_sweepVolume_44 (pc' := 45) rfl ?_
        refine wk_if_ne (tgt := 57) F dX1_sweepVolume_45 (by decide) (pc' := 48) rfl (fun c2 => ?_) (fun c2 => ?_)
        · refine wk_iinc (k := 4) (v := nI (i + 1)) (lv' := [(3, .int (nI (i + 1))), (4, .int (f1_pieceAt u p1 (nI i))), (0, .ref (hs 0)), (1, .int p1), (2, .int x2)]) F dX1_sweepVolume_57 rfl (nI_inc i) (Nat.le_of_ble_eq_true rfl) rfl (pc' := 60) rfl ?_
          refine wk_goto (tgt := 15) F dX1_sweepVolume_60 (by decide) ?_
          refine wk_lv [2, 3, 4, 0] rfl ?_
          exact ih (i + 1) x2 u (by omega) (fun y2_ u_ h_ => kx y2_ u_ (Eq.trans (by simp only [f1_sweepVolume_L15, if_neg c1, if_neg c2]) h_))
        · refine wk_iload_n F dX1_sweepVolume_48 rfl 3 rfl (pc' := 49) rfl ?_
          refine wk_aload_n F dX1_sweepVolume_49 rfl 1 rfl (pc' := 50) rfl ?_
          refine wk_iload_n F dX1_sweepVolume_50 rfl 2 rfl (pc' := 51) rfl ?_
          refine wk_iload_n F dX1_sweepVolume_51 rfl 4 rfl (pc' := 52) rfl ?_
          refine wk_same_i F (c1_loosen l D cI cP hs u p1 (nI i)) (cwV 2 F.hts gX1_sweepVolume_X1_loosen rfl rfl rfl hdX1_loosen ⟨Nat.le_of_ble_eq_true rfl, Nat.le_of_ble_eq_true rfl⟩) 0 1 rfl rfl rfl rfl (Nat.le_of_ble_eq_true rfl) dX1_sweepVolume_52 ⟨Nat.zero_le _, Nat.zero_le _⟩ (pc' := 55) rfl (fun r4 u3 h5 => ?_)
          refine wk_iadd F dX1_sweepVolume_55 (pc' := 56) rfl ?_
          refine wk_istore_n (lv' := [(2, .int (x2 + r4)), (4, .int (f1_pieceAt u p1 (nI i))), (0, .ref (hs 0)), (1, .int p1), (3, .int (nI i))]) F dX1_sweepVolume_56 rfl (Nat.le_of_ble_eq_true rfl) rfl (pc' := 57) rfl ?_
          refine wk_iinc (k := 4) (v := nI (i + 1)) (lv' := [(3, .int (nI (i + 1))), (2, .int (x2 + r4)), (4, .int (f1_pieceAt u p1 (nI i))), (0, .ref (hs 0)), (1, .int p1)]) F dX1_sweepVolume_57 rfl (nI_inc i) (Nat.le_of_ble_eq_true rfl) rfl (pc' := 60) rfl ?_
          refine wk_goto (tgt := 15) F dX1_sweepVolume_60 (by decide) ?_
          refine wk_lv [3, 4, 1, 0] rfl ?_
          exact ih (i + 1) (x2 + r4) u3 (by omega) (fun y2_ u_ h_ => kx y2_ u_ (Eq.trans (by simp only [f1_sweepVolume_L15, h5, if_neg c1, if_pos c2]) h_))
  refine wk_aload_n F dX1_sweepVolume_0 rfl 0 rfl (pc' := 1) rfl ?_
  refine wk_iload_n F dX1_sweepVolume_1 rfl 1 rfl (pc' := 2) rfl ?_
  refine wk_same_p F (c1_lives l D cI cP hs σ p1) (cwV 1 F.hts gX1_sweepVolume_X1_lives rfl rfl rfl hdX1_lives ⟨Nat.le_of_ble_eq_true rfl, Nat.le_of_ble_eq_true rfl⟩) 0 1 rfl rfl rfl rfl (Nat.le_of_ble_eq_true rfl) dX1_sweepVolume_2 ⟨Nat.zero_le _, Nat.zero_le _⟩ (pc' := 5) rfl ?_
  refine wk_if_ne (tgt := 11) F dX1_sweepVolume_5 (by decide) (pc' := 8) rfl (fun c6 => ?_) (fun c6 => ?_)
  · refine wk_iconst F dX1_sweepVolume_11 ic_0 (pc' := 12) rfl ?_
    refine wk_istore_n (lv' := [(2, .int (0 : Int32)), (0, .ref (hs 0)), (1, .int p1)]) F dX1_sweepVolume_12 rfl (Nat.le_of_ble_eq_true rfl) rfl (pc' := 13) rfl ?_
    refine wk_iconst F dX1_sweepVolume_13 ic_0 (pc' := 14) rfl ?_
    refine wk_istore_n (lv' := [(3, .int (0 : Int32)), (2, .int (0 : Int32)), (0, .ref (hs 0)), (1, .int p1)]) F dX1_sweepVolume_14 rfl (Nat.le_of_ble_eq_true rfl) rfl (pc' := 15) rfl ?_
    refine wk_lv [2, 3, 1, 0] rfl ?_
    refine L15 40 0 (0 : Int32) σ (by omega) (fun y8 u9 h7 => ?_)
    refine wk_aload_n F dX1_sweepVolume_63 rfl 0 rfl (pc' := 64) rfl ?_
    refine wk_iload_n F dX1_sweepVolume_64 rfl 1 rfl (pc' := 65) rfl ?_
    refine wk_iload_n F dX1_sweepVolume_65 rfl 2 rfl (pc' := 66) rfl ?_
    refine wk_same_v F (c1_thank l D cI cP hs u9 p1 y8 (lives_in c6)) (cwV 2 F.hts gX1_sweepVolume_X1_thank rfl rfl rfl hdX1_thank ⟨Nat.le_of_ble_eq_true rfl, Nat.le_of_ble_eq_true rfl⟩) 0 1 rfl rfl rfl rfl (Nat.le_of_ble_eq_true rfl) dX1_sweepVolume_66 ⟨Nat.zero_le _, Nat.zero_le _⟩ (pc' := 69) rfl (fun u10 h11 => ?_)
    refine wk_iload_n F dX1_sweepVolume_69 rfl 2 rfl (pc' := 70) rfl ?_
    exact hret _ _ _ _ dX1_sweepVolume_70 rfl (by simp only [f1_sweepVolume, h7, h11, if_neg c6])
  · refine wk_ldc F dX1_sweepVolume_8 w_1 (pc' := 10) rfl ?_
    exact hret _ _ _ _ dX1_sweepVolume_10 rfl (by simp only [f1_sweepVolume, if_pos c6])
def f1_moveOwners_L2 (p1 : Int32) (p2 : Int32) : Nat → Nat → PS → PS
  | 0, i, u => u
  | n + 1, i, u => (if (u 6 i) = p1 then ((fun (u2 : PS) => f1_moveOwners_L2 p1 p2 n (i + 1) u2) (wr u 6 i p2)) else f1_moveOwners_L2 p1 p2 n (i + 1) u)
def f1_moveOwners (σ : PS) (p1 : Int32) (p2 : Int32) : PS := ((fun (u5 : PS) => ((fun (u6 : PS) => ((fun (u8 : PS) => u8) (wr u6 8 p1.toNatClampNeg (0 : Int32)))) (wr u5 8 p2.toNatClampNeg ((u5 8 p2.toNatClampNeg) + (u5 8 p1.toNatClampNeg))))) (f1_moveOwners_L2 p1 p2 320 0 σ))
set_option maxHeartbeats 4000000 in
set_option maxRecDepth 100000 in
theorem c1_moveOwners (l : Launch) (D : va_G) (cI cP : ClassId) (hs : Nat → Nat) (σ : PS) (p1 : Int32) (p2 : Int32) (hp_p1 : vp_in p1 30) (hp_p2 : vp_in p2 30) : CV l yX1_moveOwners wsX1_moveOwners ({ frames := 0, cells := 0, slots := 0, locals := 0 } : Room) D (cty cI cP) (wPool cI hs σ) (wPool cI hs) [.ref (hs 0), .int p1, .int p2] 0 0 (fun u => f1_moveOwners σ p1 p2 = u) := by
  refine CV.of (cc := cX1_moveOwners) (maxL := 4) (own := RX1) (lv0 := [(0, .ref (hs 0)), (1, .int p1), (2, .int p2)]) pnX1 rfl rfl (Nat.le_of_ble_eq_true rfl) rfl (fun p e s m args below meth c A Q F hmn hret => ?_)
  have w_1 := F.at (x := Cond.fieldLink RX1 30 "ThinVolumes$Pool" "spots" "[I") 1 rfl
  have w_2 := F.at (x := Cond.fieldLink RX1 36 "ThinVolumes$Pool" "owners" "[I") 2 rfl
  have k_1 : ∀ w ∈ wsX10, w ∈ wsX1_moveOwners := fun _ h => List.mem_cons_of_mem _ (List.mem_append_right _ (h))
  have L2 : ∀ (n : Nat) (i : Nat) (u : PS), i + n = 320 → (∀ (uu : PS), f1_moveOwners_L2 p1 p2 n i u = uu → Wk p l e ({ frames := 0, cells := 0, slots := 0, locals := 0 } : Room) s m args below meth c 4 D A 0 0 Q (wPool cI hs uu) [(0, .ref (hs 0)), (1, .int p1), (2, .int p2)] 32 []) → Wk p l e ({ frames := 0, cells := 0, slots := 0, locals := 0 } : Room) s m args below meth c 4 D A 0 0 Q (wPool cI hs u) [(0, .ref (hs 0)), (1, .int p1), (2, .int p2), (3, .int (nI i))] 2 [] := by
    intro n
    induction n with
    | zero =>
      intro i u hi kx
      refine wk_iload_n F dX1_moveOwners_2 rfl 3 rfl (pc' := 3) rfl ?_
      refine wk_sipush F dX1_moveOwners_3 sp_320 (pc' := 6) rfl ?_
      refine wk_icmp_ge (tgt := 32) F dX1_moveOwners_6 (by decide) (pc' := 9) rfl (fun _ => ?_) (fun c => absurd ((nI_leI (a := 320) (b := i) (by omega) (by omega)).mpr (by omega)) c)
      refine wk_lv [0, 1, 2] rfl ?_
      exact kx u (by simp only [f1_moveOwners_L2])
    | succ n ih =>
      intro i u hi kx
      refine wk_iload_n F dX1_moveOwners_2 rfl 3 rfl (pc' := 3) rfl ?_
      refine wk_sipush F dX1_moveOwners_3 sp_320 (pc' := 6) rfl ?_
      refine wk_icmp_ge (tgt := 32) F dX1_moveOwners_6 (by decide) (pc' := 9) rfl (fun c => absurd ((nI_leI (a := 320) (b := i) (by omega) (by omega)).mp c) (by omega)) (fun _ => ?_)
      refine wk_aload_n F dX1_moveOwners_9 rfl 0 rfl (pc' := 10) rfl ?_
      refine wk_get (C := RX1) (T := TX1) (N := 14) F 0 rfl rfl k_1 6 (Nat.le_of_ble_eq_true rfl) w_1 rfl dX1_moveOwners_10 (pc' := 13) rfl ?_
      refine wk_iload_n F dX1_moveOwners_13 rfl 3 rfl (pc' := 14) rfl ?_
      refine wk_iald_n (i := i) F 7 0 rfl rfl (by omega) (Nat.le_of_ble_eq_true rfl) dX1_moveOwners_14 (pc' := 15) rfl ?_
      refine wk_iload_n F dX1_moveOwners_15 rfl 1 rfl (pc' := 16) rfl ?_
      refine wk_icmp_ne (tgt := 26) F dX1_moveOwners_16 (by decide) (pc' := 19) rfl (fun c1 => ?_) (fun c1 => ?_)
      · refine wk_iinc (k := 3) (v := nI (i + 1)) (lv' := [(3, .int (nI (i + 1))), (0, .ref (hs 0)), (1, .int p1), (2, .int p2)]) F dX1_moveOwners_26 rfl (nI_inc i) (Nat.le_of_ble_eq_true rfl) rfl (pc' := 29) rfl ?_
        refine wk_goto (tgt := 2) F dX1_moveOwners_29 (by decide) ?_
        refine wk_lv [1, 2, 3, 0] rfl ?_
        exact ih (i + 1) u (by omega) (fun u_ h_ => kx u_ (Eq.trans (by simp only [f1_moveOwners_L2, if_neg c1]) h_))
      · refine wk_aload_n F dX1_moveOwners_19 rfl 0 rfl (pc' := 20) rfl ?_
        refine wk_get (C := RX1) (T := TX1) (N := 14) F 0 rfl rfl k_1 6 (Nat.le_of_ble_eq_true rfl) w_1 rfl dX1_moveOwners_20 (pc' := 23) rfl ?_
        refine wk_iload_n F dX1_moveOwners_23 rfl 3 rfl (pc' := 24) rfl ?_
        refine wk_iload_n F dX1_moveOwners_24 rfl 2 rfl (pc' := 25) rfl ?_
        refine wk_iastu_n (wg := wPool cI hs) (f0 := wr u 6 i p2) (i := i) F 7 0 rfl rfl aP_6 (by omega) (Nat.le_of_ble_eq_true rfl) dX1_moveOwners_25 (pc' := 26) rfl (fun u2 h3 => ?_)
        refine wk_iinc (k := 3) (v := nI (i + 1)) (lv' := [(3, .int (nI (i + 1))), (0, .ref (hs 0)), (1, .int p1), (2, .int p2)]) F dX1_moveOwners_26 rfl (nI_inc i) (Nat.le_of_ble_eq_true rfl) rfl (pc' := 29) rfl ?_
        refine wk_goto (tgt := 2) F dX1_moveOwners_29 (by decide) ?_
        refine wk_lv [1, 2, 3, 0] rfl ?_
        exact ih (i + 1) u2 (by omega) (fun u_ h_ => kx u_ (Eq.trans (by simp only [f1_moveOwners_L2, h3, if_pos c1]) h_))
  refine wk_iconst F dX1_moveOwners_0 ic_0 (pc' := 1) rfl ?_
  refine wk_istore_n (lv' := [(3, .int (0 : Int32)), (0, .ref (hs 0)), (1, .int p1), (2, .int p2)]) F dX1_moveOwners_1 rfl (Nat.le_of_ble_eq_true rfl) rfl (pc' := 2) rfl ?_
  refine wk_lv [1, 2, 3, 0] rfl ?_
  refine L2 320 0 σ (by omega) (fun u5 h4 => ?_)
  refine wk_aload_n F dX1_moveOwners_32 rfl 0 rfl (pc' := 33) rfl ?_
  refine wk_get (C := RX1) (T := TX1) (N := 14) F 0 rfl rfl k_1 8 (Nat.le_of_ble_eq_true rfl) w_2 rfl dX1_moveOwners_33 (pc' := 36) rfl ?_
  refine wk_iload_n F dX1_moveOwners_36 rfl 2 rfl (pc' := 37) rfl ?_
  refine wk_dup2 F dX1_moveOwners_37 rfl rfl (pc' := 38) rfl ?_
  refine wk_iald F 9 0 rfl rfl hp_p2 dX1_moveOwners_38 (pc' := 39) rfl ?_
  refine wk_aload_n F dX1_moveOwners_39 rfl 0 rfl (pc' := 40) rfl ?_
  refine wk_get (C := RX1) (T := TX1) (N := 14) F 0 rfl rfl k_1 8 (Nat.le_of_ble_eq_true rfl) w_2 rfl dX1_moveOwners_40 (pc' := 43) rfl ?_
  refine wk_iload_n F dX1_moveOwners_43 rfl 1 rfl (pc' := 44) rfl ?_
  refine wk_iald F 9 0 rfl rfl hp_p1 dX1_moveOwners_44 (pc' := 45) rfl ?_
  refine wk_iadd F dX1_moveOwners_45 (pc' := 46) rfl ?_
  refine wk_iastu (wg := wPool cI hs) (f0 := wr u5 8 p2.toNatClampNeg ((u5 8 p2.toNatClampNeg) + (u5 8 p1.toNatClampNeg))) F 9 0 rfl rfl aP_8 hp_p2 dX1_moveOwners_46 (pc' := 47) rfl (fun u6 h7 => ?_)
  refine wk_aload_n F dX1_moveOwners_47 rfl 0 rfl (pc' := 48) rfl ?_
  refine wk_get (C := RX1) (T := TX1) (N := 14) F 0 rfl rfl k_1 8 (Nat.le_of_ble_eq_true rfl) w_2 rfl dX1_moveOwners_48 (pc' := 51) rfl ?_
  refine wk_iload_n F dX1_moveOwners_51 rfl 1 rfl (pc' := 52) rfl ?_
  refine wk_iconst F dX1_moveOwners_52 ic_0 (pc' := 53) rfl ?_
  refine wk_iastu (wg := wPool cI hs) (f0 := wr u6 8 p1.toNatClampNeg (0 : Int32)) F 9 0 rfl rfl aP_8 hp_p1 dX1_moveOwners_53 (pc' := 54) rfl (fun u8 h9 => ?_)
  exact hret _ _ _ dX1_moveOwners_54 (by simp only [f1_moveOwners, h4, h7, h9])
def f1_mergePieces_L14 (j2 : Nat) : Nat → Nat → Int32 → PS → Int32 × PS
  | 0, i, x1, u => (x1, u)
  | n + 1, i, x1, u => (if (u 8 j2) ≤ 0 then f1_mergePieces_L14 j2 n (i + 1) x1 u else (if (u 8 i) ≤ 0 then f1_mergePieces_L14 j2 n (i + 1) x1 u else (if (u 7 j2) = (u 7 i) then ((fun (u4 : PS) => f1_mergePieces_L14 j2 n (i + 1) (x1 + 1) u4) (f1_moveOwners u (nI i) (nI j2))) else f1_mergePieces_L14 j2 n (i + 1) x1 u)))
def f1_mergePieces_L4 : Nat → Nat → Int32 → PS → Int32 × PS
  | 0, i, x1, u => (x1, u)
  | n + 1, i, x1, u => (match f1_mergePieces_L14 i (30 - (i + 1)) (i + 1) x1 u with | (y7, u8) => f1_mergePieces_L4 n (i + 1) y7 u8)
def f1_mergePieces (σ : PS) : Int32 × PS := (match f1_mergePieces_L4 30 0 (0 : Int32) σ with | (y10, u11) => ((fun (u12 : PS) => (y10, u12)) (wr u11 13 2 ((u11 13 2) + y10))))
set_option maxHeartbeats 4000000 in
set_option maxRecDepth 100000 in
theorem c1_mergePieces (l : Launch) (D : va_G) (cI cP : ClassId) (hs : Nat → Nat) (σ : PS) : CI l yX1_mergePieces wsX1_mergePieces ({ frames := 1, cells := 0, slots := 0, locals := 23 } : Room) D (cty cI cP) (wPool cI hs σ) (wPool cI hs) [.ref (hs 0)] 0 0 (fun r u => f1_mergePieces σ = (r, u)) := by
  refine CI.of (cc := cX1_mergePieces) (maxL := 4) (rt := .int) (own := RX1) (lv0 := [(0, .ref (hs 0))]) pnX1 rfl rfl (Nat.le_of_ble_eq_true rfl) rfl (fun p e s m args below meth c A Q F hret => ?_)
  have w_1 := F.at (x := Cond.fieldLink RX1 36 "ThinVolumes$Pool" "owners" "[I") 1 rfl
  have w_2 := F.at (x := Cond.fieldLink RX1 33 "ThinVolumes$Pool" "values" "[I") 2 rfl
  have w_3 := F.at (x := Cond.fieldLink RX1 66 "ThinVolumes$Pool" "piecesFreed" "I") 3 rfl
  have k_1 : ∀ w ∈ wsX10, w ∈ wsX1_mergePieces := fun _ h => List.mem_cons_of_mem _ (List.mem_append_right _ (h))
  have L14 : ∀ (j2 : Nat) (hj2 : j2 < 30) (n : Nat) (i : Nat) (x1 : Int32) (u : PS), i + n = 30 → (∀ (y1 : Int32) (uu : PS), f1_mergePieces_L14 j2 n i x1 u = (y1, uu) → Wk p l e ({ frames := 1, cells := 0, slots := 0, locals := 23 } : Room) s m args below meth c 4 D A 0 0 Q (wPool cI hs uu) [(0, .ref (hs 0)), (1, .int y1), (2, .int (nI j2))] 68 []) → Wk p l e ({ frames := 1, cells := 0, slots := 0, locals := 23 } : Room) s m args below meth c 4 D A 0 0 Q (wPool cI hs u) [(0, .ref (hs 0)), (1, .int x1), (2, .int (nI j2)), (3, .int (nI i))] 14 [] := by
    intro j2 hj2 n
    induction n with
    | zero =>
      intro i x1 u hi kx
      refine wk_iload_n F dX1_mergePieces_14 rfl 3 rfl (pc' := 15) rfl ?_
      refine wk_bipush F dX1_mergePieces_15 bp_30 (pc' := 17) rfl ?_
      refine wk_icmp_ge (tgt := 68) F dX1_mergePieces_17 (by decide) (pc' := 20) rfl (fun _ => ?_) (fun c => absurd ((nI_leI (a := 30) (b := i) (by omega) (by omega)).mpr (by omega)) c)
      refine wk_lv [0, 1, 2] rfl ?_
      exact kx x1 u (by simp only [f1_mergePieces_L14])
    | succ n ih =>
      intro i x1 u hi kx
      refine wk_iload_n F dX1_mergePieces_14 rfl 3 rfl (pc' := 15) rfl ?_
      refine wk_bipush F dX1_mergePieces_15 bp_30 (pc' := 17) rfl ?_
      refine wk_icmp_ge (tgt := 68) F dX1_mergePieces_17 (by decide) (pc' := 20) rfl (fun c => absurd ((nI_leI (a := 30) (b := i) (by omega) (by omega)).mp c) (by omega)) (fun _ => ?_)
      refine wk_aload_n F dX1_mergePieces_20 rfl 0 rfl (pc' := 21) rfl ?_
      refine wk_get (C := RX1) (T := TX1) (N := 14) F 0 rfl rfl k_1 8 (Nat.le_of_ble_eq_true rfl) w_1 rfl dX1_mergePieces_21 (pc' := 24) rfl ?_
      refine wk_iload_n F dX1_mergePieces_24 rfl 2 rfl (pc' := 25) rfl ?_
      refine wk_iald_n (i := j2) F 9 0 rfl rfl (by omega) (Nat.le_of_ble_eq_true rfl) dX1_mergePieces_25 (pc' := 26) rfl ?_
      refine wk_if_le (tgt := 62) F dX1_mergePieces_26 (by decide) (pc' := 29) rfl (fun c1 => ?_) (fun c1 => ?_)
      · refine wk_iinc (k := 3) (v := nI (i + 1)) (lv' := [(3, .int (nI (i + 1))), (0, .ref (hs 0)), (1, .int x1), (2, .int (nI j2))]) F dX1_mergePieces_62 rfl (nI_inc i) (Nat.le_of_ble_eq_true rfl) rfl (pc' := 65) rfl ?_
        refine wk_goto (tgt := 14) F dX1_mergePieces_65 (by decide) ?_
        refine wk_lv [1, 2, 3, 0] rfl ?_
        exact ih (i + 1) x1 u (by omega) (fun y1_ u_ h_ => kx y1_ u_ (Eq.trans (by simp only [f1_mergePieces_L14, if_pos c1]) h_))
      · refine wk_aload_n F dX1_mergePieces_29 rfl 0 rfl (pc' := 30) rfl ?_
        refine wk_get (C := RX1) (T := TX1) (N := 14) F 0 rfl rfl k_1 8 (Nat.le_of_ble_eq_true rfl) w_1 rfl dX1_mergePieces_30 (pc' := 33) rfl ?_
        refine wk_iload_n F dX1_mergePieces_33 rfl 3 rfl (pc' := 34) rfl ?_
        refine wk_iald_n (i := i) F 9 0 rfl rfl (by omega) (Nat.le_of_ble_eq_true rfl) dX1_mergePieces_34 (pc' := 35) rfl ?_
        refine wk_if_le (tgt := 62) F dX1_mergePieces_35 (by decide) (pc' := 38) rfl (fun c2 => ?_) (fun c2 => ?_)
        · refine wk_iinc (k := 3) (v := nI (i + 1)) (lv' := [(3, .int (nI (i + 1))), (0, .ref (hs 0)), (1, .int x1), (2, .int (nI j2))]) F dX1_mergePieces_62 rfl (nI_inc i) (Nat.le_of_ble_eq_true rfl) rfl (pc' := 65) rfl ?_
          refine wk_goto (tgt := 14) F dX1_mergePieces_65 (by decide) ?_
          refine wk_lv [1, 2, 3, 0] rfl ?_
          exact ih (i + 1) x1 u (by omega) (fun y1_ u_ h_ => kx y1_ u_ (Eq.trans (by simp only [f1_mergePieces_L14, if_neg c1, if_pos c2]) h_))
        · refine wk_aload_n F dX1_mergePieces_38 rfl 0 rfl (pc' := 39) rfl ?_
          refine wk_get (C := RX1) (T := TX1) (N := 14) F 0 rfl rfl k_1 7 (Nat.le_of_ble_eq_true rfl) w_2 rfl dX1_mergePieces_39 (pc' := 42) rfl ?_
          refine wk_iload_n F dX1_mergePieces_42 rfl 2 rfl (pc' := 43) rfl ?_
          refine wk_iald_n (i := j2) F 8 0 rfl rfl (by omega) (Nat.le_of_ble_eq_true rfl) dX1_mergePieces_43 (pc' := 44) rfl ?_
          refine wk_aload_n F dX1_mergePieces_44 rfl 0 rfl (pc' := 45) rfl ?_
          refine wk_get (C := RX1) (T := TX1) (N := 14) F 0 rfl rfl k_1 7 (Nat.le_of_ble_eq_true rfl) w_2 rfl dX1_mergePieces_45 (pc' := 48) rfl ?_
          refine wk_iload_n F dX1_mergePieces_48 rfl 3 rfl (pc' := 49) rfl ?_
          refine wk_iald_n (i := i) F 8 0 rfl rfl (by omega) (Nat.le_of_ble_eq_true rfl) dX1_mergePieces_49 (pc' := 50) rfl ?_
          refine wk_icmp_ne (tgt := 62) F dX1_mergePieces_50 (by decide) (pc' := 53) rfl (fun c3 => ?_) (fun c3 => ?_)
          · refine wk_iinc (k := 3) (v := nI (i + 1)) (lv' := [(3, .int (nI (i + 1))), (0, .ref (hs 0)), (1, .int x1), (2, .int (nI j2))]) F dX1_mergePieces_62 rfl (nI_inc i) (Nat.le_of_ble_eq_true rfl) rfl (pc' := 65) rfl ?_
            refine wk_goto (tgt := 14) F dX1_mergePieces_65 (by decide) ?_
            refine wk_lv [1, 2, 3, 0] rfl ?_
            exact ih (i + 1) x1 u (by omega) (fun y1_ u_ h_ => kx y1_ u_ (Eq.trans (by simp only [f1_mergePieces_L14, if_neg c1, if_neg c2, if_neg c3]) h_))
          · refine wk_aload_n F dX1_mergePieces_53 rfl 0 rfl (pc' := 54) rfl ?_
            refine wk_iload_n F dX1_mergePieces_54 rfl 3 rfl (pc' := 55) rfl ?_
            refine wk_iload_n F dX1_mergePieces_55 rfl 2 rfl (pc' := 56) rfl ?_
            refine wk_same_v F (c1_moveOwners l D cI cP hs u (nI i) (nI j2) (vp_in_nI (n := i) (N := 30) (by omega) (Nat.le_of_ble_eq_true rfl)) (vp_in_nI (n := j2) (N := 30) (by omega) (Nat.le_of_ble_eq_true rfl))) (cwV 2 F.hts gX1_mergePieces_X1_moveOwners rfl rfl rfl hdX1_moveOwners ⟨Nat.le_of_ble_eq_true rfl, Nat.le_of_ble_eq_true rfl⟩) 0 1 rfl rfl rfl rfl (Nat.le_of_ble_eq_true rfl) dX1_mergePieces_56 ⟨Nat.zero_le _, Nat.zero_le _⟩ (pc' := 59) rfl (fun u4 h5 => ?_)
            refine wk_iinc (k := 1) (v := x1 + 1) (lv' := [(1, .int (x1 + 1)), (0, .ref (hs 0)), (2, .int (nI j2)), (3, .int (nI i))]) F dX1_mergePieces_59 rfl rfl (Nat.le_of_ble_eq_true rfl) rfl (pc' := 62) rfl ?_
            refine wk_iinc (k := 3) (v := nI (i + 1)) (lv' := [(3, .int (nI (i + 1))), (1, .int (x1 + 1)), (0, .ref (hs 0)), (2, .int (nI j2))]) F dX1_mergePieces_62 rfl (nI_inc i) (Nat.le_of_ble_eq_true rfl) rfl (pc' := 65) rfl ?_
            refine wk_goto (tgt := 14) F dX1_mergePieces_65 (by decide) ?_
            refine wk_lv [2, 1, 3, 0] rfl ?_
            exact ih (i + 1) (x1 + 1) u4 (by omega) (fun y1_ u_ h_ => kx y1_ u_ (Eq.trans (by simp only [f1_mergePieces_L14, h5, if_neg c1, if_neg c2, if_pos c3]) h_))
  have L4 : ∀ (n : Nat) (i : Nat) (x1 : Int32) (u : PS), i + n = 30 → (∀ (y1 : Int32) (uu : PS), f1_mergePieces_L4 n i x1 u = (y1, uu) → Wk p l e ({ frames := 1, cells := 0, slots := 0, locals := 23 } : Room) s m args below meth c 4 D A 0 0 Q (wPool cI hs uu) [(0, .ref (hs 0)), (1, .int y1)] 74 []) → Wk p l e ({ frames := 1, cells := 0, slots := 0, locals := 23 } : Room) s m args below meth c 4 D A 0 0 Q (wPool cI hs u) [(0, .ref (hs 0)), (1, .int x1), (2, .int (nI i))] 4 [] := by
    intro n
    induction n with
    | zero =>
      intro i x1 u hi kx
      refine wk_iload_n F dX1_mergePieces_4 rfl 2 rfl (pc' := 5) rfl ?_
      refine wk_bipush F dX1_mergePieces_5 bp_30 (pc' := 7) rfl ?_
      refine wk_icmp_ge (tgt := 74) F dX1_mergePieces_7 (by decide) (pc' := 10) rfl (fun _ => ?_) (fun c => absurd ((nI_leI (a := 30) (b := i) (by omega) (by omega)).mpr (by omega)) c)
      refine wk_lv [0, 1] rfl ?_
      exact kx x1 u (by simp only [f1_mergePieces_L4])
    | succ n ih =>
      intro i x1 u hi kx
      refine wk_iload_n F dX1_mergePieces_4 rfl 2 rfl (pc' := 5) rfl ?_
      refine wk_bipush F dX1_mergePieces_5 bp_30 (pc' := 7) rfl ?_
      refine wk_icmp_ge (tgt := 74) F dX1_mergePieces_7 (by decide) (pc' := 10) rfl (fun c => absurd ((nI_leI (a := 30) (b := i) (by omega) (by omega)).mp c) (by omega)) (fun _ => ?_)
      refine wk_iload_n F dX1_mergePieces_10 rfl 2 rfl (pc' := 11) rfl ?_
      refine wk_iconst F dX1_mergePieces_11 ic_1 (pc' := 12) rfl ?_
      refine wk_iadd F dX1_mergePieces_12 (pc' := 13) rfl ?_
      refine wk_top (nI_1 i) ?_
      refine wk_istore_n (lv' := [(3, .int (nI (i + 1))), (0, .ref (hs 0)), (1, .int x1), (2, .int (nI i))]) F dX1_mergePieces_13 rfl (Nat.le_of_ble_eq_true rfl) rfl (pc' := 14) rfl ?_
      refine wk_lv [1, 2, 3, 0] rfl ?_
      refine L14 i (by omega) (30 - (i + 1)) (i + 1) x1 u (by omega) (fun y7 u8 h6 => ?_)
      refine wk_iinc (k := 2) (v := nI (i + 1)) (lv' := [(2, .int (nI (i + 1))), (0, .ref (hs 0)), (1, .int y7)]) F dX1_mergePieces_68 rfl (nI_inc i) (Nat.le_of_ble_eq_true rfl) rfl (pc' := 71) rfl ?_
      refine wk_goto (tgt := 4) F dX1_mergePieces_71 (by decide) ?_
      refine wk_lv [1, 2, 0] rfl ?_
      exact ih (i + 1) y7 u8 (by omega) (fun y1_ u_ h_ => kx y1_ u_ (Eq.trans (by simp only [f1_mergePieces_L4, h6]) h_))
  refine wk_iconst F dX1_mergePieces_0 ic_0 (pc' := 1) rfl ?_
  refine wk_istore_n (lv' := [(1, .int (0 : Int32)), (0, .ref (hs 0))]) F dX1_mergePieces_1 rfl (Nat.le_of_ble_eq_true rfl) rfl (pc' := 2) rfl ?_
  refine wk_iconst F dX1_mergePieces_2 ic_0 (pc' := 3) rfl ?_
  refine wk_istore_n (lv' := [(2, .int (0 : Int32)), (1, .int (0 : Int32)), (0, .ref (hs 0))]) F dX1_mergePieces_3 rfl (Nat.le_of_ble_eq_true rfl) rfl (pc' := 4) rfl ?_
  refine wk_lv [2, 1, 0] rfl ?_
  refine L4 30 0 (0 : Int32) σ (by omega) (fun y10 u11 h9 => ?_)
  refine wk_aload_n F dX1_mergePieces_74 rfl 0 rfl (pc' := 75) rfl ?_
  refine wk_dup F dX1_mergePieces_75 rfl (pc' := 76) rfl ?_
  refine wk_get (C := RX1) (T := TX1) (N := 14) F 0 rfl rfl k_1 13 (Nat.le_of_ble_eq_true rfl) w_3 rfl dX1_mergePieces_76 (pc' := 79) rfl ?_
  refine wk_iload_n F dX1_mergePieces_79 rfl 1 rfl (pc' := 80) rfl ?_
  refine wk_iadd F dX1_mergePieces_80 (pc' := 81) rfl ?_
  refine wk_putu (wg := wPool cI hs) (f0 := wr u11 13 2 ((u11 13 2) + y10)) (C := RX1) (T := TX1) (N := 14) (ty0 := tyX1) F 0 rfl rfl k_1 tyX1_ok nmX1 13 (Nat.le_of_ble_eq_true rfl) w_3 rfl rfl rfl (Nat.le_of_ble_eq_true rfl) sP_2 dX1_mergePieces_81 (pc' := 84) rfl (fun u12 h13 => ?_)
  refine wk_iload_n F dX1_mergePieces_84 rfl 1 rfl (pc' := 85) rfl ?_
  exact hret _ _ _ _ dX1_mergePieces_85 rfl (by simp only [f1_mergePieces, h9, h13])
end
