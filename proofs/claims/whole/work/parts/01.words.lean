-- ===== PART A: goes FIRST, ahead of the names: the tables' words, and 'selects' of the private methods out of them =====
/-- a private method of a class that the tables say can be made, by its rows of tables_1 -/
def lw_okq (q : MethodName × Nat) : Prop := (q.1.cls ≠ "java/lang/invoke/MethodHandle" ∧ q.1.cls ≠ "java/lang/invoke/VarHandle") ∧ Cond.instantiable q.1.cls q.2 ∈ tables_1 ∧ Cond.privateMethod q.1 ∈ tables_1 ∧ Cond.instanceMethod q.1 ∈ tables_1
theorem lw_p0 : lw_okq (⟨"FogCuts$Bank", "warm", "()V"⟩, 13) := ⟨⟨by decide +kernel, by decide +kernel⟩, List.mem_of_getElem? (i := 16) (by decide +kernel), List.mem_of_getElem? (i := 166) (by decide +kernel), List.mem_of_getElem? (i := 167) (by decide +kernel)⟩
theorem lw_p1 : lw_okq (⟨"FogCuts$Bank", "blow", "(II)V"⟩, 13) := ⟨⟨by decide +kernel, by decide +kernel⟩, List.mem_of_getElem? (i := 16) (by decide +kernel), List.mem_of_getElem? (i := 250) (by decide +kernel), List.mem_of_getElem? (i := 251) (by decide +kernel)⟩
theorem lw_p2 : lw_okq (⟨"FogCuts$Bank", "actsAt", "(II)I"⟩, 13) := ⟨⟨by decide +kernel, by decide +kernel⟩, List.mem_of_getElem? (i := 16) (by decide +kernel), List.mem_of_getElem? (i := 267) (by decide +kernel), List.mem_of_getElem? (i := 268) (by decide +kernel)⟩
theorem lw_p3 : lw_okq (⟨"FogCuts", "canBeDone", "(I)Z"⟩, 7) := ⟨⟨by decide +kernel, by decide +kernel⟩, List.mem_of_getElem? (i := 8) (by decide +kernel), List.mem_of_getElem? (i := 276) (by decide +kernel), List.mem_of_getElem? (i := 277) (by decide +kernel)⟩
theorem lw_p4 : lw_okq (⟨"FogCuts", "isShape", "(I)Z"⟩, 7) := ⟨⟨by decide +kernel, by decide +kernel⟩, List.mem_of_getElem? (i := 8) (by decide +kernel), List.mem_of_getElem? (i := 293) (by decide +kernel), List.mem_of_getElem? (i := 294) (by decide +kernel)⟩
theorem lw_p5 : lw_okq (⟨"FogCuts", "fewestCuts", "(I)I"⟩, 7) := ⟨⟨by decide +kernel, by decide +kernel⟩, List.mem_of_getElem? (i := 8) (by decide +kernel), List.mem_of_getElem? (i := 320) (by decide +kernel), List.mem_of_getElem? (i := 321) (by decide +kernel)⟩
theorem lw_p6 : lw_okq (⟨"FogCuts", "standsByCuts", "(III)Z"⟩, 7) := ⟨⟨by decide +kernel, by decide +kernel⟩, List.mem_of_getElem? (i := 8) (by decide +kernel), List.mem_of_getElem? (i := 332) (by decide +kernel), List.mem_of_getElem? (i := 333) (by decide +kernel)⟩
theorem lw_p7 : lw_okq (⟨"FogCuts", "pickedBits", "(II)I"⟩, 7) := ⟨⟨by decide +kernel, by decide +kernel⟩, List.mem_of_getElem? (i := 8) (by decide +kernel), List.mem_of_getElem? (i := 340) (by decide +kernel), List.mem_of_getElem? (i := 341) (by decide +kernel)⟩
theorem lw_p8 : lw_okq (⟨"FogCuts", "fewestLamps", "(I)I"⟩, 7) := ⟨⟨by decide +kernel, by decide +kernel⟩, List.mem_of_getElem? (i := 8) (by decide +kernel), List.mem_of_getElem? (i := 355) (by decide +kernel), List.mem_of_getElem? (i := 356) (by decide +kernel)⟩
theorem lw_p9 : lw_okq (⟨"FogCuts", "standsWithout", "(II)Z"⟩, 7) := ⟨⟨by decide +kernel, by decide +kernel⟩, List.mem_of_getElem? (i := 8) (by decide +kernel), List.mem_of_getElem? (i := 359) (by decide +kernel), List.mem_of_getElem? (i := 360) (by decide +kernel)⟩
theorem lw_p10 : lw_okq (⟨"FogCuts", "weighWays", "(I)V"⟩, 7) := ⟨⟨by decide +kernel, by decide +kernel⟩, List.mem_of_getElem? (i := 8) (by decide +kernel), List.mem_of_getElem? (i := 387) (by decide +kernel), List.mem_of_getElem? (i := 388) (by decide +kernel)⟩
theorem lw_p11 : lw_okq (⟨"FogCuts", "spoiltIn", "(I)I"⟩, 7) := ⟨⟨by decide +kernel, by decide +kernel⟩, List.mem_of_getElem? (i := 8) (by decide +kernel), List.mem_of_getElem? (i := 391) (by decide +kernel), List.mem_of_getElem? (i := 392) (by decide +kernel)⟩
theorem lw_p12 : lw_okq (⟨"FogCuts", "firstStep", "(II)I"⟩, 7) := ⟨⟨by decide +kernel, by decide +kernel⟩, List.mem_of_getElem? (i := 8) (by decide +kernel), List.mem_of_getElem? (i := 404) (by decide +kernel), List.mem_of_getElem? (i := 405) (by decide +kernel)⟩
theorem lw_p13 : lw_okq (⟨"FogCuts", "isSet", "(I)Z"⟩, 7) := ⟨⟨by decide +kernel, by decide +kernel⟩, List.mem_of_getElem? (i := 8) (by decide +kernel), List.mem_of_getElem? (i := 412) (by decide +kernel), List.mem_of_getElem? (i := 413) (by decide +kernel)⟩
theorem lw_p14 : lw_okq (⟨"FogCuts", "nimSum", "(I)I"⟩, 7) := ⟨⟨by decide +kernel, by decide +kernel⟩, List.mem_of_getElem? (i := 8) (by decide +kernel), List.mem_of_getElem? (i := 416) (by decide +kernel), List.mem_of_getElem? (i := 417) (by decide +kernel)⟩
theorem lw_p15 : lw_okq (⟨"FogCuts", "findFitting", "()I"⟩, 7) := ⟨⟨by decide +kernel, by decide +kernel⟩, List.mem_of_getElem? (i := 8) (by decide +kernel), List.mem_of_getElem? (i := 436) (by decide +kernel), List.mem_of_getElem? (i := 437) (by decide +kernel)⟩
def lw_privs_1 : List (MethodName × Nat) := [(⟨"FogCuts$Bank", "warm", "()V"⟩, 13), (⟨"FogCuts$Bank", "blow", "(II)V"⟩, 13), (⟨"FogCuts$Bank", "actsAt", "(II)I"⟩, 13), (⟨"FogCuts", "canBeDone", "(I)Z"⟩, 7), (⟨"FogCuts", "isShape", "(I)Z"⟩, 7), (⟨"FogCuts", "fewestCuts", "(I)I"⟩, 7), (⟨"FogCuts", "standsByCuts", "(III)Z"⟩, 7), (⟨"FogCuts", "pickedBits", "(II)I"⟩, 7), (⟨"FogCuts", "fewestLamps", "(I)I"⟩, 7), (⟨"FogCuts", "standsWithout", "(II)Z"⟩, 7), (⟨"FogCuts", "weighWays", "(I)V"⟩, 7), (⟨"FogCuts", "spoiltIn", "(I)I"⟩, 7), (⟨"FogCuts", "firstStep", "(II)I"⟩, 7), (⟨"FogCuts", "isSet", "(I)Z"⟩, 7), (⟨"FogCuts", "nimSum", "(I)I"⟩, 7), (⟨"FogCuts", "findFitting", "()I"⟩, 7)]
theorem lw_r1 : ∀ q ∈ lw_privs_1, lw_okq q := List.forall_mem_cons.mpr ⟨lw_p0, List.forall_mem_cons.mpr ⟨lw_p1, List.forall_mem_cons.mpr ⟨lw_p2, List.forall_mem_cons.mpr ⟨lw_p3, List.forall_mem_cons.mpr ⟨lw_p4, List.forall_mem_cons.mpr ⟨lw_p5, List.forall_mem_cons.mpr ⟨lw_p6, List.forall_mem_cons.mpr ⟨lw_p7, List.forall_mem_cons.mpr ⟨lw_p8, List.forall_mem_cons.mpr ⟨lw_p9, List.forall_mem_cons.mpr ⟨lw_p10, List.forall_mem_cons.mpr ⟨lw_p11, List.forall_mem_cons.mpr ⟨lw_p12, List.forall_mem_cons.mpr ⟨lw_p13, List.forall_mem_cons.mpr ⟨lw_p14, List.forall_mem_cons.mpr ⟨lw_p15, fun _ h => absurd h List.not_mem_nil⟩⟩⟩⟩⟩⟩⟩⟩⟩⟩⟩⟩⟩⟩⟩⟩
theorem lw_p16 : lw_okq (⟨"FogCuts", "tenthsThatStand", "(III)J"⟩, 7) := ⟨⟨by decide +kernel, by decide +kernel⟩, List.mem_of_getElem? (i := 8) (by decide +kernel), List.mem_of_getElem? (i := 454) (by decide +kernel), List.mem_of_getElem? (i := 455) (by decide +kernel)⟩
theorem lw_p17 : lw_okq (⟨"FogCutsModel", "clear", "()V"⟩, 20) := ⟨⟨by decide +kernel, by decide +kernel⟩, List.mem_of_getElem? (i := 495) (by decide +kernel), List.mem_of_getElem? (i := 501) (by decide +kernel), List.mem_of_getElem? (i := 502) (by decide +kernel)⟩
theorem lw_p18 : lw_okq (⟨"FogCutsModel", "isCell", "(I)Z"⟩, 20) := ⟨⟨by decide +kernel, by decide +kernel⟩, List.mem_of_getElem? (i := 495) (by decide +kernel), List.mem_of_getElem? (i := 578) (by decide +kernel), List.mem_of_getElem? (i := 579) (by decide +kernel)⟩
theorem lw_p19 : lw_okq (⟨"FogCutsModel", "cells", "()I"⟩, 20) := ⟨⟨by decide +kernel, by decide +kernel⟩, List.mem_of_getElem? (i := 495) (by decide +kernel), List.mem_of_getElem? (i := 582) (by decide +kernel), List.mem_of_getElem? (i := 583) (by decide +kernel)⟩
theorem lw_p20 : lw_okq (⟨"FogCutsModel", "wanted", "(I)I"⟩, 20) := ⟨⟨by decide +kernel, by decide +kernel⟩, List.mem_of_getElem? (i := 495) (by decide +kernel), List.mem_of_getElem? (i := 594) (by decide +kernel), List.mem_of_getElem? (i := 595) (by decide +kernel)⟩
theorem lw_p21 : lw_okq (⟨"FogCutsModel", "faultOf", "()I"⟩, 20) := ⟨⟨by decide +kernel, by decide +kernel⟩, List.mem_of_getElem? (i := 495) (by decide +kernel), List.mem_of_getElem? (i := 613) (by decide +kernel), List.mem_of_getElem? (i := 614) (by decide +kernel)⟩
theorem lw_p22 : lw_okq (⟨"FogCutsModel", "goNight", "(I)I"⟩, 20) := ⟨⟨by decide +kernel, by decide +kernel⟩, List.mem_of_getElem? (i := 495) (by decide +kernel), List.mem_of_getElem? (i := 624) (by decide +kernel), List.mem_of_getElem? (i := 625) (by decide +kernel)⟩
theorem lw_p23 : lw_okq (⟨"FogCutsModel", "asNow", "()V"⟩, 20) := ⟨⟨by decide +kernel, by decide +kernel⟩, List.mem_of_getElem? (i := 495) (by decide +kernel), List.mem_of_getElem? (i := 628) (by decide +kernel), List.mem_of_getElem? (i := 629) (by decide +kernel)⟩
theorem lw_p24 : lw_okq (⟨"FogCutsModel", "pass", "(I)V"⟩, 20) := ⟨⟨by decide +kernel, by decide +kernel⟩, List.mem_of_getElem? (i := 495) (by decide +kernel), List.mem_of_getElem? (i := 632) (by decide +kernel), List.mem_of_getElem? (i := 633) (by decide +kernel)⟩
theorem lw_p25 : lw_okq (⟨"FogCutsModel", "beside", "(II)I"⟩, 20) := ⟨⟨by decide +kernel, by decide +kernel⟩, List.mem_of_getElem? (i := 495) (by decide +kernel), List.mem_of_getElem? (i := 639) (by decide +kernel), List.mem_of_getElem? (i := 640) (by decide +kernel)⟩
theorem lw_p26 : lw_okq (⟨"FogCutsModel", "standsNow", "(I)Z"⟩, 20) := ⟨⟨by decide +kernel, by decide +kernel⟩, List.mem_of_getElem? (i := 495) (by decide +kernel), List.mem_of_getElem? (i := 643) (by decide +kernel), List.mem_of_getElem? (i := 644) (by decide +kernel)⟩
theorem lw_p27 : lw_okq (⟨"FogCutsModel", "barOfNight", "(I)I"⟩, 20) := ⟨⟨by decide +kernel, by decide +kernel⟩, List.mem_of_getElem? (i := 495) (by decide +kernel), List.mem_of_getElem? (i := 651) (by decide +kernel), List.mem_of_getElem? (i := 652) (by decide +kernel)⟩
theorem lw_p28 : lw_okq (⟨"FogCutsModel", "isShape", "(I)Z"⟩, 20) := ⟨⟨by decide +kernel, by decide +kernel⟩, List.mem_of_getElem? (i := 495) (by decide +kernel), List.mem_of_getElem? (i := 667) (by decide +kernel), List.mem_of_getElem? (i := 668) (by decide +kernel)⟩
theorem lw_p29 : lw_okq (⟨"FogCutsModel", "actsFor", "(III)I"⟩, 20) := ⟨⟨by decide +kernel, by decide +kernel⟩, List.mem_of_getElem? (i := 495) (by decide +kernel), List.mem_of_getElem? (i := 683) (by decide +kernel), List.mem_of_getElem? (i := 684) (by decide +kernel)⟩
theorem lw_p30 : lw_okq (⟨"FogCutsModel", "areHours", "()Z"⟩, 20) := ⟨⟨by decide +kernel, by decide +kernel⟩, List.mem_of_getElem? (i := 495) (by decide +kernel), List.mem_of_getElem? (i := 692) (by decide +kernel), List.mem_of_getElem? (i := 693) (by decide +kernel)⟩
theorem lw_p31 : lw_okq (⟨"FogCutsModel", "goHours", "()V"⟩, 20) := ⟨⟨by decide +kernel, by decide +kernel⟩, List.mem_of_getElem? (i := 495) (by decide +kernel), List.mem_of_getElem? (i := 696) (by decide +kernel), List.mem_of_getElem? (i := 697) (by decide +kernel)⟩
def lw_privs_2 : List (MethodName × Nat) := [(⟨"FogCuts", "tenthsThatStand", "(III)J"⟩, 7), (⟨"FogCutsModel", "clear", "()V"⟩, 20), (⟨"FogCutsModel", "isCell", "(I)Z"⟩, 20), (⟨"FogCutsModel", "cells", "()I"⟩, 20), (⟨"FogCutsModel", "wanted", "(I)I"⟩, 20), (⟨"FogCutsModel", "faultOf", "()I"⟩, 20), (⟨"FogCutsModel", "goNight", "(I)I"⟩, 20), (⟨"FogCutsModel", "asNow", "()V"⟩, 20), (⟨"FogCutsModel", "pass", "(I)V"⟩, 20), (⟨"FogCutsModel", "beside", "(II)I"⟩, 20), (⟨"FogCutsModel", "standsNow", "(I)Z"⟩, 20), (⟨"FogCutsModel", "barOfNight", "(I)I"⟩, 20), (⟨"FogCutsModel", "isShape", "(I)Z"⟩, 20), (⟨"FogCutsModel", "actsFor", "(III)I"⟩, 20), (⟨"FogCutsModel", "areHours", "()Z"⟩, 20), (⟨"FogCutsModel", "goHours", "()V"⟩, 20)]
theorem lw_r2 : ∀ q ∈ lw_privs_2, lw_okq q := List.forall_mem_cons.mpr ⟨lw_p16, List.forall_mem_cons.mpr ⟨lw_p17, List.forall_mem_cons.mpr ⟨lw_p18, List.forall_mem_cons.mpr ⟨lw_p19, List.forall_mem_cons.mpr ⟨lw_p20, List.forall_mem_cons.mpr ⟨lw_p21, List.forall_mem_cons.mpr ⟨lw_p22, List.forall_mem_cons.mpr ⟨lw_p23, List.forall_mem_cons.mpr ⟨lw_p24, List.forall_mem_cons.mpr ⟨lw_p25, List.forall_mem_cons.mpr ⟨lw_p26, List.forall_mem_cons.mpr ⟨lw_p27, List.forall_mem_cons.mpr ⟨lw_p28, List.forall_mem_cons.mpr ⟨lw_p29, List.forall_mem_cons.mpr ⟨lw_p30, List.forall_mem_cons.mpr ⟨lw_p31, fun _ h => absurd h List.not_mem_nil⟩⟩⟩⟩⟩⟩⟩⟩⟩⟩⟩⟩⟩⟩⟩⟩
theorem lw_p32 : lw_okq (⟨"FogCutsModel", "areApart", "(II)Z"⟩, 20) := ⟨⟨by decide +kernel, by decide +kernel⟩, List.mem_of_getElem? (i := 495) (by decide +kernel), List.mem_of_getElem? (i := 712) (by decide +kernel), List.mem_of_getElem? (i := 713) (by decide +kernel)⟩
theorem lw_p33 : lw_okq (⟨"FogCutsModel", "layWalk", "(I)V"⟩, 20) := ⟨⟨by decide +kernel, by decide +kernel⟩, List.mem_of_getElem? (i := 495) (by decide +kernel), List.mem_of_getElem? (i := 720) (by decide +kernel), List.mem_of_getElem? (i := 721) (by decide +kernel)⟩
theorem lw_p34 : lw_okq (⟨"FogCutsModel", "anyWants", "(I)I"⟩, 20) := ⟨⟨by decide +kernel, by decide +kernel⟩, List.mem_of_getElem? (i := 495) (by decide +kernel), List.mem_of_getElem? (i := 724) (by decide +kernel), List.mem_of_getElem? (i := 725) (by decide +kernel)⟩
theorem lw_p35 : lw_okq (⟨"FogCutsModel", "areCells", "(I)Z"⟩, 20) := ⟨⟨by decide +kernel, by decide +kernel⟩, List.mem_of_getElem? (i := 495) (by decide +kernel), List.mem_of_getElem? (i := 732) (by decide +kernel), List.mem_of_getElem? (i := 733) (by decide +kernel)⟩
theorem lw_p36 : lw_okq (⟨"FogCutsModel", "over", "(I)I"⟩, 20) := ⟨⟨by decide +kernel, by decide +kernel⟩, List.mem_of_getElem? (i := 495) (by decide +kernel), List.mem_of_getElem? (i := 736) (by decide +kernel), List.mem_of_getElem? (i := 737) (by decide +kernel)⟩
theorem lw_p37 : lw_okq (⟨"FogCutsModel", "wasCut", "(II)Z"⟩, 20) := ⟨⟨by decide +kernel, by decide +kernel⟩, List.mem_of_getElem? (i := 495) (by decide +kernel), List.mem_of_getElem? (i := 756) (by decide +kernel), List.mem_of_getElem? (i := 757) (by decide +kernel)⟩
theorem lw_p38 : lw_okq (⟨"FogCutsModel", "allStand", "()Z"⟩, 20) := ⟨⟨by decide +kernel, by decide +kernel⟩, List.mem_of_getElem? (i := 495) (by decide +kernel), List.mem_of_getElem? (i := 776) (by decide +kernel), List.mem_of_getElem? (i := 777) (by decide +kernel)⟩
theorem lw_p39 : lw_okq (⟨"FogCutsModel", "sumNow", "()I"⟩, 20) := ⟨⟨by decide +kernel, by decide +kernel⟩, List.mem_of_getElem? (i := 495) (by decide +kernel), List.mem_of_getElem? (i := 780) (by decide +kernel), List.mem_of_getElem? (i := 781) (by decide +kernel)⟩
def lw_privs_3 : List (MethodName × Nat) := [(⟨"FogCutsModel", "areApart", "(II)Z"⟩, 20), (⟨"FogCutsModel", "layWalk", "(I)V"⟩, 20), (⟨"FogCutsModel", "anyWants", "(I)I"⟩, 20), (⟨"FogCutsModel", "areCells", "(I)Z"⟩, 20), (⟨"FogCutsModel", "over", "(I)I"⟩, 20), (⟨"FogCutsModel", "wasCut", "(II)Z"⟩, 20), (⟨"FogCutsModel", "allStand", "()Z"⟩, 20), (⟨"FogCutsModel", "sumNow", "()I"⟩, 20)]
theorem lw_r3 : ∀ q ∈ lw_privs_3, lw_okq q := List.forall_mem_cons.mpr ⟨lw_p32, List.forall_mem_cons.mpr ⟨lw_p33, List.forall_mem_cons.mpr ⟨lw_p34, List.forall_mem_cons.mpr ⟨lw_p35, List.forall_mem_cons.mpr ⟨lw_p36, List.forall_mem_cons.mpr ⟨lw_p37, List.forall_mem_cons.mpr ⟨lw_p38, List.forall_mem_cons.mpr ⟨lw_p39, fun _ h => absurd h List.not_mem_nil⟩⟩⟩⟩⟩⟩⟩⟩
def lw_privs : List (MethodName × Nat) := lw_privs_1 ++ (lw_privs_2 ++ (lw_privs_3))
def lw_tbl : List Cond := k2_sels lw_privs ++ tables_1
theorem lw_privs_ok : ∀ q ∈ lw_privs, lw_okq q := by
  show ∀ q ∈ lw_privs_1 ++ (lw_privs_2 ++ (lw_privs_3)), lw_okq q
  exact List.forall_mem_append.mpr ⟨lw_r1, List.forall_mem_append.mpr ⟨lw_r2, lw_r3⟩⟩

def RX0 : String := "FogCuts$Bank"
def TX0 : u_T := fun k => match k with
  | 0 => ("FogCuts$Bank", "rows", "I", false)
  | 1 => ("FogCuts$Bank", "columns", "I", false)
  | 2 => ("FogCuts$Bank", "cells", "I", false)
  | 3 => ("FogCuts$Bank", "feed", "I", false)
  | 4 => ("FogCuts$Bank", "slack", "I", false)
  | 5 => ("FogCuts$Bank", "sights", "I", false)
  | 6 => ("FogCuts$Bank", "thick", "[I", true)
  | 7 => ("FogCuts$Bank", "lamp", "[I", true)
  | 8 => ("FogCuts$Bank", "melt", "[I", true)
  | 9 => ("FogCuts$Bank", "was", "[I", true)
  | 10 => ("FogCuts$Bank", "wanted", "[I", true)
  | 11 => ("FogCuts$Bank", "sightCells", "[I", true)
  | _ => ("FogCuts$Bank", "sightNumbers", "[I", true)
def tyX0 : Nat → FieldType := fun k => match k with
  | 0 => .int
  | 1 => .int
  | 2 => .int
  | 3 => .int
  | 4 => .int
  | 5 => .int
  | 6 => .array .int
  | 7 => .array .int
  | 8 => .array .int
  | 9 => .array .int
  | 10 => .array .int
  | 11 => .array .int
  | _ => .array .int
theorem nmX0 : ∀ a, a < 13 → ∀ b, b < 13 → a ≠ b → (TX0 a).2.1 ≠ (TX0 b).2.1 := by decide +kernel
theorem tyX0_ok : ∀ k, k < 13 → parseFieldDescriptor (TX0 k).2.2.1 = some (tyX0 k) := by decide +kernel
def RX1 : String := "FogCuts$Night"
def TX1 : u_T := fun k => match k with
  | 0 => ("FogCuts$Night", "signs", "[I", true)
  | 1 => ("FogCuts$Night", "count", "I", false)
  | 2 => ("FogCuts$Night", "parts", "I", false)
  | 3 => ("FogCuts$Night", "halted", "I", false)
  | 4 => ("FogCuts$Night", "why", "I", false)
  | _ => ("FogCuts$Night", "fallen", "I", false)
def tyX1 : Nat → FieldType := fun k => match k with
  | 0 => .array .int
  | 1 => .int
  | 2 => .int
  | 3 => .int
  | 4 => .int
  | _ => .int
theorem nmX1 : ∀ a, a < 6 → ∀ b, b < 6 → a ≠ b → (TX1 a).2.1 ≠ (TX1 b).2.1 := by decide +kernel
theorem tyX1_ok : ∀ k, k < 6 → parseFieldDescriptor (TX1 k).2.2.1 = some (tyX1 k) := by decide +kernel
def RX2 : String := "FogCuts"
def TX2 : u_T := fun k => match k with
  | 0 => ("FogCuts", "now", "LFogCuts$Bank;", true)
  | 1 => ("FogCuts", "trial", "LFogCuts$Bank;", true)
  | 2 => ("FogCuts", "night", "LFogCuts$Night;", true)
  | 3 => ("FogCuts", "images", "[LFogCuts$Bank;", true)
  | 4 => ("FogCuts", "picked", "[I", true)
  | 5 => ("FogCuts", "fitting", "[I", true)
  | _ => ("FogCuts", "toGo", "[I", true)
def tyX2 : Nat → FieldType := fun k => match k with
  | 0 => .object "FogCuts$Bank"
  | 1 => .object "FogCuts$Bank"
  | 2 => .object "FogCuts$Night"
  | 3 => .array (.object "FogCuts$Bank")
  | 4 => .array .int
  | 5 => .array .int
  | _ => .array .int
theorem nmX2 : ∀ a, a < 7 → ∀ b, b < 7 → a ≠ b → (TX2 a).2.1 ≠ (TX2 b).2.1 := by decide +kernel
theorem tyX2_ok : ∀ k, k < 7 → parseFieldDescriptor (TX2 k).2.2.1 = some (tyX2 k) := by decide +kernel
def RX3 : String := "FogCutsModel"
def TX3 : u_T := fun k => match k with
  | 0 => ("FogCutsModel", "rows", "I", false)
  | 1 => ("FogCutsModel", "columns", "I", false)
  | 2 => ("FogCutsModel", "thick", "[I", true)
  | 3 => ("FogCutsModel", "lamps", "I", false)
  | 4 => ("FogCutsModel", "feed", "I", false)
  | 5 => ("FogCutsModel", "slack", "I", false)
  | 6 => ("FogCutsModel", "wants", "[I", true)
  | 7 => ("FogCutsModel", "sights", "I", false)
  | 8 => ("FogCutsModel", "sight", "[I", true)
  | 9 => ("FogCutsModel", "signs", "I", false)
  | 10 => ("FogCutsModel", "pad", "[I", true)
  | 11 => ("FogCutsModel", "now", "[I", true)
  | 12 => ("FogCutsModel", "then", "[I", true)
  | 13 => ("FogCutsModel", "lit", "I", false)
  | 14 => ("FogCutsModel", "reason", "I", false)
  | 15 => ("FogCutsModel", "parts", "I", false)
  | 16 => ("FogCutsModel", "lostAt", "I", false)
  | 17 => ("FogCutsModel", "dear", "[I", true)
  | 18 => ("FogCutsModel", "image", "[I", true)
  | _ => ("FogCutsModel", "isKept", "[Z", true)
def tyX3 : Nat → FieldType := fun k => match k with
  | 0 => .int
  | 1 => .int
  | 2 => .array .int
  | 3 => .int
  | 4 => .int
  | 5 => .int
  | 6 => .array .int
  | 7 => .int
  | 8 => .array .int
  | 9 => .int
  | 10 => .array .int
  | 11 => .array .int
  | 12 => .array .int
  | 13 => .int
  | 14 => .int
  | 15 => .int
  | 16 => .int
  | 17 => .array .int
  | 18 => .array .int
  | _ => .array .boolean
theorem nmX3 : ∀ a, a < 20 → ∀ b, b < 20 → a ≠ b → (TX3 a).2.1 ≠ (TX3 b).2.1 := by decide +kernel
theorem tyX3_ok : ∀ k, k < 20 → parseFieldDescriptor (TX3 k).2.2.1 = some (tyX3 k) := by decide +kernel
def gw : List Cond := lw_tbl.filter goodWord
theorem gw_of {w : Cond} (i : Nat) (h : lw_tbl[i]? = some w) (hg : goodWord w = true) : w ∈ gw := List.mem_filter.mpr ⟨List.mem_of_getElem? h, hg⟩
theorem inX0 : ∀ w ∈ u_ws RX0 TX0 13, w ∈ gw := by
  have h : u_ws RX0 TX0 13 = [92, 94, 96, 98, 100, 102, 104, 106, 108, 110, 112, 114, 116].filterMap (fun i => lw_tbl[i]?) := by decide +kernel
  have hg : (u_ws RX0 TX0 13).all goodWord = true := by decide +kernel
  intro w hw
  have h1 := List.all_eq_true.mp hg w hw
  rw [h] at hw
  obtain ⟨i, -, hi⟩ := List.mem_filterMap.mp hw
  exact gw_of i hi h1
theorem inX1 : ∀ w ∈ u_ws RX1 TX1 6, w ∈ gw := by
  have h : u_ws RX1 TX1 6 = [138, 140, 142, 144, 146, 148].filterMap (fun i => lw_tbl[i]?) := by decide +kernel
  have hg : (u_ws RX1 TX1 6).all goodWord = true := by decide +kernel
  intro w hw
  have h1 := List.all_eq_true.mp hg w hw
  rw [h] at hw
  obtain ⟨i, -, hi⟩ := List.mem_filterMap.mp hw
  exact gw_of i hi h1
theorem inX2 : ∀ w ∈ u_ws RX2 TX2 7, w ∈ gw := by
  have h : u_ws RX2 TX2 7 = [159, 161, 163, 165, 167, 169, 171].filterMap (fun i => lw_tbl[i]?) := by decide +kernel
  have hg : (u_ws RX2 TX2 7).all goodWord = true := by decide +kernel
  intro w hw
  have h1 := List.all_eq_true.mp hg w hw
  rw [h] at hw
  obtain ⟨i, -, hi⟩ := List.mem_filterMap.mp hw
  exact gw_of i hi h1
theorem inX3 : ∀ w ∈ u_ws RX3 TX3 20, w ∈ gw := by
  have h : u_ws RX3 TX3 20 = [564, 566, 568, 570, 572, 574, 576, 578, 580, 582, 584, 586, 588, 590, 592, 594, 596, 598, 600, 602].filterMap (fun i => lw_tbl[i]?) := by decide +kernel
  have hg : (u_ws RX3 TX3 20).all goodWord = true := by decide +kernel
  intro w hw
  have h1 := List.all_eq_true.mp hg w hw
  rw [h] at hw
  obtain ⟨i, -, hi⟩ := List.mem_filterMap.mp hw
  exact gw_of i hi h1
def oS : Nat → String := fun k => match k with
  | 0 => "FogCuts$Bank"
  | 1 => "FogCuts$Night"
  | 2 => "FogCuts"
  | 3 => "FogCutsModel"
  | 4 => "FogCutsLaw"
  | 5 => "java/lang/Integer"
  | _ => "java/lang/Math"
def cN : Nat → Nat := fun k => match k with
  | 0 => 13
  | 1 => 6
  | 2 => 7
  | _ => 20
def cR : Nat → String := fun k => match k with
  | 0 => RX0
  | 1 => RX1
  | 2 => RX2
  | _ => RX3
def cT : Nat → u_T := fun k => match k with
  | 0 => TX0
  | 1 => TX1
  | 2 => TX2
  | _ => TX3
def cY : Nat → Nat → FieldType := fun k => match k with
  | 0 => tyX0
  | 1 => tyX1
  | 2 => tyX2
  | _ => tyX3
def vwc : List vw_C := [(RX0, TX0, 13), (RX1, TX1, 6), (RX2, TX2, 7), (RX3, TX3, 20)]
/-- a method: class (place in oS), name, descriptor, bytes, locals, answer (0 none, 1 int, 2 boolean, 3 long), frames and locals that its calls need -/
abbrev MR : Type := Nat × MethodName × ByteArray × Nat × Nat × Nat × Nat
def mt : List MR := [
  (2, ⟨"FogCuts", "<init>", "()V"⟩, prog_1_method_1_code, 1, 0, 3, 64),
  (0, ⟨"FogCuts$Bank", "<init>", "()V"⟩, prog_2_method_1_code, 1, 0, 2, 44),
  (0, ⟨"FogCuts$Bank", "clear", "(II)V"⟩, prog_2_method_2_code, 3, 0, 1, 22),
  (2, ⟨"FogCuts", "fill", "([II)V"⟩, prog_1_method_52_code, 3, 0, 0, 0),
  (1, ⟨"FogCuts$Night", "<init>", "()V"⟩, prog_3_method_1_code, 1, 0, 1, 21),
  (2, ⟨"FogCuts", "bank", "(II)I"⟩, prog_1_method_2_code, 3, 1, 2, 44),
  (2, ⟨"FogCuts", "isWithin", "(III)Z"⟩, prog_1_method_49_code, 3, 2, 0, 0),
  (2, ⟨"FogCuts", "cell", "(III)I"⟩, prog_1_method_3_code, 5, 1, 3, 69),
  (0, ⟨"FogCuts$Bank", "has", "(I)Z"⟩, prog_2_method_5_code, 2, 2, 0, 0),
  (0, ⟨"FogCuts$Bank", "tell", "(II)I"⟩, prog_2_method_10_code, 3, 1, 1, 21),
  (2, ⟨"FogCuts", "at", "([II)I"⟩, prog_1_method_50_code, 2, 1, 0, 0),
  (2, ⟨"FogCuts", "put", "([III)V"⟩, prog_1_method_51_code, 3, 0, 0, 0),
  (0, ⟨"FogCuts$Bank", "light", "(II)V"⟩, prog_2_method_11_code, 3, 0, 2, 47),
  (0, ⟨"FogCuts$Bank", "warm", "()V"⟩, prog_2_method_13_code, 5, 0, 1, 23),
  (0, ⟨"FogCuts$Bank", "cellAt", "(II)I"⟩, prog_2_method_6_code, 4, 1, 0, 0),
  (2, ⟨"FogCuts", "set", "(II)I"⟩, prog_1_method_4_code, 4, 1, 1, 22),
  (2, ⟨"FogCuts", "shape", "(III)I"⟩, prog_1_method_5_code, 4, 1, 3, 66),
  (0, ⟨"FogCuts$Bank", "wishes", "(I)I"⟩, prog_2_method_21_code, 4, 1, 2, 43),
  (0, ⟨"FogCuts$Bank", "wants", "(II)I"⟩, prog_2_method_20_code, 3, 1, 1, 21),
  (2, ⟨"FogCuts", "say", "(I)I"⟩, prog_1_method_6_code, 2, 1, 1, 22),
  (2, ⟨"FogCuts", "wipe", "()I"⟩, prog_1_method_7_code, 2, 1, 0, 0),
  (2, ⟨"FogCuts", "fault", "()I"⟩, prog_1_method_8_code, 1, 1, 3, 65),
  (1, ⟨"FogCuts$Night", "firstFault", "(LFogCuts$Bank;)I"⟩, prog_3_method_2_code, 4, 1, 2, 42),
  (2, ⟨"FogCuts", "hourOf", "(I)I"⟩, prog_1_method_54_code, 1, 1, 0, 0),
  (1, ⟨"FogCuts$Night", "isAct", "(I)Z"⟩, prog_3_method_3_code, 1, 2, 1, 22),
  (2, ⟨"FogCuts", "judge", "(I)I"⟩, prog_1_method_9_code, 2, 1, 5, 120),
  (1, ⟨"FogCuts$Night", "play", "(LFogCuts$Bank;LFogCuts$Bank;I)V"⟩, prog_3_method_6_code, 8, 0, 4, 93),
  (0, ⟨"FogCuts$Bank", "copyAll", "(LFogCuts$Bank;)V"⟩, prog_2_method_3_code, 2, 0, 2, 43),
  (2, ⟨"FogCuts", "copyRow", "([I[I)V"⟩, prog_1_method_53_code, 3, 0, 0, 0),
  (0, ⟨"FogCuts$Bank", "copyFog", "(LFogCuts$Bank;)V"⟩, prog_2_method_4_code, 2, 0, 1, 22),
  (0, ⟨"FogCuts$Bank", "pass", "(I)V"⟩, prog_2_method_14_code, 4, 0, 2, 50),
  (0, ⟨"FogCuts$Bank", "down", "(I)I"⟩, prog_2_method_8_code, 1, 1, 0, 0),
  (0, ⟨"FogCuts$Bank", "on", "(I)I"⟩, prog_2_method_9_code, 1, 1, 0, 0),
  (0, ⟨"FogCuts$Bank", "blow", "(II)V"⟩, prog_2_method_15_code, 8, 0, 1, 23),
  (0, ⟨"FogCuts$Bank", "act", "(II)I"⟩, prog_2_method_16_code, 5, 1, 3, 69),
  (0, ⟨"FogCuts$Bank", "holds", "(I)Z"⟩, prog_2_method_23_code, 2, 2, 3, 71),
  (0, ⟨"FogCuts$Bank", "acts", "(III)I"⟩, prog_2_method_25_code, 8, 1, 2, 44),
  (0, ⟨"FogCuts$Bank", "actsAt", "(II)I"⟩, prog_2_method_26_code, 4, 1, 1, 21),
  (2, ⟨"FogCuts", "done", "()I"⟩, prog_1_method_10_code, 1, 1, 6, 141),
  (2, ⟨"FogCuts", "canBeDone", "(I)Z"⟩, prog_1_method_35_code, 2, 2, 5, 120),
  (2, ⟨"FogCuts", "state", "(II)I"⟩, prog_1_method_11_code, 3, 1, 2, 43),
  (2, ⟨"FogCuts", "behind", "(II)I"⟩, prog_1_method_12_code, 3, 1, 6, 141),
  (2, ⟨"FogCuts", "stands", "(I)I"⟩, prog_1_method_13_code, 2, 1, 4, 92),
  (2, ⟨"FogCuts", "isShape", "(I)Z"⟩, prog_1_method_33_code, 2, 2, 3, 66),
  (2, ⟨"FogCuts", "lost", "(I)I"⟩, prog_1_method_14_code, 2, 1, 6, 141),
  (2, ⟨"FogCuts", "through", "()I"⟩, prog_1_method_15_code, 5, 1, 1, 21),
  (2, ⟨"FogCuts", "carved", "(I)I"⟩, prog_1_method_16_code, 2, 1, 4, 87),
  (2, ⟨"FogCuts", "nowThen", "(II)I"⟩, prog_1_method_17_code, 3, 1, 6, 148),
  (1, ⟨"FogCuts$Night", "isHoursAlone", "()Z"⟩, prog_3_method_4_code, 3, 2, 1, 21),
  (2, ⟨"FogCuts", "fewestCuts", "(I)I"⟩, prog_1_method_37_code, 5, 1, 5, 124),
  (5, ⟨"java/lang/Integer", "bitCount", "(I)I"⟩, prog_6_method_49_code, 1, 1, 0, 0),
  (2, ⟨"FogCuts", "standsByCuts", "(III)Z"⟩, prog_1_method_38_code, 10, 2, 4, 95),
  (1, ⟨"FogCuts$Night", "passHours", "(LFogCuts$Bank;)V"⟩, prog_3_method_5_code, 3, 0, 3, 73),
  (2, ⟨"FogCuts", "pickedBits", "(II)I"⟩, prog_1_method_41_code, 5, 1, 1, 21),
  (2, ⟨"FogCuts", "countOrBits", "(II)I"⟩, prog_1_method_36_code, 2, 1, 1, 20),
  (2, ⟨"FogCuts", "dark", "(II)I"⟩, prog_1_method_18_code, 3, 1, 6, 141),
  (0, ⟨"FogCuts$Bank", "lampBits", "()I"⟩, prog_2_method_17_code, 3, 1, 1, 21),
  (2, ⟨"FogCuts", "fewestLamps", "(I)I"⟩, prog_1_method_39_code, 5, 1, 5, 117),
  (2, ⟨"FogCuts", "standsWithout", "(II)Z"⟩, prog_1_method_40_code, 3, 2, 4, 95),
  (0, ⟨"FogCuts$Bank", "putOut", "(I)V"⟩, prog_2_method_12_code, 3, 0, 2, 47),
  (2, ⟨"FogCuts", "moved", "(II)I"⟩, prog_1_method_19_code, 8, 1, 4, 87),
  (2, ⟨"FogCuts", "apart", "(I)I"⟩, prog_1_method_20_code, 5, 1, 3, 70),
  (0, ⟨"FogCuts$Bank", "neverTogether", "(II)Z"⟩, prog_2_method_27_code, 8, 2, 2, 43),
  (2, ⟨"FogCuts", "walk", "(III)I"⟩, prog_1_method_21_code, 5, 1, 5, 113),
  (2, ⟨"FogCuts", "weighWays", "(I)V"⟩, prog_1_method_42_code, 7, 0, 4, 87),
  (2, ⟨"FogCuts", "spoiltIn", "(I)I"⟩, prog_1_method_43_code, 2, 1, 3, 66),
  (0, ⟨"FogCuts$Bank", "isWanted", "(I)Z"⟩, prog_2_method_22_code, 4, 2, 2, 43),
  (0, ⟨"FogCuts$Bank", "beside", "(II)I"⟩, prog_2_method_7_code, 3, 1, 1, 23),
  (2, ⟨"FogCuts", "firstStep", "(II)I"⟩, prog_1_method_44_code, 7, 1, 4, 87),
  (2, ⟨"FogCuts", "wins", "(I)I"⟩, prog_1_method_22_code, 2, 1, 2, 44),
  (2, ⟨"FogCuts", "isSet", "(I)Z"⟩, prog_1_method_34_code, 2, 2, 1, 22),
  (2, ⟨"FogCuts", "nimSum", "(I)I"⟩, prog_1_method_45_code, 4, 1, 1, 21),
  (2, ⟨"FogCuts", "cut", "(I)I"⟩, prog_1_method_23_code, 6, 1, 2, 44),
  (2, ⟨"FogCuts", "seen", "(II)I"⟩, prog_1_method_24_code, 3, 1, 1, 22),
  (2, ⟨"FogCuts", "forget", "()I"⟩, prog_1_method_25_code, 2, 1, 0, 0),
  (2, ⟨"FogCuts", "what", "(I)I"⟩, prog_1_method_26_code, 3, 1, 5, 119),
  (2, ⟨"FogCuts", "findFitting", "()I"⟩, prog_1_method_46_code, 5, 1, 4, 95),
  (0, ⟨"FogCuts$Bank", "sightsHold", "()Z"⟩, prog_2_method_28_code, 3, 2, 1, 21),
  (2, ⟨"FogCuts", "where", "()I"⟩, prog_1_method_27_code, 4, 1, 5, 119),
  (2, ⟨"FogCuts", "chance", "(IIII)J"⟩, prog_1_method_28_code, 10, 3, 5, 122),
  (2, ⟨"FogCuts", "tenthsThatStand", "(III)J"⟩, prog_1_method_47_code, 11, 3, 4, 92),
  (2, ⟨"FogCuts", "power", "(II)J"⟩, prog_1_method_48_code, 5, 3, 0, 0),
  (2, ⟨"FogCuts", "year", "(III)I"⟩, prog_1_method_29_code, 8, 1, 5, 114),
  (0, ⟨"FogCuts$Bank", "someShapeFell", "()Z"⟩, prog_2_method_24_code, 3, 2, 4, 92),
  (0, ⟨"FogCuts$Bank", "thickest", "()I"⟩, prog_2_method_19_code, 3, 1, 1, 21),
  (0, ⟨"FogCuts$Bank", "together", "()I"⟩, prog_2_method_18_code, 3, 1, 1, 21),
  (2, ⟨"FogCuts", "image", "(I)I"⟩, prog_1_method_30_code, 3, 1, 3, 64),
  (2, ⟨"FogCuts", "restore", "(I)I"⟩, prog_1_method_31_code, 3, 1, 3, 64),
  (2, ⟨"FogCuts", "told", "(I)I"⟩, prog_1_method_32_code, 4, 1, 2, 43),
  (3, ⟨"FogCutsModel", "<init>", "()V"⟩, prog_5_method_1_code, 1, 0, 1, 21),
  (3, ⟨"FogCutsModel", "clear", "()V"⟩, prog_5_method_2_code, 2, 0, 0, 0),
  (3, ⟨"FogCutsModel", "bank", "(II)I"⟩, prog_5_method_8_code, 3, 1, 1, 22),
  (3, ⟨"FogCutsModel", "in", "(III)Z"⟩, prog_5_method_3_code, 3, 2, 0, 0),
  (3, ⟨"FogCutsModel", "cell", "(III)I"⟩, prog_5_method_9_code, 5, 1, 2, 43),
  (3, ⟨"FogCutsModel", "isCell", "(I)Z"⟩, prog_5_method_7_code, 2, 2, 1, 22),
  (3, ⟨"FogCutsModel", "cells", "()I"⟩, prog_5_method_6_code, 1, 1, 0, 0),
  (3, ⟨"FogCutsModel", "set", "(II)I"⟩, prog_5_method_10_code, 5, 1, 1, 22),
  (3, ⟨"FogCutsModel", "shape", "(III)I"⟩, prog_5_method_12_code, 4, 1, 2, 43),
  (3, ⟨"FogCutsModel", "wanted", "(I)I"⟩, prog_5_method_11_code, 4, 1, 0, 0),
  (3, ⟨"FogCutsModel", "bits", "(I)I"⟩, prog_5_method_5_code, 3, 1, 0, 0),
  (3, ⟨"FogCutsModel", "say", "(I)I"⟩, prog_5_method_14_code, 2, 1, 1, 22),
  (3, ⟨"FogCutsModel", "wipe", "()I"⟩, prog_5_method_15_code, 2, 1, 0, 0),
  (3, ⟨"FogCutsModel", "fault", "()I"⟩, prog_5_method_18_code, 1, 1, 3, 67),
  (3, ⟨"FogCutsModel", "faultOf", "()I"⟩, prog_5_method_17_code, 5, 1, 2, 43),
  (3, ⟨"FogCutsModel", "kindOf", "(I)I"⟩, prog_5_method_16_code, 1, 1, 0, 0),
  (3, ⟨"FogCutsModel", "judge", "(I)I"⟩, prog_5_method_25_code, 3, 1, 4, 96),
  (3, ⟨"FogCutsModel", "goNight", "(I)I"⟩, prog_5_method_24_code, 6, 1, 3, 71),
  (3, ⟨"FogCutsModel", "asNow", "()V"⟩, prog_5_method_20_code, 2, 0, 0, 0),
  (3, ⟨"FogCutsModel", "pass", "(I)V"⟩, prog_5_method_22_code, 6, 0, 2, 46),
  (3, ⟨"FogCutsModel", "has", "(II)Z"⟩, prog_5_method_4_code, 2, 2, 0, 0),
  (3, ⟨"FogCutsModel", "beside", "(II)I"⟩, prog_5_method_21_code, 5, 1, 1, 22),
  (3, ⟨"FogCutsModel", "standsNow", "(I)Z"⟩, prog_5_method_23_code, 5, 2, 1, 22),
  (3, ⟨"FogCutsModel", "done", "()I"⟩, prog_5_method_27_code, 2, 1, 5, 117),
  (3, ⟨"FogCutsModel", "barOfNight", "(I)I"⟩, prog_5_method_26_code, 2, 1, 4, 96),
  (3, ⟨"FogCutsModel", "state", "(II)I"⟩, prog_5_method_28_code, 3, 1, 2, 43),
  (3, ⟨"FogCutsModel", "behind", "(II)I"⟩, prog_5_method_29_code, 3, 1, 5, 117),
  (3, ⟨"FogCutsModel", "stands", "(I)I"⟩, prog_5_method_30_code, 2, 1, 2, 46),
  (3, ⟨"FogCutsModel", "isShape", "(I)Z"⟩, prog_5_method_13_code, 2, 2, 1, 23),
  (3, ⟨"FogCutsModel", "lost", "(I)I"⟩, prog_5_method_31_code, 2, 1, 5, 117),
  (3, ⟨"FogCutsModel", "through", "()I"⟩, prog_5_method_32_code, 5, 1, 0, 0),
  (3, ⟨"FogCutsModel", "carved", "(I)I"⟩, prog_5_method_34_code, 2, 1, 2, 51),
  (3, ⟨"FogCutsModel", "actsFor", "(III)I"⟩, prog_5_method_33_code, 10, 1, 1, 22),
  (3, ⟨"FogCutsModel", "nowThen", "(II)I"⟩, prog_5_method_36_code, 11, 1, 4, 92),
  (3, ⟨"FogCutsModel", "areHours", "()Z"⟩, prog_5_method_19_code, 3, 2, 3, 67),
  (3, ⟨"FogCutsModel", "goHours", "()V"⟩, prog_5_method_35_code, 2, 0, 3, 71),
  (3, ⟨"FogCutsModel", "dark", "(II)I"⟩, prog_5_method_37_code, 9, 1, 4, 92),
  (3, ⟨"FogCutsModel", "moved", "(II)I"⟩, prog_5_method_38_code, 8, 1, 2, 51),
  (3, ⟨"FogCutsModel", "apart", "(I)I"⟩, prog_5_method_40_code, 5, 1, 1, 26),
  (3, ⟨"FogCutsModel", "areApart", "(II)Z"⟩, prog_5_method_39_code, 7, 2, 0, 0),
  (3, ⟨"FogCutsModel", "walk", "(III)I"⟩, prog_5_method_43_code, 8, 1, 3, 72),
  (3, ⟨"FogCutsModel", "layWalk", "(I)V"⟩, prog_5_method_42_code, 7, 0, 2, 46),
  (3, ⟨"FogCutsModel", "anyWants", "(I)I"⟩, prog_5_method_41_code, 4, 1, 0, 0),
  (3, ⟨"FogCutsModel", "wins", "(I)I"⟩, prog_5_method_46_code, 2, 1, 2, 44),
  (3, ⟨"FogCutsModel", "areCells", "(I)Z"⟩, prog_5_method_44_code, 2, 2, 1, 22),
  (3, ⟨"FogCutsModel", "over", "(I)I"⟩, prog_5_method_45_code, 4, 1, 1, 21),
  (3, ⟨"FogCutsModel", "cut", "(I)I"⟩, prog_5_method_47_code, 4, 1, 2, 44),
  (3, ⟨"FogCutsModel", "seen", "(II)I"⟩, prog_5_method_48_code, 3, 1, 2, 43),
  (3, ⟨"FogCutsModel", "forget", "()I"⟩, prog_5_method_49_code, 2, 1, 0, 0),
  (3, ⟨"FogCutsModel", "what", "(I)I"⟩, prog_5_method_51_code, 4, 1, 5, 116),
  (3, ⟨"FogCutsModel", "wasCut", "(II)Z"⟩, prog_5_method_50_code, 5, 2, 4, 92),
  (3, ⟨"FogCutsModel", "where", "()I"⟩, prog_5_method_52_code, 3, 1, 5, 116),
  (3, ⟨"FogCutsModel", "chance", "(IIII)J"⟩, prog_5_method_53_code, 15, 3, 3, 71),
  (3, ⟨"FogCutsModel", "year", "(III)I"⟩, prog_5_method_56_code, 10, 1, 3, 71),
  (3, ⟨"FogCutsModel", "allStand", "()Z"⟩, prog_5_method_54_code, 3, 2, 2, 46),
  (3, ⟨"FogCutsModel", "sumNow", "()I"⟩, prog_5_method_55_code, 3, 1, 1, 20),
  (3, ⟨"FogCutsModel", "image", "(I)I"⟩, prog_5_method_57_code, 4, 1, 1, 22),
  (3, ⟨"FogCutsModel", "restore", "(I)I"⟩, prog_5_method_58_code, 4, 1, 1, 22),
  (3, ⟨"FogCutsModel", "told", "(I)I"⟩, prog_5_method_59_code, 3, 1, 2, 43),
  (4, ⟨"FogCutsLaw", "law", "([I)Z"⟩, code, 4, 2, 7, 170)]
def mr (M : Nat) : MR := (mt[M]?).getD (0, ⟨"", "", ""⟩, code, 0, 0, 0, 0)
def mo (M : Nat) : Nat := (mr M).1
def my (M : Nat) : MethodName := (mr M).2.1
def mb (M : Nat) : ByteArray := (mr M).2.2.1
def ml (M : Nat) : Nat := (mr M).2.2.2.1
def mk (M : Nat) : Nat := (mr M).2.2.2.2.1
def mf (M : Nat) : Nat := (mr M).2.2.2.2.2.1
def mlo (M : Nat) : Nat := (mr M).2.2.2.2.2.2
def rt (k : Nat) : Option FieldType := match k with
  | 0 => none
  | 1 => some .int
  | 2 => some .boolean
  | _ => some .long
def mfact (e : MR) : Prop := plainName e.2.1.cls = true ∧ Cond.code e.2.1 e.2.2.1 e.2.2.2.1 (rt e.2.2.2.2.1) ∈ gw ∧ Cond.initialized e.2.1.cls ∈ gw ∧ (e.2.1.cls ≠ "java/lang/invoke/MethodHandle" ∧ e.2.1.cls ≠ "java/lang/invoke/VarHandle") ∧ e.2.1.cls = oS e.1
theorem mfact_0 : mfact (mr 0) := ⟨by decide +kernel, gw_of 51 (by decide +kernel) (by decide +kernel), gw_of 41 (by decide +kernel) (by decide +kernel), by decide +kernel, by decide +kernel⟩
theorem mfact_1 : mfact (mr 1) := ⟨by decide +kernel, gw_of 59 (by decide +kernel) (by decide +kernel), gw_of 42 (by decide +kernel) (by decide +kernel), by decide +kernel, by decide +kernel⟩
theorem mfact_2 : mfact (mr 2) := ⟨by decide +kernel, gw_of 64 (by decide +kernel) (by decide +kernel), gw_of 42 (by decide +kernel) (by decide +kernel), by decide +kernel, by decide +kernel⟩
theorem mfact_3 : mfact (mr 3) := ⟨by decide +kernel, gw_of 67 (by decide +kernel) (by decide +kernel), gw_of 41 (by decide +kernel) (by decide +kernel), by decide +kernel, by decide +kernel⟩
theorem mfact_4 : mfact (mr 4) := ⟨by decide +kernel, gw_of 124 (by decide +kernel) (by decide +kernel), gw_of 43 (by decide +kernel) (by decide +kernel), by decide +kernel, by decide +kernel⟩
theorem mfact_5 : mfact (mr 5) := ⟨by decide +kernel, gw_of 177 (by decide +kernel) (by decide +kernel), gw_of 41 (by decide +kernel) (by decide +kernel), by decide +kernel, by decide +kernel⟩
theorem mfact_6 : mfact (mr 6) := ⟨by decide +kernel, gw_of 180 (by decide +kernel) (by decide +kernel), gw_of 41 (by decide +kernel) (by decide +kernel), by decide +kernel, by decide +kernel⟩
theorem mfact_7 : mfact (mr 7) := ⟨by decide +kernel, gw_of 185 (by decide +kernel) (by decide +kernel), gw_of 41 (by decide +kernel) (by decide +kernel), by decide +kernel, by decide +kernel⟩
theorem mfact_8 : mfact (mr 8) := ⟨by decide +kernel, gw_of 189 (by decide +kernel) (by decide +kernel), gw_of 42 (by decide +kernel) (by decide +kernel), by decide +kernel, by decide +kernel⟩
theorem mfact_9 : mfact (mr 9) := ⟨by decide +kernel, gw_of 193 (by decide +kernel) (by decide +kernel), gw_of 42 (by decide +kernel) (by decide +kernel), by decide +kernel, by decide +kernel⟩
theorem mfact_10 : mfact (mr 10) := ⟨by decide +kernel, gw_of 196 (by decide +kernel) (by decide +kernel), gw_of 41 (by decide +kernel) (by decide +kernel), by decide +kernel, by decide +kernel⟩
theorem mfact_11 : mfact (mr 11) := ⟨by decide +kernel, gw_of 199 (by decide +kernel) (by decide +kernel), gw_of 41 (by decide +kernel) (by decide +kernel), by decide +kernel, by decide +kernel⟩
theorem mfact_12 : mfact (mr 12) := ⟨by decide +kernel, gw_of 203 (by decide +kernel) (by decide +kernel), gw_of 42 (by decide +kernel) (by decide +kernel), by decide +kernel, by decide +kernel⟩
theorem mfact_13 : mfact (mr 13) := ⟨by decide +kernel, gw_of 208 (by decide +kernel) (by decide +kernel), gw_of 42 (by decide +kernel) (by decide +kernel), by decide +kernel, by decide +kernel⟩
theorem mfact_14 : mfact (mr 14) := ⟨by decide +kernel, gw_of 212 (by decide +kernel) (by decide +kernel), gw_of 42 (by decide +kernel) (by decide +kernel), by decide +kernel, by decide +kernel⟩
theorem mfact_15 : mfact (mr 15) := ⟨by decide +kernel, gw_of 219 (by decide +kernel) (by decide +kernel), gw_of 41 (by decide +kernel) (by decide +kernel), by decide +kernel, by decide +kernel⟩
theorem mfact_16 : mfact (mr 16) := ⟨by decide +kernel, gw_of 223 (by decide +kernel) (by decide +kernel), gw_of 41 (by decide +kernel) (by decide +kernel), by decide +kernel, by decide +kernel⟩
theorem mfact_17 : mfact (mr 17) := ⟨by decide +kernel, gw_of 227 (by decide +kernel) (by decide +kernel), gw_of 42 (by decide +kernel) (by decide +kernel), by decide +kernel, by decide +kernel⟩
theorem mfact_18 : mfact (mr 18) := ⟨by decide +kernel, gw_of 231 (by decide +kernel) (by decide +kernel), gw_of 42 (by decide +kernel) (by decide +kernel), by decide +kernel, by decide +kernel⟩
theorem mfact_19 : mfact (mr 19) := ⟨by decide +kernel, gw_of 235 (by decide +kernel) (by decide +kernel), gw_of 41 (by decide +kernel) (by decide +kernel), by decide +kernel, by decide +kernel⟩
theorem mfact_20 : mfact (mr 20) := ⟨by decide +kernel, gw_of 239 (by decide +kernel) (by decide +kernel), gw_of 41 (by decide +kernel) (by decide +kernel), by decide +kernel, by decide +kernel⟩
theorem mfact_21 : mfact (mr 21) := ⟨by decide +kernel, gw_of 243 (by decide +kernel) (by decide +kernel), gw_of 41 (by decide +kernel) (by decide +kernel), by decide +kernel, by decide +kernel⟩
theorem mfact_22 : mfact (mr 22) := ⟨by decide +kernel, gw_of 247 (by decide +kernel) (by decide +kernel), gw_of 43 (by decide +kernel) (by decide +kernel), by decide +kernel, by decide +kernel⟩
theorem mfact_23 : mfact (mr 23) := ⟨by decide +kernel, gw_of 251 (by decide +kernel) (by decide +kernel), gw_of 41 (by decide +kernel) (by decide +kernel), by decide +kernel, by decide +kernel⟩
theorem mfact_24 : mfact (mr 24) := ⟨by decide +kernel, gw_of 255 (by decide +kernel) (by decide +kernel), gw_of 43 (by decide +kernel) (by decide +kernel), by decide +kernel, by decide +kernel⟩
theorem mfact_25 : mfact (mr 25) := ⟨by decide +kernel, gw_of 260 (by decide +kernel) (by decide +kernel), gw_of 41 (by decide +kernel) (by decide +kernel), by decide +kernel, by decide +kernel⟩
theorem mfact_26 : mfact (mr 26) := ⟨by decide +kernel, gw_of 264 (by decide +kernel) (by decide +kernel), gw_of 43 (by decide +kernel) (by decide +kernel), by decide +kernel, by decide +kernel⟩
theorem mfact_27 : mfact (mr 27) := ⟨by decide +kernel, gw_of 268 (by decide +kernel) (by decide +kernel), gw_of 42 (by decide +kernel) (by decide +kernel), by decide +kernel, by decide +kernel⟩
theorem mfact_28 : mfact (mr 28) := ⟨by decide +kernel, gw_of 271 (by decide +kernel) (by decide +kernel), gw_of 41 (by decide +kernel) (by decide +kernel), by decide +kernel, by decide +kernel⟩
theorem mfact_29 : mfact (mr 29) := ⟨by decide +kernel, gw_of 275 (by decide +kernel) (by decide +kernel), gw_of 42 (by decide +kernel) (by decide +kernel), by decide +kernel, by decide +kernel⟩
theorem mfact_30 : mfact (mr 30) := ⟨by decide +kernel, gw_of 279 (by decide +kernel) (by decide +kernel), gw_of 42 (by decide +kernel) (by decide +kernel), by decide +kernel, by decide +kernel⟩
theorem mfact_31 : mfact (mr 31) := ⟨by decide +kernel, gw_of 285 (by decide +kernel) (by decide +kernel), gw_of 42 (by decide +kernel) (by decide +kernel), by decide +kernel, by decide +kernel⟩
theorem mfact_32 : mfact (mr 32) := ⟨by decide +kernel, gw_of 288 (by decide +kernel) (by decide +kernel), gw_of 42 (by decide +kernel) (by decide +kernel), by decide +kernel, by decide +kernel⟩
theorem mfact_33 : mfact (mr 33) := ⟨by decide +kernel, gw_of 292 (by decide +kernel) (by decide +kernel), gw_of 42 (by decide +kernel) (by decide +kernel), by decide +kernel, by decide +kernel⟩
theorem mfact_34 : mfact (mr 34) := ⟨by decide +kernel, gw_of 296 (by decide +kernel) (by decide +kernel), gw_of 42 (by decide +kernel) (by decide +kernel), by decide +kernel, by decide +kernel⟩
theorem mfact_35 : mfact (mr 35) := ⟨by decide +kernel, gw_of 301 (by decide +kernel) (by decide +kernel), gw_of 42 (by decide +kernel) (by decide +kernel), by decide +kernel, by decide +kernel⟩
theorem mfact_36 : mfact (mr 36) := ⟨by decide +kernel, gw_of 305 (by decide +kernel) (by decide +kernel), gw_of 42 (by decide +kernel) (by decide +kernel), by decide +kernel, by decide +kernel⟩
theorem mfact_37 : mfact (mr 37) := ⟨by decide +kernel, gw_of 309 (by decide +kernel) (by decide +kernel), gw_of 42 (by decide +kernel) (by decide +kernel), by decide +kernel, by decide +kernel⟩
theorem mfact_38 : mfact (mr 38) := ⟨by decide +kernel, gw_of 314 (by decide +kernel) (by decide +kernel), gw_of 41 (by decide +kernel) (by decide +kernel), by decide +kernel, by decide +kernel⟩
theorem mfact_39 : mfact (mr 39) := ⟨by decide +kernel, gw_of 318 (by decide +kernel) (by decide +kernel), gw_of 41 (by decide +kernel) (by decide +kernel), by decide +kernel, by decide +kernel⟩
theorem mfact_40 : mfact (mr 40) := ⟨by decide +kernel, gw_of 323 (by decide +kernel) (by decide +kernel), gw_of 41 (by decide +kernel) (by decide +kernel), by decide +kernel, by decide +kernel⟩
theorem mfact_41 : mfact (mr 41) := ⟨by decide +kernel, gw_of 327 (by decide +kernel) (by decide +kernel), gw_of 41 (by decide +kernel) (by decide +kernel), by decide +kernel, by decide +kernel⟩
theorem mfact_42 : mfact (mr 42) := ⟨by decide +kernel, gw_of 331 (by decide +kernel) (by decide +kernel), gw_of 41 (by decide +kernel) (by decide +kernel), by decide +kernel, by decide +kernel⟩
theorem mfact_43 : mfact (mr 43) := ⟨by decide +kernel, gw_of 335 (by decide +kernel) (by decide +kernel), gw_of 41 (by decide +kernel) (by decide +kernel), by decide +kernel, by decide +kernel⟩
theorem mfact_44 : mfact (mr 44) := ⟨by decide +kernel, gw_of 340 (by decide +kernel) (by decide +kernel), gw_of 41 (by decide +kernel) (by decide +kernel), by decide +kernel, by decide +kernel⟩
theorem mfact_45 : mfact (mr 45) := ⟨by decide +kernel, gw_of 344 (by decide +kernel) (by decide +kernel), gw_of 41 (by decide +kernel) (by decide +kernel), by decide +kernel, by decide +kernel⟩
theorem mfact_46 : mfact (mr 46) := ⟨by decide +kernel, gw_of 349 (by decide +kernel) (by decide +kernel), gw_of 41 (by decide +kernel) (by decide +kernel), by decide +kernel, by decide +kernel⟩
theorem mfact_47 : mfact (mr 47) := ⟨by decide +kernel, gw_of 354 (by decide +kernel) (by decide +kernel), gw_of 41 (by decide +kernel) (by decide +kernel), by decide +kernel, by decide +kernel⟩
theorem mfact_48 : mfact (mr 48) := ⟨by decide +kernel, gw_of 358 (by decide +kernel) (by decide +kernel), gw_of 43 (by decide +kernel) (by decide +kernel), by decide +kernel, by decide +kernel⟩
theorem mfact_49 : mfact (mr 49) := ⟨by decide +kernel, gw_of 362 (by decide +kernel) (by decide +kernel), gw_of 41 (by decide +kernel) (by decide +kernel), by decide +kernel, by decide +kernel⟩
theorem mfact_50 : mfact (mr 50) := ⟨by decide +kernel, gw_of 367 (by decide +kernel) (by decide +kernel), gw_of 46 (by decide +kernel) (by decide +kernel), by decide +kernel, by decide +kernel⟩
theorem mfact_51 : mfact (mr 51) := ⟨by decide +kernel, gw_of 374 (by decide +kernel) (by decide +kernel), gw_of 41 (by decide +kernel) (by decide +kernel), by decide +kernel, by decide +kernel⟩
theorem mfact_52 : mfact (mr 52) := ⟨by decide +kernel, gw_of 378 (by decide +kernel) (by decide +kernel), gw_of 43 (by decide +kernel) (by decide +kernel), by decide +kernel, by decide +kernel⟩
theorem mfact_53 : mfact (mr 53) := ⟨by decide +kernel, gw_of 382 (by decide +kernel) (by decide +kernel), gw_of 41 (by decide +kernel) (by decide +kernel), by decide +kernel, by decide +kernel⟩
theorem mfact_54 : mfact (mr 54) := ⟨by decide +kernel, gw_of 385 (by decide +kernel) (by decide +kernel), gw_of 41 (by decide +kernel) (by decide +kernel), by decide +kernel, by decide +kernel⟩
theorem mfact_55 : mfact (mr 55) := ⟨by decide +kernel, gw_of 389 (by decide +kernel) (by decide +kernel), gw_of 41 (by decide +kernel) (by decide +kernel), by decide +kernel, by decide +kernel⟩
theorem mfact_56 : mfact (mr 56) := ⟨by decide +kernel, gw_of 393 (by decide +kernel) (by decide +kernel), gw_of 42 (by decide +kernel) (by decide +kernel), by decide +kernel, by decide +kernel⟩
theorem mfact_57 : mfact (mr 57) := ⟨by decide +kernel, gw_of 397 (by decide +kernel) (by decide +kernel), gw_of 41 (by decide +kernel) (by decide +kernel), by decide +kernel, by decide +kernel⟩
theorem mfact_58 : mfact (mr 58) := ⟨by decide +kernel, gw_of 401 (by decide +kernel) (by decide +kernel), gw_of 41 (by decide +kernel) (by decide +kernel), by decide +kernel, by decide +kernel⟩
theorem mfact_59 : mfact (mr 59) := ⟨by decide +kernel, gw_of 405 (by decide +kernel) (by decide +kernel), gw_of 42 (by decide +kernel) (by decide +kernel), by decide +kernel, by decide +kernel⟩
theorem mfact_60 : mfact (mr 60) := ⟨by decide +kernel, gw_of 409 (by decide +kernel) (by decide +kernel), gw_of 41 (by decide +kernel) (by decide +kernel), by decide +kernel, by decide +kernel⟩
theorem mfact_61 : mfact (mr 61) := ⟨by decide +kernel, gw_of 414 (by decide +kernel) (by decide +kernel), gw_of 41 (by decide +kernel) (by decide +kernel), by decide +kernel, by decide +kernel⟩
theorem mfact_62 : mfact (mr 62) := ⟨by decide +kernel, gw_of 418 (by decide +kernel) (by decide +kernel), gw_of 42 (by decide +kernel) (by decide +kernel), by decide +kernel, by decide +kernel⟩
theorem mfact_63 : mfact (mr 63) := ⟨by decide +kernel, gw_of 425 (by decide +kernel) (by decide +kernel), gw_of 41 (by decide +kernel) (by decide +kernel), by decide +kernel, by decide +kernel⟩
theorem mfact_64 : mfact (mr 64) := ⟨by decide +kernel, gw_of 429 (by decide +kernel) (by decide +kernel), gw_of 41 (by decide +kernel) (by decide +kernel), by decide +kernel, by decide +kernel⟩
theorem mfact_65 : mfact (mr 65) := ⟨by decide +kernel, gw_of 433 (by decide +kernel) (by decide +kernel), gw_of 41 (by decide +kernel) (by decide +kernel), by decide +kernel, by decide +kernel⟩
theorem mfact_66 : mfact (mr 66) := ⟨by decide +kernel, gw_of 437 (by decide +kernel) (by decide +kernel), gw_of 42 (by decide +kernel) (by decide +kernel), by decide +kernel, by decide +kernel⟩
theorem mfact_67 : mfact (mr 67) := ⟨by decide +kernel, gw_of 441 (by decide +kernel) (by decide +kernel), gw_of 42 (by decide +kernel) (by decide +kernel), by decide +kernel, by decide +kernel⟩
theorem mfact_68 : mfact (mr 68) := ⟨by decide +kernel, gw_of 446 (by decide +kernel) (by decide +kernel), gw_of 41 (by decide +kernel) (by decide +kernel), by decide +kernel, by decide +kernel⟩
theorem mfact_69 : mfact (mr 69) := ⟨by decide +kernel, gw_of 450 (by decide +kernel) (by decide +kernel), gw_of 41 (by decide +kernel) (by decide +kernel), by decide +kernel, by decide +kernel⟩
theorem mfact_70 : mfact (mr 70) := ⟨by decide +kernel, gw_of 454 (by decide +kernel) (by decide +kernel), gw_of 41 (by decide +kernel) (by decide +kernel), by decide +kernel, by decide +kernel⟩
theorem mfact_71 : mfact (mr 71) := ⟨by decide +kernel, gw_of 458 (by decide +kernel) (by decide +kernel), gw_of 41 (by decide +kernel) (by decide +kernel), by decide +kernel, by decide +kernel⟩
theorem mfact_72 : mfact (mr 72) := ⟨by decide +kernel, gw_of 462 (by decide +kernel) (by decide +kernel), gw_of 41 (by decide +kernel) (by decide +kernel), by decide +kernel, by decide +kernel⟩
theorem mfact_73 : mfact (mr 73) := ⟨by decide +kernel, gw_of 466 (by decide +kernel) (by decide +kernel), gw_of 41 (by decide +kernel) (by decide +kernel), by decide +kernel, by decide +kernel⟩
theorem mfact_74 : mfact (mr 74) := ⟨by decide +kernel, gw_of 470 (by decide +kernel) (by decide +kernel), gw_of 41 (by decide +kernel) (by decide +kernel), by decide +kernel, by decide +kernel⟩
theorem mfact_75 : mfact (mr 75) := ⟨by decide +kernel, gw_of 474 (by decide +kernel) (by decide +kernel), gw_of 41 (by decide +kernel) (by decide +kernel), by decide +kernel, by decide +kernel⟩
theorem mfact_76 : mfact (mr 76) := ⟨by decide +kernel, gw_of 478 (by decide +kernel) (by decide +kernel), gw_of 41 (by decide +kernel) (by decide +kernel), by decide +kernel, by decide +kernel⟩
theorem mfact_77 : mfact (mr 77) := ⟨by decide +kernel, gw_of 482 (by decide +kernel) (by decide +kernel), gw_of 42 (by decide +kernel) (by decide +kernel), by decide +kernel, by decide +kernel⟩
theorem mfact_78 : mfact (mr 78) := ⟨by decide +kernel, gw_of 486 (by decide +kernel) (by decide +kernel), gw_of 41 (by decide +kernel) (by decide +kernel), by decide +kernel, by decide +kernel⟩
theorem mfact_79 : mfact (mr 79) := ⟨by decide +kernel, gw_of 490 (by decide +kernel) (by decide +kernel), gw_of 41 (by decide +kernel) (by decide +kernel), by decide +kernel, by decide +kernel⟩
theorem mfact_80 : mfact (mr 80) := ⟨by decide +kernel, gw_of 496 (by decide +kernel) (by decide +kernel), gw_of 41 (by decide +kernel) (by decide +kernel), by decide +kernel, by decide +kernel⟩
theorem mfact_81 : mfact (mr 81) := ⟨by decide +kernel, gw_of 499 (by decide +kernel) (by decide +kernel), gw_of 41 (by decide +kernel) (by decide +kernel), by decide +kernel, by decide +kernel⟩
theorem mfact_82 : mfact (mr 82) := ⟨by decide +kernel, gw_of 506 (by decide +kernel) (by decide +kernel), gw_of 41 (by decide +kernel) (by decide +kernel), by decide +kernel, by decide +kernel⟩
theorem mfact_83 : mfact (mr 83) := ⟨by decide +kernel, gw_of 511 (by decide +kernel) (by decide +kernel), gw_of 42 (by decide +kernel) (by decide +kernel), by decide +kernel, by decide +kernel⟩
theorem mfact_84 : mfact (mr 84) := ⟨by decide +kernel, gw_of 516 (by decide +kernel) (by decide +kernel), gw_of 42 (by decide +kernel) (by decide +kernel), by decide +kernel, by decide +kernel⟩
theorem mfact_85 : mfact (mr 85) := ⟨by decide +kernel, gw_of 521 (by decide +kernel) (by decide +kernel), gw_of 42 (by decide +kernel) (by decide +kernel), by decide +kernel, by decide +kernel⟩
theorem mfact_86 : mfact (mr 86) := ⟨by decide +kernel, gw_of 525 (by decide +kernel) (by decide +kernel), gw_of 41 (by decide +kernel) (by decide +kernel), by decide +kernel, by decide +kernel⟩
theorem mfact_87 : mfact (mr 87) := ⟨by decide +kernel, gw_of 529 (by decide +kernel) (by decide +kernel), gw_of 41 (by decide +kernel) (by decide +kernel), by decide +kernel, by decide +kernel⟩
theorem mfact_88 : mfact (mr 88) := ⟨by decide +kernel, gw_of 533 (by decide +kernel) (by decide +kernel), gw_of 41 (by decide +kernel) (by decide +kernel), by decide +kernel, by decide +kernel⟩
theorem mfact_89 : mfact (mr 89) := ⟨by decide +kernel, gw_of 538 (by decide +kernel) (by decide +kernel), gw_of 44 (by decide +kernel) (by decide +kernel), by decide +kernel, by decide +kernel⟩
theorem mfact_90 : mfact (mr 90) := ⟨by decide +kernel, gw_of 543 (by decide +kernel) (by decide +kernel), gw_of 44 (by decide +kernel) (by decide +kernel), by decide +kernel, by decide +kernel⟩
theorem mfact_91 : mfact (mr 91) := ⟨by decide +kernel, gw_of 609 (by decide +kernel) (by decide +kernel), gw_of 44 (by decide +kernel) (by decide +kernel), by decide +kernel, by decide +kernel⟩
theorem mfact_92 : mfact (mr 92) := ⟨by decide +kernel, gw_of 612 (by decide +kernel) (by decide +kernel), gw_of 44 (by decide +kernel) (by decide +kernel), by decide +kernel, by decide +kernel⟩
theorem mfact_93 : mfact (mr 93) := ⟨by decide +kernel, gw_of 616 (by decide +kernel) (by decide +kernel), gw_of 44 (by decide +kernel) (by decide +kernel), by decide +kernel, by decide +kernel⟩
theorem mfact_94 : mfact (mr 94) := ⟨by decide +kernel, gw_of 620 (by decide +kernel) (by decide +kernel), gw_of 44 (by decide +kernel) (by decide +kernel), by decide +kernel, by decide +kernel⟩
theorem mfact_95 : mfact (mr 95) := ⟨by decide +kernel, gw_of 624 (by decide +kernel) (by decide +kernel), gw_of 44 (by decide +kernel) (by decide +kernel), by decide +kernel, by decide +kernel⟩
theorem mfact_96 : mfact (mr 96) := ⟨by decide +kernel, gw_of 628 (by decide +kernel) (by decide +kernel), gw_of 44 (by decide +kernel) (by decide +kernel), by decide +kernel, by decide +kernel⟩
theorem mfact_97 : mfact (mr 97) := ⟨by decide +kernel, gw_of 632 (by decide +kernel) (by decide +kernel), gw_of 44 (by decide +kernel) (by decide +kernel), by decide +kernel, by decide +kernel⟩
theorem mfact_98 : mfact (mr 98) := ⟨by decide +kernel, gw_of 636 (by decide +kernel) (by decide +kernel), gw_of 44 (by decide +kernel) (by decide +kernel), by decide +kernel, by decide +kernel⟩
theorem mfact_99 : mfact (mr 99) := ⟨by decide +kernel, gw_of 639 (by decide +kernel) (by decide +kernel), gw_of 44 (by decide +kernel) (by decide +kernel), by decide +kernel, by decide +kernel⟩
theorem mfact_100 : mfact (mr 100) := ⟨by decide +kernel, gw_of 643 (by decide +kernel) (by decide +kernel), gw_of 44 (by decide +kernel) (by decide +kernel), by decide +kernel, by decide +kernel⟩
theorem mfact_101 : mfact (mr 101) := ⟨by decide +kernel, gw_of 647 (by decide +kernel) (by decide +kernel), gw_of 44 (by decide +kernel) (by decide +kernel), by decide +kernel, by decide +kernel⟩
theorem mfact_102 : mfact (mr 102) := ⟨by decide +kernel, gw_of 651 (by decide +kernel) (by decide +kernel), gw_of 44 (by decide +kernel) (by decide +kernel), by decide +kernel, by decide +kernel⟩
theorem mfact_103 : mfact (mr 103) := ⟨by decide +kernel, gw_of 655 (by decide +kernel) (by decide +kernel), gw_of 44 (by decide +kernel) (by decide +kernel), by decide +kernel, by decide +kernel⟩
theorem mfact_104 : mfact (mr 104) := ⟨by decide +kernel, gw_of 658 (by decide +kernel) (by decide +kernel), gw_of 44 (by decide +kernel) (by decide +kernel), by decide +kernel, by decide +kernel⟩
theorem mfact_105 : mfact (mr 105) := ⟨by decide +kernel, gw_of 662 (by decide +kernel) (by decide +kernel), gw_of 44 (by decide +kernel) (by decide +kernel), by decide +kernel, by decide +kernel⟩
theorem mfact_106 : mfact (mr 106) := ⟨by decide +kernel, gw_of 666 (by decide +kernel) (by decide +kernel), gw_of 44 (by decide +kernel) (by decide +kernel), by decide +kernel, by decide +kernel⟩
theorem mfact_107 : mfact (mr 107) := ⟨by decide +kernel, gw_of 670 (by decide +kernel) (by decide +kernel), gw_of 44 (by decide +kernel) (by decide +kernel), by decide +kernel, by decide +kernel⟩
theorem mfact_108 : mfact (mr 108) := ⟨by decide +kernel, gw_of 674 (by decide +kernel) (by decide +kernel), gw_of 44 (by decide +kernel) (by decide +kernel), by decide +kernel, by decide +kernel⟩
theorem mfact_109 : mfact (mr 109) := ⟨by decide +kernel, gw_of 677 (by decide +kernel) (by decide +kernel), gw_of 44 (by decide +kernel) (by decide +kernel), by decide +kernel, by decide +kernel⟩
theorem mfact_110 : mfact (mr 110) := ⟨by decide +kernel, gw_of 681 (by decide +kernel) (by decide +kernel), gw_of 44 (by decide +kernel) (by decide +kernel), by decide +kernel, by decide +kernel⟩
theorem mfact_111 : mfact (mr 111) := ⟨by decide +kernel, gw_of 685 (by decide +kernel) (by decide +kernel), gw_of 44 (by decide +kernel) (by decide +kernel), by decide +kernel, by decide +kernel⟩
theorem mfact_112 : mfact (mr 112) := ⟨by decide +kernel, gw_of 689 (by decide +kernel) (by decide +kernel), gw_of 44 (by decide +kernel) (by decide +kernel), by decide +kernel, by decide +kernel⟩
theorem mfact_113 : mfact (mr 113) := ⟨by decide +kernel, gw_of 693 (by decide +kernel) (by decide +kernel), gw_of 44 (by decide +kernel) (by decide +kernel), by decide +kernel, by decide +kernel⟩
theorem mfact_114 : mfact (mr 114) := ⟨by decide +kernel, gw_of 697 (by decide +kernel) (by decide +kernel), gw_of 44 (by decide +kernel) (by decide +kernel), by decide +kernel, by decide +kernel⟩
theorem mfact_115 : mfact (mr 115) := ⟨by decide +kernel, gw_of 701 (by decide +kernel) (by decide +kernel), gw_of 44 (by decide +kernel) (by decide +kernel), by decide +kernel, by decide +kernel⟩
theorem mfact_116 : mfact (mr 116) := ⟨by decide +kernel, gw_of 705 (by decide +kernel) (by decide +kernel), gw_of 44 (by decide +kernel) (by decide +kernel), by decide +kernel, by decide +kernel⟩
theorem mfact_117 : mfact (mr 117) := ⟨by decide +kernel, gw_of 709 (by decide +kernel) (by decide +kernel), gw_of 44 (by decide +kernel) (by decide +kernel), by decide +kernel, by decide +kernel⟩
theorem mfact_118 : mfact (mr 118) := ⟨by decide +kernel, gw_of 713 (by decide +kernel) (by decide +kernel), gw_of 44 (by decide +kernel) (by decide +kernel), by decide +kernel, by decide +kernel⟩
theorem mfact_119 : mfact (mr 119) := ⟨by decide +kernel, gw_of 717 (by decide +kernel) (by decide +kernel), gw_of 44 (by decide +kernel) (by decide +kernel), by decide +kernel, by decide +kernel⟩
theorem mfact_120 : mfact (mr 120) := ⟨by decide +kernel, gw_of 721 (by decide +kernel) (by decide +kernel), gw_of 44 (by decide +kernel) (by decide +kernel), by decide +kernel, by decide +kernel⟩
theorem mfact_121 : mfact (mr 121) := ⟨by decide +kernel, gw_of 725 (by decide +kernel) (by decide +kernel), gw_of 44 (by decide +kernel) (by decide +kernel), by decide +kernel, by decide +kernel⟩
theorem mfact_122 : mfact (mr 122) := ⟨by decide +kernel, gw_of 730 (by decide +kernel) (by decide +kernel), gw_of 44 (by decide +kernel) (by decide +kernel), by decide +kernel, by decide +kernel⟩
theorem mfact_123 : mfact (mr 123) := ⟨by decide +kernel, gw_of 734 (by decide +kernel) (by decide +kernel), gw_of 44 (by decide +kernel) (by decide +kernel), by decide +kernel, by decide +kernel⟩
theorem mfact_124 : mfact (mr 124) := ⟨by decide +kernel, gw_of 738 (by decide +kernel) (by decide +kernel), gw_of 44 (by decide +kernel) (by decide +kernel), by decide +kernel, by decide +kernel⟩
theorem mfact_125 : mfact (mr 125) := ⟨by decide +kernel, gw_of 742 (by decide +kernel) (by decide +kernel), gw_of 44 (by decide +kernel) (by decide +kernel), by decide +kernel, by decide +kernel⟩
theorem mfact_126 : mfact (mr 126) := ⟨by decide +kernel, gw_of 746 (by decide +kernel) (by decide +kernel), gw_of 44 (by decide +kernel) (by decide +kernel), by decide +kernel, by decide +kernel⟩
theorem mfact_127 : mfact (mr 127) := ⟨by decide +kernel, gw_of 750 (by decide +kernel) (by decide +kernel), gw_of 44 (by decide +kernel) (by decide +kernel), by decide +kernel, by decide +kernel⟩
theorem mfact_128 : mfact (mr 128) := ⟨by decide +kernel, gw_of 754 (by decide +kernel) (by decide +kernel), gw_of 44 (by decide +kernel) (by decide +kernel), by decide +kernel, by decide +kernel⟩
theorem mfact_129 : mfact (mr 129) := ⟨by decide +kernel, gw_of 758 (by decide +kernel) (by decide +kernel), gw_of 44 (by decide +kernel) (by decide +kernel), by decide +kernel, by decide +kernel⟩
theorem mfact_130 : mfact (mr 130) := ⟨by decide +kernel, gw_of 762 (by decide +kernel) (by decide +kernel), gw_of 44 (by decide +kernel) (by decide +kernel), by decide +kernel, by decide +kernel⟩
theorem mfact_131 : mfact (mr 131) := ⟨by decide +kernel, gw_of 766 (by decide +kernel) (by decide +kernel), gw_of 44 (by decide +kernel) (by decide +kernel), by decide +kernel, by decide +kernel⟩
theorem mfact_132 : mfact (mr 132) := ⟨by decide +kernel, gw_of 770 (by decide +kernel) (by decide +kernel), gw_of 44 (by decide +kernel) (by decide +kernel), by decide +kernel, by decide +kernel⟩
theorem mfact_133 : mfact (mr 133) := ⟨by decide +kernel, gw_of 774 (by decide +kernel) (by decide +kernel), gw_of 44 (by decide +kernel) (by decide +kernel), by decide +kernel, by decide +kernel⟩
theorem mfact_134 : mfact (mr 134) := ⟨by decide +kernel, gw_of 778 (by decide +kernel) (by decide +kernel), gw_of 44 (by decide +kernel) (by decide +kernel), by decide +kernel, by decide +kernel⟩
theorem mfact_135 : mfact (mr 135) := ⟨by decide +kernel, gw_of 782 (by decide +kernel) (by decide +kernel), gw_of 44 (by decide +kernel) (by decide +kernel), by decide +kernel, by decide +kernel⟩
theorem mfact_136 : mfact (mr 136) := ⟨by decide +kernel, gw_of 786 (by decide +kernel) (by decide +kernel), gw_of 44 (by decide +kernel) (by decide +kernel), by decide +kernel, by decide +kernel⟩
theorem mfact_137 : mfact (mr 137) := ⟨by decide +kernel, gw_of 790 (by decide +kernel) (by decide +kernel), gw_of 44 (by decide +kernel) (by decide +kernel), by decide +kernel, by decide +kernel⟩
theorem mfact_138 : mfact (mr 138) := ⟨by decide +kernel, gw_of 794 (by decide +kernel) (by decide +kernel), gw_of 44 (by decide +kernel) (by decide +kernel), by decide +kernel, by decide +kernel⟩
theorem mfact_139 : mfact (mr 139) := ⟨by decide +kernel, gw_of 798 (by decide +kernel) (by decide +kernel), gw_of 44 (by decide +kernel) (by decide +kernel), by decide +kernel, by decide +kernel⟩
theorem mfact_140 : mfact (mr 140) := ⟨by decide +kernel, gw_of 802 (by decide +kernel) (by decide +kernel), gw_of 44 (by decide +kernel) (by decide +kernel), by decide +kernel, by decide +kernel⟩
theorem mfact_141 : mfact (mr 141) := ⟨by decide +kernel, gw_of 806 (by decide +kernel) (by decide +kernel), gw_of 44 (by decide +kernel) (by decide +kernel), by decide +kernel, by decide +kernel⟩
theorem mfact_142 : mfact (mr 142) := ⟨by decide +kernel, gw_of 813 (by decide +kernel) (by decide +kernel), gw_of 44 (by decide +kernel) (by decide +kernel), by decide +kernel, by decide +kernel⟩
theorem mfact_143 : mfact (mr 143) := ⟨by decide +kernel, gw_of 818 (by decide +kernel) (by decide +kernel), gw_of 44 (by decide +kernel) (by decide +kernel), by decide +kernel, by decide +kernel⟩
theorem mfact_144 : mfact (mr 144) := ⟨by decide +kernel, gw_of 822 (by decide +kernel) (by decide +kernel), gw_of 44 (by decide +kernel) (by decide +kernel), by decide +kernel, by decide +kernel⟩
theorem mfact_145 : mfact (mr 145) := ⟨by decide +kernel, gw_of 826 (by decide +kernel) (by decide +kernel), gw_of 44 (by decide +kernel) (by decide +kernel), by decide +kernel, by decide +kernel⟩
theorem mfact_146 : mfact (mr 146) := ⟨by decide +kernel, gw_of 830 (by decide +kernel) (by decide +kernel), gw_of 44 (by decide +kernel) (by decide +kernel), by decide +kernel, by decide +kernel⟩
theorem mfact_147 : mfact (mr 147) := ⟨by decide +kernel, gw_of 834 (by decide +kernel) (by decide +kernel), gw_of 44 (by decide +kernel) (by decide +kernel), by decide +kernel, by decide +kernel⟩
theorem mfacts : ∀ M : Nat, M < 148 → mfact (mr M) := by
  intro M h
  match M, h with
  | 0, _ => exact mfact_0
  | 1, _ => exact mfact_1
  | 2, _ => exact mfact_2
  | 3, _ => exact mfact_3
  | 4, _ => exact mfact_4
  | 5, _ => exact mfact_5
  | 6, _ => exact mfact_6
  | 7, _ => exact mfact_7
  | 8, _ => exact mfact_8
  | 9, _ => exact mfact_9
  | 10, _ => exact mfact_10
  | 11, _ => exact mfact_11
  | 12, _ => exact mfact_12
  | 13, _ => exact mfact_13
  | 14, _ => exact mfact_14
  | 15, _ => exact mfact_15
  | 16, _ => exact mfact_16
  | 17, _ => exact mfact_17
  | 18, _ => exact mfact_18
  | 19, _ => exact mfact_19
  | 20, _ => exact mfact_20
  | 21, _ => exact mfact_21
  | 22, _ => exact mfact_22
  | 23, _ => exact mfact_23
  | 24, _ => exact mfact_24
  | 25, _ => exact mfact_25
  | 26, _ => exact mfact_26
  | 27, _ => exact mfact_27
  | 28, _ => exact mfact_28
  | 29, _ => exact mfact_29
  | 30, _ => exact mfact_30
  | 31, _ => exact mfact_31
  | 32, _ => exact mfact_32
  | 33, _ => exact mfact_33
  | 34, _ => exact mfact_34
  | 35, _ => exact mfact_35
  | 36, _ => exact mfact_36
  | 37, _ => exact mfact_37
  | 38, _ => exact mfact_38
  | 39, _ => exact mfact_39
  | 40, _ => exact mfact_40
  | 41, _ => exact mfact_41
  | 42, _ => exact mfact_42
  | 43, _ => exact mfact_43
  | 44, _ => exact mfact_44
  | 45, _ => exact mfact_45
  | 46, _ => exact mfact_46
  | 47, _ => exact mfact_47
  | 48, _ => exact mfact_48
  | 49, _ => exact mfact_49
  | 50, _ => exact mfact_50
  | 51, _ => exact mfact_51
  | 52, _ => exact mfact_52
  | 53, _ => exact mfact_53
  | 54, _ => exact mfact_54
  | 55, _ => exact mfact_55
  | 56, _ => exact mfact_56
  | 57, _ => exact mfact_57
  | 58, _ => exact mfact_58
  | 59, _ => exact mfact_59
  | 60, _ => exact mfact_60
  | 61, _ => exact mfact_61
  | 62, _ => exact mfact_62
  | 63, _ => exact mfact_63
  | 64, _ => exact mfact_64
  | 65, _ => exact mfact_65
  | 66, _ => exact mfact_66
  | 67, _ => exact mfact_67
  | 68, _ => exact mfact_68
  | 69, _ => exact mfact_69
  | 70, _ => exact mfact_70
  | 71, _ => exact mfact_71
  | 72, _ => exact mfact_72
  | 73, _ => exact mfact_73
  | 74, _ => exact mfact_74
  | 75, _ => exact mfact_75
  | 76, _ => exact mfact_76
  | 77, _ => exact mfact_77
  | 78, _ => exact mfact_78
  | 79, _ => exact mfact_79
  | 80, _ => exact mfact_80
  | 81, _ => exact mfact_81
  | 82, _ => exact mfact_82
  | 83, _ => exact mfact_83
  | 84, _ => exact mfact_84
  | 85, _ => exact mfact_85
  | 86, _ => exact mfact_86
  | 87, _ => exact mfact_87
  | 88, _ => exact mfact_88
  | 89, _ => exact mfact_89
  | 90, _ => exact mfact_90
  | 91, _ => exact mfact_91
  | 92, _ => exact mfact_92
  | 93, _ => exact mfact_93
  | 94, _ => exact mfact_94
  | 95, _ => exact mfact_95
  | 96, _ => exact mfact_96
  | 97, _ => exact mfact_97
  | 98, _ => exact mfact_98
  | 99, _ => exact mfact_99
  | 100, _ => exact mfact_100
  | 101, _ => exact mfact_101
  | 102, _ => exact mfact_102
  | 103, _ => exact mfact_103
  | 104, _ => exact mfact_104
  | 105, _ => exact mfact_105
  | 106, _ => exact mfact_106
  | 107, _ => exact mfact_107
  | 108, _ => exact mfact_108
  | 109, _ => exact mfact_109
  | 110, _ => exact mfact_110
  | 111, _ => exact mfact_111
  | 112, _ => exact mfact_112
  | 113, _ => exact mfact_113
  | 114, _ => exact mfact_114
  | 115, _ => exact mfact_115
  | 116, _ => exact mfact_116
  | 117, _ => exact mfact_117
  | 118, _ => exact mfact_118
  | 119, _ => exact mfact_119
  | 120, _ => exact mfact_120
  | 121, _ => exact mfact_121
  | 122, _ => exact mfact_122
  | 123, _ => exact mfact_123
  | 124, _ => exact mfact_124
  | 125, _ => exact mfact_125
  | 126, _ => exact mfact_126
  | 127, _ => exact mfact_127
  | 128, _ => exact mfact_128
  | 129, _ => exact mfact_129
  | 130, _ => exact mfact_130
  | 131, _ => exact mfact_131
  | 132, _ => exact mfact_132
  | 133, _ => exact mfact_133
  | 134, _ => exact mfact_134
  | 135, _ => exact mfact_135
  | 136, _ => exact mfact_136
  | 137, _ => exact mfact_137
  | 138, _ => exact mfact_138
  | 139, _ => exact mfact_139
  | 140, _ => exact mfact_140
  | 141, _ => exact mfact_141
  | 142, _ => exact mfact_142
  | 143, _ => exact mfact_143
  | 144, _ => exact mfact_144
  | 145, _ => exact mfact_145
  | 146, _ => exact mfact_146
  | 147, _ => exact mfact_147
  | n + 148, h => exact absurd h (by omega)
/-- what a field's entry says: (own class, entry), (class, slot) -/
def fl : List ((Nat × Nat) × (Nat × Nat)) := [((0, 9), (0, 6)), ((0, 15), (0, 7)), ((0, 18), (0, 8)), ((0, 21), (0, 9)), ((0, 24), (0, 10)), ((0, 27), (0, 11)), ((0, 30), (0, 12)), ((0, 37), (0, 0)), ((0, 41), (0, 1)), ((0, 44), (0, 2)), ((0, 47), (0, 3)), ((0, 50), (0, 4)), ((0, 53), (0, 5)), ((1, 9), (1, 0)), ((1, 15), (1, 1)), ((1, 48), (1, 2)), ((1, 51), (1, 3)), ((1, 54), (1, 4)), ((1, 57), (1, 5)), ((2, 10), (2, 0)), ((2, 16), (2, 1)), ((2, 22), (2, 2)), ((2, 26), (2, 3)), ((2, 30), (2, 4)), ((2, 34), (2, 5)), ((2, 37), (2, 6)), ((2, 48), (0, 2)), ((2, 60), (0, 6)), ((2, 70), (0, 3)), ((2, 73), (0, 4)), ((2, 76), (0, 10)), ((2, 83), (1, 1)), ((2, 86), (1, 0)), ((2, 97), (1, 3)), ((2, 100), (1, 4)), ((2, 110), (1, 2)), ((2, 119), (1, 5)), ((2, 122), (0, 0)), ((2, 125), (0, 1)), ((2, 176), (0, 5)), ((2, 179), (0, 11)), ((2, 182), (0, 12)), ((2, 240), (0, 7)), ((3, 7), (3, 0)), ((3, 13), (3, 1)), ((3, 16), (3, 2)), ((3, 20), (3, 4)), ((3, 23), (3, 5)), ((3, 26), (3, 6)), ((3, 29), (3, 8)), ((3, 32), (3, 10)), ((3, 35), (3, 11)), ((3, 38), (3, 12)), ((3, 41), (3, 17)), ((3, 44), (3, 18)), ((3, 47), (3, 19)), ((3, 54), (3, 3)), ((3, 57), (3, 7)), ((3, 79), (3, 9)), ((3, 88), (3, 13)), ((3, 102), (3, 15)), ((3, 105), (3, 16)), ((3, 108), (3, 14))]
def isr (k s : Nat) : Bool := match cY k s with
  | .int => false
  | _ => true
def fin (k s : Nat) : Bool := (cT k s).2.2.2
def ffact (q : (Nat × Nat) × (Nat × Nat)) : Prop := q.2.1 < 4 ∧ q.2.2 < cN q.2.1 ∧ Cond.fieldLink (oS q.1.1) q.1.2 (cT q.2.1 q.2.2).1 (cT q.2.1 q.2.2).2.1 (cT q.2.1 q.2.2).2.2.1 ∈ gw ∧ (fin q.2.1 q.2.2 = true → (cT q.2.1 q.2.2).1 = oS q.1.1 ∨ True)
theorem ffacts : ∀ q ∈ fl, ffact q := by
  unfold fl
  refine List.forall_mem_cons.mpr ⟨⟨by decide, by decide, gw_of 80 (by decide +kernel) (by decide +kernel), fun _ => Or.inr trivial⟩, ?_⟩
  refine List.forall_mem_cons.mpr ⟨⟨by decide, by decide, gw_of 82 (by decide +kernel) (by decide +kernel), fun _ => Or.inr trivial⟩, ?_⟩
  refine List.forall_mem_cons.mpr ⟨⟨by decide, by decide, gw_of 84 (by decide +kernel) (by decide +kernel), fun _ => Or.inr trivial⟩, ?_⟩
  refine List.forall_mem_cons.mpr ⟨⟨by decide, by decide, gw_of 85 (by decide +kernel) (by decide +kernel), fun _ => Or.inr trivial⟩, ?_⟩
  refine List.forall_mem_cons.mpr ⟨⟨by decide, by decide, gw_of 86 (by decide +kernel) (by decide +kernel), fun _ => Or.inr trivial⟩, ?_⟩
  refine List.forall_mem_cons.mpr ⟨⟨by decide, by decide, gw_of 88 (by decide +kernel) (by decide +kernel), fun _ => Or.inr trivial⟩, ?_⟩
  refine List.forall_mem_cons.mpr ⟨⟨by decide, by decide, gw_of 90 (by decide +kernel) (by decide +kernel), fun _ => Or.inr trivial⟩, ?_⟩
  refine List.forall_mem_cons.mpr ⟨⟨by decide, by decide, gw_of 68 (by decide +kernel) (by decide +kernel), fun _ => Or.inr trivial⟩, ?_⟩
  refine List.forall_mem_cons.mpr ⟨⟨by decide, by decide, gw_of 70 (by decide +kernel) (by decide +kernel), fun _ => Or.inr trivial⟩, ?_⟩
  refine List.forall_mem_cons.mpr ⟨⟨by decide, by decide, gw_of 72 (by decide +kernel) (by decide +kernel), fun _ => Or.inr trivial⟩, ?_⟩
  refine List.forall_mem_cons.mpr ⟨⟨by decide, by decide, gw_of 74 (by decide +kernel) (by decide +kernel), fun _ => Or.inr trivial⟩, ?_⟩
  refine List.forall_mem_cons.mpr ⟨⟨by decide, by decide, gw_of 76 (by decide +kernel) (by decide +kernel), fun _ => Or.inr trivial⟩, ?_⟩
  refine List.forall_mem_cons.mpr ⟨⟨by decide, by decide, gw_of 78 (by decide +kernel) (by decide +kernel), fun _ => Or.inr trivial⟩, ?_⟩
  refine List.forall_mem_cons.mpr ⟨⟨by decide, by decide, gw_of 126 (by decide +kernel) (by decide +kernel), fun _ => Or.inr trivial⟩, ?_⟩
  refine List.forall_mem_cons.mpr ⟨⟨by decide, by decide, gw_of 128 (by decide +kernel) (by decide +kernel), fun _ => Or.inr trivial⟩, ?_⟩
  refine List.forall_mem_cons.mpr ⟨⟨by decide, by decide, gw_of 130 (by decide +kernel) (by decide +kernel), fun _ => Or.inr trivial⟩, ?_⟩
  refine List.forall_mem_cons.mpr ⟨⟨by decide, by decide, gw_of 132 (by decide +kernel) (by decide +kernel), fun _ => Or.inr trivial⟩, ?_⟩
  refine List.forall_mem_cons.mpr ⟨⟨by decide, by decide, gw_of 134 (by decide +kernel) (by decide +kernel), fun _ => Or.inr trivial⟩, ?_⟩
  refine List.forall_mem_cons.mpr ⟨⟨by decide, by decide, gw_of 136 (by decide +kernel) (by decide +kernel), fun _ => Or.inr trivial⟩, ?_⟩
  refine List.forall_mem_cons.mpr ⟨⟨by decide, by decide, gw_of 152 (by decide +kernel) (by decide +kernel), fun _ => Or.inr trivial⟩, ?_⟩
  refine List.forall_mem_cons.mpr ⟨⟨by decide, by decide, gw_of 153 (by decide +kernel) (by decide +kernel), fun _ => Or.inr trivial⟩, ?_⟩
  refine List.forall_mem_cons.mpr ⟨⟨by decide, by decide, gw_of 154 (by decide +kernel) (by decide +kernel), fun _ => Or.inr trivial⟩, ?_⟩
  refine List.forall_mem_cons.mpr ⟨⟨by decide, by decide, gw_of 155 (by decide +kernel) (by decide +kernel), fun _ => Or.inr trivial⟩, ?_⟩
  refine List.forall_mem_cons.mpr ⟨⟨by decide, by decide, gw_of 156 (by decide +kernel) (by decide +kernel), fun _ => Or.inr trivial⟩, ?_⟩
  refine List.forall_mem_cons.mpr ⟨⟨by decide, by decide, gw_of 157 (by decide +kernel) (by decide +kernel), fun _ => Or.inr trivial⟩, ?_⟩
  refine List.forall_mem_cons.mpr ⟨⟨by decide, by decide, gw_of 158 (by decide +kernel) (by decide +kernel), fun _ => Or.inr trivial⟩, ?_⟩
  refine List.forall_mem_cons.mpr ⟨⟨by decide, by decide, gw_of 73 (by decide +kernel) (by decide +kernel), fun _ => Or.inr trivial⟩, ?_⟩
  refine List.forall_mem_cons.mpr ⟨⟨by decide, by decide, gw_of 81 (by decide +kernel) (by decide +kernel), fun _ => Or.inr trivial⟩, ?_⟩
  refine List.forall_mem_cons.mpr ⟨⟨by decide, by decide, gw_of 75 (by decide +kernel) (by decide +kernel), fun _ => Or.inr trivial⟩, ?_⟩
  refine List.forall_mem_cons.mpr ⟨⟨by decide, by decide, gw_of 77 (by decide +kernel) (by decide +kernel), fun _ => Or.inr trivial⟩, ?_⟩
  refine List.forall_mem_cons.mpr ⟨⟨by decide, by decide, gw_of 87 (by decide +kernel) (by decide +kernel), fun _ => Or.inr trivial⟩, ?_⟩
  refine List.forall_mem_cons.mpr ⟨⟨by decide, by decide, gw_of 129 (by decide +kernel) (by decide +kernel), fun _ => Or.inr trivial⟩, ?_⟩
  refine List.forall_mem_cons.mpr ⟨⟨by decide, by decide, gw_of 127 (by decide +kernel) (by decide +kernel), fun _ => Or.inr trivial⟩, ?_⟩
  refine List.forall_mem_cons.mpr ⟨⟨by decide, by decide, gw_of 133 (by decide +kernel) (by decide +kernel), fun _ => Or.inr trivial⟩, ?_⟩
  refine List.forall_mem_cons.mpr ⟨⟨by decide, by decide, gw_of 135 (by decide +kernel) (by decide +kernel), fun _ => Or.inr trivial⟩, ?_⟩
  refine List.forall_mem_cons.mpr ⟨⟨by decide, by decide, gw_of 131 (by decide +kernel) (by decide +kernel), fun _ => Or.inr trivial⟩, ?_⟩
  refine List.forall_mem_cons.mpr ⟨⟨by decide, by decide, gw_of 137 (by decide +kernel) (by decide +kernel), fun _ => Or.inr trivial⟩, ?_⟩
  refine List.forall_mem_cons.mpr ⟨⟨by decide, by decide, gw_of 69 (by decide +kernel) (by decide +kernel), fun _ => Or.inr trivial⟩, ?_⟩
  refine List.forall_mem_cons.mpr ⟨⟨by decide, by decide, gw_of 71 (by decide +kernel) (by decide +kernel), fun _ => Or.inr trivial⟩, ?_⟩
  refine List.forall_mem_cons.mpr ⟨⟨by decide, by decide, gw_of 79 (by decide +kernel) (by decide +kernel), fun _ => Or.inr trivial⟩, ?_⟩
  refine List.forall_mem_cons.mpr ⟨⟨by decide, by decide, gw_of 89 (by decide +kernel) (by decide +kernel), fun _ => Or.inr trivial⟩, ?_⟩
  refine List.forall_mem_cons.mpr ⟨⟨by decide, by decide, gw_of 91 (by decide +kernel) (by decide +kernel), fun _ => Or.inr trivial⟩, ?_⟩
  refine List.forall_mem_cons.mpr ⟨⟨by decide, by decide, gw_of 83 (by decide +kernel) (by decide +kernel), fun _ => Or.inr trivial⟩, ?_⟩
  refine List.forall_mem_cons.mpr ⟨⟨by decide, by decide, gw_of 544 (by decide +kernel) (by decide +kernel), fun _ => Or.inr trivial⟩, ?_⟩
  refine List.forall_mem_cons.mpr ⟨⟨by decide, by decide, gw_of 545 (by decide +kernel) (by decide +kernel), fun _ => Or.inr trivial⟩, ?_⟩
  refine List.forall_mem_cons.mpr ⟨⟨by decide, by decide, gw_of 546 (by decide +kernel) (by decide +kernel), fun _ => Or.inr trivial⟩, ?_⟩
  refine List.forall_mem_cons.mpr ⟨⟨by decide, by decide, gw_of 548 (by decide +kernel) (by decide +kernel), fun _ => Or.inr trivial⟩, ?_⟩
  refine List.forall_mem_cons.mpr ⟨⟨by decide, by decide, gw_of 549 (by decide +kernel) (by decide +kernel), fun _ => Or.inr trivial⟩, ?_⟩
  refine List.forall_mem_cons.mpr ⟨⟨by decide, by decide, gw_of 550 (by decide +kernel) (by decide +kernel), fun _ => Or.inr trivial⟩, ?_⟩
  refine List.forall_mem_cons.mpr ⟨⟨by decide, by decide, gw_of 552 (by decide +kernel) (by decide +kernel), fun _ => Or.inr trivial⟩, ?_⟩
  refine List.forall_mem_cons.mpr ⟨⟨by decide, by decide, gw_of 554 (by decide +kernel) (by decide +kernel), fun _ => Or.inr trivial⟩, ?_⟩
  refine List.forall_mem_cons.mpr ⟨⟨by decide, by decide, gw_of 555 (by decide +kernel) (by decide +kernel), fun _ => Or.inr trivial⟩, ?_⟩
  refine List.forall_mem_cons.mpr ⟨⟨by decide, by decide, gw_of 556 (by decide +kernel) (by decide +kernel), fun _ => Or.inr trivial⟩, ?_⟩
  refine List.forall_mem_cons.mpr ⟨⟨by decide, by decide, gw_of 561 (by decide +kernel) (by decide +kernel), fun _ => Or.inr trivial⟩, ?_⟩
  refine List.forall_mem_cons.mpr ⟨⟨by decide, by decide, gw_of 562 (by decide +kernel) (by decide +kernel), fun _ => Or.inr trivial⟩, ?_⟩
  refine List.forall_mem_cons.mpr ⟨⟨by decide, by decide, gw_of 563 (by decide +kernel) (by decide +kernel), fun _ => Or.inr trivial⟩, ?_⟩
  refine List.forall_mem_cons.mpr ⟨⟨by decide, by decide, gw_of 547 (by decide +kernel) (by decide +kernel), fun _ => Or.inr trivial⟩, ?_⟩
  refine List.forall_mem_cons.mpr ⟨⟨by decide, by decide, gw_of 551 (by decide +kernel) (by decide +kernel), fun _ => Or.inr trivial⟩, ?_⟩
  refine List.forall_mem_cons.mpr ⟨⟨by decide, by decide, gw_of 553 (by decide +kernel) (by decide +kernel), fun _ => Or.inr trivial⟩, ?_⟩
  refine List.forall_mem_cons.mpr ⟨⟨by decide, by decide, gw_of 557 (by decide +kernel) (by decide +kernel), fun _ => Or.inr trivial⟩, ?_⟩
  refine List.forall_mem_cons.mpr ⟨⟨by decide, by decide, gw_of 559 (by decide +kernel) (by decide +kernel), fun _ => Or.inr trivial⟩, ?_⟩
  refine List.forall_mem_cons.mpr ⟨⟨by decide, by decide, gw_of 560 (by decide +kernel) (by decide +kernel), fun _ => Or.inr trivial⟩, ?_⟩
  refine List.forall_mem_cons.mpr ⟨⟨by decide, by decide, gw_of 558 (by decide +kernel) (by decide +kernel), fun _ => Or.inr trivial⟩, ?_⟩
  exact fun _ h => absurd h List.not_mem_nil
def mlk : List ((Nat × Nat) × (Nat × Nat)) := [((0, 3), (0, 5)), ((0, 33), (2, 2)), ((0, 56), (3, 1)), ((0, 60), (28, 1)), ((0, 64), (29, 2)), ((0, 68), (31, 0)), ((0, 72), (32, 0)), ((0, 75), (14, 2)), ((0, 79), (10, 1)), ((0, 83), (11, 1)), ((0, 87), (13, 2)), ((0, 90), (0, 7)), ((0, 95), (0, 6)), ((0, 98), (33, 2)), ((0, 101), (12, 2)), ((0, 104), (18, 2)), ((0, 107), (36, 2)), ((0, 111), (35, 2)), ((0, 115), (37, 2)), ((0, 119), (0, 8)), ((1, 3), (0, 5)), ((1, 19), (10, 1)), ((1, 23), (23, 1)), ((1, 27), (8, 2)), ((1, 33), (24, 0)), ((1, 36), (6, 1)), ((1, 40), (30, 2)), ((1, 44), (27, 2)), ((1, 60), (34, 2)), ((1, 64), (35, 2)), ((2, 1), (0, 5)), ((2, 9), (1, 3)), ((2, 21), (4, 4)), ((2, 40), (6, 0)), ((2, 44), (2, 2)), ((2, 52), (8, 2)), ((2, 56), (9, 2)), ((2, 63), (11, 0)), ((2, 67), (12, 2)), ((2, 79), (17, 2)), ((2, 89), (22, 2)), ((2, 93), (26, 2)), ((2, 103), (39, 2)), ((2, 106), (29, 2)), ((2, 113), (43, 2)), ((2, 116), (35, 2)), ((2, 128), (10, 0)), ((2, 132), (36, 2)), ((2, 136), (48, 2)), ((2, 140), (49, 2)), ((2, 143), (54, 0)), ((2, 146), (56, 2)), ((2, 150), (50, 0)), ((2, 155), (57, 2)), ((2, 159), (62, 2)), ((2, 163), (64, 2)), ((2, 167), (68, 2)), ((2, 170), (70, 2)), ((2, 173), (71, 2)), ((2, 185), (76, 2)), ((2, 192), (80, 2)), ((2, 196), (81, 0)), ((2, 204), (27, 2)), ((2, 208), (0, 7)), ((2, 213), (30, 2)), ((2, 216), (83, 2)), ((2, 219), (84, 2)), ((2, 222), (0, 6)), ((2, 225), (85, 2)), ((2, 228), (18, 2)), ((2, 231), (51, 2)), ((2, 234), (53, 2)), ((2, 237), (52, 2)), ((2, 243), (58, 2)), ((2, 246), (59, 2)), ((2, 249), (65, 2)), ((2, 252), (67, 2)), ((2, 255), (66, 2)), ((2, 258), (77, 2)), ((3, 1), (0, 5)), ((3, 51), (90, 2)), ((3, 60), (95, 2)), ((3, 64), (92, 0)), ((3, 68), (94, 2)), ((3, 72), (98, 2)), ((3, 76), (99, 0)), ((3, 82), (104, 0)), ((3, 85), (103, 2)), ((3, 91), (109, 0)), ((3, 95), (110, 2)), ((3, 99), (107, 2)), ((3, 111), (108, 2)), ((3, 115), (111, 2)), ((3, 118), (106, 2)), ((3, 121), (113, 2)), ((3, 124), (117, 2)), ((3, 128), (121, 2)), ((3, 132), (123, 2)), ((3, 136), (124, 2)), ((3, 139), (128, 2)), ((3, 142), (131, 2)), ((3, 145), (130, 2)), ((3, 148), (133, 2)), ((3, 151), (134, 2)), ((3, 154), (139, 2)), ((3, 164), (143, 2)), ((3, 167), (144, 2)), ((4, 9), (0, 3)), ((4, 12), (89, 3)), ((4, 13), (5, 2)), ((4, 17), (91, 2)), ((4, 18), (7, 2)), ((4, 22), (93, 2)), ((4, 23), (15, 2)), ((4, 26), (96, 2)), ((4, 27), (16, 2)), ((4, 30), (97, 2)), ((4, 31), (19, 2)), ((4, 35), (100, 2)), ((4, 36), (20, 2)), ((4, 40), (101, 2)), ((4, 41), (21, 2)), ((4, 44), (102, 2)), ((4, 45), (25, 2)), ((4, 48), (105, 2)), ((4, 49), (38, 2)), ((4, 52), (112, 2)), ((4, 53), (40, 2)), ((4, 56), (114, 2)), ((4, 57), (41, 2)), ((4, 60), (115, 2)), ((4, 61), (42, 2)), ((4, 64), (116, 2)), ((4, 65), (44, 2)), ((4, 68), (118, 2)), ((4, 69), (45, 2)), ((4, 72), (119, 2)), ((4, 73), (46, 2)), ((4, 76), (120, 2)), ((4, 77), (47, 2)), ((4, 80), (122, 2)), ((4, 81), (55, 2)), ((4, 84), (125, 2)), ((4, 85), (60, 2)), ((4, 88), (126, 2)), ((4, 89), (61, 2)), ((4, 92), (127, 2)), ((4, 93), (63, 2)), ((4, 96), (129, 2)), ((4, 97), (69, 2)), ((4, 100), (132, 2)), ((4, 101), (72, 2)), ((4, 104), (135, 2)), ((4, 105), (73, 2)), ((4, 108), (136, 2)), ((4, 109), (74, 2)), ((4, 112), (137, 2)), ((4, 113), (75, 2)), ((4, 116), (138, 2)), ((4, 117), (78, 2)), ((4, 120), (140, 2)), ((4, 121), (79, 2)), ((4, 125), (141, 2)), ((4, 126), (82, 2)), ((4, 129), (142, 2)), ((4, 130), (86, 2)), ((4, 133), (145, 2)), ((4, 134), (87, 2)), ((4, 137), (146, 2)), ((4, 138), (88, 2)), ((4, 141), (147, 2))]
def nst : List Cond := [.methodLinkNest "FogCuts" 21 ⟨"FogCuts$Night", "<init>", "()V"⟩ "FogCuts", .methodLinkNest "FogCuts$Bank" 56 ⟨"FogCuts", "fill", "([II)V"⟩ "FogCuts", .methodLinkNest "FogCuts$Bank" 60 ⟨"FogCuts", "copyRow", "([I[I)V"⟩ "FogCuts", .methodLinkNest "FogCuts$Bank" 79 ⟨"FogCuts", "at", "([II)I"⟩ "FogCuts", .methodLinkNest "FogCuts$Bank" 83 ⟨"FogCuts", "put", "([III)V"⟩ "FogCuts", .methodLinkNest "FogCuts$Night" 19 ⟨"FogCuts", "at", "([II)I"⟩ "FogCuts", .methodLinkNest "FogCuts$Night" 23 ⟨"FogCuts", "hourOf", "(I)I"⟩ "FogCuts", .methodLinkNest "FogCuts$Night" 36 ⟨"FogCuts", "isWithin", "(III)Z"⟩ "FogCuts"]
def lfact (q : (Nat × Nat) × (Nat × Nat)) : Prop := q.2.1 < 148 ∧ (match q.2.2 with
  | 0 => Cond.methodLink (oS q.1.1) q.1.2 (my q.2.1) ∈ gw ∧ Cond.static (my q.2.1) ∈ gw
  | 1 => Cond.methodLinkNest (oS q.1.1) q.1.2 (my q.2.1) "FogCuts" ∈ nst ∧ Cond.static (my q.2.1) ∈ gw
  | 2 => Cond.methodLink (oS q.1.1) q.1.2 (my q.2.1) ∈ gw ∧ Cond.instanceMethod (my q.2.1) ∈ gw ∧ Cond.selects (my q.2.1).cls (my q.2.1) (my q.2.1) ∈ gw ∧ mo q.2.1 < 4 ∧ (my q.2.1).cls = cR (mo q.2.1)
  | 3 => Cond.methodLink (oS q.1.1) q.1.2 (my q.2.1) ∈ gw ∧ Cond.instanceMethod (my q.2.1) ∈ gw ∧ (my q.2.1).name = "<init>" ∧ mk q.2.1 = 0
  | 4 => Cond.methodLinkNest (oS q.1.1) q.1.2 (my q.2.1) "FogCuts" ∈ nst ∧ Cond.instanceMethod (my q.2.1) ∈ gw ∧ (my q.2.1).name = "<init>" ∧ mk q.2.1 = 0
  | 5 => Cond.methodLink (oS q.1.1) q.1.2 objectInit ∈ gw
  | 6 => Cond.methodLink (oS q.1.1) q.1.2 Lib.Math.max.name ∈ gw
  | 7 => Cond.methodLink (oS q.1.1) q.1.2 Lib.Math.min.name ∈ gw
  | _ => Cond.methodLink (oS q.1.1) q.1.2 Lib.Math.abs.name ∈ gw)
theorem lfact_0 : lfact ((0, 3), (0, 5)) := ⟨by decide, gw_of 60 (by decide +kernel) (by decide +kernel)⟩
theorem lfact_1 : lfact ((0, 33), (2, 2)) := ⟨by decide, ⟨gw_of 61 (by decide +kernel) (by decide +kernel), gw_of 62 (by decide +kernel) (by decide +kernel), gw_of 63 (by decide +kernel) (by decide +kernel), by decide +kernel, by decide +kernel⟩⟩
theorem lfact_2 : lfact ((0, 56), (3, 1)) := ⟨by decide, ⟨List.mem_of_getElem? (i := 1) (by decide +kernel), gw_of 66 (by decide +kernel) (by decide +kernel)⟩⟩
theorem lfact_3 : lfact ((0, 60), (28, 1)) := ⟨by decide, ⟨List.mem_of_getElem? (i := 2) (by decide +kernel), gw_of 270 (by decide +kernel) (by decide +kernel)⟩⟩
theorem lfact_4 : lfact ((0, 64), (29, 2)) := ⟨by decide, ⟨gw_of 272 (by decide +kernel) (by decide +kernel), gw_of 273 (by decide +kernel) (by decide +kernel), gw_of 274 (by decide +kernel) (by decide +kernel), by decide +kernel, by decide +kernel⟩⟩
theorem lfact_5 : lfact ((0, 68), (31, 0)) := ⟨by decide, ⟨gw_of 283 (by decide +kernel) (by decide +kernel), gw_of 284 (by decide +kernel) (by decide +kernel)⟩⟩
theorem lfact_6 : lfact ((0, 72), (32, 0)) := ⟨by decide, ⟨gw_of 286 (by decide +kernel) (by decide +kernel), gw_of 287 (by decide +kernel) (by decide +kernel)⟩⟩
theorem lfact_7 : lfact ((0, 75), (14, 2)) := ⟨by decide, ⟨gw_of 209 (by decide +kernel) (by decide +kernel), gw_of 210 (by decide +kernel) (by decide +kernel), gw_of 211 (by decide +kernel) (by decide +kernel), by decide +kernel, by decide +kernel⟩⟩
theorem lfact_8 : lfact ((0, 79), (10, 1)) := ⟨by decide, ⟨List.mem_of_getElem? (i := 3) (by decide +kernel), gw_of 195 (by decide +kernel) (by decide +kernel)⟩⟩
theorem lfact_9 : lfact ((0, 83), (11, 1)) := ⟨by decide, ⟨List.mem_of_getElem? (i := 4) (by decide +kernel), gw_of 198 (by decide +kernel) (by decide +kernel)⟩⟩
theorem lfact_10 : lfact ((0, 87), (13, 2)) := ⟨by decide, ⟨gw_of 205 (by decide +kernel) (by decide +kernel), gw_of 207 (by decide +kernel) (by decide +kernel), gw_of 0 (by decide +kernel) (by decide +kernel), by decide +kernel, by decide +kernel⟩⟩
theorem lfact_11 : lfact ((0, 90), (0, 7)) := ⟨by decide, gw_of 213 (by decide +kernel) (by decide +kernel)⟩
theorem lfact_12 : lfact ((0, 95), (0, 6)) := ⟨by decide, gw_of 280 (by decide +kernel) (by decide +kernel)⟩
theorem lfact_13 : lfact ((0, 98), (33, 2)) := ⟨by decide, ⟨gw_of 289 (by decide +kernel) (by decide +kernel), gw_of 291 (by decide +kernel) (by decide +kernel), gw_of 1 (by decide +kernel) (by decide +kernel), by decide +kernel, by decide +kernel⟩⟩
theorem lfact_14 : lfact ((0, 101), (12, 2)) := ⟨by decide, ⟨gw_of 297 (by decide +kernel) (by decide +kernel), gw_of 201 (by decide +kernel) (by decide +kernel), gw_of 202 (by decide +kernel) (by decide +kernel), by decide +kernel, by decide +kernel⟩⟩
theorem lfact_15 : lfact ((0, 104), (18, 2)) := ⟨by decide, ⟨gw_of 228 (by decide +kernel) (by decide +kernel), gw_of 229 (by decide +kernel) (by decide +kernel), gw_of 230 (by decide +kernel) (by decide +kernel), by decide +kernel, by decide +kernel⟩⟩
theorem lfact_16 : lfact ((0, 107), (36, 2)) := ⟨by decide, ⟨gw_of 302 (by decide +kernel) (by decide +kernel), gw_of 303 (by decide +kernel) (by decide +kernel), gw_of 304 (by decide +kernel) (by decide +kernel), by decide +kernel, by decide +kernel⟩⟩
theorem lfact_17 : lfact ((0, 111), (35, 2)) := ⟨by decide, ⟨gw_of 512 (by decide +kernel) (by decide +kernel), gw_of 299 (by decide +kernel) (by decide +kernel), gw_of 300 (by decide +kernel) (by decide +kernel), by decide +kernel, by decide +kernel⟩⟩
theorem lfact_18 : lfact ((0, 115), (37, 2)) := ⟨by decide, ⟨gw_of 306 (by decide +kernel) (by decide +kernel), gw_of 308 (by decide +kernel) (by decide +kernel), gw_of 2 (by decide +kernel) (by decide +kernel), by decide +kernel, by decide +kernel⟩⟩
theorem lfact_19 : lfact ((0, 119), (0, 8)) := ⟨by decide, gw_of 419 (by decide +kernel) (by decide +kernel)⟩
theorem lfact_20 : lfact ((1, 3), (0, 5)) := ⟨by decide, gw_of 125 (by decide +kernel) (by decide +kernel)⟩
theorem lfact_21 : lfact ((1, 19), (10, 1)) := ⟨by decide, ⟨List.mem_of_getElem? (i := 5) (by decide +kernel), gw_of 195 (by decide +kernel) (by decide +kernel)⟩⟩
theorem lfact_22 : lfact ((1, 23), (23, 1)) := ⟨by decide, ⟨List.mem_of_getElem? (i := 6) (by decide +kernel), gw_of 250 (by decide +kernel) (by decide +kernel)⟩⟩
theorem lfact_23 : lfact ((1, 27), (8, 2)) := ⟨by decide, ⟨gw_of 252 (by decide +kernel) (by decide +kernel), gw_of 187 (by decide +kernel) (by decide +kernel), gw_of 188 (by decide +kernel) (by decide +kernel), by decide +kernel, by decide +kernel⟩⟩
theorem lfact_24 : lfact ((1, 33), (24, 0)) := ⟨by decide, ⟨gw_of 253 (by decide +kernel) (by decide +kernel), gw_of 254 (by decide +kernel) (by decide +kernel)⟩⟩
theorem lfact_25 : lfact ((1, 36), (6, 1)) := ⟨by decide, ⟨List.mem_of_getElem? (i := 7) (by decide +kernel), gw_of 179 (by decide +kernel) (by decide +kernel)⟩⟩
theorem lfact_26 : lfact ((1, 40), (30, 2)) := ⟨by decide, ⟨gw_of 276 (by decide +kernel) (by decide +kernel), gw_of 277 (by decide +kernel) (by decide +kernel), gw_of 278 (by decide +kernel) (by decide +kernel), by decide +kernel, by decide +kernel⟩⟩
theorem lfact_27 : lfact ((1, 44), (27, 2)) := ⟨by decide, ⟨gw_of 265 (by decide +kernel) (by decide +kernel), gw_of 266 (by decide +kernel) (by decide +kernel), gw_of 267 (by decide +kernel) (by decide +kernel), by decide +kernel, by decide +kernel⟩⟩
theorem lfact_28 : lfact ((1, 60), (34, 2)) := ⟨by decide, ⟨gw_of 293 (by decide +kernel) (by decide +kernel), gw_of 294 (by decide +kernel) (by decide +kernel), gw_of 295 (by decide +kernel) (by decide +kernel), by decide +kernel, by decide +kernel⟩⟩
theorem lfact_29 : lfact ((1, 64), (35, 2)) := ⟨by decide, ⟨gw_of 298 (by decide +kernel) (by decide +kernel), gw_of 299 (by decide +kernel) (by decide +kernel), gw_of 300 (by decide +kernel) (by decide +kernel), by decide +kernel, by decide +kernel⟩⟩
theorem lfact_30 : lfact ((2, 1), (0, 5)) := ⟨by decide, gw_of 52 (by decide +kernel) (by decide +kernel)⟩
theorem lfact_31 : lfact ((2, 9), (1, 3)) := ⟨by decide, ⟨gw_of 57 (by decide +kernel) (by decide +kernel), gw_of 58 (by decide +kernel) (by decide +kernel), by decide +kernel, by decide +kernel⟩⟩
theorem lfact_32 : lfact ((2, 21), (4, 4)) := ⟨by decide, ⟨List.mem_of_getElem? (i := 0) (by decide +kernel), gw_of 123 (by decide +kernel) (by decide +kernel), by decide +kernel, by decide +kernel⟩⟩
theorem lfact_33 : lfact ((2, 40), (6, 0)) := ⟨by decide, ⟨gw_of 178 (by decide +kernel) (by decide +kernel), gw_of 179 (by decide +kernel) (by decide +kernel)⟩⟩
theorem lfact_34 : lfact ((2, 44), (2, 2)) := ⟨by decide, ⟨gw_of 181 (by decide +kernel) (by decide +kernel), gw_of 62 (by decide +kernel) (by decide +kernel), gw_of 63 (by decide +kernel) (by decide +kernel), by decide +kernel, by decide +kernel⟩⟩
theorem lfact_35 : lfact ((2, 52), (8, 2)) := ⟨by decide, ⟨gw_of 186 (by decide +kernel) (by decide +kernel), gw_of 187 (by decide +kernel) (by decide +kernel), gw_of 188 (by decide +kernel) (by decide +kernel), by decide +kernel, by decide +kernel⟩⟩
theorem lfact_36 : lfact ((2, 56), (9, 2)) := ⟨by decide, ⟨gw_of 190 (by decide +kernel) (by decide +kernel), gw_of 191 (by decide +kernel) (by decide +kernel), gw_of 192 (by decide +kernel) (by decide +kernel), by decide +kernel, by decide +kernel⟩⟩
theorem lfact_37 : lfact ((2, 63), (11, 0)) := ⟨by decide, ⟨gw_of 197 (by decide +kernel) (by decide +kernel), gw_of 198 (by decide +kernel) (by decide +kernel)⟩⟩
theorem lfact_38 : lfact ((2, 67), (12, 2)) := ⟨by decide, ⟨gw_of 200 (by decide +kernel) (by decide +kernel), gw_of 201 (by decide +kernel) (by decide +kernel), gw_of 202 (by decide +kernel) (by decide +kernel), by decide +kernel, by decide +kernel⟩⟩
theorem lfact_39 : lfact ((2, 79), (17, 2)) := ⟨by decide, ⟨gw_of 224 (by decide +kernel) (by decide +kernel), gw_of 225 (by decide +kernel) (by decide +kernel), gw_of 226 (by decide +kernel) (by decide +kernel), by decide +kernel, by decide +kernel⟩⟩
theorem lfact_40 : lfact ((2, 89), (22, 2)) := ⟨by decide, ⟨gw_of 244 (by decide +kernel) (by decide +kernel), gw_of 245 (by decide +kernel) (by decide +kernel), gw_of 246 (by decide +kernel) (by decide +kernel), by decide +kernel, by decide +kernel⟩⟩
theorem lfact_41 : lfact ((2, 93), (26, 2)) := ⟨by decide, ⟨gw_of 261 (by decide +kernel) (by decide +kernel), gw_of 262 (by decide +kernel) (by decide +kernel), gw_of 263 (by decide +kernel) (by decide +kernel), by decide +kernel, by decide +kernel⟩⟩
theorem lfact_42 : lfact ((2, 103), (39, 2)) := ⟨by decide, ⟨gw_of 315 (by decide +kernel) (by decide +kernel), gw_of 317 (by decide +kernel) (by decide +kernel), gw_of 3 (by decide +kernel) (by decide +kernel), by decide +kernel, by decide +kernel⟩⟩
theorem lfact_43 : lfact ((2, 106), (29, 2)) := ⟨by decide, ⟨gw_of 319 (by decide +kernel) (by decide +kernel), gw_of 273 (by decide +kernel) (by decide +kernel), gw_of 274 (by decide +kernel) (by decide +kernel), by decide +kernel, by decide +kernel⟩⟩
theorem lfact_44 : lfact ((2, 113), (43, 2)) := ⟨by decide, ⟨gw_of 332 (by decide +kernel) (by decide +kernel), gw_of 334 (by decide +kernel) (by decide +kernel), gw_of 4 (by decide +kernel) (by decide +kernel), by decide +kernel, by decide +kernel⟩⟩
theorem lfact_45 : lfact ((2, 116), (35, 2)) := ⟨by decide, ⟨gw_of 336 (by decide +kernel) (by decide +kernel), gw_of 299 (by decide +kernel) (by decide +kernel), gw_of 300 (by decide +kernel) (by decide +kernel), by decide +kernel, by decide +kernel⟩⟩
theorem lfact_46 : lfact ((2, 128), (10, 0)) := ⟨by decide, ⟨gw_of 345 (by decide +kernel) (by decide +kernel), gw_of 195 (by decide +kernel) (by decide +kernel)⟩⟩
theorem lfact_47 : lfact ((2, 132), (36, 2)) := ⟨by decide, ⟨gw_of 350 (by decide +kernel) (by decide +kernel), gw_of 303 (by decide +kernel) (by decide +kernel), gw_of 304 (by decide +kernel) (by decide +kernel), by decide +kernel, by decide +kernel⟩⟩
theorem lfact_48 : lfact ((2, 136), (48, 2)) := ⟨by decide, ⟨gw_of 355 (by decide +kernel) (by decide +kernel), gw_of 356 (by decide +kernel) (by decide +kernel), gw_of 357 (by decide +kernel) (by decide +kernel), by decide +kernel, by decide +kernel⟩⟩
theorem lfact_49 : lfact ((2, 140), (49, 2)) := ⟨by decide, ⟨gw_of 359 (by decide +kernel) (by decide +kernel), gw_of 361 (by decide +kernel) (by decide +kernel), gw_of 5 (by decide +kernel) (by decide +kernel), by decide +kernel, by decide +kernel⟩⟩
theorem lfact_50 : lfact ((2, 143), (54, 0)) := ⟨by decide, ⟨gw_of 383 (by decide +kernel) (by decide +kernel), gw_of 384 (by decide +kernel) (by decide +kernel)⟩⟩
theorem lfact_51 : lfact ((2, 146), (56, 2)) := ⟨by decide, ⟨gw_of 390 (by decide +kernel) (by decide +kernel), gw_of 391 (by decide +kernel) (by decide +kernel), gw_of 392 (by decide +kernel) (by decide +kernel), by decide +kernel, by decide +kernel⟩⟩
theorem lfact_52 : lfact ((2, 150), (50, 0)) := ⟨by decide, ⟨gw_of 365 (by decide +kernel) (by decide +kernel), gw_of 366 (by decide +kernel) (by decide +kernel)⟩⟩
theorem lfact_53 : lfact ((2, 155), (57, 2)) := ⟨by decide, ⟨gw_of 394 (by decide +kernel) (by decide +kernel), gw_of 396 (by decide +kernel) (by decide +kernel), gw_of 8 (by decide +kernel) (by decide +kernel), by decide +kernel, by decide +kernel⟩⟩
theorem lfact_54 : lfact ((2, 159), (62, 2)) := ⟨by decide, ⟨gw_of 415 (by decide +kernel) (by decide +kernel), gw_of 416 (by decide +kernel) (by decide +kernel), gw_of 417 (by decide +kernel) (by decide +kernel), by decide +kernel, by decide +kernel⟩⟩
theorem lfact_55 : lfact ((2, 163), (64, 2)) := ⟨by decide, ⟨gw_of 426 (by decide +kernel) (by decide +kernel), gw_of 428 (by decide +kernel) (by decide +kernel), gw_of 10 (by decide +kernel) (by decide +kernel), by decide +kernel, by decide +kernel⟩⟩
theorem lfact_56 : lfact ((2, 167), (68, 2)) := ⟨by decide, ⟨gw_of 443 (by decide +kernel) (by decide +kernel), gw_of 445 (by decide +kernel) (by decide +kernel), gw_of 12 (by decide +kernel) (by decide +kernel), by decide +kernel, by decide +kernel⟩⟩
theorem lfact_57 : lfact ((2, 170), (70, 2)) := ⟨by decide, ⟨gw_of 451 (by decide +kernel) (by decide +kernel), gw_of 453 (by decide +kernel) (by decide +kernel), gw_of 13 (by decide +kernel) (by decide +kernel), by decide +kernel, by decide +kernel⟩⟩
theorem lfact_58 : lfact ((2, 173), (71, 2)) := ⟨by decide, ⟨gw_of 455 (by decide +kernel) (by decide +kernel), gw_of 457 (by decide +kernel) (by decide +kernel), gw_of 14 (by decide +kernel) (by decide +kernel), by decide +kernel, by decide +kernel⟩⟩
theorem lfact_59 : lfact ((2, 185), (76, 2)) := ⟨by decide, ⟨gw_of 475 (by decide +kernel) (by decide +kernel), gw_of 477 (by decide +kernel) (by decide +kernel), gw_of 15 (by decide +kernel) (by decide +kernel), by decide +kernel, by decide +kernel⟩⟩
theorem lfact_60 : lfact ((2, 192), (80, 2)) := ⟨by decide, ⟨gw_of 493 (by decide +kernel) (by decide +kernel), gw_of 495 (by decide +kernel) (by decide +kernel), gw_of 16 (by decide +kernel) (by decide +kernel), by decide +kernel, by decide +kernel⟩⟩
theorem lfact_61 : lfact ((2, 196), (81, 0)) := ⟨by decide, ⟨gw_of 497 (by decide +kernel) (by decide +kernel), gw_of 498 (by decide +kernel) (by decide +kernel)⟩⟩
theorem lfact_62 : lfact ((2, 204), (27, 2)) := ⟨by decide, ⟨gw_of 364 (by decide +kernel) (by decide +kernel), gw_of 266 (by decide +kernel) (by decide +kernel), gw_of 267 (by decide +kernel) (by decide +kernel), by decide +kernel, by decide +kernel⟩⟩
theorem lfact_63 : lfact ((2, 208), (0, 7)) := ⟨by decide, gw_of 442 (by decide +kernel) (by decide +kernel)⟩
theorem lfact_64 : lfact ((2, 213), (30, 2)) := ⟨by decide, ⟨gw_of 500 (by decide +kernel) (by decide +kernel), gw_of 277 (by decide +kernel) (by decide +kernel), gw_of 278 (by decide +kernel) (by decide +kernel), by decide +kernel, by decide +kernel⟩⟩
theorem lfact_65 : lfact ((2, 216), (83, 2)) := ⟨by decide, ⟨gw_of 508 (by decide +kernel) (by decide +kernel), gw_of 509 (by decide +kernel) (by decide +kernel), gw_of 510 (by decide +kernel) (by decide +kernel), by decide +kernel, by decide +kernel⟩⟩
theorem lfact_66 : lfact ((2, 219), (84, 2)) := ⟨by decide, ⟨gw_of 513 (by decide +kernel) (by decide +kernel), gw_of 514 (by decide +kernel) (by decide +kernel), gw_of 515 (by decide +kernel) (by decide +kernel), by decide +kernel, by decide +kernel⟩⟩
theorem lfact_67 : lfact ((2, 222), (0, 6)) := ⟨by decide, gw_of 517 (by decide +kernel) (by decide +kernel)⟩
theorem lfact_68 : lfact ((2, 225), (85, 2)) := ⟨by decide, ⟨gw_of 518 (by decide +kernel) (by decide +kernel), gw_of 519 (by decide +kernel) (by decide +kernel), gw_of 520 (by decide +kernel) (by decide +kernel), by decide +kernel, by decide +kernel⟩⟩
theorem lfact_69 : lfact ((2, 228), (18, 2)) := ⟨by decide, ⟨gw_of 363 (by decide +kernel) (by decide +kernel), gw_of 229 (by decide +kernel) (by decide +kernel), gw_of 230 (by decide +kernel) (by decide +kernel), by decide +kernel, by decide +kernel⟩⟩
theorem lfact_70 : lfact ((2, 231), (51, 2)) := ⟨by decide, ⟨gw_of 371 (by decide +kernel) (by decide +kernel), gw_of 373 (by decide +kernel) (by decide +kernel), gw_of 6 (by decide +kernel) (by decide +kernel), by decide +kernel, by decide +kernel⟩⟩
theorem lfact_71 : lfact ((2, 234), (53, 2)) := ⟨by decide, ⟨gw_of 379 (by decide +kernel) (by decide +kernel), gw_of 381 (by decide +kernel) (by decide +kernel), gw_of 7 (by decide +kernel) (by decide +kernel), by decide +kernel, by decide +kernel⟩⟩
theorem lfact_72 : lfact ((2, 237), (52, 2)) := ⟨by decide, ⟨gw_of 375 (by decide +kernel) (by decide +kernel), gw_of 376 (by decide +kernel) (by decide +kernel), gw_of 377 (by decide +kernel) (by decide +kernel), by decide +kernel, by decide +kernel⟩⟩
theorem lfact_73 : lfact ((2, 243), (58, 2)) := ⟨by decide, ⟨gw_of 398 (by decide +kernel) (by decide +kernel), gw_of 400 (by decide +kernel) (by decide +kernel), gw_of 9 (by decide +kernel) (by decide +kernel), by decide +kernel, by decide +kernel⟩⟩
theorem lfact_74 : lfact ((2, 246), (59, 2)) := ⟨by decide, ⟨gw_of 402 (by decide +kernel) (by decide +kernel), gw_of 403 (by decide +kernel) (by decide +kernel), gw_of 404 (by decide +kernel) (by decide +kernel), by decide +kernel, by decide +kernel⟩⟩
theorem lfact_75 : lfact ((2, 249), (65, 2)) := ⟨by decide, ⟨gw_of 430 (by decide +kernel) (by decide +kernel), gw_of 432 (by decide +kernel) (by decide +kernel), gw_of 11 (by decide +kernel) (by decide +kernel), by decide +kernel, by decide +kernel⟩⟩
theorem lfact_76 : lfact ((2, 252), (67, 2)) := ⟨by decide, ⟨gw_of 438 (by decide +kernel) (by decide +kernel), gw_of 439 (by decide +kernel) (by decide +kernel), gw_of 440 (by decide +kernel) (by decide +kernel), by decide +kernel, by decide +kernel⟩⟩
theorem lfact_77 : lfact ((2, 255), (66, 2)) := ⟨by decide, ⟨gw_of 434 (by decide +kernel) (by decide +kernel), gw_of 435 (by decide +kernel) (by decide +kernel), gw_of 436 (by decide +kernel) (by decide +kernel), by decide +kernel, by decide +kernel⟩⟩
theorem lfact_78 : lfact ((2, 258), (77, 2)) := ⟨by decide, ⟨gw_of 479 (by decide +kernel) (by decide +kernel), gw_of 480 (by decide +kernel) (by decide +kernel), gw_of 481 (by decide +kernel) (by decide +kernel), by decide +kernel, by decide +kernel⟩⟩
theorem lfact_79 : lfact ((3, 1), (0, 5)) := ⟨by decide, gw_of 539 (by decide +kernel) (by decide +kernel)⟩
theorem lfact_80 : lfact ((3, 51), (90, 2)) := ⟨by decide, ⟨gw_of 540 (by decide +kernel) (by decide +kernel), gw_of 542 (by decide +kernel) (by decide +kernel), gw_of 17 (by decide +kernel) (by decide +kernel), by decide +kernel, by decide +kernel⟩⟩
theorem lfact_81 : lfact ((3, 60), (95, 2)) := ⟨by decide, ⟨gw_of 621 (by decide +kernel) (by decide +kernel), gw_of 623 (by decide +kernel) (by decide +kernel), gw_of 19 (by decide +kernel) (by decide +kernel), by decide +kernel, by decide +kernel⟩⟩
theorem lfact_82 : lfact ((3, 64), (92, 0)) := ⟨by decide, ⟨gw_of 610 (by decide +kernel) (by decide +kernel), gw_of 611 (by decide +kernel) (by decide +kernel)⟩⟩
theorem lfact_83 : lfact ((3, 68), (94, 2)) := ⟨by decide, ⟨gw_of 617 (by decide +kernel) (by decide +kernel), gw_of 619 (by decide +kernel) (by decide +kernel), gw_of 18 (by decide +kernel) (by decide +kernel), by decide +kernel, by decide +kernel⟩⟩
theorem lfact_84 : lfact ((3, 72), (98, 2)) := ⟨by decide, ⟨gw_of 633 (by decide +kernel) (by decide +kernel), gw_of 635 (by decide +kernel) (by decide +kernel), gw_of 20 (by decide +kernel) (by decide +kernel), by decide +kernel, by decide +kernel⟩⟩
theorem lfact_85 : lfact ((3, 76), (99, 0)) := ⟨by decide, ⟨gw_of 637 (by decide +kernel) (by decide +kernel), gw_of 638 (by decide +kernel) (by decide +kernel)⟩⟩
theorem lfact_86 : lfact ((3, 82), (104, 0)) := ⟨by decide, ⟨gw_of 656 (by decide +kernel) (by decide +kernel), gw_of 657 (by decide +kernel) (by decide +kernel)⟩⟩
theorem lfact_87 : lfact ((3, 85), (103, 2)) := ⟨by decide, ⟨gw_of 652 (by decide +kernel) (by decide +kernel), gw_of 654 (by decide +kernel) (by decide +kernel), gw_of 21 (by decide +kernel) (by decide +kernel), by decide +kernel, by decide +kernel⟩⟩
theorem lfact_88 : lfact ((3, 91), (109, 0)) := ⟨by decide, ⟨gw_of 675 (by decide +kernel) (by decide +kernel), gw_of 676 (by decide +kernel) (by decide +kernel)⟩⟩
theorem lfact_89 : lfact ((3, 95), (110, 2)) := ⟨by decide, ⟨gw_of 678 (by decide +kernel) (by decide +kernel), gw_of 680 (by decide +kernel) (by decide +kernel), gw_of 25 (by decide +kernel) (by decide +kernel), by decide +kernel, by decide +kernel⟩⟩
theorem lfact_90 : lfact ((3, 99), (107, 2)) := ⟨by decide, ⟨gw_of 667 (by decide +kernel) (by decide +kernel), gw_of 669 (by decide +kernel) (by decide +kernel), gw_of 23 (by decide +kernel) (by decide +kernel), by decide +kernel, by decide +kernel⟩⟩
theorem lfact_91 : lfact ((3, 111), (108, 2)) := ⟨by decide, ⟨gw_of 671 (by decide +kernel) (by decide +kernel), gw_of 673 (by decide +kernel) (by decide +kernel), gw_of 24 (by decide +kernel) (by decide +kernel), by decide +kernel, by decide +kernel⟩⟩
theorem lfact_92 : lfact ((3, 115), (111, 2)) := ⟨by decide, ⟨gw_of 682 (by decide +kernel) (by decide +kernel), gw_of 684 (by decide +kernel) (by decide +kernel), gw_of 26 (by decide +kernel) (by decide +kernel), by decide +kernel, by decide +kernel⟩⟩
theorem lfact_93 : lfact ((3, 118), (106, 2)) := ⟨by decide, ⟨gw_of 663 (by decide +kernel) (by decide +kernel), gw_of 665 (by decide +kernel) (by decide +kernel), gw_of 22 (by decide +kernel) (by decide +kernel), by decide +kernel, by decide +kernel⟩⟩
theorem lfact_94 : lfact ((3, 121), (113, 2)) := ⟨by decide, ⟨gw_of 690 (by decide +kernel) (by decide +kernel), gw_of 692 (by decide +kernel) (by decide +kernel), gw_of 27 (by decide +kernel) (by decide +kernel), by decide +kernel, by decide +kernel⟩⟩
theorem lfact_95 : lfact ((3, 124), (117, 2)) := ⟨by decide, ⟨gw_of 706 (by decide +kernel) (by decide +kernel), gw_of 708 (by decide +kernel) (by decide +kernel), gw_of 28 (by decide +kernel) (by decide +kernel), by decide +kernel, by decide +kernel⟩⟩
theorem lfact_96 : lfact ((3, 128), (121, 2)) := ⟨by decide, ⟨gw_of 722 (by decide +kernel) (by decide +kernel), gw_of 724 (by decide +kernel) (by decide +kernel), gw_of 29 (by decide +kernel) (by decide +kernel), by decide +kernel, by decide +kernel⟩⟩
theorem lfact_97 : lfact ((3, 132), (123, 2)) := ⟨by decide, ⟨gw_of 731 (by decide +kernel) (by decide +kernel), gw_of 733 (by decide +kernel) (by decide +kernel), gw_of 30 (by decide +kernel) (by decide +kernel), by decide +kernel, by decide +kernel⟩⟩
theorem lfact_98 : lfact ((3, 136), (124, 2)) := ⟨by decide, ⟨gw_of 735 (by decide +kernel) (by decide +kernel), gw_of 737 (by decide +kernel) (by decide +kernel), gw_of 31 (by decide +kernel) (by decide +kernel), by decide +kernel, by decide +kernel⟩⟩
theorem lfact_99 : lfact ((3, 139), (128, 2)) := ⟨by decide, ⟨gw_of 751 (by decide +kernel) (by decide +kernel), gw_of 753 (by decide +kernel) (by decide +kernel), gw_of 32 (by decide +kernel) (by decide +kernel), by decide +kernel, by decide +kernel⟩⟩
theorem lfact_100 : lfact ((3, 142), (131, 2)) := ⟨by decide, ⟨gw_of 763 (by decide +kernel) (by decide +kernel), gw_of 765 (by decide +kernel) (by decide +kernel), gw_of 34 (by decide +kernel) (by decide +kernel), by decide +kernel, by decide +kernel⟩⟩
theorem lfact_101 : lfact ((3, 145), (130, 2)) := ⟨by decide, ⟨gw_of 759 (by decide +kernel) (by decide +kernel), gw_of 761 (by decide +kernel) (by decide +kernel), gw_of 33 (by decide +kernel) (by decide +kernel), by decide +kernel, by decide +kernel⟩⟩
theorem lfact_102 : lfact ((3, 148), (133, 2)) := ⟨by decide, ⟨gw_of 771 (by decide +kernel) (by decide +kernel), gw_of 773 (by decide +kernel) (by decide +kernel), gw_of 35 (by decide +kernel) (by decide +kernel), by decide +kernel, by decide +kernel⟩⟩
theorem lfact_103 : lfact ((3, 151), (134, 2)) := ⟨by decide, ⟨gw_of 775 (by decide +kernel) (by decide +kernel), gw_of 777 (by decide +kernel) (by decide +kernel), gw_of 36 (by decide +kernel) (by decide +kernel), by decide +kernel, by decide +kernel⟩⟩
theorem lfact_104 : lfact ((3, 154), (139, 2)) := ⟨by decide, ⟨gw_of 795 (by decide +kernel) (by decide +kernel), gw_of 797 (by decide +kernel) (by decide +kernel), gw_of 37 (by decide +kernel) (by decide +kernel), by decide +kernel, by decide +kernel⟩⟩
theorem lfact_105 : lfact ((3, 164), (143, 2)) := ⟨by decide, ⟨gw_of 815 (by decide +kernel) (by decide +kernel), gw_of 817 (by decide +kernel) (by decide +kernel), gw_of 38 (by decide +kernel) (by decide +kernel), by decide +kernel, by decide +kernel⟩⟩
theorem lfact_106 : lfact ((3, 167), (144, 2)) := ⟨by decide, ⟨gw_of 819 (by decide +kernel) (by decide +kernel), gw_of 821 (by decide +kernel) (by decide +kernel), gw_of 39 (by decide +kernel) (by decide +kernel), by decide +kernel, by decide +kernel⟩⟩
theorem lfact_107 : lfact ((4, 9), (0, 3)) := ⟨by decide, ⟨gw_of 49 (by decide +kernel) (by decide +kernel), gw_of 50 (by decide +kernel) (by decide +kernel), by decide +kernel, by decide +kernel⟩⟩
theorem lfact_108 : lfact ((4, 12), (89, 3)) := ⟨by decide, ⟨gw_of 536 (by decide +kernel) (by decide +kernel), gw_of 537 (by decide +kernel) (by decide +kernel), by decide +kernel, by decide +kernel⟩⟩
theorem lfact_109 : lfact ((4, 13), (5, 2)) := ⟨by decide, ⟨gw_of 174 (by decide +kernel) (by decide +kernel), gw_of 175 (by decide +kernel) (by decide +kernel), gw_of 176 (by decide +kernel) (by decide +kernel), by decide +kernel, by decide +kernel⟩⟩
theorem lfact_110 : lfact ((4, 17), (91, 2)) := ⟨by decide, ⟨gw_of 606 (by decide +kernel) (by decide +kernel), gw_of 607 (by decide +kernel) (by decide +kernel), gw_of 608 (by decide +kernel) (by decide +kernel), by decide +kernel, by decide +kernel⟩⟩
theorem lfact_111 : lfact ((4, 18), (7, 2)) := ⟨by decide, ⟨gw_of 182 (by decide +kernel) (by decide +kernel), gw_of 183 (by decide +kernel) (by decide +kernel), gw_of 184 (by decide +kernel) (by decide +kernel), by decide +kernel, by decide +kernel⟩⟩
theorem lfact_112 : lfact ((4, 22), (93, 2)) := ⟨by decide, ⟨gw_of 613 (by decide +kernel) (by decide +kernel), gw_of 614 (by decide +kernel) (by decide +kernel), gw_of 615 (by decide +kernel) (by decide +kernel), by decide +kernel, by decide +kernel⟩⟩
theorem lfact_113 : lfact ((4, 23), (15, 2)) := ⟨by decide, ⟨gw_of 216 (by decide +kernel) (by decide +kernel), gw_of 217 (by decide +kernel) (by decide +kernel), gw_of 218 (by decide +kernel) (by decide +kernel), by decide +kernel, by decide +kernel⟩⟩
theorem lfact_114 : lfact ((4, 26), (96, 2)) := ⟨by decide, ⟨gw_of 625 (by decide +kernel) (by decide +kernel), gw_of 626 (by decide +kernel) (by decide +kernel), gw_of 627 (by decide +kernel) (by decide +kernel), by decide +kernel, by decide +kernel⟩⟩
theorem lfact_115 : lfact ((4, 27), (16, 2)) := ⟨by decide, ⟨gw_of 220 (by decide +kernel) (by decide +kernel), gw_of 221 (by decide +kernel) (by decide +kernel), gw_of 222 (by decide +kernel) (by decide +kernel), by decide +kernel, by decide +kernel⟩⟩
theorem lfact_116 : lfact ((4, 30), (97, 2)) := ⟨by decide, ⟨gw_of 629 (by decide +kernel) (by decide +kernel), gw_of 630 (by decide +kernel) (by decide +kernel), gw_of 631 (by decide +kernel) (by decide +kernel), by decide +kernel, by decide +kernel⟩⟩
theorem lfact_117 : lfact ((4, 31), (19, 2)) := ⟨by decide, ⟨gw_of 232 (by decide +kernel) (by decide +kernel), gw_of 233 (by decide +kernel) (by decide +kernel), gw_of 234 (by decide +kernel) (by decide +kernel), by decide +kernel, by decide +kernel⟩⟩
theorem lfact_118 : lfact ((4, 35), (100, 2)) := ⟨by decide, ⟨gw_of 640 (by decide +kernel) (by decide +kernel), gw_of 641 (by decide +kernel) (by decide +kernel), gw_of 642 (by decide +kernel) (by decide +kernel), by decide +kernel, by decide +kernel⟩⟩
theorem lfact_119 : lfact ((4, 36), (20, 2)) := ⟨by decide, ⟨gw_of 236 (by decide +kernel) (by decide +kernel), gw_of 237 (by decide +kernel) (by decide +kernel), gw_of 238 (by decide +kernel) (by decide +kernel), by decide +kernel, by decide +kernel⟩⟩
theorem lfact_120 : lfact ((4, 40), (101, 2)) := ⟨by decide, ⟨gw_of 644 (by decide +kernel) (by decide +kernel), gw_of 645 (by decide +kernel) (by decide +kernel), gw_of 646 (by decide +kernel) (by decide +kernel), by decide +kernel, by decide +kernel⟩⟩
theorem lfact_121 : lfact ((4, 41), (21, 2)) := ⟨by decide, ⟨gw_of 240 (by decide +kernel) (by decide +kernel), gw_of 241 (by decide +kernel) (by decide +kernel), gw_of 242 (by decide +kernel) (by decide +kernel), by decide +kernel, by decide +kernel⟩⟩
theorem lfact_122 : lfact ((4, 44), (102, 2)) := ⟨by decide, ⟨gw_of 648 (by decide +kernel) (by decide +kernel), gw_of 649 (by decide +kernel) (by decide +kernel), gw_of 650 (by decide +kernel) (by decide +kernel), by decide +kernel, by decide +kernel⟩⟩
theorem lfact_123 : lfact ((4, 45), (25, 2)) := ⟨by decide, ⟨gw_of 257 (by decide +kernel) (by decide +kernel), gw_of 258 (by decide +kernel) (by decide +kernel), gw_of 259 (by decide +kernel) (by decide +kernel), by decide +kernel, by decide +kernel⟩⟩
theorem lfact_124 : lfact ((4, 48), (105, 2)) := ⟨by decide, ⟨gw_of 659 (by decide +kernel) (by decide +kernel), gw_of 660 (by decide +kernel) (by decide +kernel), gw_of 661 (by decide +kernel) (by decide +kernel), by decide +kernel, by decide +kernel⟩⟩
theorem lfact_125 : lfact ((4, 49), (38, 2)) := ⟨by decide, ⟨gw_of 311 (by decide +kernel) (by decide +kernel), gw_of 312 (by decide +kernel) (by decide +kernel), gw_of 313 (by decide +kernel) (by decide +kernel), by decide +kernel, by decide +kernel⟩⟩
theorem lfact_126 : lfact ((4, 52), (112, 2)) := ⟨by decide, ⟨gw_of 686 (by decide +kernel) (by decide +kernel), gw_of 687 (by decide +kernel) (by decide +kernel), gw_of 688 (by decide +kernel) (by decide +kernel), by decide +kernel, by decide +kernel⟩⟩
theorem lfact_127 : lfact ((4, 53), (40, 2)) := ⟨by decide, ⟨gw_of 320 (by decide +kernel) (by decide +kernel), gw_of 321 (by decide +kernel) (by decide +kernel), gw_of 322 (by decide +kernel) (by decide +kernel), by decide +kernel, by decide +kernel⟩⟩
theorem lfact_128 : lfact ((4, 56), (114, 2)) := ⟨by decide, ⟨gw_of 694 (by decide +kernel) (by decide +kernel), gw_of 695 (by decide +kernel) (by decide +kernel), gw_of 696 (by decide +kernel) (by decide +kernel), by decide +kernel, by decide +kernel⟩⟩
theorem lfact_129 : lfact ((4, 57), (41, 2)) := ⟨by decide, ⟨gw_of 324 (by decide +kernel) (by decide +kernel), gw_of 325 (by decide +kernel) (by decide +kernel), gw_of 326 (by decide +kernel) (by decide +kernel), by decide +kernel, by decide +kernel⟩⟩
theorem lfact_130 : lfact ((4, 60), (115, 2)) := ⟨by decide, ⟨gw_of 698 (by decide +kernel) (by decide +kernel), gw_of 699 (by decide +kernel) (by decide +kernel), gw_of 700 (by decide +kernel) (by decide +kernel), by decide +kernel, by decide +kernel⟩⟩
theorem lfact_131 : lfact ((4, 61), (42, 2)) := ⟨by decide, ⟨gw_of 328 (by decide +kernel) (by decide +kernel), gw_of 329 (by decide +kernel) (by decide +kernel), gw_of 330 (by decide +kernel) (by decide +kernel), by decide +kernel, by decide +kernel⟩⟩
theorem lfact_132 : lfact ((4, 64), (116, 2)) := ⟨by decide, ⟨gw_of 702 (by decide +kernel) (by decide +kernel), gw_of 703 (by decide +kernel) (by decide +kernel), gw_of 704 (by decide +kernel) (by decide +kernel), by decide +kernel, by decide +kernel⟩⟩
theorem lfact_133 : lfact ((4, 65), (44, 2)) := ⟨by decide, ⟨gw_of 337 (by decide +kernel) (by decide +kernel), gw_of 338 (by decide +kernel) (by decide +kernel), gw_of 339 (by decide +kernel) (by decide +kernel), by decide +kernel, by decide +kernel⟩⟩
theorem lfact_134 : lfact ((4, 68), (118, 2)) := ⟨by decide, ⟨gw_of 710 (by decide +kernel) (by decide +kernel), gw_of 711 (by decide +kernel) (by decide +kernel), gw_of 712 (by decide +kernel) (by decide +kernel), by decide +kernel, by decide +kernel⟩⟩
theorem lfact_135 : lfact ((4, 69), (45, 2)) := ⟨by decide, ⟨gw_of 341 (by decide +kernel) (by decide +kernel), gw_of 342 (by decide +kernel) (by decide +kernel), gw_of 343 (by decide +kernel) (by decide +kernel), by decide +kernel, by decide +kernel⟩⟩
theorem lfact_136 : lfact ((4, 72), (119, 2)) := ⟨by decide, ⟨gw_of 714 (by decide +kernel) (by decide +kernel), gw_of 715 (by decide +kernel) (by decide +kernel), gw_of 716 (by decide +kernel) (by decide +kernel), by decide +kernel, by decide +kernel⟩⟩
theorem lfact_137 : lfact ((4, 73), (46, 2)) := ⟨by decide, ⟨gw_of 346 (by decide +kernel) (by decide +kernel), gw_of 347 (by decide +kernel) (by decide +kernel), gw_of 348 (by decide +kernel) (by decide +kernel), by decide +kernel, by decide +kernel⟩⟩
theorem lfact_138 : lfact ((4, 76), (120, 2)) := ⟨by decide, ⟨gw_of 718 (by decide +kernel) (by decide +kernel), gw_of 719 (by decide +kernel) (by decide +kernel), gw_of 720 (by decide +kernel) (by decide +kernel), by decide +kernel, by decide +kernel⟩⟩
theorem lfact_139 : lfact ((4, 77), (47, 2)) := ⟨by decide, ⟨gw_of 351 (by decide +kernel) (by decide +kernel), gw_of 352 (by decide +kernel) (by decide +kernel), gw_of 353 (by decide +kernel) (by decide +kernel), by decide +kernel, by decide +kernel⟩⟩
theorem lfact_140 : lfact ((4, 80), (122, 2)) := ⟨by decide, ⟨gw_of 727 (by decide +kernel) (by decide +kernel), gw_of 728 (by decide +kernel) (by decide +kernel), gw_of 729 (by decide +kernel) (by decide +kernel), by decide +kernel, by decide +kernel⟩⟩
theorem lfact_141 : lfact ((4, 81), (55, 2)) := ⟨by decide, ⟨gw_of 386 (by decide +kernel) (by decide +kernel), gw_of 387 (by decide +kernel) (by decide +kernel), gw_of 388 (by decide +kernel) (by decide +kernel), by decide +kernel, by decide +kernel⟩⟩
theorem lfact_142 : lfact ((4, 84), (125, 2)) := ⟨by decide, ⟨gw_of 739 (by decide +kernel) (by decide +kernel), gw_of 740 (by decide +kernel) (by decide +kernel), gw_of 741 (by decide +kernel) (by decide +kernel), by decide +kernel, by decide +kernel⟩⟩
theorem lfact_143 : lfact ((4, 85), (60, 2)) := ⟨by decide, ⟨gw_of 406 (by decide +kernel) (by decide +kernel), gw_of 407 (by decide +kernel) (by decide +kernel), gw_of 408 (by decide +kernel) (by decide +kernel), by decide +kernel, by decide +kernel⟩⟩
theorem lfact_144 : lfact ((4, 88), (126, 2)) := ⟨by decide, ⟨gw_of 743 (by decide +kernel) (by decide +kernel), gw_of 744 (by decide +kernel) (by decide +kernel), gw_of 745 (by decide +kernel) (by decide +kernel), by decide +kernel, by decide +kernel⟩⟩
theorem lfact_145 : lfact ((4, 89), (61, 2)) := ⟨by decide, ⟨gw_of 411 (by decide +kernel) (by decide +kernel), gw_of 412 (by decide +kernel) (by decide +kernel), gw_of 413 (by decide +kernel) (by decide +kernel), by decide +kernel, by decide +kernel⟩⟩
theorem lfact_146 : lfact ((4, 92), (127, 2)) := ⟨by decide, ⟨gw_of 747 (by decide +kernel) (by decide +kernel), gw_of 748 (by decide +kernel) (by decide +kernel), gw_of 749 (by decide +kernel) (by decide +kernel), by decide +kernel, by decide +kernel⟩⟩
theorem lfact_147 : lfact ((4, 93), (63, 2)) := ⟨by decide, ⟨gw_of 422 (by decide +kernel) (by decide +kernel), gw_of 423 (by decide +kernel) (by decide +kernel), gw_of 424 (by decide +kernel) (by decide +kernel), by decide +kernel, by decide +kernel⟩⟩
theorem lfact_148 : lfact ((4, 96), (129, 2)) := ⟨by decide, ⟨gw_of 755 (by decide +kernel) (by decide +kernel), gw_of 756 (by decide +kernel) (by decide +kernel), gw_of 757 (by decide +kernel) (by decide +kernel), by decide +kernel, by decide +kernel⟩⟩
theorem lfact_149 : lfact ((4, 97), (69, 2)) := ⟨by decide, ⟨gw_of 447 (by decide +kernel) (by decide +kernel), gw_of 448 (by decide +kernel) (by decide +kernel), gw_of 449 (by decide +kernel) (by decide +kernel), by decide +kernel, by decide +kernel⟩⟩
theorem lfact_150 : lfact ((4, 100), (132, 2)) := ⟨by decide, ⟨gw_of 767 (by decide +kernel) (by decide +kernel), gw_of 768 (by decide +kernel) (by decide +kernel), gw_of 769 (by decide +kernel) (by decide +kernel), by decide +kernel, by decide +kernel⟩⟩
theorem lfact_151 : lfact ((4, 101), (72, 2)) := ⟨by decide, ⟨gw_of 459 (by decide +kernel) (by decide +kernel), gw_of 460 (by decide +kernel) (by decide +kernel), gw_of 461 (by decide +kernel) (by decide +kernel), by decide +kernel, by decide +kernel⟩⟩
theorem lfact_152 : lfact ((4, 104), (135, 2)) := ⟨by decide, ⟨gw_of 779 (by decide +kernel) (by decide +kernel), gw_of 780 (by decide +kernel) (by decide +kernel), gw_of 781 (by decide +kernel) (by decide +kernel), by decide +kernel, by decide +kernel⟩⟩
theorem lfact_153 : lfact ((4, 105), (73, 2)) := ⟨by decide, ⟨gw_of 463 (by decide +kernel) (by decide +kernel), gw_of 464 (by decide +kernel) (by decide +kernel), gw_of 465 (by decide +kernel) (by decide +kernel), by decide +kernel, by decide +kernel⟩⟩
theorem lfact_154 : lfact ((4, 108), (136, 2)) := ⟨by decide, ⟨gw_of 783 (by decide +kernel) (by decide +kernel), gw_of 784 (by decide +kernel) (by decide +kernel), gw_of 785 (by decide +kernel) (by decide +kernel), by decide +kernel, by decide +kernel⟩⟩
theorem lfact_155 : lfact ((4, 109), (74, 2)) := ⟨by decide, ⟨gw_of 467 (by decide +kernel) (by decide +kernel), gw_of 468 (by decide +kernel) (by decide +kernel), gw_of 469 (by decide +kernel) (by decide +kernel), by decide +kernel, by decide +kernel⟩⟩
theorem lfact_156 : lfact ((4, 112), (137, 2)) := ⟨by decide, ⟨gw_of 787 (by decide +kernel) (by decide +kernel), gw_of 788 (by decide +kernel) (by decide +kernel), gw_of 789 (by decide +kernel) (by decide +kernel), by decide +kernel, by decide +kernel⟩⟩
theorem lfact_157 : lfact ((4, 113), (75, 2)) := ⟨by decide, ⟨gw_of 471 (by decide +kernel) (by decide +kernel), gw_of 472 (by decide +kernel) (by decide +kernel), gw_of 473 (by decide +kernel) (by decide +kernel), by decide +kernel, by decide +kernel⟩⟩
theorem lfact_158 : lfact ((4, 116), (138, 2)) := ⟨by decide, ⟨gw_of 791 (by decide +kernel) (by decide +kernel), gw_of 792 (by decide +kernel) (by decide +kernel), gw_of 793 (by decide +kernel) (by decide +kernel), by decide +kernel, by decide +kernel⟩⟩
theorem lfact_159 : lfact ((4, 117), (78, 2)) := ⟨by decide, ⟨gw_of 483 (by decide +kernel) (by decide +kernel), gw_of 484 (by decide +kernel) (by decide +kernel), gw_of 485 (by decide +kernel) (by decide +kernel), by decide +kernel, by decide +kernel⟩⟩
theorem lfact_160 : lfact ((4, 120), (140, 2)) := ⟨by decide, ⟨gw_of 799 (by decide +kernel) (by decide +kernel), gw_of 800 (by decide +kernel) (by decide +kernel), gw_of 801 (by decide +kernel) (by decide +kernel), by decide +kernel, by decide +kernel⟩⟩
theorem lfact_161 : lfact ((4, 121), (79, 2)) := ⟨by decide, ⟨gw_of 487 (by decide +kernel) (by decide +kernel), gw_of 488 (by decide +kernel) (by decide +kernel), gw_of 489 (by decide +kernel) (by decide +kernel), by decide +kernel, by decide +kernel⟩⟩
theorem lfact_162 : lfact ((4, 125), (141, 2)) := ⟨by decide, ⟨gw_of 803 (by decide +kernel) (by decide +kernel), gw_of 804 (by decide +kernel) (by decide +kernel), gw_of 805 (by decide +kernel) (by decide +kernel), by decide +kernel, by decide +kernel⟩⟩
theorem lfact_163 : lfact ((4, 126), (82, 2)) := ⟨by decide, ⟨gw_of 503 (by decide +kernel) (by decide +kernel), gw_of 504 (by decide +kernel) (by decide +kernel), gw_of 505 (by decide +kernel) (by decide +kernel), by decide +kernel, by decide +kernel⟩⟩
theorem lfact_164 : lfact ((4, 129), (142, 2)) := ⟨by decide, ⟨gw_of 810 (by decide +kernel) (by decide +kernel), gw_of 811 (by decide +kernel) (by decide +kernel), gw_of 812 (by decide +kernel) (by decide +kernel), by decide +kernel, by decide +kernel⟩⟩
theorem lfact_165 : lfact ((4, 130), (86, 2)) := ⟨by decide, ⟨gw_of 522 (by decide +kernel) (by decide +kernel), gw_of 523 (by decide +kernel) (by decide +kernel), gw_of 524 (by decide +kernel) (by decide +kernel), by decide +kernel, by decide +kernel⟩⟩
theorem lfact_166 : lfact ((4, 133), (145, 2)) := ⟨by decide, ⟨gw_of 823 (by decide +kernel) (by decide +kernel), gw_of 824 (by decide +kernel) (by decide +kernel), gw_of 825 (by decide +kernel) (by decide +kernel), by decide +kernel, by decide +kernel⟩⟩
theorem lfact_167 : lfact ((4, 134), (87, 2)) := ⟨by decide, ⟨gw_of 526 (by decide +kernel) (by decide +kernel), gw_of 527 (by decide +kernel) (by decide +kernel), gw_of 528 (by decide +kernel) (by decide +kernel), by decide +kernel, by decide +kernel⟩⟩
theorem lfact_168 : lfact ((4, 137), (146, 2)) := ⟨by decide, ⟨gw_of 827 (by decide +kernel) (by decide +kernel), gw_of 828 (by decide +kernel) (by decide +kernel), gw_of 829 (by decide +kernel) (by decide +kernel), by decide +kernel, by decide +kernel⟩⟩
theorem lfact_169 : lfact ((4, 138), (88, 2)) := ⟨by decide, ⟨gw_of 530 (by decide +kernel) (by decide +kernel), gw_of 531 (by decide +kernel) (by decide +kernel), gw_of 532 (by decide +kernel) (by decide +kernel), by decide +kernel, by decide +kernel⟩⟩
theorem lfact_170 : lfact ((4, 141), (147, 2)) := ⟨by decide, ⟨gw_of 831 (by decide +kernel) (by decide +kernel), gw_of 832 (by decide +kernel) (by decide +kernel), gw_of 833 (by decide +kernel) (by decide +kernel), by decide +kernel, by decide +kernel⟩⟩
theorem lfacts : ∀ q ∈ mlk, lfact q := by
  unfold mlk
  refine List.forall_mem_cons.mpr ⟨lfact_0, ?_⟩
  refine List.forall_mem_cons.mpr ⟨lfact_1, ?_⟩
  refine List.forall_mem_cons.mpr ⟨lfact_2, ?_⟩
  refine List.forall_mem_cons.mpr ⟨lfact_3, ?_⟩
  refine List.forall_mem_cons.mpr ⟨lfact_4, ?_⟩
  refine List.forall_mem_cons.mpr ⟨lfact_5, ?_⟩
  refine List.forall_mem_cons.mpr ⟨lfact_6, ?_⟩
  refine List.forall_mem_cons.mpr ⟨lfact_7, ?_⟩
  refine List.forall_mem_cons.mpr ⟨lfact_8, ?_⟩
  refine List.forall_mem_cons.mpr ⟨lfact_9, ?_⟩
  refine List.forall_mem_cons.mpr ⟨lfact_10, ?_⟩
  refine List.forall_mem_cons.mpr ⟨lfact_11, ?_⟩
  refine List.forall_mem_cons.mpr ⟨lfact_12, ?_⟩
  refine List.forall_mem_cons.mpr ⟨lfact_13, ?_⟩
  refine List.forall_mem_cons.mpr ⟨lfact_14, ?_⟩
  refine List.forall_mem_cons.mpr ⟨lfact_15, ?_⟩
  refine List.forall_mem_cons.mpr ⟨lfact_16, ?_⟩
  refine List.forall_mem_cons.mpr ⟨lfact_17, ?_⟩
  refine List.forall_mem_cons.mpr ⟨lfact_18, ?_⟩
  refine List.forall_mem_cons.mpr ⟨lfact_19, ?_⟩
  refine List.forall_mem_cons.mpr ⟨lfact_20, ?_⟩
  refine List.forall_mem_cons.mpr ⟨lfact_21, ?_⟩
  refine List.forall_mem_cons.mpr ⟨lfact_22, ?_⟩
  refine List.forall_mem_cons.mpr ⟨lfact_23, ?_⟩
  refine List.forall_mem_cons.mpr ⟨lfact_24, ?_⟩
  refine List.forall_mem_cons.mpr ⟨lfact_25, ?_⟩
  refine List.forall_mem_cons.mpr ⟨lfact_26, ?_⟩
  refine List.forall_mem_cons.mpr ⟨lfact_27, ?_⟩
  refine List.forall_mem_cons.mpr ⟨lfact_28, ?_⟩
  refine List.forall_mem_cons.mpr ⟨lfact_29, ?_⟩
  refine List.forall_mem_cons.mpr ⟨lfact_30, ?_⟩
  refine List.forall_mem_cons.mpr ⟨lfact_31, ?_⟩
  refine List.forall_mem_cons.mpr ⟨lfact_32, ?_⟩
  refine List.forall_mem_cons.mpr ⟨lfact_33, ?_⟩
  refine List.forall_mem_cons.mpr ⟨lfact_34, ?_⟩
  refine List.forall_mem_cons.mpr ⟨lfact_35, ?_⟩
  refine List.forall_mem_cons.mpr ⟨lfact_36, ?_⟩
  refine List.forall_mem_cons.mpr ⟨lfact_37, ?_⟩
  refine List.forall_mem_cons.mpr ⟨lfact_38, ?_⟩
  refine List.forall_mem_cons.mpr ⟨lfact_39, ?_⟩
  refine List.forall_mem_cons.mpr ⟨lfact_40, ?_⟩
  refine List.forall_mem_cons.mpr ⟨lfact_41, ?_⟩
  refine List.forall_mem_cons.mpr ⟨lfact_42, ?_⟩
  refine List.forall_mem_cons.mpr ⟨lfact_43, ?_⟩
  refine List.forall_mem_cons.mpr ⟨lfact_44, ?_⟩
  refine List.forall_mem_cons.mpr ⟨lfact_45, ?_⟩
  refine List.forall_mem_cons.mpr ⟨lfact_46, ?_⟩
  refine List.forall_mem_cons.mpr ⟨lfact_47, ?_⟩
  refine List.forall_mem_cons.mpr ⟨lfact_48, ?_⟩
  refine List.forall_mem_cons.mpr ⟨lfact_49, ?_⟩
  refine List.forall_mem_cons.mpr ⟨lfact_50, ?_⟩
  refine List.forall_mem_cons.mpr ⟨lfact_51, ?_⟩
  refine List.forall_mem_cons.mpr ⟨lfact_52, ?_⟩
  refine List.forall_mem_cons.mpr ⟨lfact_53, ?_⟩
  refine List.forall_mem_cons.mpr ⟨lfact_54, ?_⟩
  refine List.forall_mem_cons.mpr ⟨lfact_55, ?_⟩
  refine List.forall_mem_cons.mpr ⟨lfact_56, ?_⟩
  refine List.forall_mem_cons.mpr ⟨lfact_57, ?_⟩
  refine List.forall_mem_cons.mpr ⟨lfact_58, ?_⟩
  refine List.forall_mem_cons.mpr ⟨lfact_59, ?_⟩
  refine List.forall_mem_cons.mpr ⟨lfact_60, ?_⟩
  refine List.forall_mem_cons.mpr ⟨lfact_61, ?_⟩
  refine List.forall_mem_cons.mpr ⟨lfact_62, ?_⟩
  refine List.forall_mem_cons.mpr ⟨lfact_63, ?_⟩
  refine List.forall_mem_cons.mpr ⟨lfact_64, ?_⟩
  refine List.forall_mem_cons.mpr ⟨lfact_65, ?_⟩
  refine List.forall_mem_cons.mpr ⟨lfact_66, ?_⟩
  refine List.forall_mem_cons.mpr ⟨lfact_67, ?_⟩
  refine List.forall_mem_cons.mpr ⟨lfact_68, ?_⟩
  refine List.forall_mem_cons.mpr ⟨lfact_69, ?_⟩
  refine List.forall_mem_cons.mpr ⟨lfact_70, ?_⟩
  refine List.forall_mem_cons.mpr ⟨lfact_71, ?_⟩
  refine List.forall_mem_cons.mpr ⟨lfact_72, ?_⟩
  refine List.forall_mem_cons.mpr ⟨lfact_73, ?_⟩
  refine List.forall_mem_cons.mpr ⟨lfact_74, ?_⟩
  refine List.forall_mem_cons.mpr ⟨lfact_75, ?_⟩
  refine List.forall_mem_cons.mpr ⟨lfact_76, ?_⟩
  refine List.forall_mem_cons.mpr ⟨lfact_77, ?_⟩
  refine List.forall_mem_cons.mpr ⟨lfact_78, ?_⟩
  refine List.forall_mem_cons.mpr ⟨lfact_79, ?_⟩
  refine List.forall_mem_cons.mpr ⟨lfact_80, ?_⟩
  refine List.forall_mem_cons.mpr ⟨lfact_81, ?_⟩
  refine List.forall_mem_cons.mpr ⟨lfact_82, ?_⟩
  refine List.forall_mem_cons.mpr ⟨lfact_83, ?_⟩
  refine List.forall_mem_cons.mpr ⟨lfact_84, ?_⟩
  refine List.forall_mem_cons.mpr ⟨lfact_85, ?_⟩
  refine List.forall_mem_cons.mpr ⟨lfact_86, ?_⟩
  refine List.forall_mem_cons.mpr ⟨lfact_87, ?_⟩
  refine List.forall_mem_cons.mpr ⟨lfact_88, ?_⟩
  refine List.forall_mem_cons.mpr ⟨lfact_89, ?_⟩
  refine List.forall_mem_cons.mpr ⟨lfact_90, ?_⟩
  refine List.forall_mem_cons.mpr ⟨lfact_91, ?_⟩
  refine List.forall_mem_cons.mpr ⟨lfact_92, ?_⟩
  refine List.forall_mem_cons.mpr ⟨lfact_93, ?_⟩
  refine List.forall_mem_cons.mpr ⟨lfact_94, ?_⟩
  refine List.forall_mem_cons.mpr ⟨lfact_95, ?_⟩
  refine List.forall_mem_cons.mpr ⟨lfact_96, ?_⟩
  refine List.forall_mem_cons.mpr ⟨lfact_97, ?_⟩
  refine List.forall_mem_cons.mpr ⟨lfact_98, ?_⟩
  refine List.forall_mem_cons.mpr ⟨lfact_99, ?_⟩
  refine List.forall_mem_cons.mpr ⟨lfact_100, ?_⟩
  refine List.forall_mem_cons.mpr ⟨lfact_101, ?_⟩
  refine List.forall_mem_cons.mpr ⟨lfact_102, ?_⟩
  refine List.forall_mem_cons.mpr ⟨lfact_103, ?_⟩
  refine List.forall_mem_cons.mpr ⟨lfact_104, ?_⟩
  refine List.forall_mem_cons.mpr ⟨lfact_105, ?_⟩
  refine List.forall_mem_cons.mpr ⟨lfact_106, ?_⟩
  refine List.forall_mem_cons.mpr ⟨lfact_107, ?_⟩
  refine List.forall_mem_cons.mpr ⟨lfact_108, ?_⟩
  refine List.forall_mem_cons.mpr ⟨lfact_109, ?_⟩
  refine List.forall_mem_cons.mpr ⟨lfact_110, ?_⟩
  refine List.forall_mem_cons.mpr ⟨lfact_111, ?_⟩
  refine List.forall_mem_cons.mpr ⟨lfact_112, ?_⟩
  refine List.forall_mem_cons.mpr ⟨lfact_113, ?_⟩
  refine List.forall_mem_cons.mpr ⟨lfact_114, ?_⟩
  refine List.forall_mem_cons.mpr ⟨lfact_115, ?_⟩
  refine List.forall_mem_cons.mpr ⟨lfact_116, ?_⟩
  refine List.forall_mem_cons.mpr ⟨lfact_117, ?_⟩
  refine List.forall_mem_cons.mpr ⟨lfact_118, ?_⟩
  refine List.forall_mem_cons.mpr ⟨lfact_119, ?_⟩
  refine List.forall_mem_cons.mpr ⟨lfact_120, ?_⟩
  refine List.forall_mem_cons.mpr ⟨lfact_121, ?_⟩
  refine List.forall_mem_cons.mpr ⟨lfact_122, ?_⟩
  refine List.forall_mem_cons.mpr ⟨lfact_123, ?_⟩
  refine List.forall_mem_cons.mpr ⟨lfact_124, ?_⟩
  refine List.forall_mem_cons.mpr ⟨lfact_125, ?_⟩
  refine List.forall_mem_cons.mpr ⟨lfact_126, ?_⟩
  refine List.forall_mem_cons.mpr ⟨lfact_127, ?_⟩
  refine List.forall_mem_cons.mpr ⟨lfact_128, ?_⟩
  refine List.forall_mem_cons.mpr ⟨lfact_129, ?_⟩
  refine List.forall_mem_cons.mpr ⟨lfact_130, ?_⟩
  refine List.forall_mem_cons.mpr ⟨lfact_131, ?_⟩
  refine List.forall_mem_cons.mpr ⟨lfact_132, ?_⟩
  refine List.forall_mem_cons.mpr ⟨lfact_133, ?_⟩
  refine List.forall_mem_cons.mpr ⟨lfact_134, ?_⟩
  refine List.forall_mem_cons.mpr ⟨lfact_135, ?_⟩
  refine List.forall_mem_cons.mpr ⟨lfact_136, ?_⟩
  refine List.forall_mem_cons.mpr ⟨lfact_137, ?_⟩
  refine List.forall_mem_cons.mpr ⟨lfact_138, ?_⟩
  refine List.forall_mem_cons.mpr ⟨lfact_139, ?_⟩
  refine List.forall_mem_cons.mpr ⟨lfact_140, ?_⟩
  refine List.forall_mem_cons.mpr ⟨lfact_141, ?_⟩
  refine List.forall_mem_cons.mpr ⟨lfact_142, ?_⟩
  refine List.forall_mem_cons.mpr ⟨lfact_143, ?_⟩
  refine List.forall_mem_cons.mpr ⟨lfact_144, ?_⟩
  refine List.forall_mem_cons.mpr ⟨lfact_145, ?_⟩
  refine List.forall_mem_cons.mpr ⟨lfact_146, ?_⟩
  refine List.forall_mem_cons.mpr ⟨lfact_147, ?_⟩
  refine List.forall_mem_cons.mpr ⟨lfact_148, ?_⟩
  refine List.forall_mem_cons.mpr ⟨lfact_149, ?_⟩
  refine List.forall_mem_cons.mpr ⟨lfact_150, ?_⟩
  refine List.forall_mem_cons.mpr ⟨lfact_151, ?_⟩
  refine List.forall_mem_cons.mpr ⟨lfact_152, ?_⟩
  refine List.forall_mem_cons.mpr ⟨lfact_153, ?_⟩
  refine List.forall_mem_cons.mpr ⟨lfact_154, ?_⟩
  refine List.forall_mem_cons.mpr ⟨lfact_155, ?_⟩
  refine List.forall_mem_cons.mpr ⟨lfact_156, ?_⟩
  refine List.forall_mem_cons.mpr ⟨lfact_157, ?_⟩
  refine List.forall_mem_cons.mpr ⟨lfact_158, ?_⟩
  refine List.forall_mem_cons.mpr ⟨lfact_159, ?_⟩
  refine List.forall_mem_cons.mpr ⟨lfact_160, ?_⟩
  refine List.forall_mem_cons.mpr ⟨lfact_161, ?_⟩
  refine List.forall_mem_cons.mpr ⟨lfact_162, ?_⟩
  refine List.forall_mem_cons.mpr ⟨lfact_163, ?_⟩
  refine List.forall_mem_cons.mpr ⟨lfact_164, ?_⟩
  refine List.forall_mem_cons.mpr ⟨lfact_165, ?_⟩
  refine List.forall_mem_cons.mpr ⟨lfact_166, ?_⟩
  refine List.forall_mem_cons.mpr ⟨lfact_167, ?_⟩
  refine List.forall_mem_cons.mpr ⟨lfact_168, ?_⟩
  refine List.forall_mem_cons.mpr ⟨lfact_169, ?_⟩
  refine List.forall_mem_cons.mpr ⟨lfact_170, ?_⟩
  exact fun _ h => absurd h List.not_mem_nil
theorem gw_obj : Cond.instanceMethod objectInit ∈ gw ∧ Cond.code objectInit ⟨#[0xb1]⟩ 1 none ∈ gw := ⟨gw_of 53 (by decide +kernel) (by decide +kernel), gw_of 54 (by decide +kernel) (by decide +kernel)⟩
theorem gw_max : Cond.static Lib.Math.max.name ∈ gw ∧ Cond.initialized "java/lang/Math" ∈ gw ∧ Cond.code Lib.Math.max.name Lib.Math.max.code 2 (some .int) ∈ gw := ⟨gw_of 281 (by decide +kernel) (by decide +kernel), gw_of 45 (by decide +kernel) (by decide +kernel), gw_of 282 (by decide +kernel) (by decide +kernel)⟩
theorem gw_min : Cond.static Lib.Math.min.name ∈ gw ∧ Cond.initialized "java/lang/Math" ∈ gw ∧ Cond.code Lib.Math.min.name Lib.Math.min.code 2 (some .int) ∈ gw := ⟨gw_of 214 (by decide +kernel) (by decide +kernel), gw_of 45 (by decide +kernel) (by decide +kernel), gw_of 215 (by decide +kernel) (by decide +kernel)⟩
theorem gw_abs : Cond.static Lib.Math.abs.name ∈ gw ∧ Cond.initialized "java/lang/Math" ∈ gw ∧ Cond.code Lib.Math.abs.name Lib.Math.abs.code 1 (some .int) ∈ gw := ⟨gw_of 420 (by decide +kernel) (by decide +kernel), gw_of 45 (by decide +kernel) (by decide +kernel), gw_of 421 (by decide +kernel) (by decide +kernel)⟩
def clk : List ((Nat × Nat) × Int) := [((2, 158), 1000000), ((2, 207), 65537), ((0, 118), 1000000), ((3, 127), 1000000), ((3, 163), 65537), ((5, 265), 1431655765), ((5, 266), 858993459), ((5, 267), 252645135)]
theorem cfacts : ∀ q ∈ clk, Cond.constant (oS q.1.1) q.1.2 (Int32.ofInt q.2) ∈ gw ∧ (Int32.ofInt q.2).toInt = q.2 := by
  unfold clk
  refine List.forall_mem_cons.mpr ⟨⟨gw_of 410 (by decide +kernel) (by decide +kernel), by decide +kernel⟩, ?_⟩
  refine List.forall_mem_cons.mpr ⟨⟨gw_of 507 (by decide +kernel) (by decide +kernel), by decide +kernel⟩, ?_⟩
  refine List.forall_mem_cons.mpr ⟨⟨gw_of 310 (by decide +kernel) (by decide +kernel), by decide +kernel⟩, ?_⟩
  refine List.forall_mem_cons.mpr ⟨⟨gw_of 726 (by decide +kernel) (by decide +kernel), by decide +kernel⟩, ?_⟩
  refine List.forall_mem_cons.mpr ⟨⟨gw_of 814 (by decide +kernel) (by decide +kernel), by decide +kernel⟩, ?_⟩
  refine List.forall_mem_cons.mpr ⟨⟨gw_of 368 (by decide +kernel) (by decide +kernel), by decide +kernel⟩, ?_⟩
  refine List.forall_mem_cons.mpr ⟨⟨gw_of 369 (by decide +kernel) (by decide +kernel), by decide +kernel⟩, ?_⟩
  refine List.forall_mem_cons.mpr ⟨⟨gw_of 370 (by decide +kernel) (by decide +kernel), by decide +kernel⟩, ?_⟩
  exact fun _ h => absurd h List.not_mem_nil
def cll : List ((Nat × Nat) × Int) := [((2, 188), -1000000000000000001), ((2, 190), -1000000000000000002), ((2, 200), 2), ((2, 202), 5), ((3, 157), -1000000000000000001), ((3, 159), -1000000000000000002), ((3, 161), 10)]
theorem clfacts : ∀ q ∈ cll, Cond.constantLong (oS q.1.1) q.1.2 (Int64.ofInt q.2) ∈ gw ∧ (Int64.ofInt q.2).toInt = q.2 := by
  unfold cll
  refine List.forall_mem_cons.mpr ⟨⟨gw_of 491 (by decide +kernel) (by decide +kernel), by decide +kernel⟩, ?_⟩
  refine List.forall_mem_cons.mpr ⟨⟨gw_of 492 (by decide +kernel) (by decide +kernel), by decide +kernel⟩, ?_⟩
  refine List.forall_mem_cons.mpr ⟨⟨gw_of 501 (by decide +kernel) (by decide +kernel), by decide +kernel⟩, ?_⟩
  refine List.forall_mem_cons.mpr ⟨⟨gw_of 502 (by decide +kernel) (by decide +kernel), by decide +kernel⟩, ?_⟩
  refine List.forall_mem_cons.mpr ⟨⟨gw_of 807 (by decide +kernel) (by decide +kernel), by decide +kernel⟩, ?_⟩
  refine List.forall_mem_cons.mpr ⟨⟨gw_of 808 (by decide +kernel) (by decide +kernel), by decide +kernel⟩, ?_⟩
  refine List.forall_mem_cons.mpr ⟨⟨gw_of 809 (by decide +kernel) (by decide +kernel), by decide +kernel⟩, ?_⟩
  exact fun _ h => absurd h List.not_mem_nil
def nlk : List ((Nat × Nat) × Nat) := [((2, 7), 0), ((2, 19), 1), ((4, 7), 2), ((4, 10), 3)]
theorem nfacts : ∀ q ∈ nlk, q.2 < 4 ∧ Cond.classLink (oS q.1.1) q.1.2 (cR q.2) ∈ gw ∧ Cond.instantiable (cR q.2) (cN q.2) ∈ gw ∧ Cond.initialized (cR q.2) ∈ gw := by
  unfold nlk
  refine List.forall_mem_cons.mpr ⟨⟨by decide, gw_of 55 (by decide +kernel) (by decide +kernel), gw_of 56 (by decide +kernel) (by decide +kernel), gw_of 42 (by decide +kernel) (by decide +kernel)⟩, ?_⟩
  refine List.forall_mem_cons.mpr ⟨⟨by decide, gw_of 120 (by decide +kernel) (by decide +kernel), gw_of 121 (by decide +kernel) (by decide +kernel), gw_of 43 (by decide +kernel) (by decide +kernel)⟩, ?_⟩
  refine List.forall_mem_cons.mpr ⟨⟨by decide, gw_of 47 (by decide +kernel) (by decide +kernel), gw_of 48 (by decide +kernel) (by decide +kernel), gw_of 41 (by decide +kernel) (by decide +kernel)⟩, ?_⟩
  refine List.forall_mem_cons.mpr ⟨⟨by decide, gw_of 534 (by decide +kernel) (by decide +kernel), gw_of 535 (by decide +kernel) (by decide +kernel), gw_of 44 (by decide +kernel) (by decide +kernel)⟩, ?_⟩
  exact fun _ h => absurd h List.not_mem_nil
theorem gw_arr : Cond.arrayClass .int ∈ gw ∧ Cond.arrayClass .boolean ∈ gw := ⟨gw_of 119 (by decide +kernel) (by decide +kernel), gw_of 605 (by decide +kernel) (by decide +kernel)⟩
theorem tbl_over : Cond.arrayOver (.object RX0) ∈ lw_tbl := List.mem_of_getElem? (i := 151) (by decide +kernel)
theorem tbl_nst : ∀ w ∈ nst, w ∈ lw_tbl := by
  unfold nst
  refine List.forall_mem_cons.mpr ⟨List.mem_of_getElem? (i := 122) (by decide +kernel), ?_⟩
  refine List.forall_mem_cons.mpr ⟨List.mem_of_getElem? (i := 65) (by decide +kernel), ?_⟩
  refine List.forall_mem_cons.mpr ⟨List.mem_of_getElem? (i := 269) (by decide +kernel), ?_⟩
  refine List.forall_mem_cons.mpr ⟨List.mem_of_getElem? (i := 194) (by decide +kernel), ?_⟩
  refine List.forall_mem_cons.mpr ⟨List.mem_of_getElem? (i := 204) (by decide +kernel), ?_⟩
  refine List.forall_mem_cons.mpr ⟨List.mem_of_getElem? (i := 248) (by decide +kernel), ?_⟩
  refine List.forall_mem_cons.mpr ⟨List.mem_of_getElem? (i := 249) (by decide +kernel), ?_⟩
  refine List.forall_mem_cons.mpr ⟨List.mem_of_getElem? (i := 256) (by decide +kernel), ?_⟩
  exact fun _ h => absurd h List.not_mem_nil
