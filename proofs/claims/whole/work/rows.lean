section
-- ===== PART A: goes FIRST, ahead of the names: the tables' words, and 'selects' of the private methods out of them =====
/-- a private method of a class that the tables say can be made, by its rows of tables_1 -/
def lw_okq (q : MethodName × Nat) : Prop := (q.1.cls ≠ "java/lang/invoke/MethodHandle" ∧ q.1.cls ≠ "java/lang/invoke/VarHandle") ∧ Cond.instantiable q.1.cls q.2 ∈ tables_1 ∧ Cond.privateMethod q.1 ∈ tables_1 ∧ Cond.instanceMethod q.1 ∈ tables_1
theorem lw_p0 : lw_okq (⟨"FogCuts$Bank", "warm", "()V"⟩, 13) := ⟨⟨by decide +kernel, by decide +kernel⟩, List.mem_of_getElem? (i := 16) (by decide +kernel), List.mem_of_getElem? (i := 166) (by decide +kernel), List.mem_of_getElem? (i := 167) (by decide +kernel)⟩
theorem lw_p1 : lw_okq (⟨"FogCuts$Bank", "blow", "(II)V"⟩, 13) := ⟨⟨by decide +kernel, by decide +kernel⟩, List.mem_of_getElem? (i := 16) (by decide +kernel), List.mem_of_getElem? (i := 250) (by decide +kernel), List.mem_of_getElem? (i := 251) (by decide +kernel)⟩
theorem lw_p2 : lw_okq (⟨"FogCuts$Bank", "actsAt", "(II)I"⟩, 13) := ⟨⟨by decide +kernel, by decide +kernel⟩, List.mem_of_getElem? (i := 16) (by decide +kernel), List.mem_of_getElem? (i := 267) (by decide +kernel), List.mem_of_getElem? (i := 268) (by decide +kernel)⟩
theorem lw_p3 : lw_okq (⟨"FogCuts", "canBeDone", "(I)Z"⟩, 7) := ⟨⟨by decide +kernel, by decide +kernel⟩, List.mem_of_getElem? (i := 8) (by decide +kernel), List.mem_of_getElem? (i := 276) (by decide +kernel), List.mem_of_getElem? (i := 277) (by decide +kernel)⟩
theorem lw_p4 : lw_okq (⟨"FogCuts", "isShape", "(I)Z"⟩, 7) := ⟨⟨by decide +kernel, by decide +kernel⟩, List.mem_of_getElem? (i := 8) (by decide +kernel), List.mem_of_getElem? (i := 293) (by decide +kernel), List.mem_of_getElem? (i := 294) (by decide +kernel)⟩
theorem lw_p5 : lw_okq (⟨"FogCuts", "fewestCuts", "(I)I"⟩, 7) := ⟨⟨by decide +kernel, by decide +kernel⟩, List.mem_of_getElem? (i := 8) (by decide +kernel), List.mem_of_getElem? (i := 320) (by decide +kernel), List.mem_of_getElem? (i := 321) (by decide +kernel)⟩
theorem lw_p6 : lw_okq (⟨"FogCuts", "standsByCuts", "(III)Z"⟩, 7) := ⟨⟨by decide +kernel, by decide +kernel⟩, List.mem_of_getElem? (i := 8) (by decide +kernel), List.mem_of_getElem? (i := 332) (by decide +kernel), List.mem_of_getElem? (i := 333) (by decide +kernel)⟩
theorem lw_p7 : lw_okq (⟨"FogCuts", "pickedBits", "(II)I"⟩, 7) := ⟨⟨by decide +kernel, by decide +kernel⟩, List.mem_of_getElem? (i := 8) (by decide +kernel), List.mem_of_getElem? (i := 340) (by decide +kernel), List.mem_of_getElem? (i := 341) (by decide +kernel)⟩
theorem lw_p8 : lw_okq (⟨"FogCuts", "fewestLamps", "(I)I"⟩, 7) := ⟨⟨by decide +kernel, by decide +kernel⟩, List.mem_of_getElem? (i := 8) (by decide +kernel), List.mem_of_getElem? (i := 355) (by decide +kernel), List.mem_of_getElem? (i := 356) (by decide +kernel)⟩
theorem lw_p9 : lw_okq (⟨"FogCuts", "standsWithout", "(II)Z"⟩, 7) := ⟨⟨by decide +kernel, by decide +kernel⟩, List.mem_of_getElem? (i := 8) (by decide +kernel), List.mem_of_getElem? (i := 359) (by decide +kernel), List.mem_of_getElem? (i := 360) (by decide +kernel)⟩
theorem lw_p10 : lw_okq (⟨"FogCuts", "weighWays", "(I)V"⟩, 7) := ⟨⟨by decide +kernel, by decide +kernel⟩, List.mem_of_getElem? (i := 8) (by decide +kernel), List.mem_of_getElem? (i := 387) (by decide +kernel), List.mem_of_getElem? (i := 388) (by decide +kernel)⟩
theorem lw_p11 : lw_okq (⟨"FogCuts", "spoiltIn", "(I)I"⟩, 7) := ⟨⟨by decide +kernel, by decide +kernel⟩, List.mem_of_getElem? (i := 8) (by decide +kernel), List.mem_of_getElem? (i := 391) (by decide +kernel), List.mem_of_getElem? (i := 392) (by decide +kernel)⟩
theorem lw_p12 : lw_okq (⟨"FogCuts", "firstStep", "(II)I"⟩, 7) := ⟨⟨by decide +kernel, by decide +kernel⟩, List.mem_of_getElem? (i := 8) (by decide +kernel), List.mem_of_getElem? (i := 404) (by decide +kernel), List.mem_of_getElem? (i := 405) (by decide +kernel)⟩
theorem lw_p13 : lw_okq (⟨"FogCuts", "isSet", "(I)Z"⟩, 7) := ⟨⟨by decide +kernel, by decide +kernel⟩, List.mem_of_getElem? (i := 8) (by decide +kernel), List.mem_of_getElem? (i := 412) (by decide +kernel), List.mem_of_getElem? (i := 413) (by decide +kernel)⟩
theorem lw_p14 : lw_okq (⟨"FogCuts", "nimSum", "(I)I"⟩, 7) := ⟨⟨by decide +kernel, by decide +kernel⟩, List.mem_of_getElem? (i := 8) (by decide +kernel), List.mem_of_getElem? (i := 416) (by decide +kernel), List.mem_of_getElem? (i := 417) (by decide +kernel)⟩
theorem lw_p15 : lw_okq (⟨"FogCuts", "findFitting", "()I"⟩, 7) := ⟨⟨by decide +kernel, by decide +kernel⟩, List.mem_of_getElem? (i := 8) (by decide +kernel), List.mem_of_getElem? (i := 436) (by decide +kernel), List.mem_of_getElem? (i := 437) (by decide +kernel)⟩
def lw_privs_1 : List (MethodName × Nat) := [(⟨"FogCuts$Bank", "warm", "()V"⟩, 13), (⟨"FogCuts$Bank", "blow", "(II)V"⟩, 13), (⟨"FogCuts$Bank", "actsAt", "(II)I"⟩, 13), (⟨"FogCuts", "canBeDone", "(I)Z"⟩, 7), (⟨"FogCuts", "isShape", "(I)Z"⟩, 7), (⟨"FogCuts", "fewestCuts", "(I)I"⟩, 7), (⟨"FogCuts", "standsByCuts", "(III)Z"⟩, 7), (⟨"FogCuts", "pickedBits", "(II)I"⟩, 7), (⟨"FogCuts", "fewestLamps", "(I)I"⟩, 7), (⟨"FogCuts", "standsWithout", "(II)Z"⟩, 7), (⟨"FogCuts", "weighWays", "(I)V"⟩, 7), (⟨"FogCuts", "spoiltIn", "(I)I"⟩, 7), (⟨"FogCuts", "firstStep", "(II)I"⟩, 7), (⟨"FogCuts", "isSet", "(I)Z"⟩, 7), (⟨"FogCuts", "nimSum", "(I)I"⟩, 7), (⟨"FogCuts", "findFitting", "()I"⟩, 7)]
theorem lw_r1 : ∀ q ∈ lw_privs_1, lw_okq q := List.forall_mem_cons.mpr ⟨lw_p0, List.forall_mem_cons.mpr ⟨lw_p1, List.forall_mem_cons.mpr ⟨lw_p2, List.forall_mem_cons.mpr ⟨lw_p3, List.forall_mem_cons.mpr ⟨lw_p4, List.forall_mem_cons.mpr ⟨lw_p5, List.forall_mem_cons.mpr ⟨lw_p6, List.forall_mem_cons.mpr ⟨lw_p7, List.forall_mem_cons.mpr ⟨lw_p8, List.forall_mem_cons.mpr ⟨lw_p9, List.forall_mem_cons.mpr ⟨lw_p10, List.forall_mem_cons.mpr ⟨lw_p11, List.forall_mem_cons.mpr ⟨lw_p12, List.forall_mem_cons.mpr ⟨lw_p13, List.forall_mem_cons.mpr ⟨lw_p14, List.forall_mem_cons.mpr ⟨lw_p15, fun _ h => absurd h List.not_mem_nil⟩⟩⟩⟩⟩⟩⟩⟩⟩⟩⟩⟩⟩⟩⟩⟩
theorem lw_p16 : lw_okq (⟨"FogCuts", "tenthsThatStand", "(III)J"⟩, 7) := ⟨⟨by decide +kernel, by decide +kernel⟩, List.mem_of_getElem? (i := 8) (by decide +kernel), List.mem_of_getElem? (i := 454) (by decide +kernel), List.mem_of_getElem? (i := 455) (by decide +kernel)⟩
theorem lw_p17 : lw_okq (⟨"FogCutsModel", "clear", "()V"⟩, 20) := ⟨⟨by decide +kernel, by decide +kernel⟩, List.mem_of_getElem? (i := 495) (by decide +kernel), List.mem_of_getElem? (i := 501) (by decide +kernel), List.mem_of_getElem? (i := 502) (by decide +kernel)⟩
theorem lw_p18 : lw_okq (⟨"FogCutsModel", "isCell", "(I)Z"⟩, 20) := ⟨⟨by decide +kernel, by decide +kernel⟩, List.mem_of_getElem? (i := 495) (by decide +kernel), List.mem_of_getElem? (i := 578) (by decide +kernel), List.mem_of_getElem? (i := 579) (by decide +kernel)⟩
theorem lw_p19 : lw_okq (⟨"FogCutsModel", "cells", "()I"⟩, 20) := ⟨⟨by decide +kernel, by decide +kernel⟩, List.mem_of_getElem? (i := 495) (by decide +kernel), List.mem_of_getElem? (i := 582) (by decide +kernel), List.mem_of_getElem? (i := 583) (by decide +kernel)⟩
theorem lw_p20 : lw_okq (⟨"FogCutsModel", "wanted", "(I)I"⟩, 20) := ⟨⟨by decide +kernel, by decide +kernel⟩, List.mem_of_getElem? (i := 495) (by decide +kernel), List.mem_of_getElem? (i := 594) (by decide +kernel), List.mem_of_getElem? (i := 595) (by decide +kernel)⟩
theorem lw_p21 : lw_okq (⟨"FogCutsModel", "faultOf", "()I"⟩, 20) := ⟨⟨by decide +kernel, by decide +kernel⟩, List.mem_of_getElem? (i := 495) (by decide +kernel), List.mem_of_getElem? (i := 613) (by decide +kernel), List.mem_of_getElem? (i := 614) (by decide +kernel)⟩
theorem lw_p22 : lw_okq (⟨"FogCutsModel", "goNight", "(I)I"⟩, 20) := ⟨⟨by decide +kernel, by decide +kernel⟩, List.mem_of_getElem? (i := 495) (by decide +kernel), List.mem_of_getElem? (i := 624) (by decide +kernel), List.mem_of_getElem? (i := 625) (by decide +kernel)⟩
theorem lw_p23 : lw_okq (⟨"FogCutsModel", "asNow", "()V"⟩, 20) := ⟨⟨by decide +kernel, by decide +kernel⟩, List.mem_of_getElem? (i := 495) (by decide +kernel), List.mem_of_getElem? (i := 628) (by decide +kernel), List.mem_of_getElem? (i := 629) (by decide +kernel)⟩
theorem lw_p24 : lw_okq (⟨"FogCutsModel", "pass", "(I)V"⟩, 20) := ⟨⟨by decide +kernel, by decide +kernel⟩, List.mem_of_getElem? (i := 495) (by decide +kernel), List.mem_of_getElem? (i := 632) (by decide +kernel), List.mem_of_getElem? (i := 633) (by decide +kernel)⟩
theorem lw_p25 : lw_okq (⟨"FogCutsModel", "beside", "(II)I"⟩, 20) := ⟨⟨by decide +kernel, by decide +kernel⟩, List.mem_of_getElem? (i := 495) (by decide +kernel), List.mem_of_getElem? (i := 639) (by decide +kernel), List.mem_of_getElem? (i := 640) (by decide +kernel)⟩
theorem lw_p26 : lw_okq (⟨"FogCutsModel", "standsNow", "(I)Z"⟩, 20) := ⟨⟨by decide +kernel, by decide +kernel⟩, List.mem_of_getElem? (i := 495) (by decide +kernel), List.mem_of_getElem? (i := 643) (by decide +kernel), List.mem_of_getElem? (i := 644) (by decide +kernel)⟩
theorem lw_p27 : lw_okq (⟨"FogCutsModel", "barOfNight", "(I)I"⟩, 20) := ⟨⟨by decide +kernel, by decide +kernel⟩, List.mem_of_getElem? (i := 495) (by decide +kernel), List.mem_of_getElem? (i := 651) (by decide +kernel), List.mem_of_getElem? (i := 652) (by decide +kernel)⟩
theorem lw_p28 : lw_okq (⟨"FogCutsModel", "isShape", "(I)Z"⟩, 20) := ⟨⟨by decide +kernel, by decide +kernel⟩, List.mem_of_getElem? (i := 495) (by decide +kernel), List.mem_of_getElem? (i := 667) (by decide +kernel), List.mem_of_getElem? (i := 668) (by decide +kernel)⟩
theorem lw_p29 : lw_okq (⟨"FogCutsModel", "actsFor", "(III)I"⟩, 20) := ⟨⟨by decide +kernel, by decide +kernel⟩, List.mem_of_getElem? (i := 495) (by decide +kernel), List.mem_of_getElem? (i := 683) (by decide +kernel), List.mem_of_getElem? (i := 684) (by decide +kernel)⟩
theorem lw_p30 : lw_okq (⟨"FogCutsModel", "areHours", "()Z"⟩, 20) := ⟨⟨by decide +kernel, by decide +kernel⟩, List.mem_of_getElem? (i := 495) (by decide +kernel), List.mem_of_getElem? (i := 692) (by decide +kernel), List.mem_of_getElem? (i := 693) (by decide +kernel)⟩
theorem lw_p31 : lw_okq (⟨"FogCutsModel", "goHours", "()V"⟩, 20) := ⟨⟨by decide +kernel, by decide +kernel⟩, List.mem_of_getElem? (i := 495) (by decide +kernel), List.mem_of_getElem? (i := 696) (by decide +kernel), List.mem_of_getElem? (i := 697) (by decide +kernel)⟩
def lw_privs_2 : List (MethodName × Nat) := [(⟨"FogCuts", "tenthsThatStand", "(III)J"⟩, 7), (⟨"FogCutsModel", "clear", "()V"⟩, 20), (⟨"FogCutsModel", "isCell", "(I)Z"⟩, 20), (⟨"FogCutsModel", "cells", "()I"⟩, 20), (⟨"FogCutsModel", "wanted", "(I)I"⟩, 20), (⟨"FogCutsModel", "faultOf", "()I"⟩, 20), (⟨"FogCutsModel", "goNight", "(I)I"⟩, 20), (⟨"FogCutsModel", "asNow", "()V"⟩, 20), (⟨"FogCutsModel", "pass", "(I)V"⟩, 20), (⟨"FogCutsModel", "beside", "(II)I"⟩, 20), (⟨"FogCutsModel", "standsNow", "(I)Z"⟩, 20), (⟨"FogCutsModel", "barOfNight", "(I)I"⟩, 20), (⟨"FogCutsModel", "isShape", "(I)Z"⟩, 20), (⟨"FogCutsModel", "actsFor", "(III)I"⟩, 20), (⟨"FogCutsModel", "areHours", "()Z"⟩, 20), (⟨"FogCutsModel", "goHours", "()V"⟩, 20)]
theorem lw_r2 : ∀ q ∈ lw_privs_2, lw_okq q := List.forall_mem_cons.mpr ⟨lw_p16, List.forall_mem_cons.mpr ⟨lw_p17, List.forall_mem_cons.mpr ⟨lw_p18, List.forall_mem_cons.mpr ⟨lw_p19, List.forall_mem_cons.mpr ⟨lw_p20, List.forall_mem_cons.mpr ⟨lw_p21, List.forall_mem_cons.mpr ⟨lw_p22, List.forall_mem_cons.mpr ⟨lw_p23, List.forall_mem_cons.mpr ⟨lw_p24, List.forall_mem_cons.mpr ⟨lw_p25, List.forall_mem_cons.mpr ⟨lw_p26, List.forall_mem_cons.mpr ⟨lw_p27, List.forall_mem_cons.mpr ⟨lw_p28, List.forall_mem_cons.mpr ⟨lw_p29, List.forall_mem_cons.mpr ⟨lw_p30, List.forall_mem_cons.mpr ⟨lw_p31, fun _ h => absurd h List.not_mem_nil⟩⟩⟩⟩⟩⟩⟩⟩⟩⟩⟩⟩⟩⟩⟩⟩
theorem lw_p32 : lw_okq (⟨"FogCutsModel", "areApart", "(II)Z"⟩, 20) := ⟨⟨by decide +kernel, by decide +kernel⟩, List.mem_of_getElem? (i := 495) (by decide +kernel), List.mem_of_getElem? (i := 712) (by decide +kernel), List.mem_of_getElem? (i := 713) (by decide +kernel)⟩
theorem lw_p33 : lw_okq (⟨"FogCutsModel", "layWalk", "(I)V"⟩, 20) := ⟨⟨by decide +kernel, by decide +kernel⟩, List.mem_of_getElem? (i := 495) (by decide +kernel), List.mem_of_getElem? (i := 720) (by decide +kernel), List.mem_of_getElem? (i := 721) (by decide +kernel)⟩
theorem lw_p34 : lw_okq (⟨"FogCutsModel", "anyWants", "(I)I"⟩, 20) := ⟨⟨by decide +kernel, by decide +kernel⟩, List.mem_of_getElem? (i := 495) (by decide +kernel), List.mem_of_getElem? (i := 724) (by decide +kernel), List.mem_of_getElem? (i := 725) (by decide +kernel)⟩
theorem lw_p35 : lw_okq (⟨"FogCutsModel", "areCells", "(I)Z"⟩, 20) := ⟨⟨by decide +kernel, by decide +kernel⟩, List.mem_of_getElem? (i := 495) (by decide +kernel), List.mem_of_getElem? (i := 732) (by decide +kernel), List.mem_of_getElem? (i := 733) (by decide +kernel)⟩
theorem lw_p36 : lw_okq (⟨"FogCutsModel", "over", "(I)I"⟩, 20) := ⟨⟨by decide +kernel, by decide +kernel⟩, List.mem_of_getElem? (i := 495) (by decide +kernel), List.mem_of_getElem? (i := 736) (by decide +kernel), List.mem_of_getElem? (i := 737) (by decide +kernel)⟩
theorem lw_p37 : lw_okq (⟨"FogCutsModel", "wasCut", "(II)Z"⟩, 20) := ⟨⟨by decide +kernel, by decide +kernel⟩, List.mem_of_getElem? (i := 495) (by decide +kernel), List.mem_of_getElem? (i := 756) (by decide +kernel), List.mem_of_getElem? (i := 757) (by decide +kernel)⟩
theorem lw_p38 : lw_okq (⟨"FogCutsModel", "allStand", "()Z"⟩, 20) := ⟨⟨by decide +kernel, by decide +kernel⟩, List.mem_of_getElem? (i := 495) (by decide +kernel), List.mem_of_getElem? (i := 776) (by decide +kernel), List.mem_of_getElem? (i := 777) (by decide +kernel)⟩
theorem lw_p39 : lw_okq (⟨"FogCutsModel", "sumNow", "()I"⟩, 20) := ⟨⟨by decide +kernel, by decide +kernel⟩, List.mem_of_getElem? (i := 495) (by decide +kernel), List.mem_of_getElem? (i := 780) (by decide +kernel), List.mem_of_getElem? (i := 781) (by decide +kernel)⟩
def lw_privs_3 : List (MethodName × Nat) := [(⟨"FogCutsModel", "areApart", "(II)Z"⟩, 20), (⟨"FogCutsModel", "layWalk", "(I)V"⟩, 20), (⟨"FogCutsModel", "anyWants", "(I)I"⟩, 20), (⟨"FogCutsModel", "areCells", "(I)Z"⟩, 20), (⟨"FogCutsModel", "over", "(I)I"⟩, 20), (⟨"FogCutsModel", "wasCut", "(II)Z"⟩, 20), (⟨"FogCutsModel", "allStand", "()Z"⟩, 20), (⟨"FogCutsModel", "sumNow", "()I"⟩, 20)]
theorem lw_r3 : ∀ q ∈ lw_privs_3, lw_okq q := List.forall_mem_cons.mpr ⟨lw_p32, List.forall_mem_cons.mpr ⟨lw_p33, List.forall_mem_cons.mpr ⟨lw_p34, List.forall_mem_cons.mpr ⟨lw_p35, List.forall_mem_cons.mpr ⟨lw_p36, List.forall_mem_cons.mpr ⟨lw_p37, List.forall_mem_cons.mpr ⟨lw_p38, List.forall_mem_cons.mpr ⟨lw_p39, fun _ h => absurd h List.not_mem_nil⟩⟩⟩⟩⟩⟩⟩⟩
def lw_privs : List (MethodName × Nat) := lw_privs_1 ++ (lw_privs_2 ++ (lw_privs_3))
def lw_tbl : List Cond := k2_sels lw_privs ++ tables_1
theorem lw_privs_ok : ∀ q ∈ lw_privs, lw_okq q := by
  show ∀ q ∈ lw_privs_1 ++ (lw_privs_2 ++ (lw_privs_3)), lw_okq q
  exact List.forall_mem_append.mpr ⟨lw_r1, List.forall_mem_append.mpr ⟨lw_r2, lw_r3⟩⟩

def RX0 : String := "FogCuts$Bank"
def TX0 : u_T := fun k => match k with
  | 0 => ("FogCuts$Bank", "rows", "I", false)
  | 1 => ("FogCuts$Bank", "columns", "I", false)
  | 2 => ("FogCuts$Bank", "cells", "I", false)
  | 3 => ("FogCuts$Bank", "feed", "I", false)
  | 4 => ("FogCuts$Bank", "slack", "I", false)
  | 5 => ("FogCuts$Bank", "sights", "I", false)
  | 6 => ("FogCuts$Bank", "thick", "[I", true)
  | 7 => ("FogCuts$Bank", "lamp", "[I", true)
  | 8 => ("FogCuts$Bank", "melt", "[I", true)
  | 9 => ("FogCuts$Bank", "was", "[I", true)
  | 10 => ("FogCuts$Bank", "wanted", "[I", true)
  | 11 => ("FogCuts$Bank", "sightCells", "[I", true)
  | _ => ("FogCuts$Bank", "sightNumbers", "[I", true)
def tyX0 : Nat → FieldType := fun k => match k with
  | 0 => .int
  | 1 => .int
  | 2 => .int
  | 3 => .int
  | 4 => .int
  | 5 => .int
  | 6 => .array .int
  | 7 => .array .int
  | 8 => .array .int
  | 9 => .array .int
  | 10 => .array .int
  | 11 => .array .int
  | _ => .array .int
theorem nmX0 : ∀ a, a < 13 → ∀ b, b < 13 → a ≠ b → (TX0 a).2.1 ≠ (TX0 b).2.1 := by decide +kernel
theorem tyX0_ok : ∀ k, k < 13 → parseFieldDescriptor (TX0 k).2.2.1 = some (tyX0 k) := by decide +kernel
def RX1 : String := "FogCuts$Night"
def TX1 : u_T := fun k => match k with
  | 0 => ("FogCuts$Night", "signs", "[I", true)
  | 1 => ("FogCuts$Night", "count", "I", false)
  | 2 => ("FogCuts$Night", "parts", "I", false)
  | 3 => ("FogCuts$Night", "halted", "I", false)
  | 4 => ("FogCuts$Night", "why", "I", false)
  | _ => ("FogCuts$Night", "fallen", "I", false)
def tyX1 : Nat → FieldType := fun k => match k with
  | 0 => .array .int
  | 1 => .int
  | 2 => .int
  | 3 => .int
  | 4 => .int
  | _ => .int
theorem nmX1 : ∀ a, a < 6 → ∀ b, b < 6 → a ≠ b → (TX1 a).2.1 ≠ (TX1 b).2.1 := by decide +kernel
theorem tyX1_ok : ∀ k, k < 6 → parseFieldDescriptor (TX1 k).2.2.1 = some (tyX1 k) := by decide +kernel
def RX2 : String := "FogCuts"
def TX2 : u_T := fun k => match k with
  | 0 => ("FogCuts", "now", "LFogCuts$Bank;", true)
  | 1 => ("FogCuts", "trial", "LFogCuts$Bank;", true)
  | 2 => ("FogCuts", "night", "LFogCuts$Night;", true)
  | 3 => ("FogCuts", "images", "[LFogCuts$Bank;", true)
  | 4 => ("FogCuts", "picked", "[I", true)
  | 5 => ("FogCuts", "fitting", "[I", true)
  | _ => ("FogCuts", "toGo", "[I", true)
def tyX2 : Nat → FieldType := fun k => match k with
  | 0 => .object "FogCuts$Bank"
  | 1 => .object "FogCuts$Bank"
  | 2 => .object "FogCuts$Night"
  | 3 => .array (.object "FogCuts$Bank")
  | 4 => .array .int
  | 5 => .array .int
  | _ => .array .int
theorem nmX2 : ∀ a, a < 7 → ∀ b, b < 7 → a ≠ b → (TX2 a).2.1 ≠ (TX2 b).2.1 := by decide +kernel
theorem tyX2_ok : ∀ k, k < 7 → parseFieldDescriptor (TX2 k).2.2.1 = some (tyX2 k) := by decide +kernel
def RX3 : String := "FogCutsModel"
def TX3 : u_T := fun k => match k with
  | 0 => ("FogCutsModel", "rows", "I", false)
  | 1 => ("FogCutsModel", "columns", "I", false)
  | 2 => ("FogCutsModel", "thick", "[I", true)
  | 3 => ("FogCutsModel", "lamps", "I", false)
  | 4 => ("FogCutsModel", "feed", "I", false)
  | 5 => ("FogCutsModel", "slack", "I", false)
  | 6 => ("FogCutsModel", "wants", "[I", true)
  | 7 => ("FogCutsModel", "sights", "I", false)
  | 8 => ("FogCutsModel", "sight", "[I", true)
  | 9 => ("FogCutsModel", "signs", "I", false)
  | 10 => ("FogCutsModel", "pad", "[I", true)
  | 11 => ("FogCutsModel", "now", "[I", true)
  | 12 => ("FogCutsModel", "then", "[I", true)
  | 13 => ("FogCutsModel", "lit", "I", false)
  | 14 => ("FogCutsModel", "reason", "I", false)
  | 15 => ("FogCutsModel", "parts", "I", false)
  | 16 => ("FogCutsModel", "lostAt", "I", false)
  | 17 => ("FogCutsModel", "dear", "[I", true)
  | 18 => ("FogCutsModel", "image", "[I", true)
  | _ => ("FogCutsModel", "isKept", "[Z", true)
def tyX3 : Nat → FieldType := fun k => match k with
  | 0 => .int
  | 1 => .int
  | 2 => .array .int
  | 3 => .int
  | 4 => .int
  | 5 => .int
  | 6 => .array .int
  | 7 => .int
  | 8 => .array .int
  | 9 => .int
  | 10 => .array .int
  | 11 => .array .int
  | 12 => .array .int
  | 13 => .int
  | 14 => .int
  | 15 => .int
  | 16 => .int
  | 17 => .array .int
  | 18 => .array .int
  | _ => .array .boolean
theorem nmX3 : ∀ a, a < 20 → ∀ b, b < 20 → a ≠ b → (TX3 a).2.1 ≠ (TX3 b).2.1 := by decide +kernel
theorem tyX3_ok : ∀ k, k < 20 → parseFieldDescriptor (TX3 k).2.2.1 = some (tyX3 k) := by decide +kernel
def gw : List Cond := lw_tbl.filter goodWord
theorem gw_of {w : Cond} (i : Nat) (h : lw_tbl[i]? = some w) (hg : goodWord w = true) : w ∈ gw := List.mem_filter.mpr ⟨List.mem_of_getElem? h, hg⟩
theorem inX0 : ∀ w ∈ u_ws RX0 TX0 13, w ∈ gw := by
  have h : u_ws RX0 TX0 13 = [92, 94, 96, 98, 100, 102, 104, 106, 108, 110, 112, 114, 116].filterMap (fun i => lw_tbl[i]?) := by decide +kernel
  have hg : (u_ws RX0 TX0 13).all goodWord = true := by decide +kernel
  intro w hw
  have h1 := List.all_eq_true.mp hg w hw
  rw [h] at hw
  obtain ⟨i, -, hi⟩ := List.mem_filterMap.mp hw
  exact gw_of i hi h1
theorem inX1 : ∀ w ∈ u_ws RX1 TX1 6, w ∈ gw := by
  have h : u_ws RX1 TX1 6 = [138, 140, 142, 144, 146, 148].filterMap (fun i => lw_tbl[i]?) := by decide +kernel
  have hg : (u_ws RX1 TX1 6).all goodWord = true := by decide +kernel
  intro w hw
  have h1 := List.all_eq_true.mp hg w hw
  rw [h] at hw
  obtain ⟨i, -, hi⟩ := List.mem_filterMap.mp hw
  exact gw_of i hi h1
theorem inX2 : ∀ w ∈ u_ws RX2 TX2 7, w ∈ gw := by
  have h : u_ws RX2 TX2 7 = [159, 161, 163, 165, 167, 169, 171].filterMap (fun i => lw_tbl[i]?) := by decide +kernel
  have hg : (u_ws RX2 TX2 7).all goodWord = true := by decide +kernel
  intro w hw
  have h1 := List.all_eq_true.mp hg w hw
  rw [h] at hw
  obtain ⟨i, -, hi⟩ := List.mem_filterMap.mp hw
  exact gw_of i hi h1
theorem inX3 : ∀ w ∈ u_ws RX3 TX3 20, w ∈ gw := by
  have h : u_ws RX3 TX3 20 = [564, 566, 568, 570, 572, 574, 576, 578, 580, 582, 584, 586, 588, 590, 592, 594, 596, 598, 600, 602].filterMap (fun i => lw_tbl[i]?) := by decide +kernel
  have hg : (u_ws RX3 TX3 20).all goodWord = true := by decide +kernel
  intro w hw
  have h1 := List.all_eq_true.mp hg w hw
  rw [h] at hw
  obtain ⟨i, -, hi⟩ := List.mem_filterMap.mp hw
  exact gw_of i hi h1
def oS : Nat → String := fun k => match k with
  | 0 => "FogCuts$Bank"
  | 1 => "FogCuts$Night"
  | 2 => "FogCuts"
  | 3 => "FogCutsModel"
  | 4 => "FogCutsLaw"
  | 5 => "java/lang/Integer"
  | _ => "java/lang/Math"
def cN : Nat → Nat := fun k => match k with
  | 0 => 13
  | 1 => 6
  | 2 => 7
  | _ => 20
def cR : Nat → String := fun k => match k with
  | 0 => RX0
  | 1 => RX1
  | 2 => RX2
  | _ => RX3
def cT : Nat → u_T := fun k => match k with
  | 0 => TX0
  | 1 => TX1
  | 2 => TX2
  | _ => TX3
def cY : Nat → Nat → FieldType := fun k => match k with
  | 0 => tyX0
  | 1 => tyX1
  | 2 => tyX2
  | _ => tyX3
def vwc : List vw_C := [(RX0, TX0, 13), (RX1, TX1, 6), (RX2, TX2, 7), (RX3, TX3, 20)]
/-- a method: class (place in oS), name, descriptor, bytes, locals, answer (0 none, 1 int, 2 boolean, 3 long), frames and locals that its calls need -/
abbrev MR : Type := Nat × MethodName × ByteArray × Nat × Nat × Nat × Nat
def mt : List MR := [
  (2, ⟨"FogCuts", "<init>", "()V"⟩, prog_1_method_1_code, 1, 0, 3, 64),
  (0, ⟨"FogCuts$Bank", "<init>", "()V"⟩, prog_2_method_1_code, 1, 0, 2, 44),
  (0, ⟨"FogCuts$Bank", "clear", "(II)V"⟩, prog_2_method_2_code, 3, 0, 1, 22),
  (2, ⟨"FogCuts", "fill", "([II)V"⟩, prog_1_method_52_code, 3, 0, 0, 0),
  (1, ⟨"FogCuts$Night", "<init>", "()V"⟩, prog_3_method_1_code, 1, 0, 1, 21),
  (2, ⟨"FogCuts", "bank", "(II)I"⟩, prog_1_method_2_code, 3, 1, 2, 44),
  (2, ⟨"FogCuts", "isWithin", "(III)Z"⟩, prog_1_method_49_code, 3, 2, 0, 0),
  (2, ⟨"FogCuts", "cell", "(III)I"⟩, prog_1_method_3_code, 5, 1, 3, 69),
  (0, ⟨"FogCuts$Bank", "has", "(I)Z"⟩, prog_2_method_5_code, 2, 2, 0, 0),
  (0, ⟨"FogCuts$Bank", "tell", "(II)I"⟩, prog_2_method_10_code, 3, 1, 1, 21),
  (2, ⟨"FogCuts", "at", "([II)I"⟩, prog_1_method_50_code, 2, 1, 0, 0),
  (2, ⟨"FogCuts", "put", "([III)V"⟩, prog_1_method_51_code, 3, 0, 0, 0),
  (0, ⟨"FogCuts$Bank", "light", "(II)V"⟩, prog_2_method_11_code, 3, 0, 2, 47),
  (0, ⟨"FogCuts$Bank", "warm", "()V"⟩, prog_2_method_13_code, 5, 0, 1, 23),
  (0, ⟨"FogCuts$Bank", "cellAt", "(II)I"⟩, prog_2_method_6_code, 4, 1, 0, 0),
  (2, ⟨"FogCuts", "set", "(II)I"⟩, prog_1_method_4_code, 4, 1, 1, 22),
  (2, ⟨"FogCuts", "shape", "(III)I"⟩, prog_1_method_5_code, 4, 1, 3, 66),
  (0, ⟨"FogCuts$Bank", "wishes", "(I)I"⟩, prog_2_method_21_code, 4, 1, 2, 43),
  (0, ⟨"FogCuts$Bank", "wants", "(II)I"⟩, prog_2_method_20_code, 3, 1, 1, 21),
  (2, ⟨"FogCuts", "say", "(I)I"⟩, prog_1_method_6_code, 2, 1, 1, 22),
  (2, ⟨"FogCuts", "wipe", "()I"⟩, prog_1_method_7_code, 2, 1, 0, 0),
  (2, ⟨"FogCuts", "fault", "()I"⟩, prog_1_method_8_code, 1, 1, 3, 65),
  (1, ⟨"FogCuts$Night", "firstFault", "(LFogCuts$Bank;)I"⟩, prog_3_method_2_code, 4, 1, 2, 42),
  (2, ⟨"FogCuts", "hourOf", "(I)I"⟩, prog_1_method_54_code, 1, 1, 0, 0),
  (1, ⟨"FogCuts$Night", "isAct", "(I)Z"⟩, prog_3_method_3_code, 1, 2, 1, 22),
  (2, ⟨"FogCuts", "judge", "(I)I"⟩, prog_1_method_9_code, 2, 1, 5, 120),
  (1, ⟨"FogCuts$Night", "play", "(LFogCuts$Bank;LFogCuts$Bank;I)V"⟩, prog_3_method_6_code, 8, 0, 4, 93),
  (0, ⟨"FogCuts$Bank", "copyAll", "(LFogCuts$Bank;)V"⟩, prog_2_method_3_code, 2, 0, 2, 43),
  (2, ⟨"FogCuts", "copyRow", "([I[I)V"⟩, prog_1_method_53_code, 3, 0, 0, 0),
  (0, ⟨"FogCuts$Bank", "copyFog", "(LFogCuts$Bank;)V"⟩, prog_2_method_4_code, 2, 0, 1, 22),
  (0, ⟨"FogCuts$Bank", "pass", "(I)V"⟩, prog_2_method_14_code, 4, 0, 2, 50),
  (0, ⟨"FogCuts$Bank", "down", "(I)I"⟩, prog_2_method_8_code, 1, 1, 0, 0),
  (0, ⟨"FogCuts$Bank", "on", "(I)I"⟩, prog_2_method_9_code, 1, 1, 0, 0),
  (0, ⟨"FogCuts$Bank", "blow", "(II)V"⟩, prog_2_method_15_code, 8, 0, 1, 23),
  (0, ⟨"FogCuts$Bank", "act", "(II)I"⟩, prog_2_method_16_code, 5, 1, 3, 69),
  (0, ⟨"FogCuts$Bank", "holds", "(I)Z"⟩, prog_2_method_23_code, 2, 2, 3, 71),
  (0, ⟨"FogCuts$Bank", "acts", "(III)I"⟩, prog_2_method_25_code, 8, 1, 2, 44),
  (0, ⟨"FogCuts$Bank", "actsAt", "(II)I"⟩, prog_2_method_26_code, 4, 1, 1, 21),
  (2, ⟨"FogCuts", "done", "()I"⟩, prog_1_method_10_code, 1, 1, 6, 141),
  (2, ⟨"FogCuts", "canBeDone", "(I)Z"⟩, prog_1_method_35_code, 2, 2, 5, 120),
  (2, ⟨"FogCuts", "state", "(II)I"⟩, prog_1_method_11_code, 3, 1, 2, 43),
  (2, ⟨"FogCuts", "behind", "(II)I"⟩, prog_1_method_12_code, 3, 1, 6, 141),
  (2, ⟨"FogCuts", "stands", "(I)I"⟩, prog_1_method_13_code, 2, 1, 4, 92),
  (2, ⟨"FogCuts", "isShape", "(I)Z"⟩, prog_1_method_33_code, 2, 2, 3, 66),
  (2, ⟨"FogCuts", "lost", "(I)I"⟩, prog_1_method_14_code, 2, 1, 6, 141),
  (2, ⟨"FogCuts", "through", "()I"⟩, prog_1_method_15_code, 5, 1, 1, 21),
  (2, ⟨"FogCuts", "carved", "(I)I"⟩, prog_1_method_16_code, 2, 1, 4, 87),
  (2, ⟨"FogCuts", "nowThen", "(II)I"⟩, prog_1_method_17_code, 3, 1, 6, 148),
  (1, ⟨"FogCuts$Night", "isHoursAlone", "()Z"⟩, prog_3_method_4_code, 3, 2, 1, 21),
  (2, ⟨"FogCuts", "fewestCuts", "(I)I"⟩, prog_1_method_37_code, 5, 1, 5, 124),
  (5, ⟨"java/lang/Integer", "bitCount", "(I)I"⟩, prog_6_method_49_code, 1, 1, 0, 0),
  (2, ⟨"FogCuts", "standsByCuts", "(III)Z"⟩, prog_1_method_38_code, 10, 2, 4, 95),
  (1, ⟨"FogCuts$Night", "passHours", "(LFogCuts$Bank;)V"⟩, prog_3_method_5_code, 3, 0, 3, 73),
  (2, ⟨"FogCuts", "pickedBits", "(II)I"⟩, prog_1_method_41_code, 5, 1, 1, 21),
  (2, ⟨"FogCuts", "countOrBits", "(II)I"⟩, prog_1_method_36_code, 2, 1, 1, 20),
  (2, ⟨"FogCuts", "dark", "(II)I"⟩, prog_1_method_18_code, 3, 1, 6, 141),
  (0, ⟨"FogCuts$Bank", "lampBits", "()I"⟩, prog_2_method_17_code, 3, 1, 1, 21),
  (2, ⟨"FogCuts", "fewestLamps", "(I)I"⟩, prog_1_method_39_code, 5, 1, 5, 117),
  (2, ⟨"FogCuts", "standsWithout", "(II)Z"⟩, prog_1_method_40_code, 3, 2, 4, 95),
  (0, ⟨"FogCuts$Bank", "putOut", "(I)V"⟩, prog_2_method_12_code, 3, 0, 2, 47),
  (2, ⟨"FogCuts", "moved", "(II)I"⟩, prog_1_method_19_code, 8, 1, 4, 87),
  (2, ⟨"FogCuts", "apart", "(I)I"⟩, prog_1_method_20_code, 5, 1, 3, 70),
  (0, ⟨"FogCuts$Bank", "neverTogether", "(II)Z"⟩, prog_2_method_27_code, 8, 2, 2, 43),
  (2, ⟨"FogCuts", "walk", "(III)I"⟩, prog_1_method_21_code, 5, 1, 5, 113),
  (2, ⟨"FogCuts", "weighWays", "(I)V"⟩, prog_1_method_42_code, 7, 0, 4, 87),
  (2, ⟨"FogCuts", "spoiltIn", "(I)I"⟩, prog_1_method_43_code, 2, 1, 3, 66),
  (0, ⟨"FogCuts$Bank", "isWanted", "(I)Z"⟩, prog_2_method_22_code, 4, 2, 2, 43),
  (0, ⟨"FogCuts$Bank", "beside", "(II)I"⟩, prog_2_method_7_code, 3, 1, 1, 23),
  (2, ⟨"FogCuts", "firstStep", "(II)I"⟩, prog_1_method_44_code, 7, 1, 4, 87),
  (2, ⟨"FogCuts", "wins", "(I)I"⟩, prog_1_method_22_code, 2, 1, 2, 44),
  (2, ⟨"FogCuts", "isSet", "(I)Z"⟩, prog_1_method_34_code, 2, 2, 1, 22),
  (2, ⟨"FogCuts", "nimSum", "(I)I"⟩, prog_1_method_45_code, 4, 1, 1, 21),
  (2, ⟨"FogCuts", "cut", "(I)I"⟩, prog_1_method_23_code, 6, 1, 2, 44),
  (2, ⟨"FogCuts", "seen", "(II)I"⟩, prog_1_method_24_code, 3, 1, 1, 22),
  (2, ⟨"FogCuts", "forget", "()I"⟩, prog_1_method_25_code, 2, 1, 0, 0),
  (2, ⟨"FogCuts", "what", "(I)I"⟩, prog_1_method_26_code, 3, 1, 5, 119),
  (2, ⟨"FogCuts", "findFitting", "()I"⟩, prog_1_method_46_code, 5, 1, 4, 95),
  (0, ⟨"FogCuts$Bank", "sightsHold", "()Z"⟩, prog_2_method_28_code, 3, 2, 1, 21),
  (2, ⟨"FogCuts", "where", "()I"⟩, prog_1_method_27_code, 4, 1, 5, 119),
  (2, ⟨"FogCuts", "chance", "(IIII)J"⟩, prog_1_method_28_code, 10, 3, 5, 122),
  (2, ⟨"FogCuts", "tenthsThatStand", "(III)J"⟩, prog_1_method_47_code, 11, 3, 4, 92),
  (2, ⟨"FogCuts", "power", "(II)J"⟩, prog_1_method_48_code, 5, 3, 0, 0),
  (2, ⟨"FogCuts", "year", "(III)I"⟩, prog_1_method_29_code, 8, 1, 5, 114),
  (0, ⟨"FogCuts$Bank", "someShapeFell", "()Z"⟩, prog_2_method_24_code, 3, 2, 4, 92),
  (0, ⟨"FogCuts$Bank", "thickest", "()I"⟩, prog_2_method_19_code, 3, 1, 1, 21),
  (0, ⟨"FogCuts$Bank", "together", "()I"⟩, prog_2_method_18_code, 3, 1, 1, 21),
  (2, ⟨"FogCuts", "image", "(I)I"⟩, prog_1_method_30_code, 3, 1, 3, 64),
  (2, ⟨"FogCuts", "restore", "(I)I"⟩, prog_1_method_31_code, 3, 1, 3, 64),
  (2, ⟨"FogCuts", "told", "(I)I"⟩, prog_1_method_32_code, 4, 1, 2, 43),
  (3, ⟨"FogCutsModel", "<init>", "()V"⟩, prog_5_method_1_code, 1, 0, 1, 21),
  (3, ⟨"FogCutsModel", "clear", "()V"⟩, prog_5_method_2_code, 2, 0, 0, 0),
  (3, ⟨"FogCutsModel", "bank", "(II)I"⟩, prog_5_method_8_code, 3, 1, 1, 22),
  (3, ⟨"FogCutsModel", "in", "(III)Z"⟩, prog_5_method_3_code, 3, 2, 0, 0),
  (3, ⟨"FogCutsModel", "cell", "(III)I"⟩, prog_5_method_9_code, 5, 1, 2, 43),
  (3, ⟨"FogCutsModel", "isCell", "(I)Z"⟩, prog_5_method_7_code, 2, 2, 1, 22),
  (3, ⟨"FogCutsModel", "cells", "()I"⟩, prog_5_method_6_code, 1, 1, 0, 0),
  (3, ⟨"FogCutsModel", "set", "(II)I"⟩, prog_5_method_10_code, 5, 1, 1, 22),
  (3, ⟨"FogCutsModel", "shape", "(III)I"⟩, prog_5_method_12_code, 4, 1, 2, 43),
  (3, ⟨"FogCutsModel", "wanted", "(I)I"⟩, prog_5_method_11_code, 4, 1, 0, 0),
  (3, ⟨"FogCutsModel", "bits", "(I)I"⟩, prog_5_method_5_code, 3, 1, 0, 0),
  (3, ⟨"FogCutsModel", "say", "(I)I"⟩, prog_5_method_14_code, 2, 1, 1, 22),
  (3, ⟨"FogCutsModel", "wipe", "()I"⟩, prog_5_method_15_code, 2, 1, 0, 0),
  (3, ⟨"FogCutsModel", "fault", "()I"⟩, prog_5_method_18_code, 1, 1, 3, 67),
  (3, ⟨"FogCutsModel", "faultOf", "()I"⟩, prog_5_method_17_code, 5, 1, 2, 43),
  (3, ⟨"FogCutsModel", "kindOf", "(I)I"⟩, prog_5_method_16_code, 1, 1, 0, 0),
  (3, ⟨"FogCutsModel", "judge", "(I)I"⟩, prog_5_method_25_code, 3, 1, 4, 96),
  (3, ⟨"FogCutsModel", "goNight", "(I)I"⟩, prog_5_method_24_code, 6, 1, 3, 71),
  (3, ⟨"FogCutsModel", "asNow", "()V"⟩, prog_5_method_20_code, 2, 0, 0, 0),
  (3, ⟨"FogCutsModel", "pass", "(I)V"⟩, prog_5_method_22_code, 6, 0, 2, 46),
  (3, ⟨"FogCutsModel", "has", "(II)Z"⟩, prog_5_method_4_code, 2, 2, 0, 0),
  (3, ⟨"FogCutsModel", "beside", "(II)I"⟩, prog_5_method_21_code, 5, 1, 1, 22),
  (3, ⟨"FogCutsModel", "standsNow", "(I)Z"⟩, prog_5_method_23_code, 5, 2, 1, 22),
  (3, ⟨"FogCutsModel", "done", "()I"⟩, prog_5_method_27_code, 2, 1, 5, 117),
  (3, ⟨"FogCutsModel", "barOfNight", "(I)I"⟩, prog_5_method_26_code, 2, 1, 4, 96),
  (3, ⟨"FogCutsModel", "state", "(II)I"⟩, prog_5_method_28_code, 3, 1, 2, 43),
  (3, ⟨"FogCutsModel", "behind", "(II)I"⟩, prog_5_method_29_code, 3, 1, 5, 117),
  (3, ⟨"FogCutsModel", "stands", "(I)I"⟩, prog_5_method_30_code, 2, 1, 2, 46),
  (3, ⟨"FogCutsModel", "isShape", "(I)Z"⟩, prog_5_method_13_code, 2, 2, 1, 23),
  (3, ⟨"FogCutsModel", "lost", "(I)I"⟩, prog_5_method_31_code, 2, 1, 5, 117),
  (3, ⟨"FogCutsModel", "through", "()I"⟩, prog_5_method_32_code, 5, 1, 0, 0),
  (3, ⟨"FogCutsModel", "carved", "(I)I"⟩, prog_5_method_34_code, 2, 1, 2, 51),
  (3, ⟨"FogCutsModel", "actsFor", "(III)I"⟩, prog_5_method_33_code, 10, 1, 1, 22),
  (3, ⟨"FogCutsModel", "nowThen", "(II)I"⟩, prog_5_method_36_code, 11, 1, 4, 92),
  (3, ⟨"FogCutsModel", "areHours", "()Z"⟩, prog_5_method_19_code, 3, 2, 3, 67),
  (3, ⟨"FogCutsModel", "goHours", "()V"⟩, prog_5_method_35_code, 2, 0, 3, 71),
  (3, ⟨"FogCutsModel", "dark", "(II)I"⟩, prog_5_method_37_code, 9, 1, 4, 92),
  (3, ⟨"FogCutsModel", "moved", "(II)I"⟩, prog_5_method_38_code, 8, 1, 2, 51),
  (3, ⟨"FogCutsModel", "apart", "(I)I"⟩, prog_5_method_40_code, 5, 1, 1, 26),
  (3, ⟨"FogCutsModel", "areApart", "(II)Z"⟩, prog_5_method_39_code, 7, 2, 0, 0),
  (3, ⟨"FogCutsModel", "walk", "(III)I"⟩, prog_5_method_43_code, 8, 1, 3, 72),
  (3, ⟨"FogCutsModel", "layWalk", "(I)V"⟩, prog_5_method_42_code, 7, 0, 2, 46),
  (3, ⟨"FogCutsModel", "anyWants", "(I)I"⟩, prog_5_method_41_code, 4, 1, 0, 0),
  (3, ⟨"FogCutsModel", "wins", "(I)I"⟩, prog_5_method_46_code, 2, 1, 2, 44),
  (3, ⟨"FogCutsModel", "areCells", "(I)Z"⟩, prog_5_method_44_code, 2, 2, 1, 22),
  (3, ⟨"FogCutsModel", "over", "(I)I"⟩, prog_5_method_45_code, 4, 1, 1, 21),
  (3, ⟨"FogCutsModel", "cut", "(I)I"⟩, prog_5_method_47_code, 4, 1, 2, 44),
  (3, ⟨"FogCutsModel", "seen", "(II)I"⟩, prog_5_method_48_code, 3, 1, 2, 43),
  (3, ⟨"FogCutsModel", "forget", "()I"⟩, prog_5_method_49_code, 2, 1, 0, 0),
  (3, ⟨"FogCutsModel", "what", "(I)I"⟩, prog_5_method_51_code, 4, 1, 5, 116),
  (3, ⟨"FogCutsModel", "wasCut", "(II)Z"⟩, prog_5_method_50_code, 5, 2, 4, 92),
  (3, ⟨"FogCutsModel", "where", "()I"⟩, prog_5_method_52_code, 3, 1, 5, 116),
  (3, ⟨"FogCutsModel", "chance", "(IIII)J"⟩, prog_5_method_53_code, 15, 3, 3, 71),
  (3, ⟨"FogCutsModel", "year", "(III)I"⟩, prog_5_method_56_code, 10, 1, 3, 71),
  (3, ⟨"FogCutsModel", "allStand", "()Z"⟩, prog_5_method_54_code, 3, 2, 2, 46),
  (3, ⟨"FogCutsModel", "sumNow", "()I"⟩, prog_5_method_55_code, 3, 1, 1, 20),
  (3, ⟨"FogCutsModel", "image", "(I)I"⟩, prog_5_method_57_code, 4, 1, 1, 22),
  (3, ⟨"FogCutsModel", "restore", "(I)I"⟩, prog_5_method_58_code, 4, 1, 1, 22),
  (3, ⟨"FogCutsModel", "told", "(I)I"⟩, prog_5_method_59_code, 3, 1, 2, 43),
  (4, ⟨"FogCutsLaw", "law", "([I)Z"⟩, code, 4, 2, 7, 170)]
def mr (M : Nat) : MR := (mt[M]?).getD (0, ⟨"", "", ""⟩, code, 0, 0, 0, 0)
def mo (M : Nat) : Nat := (mr M).1
def my (M : Nat) : MethodName := (mr M).2.1
def mb (M : Nat) : ByteArray := (mr M).2.2.1
def ml (M : Nat) : Nat := (mr M).2.2.2.1
def mk (M : Nat) : Nat := (mr M).2.2.2.2.1
def mf (M : Nat) : Nat := (mr M).2.2.2.2.2.1
def mlo (M : Nat) : Nat := (mr M).2.2.2.2.2.2
def rt (k : Nat) : Option FieldType := match k with
  | 0 => none
  | 1 => some .int
  | 2 => some .boolean
  | _ => some .long
def mfact (e : MR) : Prop := plainName e.2.1.cls = true ∧ Cond.code e.2.1 e.2.2.1 e.2.2.2.1 (rt e.2.2.2.2.1) ∈ gw ∧ Cond.initialized e.2.1.cls ∈ gw ∧ (e.2.1.cls ≠ "java/lang/invoke/MethodHandle" ∧ e.2.1.cls ≠ "java/lang/invoke/VarHandle") ∧ e.2.1.cls = oS e.1
theorem mfact_0 : mfact (mr 0) := ⟨by decide +kernel, gw_of 51 (by decide +kernel) (by decide +kernel), gw_of 41 (by decide +kernel) (by decide +kernel), by decide +kernel, by decide +kernel⟩
theorem mfact_1 : mfact (mr 1) := ⟨by decide +kernel, gw_of 59 (by decide +kernel) (by decide +kernel), gw_of 42 (by decide +kernel) (by decide +kernel), by decide +kernel, by decide +kernel⟩
theorem mfact_2 : mfact (mr 2) := ⟨by decide +kernel, gw_of 64 (by decide +kernel) (by decide +kernel), gw_of 42 (by decide +kernel) (by decide +kernel), by decide +kernel, by decide +kernel⟩
theorem mfact_3 : mfact (mr 3) := ⟨by decide +kernel, gw_of 67 (by decide +kernel) (by decide +kernel), gw_of 41 (by decide +kernel) (by decide +kernel), by decide +kernel, by decide +kernel⟩
theorem mfact_4 : mfact (mr 4) := ⟨by decide +kernel, gw_of 124 (by decide +kernel) (by decide +kernel), gw_of 43 (by decide +kernel) (by decide +kernel), by decide +kernel, by decide +kernel⟩
theorem mfact_5 : mfact (mr 5) := ⟨by decide +kernel, gw_of 177 (by decide +kernel) (by decide +kernel), gw_of 41 (by decide +kernel) (by decide +kernel), by decide +kernel, by decide +kernel⟩
theorem mfact_6 : mfact (mr 6) := ⟨by decide +kernel, gw_of 180 (by decide +kernel) (by decide +kernel), gw_of 41 (by decide +kernel) (by decide +kernel), by decide +kernel, by decide +kernel⟩
theorem mfact_7 : mfact (mr 7) := ⟨by decide +kernel, gw_of 185 (by decide +kernel) (by decide +kernel), gw_of 41 (by decide +kernel) (by decide +kernel), by decide +kernel, by decide +kernel⟩
theorem mfact_8 : mfact (mr 8) := ⟨by decide +kernel, gw_of 189 (by decide +kernel) (by decide +kernel), gw_of 42 (by decide +kernel) (by decide +kernel), by decide +kernel, by decide +kernel⟩
theorem mfact_9 : mfact (mr 9) := ⟨by decide +kernel, gw_of 193 (by decide +kernel) (by decide +kernel), gw_of 42 (by decide +kernel) (by decide +kernel), by decide +kernel, by decide +kernel⟩
theorem mfact_10 : mfact (mr 10) := ⟨by decide +kernel, gw_of 196 (by decide +kernel) (by decide +kernel), gw_of 41 (by decide +kernel) (by decide +kernel), by decide +kernel, by decide +kernel⟩
theorem mfact_11 : mfact (mr 11) := ⟨by decide +kernel, gw_of 199 (by decide +kernel) (by decide +kernel), gw_of 41 (by decide +kernel) (by decide +kernel), by decide +kernel, by decide +kernel⟩
theorem mfact_12 : mfact (mr 12) := ⟨by decide +kernel, gw_of 203 (by decide +kernel) (by decide +kernel), gw_of 42 (by decide +kernel) (by decide +kernel), by decide +kernel, by decide +kernel⟩
theorem mfact_13 : mfact (mr 13) := ⟨by decide +kernel, gw_of 208 (by decide +kernel) (by decide +kernel), gw_of 42 (by decide +kernel) (by decide +kernel), by decide +kernel, by decide +kernel⟩
theorem mfact_14 : mfact (mr 14) := ⟨by decide +kernel, gw_of 212 (by decide +kernel) (by decide +kernel), gw_of 42 (by decide +kernel) (by decide +kernel), by decide +kernel, by decide +kernel⟩
theorem mfact_15 : mfact (mr 15) := ⟨by decide +kernel, gw_of 219 (by decide +kernel) (by decide +kernel), gw_of 41 (by decide +kernel) (by decide +kernel), by decide +kernel, by decide +kernel⟩
theorem mfact_16 : mfact (mr 16) := ⟨by decide +kernel, gw_of 223 (by decide +kernel) (by decide +kernel), gw_of 41 (by decide +kernel) (by decide +kernel), by decide +kernel, by decide +kernel⟩
theorem mfact_17 : mfact (mr 17) := ⟨by decide +kernel, gw_of 227 (by decide +kernel) (by decide +kernel), gw_of 42 (by decide +kernel) (by decide +kernel), by decide +kernel, by decide +kernel⟩
theorem mfact_18 : mfact (mr 18) := ⟨by decide +kernel, gw_of 231 (by decide +kernel) (by decide +kernel), gw_of 42 (by decide +kernel) (by decide +kernel), by decide +kernel, by decide +kernel⟩
theorem mfact_19 : mfact (mr 19) := ⟨by decide +kernel, gw_of 235 (by decide +kernel) (by decide +kernel), gw_of 41 (by decide +kernel) (by decide +kernel), by decide +kernel, by decide +kernel⟩
theorem mfact_20 : mfact (mr 20) := ⟨by decide +kernel, gw_of 239 (by decide +kernel) (by decide +kernel), gw_of 41 (by decide +kernel) (by decide +kernel), by decide +kernel, by decide +kernel⟩
theorem mfact_21 : mfact (mr 21) := ⟨by decide +kernel, gw_of 243 (by decide +kernel) (by decide +kernel), gw_of 41 (by decide +kernel) (by decide +kernel), by decide +kernel, by decide +kernel⟩
theorem mfact_22 : mfact (mr 22) := ⟨by decide +kernel, gw_of 247 (by decide +kernel) (by decide +kernel), gw_of 43 (by decide +kernel) (by decide +kernel), by decide +kernel, by decide +kernel⟩
theorem mfact_23 : mfact (mr 23) := ⟨by decide +kernel, gw_of 251 (by decide +kernel) (by decide +kernel), gw_of 41 (by decide +kernel) (by decide +kernel), by decide +kernel, by decide +kernel⟩
theorem mfact_24 : mfact (mr 24) := ⟨by decide +kernel, gw_of 255 (by decide +kernel) (by decide +kernel), gw_of 43 (by decide +kernel) (by decide +kernel), by decide +kernel, by decide +kernel⟩
theorem mfact_25 : mfact (mr 25) := ⟨by decide +kernel, gw_of 260 (by decide +kernel) (by decide +kernel), gw_of 41 (by decide +kernel) (by decide +kernel), by decide +kernel, by decide +kernel⟩
theorem mfact_26 : mfact (mr 26) := ⟨by decide +kernel, gw_of 264 (by decide +kernel) (by decide +kernel), gw_of 43 (by decide +kernel) (by decide +kernel), by decide +kernel, by decide +kernel⟩
theorem mfact_27 : mfact (mr 27) := ⟨by decide +kernel, gw_of 268 (by decide +kernel) (by decide +kernel), gw_of 42 (by decide +kernel) (by decide +kernel), by decide +kernel, by decide +kernel⟩
theorem mfact_28 : mfact (mr 28) := ⟨by decide +kernel, gw_of 271 (by decide +kernel) (by decide +kernel), gw_of 41 (by decide +kernel) (by decide +kernel), by decide +kernel, by decide +kernel⟩
theorem mfact_29 : mfact (mr 29) := ⟨by decide +kernel, gw_of 275 (by decide +kernel) (by decide +kernel), gw_of 42 (by decide +kernel) (by decide +kernel), by decide +kernel, by decide +kernel⟩
theorem mfact_30 : mfact (mr 30) := ⟨by decide +kernel, gw_of 279 (by decide +kernel) (by decide +kernel), gw_of 42 (by decide +kernel) (by decide +kernel), by decide +kernel, by decide +kernel⟩
theorem mfact_31 : mfact (mr 31) := ⟨by decide +kernel, gw_of 285 (by decide +kernel) (by decide +kernel), gw_of 42 (by decide +kernel) (by decide +kernel), by decide +kernel, by decide +kernel⟩
theorem mfact_32 : mfact (mr 32) := ⟨by decide +kernel, gw_of 288 (by decide +kernel) (by decide +kernel), gw_of 42 (by decide +kernel) (by decide +kernel), by decide +kernel, by decide +kernel⟩
theorem mfact_33 : mfact (mr 33) := ⟨by decide +kernel, gw_of 292 (by decide +kernel) (by decide +kernel), gw_of 42 (by decide +kernel) (by decide +kernel), by decide +kernel, by decide +kernel⟩
theorem mfact_34 : mfact (mr 34) := ⟨by decide +kernel, gw_of 296 (by decide +kernel) (by decide +kernel), gw_of 42 (by decide +kernel) (by decide +kernel), by decide +kernel, by decide +kernel⟩
theorem mfact_35 : mfact (mr 35) := ⟨by decide +kernel, gw_of 301 (by decide +kernel) (by decide +kernel), gw_of 42 (by decide +kernel) (by decide +kernel), by decide +kernel, by decide +kernel⟩
theorem mfact_36 : mfact (mr 36) := ⟨by decide +kernel, gw_of 305 (by decide +kernel) (by decide +kernel), gw_of 42 (by decide +kernel) (by decide +kernel), by decide +kernel, by decide +kernel⟩
theorem mfact_37 : mfact (mr 37) := ⟨by decide +kernel, gw_of 309 (by decide +kernel) (by decide +kernel), gw_of 42 (by decide +kernel) (by decide +kernel), by decide +kernel, by decide +kernel⟩
theorem mfact_38 : mfact (mr 38) := ⟨by decide +kernel, gw_of 314 (by decide +kernel) (by decide +kernel), gw_of 41 (by decide +kernel) (by decide +kernel), by decide +kernel, by decide +kernel⟩
theorem mfact_39 : mfact (mr 39) := ⟨by decide +kernel, gw_of 318 (by decide +kernel) (by decide +kernel), gw_of 41 (by decide +kernel) (by decide +kernel), by decide +kernel, by decide +kernel⟩
theorem mfact_40 : mfact (mr 40) := ⟨by decide +kernel, gw_of 323 (by decide +kernel) (by decide +kernel), gw_of 41 (by decide +kernel) (by decide +kernel), by decide +kernel, by decide +kernel⟩
theorem mfact_41 : mfact (mr 41) := ⟨by decide +kernel, gw_of 327 (by decide +kernel) (by decide +kernel), gw_of 41 (by decide +kernel) (by decide +kernel), by decide +kernel, by decide +kernel⟩
theorem mfact_42 : mfact (mr 42) := ⟨by decide +kernel, gw_of 331 (by decide +kernel) (by decide +kernel), gw_of 41 (by decide +kernel) (by decide +kernel), by decide +kernel, by decide +kernel⟩
theorem mfact_43 : mfact (mr 43) := ⟨by decide +kernel, gw_of 335 (by decide +kernel) (by decide +kernel), gw_of 41 (by decide +kernel) (by decide +kernel), by decide +kernel, by decide +kernel⟩
theorem mfact_44 : mfact (mr 44) := ⟨by decide +kernel, gw_of 340 (by decide +kernel) (by decide +kernel), gw_of 41 (by decide +kernel) (by decide +kernel), by decide +kernel, by decide +kernel⟩
theorem mfact_45 : mfact (mr 45) := ⟨by decide +kernel, gw_of 344 (by decide +kernel) (by decide +kernel), gw_of 41 (by decide +kernel) (by decide +kernel), by decide +kernel, by decide +kernel⟩
theorem mfact_46 : mfact (mr 46) := ⟨by decide +kernel, gw_of 349 (by decide +kernel) (by decide +kernel), gw_of 41 (by decide +kernel) (by decide +kernel), by decide +kernel, by decide +kernel⟩
theorem mfact_47 : mfact (mr 47) := ⟨by decide +kernel, gw_of 354 (by decide +kernel) (by decide +kernel), gw_of 41 (by decide +kernel) (by decide +kernel), by decide +kernel, by decide +kernel⟩
theorem mfact_48 : mfact (mr 48) := ⟨by decide +kernel, gw_of 358 (by decide +kernel) (by decide +kernel), gw_of 43 (by decide +kernel) (by decide +kernel), by decide +kernel, by decide +kernel⟩
theorem mfact_49 : mfact (mr 49) := ⟨by decide +kernel, gw_of 362 (by decide +kernel) (by decide +kernel), gw_of 41 (by decide +kernel) (by decide +kernel), by decide +kernel, by decide +kernel⟩
theorem mfact_50 : mfact (mr 50) := ⟨by decide +kernel, gw_of 367 (by decide +kernel) (by decide +kernel), gw_of 46 (by decide +kernel) (by decide +kernel), by decide +kernel, by decide +kernel⟩
theorem mfact_51 : mfact (mr 51) := ⟨by decide +kernel, gw_of 374 (by decide +kernel) (by decide +kernel), gw_of 41 (by decide +kernel) (by decide +kernel), by decide +kernel, by decide +kernel⟩
theorem mfact_52 : mfact (mr 52) := ⟨by decide +kernel, gw_of 378 (by decide +kernel) (by decide +kernel), gw_of 43 (by decide +kernel) (by decide +kernel), by decide +kernel, by decide +kernel⟩
theorem mfact_53 : mfact (mr 53) := ⟨by decide +kernel, gw_of 382 (by decide +kernel) (by decide +kernel), gw_of 41 (by decide +kernel) (by decide +kernel), by decide +kernel, by decide +kernel⟩
theorem mfact_54 : mfact (mr 54) := ⟨by decide +kernel, gw_of 385 (by decide +kernel) (by decide +kernel), gw_of 41 (by decide +kernel) (by decide +kernel), by decide +kernel, by decide +kernel⟩
theorem mfact_55 : mfact (mr 55) := ⟨by decide +kernel, gw_of 389 (by decide +kernel) (by decide +kernel), gw_of 41 (by decide +kernel) (by decide +kernel), by decide +kernel, by decide +kernel⟩
theorem mfact_56 : mfact (mr 56) := ⟨by decide +kernel, gw_of 393 (by decide +kernel) (by decide +kernel), gw_of 42 (by decide +kernel) (by decide +kernel), by decide +kernel, by decide +kernel⟩
theorem mfact_57 : mfact (mr 57) := ⟨by decide +kernel, gw_of 397 (by decide +kernel) (by decide +kernel), gw_of 41 (by decide +kernel) (by decide +kernel), by decide +kernel, by decide +kernel⟩
theorem mfact_58 : mfact (mr 58) := ⟨by decide +kernel, gw_of 401 (by decide +kernel) (by decide +kernel), gw_of 41 (by decide +kernel) (by decide +kernel), by decide +kernel, by decide +kernel⟩
theorem mfact_59 : mfact (mr 59) := ⟨by decide +kernel, gw_of 405 (by decide +kernel) (by decide +kernel), gw_of 42 (by decide +kernel) (by decide +kernel), by decide +kernel, by decide +kernel⟩
theorem mfact_60 : mfact (mr 60) := ⟨by decide +kernel, gw_of 409 (by decide +kernel) (by decide +kernel), gw_of 41 (by decide +kernel) (by decide +kernel), by decide +kernel, by decide +kernel⟩
theorem mfact_61 : mfact (mr 61) := ⟨by decide +kernel, gw_of 414 (by decide +kernel) (by decide +kernel), gw_of 41 (by decide +kernel) (by decide +kernel), by decide +kernel, by decide +kernel⟩
theorem mfact_62 : mfact (mr 62) := ⟨by decide +kernel, gw_of 418 (by decide +kernel) (by decide +kernel), gw_of 42 (by decide +kernel) (by decide +kernel), by decide +kernel, by decide +kernel⟩
theorem mfact_63 : mfact (mr 63) := ⟨by decide +kernel, gw_of 425 (by decide +kernel) (by decide +kernel), gw_of 41 (by decide +kernel) (by decide +kernel), by decide +kernel, by decide +kernel⟩
theorem mfact_64 : mfact (mr 64) := ⟨by decide +kernel, gw_of 429 (by decide +kernel) (by decide +kernel), gw_of 41 (by decide +kernel) (by decide +kernel), by decide +kernel, by decide +kernel⟩
theorem mfact_65 : mfact (mr 65) := ⟨by decide +kernel, gw_of 433 (by decide +kernel) (by decide +kernel), gw_of 41 (by decide +kernel) (by decide +kernel), by decide +kernel, by decide +kernel⟩
theorem mfact_66 : mfact (mr 66) := ⟨by decide +kernel, gw_of 437 (by decide +kernel) (by decide +kernel), gw_of 42 (by decide +kernel) (by decide +kernel), by decide +kernel, by decide +kernel⟩
theorem mfact_67 : mfact (mr 67) := ⟨by decide +kernel, gw_of 441 (by decide +kernel) (by decide +kernel), gw_of 42 (by decide +kernel) (by decide +kernel), by decide +kernel, by decide +kernel⟩
theorem mfact_68 : mfact (mr 68) := ⟨by decide +kernel, gw_of 446 (by decide +kernel) (by decide +kernel), gw_of 41 (by decide +kernel) (by decide +kernel), by decide +kernel, by decide +kernel⟩
theorem mfact_69 : mfact (mr 69) := ⟨by decide +kernel, gw_of 450 (by decide +kernel) (by decide +kernel), gw_of 41 (by decide +kernel) (by decide +kernel), by decide +kernel, by decide +kernel⟩
theorem mfact_70 : mfact (mr 70) := ⟨by decide +kernel, gw_of 454 (by decide +kernel) (by decide +kernel), gw_of 41 (by decide +kernel) (by decide +kernel), by decide +kernel, by decide +kernel⟩
theorem mfact_71 : mfact (mr 71) := ⟨by decide +kernel, gw_of 458 (by decide +kernel) (by decide +kernel), gw_of 41 (by decide +kernel) (by decide +kernel), by decide +kernel, by decide +kernel⟩
theorem mfact_72 : mfact (mr 72) := ⟨by decide +kernel, gw_of 462 (by decide +kernel) (by decide +kernel), gw_of 41 (by decide +kernel) (by decide +kernel), by decide +kernel, by decide +kernel⟩
theorem mfact_73 : mfact (mr 73) := ⟨by decide +kernel, gw_of 466 (by decide +kernel) (by decide +kernel), gw_of 41 (by decide +kernel) (by decide +kernel), by decide +kernel, by decide +kernel⟩
theorem mfact_74 : mfact (mr 74) := ⟨by decide +kernel, gw_of 470 (by decide +kernel) (by decide +kernel), gw_of 41 (by decide +kernel) (by decide +kernel), by decide +kernel, by decide +kernel⟩
theorem mfact_75 : mfact (mr 75) := ⟨by decide +kernel, gw_of 474 (by decide +kernel) (by decide +kernel), gw_of 41 (by decide +kernel) (by decide +kernel), by decide +kernel, by decide +kernel⟩
theorem mfact_76 : mfact (mr 76) := ⟨by decide +kernel, gw_of 478 (by decide +kernel) (by decide +kernel), gw_of 41 (by decide +kernel) (by decide +kernel), by decide +kernel, by decide +kernel⟩
theorem mfact_77 : mfact (mr 77) := ⟨by decide +kernel, gw_of 482 (by decide +kernel) (by decide +kernel), gw_of 42 (by decide +kernel) (by decide +kernel), by decide +kernel, by decide +kernel⟩
theorem mfact_78 : mfact (mr 78) := ⟨by decide +kernel, gw_of 486 (by decide +kernel) (by decide +kernel), gw_of 41 (by decide +kernel) (by decide +kernel), by decide +kernel, by decide +kernel⟩
theorem mfact_79 : mfact (mr 79) := ⟨by decide +kernel, gw_of 490 (by decide +kernel) (by decide +kernel), gw_of 41 (by decide +kernel) (by decide +kernel), by decide +kernel, by decide +kernel⟩
theorem mfact_80 : mfact (mr 80) := ⟨by decide +kernel, gw_of 496 (by decide +kernel) (by decide +kernel), gw_of 41 (by decide +kernel) (by decide +kernel), by decide +kernel, by decide +kernel⟩
theorem mfact_81 : mfact (mr 81) := ⟨by decide +kernel, gw_of 499 (by decide +kernel) (by decide +kernel), gw_of 41 (by decide +kernel) (by decide +kernel), by decide +kernel, by decide +kernel⟩
theorem mfact_82 : mfact (mr 82) := ⟨by decide +kernel, gw_of 506 (by decide +kernel) (by decide +kernel), gw_of 41 (by decide +kernel) (by decide +kernel), by decide +kernel, by decide +kernel⟩
theorem mfact_83 : mfact (mr 83) := ⟨by decide +kernel, gw_of 511 (by decide +kernel) (by decide +kernel), gw_of 42 (by decide +kernel) (by decide +kernel), by decide +kernel, by decide +kernel⟩
theorem mfact_84 : mfact (mr 84) := ⟨by decide +kernel, gw_of 516 (by decide +kernel) (by decide +kernel), gw_of 42 (by decide +kernel) (by decide +kernel), by decide +kernel, by decide +kernel⟩
theorem mfact_85 : mfact (mr 85) := ⟨by decide +kernel, gw_of 521 (by decide +kernel) (by decide +kernel), gw_of 42 (by decide +kernel) (by decide +kernel), by decide +kernel, by decide +kernel⟩
theorem mfact_86 : mfact (mr 86) := ⟨by decide +kernel, gw_of 525 (by decide +kernel) (by decide +kernel), gw_of 41 (by decide +kernel) (by decide +kernel), by decide +kernel, by decide +kernel⟩
theorem mfact_87 : mfact (mr 87) := ⟨by decide +kernel, gw_of 529 (by decide +kernel) (by decide +kernel), gw_of 41 (by decide +kernel) (by decide +kernel), by decide +kernel, by decide +kernel⟩
theorem mfact_88 : mfact (mr 88) := ⟨by decide +kernel, gw_of 533 (by decide +kernel) (by decide +kernel), gw_of 41 (by decide +kernel) (by decide +kernel), by decide +kernel, by decide +kernel⟩
theorem mfact_89 : mfact (mr 89) := ⟨by decide +kernel, gw_of 538 (by decide +kernel) (by decide +kernel), gw_of 44 (by decide +kernel) (by decide +kernel), by decide +kernel, by decide +kernel⟩
theorem mfact_90 : mfact (mr 90) := ⟨by decide +kernel, gw_of 543 (by decide +kernel) (by decide +kernel), gw_of 44 (by decide +kernel) (by decide +kernel), by decide +kernel, by decide +kernel⟩
theorem mfact_91 : mfact (mr 91) := ⟨by decide +kernel, gw_of 609 (by decide +kernel) (by decide +kernel), gw_of 44 (by decide +kernel) (by decide +kernel), by decide +kernel, by decide +kernel⟩
theorem mfact_92 : mfact (mr 92) := ⟨by decide +kernel, gw_of 612 (by decide +kernel) (by decide +kernel), gw_of 44 (by decide +kernel) (by decide +kernel), by decide +kernel, by decide +kernel⟩
theorem mfact_93 : mfact (mr 93) := ⟨by decide +kernel, gw_of 616 (by decide +kernel) (by decide +kernel), gw_of 44 (by decide +kernel) (by decide +kernel), by decide +kernel, by decide +kernel⟩
theorem mfact_94 : mfact (mr 94) := ⟨by decide +kernel, gw_of 620 (by decide +kernel) (by decide +kernel), gw_of 44 (by decide +kernel) (by decide +kernel), by decide +kernel, by decide +kernel⟩
theorem mfact_95 : mfact (mr 95) := ⟨by decide +kernel, gw_of 624 (by decide +kernel) (by decide +kernel), gw_of 44 (by decide +kernel) (by decide +kernel), by decide +kernel, by decide +kernel⟩
theorem mfact_96 : mfact (mr 96) := ⟨by decide +kernel, gw_of 628 (by decide +kernel) (by decide +kernel), gw_of 44 (by decide +kernel) (by decide +kernel), by decide +kernel, by decide +kernel⟩
theorem mfact_97 : mfact (mr 97) := ⟨by decide +kernel, gw_of 632 (by decide +kernel) (by decide +kernel), gw_of 44 (by decide +kernel) (by decide +kernel), by decide +kernel, by decide +kernel⟩
theorem mfact_98 : mfact (mr 98) := ⟨by decide +kernel, gw_of 636 (by decide +kernel) (by decide +kernel), gw_of 44 (by decide +kernel) (by decide +kernel), by decide +kernel, by decide +kernel⟩
theorem mfact_99 : mfact (mr 99) := ⟨by decide +kernel, gw_of 639 (by decide +kernel) (by decide +kernel), gw_of 44 (by decide +kernel) (by decide +kernel), by decide +kernel, by decide +kernel⟩
theorem mfact_100 : mfact (mr 100) := ⟨by decide +kernel, gw_of 643 (by decide +kernel) (by decide +kernel), gw_of 44 (by decide +kernel) (by decide +kernel), by decide +kernel, by decide +kernel⟩
theorem mfact_101 : mfact (mr 101) := ⟨by decide +kernel, gw_of 647 (by decide +kernel) (by decide +kernel), gw_of 44 (by decide +kernel) (by decide +kernel), by decide +kernel, by decide +kernel⟩
theorem mfact_102 : mfact (mr 102) := ⟨by decide +kernel, gw_of 651 (by decide +kernel) (by decide +kernel), gw_of 44 (by decide +kernel) (by decide +kernel), by decide +kernel, by decide +kernel⟩
theorem mfact_103 : mfact (mr 103) := ⟨by decide +kernel, gw_of 655 (by decide +kernel) (by decide +kernel), gw_of 44 (by decide +kernel) (by decide +kernel), by decide +kernel, by decide +kernel⟩
theorem mfact_104 : mfact (mr 104) := ⟨by decide +kernel, gw_of 658 (by decide +kernel) (by decide +kernel), gw_of 44 (by decide +kernel) (by decide +kernel), by decide +kernel, by decide +kernel⟩
theorem mfact_105 : mfact (mr 105) := ⟨by decide +kernel, gw_of 662 (by decide +kernel) (by decide +kernel), gw_of 44 (by decide +kernel) (by decide +kernel), by decide +kernel, by decide +kernel⟩
theorem mfact_106 : mfact (mr 106) := ⟨by decide +kernel, gw_of 666 (by decide +kernel) (by decide +kernel), gw_of 44 (by decide +kernel) (by decide +kernel), by decide +kernel, by decide +kernel⟩
theorem mfact_107 : mfact (mr 107) := ⟨by decide +kernel, gw_of 670 (by decide +kernel) (by decide +kernel), gw_of 44 (by decide +kernel) (by decide +kernel), by decide +kernel, by decide +kernel⟩
theorem mfact_108 : mfact (mr 108) := ⟨by decide +kernel, gw_of 674 (by decide +kernel) (by decide +kernel), gw_of 44 (by decide +kernel) (by decide +kernel), by decide +kernel, by decide +kernel⟩
theorem mfact_109 : mfact (mr 109) := ⟨by decide +kernel, gw_of 677 (by decide +kernel) (by decide +kernel), gw_of 44 (by decide +kernel) (by decide +kernel), by decide +kernel, by decide +kernel⟩
theorem mfact_110 : mfact (mr 110) := ⟨by decide +kernel, gw_of 681 (by decide +kernel) (by decide +kernel), gw_of 44 (by decide +kernel) (by decide +kernel), by decide +kernel, by decide +kernel⟩
theorem mfact_111 : mfact (mr 111) := ⟨by decide +kernel, gw_of 685 (by decide +kernel) (by decide +kernel), gw_of 44 (by decide +kernel) (by decide +kernel), by decide +kernel, by decide +kernel⟩
theorem mfact_112 : mfact (mr 112) := ⟨by decide +kernel, gw_of 689 (by decide +kernel) (by decide +kernel), gw_of 44 (by decide +kernel) (by decide +kernel), by decide +kernel, by decide +kernel⟩
theorem mfact_113 : mfact (mr 113) := ⟨by decide +kernel, gw_of 693 (by decide +kernel) (by decide +kernel), gw_of 44 (by decide +kernel) (by decide +kernel), by decide +kernel, by decide +kernel⟩
theorem mfact_114 : mfact (mr 114) := ⟨by decide +kernel, gw_of 697 (by decide +kernel) (by decide +kernel), gw_of 44 (by decide +kernel) (by decide +kernel), by decide +kernel, by decide +kernel⟩
theorem mfact_115 : mfact (mr 115) := ⟨by decide +kernel, gw_of 701 (by decide +kernel) (by decide +kernel), gw_of 44 (by decide +kernel) (by decide +kernel), by decide +kernel, by decide +kernel⟩
theorem mfact_116 : mfact (mr 116) := ⟨by decide +kernel, gw_of 705 (by decide +kernel) (by decide +kernel), gw_of 44 (by decide +kernel) (by decide +kernel), by decide +kernel, by decide +kernel⟩
theorem mfact_117 : mfact (mr 117) := ⟨by decide +kernel, gw_of 709 (by decide +kernel) (by decide +kernel), gw_of 44 (by decide +kernel) (by decide +kernel), by decide +kernel, by decide +kernel⟩
theorem mfact_118 : mfact (mr 118) := ⟨by decide +kernel, gw_of 713 (by decide +kernel) (by decide +kernel), gw_of 44 (by decide +kernel) (by decide +kernel), by decide +kernel, by decide +kernel⟩
theorem mfact_119 : mfact (mr 119) := ⟨by decide +kernel, gw_of 717 (by decide +kernel) (by decide +kernel), gw_of 44 (by decide +kernel) (by decide +kernel), by decide +kernel, by decide +kernel⟩
theorem mfact_120 : mfact (mr 120) := ⟨by decide +kernel, gw_of 721 (by decide +kernel) (by decide +kernel), gw_of 44 (by decide +kernel) (by decide +kernel), by decide +kernel, by decide +kernel⟩
theorem mfact_121 : mfact (mr 121) := ⟨by decide +kernel, gw_of 725 (by decide +kernel) (by decide +kernel), gw_of 44 (by decide +kernel) (by decide +kernel), by decide +kernel, by decide +kernel⟩
theorem mfact_122 : mfact (mr 122) := ⟨by decide +kernel, gw_of 730 (by decide +kernel) (by decide +kernel), gw_of 44 (by decide +kernel) (by decide +kernel), by decide +kernel, by decide +kernel⟩
theorem mfact_123 : mfact (mr 123) := ⟨by decide +kernel, gw_of 734 (by decide +kernel) (by decide +kernel), gw_of 44 (by decide +kernel) (by decide +kernel), by decide +kernel, by decide +kernel⟩
theorem mfact_124 : mfact (mr 124) := ⟨by decide +kernel, gw_of 738 (by decide +kernel) (by decide +kernel), gw_of 44 (by decide +kernel) (by decide +kernel), by decide +kernel, by decide +kernel⟩
theorem mfact_125 : mfact (mr 125) := ⟨by decide +kernel, gw_of 742 (by decide +kernel) (by decide +kernel), gw_of 44 (by decide +kernel) (by decide +kernel), by decide +kernel, by decide +kernel⟩
theorem mfact_126 : mfact (mr 126) := ⟨by decide +kernel, gw_of 746 (by decide +kernel) (by decide +kernel), gw_of 44 (by decide +kernel) (by decide +kernel), by decide +kernel, by decide +kernel⟩
theorem mfact_127 : mfact (mr 127) := ⟨by decide +kernel, gw_of 750 (by decide +kernel) (by decide +kernel), gw_of 44 (by decide +kernel) (by decide +kernel), by decide +kernel, by decide +kernel⟩
theorem mfact_128 : mfact (mr 128) := ⟨by decide +kernel, gw_of 754 (by decide +kernel) (by decide +kernel), gw_of 44 (by decide +kernel) (by decide +kernel), by decide +kernel, by decide +kernel⟩
theorem mfact_129 : mfact (mr 129) := ⟨by decide +kernel, gw_of 758 (by decide +kernel) (by decide +kernel), gw_of 44 (by decide +kernel) (by decide +kernel), by decide +kernel, by decide +kernel⟩
theorem mfact_130 : mfact (mr 130) := ⟨by decide +kernel, gw_of 762 (by decide +kernel) (by decide +kernel), gw_of 44 (by decide +kernel) (by decide +kernel), by decide +kernel, by decide +kernel⟩
theorem mfact_131 : mfact (mr 131) := ⟨by decide +kernel, gw_of 766 (by decide +kernel) (by decide +kernel), gw_of 44 (by decide +kernel) (by decide +kernel), by decide +kernel, by decide +kernel⟩
theorem mfact_132 : mfact (mr 132) := ⟨by decide +kernel, gw_of 770 (by decide +kernel) (by decide +kernel), gw_of 44 (by decide +kernel) (by decide +kernel), by decide +kernel, by decide +kernel⟩
theorem mfact_133 : mfact (mr 133) := ⟨by decide +kernel, gw_of 774 (by decide +kernel) (by decide +kernel), gw_of 44 (by decide +kernel) (by decide +kernel), by decide +kernel, by decide +kernel⟩
theorem mfact_134 : mfact (mr 134) := ⟨by decide +kernel, gw_of 778 (by decide +kernel) (by decide +kernel), gw_of 44 (by decide +kernel) (by decide +kernel), by decide +kernel, by decide +kernel⟩
theorem mfact_135 : mfact (mr 135) := ⟨by decide +kernel, gw_of 782 (by decide +kernel) (by decide +kernel), gw_of 44 (by decide +kernel) (by decide +kernel), by decide +kernel, by decide +kernel⟩
theorem mfact_136 : mfact (mr 136) := ⟨by decide +kernel, gw_of 786 (by decide +kernel) (by decide +kernel), gw_of 44 (by decide +kernel) (by decide +kernel), by decide +kernel, by decide +kernel⟩
theorem mfact_137 : mfact (mr 137) := ⟨by decide +kernel, gw_of 790 (by decide +kernel) (by decide +kernel), gw_of 44 (by decide +kernel) (by decide +kernel), by decide +kernel, by decide +kernel⟩
theorem mfact_138 : mfact (mr 138) := ⟨by decide +kernel, gw_of 794 (by decide +kernel) (by decide +kernel), gw_of 44 (by decide +kernel) (by decide +kernel), by decide +kernel, by decide +kernel⟩
theorem mfact_139 : mfact (mr 139) := ⟨by decide +kernel, gw_of 798 (by decide +kernel) (by decide +kernel), gw_of 44 (by decide +kernel) (by decide +kernel), by decide +kernel, by decide +kernel⟩
theorem mfact_140 : mfact (mr 140) := ⟨by decide +kernel, gw_of 802 (by decide +kernel) (by decide +kernel), gw_of 44 (by decide +kernel) (by decide +kernel), by decide +kernel, by decide +kernel⟩
theorem mfact_141 : mfact (mr 141) := ⟨by decide +kernel, gw_of 806 (by decide +kernel) (by decide +kernel), gw_of 44 (by decide +kernel) (by decide +kernel), by decide +kernel, by decide +kernel⟩
theorem mfact_142 : mfact (mr 142) := ⟨by decide +kernel, gw_of 813 (by decide +kernel) (by decide +kernel), gw_of 44 (by decide +kernel) (by decide +kernel), by decide +kernel, by decide +kernel⟩
theorem mfact_143 : mfact (mr 143) := ⟨by decide +kernel, gw_of 818 (by decide +kernel) (by decide +kernel), gw_of 44 (by decide +kernel) (by decide +kernel), by decide +kernel, by decide +kernel⟩
theorem mfact_144 : mfact (mr 144) := ⟨by decide +kernel, gw_of 822 (by decide +kernel) (by decide +kernel), gw_of 44 (by decide +kernel) (by decide +kernel), by decide +kernel, by decide +kernel⟩
theorem mfact_145 : mfact (mr 145) := ⟨by decide +kernel, gw_of 826 (by decide +kernel) (by decide +kernel), gw_of 44 (by decide +kernel) (by decide +kernel), by decide +kernel, by decide +kernel⟩
theorem mfact_146 : mfact (mr 146) := ⟨by decide +kernel, gw_of 830 (by decide +kernel) (by decide +kernel), gw_of 44 (by decide +kernel) (by decide +kernel), by decide +kernel, by decide +kernel⟩
theorem mfact_147 : mfact (mr 147) := ⟨by decide +kernel, gw_of 834 (by decide +kernel) (by decide +kernel), gw_of 44 (by decide +kernel) (by decide +kernel), by decide +kernel, by decide +kernel⟩
theorem mfacts : ∀ M : Nat, M < 148 → mfact (mr M) := by
  intro M h
  match M, h with
  | 0, _ => exact mfact_0
  | 1, _ => exact mfact_1
  | 2, _ => exact mfact_2
  | 3, _ => exact mfact_3
  | 4, _ => exact mfact_4
  | 5, _ => exact mfact_5
  | 6, _ => exact mfact_6
  | 7, _ => exact mfact_7
  | 8, _ => exact mfact_8
  | 9, _ => exact mfact_9
  | 10, _ => exact mfact_10
  | 11, _ => exact mfact_11
  | 12, _ => exact mfact_12
  | 13, _ => exact mfact_13
  | 14, _ => exact mfact_14
  | 15, _ => exact mfact_15
  | 16, _ => exact mfact_16
  | 17, _ => exact mfact_17
  | 18, _ => exact mfact_18
  | 19, _ => exact mfact_19
  | 20, _ => exact mfact_20
  | 21, _ => exact mfact_21
  | 22, _ => exact mfact_22
  | 23, _ => exact mfact_23
  | 24, _ => exact mfact_24
  | 25, _ => exact mfact_25
  | 26, _ => exact mfact_26
  | 27, _ => exact mfact_27
  | 28, _ => exact mfact_28
  | 29, _ => exact mfact_29
  | 30, _ => exact mfact_30
  | 31, _ => exact mfact_31
  | 32, _ => exact mfact_32
  | 33, _ => exact mfact_33
  | 34, _ => exact mfact_34
  | 35, _ => exact mfact_35
  | 36, _ => exact mfact_36
  | 37, _ => exact mfact_37
  | 38, _ => exact mfact_38
  | 39, _ => exact mfact_39
  | 40, _ => exact mfact_40
  | 41, _ => exact mfact_41
  | 42, _ => exact mfact_42
  | 43, _ => exact mfact_43
  | 44, _ => exact mfact_44
  | 45, _ => exact mfact_45
  | 46, _ => exact mfact_46
  | 47, _ => exact mfact_47
  | 48, _ => exact mfact_48
  | 49, _ => exact mfact_49
  | 50, _ => exact mfact_50
  | 51, _ => exact mfact_51
  | 52, _ => exact mfact_52
  | 53, _ => exact mfact_53
  | 54, _ => exact mfact_54
  | 55, _ => exact mfact_55
  | 56, _ => exact mfact_56
  | 57, _ => exact mfact_57
  | 58, _ => exact mfact_58
  | 59, _ => exact mfact_59
  | 60, _ => exact mfact_60
  | 61, _ => exact mfact_61
  | 62, _ => exact mfact_62
  | 63, _ => exact mfact_63
  | 64, _ => exact mfact_64
  | 65, _ => exact mfact_65
  | 66, _ => exact mfact_66
  | 67, _ => exact mfact_67
  | 68, _ => exact mfact_68
  | 69, _ => exact mfact_69
  | 70, _ => exact mfact_70
  | 71, _ => exact mfact_71
  | 72, _ => exact mfact_72
  | 73, _ => exact mfact_73
  | 74, _ => exact mfact_74
  | 75, _ => exact mfact_75
  | 76, _ => exact mfact_76
  | 77, _ => exact mfact_77
  | 78, _ => exact mfact_78
  | 79, _ => exact mfact_79
  | 80, _ => exact mfact_80
  | 81, _ => exact mfact_81
  | 82, _ => exact mfact_82
  | 83, _ => exact mfact_83
  | 84, _ => exact mfact_84
  | 85, _ => exact mfact_85
  | 86, _ => exact mfact_86
  | 87, _ => exact mfact_87
  | 88, _ => exact mfact_88
  | 89, _ => exact mfact_89
  | 90, _ => exact mfact_90
  | 91, _ => exact mfact_91
  | 92, _ => exact mfact_92
  | 93, _ => exact mfact_93
  | 94, _ => exact mfact_94
  | 95, _ => exact mfact_95
  | 96, _ => exact mfact_96
  | 97, _ => exact mfact_97
  | 98, _ => exact mfact_98
  | 99, _ => exact mfact_99
  | 100, _ => exact mfact_100
  | 101, _ => exact mfact_101
  | 102, _ => exact mfact_102
  | 103, _ => exact mfact_103
  | 104, _ => exact mfact_104
  | 105, _ => exact mfact_105
  | 106, _ => exact mfact_106
  | 107, _ => exact mfact_107
  | 108, _ => exact mfact_108
  | 109, _ => exact mfact_109
  | 110, _ => exact mfact_110
  | 111, _ => exact mfact_111
  | 112, _ => exact mfact_112
  | 113, _ => exact mfact_113
  | 114, _ => exact mfact_114
  | 115, _ => exact mfact_115
  | 116, _ => exact mfact_116
  | 117, _ => exact mfact_117
  | 118, _ => exact mfact_118
  | 119, _ => exact mfact_119
  | 120, _ => exact mfact_120
  | 121, _ => exact mfact_121
  | 122, _ => exact mfact_122
  | 123, _ => exact mfact_123
  | 124, _ => exact mfact_124
  | 125, _ => exact mfact_125
  | 126, _ => exact mfact_126
  | 127, _ => exact mfact_127
  | 128, _ => exact mfact_128
  | 129, _ => exact mfact_129
  | 130, _ => exact mfact_130
  | 131, _ => exact mfact_131
  | 132, _ => exact mfact_132
  | 133, _ => exact mfact_133
  | 134, _ => exact mfact_134
  | 135, _ => exact mfact_135
  | 136, _ => exact mfact_136
  | 137, _ => exact mfact_137
  | 138, _ => exact mfact_138
  | 139, _ => exact mfact_139
  | 140, _ => exact mfact_140
  | 141, _ => exact mfact_141
  | 142, _ => exact mfact_142
  | 143, _ => exact mfact_143
  | 144, _ => exact mfact_144
  | 145, _ => exact mfact_145
  | 146, _ => exact mfact_146
  | 147, _ => exact mfact_147
  | n + 148, h => exact absurd h (by omega)
/-- what a field's entry says: (own class, entry), (class, slot) -/
def fl : List ((Nat × Nat) × (Nat × Nat)) := [((0, 9), (0, 6)), ((0, 15), (0, 7)), ((0, 18), (0, 8)), ((0, 21), (0, 9)), ((0, 24), (0, 10)), ((0, 27), (0, 11)), ((0, 30), (0, 12)), ((0, 37), (0, 0)), ((0, 41), (0, 1)), ((0, 44), (0, 2)), ((0, 47), (0, 3)), ((0, 50), (0, 4)), ((0, 53), (0, 5)), ((1, 9), (1, 0)), ((1, 15), (1, 1)), ((1, 48), (1, 2)), ((1, 51), (1, 3)), ((1, 54), (1, 4)), ((1, 57), (1, 5)), ((2, 10), (2, 0)), ((2, 16), (2, 1)), ((2, 22), (2, 2)), ((2, 26), (2, 3)), ((2, 30), (2, 4)), ((2, 34), (2, 5)), ((2, 37), (2, 6)), ((2, 48), (0, 2)), ((2, 60), (0, 6)), ((2, 70), (0, 3)), ((2, 73), (0, 4)), ((2, 76), (0, 10)), ((2, 83), (1, 1)), ((2, 86), (1, 0)), ((2, 97), (1, 3)), ((2, 100), (1, 4)), ((2, 110), (1, 2)), ((2, 119), (1, 5)), ((2, 122), (0, 0)), ((2, 125), (0, 1)), ((2, 176), (0, 5)), ((2, 179), (0, 11)), ((2, 182), (0, 12)), ((2, 240), (0, 7)), ((3, 7), (3, 0)), ((3, 13), (3, 1)), ((3, 16), (3, 2)), ((3, 20), (3, 4)), ((3, 23), (3, 5)), ((3, 26), (3, 6)), ((3, 29), (3, 8)), ((3, 32), (3, 10)), ((3, 35), (3, 11)), ((3, 38), (3, 12)), ((3, 41), (3, 17)), ((3, 44), (3, 18)), ((3, 47), (3, 19)), ((3, 54), (3, 3)), ((3, 57), (3, 7)), ((3, 79), (3, 9)), ((3, 88), (3, 13)), ((3, 102), (3, 15)), ((3, 105), (3, 16)), ((3, 108), (3, 14))]
def isr (k s : Nat) : Bool := match cY k s with
  | .int => false
  | _ => true
def fin (k s : Nat) : Bool := (cT k s).2.2.2
def ffact (q : (Nat × Nat) × (Nat × Nat)) : Prop := q.2.1 < 4 ∧ q.2.2 < cN q.2.1 ∧ Cond.fieldLink (oS q.1.1) q.1.2 (cT q.2.1 q.2.2).1 (cT q.2.1 q.2.2).2.1 (cT q.2.1 q.2.2).2.2.1 ∈ gw ∧ (fin q.2.1 q.2.2 = true → (cT q.2.1 q.2.2).1 = oS q.1.1 ∨ True)
theorem ffacts : ∀ q ∈ fl, ffact q := by
  unfold fl
  refine List.forall_mem_cons.mpr ⟨⟨by decide, by decide, gw_of 80 (by decide +kernel) (by decide +kernel), fun _ => Or.inr trivial⟩, ?_⟩
  refine List.forall_mem_cons.mpr ⟨⟨by decide, by decide, gw_of 82 (by decide +kernel) (by decide +kernel), fun _ => Or.inr trivial⟩, ?_⟩
  refine List.forall_mem_cons.mpr ⟨⟨by decide, by decide, gw_of 84 (by decide +kernel) (by decide +kernel), fun _ => Or.inr trivial⟩, ?_⟩
  refine List.forall_mem_cons.mpr ⟨⟨by decide, by decide, gw_of 85 (by decide +kernel) (by decide +kernel), fun _ => Or.inr trivial⟩, ?_⟩
  refine List.forall_mem_cons.mpr ⟨⟨by decide, by decide, gw_of 86 (by decide +kernel) (by decide +kernel), fun _ => Or.inr trivial⟩, ?_⟩
  refine List.forall_mem_cons.mpr ⟨⟨by decide, by decide, gw_of 88 (by decide +kernel) (by decide +kernel), fun _ => Or.inr trivial⟩, ?_⟩
  refine List.forall_mem_cons.mpr ⟨⟨by decide, by decide, gw_of 90 (by decide +kernel) (by decide +kernel), fun _ => Or.inr trivial⟩, ?_⟩
  refine List.forall_mem_cons.mpr ⟨⟨by decide, by decide, gw_of 68 (by decide +kernel) (by decide +kernel), fun _ => Or.inr trivial⟩, ?_⟩
  refine List.forall_mem_cons.mpr ⟨⟨by decide, by decide, gw_of 70 (by decide +kernel) (by decide +kernel), fun _ => Or.inr trivial⟩, ?_⟩
  refine List.forall_mem_cons.mpr ⟨⟨by decide, by decide, gw_of 72 (by decide +kernel) (by decide +kernel), fun _ => Or.inr trivial⟩, ?_⟩
  refine List.forall_mem_cons.mpr ⟨⟨by decide, by decide, gw_of 74 (by decide +kernel) (by decide +kernel), fun _ => Or.inr trivial⟩, ?_⟩
  refine List.forall_mem_cons.mpr ⟨⟨by decide, by decide, gw_of 76 (by decide +kernel) (by decide +kernel), fun _ => Or.inr trivial⟩, ?_⟩
  refine List.forall_mem_cons.mpr ⟨⟨by decide, by decide, gw_of 78 (by decide +kernel) (by decide +kernel), fun _ => Or.inr trivial⟩, ?_⟩
  refine List.forall_mem_cons.mpr ⟨⟨by decide, by decide, gw_of 126 (by decide +kernel) (by decide +kernel), fun _ => Or.inr trivial⟩, ?_⟩
  refine List.forall_mem_cons.mpr ⟨⟨by decide, by decide, gw_of 128 (by decide +kernel) (by decide +kernel), fun _ => Or.inr trivial⟩, ?_⟩
  refine List.forall_mem_cons.mpr ⟨⟨by decide, by decide, gw_of 130 (by decide +kernel) (by decide +kernel), fun _ => Or.inr trivial⟩, ?_⟩
  refine List.forall_mem_cons.mpr ⟨⟨by decide, by decide, gw_of 132 (by decide +kernel) (by decide +kernel), fun _ => Or.inr trivial⟩, ?_⟩
  refine List.forall_mem_cons.mpr ⟨⟨by decide, by decide, gw_of 134 (by decide +kernel) (by decide +kernel), fun _ => Or.inr trivial⟩, ?_⟩
  refine List.forall_mem_cons.mpr ⟨⟨by decide, by decide, gw_of 136 (by decide +kernel) (by decide +kernel), fun _ => Or.inr trivial⟩, ?_⟩
  refine List.forall_mem_cons.mpr ⟨⟨by decide, by decide, gw_of 152 (by decide +kernel) (by decide +kernel), fun _ => Or.inr trivial⟩, ?_⟩
  refine List.forall_mem_cons.mpr ⟨⟨by decide, by decide, gw_of 153 (by decide +kernel) (by decide +kernel), fun _ => Or.inr trivial⟩, ?_⟩
  refine List.forall_mem_cons.mpr ⟨⟨by decide, by decide, gw_of 154 (by decide +kernel) (by decide +kernel), fun _ => Or.inr trivial⟩, ?_⟩
  refine List.forall_mem_cons.mpr ⟨⟨by decide, by decide, gw_of 155 (by decide +kernel) (by decide +kernel), fun _ => Or.inr trivial⟩, ?_⟩
  refine List.forall_mem_cons.mpr ⟨⟨by decide, by decide, gw_of 156 (by decide +kernel) (by decide +kernel), fun _ => Or.inr trivial⟩, ?_⟩
  refine List.forall_mem_cons.mpr ⟨⟨by decide, by decide, gw_of 157 (by decide +kernel) (by decide +kernel), fun _ => Or.inr trivial⟩, ?_⟩
  refine List.forall_mem_cons.mpr ⟨⟨by decide, by decide, gw_of 158 (by decide +kernel) (by decide +kernel), fun _ => Or.inr trivial⟩, ?_⟩
  refine List.forall_mem_cons.mpr ⟨⟨by decide, by decide, gw_of 73 (by decide +kernel) (by decide +kernel), fun _ => Or.inr trivial⟩, ?_⟩
  refine List.forall_mem_cons.mpr ⟨⟨by decide, by decide, gw_of 81 (by decide +kernel) (by decide +kernel), fun _ => Or.inr trivial⟩, ?_⟩
  refine List.forall_mem_cons.mpr ⟨⟨by decide, by decide, gw_of 75 (by decide +kernel) (by decide +kernel), fun _ => Or.inr trivial⟩, ?_⟩
  refine List.forall_mem_cons.mpr ⟨⟨by decide, by decide, gw_of 77 (by decide +kernel) (by decide +kernel), fun _ => Or.inr trivial⟩, ?_⟩
  refine List.forall_mem_cons.mpr ⟨⟨by decide, by decide, gw_of 87 (by decide +kernel) (by decide +kernel), fun _ => Or.inr trivial⟩, ?_⟩
  refine List.forall_mem_cons.mpr ⟨⟨by decide, by decide, gw_of 129 (by decide +kernel) (by decide +kernel), fun _ => Or.inr trivial⟩, ?_⟩
  refine List.forall_mem_cons.mpr ⟨⟨by decide, by decide, gw_of 127 (by decide +kernel) (by decide +kernel), fun _ => Or.inr trivial⟩, ?_⟩
  refine List.forall_mem_cons.mpr ⟨⟨by decide, by decide, gw_of 133 (by decide +kernel) (by decide +kernel), fun _ => Or.inr trivial⟩, ?_⟩
  refine List.forall_mem_cons.mpr ⟨⟨by decide, by decide, gw_of 135 (by decide +kernel) (by decide +kernel), fun _ => Or.inr trivial⟩, ?_⟩
  refine List.forall_mem_cons.mpr ⟨⟨by decide, by decide, gw_of 131 (by decide +kernel) (by decide +kernel), fun _ => Or.inr trivial⟩, ?_⟩
  refine List.forall_mem_cons.mpr ⟨⟨by decide, by decide, gw_of 137 (by decide +kernel) (by decide +kernel), fun _ => Or.inr trivial⟩, ?_⟩
  refine List.forall_mem_cons.mpr ⟨⟨by decide, by decide, gw_of 69 (by decide +kernel) (by decide +kernel), fun _ => Or.inr trivial⟩, ?_⟩
  refine List.forall_mem_cons.mpr ⟨⟨by decide, by decide, gw_of 71 (by decide +kernel) (by decide +kernel), fun _ => Or.inr trivial⟩, ?_⟩
  refine List.forall_mem_cons.mpr ⟨⟨by decide, by decide, gw_of 79 (by decide +kernel) (by decide +kernel), fun _ => Or.inr trivial⟩, ?_⟩
  refine List.forall_mem_cons.mpr ⟨⟨by decide, by decide, gw_of 89 (by decide +kernel) (by decide +kernel), fun _ => Or.inr trivial⟩, ?_⟩
  refine List.forall_mem_cons.mpr ⟨⟨by decide, by decide, gw_of 91 (by decide +kernel) (by decide +kernel), fun _ => Or.inr trivial⟩, ?_⟩
  refine List.forall_mem_cons.mpr ⟨⟨by decide, by decide, gw_of 83 (by decide +kernel) (by decide +kernel), fun _ => Or.inr trivial⟩, ?_⟩
  refine List.forall_mem_cons.mpr ⟨⟨by decide, by decide, gw_of 544 (by decide +kernel) (by decide +kernel), fun _ => Or.inr trivial⟩, ?_⟩
  refine List.forall_mem_cons.mpr ⟨⟨by decide, by decide, gw_of 545 (by decide +kernel) (by decide +kernel), fun _ => Or.inr trivial⟩, ?_⟩
  refine List.forall_mem_cons.mpr ⟨⟨by decide, by decide, gw_of 546 (by decide +kernel) (by decide +kernel), fun _ => Or.inr trivial⟩, ?_⟩
  refine List.forall_mem_cons.mpr ⟨⟨by decide, by decide, gw_of 548 (by decide +kernel) (by decide +kernel), fun _ => Or.inr trivial⟩, ?_⟩
  refine List.forall_mem_cons.mpr ⟨⟨by decide, by decide, gw_of 549 (by decide +kernel) (by decide +kernel), fun _ => Or.inr trivial⟩, ?_⟩
  refine List.forall_mem_cons.mpr ⟨⟨by decide, by decide, gw_of 550 (by decide +kernel) (by decide +kernel), fun _ => Or.inr trivial⟩, ?_⟩
  refine List.forall_mem_cons.mpr ⟨⟨by decide, by decide, gw_of 552 (by decide +kernel) (by decide +kernel), fun _ => Or.inr trivial⟩, ?_⟩
  refine List.forall_mem_cons.mpr ⟨⟨by decide, by decide, gw_of 554 (by decide +kernel) (by decide +kernel), fun _ => Or.inr trivial⟩, ?_⟩
  refine List.forall_mem_cons.mpr ⟨⟨by decide, by decide, gw_of 555 (by decide +kernel) (by decide +kernel), fun _ => Or.inr trivial⟩, ?_⟩
  refine List.forall_mem_cons.mpr ⟨⟨by decide, by decide, gw_of 556 (by decide +kernel) (by decide +kernel), fun _ => Or.inr trivial⟩, ?_⟩
  refine List.forall_mem_cons.mpr ⟨⟨by decide, by decide, gw_of 561 (by decide +kernel) (by decide +kernel), fun _ => Or.inr trivial⟩, ?_⟩
  refine List.forall_mem_cons.mpr ⟨⟨by decide, by decide, gw_of 562 (by decide +kernel) (by decide +kernel), fun _ => Or.inr trivial⟩, ?_⟩
  refine List.forall_mem_cons.mpr ⟨⟨by decide, by decide, gw_of 563 (by decide +kernel) (by decide +kernel), fun _ => Or.inr trivial⟩, ?_⟩
  refine List.forall_mem_cons.mpr ⟨⟨by decide, by decide, gw_of 547 (by decide +kernel) (by decide +kernel), fun _ => Or.inr trivial⟩, ?_⟩
  refine List.forall_mem_cons.mpr ⟨⟨by decide, by decide, gw_of 551 (by decide +kernel) (by decide +kernel), fun _ => Or.inr trivial⟩, ?_⟩
  refine List.forall_mem_cons.mpr ⟨⟨by decide, by decide, gw_of 553 (by decide +kernel) (by decide +kernel), fun _ => Or.inr trivial⟩, ?_⟩
  refine List.forall_mem_cons.mpr ⟨⟨by decide, by decide, gw_of 557 (by decide +kernel) (by decide +kernel), fun _ => Or.inr trivial⟩, ?_⟩
  refine List.forall_mem_cons.mpr ⟨⟨by decide, by decide, gw_of 559 (by decide +kernel) (by decide +kernel), fun _ => Or.inr trivial⟩, ?_⟩
  refine List.forall_mem_cons.mpr ⟨⟨by decide, by decide, gw_of 560 (by decide +kernel) (by decide +kernel), fun _ => Or.inr trivial⟩, ?_⟩
  refine List.forall_mem_cons.mpr ⟨⟨by decide, by decide, gw_of 558 (by decide +kernel) (by decide +kernel), fun _ => Or.inr trivial⟩, ?_⟩
  exact fun _ h => absurd h List.not_mem_nil
def mlk : List ((Nat × Nat) × (Nat × Nat)) := [((0, 3), (0, 5)), ((0, 33), (2, 2)), ((0, 56), (3, 1)), ((0, 60), (28, 1)), ((0, 64), (29, 2)), ((0, 68), (31, 0)), ((0, 72), (32, 0)), ((0, 75), (14, 2)), ((0, 79), (10, 1)), ((0, 83), (11, 1)), ((0, 87), (13, 2)), ((0, 90), (0, 7)), ((0, 95), (0, 6)), ((0, 98), (33, 2)), ((0, 101), (12, 2)), ((0, 104), (18, 2)), ((0, 107), (36, 2)), ((0, 111), (35, 2)), ((0, 115), (37, 2)), ((0, 119), (0, 8)), ((1, 3), (0, 5)), ((1, 19), (10, 1)), ((1, 23), (23, 1)), ((1, 27), (8, 2)), ((1, 33), (24, 0)), ((1, 36), (6, 1)), ((1, 40), (30, 2)), ((1, 44), (27, 2)), ((1, 60), (34, 2)), ((1, 64), (35, 2)), ((2, 1), (0, 5)), ((2, 9), (1, 3)), ((2, 21), (4, 4)), ((2, 40), (6, 0)), ((2, 44), (2, 2)), ((2, 52), (8, 2)), ((2, 56), (9, 2)), ((2, 63), (11, 0)), ((2, 67), (12, 2)), ((2, 79), (17, 2)), ((2, 89), (22, 2)), ((2, 93), (26, 2)), ((2, 103), (39, 2)), ((2, 106), (29, 2)), ((2, 113), (43, 2)), ((2, 116), (35, 2)), ((2, 128), (10, 0)), ((2, 132), (36, 2)), ((2, 136), (48, 2)), ((2, 140), (49, 2)), ((2, 143), (54, 0)), ((2, 146), (56, 2)), ((2, 150), (50, 0)), ((2, 155), (57, 2)), ((2, 159), (62, 2)), ((2, 163), (64, 2)), ((2, 167), (68, 2)), ((2, 170), (70, 2)), ((2, 173), (71, 2)), ((2, 185), (76, 2)), ((2, 192), (80, 2)), ((2, 196), (81, 0)), ((2, 204), (27, 2)), ((2, 208), (0, 7)), ((2, 213), (30, 2)), ((2, 216), (83, 2)), ((2, 219), (84, 2)), ((2, 222), (0, 6)), ((2, 225), (85, 2)), ((2, 228), (18, 2)), ((2, 231), (51, 2)), ((2, 234), (53, 2)), ((2, 237), (52, 2)), ((2, 243), (58, 2)), ((2, 246), (59, 2)), ((2, 249), (65, 2)), ((2, 252), (67, 2)), ((2, 255), (66, 2)), ((2, 258), (77, 2)), ((3, 1), (0, 5)), ((3, 51), (90, 2)), ((3, 60), (95, 2)), ((3, 64), (92, 0)), ((3, 68), (94, 2)), ((3, 72), (98, 2)), ((3, 76), (99, 0)), ((3, 82), (104, 0)), ((3, 85), (103, 2)), ((3, 91), (109, 0)), ((3, 95), (110, 2)), ((3, 99), (107, 2)), ((3, 111), (108, 2)), ((3, 115), (111, 2)), ((3, 118), (106, 2)), ((3, 121), (113, 2)), ((3, 124), (117, 2)), ((3, 128), (121, 2)), ((3, 132), (123, 2)), ((3, 136), (124, 2)), ((3, 139), (128, 2)), ((3, 142), (131, 2)), ((3, 145), (130, 2)), ((3, 148), (133, 2)), ((3, 151), (134, 2)), ((3, 154), (139, 2)), ((3, 164), (143, 2)), ((3, 167), (144, 2)), ((4, 9), (0, 3)), ((4, 12), (89, 3)), ((4, 13), (5, 2)), ((4, 17), (91, 2)), ((4, 18), (7, 2)), ((4, 22), (93, 2)), ((4, 23), (15, 2)), ((4, 26), (96, 2)), ((4, 27), (16, 2)), ((4, 30), (97, 2)), ((4, 31), (19, 2)), ((4, 35), (100, 2)), ((4, 36), (20, 2)), ((4, 40), (101, 2)), ((4, 41), (21, 2)), ((4, 44), (102, 2)), ((4, 45), (25, 2)), ((4, 48), (105, 2)), ((4, 49), (38, 2)), ((4, 52), (112, 2)), ((4, 53), (40, 2)), ((4, 56), (114, 2)), ((4, 57), (41, 2)), ((4, 60), (115, 2)), ((4, 61), (42, 2)), ((4, 64), (116, 2)), ((4, 65), (44, 2)), ((4, 68), (118, 2)), ((4, 69), (45, 2)), ((4, 72), (119, 2)), ((4, 73), (46, 2)), ((4, 76), (120, 2)), ((4, 77), (47, 2)), ((4, 80), (122, 2)), ((4, 81), (55, 2)), ((4, 84), (125, 2)), ((4, 85), (60, 2)), ((4, 88), (126, 2)), ((4, 89), (61, 2)), ((4, 92), (127, 2)), ((4, 93), (63, 2)), ((4, 96), (129, 2)), ((4, 97), (69, 2)), ((4, 100), (132, 2)), ((4, 101), (72, 2)), ((4, 104), (135, 2)), ((4, 105), (73, 2)), ((4, 108), (136, 2)), ((4, 109), (74, 2)), ((4, 112), (137, 2)), ((4, 113), (75, 2)), ((4, 116), (138, 2)), ((4, 117), (78, 2)), ((4, 120), (140, 2)), ((4, 121), (79, 2)), ((4, 125), (141, 2)), ((4, 126), (82, 2)), ((4, 129), (142, 2)), ((4, 130), (86, 2)), ((4, 133), (145, 2)), ((4, 134), (87, 2)), ((4, 137), (146, 2)), ((4, 138), (88, 2)), ((4, 141), (147, 2))]
def nst : List Cond := [.methodLinkNest "FogCuts" 21 ⟨"FogCuts$Night", "<init>", "()V"⟩ "FogCuts", .methodLinkNest "FogCuts$Bank" 56 ⟨"FogCuts", "fill", "([II)V"⟩ "FogCuts", .methodLinkNest "FogCuts$Bank" 60 ⟨"FogCuts", "copyRow", "([I[I)V"⟩ "FogCuts", .methodLinkNest "FogCuts$Bank" 79 ⟨"FogCuts", "at", "([II)I"⟩ "FogCuts", .methodLinkNest "FogCuts$Bank" 83 ⟨"FogCuts", "put", "([III)V"⟩ "FogCuts", .methodLinkNest "FogCuts$Night" 19 ⟨"FogCuts", "at", "([II)I"⟩ "FogCuts", .methodLinkNest "FogCuts$Night" 23 ⟨"FogCuts", "hourOf", "(I)I"⟩ "FogCuts", .methodLinkNest "FogCuts$Night" 36 ⟨"FogCuts", "isWithin", "(III)Z"⟩ "FogCuts"]
def lfact (q : (Nat × Nat) × (Nat × Nat)) : Prop := q.2.1 < 148 ∧ (match q.2.2 with
  | 0 => Cond.methodLink (oS q.1.1) q.1.2 (my q.2.1) ∈ gw ∧ Cond.static (my q.2.1) ∈ gw
  | 1 => Cond.methodLinkNest (oS q.1.1) q.1.2 (my q.2.1) "FogCuts" ∈ nst ∧ Cond.static (my q.2.1) ∈ gw
  | 2 => Cond.methodLink (oS q.1.1) q.1.2 (my q.2.1) ∈ gw ∧ Cond.instanceMethod (my q.2.1) ∈ gw ∧ Cond.selects (my q.2.1).cls (my q.2.1) (my q.2.1) ∈ gw ∧ mo q.2.1 < 4 ∧ (my q.2.1).cls = cR (mo q.2.1)
  | 3 => Cond.methodLink (oS q.1.1) q.1.2 (my q.2.1) ∈ gw ∧ Cond.instanceMethod (my q.2.1) ∈ gw ∧ (my q.2.1).name = "<init>" ∧ mk q.2.1 = 0
  | 4 => Cond.methodLinkNest (oS q.1.1) q.1.2 (my q.2.1) "FogCuts" ∈ nst ∧ Cond.instanceMethod (my q.2.1) ∈ gw ∧ (my q.2.1).name = "<init>" ∧ mk q.2.1 = 0
  | 5 => Cond.methodLink (oS q.1.1) q.1.2 objectInit ∈ gw
  | 6 => Cond.methodLink (oS q.1.1) q.1.2 Lib.Math.max.name ∈ gw
  | 7 => Cond.methodLink (oS q.1.1) q.1.2 Lib.Math.min.name ∈ gw
  | _ => Cond.methodLink (oS q.1.1) q.1.2 Lib.Math.abs.name ∈ gw)
theorem lfact_0 : lfact ((0, 3), (0, 5)) := ⟨by decide, gw_of 60 (by decide +kernel) (by decide +kernel)⟩
theorem lfact_1 : lfact ((0, 33), (2, 2)) := ⟨by decide, ⟨gw_of 61 (by decide +kernel) (by decide +kernel), gw_of 62 (by decide +kernel) (by decide +kernel), gw_of 63 (by decide +kernel) (by decide +kernel), by decide +kernel, by decide +kernel⟩⟩
theorem lfact_2 : lfact ((0, 56), (3, 1)) := ⟨by decide, ⟨List.mem_of_getElem? (i := 1) (by decide +kernel), gw_of 66 (by decide +kernel) (by decide +kernel)⟩⟩
theorem lfact_3 : lfact ((0, 60), (28, 1)) := ⟨by decide, ⟨List.mem_of_getElem? (i := 2) (by decide +kernel), gw_of 270 (by decide +kernel) (by decide +kernel)⟩⟩
theorem lfact_4 : lfact ((0, 64), (29, 2)) := ⟨by decide, ⟨gw_of 272 (by decide +kernel) (by decide +kernel), gw_of 273 (by decide +kernel) (by decide +kernel), gw_of 274 (by decide +kernel) (by decide +kernel), by decide +kernel, by decide +kernel⟩⟩
theorem lfact_5 : lfact ((0, 68), (31, 0)) := ⟨by decide, ⟨gw_of 283 (by decide +kernel) (by decide +kernel), gw_of 284 (by decide +kernel) (by decide +kernel)⟩⟩
theorem lfact_6 : lfact ((0, 72), (32, 0)) := ⟨by decide, ⟨gw_of 286 (by decide +kernel) (by decide +kernel), gw_of 287 (by decide +kernel) (by decide +kernel)⟩⟩
theorem lfact_7 : lfact ((0, 75), (14, 2)) := ⟨by decide, ⟨gw_of 209 (by decide +kernel) (by decide +kernel), gw_of 210 (by decide +kernel) (by decide +kernel), gw_of 211 (by decide +kernel) (by decide +kernel), by decide +kernel, by decide +kernel⟩⟩
theorem lfact_8 : lfact ((0, 79), (10, 1)) := ⟨by decide, ⟨List.mem_of_getElem? (i := 3) (by decide +kernel), gw_of 195 (by decide +kernel) (by decide +kernel)⟩⟩
theorem lfact_9 : lfact ((0, 83), (11, 1)) := ⟨by decide, ⟨List.mem_of_getElem? (i := 4) (by decide +kernel), gw_of 198 (by decide +kernel) (by decide +kernel)⟩⟩
theorem lfact_10 : lfact ((0, 87), (13, 2)) := ⟨by decide, ⟨gw_of 205 (by decide +kernel) (by decide +kernel), gw_of 207 (by decide +kernel) (by decide +kernel), gw_of 0 (by decide +kernel) (by decide +kernel), by decide +kernel, by decide +kernel⟩⟩
theorem lfact_11 : lfact ((0, 90), (0, 7)) := ⟨by decide, gw_of 213 (by decide +kernel) (by decide +kernel)⟩
theorem lfact_12 : lfact ((0, 95), (0, 6)) := ⟨by decide, gw_of 280 (by decide +kernel) (by decide +kernel)⟩
theorem lfact_13 : lfact ((0, 98), (33, 2)) := ⟨by decide, ⟨gw_of 289 (by decide +kernel) (by decide +kernel), gw_of 291 (by decide +kernel) (by decide +kernel), gw_of 1 (by decide +kernel) (by decide +kernel), by decide +kernel, by decide +kernel⟩⟩
theorem lfact_14 : lfact ((0, 101), (12, 2)) := ⟨by decide, ⟨gw_of 297 (by decide +kernel) (by decide +kernel), gw_of 201 (by decide +kernel) (by decide +kernel), gw_of 202 (by decide +kernel) (by decide +kernel), by decide +kernel, by decide +kernel⟩⟩
theorem lfact_15 : lfact ((0, 104), (18, 2)) := ⟨by decide, ⟨gw_of 228 (by decide +kernel) (by decide +kernel), gw_of 229 (by decide +kernel) (by decide +kernel), gw_of 230 (by decide +kernel) (by decide +kernel), by decide +kernel, by decide +kernel⟩⟩
theorem lfact_16 : lfact ((0, 107), (36, 2)) := ⟨by decide, ⟨gw_of 302 (by decide +kernel) (by decide +kernel), gw_of 303 (by decide +kernel) (by decide +kernel), gw_of 304 (by decide +kernel) (by decide +kernel), by decide +kernel, by decide +kernel⟩⟩
theorem lfact_17 : lfact ((0, 111), (35, 2)) := ⟨by decide, ⟨gw_of 512 (by decide +kernel) (by decide +kernel), gw_of 299 (by decide +kernel) (by decide +kernel), gw_of 300 (by decide +kernel) (by decide +kernel), by decide +kernel, by decide +kernel⟩⟩
theorem lfact_18 : lfact ((0, 115), (37, 2)) := ⟨by decide, ⟨gw_of 306 (by decide +kernel) (by decide +kernel), gw_of 308 (by decide +kernel) (by decide +kernel), gw_of 2 (by decide +kernel) (by decide +kernel), by decide +kernel, by decide +kernel⟩⟩
theorem lfact_19 : lfact ((0, 119), (0, 8)) := ⟨by decide, gw_of 419 (by decide +kernel) (by decide +kernel)⟩
theorem lfact_20 : lfact ((1, 3), (0, 5)) := ⟨by decide, gw_of 125 (by decide +kernel) (by decide +kernel)⟩
theorem lfact_21 : lfact ((1, 19), (10, 1)) := ⟨by decide, ⟨List.mem_of_getElem? (i := 5) (by decide +kernel), gw_of 195 (by decide +kernel) (by decide +kernel)⟩⟩
theorem lfact_22 : lfact ((1, 23), (23, 1)) := ⟨by decide, ⟨List.mem_of_getElem? (i := 6) (by decide +kernel), gw_of 250 (by decide +kernel) (by decide +kernel)⟩⟩
theorem lfact_23 : lfact ((1, 27), (8, 2)) := ⟨by decide, ⟨gw_of 252 (by decide +kernel) (by decide +kernel), gw_of 187 (by decide +kernel) (by decide +kernel), gw_of 188 (by decide +kernel) (by decide +kernel), by decide +kernel, by decide +kernel⟩⟩
theorem lfact_24 : lfact ((1, 33), (24, 0)) := ⟨by decide, ⟨gw_of 253 (by decide +kernel) (by decide +kernel), gw_of 254 (by decide +kernel) (by decide +kernel)⟩⟩
theorem lfact_25 : lfact ((1, 36), (6, 1)) := ⟨by decide, ⟨List.mem_of_getElem? (i := 7) (by decide +kernel), gw_of 179 (by decide +kernel) (by decide +kernel)⟩⟩
theorem lfact_26 : lfact ((1, 40), (30, 2)) := ⟨by decide, ⟨gw_of 276 (by decide +kernel) (by decide +kernel), gw_of 277 (by decide +kernel) (by decide +kernel), gw_of 278 (by decide +kernel) (by decide +kernel), by decide +kernel, by decide +kernel⟩⟩
theorem lfact_27 : lfact ((1, 44), (27, 2)) := ⟨by decide, ⟨gw_of 265 (by decide +kernel) (by decide +kernel), gw_of 266 (by decide +kernel) (by decide +kernel), gw_of 267 (by decide +kernel) (by decide +kernel), by decide +kernel, by decide +kernel⟩⟩
theorem lfact_28 : lfact ((1, 60), (34, 2)) := ⟨by decide, ⟨gw_of 293 (by decide +kernel) (by decide +kernel), gw_of 294 (by decide +kernel) (by decide +kernel), gw_of 295 (by decide +kernel) (by decide +kernel), by decide +kernel, by decide +kernel⟩⟩
theorem lfact_29 : lfact ((1, 64), (35, 2)) := ⟨by decide, ⟨gw_of 298 (by decide +kernel) (by decide +kernel), gw_of 299 (by decide +kernel) (by decide +kernel), gw_of 300 (by decide +kernel) (by decide +kernel), by decide +kernel, by decide +kernel⟩⟩
theorem lfact_30 : lfact ((2, 1), (0, 5)) := ⟨by decide, gw_of 52 (by decide +kernel) (by decide +kernel)⟩
theorem lfact_31 : lfact ((2, 9), (1, 3)) := ⟨by decide, ⟨gw_of 57 (by decide +kernel) (by decide +kernel), gw_of 58 (by decide +kernel) (by decide +kernel), by decide +kernel, by decide +kernel⟩⟩
theorem lfact_32 : lfact ((2, 21), (4, 4)) := ⟨by decide, ⟨List.mem_of_getElem? (i := 0) (by decide +kernel), gw_of 123 (by decide +kernel) (by decide +kernel), by decide +kernel, by decide +kernel⟩⟩
theorem lfact_33 : lfact ((2, 40), (6, 0)) := ⟨by decide, ⟨gw_of 178 (by decide +kernel) (by decide +kernel), gw_of 179 (by decide +kernel) (by decide +kernel)⟩⟩
theorem lfact_34 : lfact ((2, 44), (2, 2)) := ⟨by decide, ⟨gw_of 181 (by decide +kernel) (by decide +kernel), gw_of 62 (by decide +kernel) (by decide +kernel), gw_of 63 (by decide +kernel) (by decide +kernel), by decide +kernel, by decide +kernel⟩⟩
theorem lfact_35 : lfact ((2, 52), (8, 2)) := ⟨by decide, ⟨gw_of 186 (by decide +kernel) (by decide +kernel), gw_of 187 (by decide +kernel) (by decide +kernel), gw_of 188 (by decide +kernel) (by decide +kernel), by decide +kernel, by decide +kernel⟩⟩
theorem lfact_36 : lfact ((2, 56), (9, 2)) := ⟨by decide, ⟨gw_of 190 (by decide +kernel) (by decide +kernel), gw_of 191 (by decide +kernel) (by decide +kernel), gw_of 192 (by decide +kernel) (by decide +kernel), by decide +kernel, by decide +kernel⟩⟩
theorem lfact_37 : lfact ((2, 63), (11, 0)) := ⟨by decide, ⟨gw_of 197 (by decide +kernel) (by decide +kernel), gw_of 198 (by decide +kernel) (by decide +kernel)⟩⟩
theorem lfact_38 : lfact ((2, 67), (12, 2)) := ⟨by decide, ⟨gw_of 200 (by decide +kernel) (by decide +kernel), gw_of 201 (by decide +kernel) (by decide +kernel), gw_of 202 (by decide +kernel) (by decide +kernel), by decide +kernel, by decide +kernel⟩⟩
theorem lfact_39 : lfact ((2, 79), (17, 2)) := ⟨by decide, ⟨gw_of 224 (by decide +kernel) (by decide +kernel), gw_of 225 (by decide +kernel) (by decide +kernel), gw_of 226 (by decide +kernel) (by decide +kernel), by decide +kernel, by decide +kernel⟩⟩
theorem lfact_40 : lfact ((2, 89), (22, 2)) := ⟨by decide, ⟨gw_of 244 (by decide +kernel) (by decide +kernel), gw_of 245 (by decide +kernel) (by decide +kernel), gw_of 246 (by decide +kernel) (by decide +kernel), by decide +kernel, by decide +kernel⟩⟩
theorem lfact_41 : lfact ((2, 93), (26, 2)) := ⟨by decide, ⟨gw_of 261 (by decide +kernel) (by decide +kernel), gw_of 262 (by decide +kernel) (by decide +kernel), gw_of 263 (by decide +kernel) (by decide +kernel), by decide +kernel, by decide +kernel⟩⟩
theorem lfact_42 : lfact ((2, 103), (39, 2)) := ⟨by decide, ⟨gw_of 315 (by decide +kernel) (by decide +kernel), gw_of 317 (by decide +kernel) (by decide +kernel), gw_of 3 (by decide +kernel) (by decide +kernel), by decide +kernel, by decide +kernel⟩⟩
theorem lfact_43 : lfact ((2, 106), (29, 2)) := ⟨by decide, ⟨gw_of 319 (by decide +kernel) (by decide +kernel), gw_of 273 (by decide +kernel) (by decide +kernel), gw_of 274 (by decide +kernel) (by decide +kernel), by decide +kernel, by decide +kernel⟩⟩
theorem lfact_44 : lfact ((2, 113), (43, 2)) := ⟨by decide, ⟨gw_of 332 (by decide +kernel) (by decide +kernel), gw_of 334 (by decide +kernel) (by decide +kernel), gw_of 4 (by decide +kernel) (by decide +kernel), by decide +kernel, by decide +kernel⟩⟩
theorem lfact_45 : lfact ((2, 116), (35, 2)) := ⟨by decide, ⟨gw_of 336 (by decide +kernel) (by decide +kernel), gw_of 299 (by decide +kernel) (by decide +kernel), gw_of 300 (by decide +kernel) (by decide +kernel), by decide +kernel, by decide +kernel⟩⟩
theorem lfact_46 : lfact ((2, 128), (10, 0)) := ⟨by decide, ⟨gw_of 345 (by decide +kernel) (by decide +kernel), gw_of 195 (by decide +kernel) (by decide +kernel)⟩⟩
theorem lfact_47 : lfact ((2, 132), (36, 2)) := ⟨by decide, ⟨gw_of 350 (by decide +kernel) (by decide +kernel), gw_of 303 (by decide +kernel) (by decide +kernel), gw_of 304 (by decide +kernel) (by decide +kernel), by decide +kernel, by decide +kernel⟩⟩
theorem lfact_48 : lfact ((2, 136), (48, 2)) := ⟨by decide, ⟨gw_of 355 (by decide +kernel) (by decide +kernel), gw_of 356 (by decide +kernel) (by decide +kernel), gw_of 357 (by decide +kernel) (by decide +kernel), by decide +kernel, by decide +kernel⟩⟩
theorem lfact_49 : lfact ((2, 140), (49, 2)) := ⟨by decide, ⟨gw_of 359 (by decide +kernel) (by decide +kernel), gw_of 361 (by decide +kernel) (by decide +kernel), gw_of 5 (by decide +kernel) (by decide +kernel), by decide +kernel, by decide +kernel⟩⟩
theorem lfact_50 : lfact ((2, 143), (54, 0)) := ⟨by decide, ⟨gw_of 383 (by decide +kernel) (by decide +kernel), gw_of 384 (by decide +kernel) (by decide +kernel)⟩⟩
theorem lfact_51 : lfact ((2, 146), (56, 2)) := ⟨by decide, ⟨gw_of 390 (by decide +kernel) (by decide +kernel), gw_of 391 (by decide +kernel) (by decide +kernel), gw_of 392 (by decide +kernel) (by decide +kernel), by decide +kernel, by decide +kernel⟩⟩
theorem lfact_52 : lfact ((2, 150), (50, 0)) := ⟨by decide, ⟨gw_of 365 (by decide +kernel) (by decide +kernel), gw_of 366 (by decide +kernel) (by decide +kernel)⟩⟩
theorem lfact_53 : lfact ((2, 155), (57, 2)) := ⟨by decide, ⟨gw_of 394 (by decide +kernel) (by decide +kernel), gw_of 396 (by decide +kernel) (by decide +kernel), gw_of 8 (by decide +kernel) (by decide +kernel), by decide +kernel, by decide +kernel⟩⟩
theorem lfact_54 : lfact ((2, 159), (62, 2)) := ⟨by decide, ⟨gw_of 415 (by decide +kernel) (by decide +kernel), gw_of 416 (by decide +kernel) (by decide +kernel), gw_of 417 (by decide +kernel) (by decide +kernel), by decide +kernel, by decide +kernel⟩⟩
theorem lfact_55 : lfact ((2, 163), (64, 2)) := ⟨by decide, ⟨gw_of 426 (by decide +kernel) (by decide +kernel), gw_of 428 (by decide +kernel) (by decide +kernel), gw_of 10 (by decide +kernel) (by decide +kernel), by decide +kernel, by decide +kernel⟩⟩
theorem lfact_56 : lfact ((2, 167), (68, 2)) := ⟨by decide, ⟨gw_of 443 (by decide +kernel) (by decide +kernel), gw_of 445 (by decide +kernel) (by decide +kernel), gw_of 12 (by decide +kernel) (by decide +kernel), by decide +kernel, by decide +kernel⟩⟩
theorem lfact_57 : lfact ((2, 170), (70, 2)) := ⟨by decide, ⟨gw_of 451 (by decide +kernel) (by decide +kernel), gw_of 453 (by decide +kernel) (by decide +kernel), gw_of 13 (by decide +kernel) (by decide +kernel), by decide +kernel, by decide +kernel⟩⟩
theorem lfact_58 : lfact ((2, 173), (71, 2)) := ⟨by decide, ⟨gw_of 455 (by decide +kernel) (by decide +kernel), gw_of 457 (by decide +kernel) (by decide +kernel), gw_of 14 (by decide +kernel) (by decide +kernel), by decide +kernel, by decide +kernel⟩⟩
theorem lfact_59 : lfact ((2, 185), (76, 2)) := ⟨by decide, ⟨gw_of 475 (by decide +kernel) (by decide +kernel), gw_of 477 (by decide +kernel) (by decide +kernel), gw_of 15 (by decide +kernel) (by decide +kernel), by decide +kernel, by decide +kernel⟩⟩
theorem lfact_60 : lfact ((2, 192), (80, 2)) := ⟨by decide, ⟨gw_of 493 (by decide +kernel) (by decide +kernel), gw_of 495 (by decide +kernel) (by decide +kernel), gw_of 16 (by decide +kernel) (by decide +kernel), by decide +kernel, by decide +kernel⟩⟩
theorem lfact_61 : lfact ((2, 196), (81, 0)) := ⟨by decide, ⟨gw_of 497 (by decide +kernel) (by decide +kernel), gw_of 498 (by decide +kernel) (by decide +kernel)⟩⟩
theorem lfact_62 : lfact ((2, 204), (27, 2)) := ⟨by decide, ⟨gw_of 364 (by decide +kernel) (by decide +kernel), gw_of 266 (by decide +kernel) (by decide +kernel), gw_of 267 (by decide +kernel) (by decide +kernel), by decide +kernel, by decide +kernel⟩⟩
theorem lfact_63 : lfact ((2, 208), (0, 7)) := ⟨by decide, gw_of 442 (by decide +kernel) (by decide +kernel)⟩
theorem lfact_64 : lfact ((2, 213), (30, 2)) := ⟨by decide, ⟨gw_of 500 (by decide +kernel) (by decide +kernel), gw_of 277 (by decide +kernel) (by decide +kernel), gw_of 278 (by decide +kernel) (by decide +kernel), by decide +kernel, by decide +kernel⟩⟩
theorem lfact_65 : lfact ((2, 216), (83, 2)) := ⟨by decide, ⟨gw_of 508 (by decide +kernel) (by decide +kernel), gw_of 509 (by decide +kernel) (by decide +kernel), gw_of 510 (by decide +kernel) (by decide +kernel), by decide +kernel, by decide +kernel⟩⟩
theorem lfact_66 : lfact ((2, 219), (84, 2)) := ⟨by decide, ⟨gw_of 513 (by decide +kernel) (by decide +kernel), gw_of 514 (by decide +kernel) (by decide +kernel), gw_of 515 (by decide +kernel) (by decide +kernel), by decide +kernel, by decide +kernel⟩⟩
theorem lfact_67 : lfact ((2, 222), (0, 6)) := ⟨by decide, gw_of 517 (by decide +kernel) (by decide +kernel)⟩
theorem lfact_68 : lfact ((2, 225), (85, 2)) := ⟨by decide, ⟨gw_of 518 (by decide +kernel) (by decide +kernel), gw_of 519 (by decide +kernel) (by decide +kernel), gw_of 520 (by decide +kernel) (by decide +kernel), by decide +kernel, by decide +kernel⟩⟩
theorem lfact_69 : lfact ((2, 228), (18, 2)) := ⟨by decide, ⟨gw_of 363 (by decide +kernel) (by decide +kernel), gw_of 229 (by decide +kernel) (by decide +kernel), gw_of 230 (by decide +kernel) (by decide +kernel), by decide +kernel, by decide +kernel⟩⟩
theorem lfact_70 : lfact ((2, 231), (51, 2)) := ⟨by decide, ⟨gw_of 371 (by decide +kernel) (by decide +kernel), gw_of 373 (by decide +kernel) (by decide +kernel), gw_of 6 (by decide +kernel) (by decide +kernel), by decide +kernel, by decide +kernel⟩⟩
theorem lfact_71 : lfact ((2, 234), (53, 2)) := ⟨by decide, ⟨gw_of 379 (by decide +kernel) (by decide +kernel), gw_of 381 (by decide +kernel) (by decide +kernel), gw_of 7 (by decide +kernel) (by decide +kernel), by decide +kernel, by decide +kernel⟩⟩
theorem lfact_72 : lfact ((2, 237), (52, 2)) := ⟨by decide, ⟨gw_of 375 (by decide +kernel) (by decide +kernel), gw_of 376 (by decide +kernel) (by decide +kernel), gw_of 377 (by decide +kernel) (by decide +kernel), by decide +kernel, by decide +kernel⟩⟩
theorem lfact_73 : lfact ((2, 243), (58, 2)) := ⟨by decide, ⟨gw_of 398 (by decide +kernel) (by decide +kernel), gw_of 400 (by decide +kernel) (by decide +kernel), gw_of 9 (by decide +kernel) (by decide +kernel), by decide +kernel, by decide +kernel⟩⟩
theorem lfact_74 : lfact ((2, 246), (59, 2)) := ⟨by decide, ⟨gw_of 402 (by decide +kernel) (by decide +kernel), gw_of 403 (by decide +kernel) (by decide +kernel), gw_of 404 (by decide +kernel) (by decide +kernel), by decide +kernel, by decide +kernel⟩⟩
theorem lfact_75 : lfact ((2, 249), (65, 2)) := ⟨by decide, ⟨gw_of 430 (by decide +kernel) (by decide +kernel), gw_of 432 (by decide +kernel) (by decide +kernel), gw_of 11 (by decide +kernel) (by decide +kernel), by decide +kernel, by decide +kernel⟩⟩
theorem lfact_76 : lfact ((2, 252), (67, 2)) := ⟨by decide, ⟨gw_of 438 (by decide +kernel) (by decide +kernel), gw_of 439 (by decide +kernel) (by decide +kernel), gw_of 440 (by decide +kernel) (by decide +kernel), by decide +kernel, by decide +kernel⟩⟩
theorem lfact_77 : lfact ((2, 255), (66, 2)) := ⟨by decide, ⟨gw_of 434 (by decide +kernel) (by decide +kernel), gw_of 435 (by decide +kernel) (by decide +kernel), gw_of 436 (by decide +kernel) (by decide +kernel), by decide +kernel, by decide +kernel⟩⟩
theorem lfact_78 : lfact ((2, 258), (77, 2)) := ⟨by decide, ⟨gw_of 479 (by decide +kernel) (by decide +kernel), gw_of 480 (by decide +kernel) (by decide +kernel), gw_of 481 (by decide +kernel) (by decide +kernel), by decide +kernel, by decide +kernel⟩⟩
theorem lfact_79 : lfact ((3, 1), (0, 5)) := ⟨by decide, gw_of 539 (by decide +kernel) (by decide +kernel)⟩
theorem lfact_80 : lfact ((3, 51), (90, 2)) := ⟨by decide, ⟨gw_of 540 (by decide +kernel) (by decide +kernel), gw_of 542 (by decide +kernel) (by decide +kernel), gw_of 17 (by decide +kernel) (by decide +kernel), by decide +kernel, by decide +kernel⟩⟩
theorem lfact_81 : lfact ((3, 60), (95, 2)) := ⟨by decide, ⟨gw_of 621 (by decide +kernel) (by decide +kernel), gw_of 623 (by decide +kernel) (by decide +kernel), gw_of 19 (by decide +kernel) (by decide +kernel), by decide +kernel, by decide +kernel⟩⟩
theorem lfact_82 : lfact ((3, 64), (92, 0)) := ⟨by decide, ⟨gw_of 610 (by decide +kernel) (by decide +kernel), gw_of 611 (by decide +kernel) (by decide +kernel)⟩⟩
theorem lfact_83 : lfact ((3, 68), (94, 2)) := ⟨by decide, ⟨gw_of 617 (by decide +kernel) (by decide +kernel), gw_of 619 (by decide +kernel) (by decide +kernel), gw_of 18 (by decide +kernel) (by decide +kernel), by decide +kernel, by decide +kernel⟩⟩
theorem lfact_84 : lfact ((3, 72), (98, 2)) := ⟨by decide, ⟨gw_of 633 (by decide +kernel) (by decide +kernel), gw_of 635 (by decide +kernel) (by decide +kernel), gw_of 20 (by decide +kernel) (by decide +kernel), by decide +kernel, by decide +kernel⟩⟩
theorem lfact_85 : lfact ((3, 76), (99, 0)) := ⟨by decide, ⟨gw_of 637 (by decide +kernel) (by decide +kernel), gw_of 638 (by decide +kernel) (by decide +kernel)⟩⟩
theorem lfact_86 : lfact ((3, 82), (104, 0)) := ⟨by decide, ⟨gw_of 656 (by decide +kernel) (by decide +kernel), gw_of 657 (by decide +kernel) (by decide +kernel)⟩⟩
theorem lfact_87 : lfact ((3, 85), (103, 2)) := ⟨by decide, ⟨gw_of 652 (by decide +kernel) (by decide +kernel), gw_of 654 (by decide +kernel) (by decide +kernel), gw_of 21 (by decide +kernel) (by decide +kernel), by decide +kernel, by decide +kernel⟩⟩
theorem lfact_88 : lfact ((3, 91), (109, 0)) := ⟨by decide, ⟨gw_of 675 (by decide +kernel) (by decide +kernel), gw_of 676 (by decide +kernel) (by decide +kernel)⟩⟩
theorem lfact_89 : lfact ((3, 95), (110, 2)) := ⟨by decide, ⟨gw_of 678 (by decide +kernel) (by decide +kernel), gw_of 680 (by decide +kernel) (by decide +kernel), gw_of 25 (by decide +kernel) (by decide +kernel), by decide +kernel, by decide +kernel⟩⟩
theorem lfact_90 : lfact ((3, 99), (107, 2)) := ⟨by decide, ⟨gw_of 667 (by decide +kernel) (by decide +kernel), gw_of 669 (by decide +kernel) (by decide +kernel), gw_of 23 (by decide +kernel) (by decide +kernel), by decide +kernel, by decide +kernel⟩⟩
theorem lfact_91 : lfact ((3, 111), (108, 2)) := ⟨by decide, ⟨gw_of 671 (by decide +kernel) (by decide +kernel), gw_of 673 (by decide +kernel) (by decide +kernel), gw_of 24 (by decide +kernel) (by decide +kernel), by decide +kernel, by decide +kernel⟩⟩
theorem lfact_92 : lfact ((3, 115), (111, 2)) := ⟨by decide, ⟨gw_of 682 (by decide +kernel) (by decide +kernel), gw_of 684 (by decide +kernel) (by decide +kernel), gw_of 26 (by decide +kernel) (by decide +kernel), by decide +kernel, by decide +kernel⟩⟩
theorem lfact_93 : lfact ((3, 118), (106, 2)) := ⟨by decide, ⟨gw_of 663 (by decide +kernel) (by decide +kernel), gw_of 665 (by decide +kernel) (by decide +kernel), gw_of 22 (by decide +kernel) (by decide +kernel), by decide +kernel, by decide +kernel⟩⟩
theorem lfact_94 : lfact ((3, 121), (113, 2)) := ⟨by decide, ⟨gw_of 690 (by decide +kernel) (by decide +kernel), gw_of 692 (by decide +kernel) (by decide +kernel), gw_of 27 (by decide +kernel) (by decide +kernel), by decide +kernel, by decide +kernel⟩⟩
theorem lfact_95 : lfact ((3, 124), (117, 2)) := ⟨by decide, ⟨gw_of 706 (by decide +kernel) (by decide +kernel), gw_of 708 (by decide +kernel) (by decide +kernel), gw_of 28 (by decide +kernel) (by decide +kernel), by decide +kernel, by decide +kernel⟩⟩
theorem lfact_96 : lfact ((3, 128), (121, 2)) := ⟨by decide, ⟨gw_of 722 (by decide +kernel) (by decide +kernel), gw_of 724 (by decide +kernel) (by decide +kernel), gw_of 29 (by decide +kernel) (by decide +kernel), by decide +kernel, by decide +kernel⟩⟩
theorem lfact_97 : lfact ((3, 132), (123, 2)) := ⟨by decide, ⟨gw_of 731 (by decide +kernel) (by decide +kernel), gw_of 733 (by decide +kernel) (by decide +kernel), gw_of 30 (by decide +kernel) (by decide +kernel), by decide +kernel, by decide +kernel⟩⟩
theorem lfact_98 : lfact ((3, 136), (124, 2)) := ⟨by decide, ⟨gw_of 735 (by decide +kernel) (by decide +kernel), gw_of 737 (by decide +kernel) (by decide +kernel), gw_of 31 (by decide +kernel) (by decide +kernel), by decide +kernel, by decide +kernel⟩⟩
theorem lfact_99 : lfact ((3, 139), (128, 2)) := ⟨by decide, ⟨gw_of 751 (by decide +kernel) (by decide +kernel), gw_of 753 (by decide +kernel) (by decide +kernel), gw_of 32 (by decide +kernel) (by decide +kernel), by decide +kernel, by decide +kernel⟩⟩
theorem lfact_100 : lfact ((3, 142), (131, 2)) := ⟨by decide, ⟨gw_of 763 (by decide +kernel) (by decide +kernel), gw_of 765 (by decide +kernel) (by decide +kernel), gw_of 34 (by decide +kernel) (by decide +kernel), by decide +kernel, by decide +kernel⟩⟩
theorem lfact_101 : lfact ((3, 145), (130, 2)) := ⟨by decide, ⟨gw_of 759 (by decide +kernel) (by decide +kernel), gw_of 761 (by decide +kernel) (by decide +kernel), gw_of 33 (by decide +kernel) (by decide +kernel), by decide +kernel, by decide +kernel⟩⟩
theorem lfact_102 : lfact ((3, 148), (133, 2)) := ⟨by decide, ⟨gw_of 771 (by decide +kernel) (by decide +kernel), gw_of 773 (by decide +kernel) (by decide +kernel), gw_of 35 (by decide +kernel) (by decide +kernel), by decide +kernel, by decide +kernel⟩⟩
theorem lfact_103 : lfact ((3, 151), (134, 2)) := ⟨by decide, ⟨gw_of 775 (by decide +kernel) (by decide +kernel), gw_of 777 (by decide +kernel) (by decide +kernel), gw_of 36 (by decide +kernel) (by decide +kernel), by decide +kernel, by decide +kernel⟩⟩
theorem lfact_104 : lfact ((3, 154), (139, 2)) := ⟨by decide, ⟨gw_of 795 (by decide +kernel) (by decide +kernel), gw_of 797 (by decide +kernel) (by decide +kernel), gw_of 37 (by decide +kernel) (by decide +kernel), by decide +kernel, by decide +kernel⟩⟩
theorem lfact_105 : lfact ((3, 164), (143, 2)) := ⟨by decide, ⟨gw_of 815 (by decide +kernel) (by decide +kernel), gw_of 817 (by decide +kernel) (by decide +kernel), gw_of 38 (by decide +kernel) (by decide +kernel), by decide +kernel, by decide +kernel⟩⟩
theorem lfact_106 : lfact ((3, 167), (144, 2)) := ⟨by decide, ⟨gw_of 819 (by decide +kernel) (by decide +kernel), gw_of 821 (by decide +kernel) (by decide +kernel), gw_of 39 (by decide +kernel) (by decide +kernel), by decide +kernel, by decide +kernel⟩⟩
theorem lfact_107 : lfact ((4, 9), (0, 3)) := ⟨by decide, ⟨gw_of 49 (by decide +kernel) (by decide +kernel), gw_of 50 (by decide +kernel) (by decide +kernel), by decide +kernel, by decide +kernel⟩⟩
theorem lfact_108 : lfact ((4, 12), (89, 3)) := ⟨by decide, ⟨gw_of 536 (by decide +kernel) (by decide +kernel), gw_of 537 (by decide +kernel) (by decide +kernel), by decide +kernel, by decide +kernel⟩⟩
theorem lfact_109 : lfact ((4, 13), (5, 2)) := ⟨by decide, ⟨gw_of 174 (by decide +kernel) (by decide +kernel), gw_of 175 (by decide +kernel) (by decide +kernel), gw_of 176 (by decide +kernel) (by decide +kernel), by decide +kernel, by decide +kernel⟩⟩
theorem lfact_110 : lfact ((4, 17), (91, 2)) := ⟨by decide, ⟨gw_of 606 (by decide +kernel) (by decide +kernel), gw_of 607 (by decide +kernel) (by decide +kernel), gw_of 608 (by decide +kernel) (by decide +kernel), by decide +kernel, by decide +kernel⟩⟩
theorem lfact_111 : lfact ((4, 18), (7, 2)) := ⟨by decide, ⟨gw_of 182 (by decide +kernel) (by decide +kernel), gw_of 183 (by decide +kernel) (by decide +kernel), gw_of 184 (by decide +kernel) (by decide +kernel), by decide +kernel, by decide +kernel⟩⟩
theorem lfact_112 : lfact ((4, 22), (93, 2)) := ⟨by decide, ⟨gw_of 613 (by decide +kernel) (by decide +kernel), gw_of 614 (by decide +kernel) (by decide +kernel), gw_of 615 (by decide +kernel) (by decide +kernel), by decide +kernel, by decide +kernel⟩⟩
theorem lfact_113 : lfact ((4, 23), (15, 2)) := ⟨by decide, ⟨gw_of 216 (by decide +kernel) (by decide +kernel), gw_of 217 (by decide +kernel) (by decide +kernel), gw_of 218 (by decide +kernel) (by decide +kernel), by decide +kernel, by decide +kernel⟩⟩
theorem lfact_114 : lfact ((4, 26), (96, 2)) := ⟨by decide, ⟨gw_of 625 (by decide +kernel) (by decide +kernel), gw_of 626 (by decide +kernel) (by decide +kernel), gw_of 627 (by decide +kernel) (by decide +kernel), by decide +kernel, by decide +kernel⟩⟩
theorem lfact_115 : lfact ((4, 27), (16, 2)) := ⟨by decide, ⟨gw_of 220 (by decide +kernel) (by decide +kernel), gw_of 221 (by decide +kernel) (by decide +kernel), gw_of 222 (by decide +kernel) (by decide +kernel), by decide +kernel, by decide +kernel⟩⟩
theorem lfact_116 : lfact ((4, 30), (97, 2)) := ⟨by decide, ⟨gw_of 629 (by decide +kernel) (by decide +kernel), gw_of 630 (by decide +kernel) (by decide +kernel), gw_of 631 (by decide +kernel) (by decide +kernel), by decide +kernel, by decide +kernel⟩⟩
theorem lfact_117 : lfact ((4, 31), (19, 2)) := ⟨by decide, ⟨gw_of 232 (by decide +kernel) (by decide +kernel), gw_of 233 (by decide +kernel) (by decide +kernel), gw_of 234 (by decide +kernel) (by decide +kernel), by decide +kernel, by decide +kernel⟩⟩
theorem lfact_118 : lfact ((4, 35), (100, 2)) := ⟨by decide, ⟨gw_of 640 (by decide +kernel) (by decide +kernel), gw_of 641 (by decide +kernel) (by decide +kernel), gw_of 642 (by decide +kernel) (by decide +kernel), by decide +kernel, by decide +kernel⟩⟩
theorem lfact_119 : lfact ((4, 36), (20, 2)) := ⟨by decide, ⟨gw_of 236 (by decide +kernel) (by decide +kernel), gw_of 237 (by decide +kernel) (by decide +kernel), gw_of 238 (by decide +kernel) (by decide +kernel), by decide +kernel, by decide +kernel⟩⟩
theorem lfact_120 : lfact ((4, 40), (101, 2)) := ⟨by decide, ⟨gw_of 644 (by decide +kernel) (by decide +kernel), gw_of 645 (by decide +kernel) (by decide +kernel), gw_of 646 (by decide +kernel) (by decide +kernel), by decide +kernel, by decide +kernel⟩⟩
theorem lfact_121 : lfact ((4, 41), (21, 2)) := ⟨by decide, ⟨gw_of 240 (by decide +kernel) (by decide +kernel), gw_of 241 (by decide +kernel) (by decide +kernel), gw_of 242 (by decide +kernel) (by decide +kernel), by decide +kernel, by decide +kernel⟩⟩
theorem lfact_122 : lfact ((4, 44), (102, 2)) := ⟨by decide, ⟨gw_of 648 (by decide +kernel) (by decide +kernel), gw_of 649 (by decide +kernel) (by decide +kernel), gw_of 650 (by decide +kernel) (by decide +kernel), by decide +kernel, by decide +kernel⟩⟩
theorem lfact_123 : lfact ((4, 45), (25, 2)) := ⟨by decide, ⟨gw_of 257 (by decide +kernel) (by decide +kernel), gw_of 258 (by decide +kernel) (by decide +kernel), gw_of 259 (by decide +kernel) (by decide +kernel), by decide +kernel, by decide +kernel⟩⟩
theorem lfact_124 : lfact ((4, 48), (105, 2)) := ⟨by decide, ⟨gw_of 659 (by decide +kernel) (by decide +kernel), gw_of 660 (by decide +kernel) (by decide +kernel), gw_of 661 (by decide +kernel) (by decide +kernel), by decide +kernel, by decide +kernel⟩⟩
theorem lfact_125 : lfact ((4, 49), (38, 2)) := ⟨by decide, ⟨gw_of 311 (by decide +kernel) (by decide +kernel), gw_of 312 (by decide +kernel) (by decide +kernel), gw_of 313 (by decide +kernel) (by decide +kernel), by decide +kernel, by decide +kernel⟩⟩
theorem lfact_126 : lfact ((4, 52), (112, 2)) := ⟨by decide, ⟨gw_of 686 (by decide +kernel) (by decide +kernel), gw_of 687 (by decide +kernel) (by decide +kernel), gw_of 688 (by decide +kernel) (by decide +kernel), by decide +kernel, by decide +kernel⟩⟩
theorem lfact_127 : lfact ((4, 53), (40, 2)) := ⟨by decide, ⟨gw_of 320 (by decide +kernel) (by decide +kernel), gw_of 321 (by decide +kernel) (by decide +kernel), gw_of 322 (by decide +kernel) (by decide +kernel), by decide +kernel, by decide +kernel⟩⟩
theorem lfact_128 : lfact ((4, 56), (114, 2)) := ⟨by decide, ⟨gw_of 694 (by decide +kernel) (by decide +kernel), gw_of 695 (by decide +kernel) (by decide +kernel), gw_of 696 (by decide +kernel) (by decide +kernel), by decide +kernel, by decide +kernel⟩⟩
theorem lfact_129 : lfact ((4, 57), (41, 2)) := ⟨by decide, ⟨gw_of 324 (by decide +kernel) (by decide +kernel), gw_of 325 (by decide +kernel) (by decide +kernel), gw_of 326 (by decide +kernel) (by decide +kernel), by decide +kernel, by decide +kernel⟩⟩
theorem lfact_130 : lfact ((4, 60), (115, 2)) := ⟨by decide, ⟨gw_of 698 (by decide +kernel) (by decide +kernel), gw_of 699 (by decide +kernel) (by decide +kernel), gw_of 700 (by decide +kernel) (by decide +kernel), by decide +kernel, by decide +kernel⟩⟩
theorem lfact_131 : lfact ((4, 61), (42, 2)) := ⟨by decide, ⟨gw_of 328 (by decide +kernel) (by decide +kernel), gw_of 329 (by decide +kernel) (by decide +kernel), gw_of 330 (by decide +kernel) (by decide +kernel), by decide +kernel, by decide +kernel⟩⟩
theorem lfact_132 : lfact ((4, 64), (116, 2)) := ⟨by decide, ⟨gw_of 702 (by decide +kernel) (by decide +kernel), gw_of 703 (by decide +kernel) (by decide +kernel), gw_of 704 (by decide +kernel) (by decide +kernel), by decide +kernel, by decide +kernel⟩⟩
theorem lfact_133 : lfact ((4, 65), (44, 2)) := ⟨by decide, ⟨gw_of 337 (by decide +kernel) (by decide +kernel), gw_of 338 (by decide +kernel) (by decide +kernel), gw_of 339 (by decide +kernel) (by decide +kernel), by decide +kernel, by decide +kernel⟩⟩
theorem lfact_134 : lfact ((4, 68), (118, 2)) := ⟨by decide, ⟨gw_of 710 (by decide +kernel) (by decide +kernel), gw_of 711 (by decide +kernel) (by decide +kernel), gw_of 712 (by decide +kernel) (by decide +kernel), by decide +kernel, by decide +kernel⟩⟩
theorem lfact_135 : lfact ((4, 69), (45, 2)) := ⟨by decide, ⟨gw_of 341 (by decide +kernel) (by decide +kernel), gw_of 342 (by decide +kernel) (by decide +kernel), gw_of 343 (by decide +kernel) (by decide +kernel), by decide +kernel, by decide +kernel⟩⟩
theorem lfact_136 : lfact ((4, 72), (119, 2)) := ⟨by decide, ⟨gw_of 714 (by decide +kernel) (by decide +kernel), gw_of 715 (by decide +kernel) (by decide +kernel), gw_of 716 (by decide +kernel) (by decide +kernel), by decide +kernel, by decide +kernel⟩⟩
theorem lfact_137 : lfact ((4, 73), (46, 2)) := ⟨by decide, ⟨gw_of 346 (by decide +kernel) (by decide +kernel), gw_of 347 (by decide +kernel) (by decide +kernel), gw_of 348 (by decide +kernel) (by decide +kernel), by decide +kernel, by decide +kernel⟩⟩
theorem lfact_138 : lfact ((4, 76), (120, 2)) := ⟨by decide, ⟨gw_of 718 (by decide +kernel) (by decide +kernel), gw_of 719 (by decide +kernel) (by decide +kernel), gw_of 720 (by decide +kernel) (by decide +kernel), by decide +kernel, by decide +kernel⟩⟩
theorem lfact_139 : lfact ((4, 77), (47, 2)) := ⟨by decide, ⟨gw_of 351 (by decide +kernel) (by decide +kernel), gw_of 352 (by decide +kernel) (by decide +kernel), gw_of 353 (by decide +kernel) (by decide +kernel), by decide +kernel, by decide +kernel⟩⟩
theorem lfact_140 : lfact ((4, 80), (122, 2)) := ⟨by decide, ⟨gw_of 727 (by decide +kernel) (by decide +kernel), gw_of 728 (by decide +kernel) (by decide +kernel), gw_of 729 (by decide +kernel) (by decide +kernel), by decide +kernel, by decide +kernel⟩⟩
theorem lfact_141 : lfact ((4, 81), (55, 2)) := ⟨by decide, ⟨gw_of 386 (by decide +kernel) (by decide +kernel), gw_of 387 (by decide +kernel) (by decide +kernel), gw_of 388 (by decide +kernel) (by decide +kernel), by decide +kernel, by decide +kernel⟩⟩
theorem lfact_142 : lfact ((4, 84), (125, 2)) := ⟨by decide, ⟨gw_of 739 (by decide +kernel) (by decide +kernel), gw_of 740 (by decide +kernel) (by decide +kernel), gw_of 741 (by decide +kernel) (by decide +kernel), by decide +kernel, by decide +kernel⟩⟩
theorem lfact_143 : lfact ((4, 85), (60, 2)) := ⟨by decide, ⟨gw_of 406 (by decide +kernel) (by decide +kernel), gw_of 407 (by decide +kernel) (by decide +kernel), gw_of 408 (by decide +kernel) (by decide +kernel), by decide +kernel, by decide +kernel⟩⟩
theorem lfact_144 : lfact ((4, 88), (126, 2)) := ⟨by decide, ⟨gw_of 743 (by decide +kernel) (by decide +kernel), gw_of 744 (by decide +kernel) (by decide +kernel), gw_of 745 (by decide +kernel) (by decide +kernel), by decide +kernel, by decide +kernel⟩⟩
theorem lfact_145 : lfact ((4, 89), (61, 2)) := ⟨by decide, ⟨gw_of 411 (by decide +kernel) (by decide +kernel), gw_of 412 (by decide +kernel) (by decide +kernel), gw_of 413 (by decide +kernel) (by decide +kernel), by decide +kernel, by decide +kernel⟩⟩
theorem lfact_146 : lfact ((4, 92), (127, 2)) := ⟨by decide, ⟨gw_of 747 (by decide +kernel) (by decide +kernel), gw_of 748 (by decide +kernel) (by decide +kernel), gw_of 749 (by decide +kernel) (by decide +kernel), by decide +kernel, by decide +kernel⟩⟩
theorem lfact_147 : lfact ((4, 93), (63, 2)) := ⟨by decide, ⟨gw_of 422 (by decide +kernel) (by decide +kernel), gw_of 423 (by decide +kernel) (by decide +kernel), gw_of 424 (by decide +kernel) (by decide +kernel), by decide +kernel, by decide +kernel⟩⟩
theorem lfact_148 : lfact ((4, 96), (129, 2)) := ⟨by decide, ⟨gw_of 755 (by decide +kernel) (by decide +kernel), gw_of 756 (by decide +kernel) (by decide +kernel), gw_of 757 (by decide +kernel) (by decide +kernel), by decide +kernel, by decide +kernel⟩⟩
theorem lfact_149 : lfact ((4, 97), (69, 2)) := ⟨by decide, ⟨gw_of 447 (by decide +kernel) (by decide +kernel), gw_of 448 (by decide +kernel) (by decide +kernel), gw_of 449 (by decide +kernel) (by decide +kernel), by decide +kernel, by decide +kernel⟩⟩
theorem lfact_150 : lfact ((4, 100), (132, 2)) := ⟨by decide, ⟨gw_of 767 (by decide +kernel) (by decide +kernel), gw_of 768 (by decide +kernel) (by decide +kernel), gw_of 769 (by decide +kernel) (by decide +kernel), by decide +kernel, by decide +kernel⟩⟩
theorem lfact_151 : lfact ((4, 101), (72, 2)) := ⟨by decide, ⟨gw_of 459 (by decide +kernel) (by decide +kernel), gw_of 460 (by decide +kernel) (by decide +kernel), gw_of 461 (by decide +kernel) (by decide +kernel), by decide +kernel, by decide +kernel⟩⟩
theorem lfact_152 : lfact ((4, 104), (135, 2)) := ⟨by decide, ⟨gw_of 779 (by decide +kernel) (by decide +kernel), gw_of 780 (by decide +kernel) (by decide +kernel), gw_of 781 (by decide +kernel) (by decide +kernel), by decide +kernel, by decide +kernel⟩⟩
theorem lfact_153 : lfact ((4, 105), (73, 2)) := ⟨by decide, ⟨gw_of 463 (by decide +kernel) (by decide +kernel), gw_of 464 (by decide +kernel) (by decide +kernel), gw_of 465 (by decide +kernel) (by decide +kernel), by decide +kernel, by decide +kernel⟩⟩
theorem lfact_154 : lfact ((4, 108), (136, 2)) := ⟨by decide, ⟨gw_of 783 (by decide +kernel) (by decide +kernel), gw_of 784 (by decide +kernel) (by decide +kernel), gw_of 785 (by decide +kernel) (by decide +kernel), by decide +kernel, by decide +kernel⟩⟩
theorem lfact_155 : lfact ((4, 109), (74, 2)) := ⟨by decide, ⟨gw_of 467 (by decide +kernel) (by decide +kernel), gw_of 468 (by decide +kernel) (by decide +kernel), gw_of 469 (by decide +kernel) (by decide +kernel), by decide +kernel, by decide +kernel⟩⟩
theorem lfact_156 : lfact ((4, 112), (137, 2)) := ⟨by decide, ⟨gw_of 787 (by decide +kernel) (by decide +kernel), gw_of 788 (by decide +kernel) (by decide +kernel), gw_of 789 (by decide +kernel) (by decide +kernel), by decide +kernel, by decide +kernel⟩⟩
theorem lfact_157 : lfact ((4, 113), (75, 2)) := ⟨by decide, ⟨gw_of 471 (by decide +kernel) (by decide +kernel), gw_of 472 (by decide +kernel) (by decide +kernel), gw_of 473 (by decide +kernel) (by decide +kernel), by decide +kernel, by decide +kernel⟩⟩
theorem lfact_158 : lfact ((4, 116), (138, 2)) := ⟨by decide, ⟨gw_of 791 (by decide +kernel) (by decide +kernel), gw_of 792 (by decide +kernel) (by decide +kernel), gw_of 793 (by decide +kernel) (by decide +kernel), by decide +kernel, by decide +kernel⟩⟩
theorem lfact_159 : lfact ((4, 117), (78, 2)) := ⟨by decide, ⟨gw_of 483 (by decide +kernel) (by decide +kernel), gw_of 484 (by decide +kernel) (by decide +kernel), gw_of 485 (by decide +kernel) (by decide +kernel), by decide +kernel, by decide +kernel⟩⟩
theorem lfact_160 : lfact ((4, 120), (140, 2)) := ⟨by decide, ⟨gw_of 799 (by decide +kernel) (by decide +kernel), gw_of 800 (by decide +kernel) (by decide +kernel), gw_of 801 (by decide +kernel) (by decide +kernel), by decide +kernel, by decide +kernel⟩⟩
theorem lfact_161 : lfact ((4, 121), (79, 2)) := ⟨by decide, ⟨gw_of 487 (by decide +kernel) (by decide +kernel), gw_of 488 (by decide +kernel) (by decide +kernel), gw_of 489 (by decide +kernel) (by decide +kernel), by decide +kernel, by decide +kernel⟩⟩
theorem lfact_162 : lfact ((4, 125), (141, 2)) := ⟨by decide, ⟨gw_of 803 (by decide +kernel) (by decide +kernel), gw_of 804 (by decide +kernel) (by decide +kernel), gw_of 805 (by decide +kernel) (by decide +kernel), by decide +kernel, by decide +kernel⟩⟩
theorem lfact_163 : lfact ((4, 126), (82, 2)) := ⟨by decide, ⟨gw_of 503 (by decide +kernel) (by decide +kernel), gw_of 504 (by decide +kernel) (by decide +kernel), gw_of 505 (by decide +kernel) (by decide +kernel), by decide +kernel, by decide +kernel⟩⟩
theorem lfact_164 : lfact ((4, 129), (142, 2)) := ⟨by decide, ⟨gw_of 810 (by decide +kernel) (by decide +kernel), gw_of 811 (by decide +kernel) (by decide +kernel), gw_of 812 (by decide +kernel) (by decide +kernel), by decide +kernel, by decide +kernel⟩⟩
theorem lfact_165 : lfact ((4, 130), (86, 2)) := ⟨by decide, ⟨gw_of 522 (by decide +kernel) (by decide +kernel), gw_of 523 (by decide +kernel) (by decide +kernel), gw_of 524 (by decide +kernel) (by decide +kernel), by decide +kernel, by decide +kernel⟩⟩
theorem lfact_166 : lfact ((4, 133), (145, 2)) := ⟨by decide, ⟨gw_of 823 (by decide +kernel) (by decide +kernel), gw_of 824 (by decide +kernel) (by decide +kernel), gw_of 825 (by decide +kernel) (by decide +kernel), by decide +kernel, by decide +kernel⟩⟩
theorem lfact_167 : lfact ((4, 134), (87, 2)) := ⟨by decide, ⟨gw_of 526 (by decide +kernel) (by decide +kernel), gw_of 527 (by decide +kernel) (by decide +kernel), gw_of 528 (by decide +kernel) (by decide +kernel), by decide +kernel, by decide +kernel⟩⟩
theorem lfact_168 : lfact ((4, 137), (146, 2)) := ⟨by decide, ⟨gw_of 827 (by decide +kernel) (by decide +kernel), gw_of 828 (by decide +kernel) (by decide +kernel), gw_of 829 (by decide +kernel) (by decide +kernel), by decide +kernel, by decide +kernel⟩⟩
theorem lfact_169 : lfact ((4, 138), (88, 2)) := ⟨by decide, ⟨gw_of 530 (by decide +kernel) (by decide +kernel), gw_of 531 (by decide +kernel) (by decide +kernel), gw_of 532 (by decide +kernel) (by decide +kernel), by decide +kernel, by decide +kernel⟩⟩
theorem lfact_170 : lfact ((4, 141), (147, 2)) := ⟨by decide, ⟨gw_of 831 (by decide +kernel) (by decide +kernel), gw_of 832 (by decide +kernel) (by decide +kernel), gw_of 833 (by decide +kernel) (by decide +kernel), by decide +kernel, by decide +kernel⟩⟩
theorem lfacts : ∀ q ∈ mlk, lfact q := by
  unfold mlk
  refine List.forall_mem_cons.mpr ⟨lfact_0, ?_⟩
  refine List.forall_mem_cons.mpr ⟨lfact_1, ?_⟩
  refine List.forall_mem_cons.mpr ⟨lfact_2, ?_⟩
  refine List.forall_mem_cons.mpr ⟨lfact_3, ?_⟩
  refine List.forall_mem_cons.mpr ⟨lfact_4, ?_⟩
  refine List.forall_mem_cons.mpr ⟨lfact_5, ?_⟩
  refine List.forall_mem_cons.mpr ⟨lfact_6, ?_⟩
  refine List.forall_mem_cons.mpr ⟨lfact_7, ?_⟩
  refine List.forall_mem_cons.mpr ⟨lfact_8, ?_⟩
  refine List.forall_mem_cons.mpr ⟨lfact_9, ?_⟩
  refine List.forall_mem_cons.mpr ⟨lfact_10, ?_⟩
  refine List.forall_mem_cons.mpr ⟨lfact_11, ?_⟩
  refine List.forall_mem_cons.mpr ⟨lfact_12, ?_⟩
  refine List.forall_mem_cons.mpr ⟨lfact_13, ?_⟩
  refine List.forall_mem_cons.mpr ⟨lfact_14, ?_⟩
  refine List.forall_mem_cons.mpr ⟨lfact_15, ?_⟩
  refine List.forall_mem_cons.mpr ⟨lfact_16, ?_⟩
  refine List.forall_mem_cons.mpr ⟨lfact_17, ?_⟩
  refine List.forall_mem_cons.mpr ⟨lfact_18, ?_⟩
  refine List.forall_mem_cons.mpr ⟨lfact_19, ?_⟩
  refine List.forall_mem_cons.mpr ⟨lfact_20, ?_⟩
  refine List.forall_mem_cons.mpr ⟨lfact_21, ?_⟩
  refine List.forall_mem_cons.mpr ⟨lfact_22, ?_⟩
  refine List.forall_mem_cons.mpr ⟨lfact_23, ?_⟩
  refine List.forall_mem_cons.mpr ⟨lfact_24, ?_⟩
  refine List.forall_mem_cons.mpr ⟨lfact_25, ?_⟩
  refine List.forall_mem_cons.mpr ⟨lfact_26, ?_⟩
  refine List.forall_mem_cons.mpr ⟨lfact_27, ?_⟩
  refine List.forall_mem_cons.mpr ⟨lfact_28, ?_⟩
  refine List.forall_mem_cons.mpr ⟨lfact_29, ?_⟩
  refine List.forall_mem_cons.mpr ⟨lfact_30, ?_⟩
  refine List.forall_mem_cons.mpr ⟨lfact_31, ?_⟩
  refine List.forall_mem_cons.mpr ⟨lfact_32, ?_⟩
  refine List.forall_mem_cons.mpr ⟨lfact_33, ?_⟩
  refine List.forall_mem_cons.mpr ⟨lfact_34, ?_⟩
  refine List.forall_mem_cons.mpr ⟨lfact_35, ?_⟩
  refine List.forall_mem_cons.mpr ⟨lfact_36, ?_⟩
  refine List.forall_mem_cons.mpr ⟨lfact_37, ?_⟩
  refine List.forall_mem_cons.mpr ⟨lfact_38, ?_⟩
  refine List.forall_mem_cons.mpr ⟨lfact_39, ?_⟩
  refine List.forall_mem_cons.mpr ⟨lfact_40, ?_⟩
  refine List.forall_mem_cons.mpr ⟨lfact_41, ?_⟩
  refine List.forall_mem_cons.mpr ⟨lfact_42, ?_⟩
  refine List.forall_mem_cons.mpr ⟨lfact_43, ?_⟩
  refine List.forall_mem_cons.mpr ⟨lfact_44, ?_⟩
  refine List.forall_mem_cons.mpr ⟨lfact_45, ?_⟩
  refine List.forall_mem_cons.mpr ⟨lfact_46, ?_⟩
  refine List.forall_mem_cons.mpr ⟨lfact_47, ?_⟩
  refine List.forall_mem_cons.mpr ⟨lfact_48, ?_⟩
  refine List.forall_mem_cons.mpr ⟨lfact_49, ?_⟩
  refine List.forall_mem_cons.mpr ⟨lfact_50, ?_⟩
  refine List.forall_mem_cons.mpr ⟨lfact_51, ?_⟩
  refine List.forall_mem_cons.mpr ⟨lfact_52, ?_⟩
  refine List.forall_mem_cons.mpr ⟨lfact_53, ?_⟩
  refine List.forall_mem_cons.mpr ⟨lfact_54, ?_⟩
  refine List.forall_mem_cons.mpr ⟨lfact_55, ?_⟩
  refine List.forall_mem_cons.mpr ⟨lfact_56, ?_⟩
  refine List.forall_mem_cons.mpr ⟨lfact_57, ?_⟩
  refine List.forall_mem_cons.mpr ⟨lfact_58, ?_⟩
  refine List.forall_mem_cons.mpr ⟨lfact_59, ?_⟩
  refine List.forall_mem_cons.mpr ⟨lfact_60, ?_⟩
  refine List.forall_mem_cons.mpr ⟨lfact_61, ?_⟩
  refine List.forall_mem_cons.mpr ⟨lfact_62, ?_⟩
  refine List.forall_mem_cons.mpr ⟨lfact_63, ?_⟩
  refine List.forall_mem_cons.mpr ⟨lfact_64, ?_⟩
  refine List.forall_mem_cons.mpr ⟨lfact_65, ?_⟩
  refine List.forall_mem_cons.mpr ⟨lfact_66, ?_⟩
  refine List.forall_mem_cons.mpr ⟨lfact_67, ?_⟩
  refine List.forall_mem_cons.mpr ⟨lfact_68, ?_⟩
  refine List.forall_mem_cons.mpr ⟨lfact_69, ?_⟩
  refine List.forall_mem_cons.mpr ⟨lfact_70, ?_⟩
  refine List.forall_mem_cons.mpr ⟨lfact_71, ?_⟩
  refine List.forall_mem_cons.mpr ⟨lfact_72, ?_⟩
  refine List.forall_mem_cons.mpr ⟨lfact_73, ?_⟩
  refine List.forall_mem_cons.mpr ⟨lfact_74, ?_⟩
  refine List.forall_mem_cons.mpr ⟨lfact_75, ?_⟩
  refine List.forall_mem_cons.mpr ⟨lfact_76, ?_⟩
  refine List.forall_mem_cons.mpr ⟨lfact_77, ?_⟩
  refine List.forall_mem_cons.mpr ⟨lfact_78, ?_⟩
  refine List.forall_mem_cons.mpr ⟨lfact_79, ?_⟩
  refine List.forall_mem_cons.mpr ⟨lfact_80, ?_⟩
  refine List.forall_mem_cons.mpr ⟨lfact_81, ?_⟩
  refine List.forall_mem_cons.mpr ⟨lfact_82, ?_⟩
  refine List.forall_mem_cons.mpr ⟨lfact_83, ?_⟩
  refine List.forall_mem_cons.mpr ⟨lfact_84, ?_⟩
  refine List.forall_mem_cons.mpr ⟨lfact_85, ?_⟩
  refine List.forall_mem_cons.mpr ⟨lfact_86, ?_⟩
  refine List.forall_mem_cons.mpr ⟨lfact_87, ?_⟩
  refine List.forall_mem_cons.mpr ⟨lfact_88, ?_⟩
  refine List.forall_mem_cons.mpr ⟨lfact_89, ?_⟩
  refine List.forall_mem_cons.mpr ⟨lfact_90, ?_⟩
  refine List.forall_mem_cons.mpr ⟨lfact_91, ?_⟩
  refine List.forall_mem_cons.mpr ⟨lfact_92, ?_⟩
  refine List.forall_mem_cons.mpr ⟨lfact_93, ?_⟩
  refine List.forall_mem_cons.mpr ⟨lfact_94, ?_⟩
  refine List.forall_mem_cons.mpr ⟨lfact_95, ?_⟩
  refine List.forall_mem_cons.mpr ⟨lfact_96, ?_⟩
  refine List.forall_mem_cons.mpr ⟨lfact_97, ?_⟩
  refine List.forall_mem_cons.mpr ⟨lfact_98, ?_⟩
  refine List.forall_mem_cons.mpr ⟨lfact_99, ?_⟩
  refine List.forall_mem_cons.mpr ⟨lfact_100, ?_⟩
  refine List.forall_mem_cons.mpr ⟨lfact_101, ?_⟩
  refine List.forall_mem_cons.mpr ⟨lfact_102, ?_⟩
  refine List.forall_mem_cons.mpr ⟨lfact_103, ?_⟩
  refine List.forall_mem_cons.mpr ⟨lfact_104, ?_⟩
  refine List.forall_mem_cons.mpr ⟨lfact_105, ?_⟩
  refine List.forall_mem_cons.mpr ⟨lfact_106, ?_⟩
  refine List.forall_mem_cons.mpr ⟨lfact_107, ?_⟩
  refine List.forall_mem_cons.mpr ⟨lfact_108, ?_⟩
  refine List.forall_mem_cons.mpr ⟨lfact_109, ?_⟩
  refine List.forall_mem_cons.mpr ⟨lfact_110, ?_⟩
  refine List.forall_mem_cons.mpr ⟨lfact_111, ?_⟩
  refine List.forall_mem_cons.mpr ⟨lfact_112, ?_⟩
  refine List.forall_mem_cons.mpr ⟨lfact_113, ?_⟩
  refine List.forall_mem_cons.mpr ⟨lfact_114, ?_⟩
  refine List.forall_mem_cons.mpr ⟨lfact_115, ?_⟩
  refine List.forall_mem_cons.mpr ⟨lfact_116, ?_⟩
  refine List.forall_mem_cons.mpr ⟨lfact_117, ?_⟩
  refine List.forall_mem_cons.mpr ⟨lfact_118, ?_⟩
  refine List.forall_mem_cons.mpr ⟨lfact_119, ?_⟩
  refine List.forall_mem_cons.mpr ⟨lfact_120, ?_⟩
  refine List.forall_mem_cons.mpr ⟨lfact_121, ?_⟩
  refine List.forall_mem_cons.mpr ⟨lfact_122, ?_⟩
  refine List.forall_mem_cons.mpr ⟨lfact_123, ?_⟩
  refine List.forall_mem_cons.mpr ⟨lfact_124, ?_⟩
  refine List.forall_mem_cons.mpr ⟨lfact_125, ?_⟩
  refine List.forall_mem_cons.mpr ⟨lfact_126, ?_⟩
  refine List.forall_mem_cons.mpr ⟨lfact_127, ?_⟩
  refine List.forall_mem_cons.mpr ⟨lfact_128, ?_⟩
  refine List.forall_mem_cons.mpr ⟨lfact_129, ?_⟩
  refine List.forall_mem_cons.mpr ⟨lfact_130, ?_⟩
  refine List.forall_mem_cons.mpr ⟨lfact_131, ?_⟩
  refine List.forall_mem_cons.mpr ⟨lfact_132, ?_⟩
  refine List.forall_mem_cons.mpr ⟨lfact_133, ?_⟩
  refine List.forall_mem_cons.mpr ⟨lfact_134, ?_⟩
  refine List.forall_mem_cons.mpr ⟨lfact_135, ?_⟩
  refine List.forall_mem_cons.mpr ⟨lfact_136, ?_⟩
  refine List.forall_mem_cons.mpr ⟨lfact_137, ?_⟩
  refine List.forall_mem_cons.mpr ⟨lfact_138, ?_⟩
  refine List.forall_mem_cons.mpr ⟨lfact_139, ?_⟩
  refine List.forall_mem_cons.mpr ⟨lfact_140, ?_⟩
  refine List.forall_mem_cons.mpr ⟨lfact_141, ?_⟩
  refine List.forall_mem_cons.mpr ⟨lfact_142, ?_⟩
  refine List.forall_mem_cons.mpr ⟨lfact_143, ?_⟩
  refine List.forall_mem_cons.mpr ⟨lfact_144, ?_⟩
  refine List.forall_mem_cons.mpr ⟨lfact_145, ?_⟩
  refine List.forall_mem_cons.mpr ⟨lfact_146, ?_⟩
  refine List.forall_mem_cons.mpr ⟨lfact_147, ?_⟩
  refine List.forall_mem_cons.mpr ⟨lfact_148, ?_⟩
  refine List.forall_mem_cons.mpr ⟨lfact_149, ?_⟩
  refine List.forall_mem_cons.mpr ⟨lfact_150, ?_⟩
  refine List.forall_mem_cons.mpr ⟨lfact_151, ?_⟩
  refine List.forall_mem_cons.mpr ⟨lfact_152, ?_⟩
  refine List.forall_mem_cons.mpr ⟨lfact_153, ?_⟩
  refine List.forall_mem_cons.mpr ⟨lfact_154, ?_⟩
  refine List.forall_mem_cons.mpr ⟨lfact_155, ?_⟩
  refine List.forall_mem_cons.mpr ⟨lfact_156, ?_⟩
  refine List.forall_mem_cons.mpr ⟨lfact_157, ?_⟩
  refine List.forall_mem_cons.mpr ⟨lfact_158, ?_⟩
  refine List.forall_mem_cons.mpr ⟨lfact_159, ?_⟩
  refine List.forall_mem_cons.mpr ⟨lfact_160, ?_⟩
  refine List.forall_mem_cons.mpr ⟨lfact_161, ?_⟩
  refine List.forall_mem_cons.mpr ⟨lfact_162, ?_⟩
  refine List.forall_mem_cons.mpr ⟨lfact_163, ?_⟩
  refine List.forall_mem_cons.mpr ⟨lfact_164, ?_⟩
  refine List.forall_mem_cons.mpr ⟨lfact_165, ?_⟩
  refine List.forall_mem_cons.mpr ⟨lfact_166, ?_⟩
  refine List.forall_mem_cons.mpr ⟨lfact_167, ?_⟩
  refine List.forall_mem_cons.mpr ⟨lfact_168, ?_⟩
  refine List.forall_mem_cons.mpr ⟨lfact_169, ?_⟩
  refine List.forall_mem_cons.mpr ⟨lfact_170, ?_⟩
  exact fun _ h => absurd h List.not_mem_nil
theorem gw_obj : Cond.instanceMethod objectInit ∈ gw ∧ Cond.code objectInit ⟨#[0xb1]⟩ 1 none ∈ gw := ⟨gw_of 53 (by decide +kernel) (by decide +kernel), gw_of 54 (by decide +kernel) (by decide +kernel)⟩
theorem gw_max : Cond.static Lib.Math.max.name ∈ gw ∧ Cond.initialized "java/lang/Math" ∈ gw ∧ Cond.code Lib.Math.max.name Lib.Math.max.code 2 (some .int) ∈ gw := ⟨gw_of 281 (by decide +kernel) (by decide +kernel), gw_of 45 (by decide +kernel) (by decide +kernel), gw_of 282 (by decide +kernel) (by decide +kernel)⟩
theorem gw_min : Cond.static Lib.Math.min.name ∈ gw ∧ Cond.initialized "java/lang/Math" ∈ gw ∧ Cond.code Lib.Math.min.name Lib.Math.min.code 2 (some .int) ∈ gw := ⟨gw_of 214 (by decide +kernel) (by decide +kernel), gw_of 45 (by decide +kernel) (by decide +kernel), gw_of 215 (by decide +kernel) (by decide +kernel)⟩
theorem gw_abs : Cond.static Lib.Math.abs.name ∈ gw ∧ Cond.initialized "java/lang/Math" ∈ gw ∧ Cond.code Lib.Math.abs.name Lib.Math.abs.code 1 (some .int) ∈ gw := ⟨gw_of 420 (by decide +kernel) (by decide +kernel), gw_of 45 (by decide +kernel) (by decide +kernel), gw_of 421 (by decide +kernel) (by decide +kernel)⟩
def clk : List ((Nat × Nat) × Int) := [((2, 158), 1000000), ((2, 207), 65537), ((0, 118), 1000000), ((3, 127), 1000000), ((3, 163), 65537), ((5, 265), 1431655765), ((5, 266), 858993459), ((5, 267), 252645135)]
theorem cfacts : ∀ q ∈ clk, Cond.constant (oS q.1.1) q.1.2 (Int32.ofInt q.2) ∈ gw ∧ (Int32.ofInt q.2).toInt = q.2 := by
  unfold clk
  refine List.forall_mem_cons.mpr ⟨⟨gw_of 410 (by decide +kernel) (by decide +kernel), by decide +kernel⟩, ?_⟩
  refine List.forall_mem_cons.mpr ⟨⟨gw_of 507 (by decide +kernel) (by decide +kernel), by decide +kernel⟩, ?_⟩
  refine List.forall_mem_cons.mpr ⟨⟨gw_of 310 (by decide +kernel) (by decide +kernel), by decide +kernel⟩, ?_⟩
  refine List.forall_mem_cons.mpr ⟨⟨gw_of 726 (by decide +kernel) (by decide +kernel), by decide +kernel⟩, ?_⟩
  refine List.forall_mem_cons.mpr ⟨⟨gw_of 814 (by decide +kernel) (by decide +kernel), by decide +kernel⟩, ?_⟩
  refine List.forall_mem_cons.mpr ⟨⟨gw_of 368 (by decide +kernel) (by decide +kernel), by decide +kernel⟩, ?_⟩
  refine List.forall_mem_cons.mpr ⟨⟨gw_of 369 (by decide +kernel) (by decide +kernel), by decide +kernel⟩, ?_⟩
  refine List.forall_mem_cons.mpr ⟨⟨gw_of 370 (by decide +kernel) (by decide +kernel), by decide +kernel⟩, ?_⟩
  exact fun _ h => absurd h List.not_mem_nil
def cll : List ((Nat × Nat) × Int) := [((2, 188), -1000000000000000001), ((2, 190), -1000000000000000002), ((2, 200), 2), ((2, 202), 5), ((3, 157), -1000000000000000001), ((3, 159), -1000000000000000002), ((3, 161), 10)]
theorem clfacts : ∀ q ∈ cll, Cond.constantLong (oS q.1.1) q.1.2 (Int64.ofInt q.2) ∈ gw ∧ (Int64.ofInt q.2).toInt = q.2 := by
  unfold cll
  refine List.forall_mem_cons.mpr ⟨⟨gw_of 491 (by decide +kernel) (by decide +kernel), by decide +kernel⟩, ?_⟩
  refine List.forall_mem_cons.mpr ⟨⟨gw_of 492 (by decide +kernel) (by decide +kernel), by decide +kernel⟩, ?_⟩
  refine List.forall_mem_cons.mpr ⟨⟨gw_of 501 (by decide +kernel) (by decide +kernel), by decide +kernel⟩, ?_⟩
  refine List.forall_mem_cons.mpr ⟨⟨gw_of 502 (by decide +kernel) (by decide +kernel), by decide +kernel⟩, ?_⟩
  refine List.forall_mem_cons.mpr ⟨⟨gw_of 807 (by decide +kernel) (by decide +kernel), by decide +kernel⟩, ?_⟩
  refine List.forall_mem_cons.mpr ⟨⟨gw_of 808 (by decide +kernel) (by decide +kernel), by decide +kernel⟩, ?_⟩
  refine List.forall_mem_cons.mpr ⟨⟨gw_of 809 (by decide +kernel) (by decide +kernel), by decide +kernel⟩, ?_⟩
  exact fun _ h => absurd h List.not_mem_nil
def nlk : List ((Nat × Nat) × Nat) := [((2, 7), 0), ((2, 19), 1), ((4, 7), 2), ((4, 10), 3)]
theorem nfacts : ∀ q ∈ nlk, q.2 < 4 ∧ Cond.classLink (oS q.1.1) q.1.2 (cR q.2) ∈ gw ∧ Cond.instantiable (cR q.2) (cN q.2) ∈ gw ∧ Cond.initialized (cR q.2) ∈ gw := by
  unfold nlk
  refine List.forall_mem_cons.mpr ⟨⟨by decide, gw_of 55 (by decide +kernel) (by decide +kernel), gw_of 56 (by decide +kernel) (by decide +kernel), gw_of 42 (by decide +kernel) (by decide +kernel)⟩, ?_⟩
  refine List.forall_mem_cons.mpr ⟨⟨by decide, gw_of 120 (by decide +kernel) (by decide +kernel), gw_of 121 (by decide +kernel) (by decide +kernel), gw_of 43 (by decide +kernel) (by decide +kernel)⟩, ?_⟩
  refine List.forall_mem_cons.mpr ⟨⟨by decide, gw_of 47 (by decide +kernel) (by decide +kernel), gw_of 48 (by decide +kernel) (by decide +kernel), gw_of 41 (by decide +kernel) (by decide +kernel)⟩, ?_⟩
  refine List.forall_mem_cons.mpr ⟨⟨by decide, gw_of 534 (by decide +kernel) (by decide +kernel), gw_of 535 (by decide +kernel) (by decide +kernel), gw_of 44 (by decide +kernel) (by decide +kernel)⟩, ?_⟩
  exact fun _ h => absurd h List.not_mem_nil
theorem gw_arr : Cond.arrayClass .int ∈ gw ∧ Cond.arrayClass .boolean ∈ gw := ⟨gw_of 119 (by decide +kernel) (by decide +kernel), gw_of 605 (by decide +kernel) (by decide +kernel)⟩
theorem tbl_over : Cond.arrayOver (.object RX0) ∈ lw_tbl := List.mem_of_getElem? (i := 151) (by decide +kernel)
theorem tbl_nst : ∀ w ∈ nst, w ∈ lw_tbl := by
  unfold nst
  refine List.forall_mem_cons.mpr ⟨List.mem_of_getElem? (i := 122) (by decide +kernel), ?_⟩
  refine List.forall_mem_cons.mpr ⟨List.mem_of_getElem? (i := 65) (by decide +kernel), ?_⟩
  refine List.forall_mem_cons.mpr ⟨List.mem_of_getElem? (i := 269) (by decide +kernel), ?_⟩
  refine List.forall_mem_cons.mpr ⟨List.mem_of_getElem? (i := 194) (by decide +kernel), ?_⟩
  refine List.forall_mem_cons.mpr ⟨List.mem_of_getElem? (i := 204) (by decide +kernel), ?_⟩
  refine List.forall_mem_cons.mpr ⟨List.mem_of_getElem? (i := 248) (by decide +kernel), ?_⟩
  refine List.forall_mem_cons.mpr ⟨List.mem_of_getElem? (i := 249) (by decide +kernel), ?_⟩
  refine List.forall_mem_cons.mpr ⟨List.mem_of_getElem? (i := 256) (by decide +kernel), ?_⟩
  exact fun _ h => absurd h List.not_mem_nil
end
section
/-- an instruction: number, two operands, the next one, a switch's rows -/
abbrev Ent : Type := Nat × Nat × Int × Nat × List (Int × Nat)
/-- F_init -/
def tb0 : List (Nat × Ent) := [(0, (3, 0, 0, 1, [])), (1, (85, 0, 0, 4, [])), (4, (3, 0, 0, 5, [])), (5, (64, 0, 0, 8, [])), (8, (9, 0, 0, 9, [])), (9, (83, 1, 0, 12, [])), (12, (53, 0, 2, 15, [])), (15, (3, 0, 0, 16, [])), (16, (64, 0, 0, 19, [])), (19, (9, 0, 0, 20, [])), (20, (83, 1, 0, 23, [])), (23, (53, 1, 2, 26, [])), (26, (3, 0, 0, 27, [])), (27, (64, 1, 0, 30, [])), (30, (9, 0, 0, 31, [])), (31, (83, 4, 0, 34, [])), (34, (53, 2, 2, 37, [])), (37, (3, 0, 0, 38, [])), (38, (0, 0, 2, 39, [])), (39, (63, 0, 0, 42, [])), (42, (53, 3, 2, 45, [])), (45, (3, 0, 0, 46, [])), (46, (0, 0, 24, 48, [])), (48, (61, 0, 0, 50, [])), (50, (53, 4, 2, 53, [])), (53, (3, 0, 0, 54, [])), (54, (0, 0, 216, 57, [])), (57, (61, 0, 0, 59, [])), (59, (53, 5, 2, 62, [])), (62, (3, 0, 0, 63, [])), (63, (0, 0, 24, 65, [])), (65, (61, 0, 0, 67, [])), (67, (53, 6, 2, 70, [])), (70, (73, 0, 0, 71, []))]
/-- B_init -/
def tb1 : List (Nat × Ent) := [(0, (3, 0, 0, 1, [])), (1, (85, 0, 0, 4, [])), (4, (3, 0, 0, 5, [])), (5, (0, 0, 24, 7, [])), (7, (61, 0, 0, 9, [])), (9, (53, 6, 0, 12, [])), (12, (3, 0, 0, 13, [])), (13, (0, 0, 24, 15, [])), (15, (61, 0, 0, 17, [])), (17, (53, 7, 0, 20, [])), (20, (3, 0, 0, 21, [])), (21, (0, 0, 24, 23, [])), (23, (61, 0, 0, 25, [])), (25, (53, 8, 0, 28, [])), (28, (3, 0, 0, 29, [])), (29, (0, 0, 24, 31, [])), (31, (61, 0, 0, 33, [])), (33, (53, 9, 0, 36, [])), (36, (3, 0, 0, 37, [])), (37, (0, 0, 96, 39, [])), (39, (61, 0, 0, 41, [])), (41, (53, 10, 0, 44, [])), (44, (3, 0, 0, 45, [])), (45, (0, 0, 8, 47, [])), (47, (61, 0, 0, 49, [])), (49, (53, 11, 0, 52, [])), (52, (3, 0, 0, 53, [])), (53, (0, 0, 8, 55, [])), (55, (61, 0, 0, 57, [])), (57, (53, 12, 0, 60, [])), (60, (3, 0, 0, 61, [])), (61, (0, 0, 3, 62, [])), (62, (0, 0, 4, 63, [])), (63, (82, 2, 2, 66, [])), (66, (73, 0, 0, 67, []))]
/-- B_clear -/
def tb2 : List (Nat × Ent) := [(0, (3, 0, 0, 1, [])), (1, (1, 1, 0, 2, [])), (2, (52, 0, 0, 5, [])), (5, (3, 0, 0, 6, [])), (6, (1, 2, 0, 7, [])), (7, (52, 1, 0, 10, [])), (10, (3, 0, 0, 11, [])), (11, (1, 1, 0, 12, [])), (12, (1, 2, 0, 13, [])), (13, (13, 0, 0, 14, [])), (14, (52, 2, 0, 17, [])), (17, (3, 0, 0, 18, [])), (18, (0, 0, 2, 19, [])), (19, (52, 3, 0, 22, [])), (22, (3, 0, 0, 23, [])), (23, (0, 0, 1, 24, [])), (24, (52, 4, 0, 27, [])), (27, (3, 0, 0, 28, [])), (28, (0, 0, 0, 29, [])), (29, (52, 5, 0, 32, [])), (32, (3, 0, 0, 33, [])), (33, (51, 6, 0, 36, [])), (36, (0, 0, 0, 37, [])), (37, (80, 3, 2, 40, [])), (40, (3, 0, 0, 41, [])), (41, (51, 7, 0, 44, [])), (44, (0, 0, 0, 45, [])), (45, (80, 3, 2, 48, [])), (48, (3, 0, 0, 49, [])), (49, (51, 8, 0, 52, [])), (52, (0, 0, 0, 53, [])), (53, (80, 3, 2, 56, [])), (56, (3, 0, 0, 57, [])), (57, (51, 10, 0, 60, [])), (60, (0, 0, -1, 61, [])), (61, (80, 3, 2, 64, [])), (64, (73, 0, 0, 65, []))]
/-- F_fill -/
def tb3 : List (Nat × Ent) := [(0, (3, 0, 0, 1, [])), (1, (42, 22, 0, 4, [])), (4, (0, 0, 0, 5, [])), (5, (2, 2, 0, 6, [])), (6, (1, 2, 0, 7, [])), (7, (3, 0, 0, 8, [])), (8, (54, 0, 0, 9, [])), (9, (39, 22, 0, 12, [])), (12, (3, 0, 0, 13, [])), (13, (1, 2, 0, 14, [])), (14, (1, 1, 0, 15, [])), (15, (56, 0, 0, 16, [])), (16, (8, 2, 1, 19, [])), (19, (44, 6, 0, 22, [])), (22, (73, 0, 0, 23, []))]
/-- N_init -/
def tb4 : List (Nat × Ent) := [(0, (3, 0, 0, 1, [])), (1, (85, 0, 0, 4, [])), (4, (3, 0, 0, 5, [])), (5, (0, 0, 60, 7, [])), (7, (61, 0, 0, 9, [])), (9, (53, 0, 1, 12, [])), (12, (73, 0, 0, 13, []))]
/-- F_bank -/
def tb5 : List (Nat × Ent) := [(0, (1, 1, 0, 1, [])), (1, (0, 0, 1, 2, [])), (2, (0, 0, 4, 3, [])), (3, (80, 6, 3, 6, [])), (6, (30, 19, 0, 9, [])), (9, (1, 2, 0, 10, [])), (10, (0, 0, 1, 11, [])), (11, (0, 0, 6, 13, [])), (13, (80, 6, 3, 16, [])), (16, (31, 22, 0, 19, [])), (19, (0, 0, -2, 21, [])), (21, (70, 0, 0, 22, [])), (22, (3, 0, 0, 23, [])), (23, (51, 0, 2, 26, [])), (26, (1, 1, 0, 27, [])), (27, (1, 2, 0, 28, [])), (28, (82, 2, 2, 31, [])), (31, (3, 0, 0, 32, [])), (32, (51, 0, 2, 35, [])), (35, (50, 2, 0, 38, [])), (38, (70, 0, 0, 39, []))]
/-- F_isWithin -/
def tb6 : List (Nat × Ent) := [(0, (1, 0, 0, 1, [])), (1, (1, 1, 0, 2, [])), (2, (38, 14, 0, 5, [])), (5, (1, 0, 0, 6, [])), (6, (1, 2, 0, 7, [])), (7, (40, 14, 0, 10, [])), (10, (0, 0, 1, 11, [])), (11, (44, 15, 0, 14, [])), (14, (0, 0, 0, 15, [])), (15, (71, 0, 0, 16, []))]
/-- F_cell -/
def tb7 : List (Nat × Ent) := [(0, (3, 0, 0, 1, [])), (1, (51, 0, 2, 4, [])), (4, (1, 1, 0, 5, [])), (5, (82, 8, 1, 8, [])), (8, (31, 13, 0, 11, [])), (11, (0, 0, -1, 12, [])), (12, (70, 0, 0, 13, [])), (13, (1, 2, 0, 14, [])), (14, (0, 0, 0, 15, [])), (15, (0, 0, 1, 16, [])), (16, (80, 6, 3, 19, [])), (19, (30, 40, 0, 22, [])), (22, (1, 3, 0, 23, [])), (23, (0, 0, 0, 24, [])), (24, (1, 2, 0, 25, [])), (25, (31, 33, 0, 28, [])), (28, (0, 0, 9, 30, [])), (30, (44, 34, 0, 33, [])), (33, (0, 0, 1, 34, [])), (34, (80, 6, 3, 37, [])), (37, (31, 43, 0, 40, [])), (40, (0, 0, -2, 42, [])), (42, (70, 0, 0, 43, [])), (43, (3, 0, 0, 44, [])), (44, (51, 0, 2, 47, [])), (47, (1, 1, 0, 48, [])), (48, (1, 2, 0, 49, [])), (49, (82, 9, 2, 52, [])), (52, (2, 4, 0, 54, [])), (54, (1, 2, 0, 55, [])), (55, (31, 73, 0, 58, [])), (58, (3, 0, 0, 59, [])), (59, (51, 0, 2, 62, [])), (62, (51, 6, 0, 65, [])), (65, (1, 1, 0, 66, [])), (66, (1, 3, 0, 67, [])), (67, (80, 11, 3, 70, [])), (70, (44, 82, 0, 73, [])), (73, (3, 0, 0, 74, [])), (74, (51, 0, 2, 77, [])), (77, (1, 1, 0, 78, [])), (78, (1, 3, 0, 79, [])), (79, (82, 12, 2, 82, [])), (82, (1, 4, 0, 84, [])), (84, (70, 0, 0, 85, []))]
/-- B_has -/
def tb8 : List (Nat × Ent) := [(0, (1, 1, 0, 1, [])), (1, (32, 16, 0, 4, [])), (4, (1, 1, 0, 5, [])), (5, (3, 0, 0, 6, [])), (6, (50, 2, 0, 9, [])), (9, (39, 16, 0, 12, [])), (12, (0, 0, 1, 13, [])), (13, (44, 17, 0, 16, [])), (16, (0, 0, 0, 17, [])), (17, (71, 0, 0, 18, []))]
/-- B_tell -/
def tb9 : List (Nat × Ent) := [(0, (1, 2, 0, 1, [])), (1, (31, 15, 0, 4, [])), (4, (3, 0, 0, 5, [])), (5, (51, 6, 0, 8, [])), (8, (1, 1, 0, 9, [])), (9, (80, 10, 2, 12, [])), (12, (44, 23, 0, 15, [])), (15, (3, 0, 0, 16, [])), (16, (51, 7, 0, 19, [])), (19, (1, 1, 0, 20, [])), (20, (80, 10, 2, 23, [])), (23, (70, 0, 0, 24, []))]
/-- F_at -/
def tb10 : List (Nat × Ent) := [(0, (3, 0, 0, 1, [])), (1, (42, 20, 0, 4, [])), (4, (1, 1, 0, 5, [])), (5, (32, 20, 0, 8, [])), (8, (1, 1, 0, 9, [])), (9, (3, 0, 0, 10, [])), (10, (54, 0, 0, 11, [])), (11, (39, 20, 0, 14, [])), (14, (3, 0, 0, 15, [])), (15, (1, 1, 0, 16, [])), (16, (55, 0, 0, 17, [])), (17, (44, 21, 0, 20, [])), (20, (0, 0, 0, 21, [])), (21, (70, 0, 0, 22, []))]
/-- F_put -/
def tb11 : List (Nat × Ent) := [(0, (3, 0, 0, 1, [])), (1, (42, 18, 0, 4, [])), (4, (1, 1, 0, 5, [])), (5, (32, 18, 0, 8, [])), (8, (1, 1, 0, 9, [])), (9, (3, 0, 0, 10, [])), (10, (54, 0, 0, 11, [])), (11, (39, 18, 0, 14, [])), (14, (3, 0, 0, 15, [])), (15, (1, 1, 0, 16, [])), (16, (1, 2, 0, 17, [])), (17, (56, 0, 0, 18, [])), (18, (73, 0, 0, 19, []))]
/-- B_light -/
def tb12 : List (Nat × Ent) := [(0, (3, 0, 0, 1, [])), (1, (51, 7, 0, 4, [])), (4, (1, 1, 0, 5, [])), (5, (1, 2, 0, 6, [])), (6, (80, 11, 3, 9, [])), (9, (3, 0, 0, 10, [])), (10, (82, 13, 0, 13, [])), (13, (73, 0, 0, 14, []))]
/-- B_warm -/
def tb13 : List (Nat × Ent) := [(0, (0, 0, 0, 1, [])), (1, (2, 1, 0, 2, [])), (2, (1, 1, 0, 3, [])), (3, (3, 0, 0, 4, [])), (4, (50, 0, 0, 7, [])), (7, (39, 136, 0, 10, [])), (10, (0, 0, 0, 11, [])), (11, (2, 2, 0, 12, [])), (12, (1, 2, 0, 13, [])), (13, (3, 0, 0, 14, [])), (14, (50, 1, 0, 17, [])), (17, (39, 130, 0, 20, [])), (20, (1, 1, 0, 21, [])), (21, (3, 0, 0, 22, [])), (22, (50, 1, 0, 25, [])), (25, (13, 0, 0, 26, [])), (26, (1, 2, 0, 27, [])), (27, (11, 0, 0, 28, [])), (28, (2, 3, 0, 29, [])), (29, (3, 0, 0, 30, [])), (30, (51, 7, 0, 33, [])), (33, (3, 0, 0, 34, [])), (34, (1, 1, 0, 35, [])), (35, (0, 0, 1, 36, [])), (36, (12, 0, 0, 37, [])), (37, (1, 2, 0, 38, [])), (38, (82, 14, 2, 41, [])), (41, (80, 10, 2, 44, [])), (44, (3, 0, 0, 45, [])), (45, (51, 7, 0, 48, [])), (48, (3, 0, 0, 49, [])), (49, (1, 1, 0, 50, [])), (50, (0, 0, 1, 51, [])), (51, (11, 0, 0, 52, [])), (52, (1, 2, 0, 53, [])), (53, (82, 14, 2, 56, [])), (56, (80, 10, 2, 59, [])), (59, (11, 0, 0, 60, [])), (60, (3, 0, 0, 61, [])), (61, (51, 7, 0, 64, [])), (64, (3, 0, 0, 65, [])), (65, (1, 1, 0, 66, [])), (66, (1, 2, 0, 67, [])), (67, (0, 0, 1, 68, [])), (68, (12, 0, 0, 69, [])), (69, (82, 14, 2, 72, [])), (72, (80, 10, 2, 75, [])), (75, (11, 0, 0, 76, [])), (76, (3, 0, 0, 77, [])), (77, (51, 7, 0, 80, [])), (80, (3, 0, 0, 81, [])), (81, (1, 1, 0, 82, [])), (82, (1, 2, 0, 83, [])), (83, (0, 0, 1, 84, [])), (84, (11, 0, 0, 85, [])), (85, (82, 14, 2, 88, [])), (88, (80, 10, 2, 91, [])), (91, (11, 0, 0, 92, [])), (92, (2, 4, 0, 94, [])), (94, (3, 0, 0, 95, [])), (95, (51, 8, 0, 98, [])), (98, (1, 3, 0, 99, [])), (99, (3, 0, 0, 100, [])), (100, (51, 7, 0, 103, [])), (103, (1, 3, 0, 104, [])), (104, (80, 10, 2, 107, [])), (107, (0, 0, 1, 108, [])), (108, (37, 115, 0, 111, [])), (111, (0, 0, 2, 112, [])), (112, (44, 121, 0, 115, [])), (115, (1, 4, 0, 117, [])), (117, (0, 0, 1, 118, [])), (118, (87, 0, 0, 121, [])), (121, (80, 11, 3, 124, [])), (124, (8, 2, 1, 127, [])), (127, (44, 12, 0, 130, [])), (130, (8, 1, 1, 133, [])), (133, (44, 2, 0, 136, [])), (136, (73, 0, 0, 137, []))]
/-- B_cellAt -/
def tb14 : List (Nat × Ent) := [(0, (1, 1, 0, 1, [])), (1, (32, 28, 0, 4, [])), (4, (1, 1, 0, 5, [])), (5, (3, 0, 0, 6, [])), (6, (50, 0, 0, 9, [])), (9, (39, 28, 0, 12, [])), (12, (1, 2, 0, 13, [])), (13, (32, 28, 0, 16, [])), (16, (1, 2, 0, 17, [])), (17, (3, 0, 0, 18, [])), (18, (50, 1, 0, 21, [])), (21, (39, 28, 0, 24, [])), (24, (0, 0, 1, 25, [])), (25, (44, 29, 0, 28, [])), (28, (0, 0, 0, 29, [])), (29, (2, 3, 0, 30, [])), (30, (1, 3, 0, 31, [])), (31, (30, 45, 0, 34, [])), (34, (1, 1, 0, 35, [])), (35, (3, 0, 0, 36, [])), (36, (50, 1, 0, 39, [])), (39, (13, 0, 0, 40, [])), (40, (1, 2, 0, 41, [])), (41, (11, 0, 0, 42, [])), (42, (44, 46, 0, 45, [])), (45, (0, 0, -1, 46, [])), (46, (70, 0, 0, 47, []))]
/-- F_set -/
def tb15 : List (Nat × Ent) := [(0, (1, 1, 0, 1, [])), (1, (31, 31, 0, 4, [])), (4, (1, 2, 0, 5, [])), (5, (0, 0, 1, 6, [])), (6, (0, 0, 5, 7, [])), (7, (80, 6, 3, 10, [])), (10, (30, 31, 0, 13, [])), (13, (3, 0, 0, 14, [])), (14, (51, 0, 2, 17, [])), (17, (50, 3, 0, 20, [])), (20, (2, 3, 0, 21, [])), (21, (3, 0, 0, 22, [])), (22, (51, 0, 2, 25, [])), (25, (1, 2, 0, 26, [])), (26, (52, 3, 0, 29, [])), (29, (1, 3, 0, 30, [])), (30, (70, 0, 0, 31, [])), (31, (1, 1, 0, 32, [])), (32, (0, 0, 1, 33, [])), (33, (37, 63, 0, 36, [])), (36, (1, 2, 0, 37, [])), (37, (0, 0, 0, 38, [])), (38, (0, 0, 3, 39, [])), (39, (80, 6, 3, 42, [])), (42, (30, 63, 0, 45, [])), (45, (3, 0, 0, 46, [])), (46, (51, 0, 2, 49, [])), (49, (50, 4, 0, 52, [])), (52, (2, 3, 0, 53, [])), (53, (3, 0, 0, 54, [])), (54, (51, 0, 2, 57, [])), (57, (1, 2, 0, 58, [])), (58, (52, 4, 0, 61, [])), (61, (1, 3, 0, 62, [])), (62, (70, 0, 0, 63, [])), (63, (0, 0, -2, 65, [])), (65, (70, 0, 0, 66, []))]
/-- F_shape -/
def tb16 : List (Nat × Ent) := [(0, (1, 1, 0, 1, [])), (1, (0, 0, 0, 2, [])), (2, (0, 0, 3, 3, [])), (3, (80, 6, 3, 6, [])), (6, (30, 20, 0, 9, [])), (9, (3, 0, 0, 10, [])), (10, (51, 0, 2, 13, [])), (13, (1, 2, 0, 14, [])), (14, (82, 8, 1, 17, [])), (17, (31, 22, 0, 20, [])), (20, (0, 0, -1, 21, [])), (21, (70, 0, 0, 22, [])), (22, (1, 3, 0, 23, [])), (23, (0, 0, -1, 24, [])), (24, (0, 0, 9, 26, [])), (26, (80, 6, 3, 29, [])), (29, (31, 35, 0, 32, [])), (32, (0, 0, -2, 34, [])), (34, (70, 0, 0, 35, [])), (35, (3, 0, 0, 36, [])), (36, (51, 0, 2, 39, [])), (39, (51, 10, 0, 42, [])), (42, (1, 1, 0, 43, [])), (43, (0, 0, 24, 45, [])), (45, (13, 0, 0, 46, [])), (46, (1, 2, 0, 47, [])), (47, (11, 0, 0, 48, [])), (48, (1, 3, 0, 49, [])), (49, (80, 11, 3, 52, [])), (52, (3, 0, 0, 53, [])), (53, (51, 0, 2, 56, [])), (56, (1, 1, 0, 57, [])), (57, (82, 17, 1, 60, [])), (60, (70, 0, 0, 61, []))]
/-- B_wishes -/
def tb17 : List (Nat × Ent) := [(0, (0, 0, 0, 1, [])), (1, (2, 2, 0, 2, [])), (2, (0, 0, 0, 3, [])), (3, (2, 3, 0, 4, [])), (4, (1, 3, 0, 5, [])), (5, (3, 0, 0, 6, [])), (6, (50, 2, 0, 9, [])), (9, (39, 36, 0, 12, [])), (12, (1, 2, 0, 13, [])), (13, (3, 0, 0, 14, [])), (14, (1, 1, 0, 15, [])), (15, (1, 3, 0, 16, [])), (16, (82, 18, 2, 19, [])), (19, (0, 0, -1, 20, [])), (20, (37, 27, 0, 23, [])), (23, (0, 0, 0, 24, [])), (24, (44, 28, 0, 27, [])), (27, (0, 0, 1, 28, [])), (28, (11, 0, 0, 29, [])), (29, (2, 2, 0, 30, [])), (30, (8, 3, 1, 33, [])), (33, (44, 4, 0, 36, [])), (36, (1, 2, 0, 37, [])), (37, (70, 0, 0, 38, []))]
/-- B_wants -/
def tb18 : List (Nat × Ent) := [(0, (3, 0, 0, 1, [])), (1, (51, 10, 0, 4, [])), (4, (1, 1, 0, 5, [])), (5, (0, 0, 24, 7, [])), (7, (13, 0, 0, 8, [])), (8, (1, 2, 0, 9, [])), (9, (11, 0, 0, 10, [])), (10, (80, 10, 2, 13, [])), (13, (70, 0, 0, 14, []))]
/-- F_say -/
def tb19 : List (Nat × Ent) := [(0, (1, 1, 0, 1, [])), (1, (0, 0, 33, 3, [])), (3, (0, 0, 126, 5, [])), (5, (80, 6, 3, 8, [])), (8, (31, 14, 0, 11, [])), (11, (0, 0, -2, 13, [])), (13, (70, 0, 0, 14, [])), (14, (3, 0, 0, 15, [])), (15, (51, 2, 2, 18, [])), (18, (50, 1, 1, 21, [])), (21, (0, 0, 60, 23, [])), (23, (38, 29, 0, 26, [])), (26, (0, 0, -4, 28, [])), (28, (70, 0, 0, 29, [])), (29, (3, 0, 0, 30, [])), (30, (51, 2, 2, 33, [])), (33, (51, 0, 1, 36, [])), (36, (3, 0, 0, 37, [])), (37, (51, 2, 2, 40, [])), (40, (50, 1, 1, 43, [])), (43, (1, 1, 0, 44, [])), (44, (80, 11, 3, 47, [])), (47, (3, 0, 0, 48, [])), (48, (51, 2, 2, 51, [])), (51, (9, 0, 0, 52, [])), (52, (50, 1, 1, 55, [])), (55, (0, 0, 1, 56, [])), (56, (11, 0, 0, 57, [])), (57, (52, 1, 1, 60, [])), (60, (3, 0, 0, 61, [])), (61, (51, 2, 2, 64, [])), (64, (50, 1, 1, 67, [])), (67, (70, 0, 0, 68, []))]
/-- F_wipe -/
def tb20 : List (Nat × Ent) := [(0, (3, 0, 0, 1, [])), (1, (51, 2, 2, 4, [])), (4, (50, 1, 1, 7, [])), (7, (2, 1, 0, 8, [])), (8, (3, 0, 0, 9, [])), (9, (51, 2, 2, 12, [])), (12, (0, 0, 0, 13, [])), (13, (52, 1, 1, 16, [])), (16, (1, 1, 0, 17, [])), (17, (70, 0, 0, 18, []))]
/-- F_fault -/
def tb21 : List (Nat × Ent) := [(0, (3, 0, 0, 1, [])), (1, (51, 2, 2, 4, [])), (4, (3, 0, 0, 5, [])), (5, (51, 0, 2, 8, [])), (8, (82, 22, 1, 11, [])), (11, (70, 0, 0, 12, []))]
/-- N_firstFault -/
def tb22 : List (Nat × Ent) := [(0, (0, 0, 0, 1, [])), (1, (2, 2, 0, 2, [])), (2, (1, 2, 0, 3, [])), (3, (3, 0, 0, 4, [])), (4, (50, 1, 1, 7, [])), (7, (39, 92, 0, 10, [])), (10, (3, 0, 0, 11, [])), (11, (51, 0, 1, 14, [])), (14, (1, 2, 0, 15, [])), (15, (80, 10, 2, 18, [])), (18, (2, 3, 0, 19, [])), (19, (1, 3, 0, 20, [])), (20, (80, 23, 1, 23, [])), (23, (0, 0, -6, 25, [])), (25, (36, 34, 0, 28, [])), (28, (8, 2, 1, 31, [])), (31, (44, 89, 0, 34, [])), (34, (3, 1, 0, 35, [])), (35, (42, 49, 0, 38, [])), (38, (3, 1, 0, 39, [])), (39, (1, 3, 0, 40, [])), (40, (0, 0, 97, 42, [])), (42, (12, 0, 0, 43, [])), (43, (82, 8, 1, 46, [])), (46, (31, 51, 0, 49, [])), (49, (1, 2, 0, 50, [])), (50, (70, 0, 0, 51, [])), (51, (1, 2, 0, 52, [])), (52, (0, 0, 1, 53, [])), (53, (11, 0, 0, 54, [])), (54, (3, 0, 0, 55, [])), (55, (50, 1, 1, 58, [])), (58, (37, 66, 0, 61, [])), (61, (3, 0, 0, 62, [])), (62, (50, 1, 1, 65, [])), (65, (70, 0, 0, 66, [])), (66, (3, 0, 0, 67, [])), (67, (51, 0, 1, 70, [])), (70, (1, 2, 0, 71, [])), (71, (0, 0, 1, 72, [])), (72, (11, 0, 0, 73, [])), (73, (80, 10, 2, 76, [])), (76, (80, 24, 1, 79, [])), (79, (31, 86, 0, 82, [])), (82, (1, 2, 0, 83, [])), (83, (0, 0, 1, 84, [])), (84, (11, 0, 0, 85, [])), (85, (70, 0, 0, 86, [])), (86, (8, 2, 2, 89, [])), (89, (44, 2, 0, 92, [])), (92, (0, 0, -6, 94, [])), (94, (70, 0, 0, 95, []))]
/-- F_hourOf -/
def tb23 : List (Nat × Ent) := [(0, (1, 0, 0, 1, [])), (1, (45, 72, 0, 60, [(46, 70), (60, 66), (62, 62), (94, 60), (95, 64), (126, 68)])), (60, (0, 0, 0, 61, [])), (61, (70, 0, 0, 62, [])), (62, (0, 0, 1, 63, [])), (63, (70, 0, 0, 64, [])), (64, (0, 0, 2, 65, [])), (65, (70, 0, 0, 66, [])), (66, (0, 0, 3, 67, [])), (67, (70, 0, 0, 68, [])), (68, (0, 0, 4, 69, [])), (69, (70, 0, 0, 70, [])), (70, (0, 0, 5, 71, [])), (71, (70, 0, 0, 72, [])), (72, (0, 0, -6, 74, [])), (74, (70, 0, 0, 75, []))]
/-- N_isAct -/
def tb24 : List (Nat × Ent) := [(0, (1, 0, 0, 1, [])), (1, (0, 0, 43, 3, [])), (3, (36, 23, 0, 6, [])), (6, (1, 0, 0, 7, [])), (7, (0, 0, 42, 9, [])), (9, (36, 23, 0, 12, [])), (12, (1, 0, 0, 13, [])), (13, (0, 0, 48, 15, [])), (15, (0, 0, 57, 17, [])), (17, (80, 6, 3, 20, [])), (20, (30, 27, 0, 23, [])), (23, (0, 0, 1, 24, [])), (24, (44, 28, 0, 27, [])), (27, (0, 0, 0, 28, [])), (28, (71, 0, 0, 29, []))]
/-- F_judge -/
def tb25 : List (Nat × Ent) := [(0, (1, 1, 0, 1, [])), (1, (0, 0, 0, 2, [])), (2, (0, 0, 1, 3, [])), (3, (80, 6, 3, 6, [])), (6, (31, 12, 0, 9, [])), (9, (0, 0, -2, 11, [])), (11, (70, 0, 0, 12, [])), (12, (3, 0, 0, 13, [])), (13, (51, 2, 2, 16, [])), (16, (3, 0, 0, 17, [])), (17, (51, 0, 2, 20, [])), (20, (82, 22, 1, 23, [])), (23, (0, 0, -6, 25, [])), (25, (36, 31, 0, 28, [])), (28, (0, 0, -5, 30, [])), (30, (70, 0, 0, 31, [])), (31, (3, 0, 0, 32, [])), (32, (51, 2, 2, 35, [])), (35, (3, 0, 0, 36, [])), (36, (51, 0, 2, 39, [])), (39, (3, 0, 0, 40, [])), (40, (51, 1, 2, 43, [])), (43, (0, 0, -1, 44, [])), (44, (82, 26, 3, 47, [])), (47, (1, 1, 0, 48, [])), (48, (31, 61, 0, 51, [])), (51, (3, 0, 0, 52, [])), (52, (51, 2, 2, 55, [])), (55, (50, 3, 1, 58, [])), (58, (44, 68, 0, 61, [])), (61, (3, 0, 0, 62, [])), (62, (51, 2, 2, 65, [])), (65, (50, 4, 1, 68, [])), (68, (70, 0, 0, 69, []))]
/-- N_play -/
def tb26 : List (Nat × Ent) := [(0, (3, 1, 0, 1, [])), (1, (42, 8, 0, 4, [])), (4, (3, 2, 0, 5, [])), (5, (43, 9, 0, 8, [])), (8, (73, 0, 0, 9, [])), (9, (3, 2, 0, 10, [])), (10, (3, 1, 0, 11, [])), (11, (82, 27, 1, 14, [])), (14, (3, 0, 0, 15, [])), (15, (0, 0, 0, 16, [])), (16, (52, 2, 1, 19, [])), (19, (3, 0, 0, 20, [])), (20, (0, 0, -6, 22, [])), (22, (52, 3, 1, 25, [])), (25, (3, 0, 0, 26, [])), (26, (0, 0, -6, 28, [])), (28, (52, 4, 1, 31, [])), (31, (3, 0, 0, 32, [])), (32, (0, 0, -6, 34, [])), (34, (52, 5, 1, 37, [])), (37, (0, 0, 0, 38, [])), (38, (2, 4, 0, 40, [])), (40, (1, 4, 0, 42, [])), (42, (3, 0, 0, 43, [])), (43, (50, 1, 1, 46, [])), (46, (39, 197, 0, 49, [])), (49, (3, 0, 0, 50, [])), (50, (50, 3, 1, 53, [])), (53, (0, 0, -6, 55, [])), (55, (37, 197, 0, 58, [])), (58, (3, 0, 0, 59, [])), (59, (51, 0, 1, 62, [])), (62, (1, 4, 0, 64, [])), (64, (80, 10, 2, 67, [])), (67, (2, 5, 0, 69, [])), (69, (1, 5, 0, 71, [])), (71, (80, 23, 1, 74, [])), (74, (2, 6, 0, 76, [])), (76, (1, 6, 0, 78, [])), (78, (0, 0, -6, 80, [])), (80, (36, 95, 0, 83, [])), (83, (3, 2, 0, 84, [])), (84, (1, 6, 0, 86, [])), (86, (82, 30, 1, 89, [])), (89, (8, 4, 1, 92, [])), (92, (44, 154, 0, 95, [])), (95, (3, 2, 0, 96, [])), (96, (1, 5, 0, 98, [])), (98, (0, 0, 97, 100, [])), (100, (12, 0, 0, 101, [])), (101, (3, 0, 0, 102, [])), (102, (51, 0, 1, 105, [])), (105, (1, 4, 0, 107, [])), (107, (0, 0, 1, 108, [])), (108, (11, 0, 0, 109, [])), (109, (80, 10, 2, 112, [])), (112, (82, 34, 2, 115, [])), (115, (2, 7, 0, 117, [])), (117, (3, 0, 0, 118, [])), (118, (1, 7, 0, 120, [])), (120, (31, 128, 0, 123, [])), (123, (0, 0, -6, 125, [])), (125, (44, 132, 0, 128, [])), (128, (3, 0, 0, 129, [])), (129, (50, 2, 1, 132, [])), (132, (52, 3, 1, 135, [])), (135, (3, 0, 0, 136, [])), (136, (1, 7, 0, 138, [])), (138, (31, 146, 0, 141, [])), (141, (0, 0, -6, 143, [])), (143, (44, 148, 0, 146, [])), (146, (1, 7, 0, 148, [])), (148, (52, 4, 1, 151, [])), (151, (8, 4, 2, 154, [])), (154, (1, 3, 0, 155, [])), (155, (0, 0, -1, 156, [])), (156, (36, 184, 0, 159, [])), (159, (3, 0, 0, 160, [])), (160, (50, 5, 1, 163, [])), (163, (0, 0, -6, 165, [])), (165, (37, 184, 0, 168, [])), (168, (3, 2, 0, 169, [])), (169, (1, 3, 0, 170, [])), (170, (82, 35, 1, 173, [])), (173, (31, 184, 0, 176, [])), (176, (3, 0, 0, 177, [])), (177, (3, 0, 0, 178, [])), (178, (50, 2, 1, 181, [])), (181, (52, 5, 1, 184, [])), (184, (3, 0, 0, 185, [])), (185, (9, 0, 0, 186, [])), (186, (50, 2, 1, 189, [])), (189, (0, 0, 1, 190, [])), (190, (11, 0, 0, 191, [])), (191, (52, 2, 1, 194, [])), (194, (44, 40, 0, 197, [])), (197, (73, 0, 0, 198, []))]
/-- B_copyAll -/
def tb27 : List (Nat × Ent) := [(0, (3, 1, 0, 1, [])), (1, (43, 5, 0, 4, [])), (4, (73, 0, 0, 5, [])), (5, (3, 0, 0, 6, [])), (6, (3, 1, 0, 7, [])), (7, (50, 0, 0, 10, [])), (10, (52, 0, 0, 13, [])), (13, (3, 0, 0, 14, [])), (14, (3, 1, 0, 15, [])), (15, (50, 1, 0, 18, [])), (18, (52, 1, 0, 21, [])), (21, (3, 0, 0, 22, [])), (22, (3, 1, 0, 23, [])), (23, (50, 2, 0, 26, [])), (26, (52, 2, 0, 29, [])), (29, (3, 0, 0, 30, [])), (30, (3, 1, 0, 31, [])), (31, (50, 3, 0, 34, [])), (34, (52, 3, 0, 37, [])), (37, (3, 0, 0, 38, [])), (38, (3, 1, 0, 39, [])), (39, (50, 4, 0, 42, [])), (42, (52, 4, 0, 45, [])), (45, (3, 0, 0, 46, [])), (46, (3, 1, 0, 47, [])), (47, (50, 5, 0, 50, [])), (50, (52, 5, 0, 53, [])), (53, (3, 1, 0, 54, [])), (54, (51, 10, 0, 57, [])), (57, (3, 0, 0, 58, [])), (58, (51, 10, 0, 61, [])), (61, (80, 28, 2, 64, [])), (64, (3, 1, 0, 65, [])), (65, (51, 11, 0, 68, [])), (68, (3, 0, 0, 69, [])), (69, (51, 11, 0, 72, [])), (72, (80, 28, 2, 75, [])), (75, (3, 1, 0, 76, [])), (76, (51, 12, 0, 79, [])), (79, (3, 0, 0, 80, [])), (80, (51, 12, 0, 83, [])), (83, (80, 28, 2, 86, [])), (86, (3, 0, 0, 87, [])), (87, (3, 1, 0, 88, [])), (88, (82, 29, 1, 91, [])), (91, (73, 0, 0, 92, []))]
/-- F_copyRow -/
def tb28 : List (Nat × Ent) := [(0, (3, 0, 0, 1, [])), (1, (42, 34, 0, 4, [])), (4, (3, 1, 0, 5, [])), (5, (42, 34, 0, 8, [])), (8, (0, 0, 0, 9, [])), (9, (2, 2, 0, 10, [])), (10, (1, 2, 0, 11, [])), (11, (3, 0, 0, 12, [])), (12, (54, 0, 0, 13, [])), (13, (39, 34, 0, 16, [])), (16, (1, 2, 0, 17, [])), (17, (3, 1, 0, 18, [])), (18, (54, 0, 0, 19, [])), (19, (39, 34, 0, 22, [])), (22, (3, 1, 0, 23, [])), (23, (1, 2, 0, 24, [])), (24, (3, 0, 0, 25, [])), (25, (1, 2, 0, 26, [])), (26, (55, 0, 0, 27, [])), (27, (56, 0, 0, 28, [])), (28, (8, 2, 1, 31, [])), (31, (44, 10, 0, 34, [])), (34, (73, 0, 0, 35, []))]
/-- B_copyFog -/
def tb29 : List (Nat × Ent) := [(0, (3, 1, 0, 1, [])), (1, (43, 5, 0, 4, [])), (4, (73, 0, 0, 5, [])), (5, (3, 1, 0, 6, [])), (6, (51, 6, 0, 9, [])), (9, (3, 0, 0, 10, [])), (10, (51, 6, 0, 13, [])), (13, (80, 28, 2, 16, [])), (16, (3, 1, 0, 17, [])), (17, (51, 7, 0, 20, [])), (20, (3, 0, 0, 21, [])), (21, (51, 7, 0, 24, [])), (24, (80, 28, 2, 27, [])), (27, (3, 1, 0, 28, [])), (28, (51, 8, 0, 31, [])), (31, (3, 0, 0, 32, [])), (32, (51, 8, 0, 35, [])), (35, (80, 28, 2, 38, [])), (38, (73, 0, 0, 39, []))]
/-- B_pass -/
def tb30 : List (Nat × Ent) := [(0, (0, 0, 0, 1, [])), (1, (2, 2, 0, 2, [])), (2, (1, 2, 0, 3, [])), (3, (3, 0, 0, 4, [])), (4, (50, 2, 0, 7, [])), (7, (39, 45, 0, 10, [])), (10, (3, 0, 0, 11, [])), (11, (51, 6, 0, 14, [])), (14, (1, 2, 0, 15, [])), (15, (0, 0, 0, 16, [])), (16, (3, 0, 0, 17, [])), (17, (51, 6, 0, 20, [])), (20, (1, 2, 0, 21, [])), (21, (80, 10, 2, 24, [])), (24, (3, 0, 0, 25, [])), (25, (51, 8, 0, 28, [])), (28, (1, 2, 0, 29, [])), (29, (80, 10, 2, 32, [])), (32, (12, 0, 0, 33, [])), (33, (86, 0, 0, 36, [])), (36, (80, 11, 3, 39, [])), (39, (8, 2, 1, 42, [])), (42, (44, 2, 0, 45, [])), (45, (1, 1, 0, 46, [])), (46, (0, 0, 4, 47, [])), (47, (37, 102, 0, 50, [])), (50, (0, 0, 0, 51, [])), (51, (2, 2, 0, 52, [])), (52, (1, 2, 0, 53, [])), (53, (3, 0, 0, 54, [])), (54, (50, 0, 0, 57, [])), (57, (39, 99, 0, 60, [])), (60, (1, 2, 0, 61, [])), (61, (3, 0, 0, 62, [])), (62, (50, 1, 0, 65, [])), (65, (13, 0, 0, 66, [])), (66, (2, 3, 0, 67, [])), (67, (3, 0, 0, 68, [])), (68, (51, 6, 0, 71, [])), (71, (1, 3, 0, 72, [])), (72, (0, 0, 9, 74, [])), (74, (3, 0, 0, 75, [])), (75, (51, 6, 0, 78, [])), (78, (1, 3, 0, 79, [])), (79, (80, 10, 2, 82, [])), (82, (3, 0, 0, 83, [])), (83, (50, 3, 0, 86, [])), (86, (11, 0, 0, 87, [])), (87, (87, 0, 0, 90, [])), (90, (80, 11, 3, 93, [])), (93, (8, 2, 1, 96, [])), (96, (44, 52, 0, 99, [])), (99, (44, 119, 0, 102, [])), (102, (1, 1, 0, 103, [])), (103, (0, 0, 5, 104, [])), (104, (36, 119, 0, 107, [])), (107, (3, 0, 0, 108, [])), (108, (1, 1, 0, 109, [])), (109, (80, 31, 1, 112, [])), (112, (1, 1, 0, 113, [])), (113, (80, 32, 1, 116, [])), (116, (82, 33, 2, 119, [])), (119, (73, 0, 0, 120, []))]
/-- B_down -/
def tb31 : List (Nat × Ent) := [(0, (1, 0, 0, 1, [])), (1, (0, 0, 2, 2, [])), (2, (37, 9, 0, 5, [])), (5, (0, 0, 1, 6, [])), (6, (44, 18, 0, 9, [])), (9, (1, 0, 0, 10, [])), (10, (31, 17, 0, 13, [])), (13, (0, 0, -1, 14, [])), (14, (44, 18, 0, 17, [])), (17, (0, 0, 0, 18, [])), (18, (70, 0, 0, 19, []))]
/-- B_on -/
def tb32 : List (Nat × Ent) := [(0, (1, 0, 0, 1, [])), (1, (0, 0, 1, 2, [])), (2, (37, 9, 0, 5, [])), (5, (0, 0, 1, 6, [])), (6, (44, 19, 0, 9, [])), (9, (1, 0, 0, 10, [])), (10, (0, 0, 3, 11, [])), (11, (37, 18, 0, 14, [])), (14, (0, 0, -1, 15, [])), (15, (44, 19, 0, 18, [])), (18, (0, 0, 0, 19, [])), (19, (70, 0, 0, 20, []))]
/-- B_blow -/
def tb33 : List (Nat × Ent) := [(0, (3, 0, 0, 1, [])), (1, (51, 6, 0, 4, [])), (4, (3, 0, 0, 5, [])), (5, (51, 9, 0, 8, [])), (8, (80, 28, 2, 11, [])), (11, (0, 0, 0, 12, [])), (12, (2, 3, 0, 13, [])), (13, (1, 3, 0, 14, [])), (14, (3, 0, 0, 15, [])), (15, (50, 0, 0, 18, [])), (18, (39, 144, 0, 21, [])), (21, (0, 0, 0, 22, [])), (22, (2, 4, 0, 24, [])), (24, (1, 4, 0, 26, [])), (26, (3, 0, 0, 27, [])), (27, (50, 1, 0, 30, [])), (30, (39, 138, 0, 33, [])), (33, (1, 3, 0, 34, [])), (34, (3, 0, 0, 35, [])), (35, (50, 1, 0, 38, [])), (38, (13, 0, 0, 39, [])), (39, (1, 4, 0, 41, [])), (41, (11, 0, 0, 42, [])), (42, (2, 5, 0, 44, [])), (44, (3, 0, 0, 45, [])), (45, (1, 3, 0, 46, [])), (46, (1, 1, 0, 47, [])), (47, (11, 0, 0, 48, [])), (48, (1, 4, 0, 50, [])), (50, (1, 2, 0, 51, [])), (51, (11, 0, 0, 52, [])), (52, (82, 14, 2, 55, [])), (55, (2, 6, 0, 57, [])), (57, (1, 6, 0, 59, [])), (59, (0, 0, -1, 60, [])), (60, (37, 67, 0, 63, [])), (63, (0, 0, 0, 64, [])), (64, (44, 76, 0, 67, [])), (67, (3, 0, 0, 68, [])), (68, (51, 9, 0, 71, [])), (71, (1, 6, 0, 73, [])), (73, (80, 10, 2, 76, [])), (76, (2, 7, 0, 78, [])), (78, (1, 7, 0, 80, [])), (80, (3, 0, 0, 81, [])), (81, (51, 9, 0, 84, [])), (84, (1, 5, 0, 86, [])), (86, (80, 10, 2, 89, [])), (89, (39, 132, 0, 92, [])), (92, (3, 0, 0, 93, [])), (93, (51, 6, 0, 96, [])), (96, (1, 5, 0, 98, [])), (98, (3, 0, 0, 99, [])), (99, (51, 6, 0, 102, [])), (102, (1, 5, 0, 104, [])), (104, (80, 10, 2, 107, [])), (107, (0, 0, 1, 108, [])), (108, (12, 0, 0, 109, [])), (109, (80, 11, 3, 112, [])), (112, (3, 0, 0, 113, [])), (113, (51, 6, 0, 116, [])), (116, (1, 6, 0, 118, [])), (118, (3, 0, 0, 119, [])), (119, (51, 6, 0, 122, [])), (122, (1, 6, 0, 124, [])), (124, (80, 10, 2, 127, [])), (127, (0, 0, 1, 128, [])), (128, (11, 0, 0, 129, [])), (129, (80, 11, 3, 132, [])), (132, (8, 4, 1, 135, [])), (135, (44, 24, 0, 138, [])), (138, (8, 3, 1, 141, [])), (141, (44, 13, 0, 144, [])), (144, (73, 0, 0, 145, []))]
/-- B_act -/
def tb34 : List (Nat × Ent) := [(0, (3, 0, 0, 1, [])), (1, (51, 6, 0, 4, [])), (4, (1, 1, 0, 5, [])), (5, (80, 10, 2, 8, [])), (8, (2, 3, 0, 9, [])), (9, (1, 2, 0, 10, [])), (10, (0, 0, 42, 12, [])), (12, (37, 32, 0, 15, [])), (15, (3, 0, 0, 16, [])), (16, (1, 1, 0, 17, [])), (17, (0, 0, 1, 18, [])), (18, (3, 0, 0, 19, [])), (19, (51, 7, 0, 22, [])), (22, (1, 1, 0, 23, [])), (23, (80, 10, 2, 26, [])), (26, (12, 0, 0, 27, [])), (27, (82, 12, 2, 30, [])), (30, (0, 0, 0, 31, [])), (31, (70, 0, 0, 32, [])), (32, (1, 2, 0, 33, [])), (33, (0, 0, 43, 35, [])), (35, (37, 66, 0, 38, [])), (38, (3, 0, 0, 39, [])), (39, (51, 6, 0, 42, [])), (42, (1, 1, 0, 43, [])), (43, (0, 0, 9, 45, [])), (45, (1, 3, 0, 46, [])), (46, (0, 0, 1, 47, [])), (47, (11, 0, 0, 48, [])), (48, (87, 0, 0, 51, [])), (51, (80, 11, 3, 54, [])), (54, (1, 3, 0, 55, [])), (55, (0, 0, 9, 57, [])), (57, (38, 64, 0, 60, [])), (60, (0, 0, 2, 61, [])), (61, (44, 65, 0, 64, [])), (64, (0, 0, 0, 65, [])), (65, (70, 0, 0, 66, [])), (66, (1, 2, 0, 67, [])), (67, (0, 0, 48, 69, [])), (69, (12, 0, 0, 70, [])), (70, (2, 4, 0, 72, [])), (72, (3, 0, 0, 73, [])), (73, (51, 6, 0, 76, [])), (76, (1, 1, 0, 77, [])), (77, (1, 4, 0, 79, [])), (79, (1, 3, 0, 80, [])), (80, (87, 0, 0, 83, [])), (83, (80, 11, 3, 86, [])), (86, (1, 3, 0, 87, [])), (87, (1, 4, 0, 89, [])), (89, (40, 96, 0, 92, [])), (92, (0, 0, 1, 93, [])), (93, (44, 97, 0, 96, [])), (96, (0, 0, 0, 97, [])), (97, (70, 0, 0, 98, []))]
/-- B_holds -/
def tb35 : List (Nat × Ent) := [(0, (3, 0, 0, 1, [])), (1, (1, 1, 0, 2, [])), (2, (0, 0, 0, 3, [])), (3, (0, 0, 0, 4, [])), (4, (82, 36, 3, 7, [])), (7, (31, 14, 0, 10, [])), (10, (0, 0, 1, 11, [])), (11, (44, 15, 0, 14, [])), (14, (0, 0, 0, 15, [])), (15, (71, 0, 0, 16, []))]
/-- B_acts -/
def tb36 : List (Nat × Ent) := [(0, (0, 0, 0, 1, [])), (1, (2, 4, 0, 3, [])), (3, (0, 0, 0, 4, [])), (4, (2, 5, 0, 6, [])), (6, (1, 5, 0, 8, [])), (8, (3, 0, 0, 9, [])), (9, (50, 0, 0, 12, [])), (12, (39, 85, 0, 15, [])), (15, (0, 0, 0, 16, [])), (16, (2, 6, 0, 18, [])), (18, (1, 6, 0, 20, [])), (20, (3, 0, 0, 21, [])), (21, (50, 1, 0, 24, [])), (24, (39, 79, 0, 27, [])), (27, (3, 0, 0, 28, [])), (28, (1, 1, 0, 29, [])), (29, (1, 5, 0, 31, [])), (31, (3, 0, 0, 32, [])), (32, (50, 1, 0, 35, [])), (35, (13, 0, 0, 36, [])), (36, (1, 6, 0, 38, [])), (38, (11, 0, 0, 39, [])), (39, (82, 18, 2, 42, [])), (42, (2, 7, 0, 44, [])), (44, (1, 7, 0, 46, [])), (46, (0, 0, -1, 47, [])), (47, (36, 73, 0, 50, [])), (50, (1, 4, 0, 52, [])), (52, (3, 0, 0, 53, [])), (53, (3, 0, 0, 54, [])), (54, (1, 5, 0, 56, [])), (56, (1, 2, 0, 57, [])), (57, (11, 0, 0, 58, [])), (58, (1, 6, 0, 60, [])), (60, (1, 3, 0, 61, [])), (61, (11, 0, 0, 62, [])), (62, (82, 14, 2, 65, [])), (65, (1, 7, 0, 67, [])), (67, (82, 37, 2, 70, [])), (70, (11, 0, 0, 71, [])), (71, (2, 4, 0, 73, [])), (73, (8, 6, 1, 76, [])), (76, (44, 18, 0, 79, [])), (79, (8, 5, 1, 82, [])), (82, (44, 6, 0, 85, [])), (85, (1, 4, 0, 87, [])), (87, (70, 0, 0, 88, []))]
/-- B_actsAt -/
def tb37 : List (Nat × Ent) := [(0, (1, 1, 0, 1, [])), (1, (0, 0, -1, 2, [])), (2, (37, 8, 0, 5, [])), (5, (0, 0, 1000000, 7, [])), (7, (70, 0, 0, 8, [])), (8, (3, 0, 0, 9, [])), (9, (51, 6, 0, 12, [])), (12, (1, 1, 0, 13, [])), (13, (80, 10, 2, 16, [])), (16, (2, 3, 0, 17, [])), (17, (1, 3, 0, 18, [])), (18, (1, 2, 0, 19, [])), (19, (3, 0, 0, 20, [])), (20, (50, 4, 0, 23, [])), (23, (11, 0, 0, 24, [])), (24, (41, 31, 0, 27, [])), (27, (0, 0, 1, 28, [])), (28, (44, 43, 0, 31, [])), (31, (0, 0, 0, 32, [])), (32, (1, 2, 0, 33, [])), (33, (3, 0, 0, 34, [])), (34, (50, 4, 0, 37, [])), (37, (12, 0, 0, 38, [])), (38, (1, 3, 0, 39, [])), (39, (12, 0, 0, 40, [])), (40, (86, 0, 0, 43, [])), (43, (70, 0, 0, 44, []))]
/-- F_done -/
def tb38 : List (Nat × Ent) := [(0, (3, 0, 0, 1, [])), (1, (0, 0, -1, 2, [])), (2, (82, 39, 1, 5, [])), (5, (31, 11, 0, 8, [])), (8, (0, 0, -5, 10, [])), (10, (70, 0, 0, 11, [])), (11, (3, 0, 0, 12, [])), (12, (51, 0, 2, 15, [])), (15, (3, 0, 0, 16, [])), (16, (51, 1, 2, 19, [])), (19, (82, 29, 1, 22, [])), (22, (3, 0, 0, 23, [])), (23, (51, 2, 2, 26, [])), (26, (0, 0, 0, 27, [])), (27, (52, 1, 1, 30, [])), (30, (3, 0, 0, 31, [])), (31, (51, 2, 2, 34, [])), (34, (50, 2, 1, 37, [])), (37, (70, 0, 0, 38, []))]
/-- F_canBeDone -/
def tb39 : List (Nat × Ent) := [(0, (3, 0, 0, 1, [])), (1, (51, 2, 2, 4, [])), (4, (3, 0, 0, 5, [])), (5, (51, 0, 2, 8, [])), (8, (82, 22, 1, 11, [])), (11, (0, 0, -6, 13, [])), (13, (36, 18, 0, 16, [])), (16, (0, 0, 0, 17, [])), (17, (71, 0, 0, 18, [])), (18, (3, 0, 0, 19, [])), (19, (51, 2, 2, 22, [])), (22, (3, 0, 0, 23, [])), (23, (51, 0, 2, 26, [])), (26, (3, 0, 0, 27, [])), (27, (51, 1, 2, 30, [])), (30, (1, 1, 0, 31, [])), (31, (82, 26, 3, 34, [])), (34, (3, 0, 0, 35, [])), (35, (51, 2, 2, 38, [])), (38, (50, 3, 1, 41, [])), (41, (0, 0, -6, 43, [])), (43, (37, 50, 0, 46, [])), (46, (0, 0, 1, 47, [])), (47, (44, 51, 0, 50, [])), (50, (0, 0, 0, 51, [])), (51, (71, 0, 0, 52, []))]
/-- F_state -/
def tb40 : List (Nat × Ent) := [(0, (3, 0, 0, 1, [])), (1, (51, 0, 2, 4, [])), (4, (1, 1, 0, 5, [])), (5, (82, 8, 1, 8, [])), (8, (31, 13, 0, 11, [])), (11, (0, 0, -1, 12, [])), (12, (70, 0, 0, 13, [])), (13, (1, 2, 0, 14, [])), (14, (0, 0, 0, 15, [])), (15, (0, 0, 1, 16, [])), (16, (80, 6, 3, 19, [])), (19, (30, 34, 0, 22, [])), (22, (3, 0, 0, 23, [])), (23, (51, 0, 2, 26, [])), (26, (1, 1, 0, 27, [])), (27, (1, 2, 0, 28, [])), (28, (82, 9, 2, 31, [])), (31, (44, 36, 0, 34, [])), (34, (0, 0, -2, 36, [])), (36, (70, 0, 0, 37, []))]
/-- F_behind -/
def tb41 : List (Nat × Ent) := [(0, (3, 0, 0, 1, [])), (1, (51, 0, 2, 4, [])), (4, (1, 1, 0, 5, [])), (5, (82, 8, 1, 8, [])), (8, (31, 13, 0, 11, [])), (11, (0, 0, -1, 12, [])), (12, (70, 0, 0, 13, [])), (13, (1, 2, 0, 14, [])), (14, (0, 0, 0, 15, [])), (15, (0, 0, 1, 16, [])), (16, (80, 6, 3, 19, [])), (19, (31, 25, 0, 22, [])), (22, (0, 0, -2, 24, [])), (24, (70, 0, 0, 25, [])), (25, (3, 0, 0, 26, [])), (26, (0, 0, -1, 27, [])), (27, (82, 39, 1, 30, [])), (30, (30, 45, 0, 33, [])), (33, (3, 0, 0, 34, [])), (34, (51, 1, 2, 37, [])), (37, (1, 1, 0, 38, [])), (38, (1, 2, 0, 39, [])), (39, (82, 9, 2, 42, [])), (42, (44, 47, 0, 45, [])), (45, (0, 0, -5, 47, [])), (47, (70, 0, 0, 48, []))]
/-- F_stands -/
def tb42 : List (Nat × Ent) := [(0, (3, 0, 0, 1, [])), (1, (1, 1, 0, 2, [])), (2, (82, 43, 1, 5, [])), (5, (31, 10, 0, 8, [])), (8, (0, 0, -1, 9, [])), (9, (70, 0, 0, 10, [])), (10, (3, 0, 0, 11, [])), (11, (51, 0, 2, 14, [])), (14, (1, 1, 0, 15, [])), (15, (82, 35, 1, 18, [])), (18, (30, 25, 0, 21, [])), (21, (0, 0, 1, 22, [])), (22, (44, 26, 0, 25, [])), (25, (0, 0, 0, 26, [])), (26, (70, 0, 0, 27, []))]
/-- F_isShape -/
def tb43 : List (Nat × Ent) := [(0, (1, 1, 0, 1, [])), (1, (0, 0, 0, 2, [])), (2, (0, 0, 3, 3, [])), (3, (80, 6, 3, 6, [])), (6, (30, 24, 0, 9, [])), (9, (3, 0, 0, 10, [])), (10, (51, 0, 2, 13, [])), (13, (1, 1, 0, 14, [])), (14, (82, 17, 1, 17, [])), (17, (35, 24, 0, 20, [])), (20, (0, 0, 1, 21, [])), (21, (44, 25, 0, 24, [])), (24, (0, 0, 0, 25, [])), (25, (71, 0, 0, 26, []))]
/-- F_lost -/
def tb44 : List (Nat × Ent) := [(0, (3, 0, 0, 1, [])), (1, (1, 1, 0, 2, [])), (2, (82, 43, 1, 5, [])), (5, (31, 10, 0, 8, [])), (8, (0, 0, -1, 9, [])), (9, (70, 0, 0, 10, [])), (10, (3, 0, 0, 11, [])), (11, (1, 1, 0, 12, [])), (12, (82, 39, 1, 15, [])), (15, (30, 28, 0, 18, [])), (18, (3, 0, 0, 19, [])), (19, (51, 2, 2, 22, [])), (22, (50, 5, 1, 25, [])), (25, (44, 30, 0, 28, [])), (28, (0, 0, -5, 30, [])), (30, (70, 0, 0, 31, []))]
/-- F_through -/
def tb45 : List (Nat × Ent) := [(0, (0, 0, 0, 1, [])), (1, (2, 1, 0, 2, [])), (2, (0, 0, 0, 3, [])), (3, (2, 2, 0, 4, [])), (4, (1, 2, 0, 5, [])), (5, (3, 0, 0, 6, [])), (6, (51, 0, 2, 9, [])), (9, (50, 0, 0, 12, [])), (12, (39, 93, 0, 15, [])), (15, (0, 0, 1, 16, [])), (16, (2, 3, 0, 17, [])), (17, (0, 0, 0, 18, [])), (18, (2, 4, 0, 20, [])), (20, (1, 4, 0, 22, [])), (22, (3, 0, 0, 23, [])), (23, (51, 0, 2, 26, [])), (26, (50, 1, 0, 29, [])), (29, (39, 73, 0, 32, [])), (32, (1, 3, 0, 33, [])), (33, (30, 65, 0, 36, [])), (36, (3, 0, 0, 37, [])), (37, (51, 0, 2, 40, [])), (40, (51, 6, 0, 43, [])), (43, (1, 2, 0, 44, [])), (44, (3, 0, 0, 45, [])), (45, (51, 0, 2, 48, [])), (48, (50, 1, 0, 51, [])), (51, (13, 0, 0, 52, [])), (52, (1, 4, 0, 54, [])), (54, (11, 0, 0, 55, [])), (55, (80, 10, 2, 58, [])), (58, (31, 65, 0, 61, [])), (61, (0, 0, 1, 62, [])), (62, (44, 66, 0, 65, [])), (65, (0, 0, 0, 66, [])), (66, (2, 3, 0, 67, [])), (67, (8, 4, 1, 70, [])), (70, (44, 20, 0, 73, [])), (73, (1, 1, 0, 74, [])), (74, (1, 3, 0, 75, [])), (75, (30, 84, 0, 78, [])), (78, (0, 0, 1, 79, [])), (79, (1, 2, 0, 80, [])), (80, (17, 0, 0, 81, [])), (81, (44, 85, 0, 84, [])), (84, (0, 0, 0, 85, [])), (85, (21, 0, 0, 86, [])), (86, (2, 1, 0, 87, [])), (87, (8, 2, 1, 90, [])), (90, (44, 4, 0, 93, [])), (93, (1, 1, 0, 94, [])), (94, (70, 0, 0, 95, []))]
/-- F_carved -/
def tb46 : List (Nat × Ent) := [(0, (3, 0, 0, 1, [])), (1, (1, 1, 0, 2, [])), (2, (82, 43, 1, 5, [])), (5, (30, 21, 0, 8, [])), (8, (3, 0, 0, 9, [])), (9, (51, 0, 2, 12, [])), (12, (1, 1, 0, 13, [])), (13, (0, 0, 0, 14, [])), (14, (0, 0, 0, 15, [])), (15, (82, 36, 3, 18, [])), (18, (44, 22, 0, 21, [])), (21, (0, 0, -1, 22, [])), (22, (70, 0, 0, 23, []))]
/-- F_nowThen -/
def tb47 : List (Nat × Ent) := [(0, (3, 0, 0, 1, [])), (1, (1, 1, 0, 2, [])), (2, (82, 43, 1, 5, [])), (5, (31, 10, 0, 8, [])), (8, (0, 0, -1, 9, [])), (9, (70, 0, 0, 10, [])), (10, (1, 2, 0, 11, [])), (11, (0, 0, 0, 12, [])), (12, (0, 0, 1, 13, [])), (13, (80, 6, 3, 16, [])), (16, (31, 22, 0, 19, [])), (19, (0, 0, -2, 21, [])), (21, (70, 0, 0, 22, [])), (22, (3, 0, 0, 23, [])), (23, (51, 2, 2, 26, [])), (26, (82, 48, 0, 29, [])), (29, (31, 35, 0, 32, [])), (32, (0, 0, -5, 34, [])), (34, (70, 0, 0, 35, [])), (35, (3, 0, 0, 36, [])), (36, (51, 0, 2, 39, [])), (39, (1, 1, 0, 40, [])), (40, (82, 17, 1, 43, [])), (43, (0, 0, 3, 44, [])), (44, (41, 50, 0, 47, [])), (47, (0, 0, -4, 49, [])), (49, (70, 0, 0, 50, [])), (50, (3, 0, 0, 51, [])), (51, (1, 1, 0, 52, [])), (52, (82, 49, 1, 55, [])), (55, (1, 2, 0, 56, [])), (56, (80, 54, 2, 59, [])), (59, (70, 0, 0, 60, []))]
/-- N_isHoursAlone -/
def tb48 : List (Nat × Ent) := [(0, (0, 0, 1, 1, [])), (1, (2, 1, 0, 2, [])), (2, (0, 0, 0, 3, [])), (3, (2, 2, 0, 4, [])), (4, (1, 2, 0, 5, [])), (5, (3, 0, 0, 6, [])), (6, (50, 1, 1, 9, [])), (9, (39, 44, 0, 12, [])), (12, (1, 1, 0, 13, [])), (13, (30, 36, 0, 16, [])), (16, (3, 0, 0, 17, [])), (17, (51, 0, 1, 20, [])), (20, (1, 2, 0, 21, [])), (21, (80, 10, 2, 24, [])), (24, (80, 23, 1, 27, [])), (27, (0, 0, -6, 29, [])), (29, (36, 36, 0, 32, [])), (32, (0, 0, 1, 33, [])), (33, (44, 37, 0, 36, [])), (36, (0, 0, 0, 37, [])), (37, (2, 1, 0, 38, [])), (38, (8, 2, 1, 41, [])), (41, (44, 4, 0, 44, [])), (44, (1, 1, 0, 45, [])), (45, (71, 0, 0, 46, []))]
/-- F_fewestCuts -/
def tb49 : List (Nat × Ent) := [(0, (0, 0, 0, 1, [])), (1, (2, 2, 0, 2, [])), (2, (0, 0, 0, 3, [])), (3, (2, 3, 0, 4, [])), (4, (1, 3, 0, 5, [])), (5, (3, 0, 0, 6, [])), (6, (51, 0, 2, 9, [])), (9, (50, 2, 0, 12, [])), (12, (39, 46, 0, 15, [])), (15, (3, 0, 0, 16, [])), (16, (51, 0, 2, 19, [])), (19, (1, 1, 0, 20, [])), (20, (1, 3, 0, 21, [])), (21, (82, 18, 2, 24, [])), (24, (0, 0, -1, 25, [])), (25, (36, 40, 0, 28, [])), (28, (3, 0, 0, 29, [])), (29, (51, 4, 2, 32, [])), (32, (1, 2, 0, 33, [])), (33, (1, 3, 0, 34, [])), (34, (80, 11, 3, 37, [])), (37, (8, 2, 1, 40, [])), (40, (8, 3, 1, 43, [])), (43, (44, 4, 0, 46, [])), (46, (3, 0, 0, 47, [])), (47, (51, 1, 2, 50, [])), (50, (3, 0, 0, 51, [])), (51, (51, 0, 2, 54, [])), (54, (82, 27, 1, 57, [])), (57, (0, 0, 0, 58, [])), (58, (2, 3, 0, 59, [])), (59, (1, 3, 0, 60, [])), (60, (1, 2, 0, 61, [])), (61, (40, 115, 0, 64, [])), (64, (0, 0, 0, 65, [])), (65, (2, 4, 0, 67, [])), (67, (1, 4, 0, 69, [])), (69, (0, 0, 1, 70, [])), (70, (1, 2, 0, 71, [])), (71, (17, 0, 0, 72, [])), (72, (39, 109, 0, 75, [])), (75, (1, 4, 0, 77, [])), (77, (80, 50, 1, 80, [])), (80, (1, 3, 0, 81, [])), (81, (37, 103, 0, 84, [])), (84, (3, 0, 0, 85, [])), (85, (1, 1, 0, 86, [])), (86, (1, 4, 0, 88, [])), (88, (1, 2, 0, 89, [])), (89, (82, 51, 3, 92, [])), (92, (30, 103, 0, 95, [])), (95, (3, 0, 0, 96, [])), (96, (1, 4, 0, 98, [])), (98, (1, 2, 0, 99, [])), (99, (82, 53, 2, 102, [])), (102, (70, 0, 0, 103, [])), (103, (8, 4, 1, 106, [])), (106, (44, 67, 0, 109, [])), (109, (8, 3, 1, 112, [])), (112, (44, 59, 0, 115, [])), (115, (0, 0, -6, 117, [])), (117, (70, 0, 0, 118, []))]
/-- I_bitCount -/
def tb50 : List (Nat × Ent) := [(0, (1, 0, 0, 1, [])), (1, (1, 0, 0, 2, [])), (2, (0, 0, 1, 3, [])), (3, (19, 0, 0, 4, [])), (4, (0, 0, 1431655765, 7, [])), (7, (20, 0, 0, 8, [])), (8, (12, 0, 0, 9, [])), (9, (2, 0, 0, 10, [])), (10, (1, 0, 0, 11, [])), (11, (0, 0, 858993459, 14, [])), (14, (20, 0, 0, 15, [])), (15, (1, 0, 0, 16, [])), (16, (0, 0, 2, 17, [])), (17, (19, 0, 0, 18, [])), (18, (0, 0, 858993459, 21, [])), (21, (20, 0, 0, 22, [])), (22, (11, 0, 0, 23, [])), (23, (2, 0, 0, 24, [])), (24, (1, 0, 0, 25, [])), (25, (1, 0, 0, 26, [])), (26, (0, 0, 4, 27, [])), (27, (19, 0, 0, 28, [])), (28, (11, 0, 0, 29, [])), (29, (0, 0, 252645135, 32, [])), (32, (20, 0, 0, 33, [])), (33, (2, 0, 0, 34, [])), (34, (1, 0, 0, 35, [])), (35, (1, 0, 0, 36, [])), (36, (0, 0, 8, 38, [])), (38, (19, 0, 0, 39, [])), (39, (11, 0, 0, 40, [])), (40, (2, 0, 0, 41, [])), (41, (1, 0, 0, 42, [])), (42, (1, 0, 0, 43, [])), (43, (0, 0, 16, 45, [])), (45, (19, 0, 0, 46, [])), (46, (11, 0, 0, 47, [])), (47, (2, 0, 0, 48, [])), (48, (1, 0, 0, 49, [])), (49, (0, 0, 63, 51, [])), (51, (20, 0, 0, 52, [])), (52, (70, 0, 0, 53, []))]
/-- F_standsByCuts -/
def tb51 : List (Nat × Ent) := [(0, (0, 0, 1, 1, [])), (1, (2, 4, 0, 3, [])), (3, (0, 0, 0, 4, [])), (4, (2, 5, 0, 6, [])), (6, (1, 5, 0, 8, [])), (8, (1, 3, 0, 9, [])), (9, (39, 56, 0, 12, [])), (12, (1, 4, 0, 14, [])), (14, (1, 2, 0, 15, [])), (15, (1, 5, 0, 17, [])), (17, (18, 0, 0, 18, [])), (18, (0, 0, 1, 19, [])), (19, (20, 0, 0, 20, [])), (20, (0, 0, 1, 21, [])), (21, (37, 46, 0, 24, [])), (24, (3, 0, 0, 25, [])), (25, (51, 0, 2, 28, [])), (28, (51, 6, 0, 31, [])), (31, (3, 0, 0, 32, [])), (32, (51, 4, 2, 35, [])), (35, (1, 5, 0, 37, [])), (37, (80, 10, 2, 40, [])), (40, (80, 10, 2, 43, [])), (43, (44, 47, 0, 46, [])), (46, (0, 0, 1, 47, [])), (47, (13, 0, 0, 48, [])), (48, (2, 4, 0, 50, [])), (50, (8, 5, 1, 53, [])), (53, (44, 6, 0, 56, [])), (56, (0, 0, 0, 57, [])), (57, (2, 5, 0, 59, [])), (59, (1, 5, 0, 61, [])), (61, (1, 4, 0, 63, [])), (63, (39, 190, 0, 66, [])), (66, (3, 0, 0, 67, [])), (67, (51, 1, 2, 70, [])), (70, (3, 0, 0, 71, [])), (71, (51, 0, 2, 74, [])), (74, (82, 29, 1, 77, [])), (77, (1, 5, 0, 79, [])), (79, (2, 6, 0, 81, [])), (81, (0, 0, 0, 82, [])), (82, (2, 7, 0, 84, [])), (84, (1, 7, 0, 86, [])), (86, (1, 3, 0, 87, [])), (87, (39, 160, 0, 90, [])), (90, (3, 0, 0, 91, [])), (91, (51, 4, 2, 94, [])), (94, (1, 7, 0, 96, [])), (96, (80, 10, 2, 99, [])), (99, (2, 8, 0, 101, [])), (101, (3, 0, 0, 102, [])), (102, (51, 0, 2, 105, [])), (105, (51, 6, 0, 108, [])), (108, (1, 8, 0, 110, [])), (110, (80, 10, 2, 113, [])), (113, (2, 9, 0, 115, [])), (115, (1, 2, 0, 116, [])), (116, (1, 7, 0, 118, [])), (118, (18, 0, 0, 119, [])), (119, (0, 0, 1, 120, [])), (120, (20, 0, 0, 121, [])), (121, (0, 0, 1, 122, [])), (122, (37, 154, 0, 125, [])), (125, (1, 9, 0, 127, [])), (127, (35, 154, 0, 130, [])), (130, (3, 0, 0, 131, [])), (131, (51, 1, 2, 134, [])), (134, (51, 6, 0, 137, [])), (137, (1, 8, 0, 139, [])), (139, (1, 6, 0, 141, [])), (141, (1, 9, 0, 143, [])), (143, (15, 0, 0, 144, [])), (144, (80, 11, 3, 147, [])), (147, (1, 6, 0, 149, [])), (149, (1, 9, 0, 151, [])), (151, (14, 0, 0, 152, [])), (152, (2, 6, 0, 154, [])), (154, (8, 7, 1, 157, [])), (157, (44, 84, 0, 160, [])), (160, (3, 0, 0, 161, [])), (161, (51, 2, 2, 164, [])), (164, (3, 0, 0, 165, [])), (165, (51, 1, 2, 168, [])), (168, (82, 52, 1, 171, [])), (171, (3, 0, 0, 172, [])), (172, (51, 1, 2, 175, [])), (175, (1, 1, 0, 176, [])), (176, (82, 35, 1, 179, [])), (179, (30, 184, 0, 182, [])), (182, (0, 0, 1, 183, [])), (183, (71, 0, 0, 184, [])), (184, (8, 5, 1, 187, [])), (187, (44, 59, 0, 190, [])), (190, (0, 0, 0, 191, [])), (191, (71, 0, 0, 192, []))]
/-- N_passHours -/
def tb52 : List (Nat × Ent) := [(0, (0, 0, 0, 1, [])), (1, (2, 2, 0, 2, [])), (2, (1, 2, 0, 3, [])), (3, (3, 0, 0, 4, [])), (4, (50, 1, 1, 7, [])), (7, (39, 35, 0, 10, [])), (10, (3, 1, 0, 11, [])), (11, (42, 35, 0, 14, [])), (14, (3, 1, 0, 15, [])), (15, (3, 0, 0, 16, [])), (16, (51, 0, 1, 19, [])), (19, (1, 2, 0, 20, [])), (20, (80, 10, 2, 23, [])), (23, (80, 23, 1, 26, [])), (26, (82, 30, 1, 29, [])), (29, (8, 2, 1, 32, [])), (32, (44, 2, 0, 35, [])), (35, (73, 0, 0, 36, []))]
/-- F_pickedBits -/
def tb53 : List (Nat × Ent) := [(0, (0, 0, 0, 1, [])), (1, (2, 3, 0, 2, [])), (2, (0, 0, 0, 3, [])), (3, (2, 4, 0, 5, [])), (5, (1, 4, 0, 7, [])), (7, (1, 2, 0, 8, [])), (8, (39, 45, 0, 11, [])), (11, (1, 3, 0, 12, [])), (12, (1, 1, 0, 13, [])), (13, (1, 4, 0, 15, [])), (15, (18, 0, 0, 16, [])), (16, (0, 0, 1, 17, [])), (17, (20, 0, 0, 18, [])), (18, (0, 0, 1, 19, [])), (19, (37, 36, 0, 22, [])), (22, (0, 0, 1, 23, [])), (23, (3, 0, 0, 24, [])), (24, (51, 4, 2, 27, [])), (27, (1, 4, 0, 29, [])), (29, (80, 10, 2, 32, [])), (32, (17, 0, 0, 33, [])), (33, (44, 37, 0, 36, [])), (36, (0, 0, 0, 37, [])), (37, (21, 0, 0, 38, [])), (38, (2, 3, 0, 39, [])), (39, (8, 4, 1, 42, [])), (42, (44, 5, 0, 45, [])), (45, (1, 3, 0, 46, [])), (46, (70, 0, 0, 47, []))]
/-- F_countOrBits -/
def tb54 : List (Nat × Ent) := [(0, (1, 1, 0, 1, [])), (1, (31, 17, 0, 4, [])), (4, (1, 0, 0, 5, [])), (5, (0, 0, -6, 7, [])), (7, (36, 17, 0, 10, [])), (10, (1, 0, 0, 11, [])), (11, (80, 50, 1, 14, [])), (14, (44, 18, 0, 17, [])), (17, (1, 0, 0, 18, [])), (18, (70, 0, 0, 19, []))]
/-- F_dark -/
def tb55 : List (Nat × Ent) := [(0, (3, 0, 0, 1, [])), (1, (1, 1, 0, 2, [])), (2, (82, 43, 1, 5, [])), (5, (31, 10, 0, 8, [])), (8, (0, 0, -1, 9, [])), (9, (70, 0, 0, 10, [])), (10, (1, 2, 0, 11, [])), (11, (0, 0, 0, 12, [])), (12, (0, 0, 1, 13, [])), (13, (80, 6, 3, 16, [])), (16, (31, 22, 0, 19, [])), (19, (0, 0, -2, 21, [])), (21, (70, 0, 0, 22, [])), (22, (3, 0, 0, 23, [])), (23, (51, 2, 2, 26, [])), (26, (82, 48, 0, 29, [])), (29, (31, 35, 0, 32, [])), (32, (0, 0, -5, 34, [])), (34, (70, 0, 0, 35, [])), (35, (3, 0, 0, 36, [])), (36, (51, 0, 2, 39, [])), (39, (82, 56, 0, 42, [])), (42, (80, 50, 1, 45, [])), (45, (0, 0, 8, 47, [])), (47, (41, 53, 0, 50, [])), (50, (0, 0, -4, 52, [])), (52, (70, 0, 0, 53, [])), (53, (3, 0, 0, 54, [])), (54, (1, 1, 0, 55, [])), (55, (82, 57, 1, 58, [])), (58, (1, 2, 0, 59, [])), (59, (80, 54, 2, 62, [])), (62, (70, 0, 0, 63, []))]
/-- B_lampBits -/
def tb56 : List (Nat × Ent) := [(0, (0, 0, 0, 1, [])), (1, (2, 1, 0, 2, [])), (2, (0, 0, 0, 3, [])), (3, (2, 2, 0, 4, [])), (4, (1, 2, 0, 5, [])), (5, (3, 0, 0, 6, [])), (6, (50, 2, 0, 9, [])), (9, (39, 31, 0, 12, [])), (12, (1, 1, 0, 13, [])), (13, (3, 0, 0, 14, [])), (14, (51, 7, 0, 17, [])), (17, (1, 2, 0, 18, [])), (18, (80, 10, 2, 21, [])), (21, (1, 2, 0, 22, [])), (22, (17, 0, 0, 23, [])), (23, (21, 0, 0, 24, [])), (24, (2, 1, 0, 25, [])), (25, (8, 2, 1, 28, [])), (28, (44, 4, 0, 31, [])), (31, (1, 1, 0, 32, [])), (32, (70, 0, 0, 33, []))]
/-- F_fewestLamps -/
def tb57 : List (Nat × Ent) := [(0, (0, 0, 0, 1, [])), (1, (2, 2, 0, 2, [])), (2, (0, 0, 0, 3, [])), (3, (2, 3, 0, 4, [])), (4, (1, 3, 0, 5, [])), (5, (3, 0, 0, 6, [])), (6, (51, 0, 2, 9, [])), (9, (50, 2, 0, 12, [])), (12, (39, 48, 0, 15, [])), (15, (3, 0, 0, 16, [])), (16, (51, 0, 2, 19, [])), (19, (51, 7, 0, 22, [])), (22, (1, 3, 0, 23, [])), (23, (80, 10, 2, 26, [])), (26, (0, 0, 1, 27, [])), (27, (37, 42, 0, 30, [])), (30, (3, 0, 0, 31, [])), (31, (51, 4, 2, 34, [])), (34, (1, 2, 0, 35, [])), (35, (1, 3, 0, 36, [])), (36, (80, 11, 3, 39, [])), (39, (8, 2, 1, 42, [])), (42, (8, 3, 1, 45, [])), (45, (44, 4, 0, 48, [])), (48, (3, 0, 0, 49, [])), (49, (51, 1, 2, 52, [])), (52, (3, 0, 0, 53, [])), (53, (51, 0, 2, 56, [])), (56, (82, 27, 1, 59, [])), (59, (0, 0, 0, 60, [])), (60, (2, 3, 0, 61, [])), (61, (1, 3, 0, 62, [])), (62, (1, 2, 0, 63, [])), (63, (40, 121, 0, 66, [])), (66, (0, 0, 0, 67, [])), (67, (2, 4, 0, 69, [])), (69, (1, 4, 0, 71, [])), (71, (0, 0, 1, 72, [])), (72, (1, 2, 0, 73, [])), (73, (17, 0, 0, 74, [])), (74, (39, 115, 0, 77, [])), (77, (1, 4, 0, 79, [])), (79, (80, 50, 1, 82, [])), (82, (1, 3, 0, 83, [])), (83, (37, 109, 0, 86, [])), (86, (3, 0, 0, 87, [])), (87, (1, 1, 0, 88, [])), (88, (3, 0, 0, 89, [])), (89, (1, 4, 0, 91, [])), (91, (1, 2, 0, 92, [])), (92, (82, 53, 2, 95, [])), (95, (82, 58, 2, 98, [])), (98, (30, 109, 0, 101, [])), (101, (3, 0, 0, 102, [])), (102, (1, 4, 0, 104, [])), (104, (1, 2, 0, 105, [])), (105, (82, 53, 2, 108, [])), (108, (70, 0, 0, 109, [])), (109, (8, 4, 1, 112, [])), (112, (44, 69, 0, 115, [])), (115, (8, 3, 1, 118, [])), (118, (44, 61, 0, 121, [])), (121, (0, 0, -6, 123, [])), (123, (70, 0, 0, 124, []))]
/-- F_standsWithout -/
def tb58 : List (Nat × Ent) := [(0, (3, 0, 0, 1, [])), (1, (51, 1, 2, 4, [])), (4, (3, 0, 0, 5, [])), (5, (51, 0, 2, 8, [])), (8, (82, 29, 1, 11, [])), (11, (3, 0, 0, 12, [])), (12, (51, 1, 2, 15, [])), (15, (1, 2, 0, 16, [])), (16, (82, 59, 1, 19, [])), (19, (3, 0, 0, 20, [])), (20, (51, 2, 2, 23, [])), (23, (3, 0, 0, 24, [])), (24, (51, 1, 2, 27, [])), (27, (82, 52, 1, 30, [])), (30, (3, 0, 0, 31, [])), (31, (51, 1, 2, 34, [])), (34, (1, 1, 0, 35, [])), (35, (82, 35, 1, 38, [])), (38, (71, 0, 0, 39, []))]
/-- B_putOut -/
def tb59 : List (Nat × Ent) := [(0, (0, 0, 0, 1, [])), (1, (2, 2, 0, 2, [])), (2, (1, 2, 0, 3, [])), (3, (3, 0, 0, 4, [])), (4, (50, 2, 0, 7, [])), (7, (39, 34, 0, 10, [])), (10, (1, 1, 0, 11, [])), (11, (1, 2, 0, 12, [])), (12, (18, 0, 0, 13, [])), (13, (0, 0, 1, 14, [])), (14, (20, 0, 0, 15, [])), (15, (0, 0, 1, 16, [])), (16, (37, 28, 0, 19, [])), (19, (3, 0, 0, 20, [])), (20, (51, 7, 0, 23, [])), (23, (1, 2, 0, 24, [])), (24, (0, 0, 0, 25, [])), (25, (80, 11, 3, 28, [])), (28, (8, 2, 1, 31, [])), (31, (44, 2, 0, 34, [])), (34, (3, 0, 0, 35, [])), (35, (82, 13, 0, 38, [])), (38, (73, 0, 0, 39, []))]
/-- F_moved -/
def tb60 : List (Nat × Ent) := [(0, (3, 0, 0, 1, [])), (1, (1, 1, 0, 2, [])), (2, (82, 43, 1, 5, [])), (5, (31, 10, 0, 8, [])), (8, (0, 0, -1, 9, [])), (9, (70, 0, 0, 10, [])), (10, (1, 2, 0, 11, [])), (11, (0, 0, 0, 12, [])), (12, (0, 0, 1, 13, [])), (13, (80, 6, 3, 16, [])), (16, (31, 22, 0, 19, [])), (19, (0, 0, -2, 21, [])), (21, (70, 0, 0, 22, [])), (22, (0, 0, 1000000, 24, [])), (24, (2, 3, 0, 25, [])), (25, (0, 0, -6, 27, [])), (27, (2, 4, 0, 29, [])), (29, (0, 0, -3, 31, [])), (31, (2, 5, 0, 33, [])), (33, (1, 5, 0, 35, [])), (35, (0, 0, 4, 36, [])), (36, (39, 99, 0, 39, [])), (39, (0, 0, -5, 41, [])), (41, (2, 6, 0, 43, [])), (43, (1, 6, 0, 45, [])), (45, (0, 0, 6, 47, [])), (47, (39, 93, 0, 50, [])), (50, (3, 0, 0, 51, [])), (51, (51, 0, 2, 54, [])), (54, (1, 1, 0, 55, [])), (55, (1, 5, 0, 57, [])), (57, (1, 6, 0, 59, [])), (59, (82, 36, 3, 62, [])), (62, (2, 7, 0, 64, [])), (64, (1, 7, 0, 66, [])), (66, (1, 3, 0, 67, [])), (67, (39, 87, 0, 70, [])), (70, (1, 7, 0, 72, [])), (72, (2, 3, 0, 73, [])), (73, (0, 0, 100, 75, [])), (75, (1, 5, 0, 77, [])), (77, (0, 0, 3, 78, [])), (78, (11, 0, 0, 79, [])), (79, (13, 0, 0, 80, [])), (80, (1, 6, 0, 82, [])), (82, (11, 0, 0, 83, [])), (83, (0, 0, 5, 84, [])), (84, (11, 0, 0, 85, [])), (85, (2, 4, 0, 87, [])), (87, (8, 6, 1, 90, [])), (90, (44, 43, 0, 93, [])), (93, (8, 5, 1, 96, [])), (96, (44, 33, 0, 99, [])), (99, (1, 2, 0, 100, [])), (100, (31, 107, 0, 103, [])), (103, (1, 3, 0, 104, [])), (104, (44, 109, 0, 107, [])), (107, (1, 4, 0, 109, [])), (109, (70, 0, 0, 110, []))]
/-- F_apart -/
def tb61 : List (Nat × Ent) := [(0, (0, 0, 0, 1, [])), (1, (2, 2, 0, 2, [])), (2, (0, 0, 0, 3, [])), (3, (2, 3, 0, 4, [])), (4, (1, 3, 0, 5, [])), (5, (0, 0, 4, 6, [])), (6, (39, 61, 0, 9, [])), (9, (1, 3, 0, 10, [])), (10, (0, 0, 1, 11, [])), (11, (11, 0, 0, 12, [])), (12, (2, 4, 0, 14, [])), (14, (1, 4, 0, 16, [])), (16, (0, 0, 4, 17, [])), (17, (39, 55, 0, 20, [])), (20, (3, 0, 0, 21, [])), (21, (51, 0, 2, 24, [])), (24, (1, 3, 0, 25, [])), (25, (1, 4, 0, 27, [])), (27, (82, 62, 2, 30, [])), (30, (30, 49, 0, 33, [])), (33, (1, 2, 0, 34, [])), (34, (1, 1, 0, 35, [])), (35, (37, 46, 0, 38, [])), (38, (0, 0, 10, 40, [])), (40, (1, 3, 0, 41, [])), (41, (13, 0, 0, 42, [])), (42, (1, 4, 0, 44, [])), (44, (11, 0, 0, 45, [])), (45, (70, 0, 0, 46, [])), (46, (8, 2, 1, 49, [])), (49, (8, 4, 1, 52, [])), (52, (44, 14, 0, 55, [])), (55, (8, 3, 1, 58, [])), (58, (44, 4, 0, 61, [])), (61, (1, 1, 0, 62, [])), (62, (0, 0, -1, 63, [])), (63, (37, 70, 0, 66, [])), (66, (1, 2, 0, 67, [])), (67, (44, 72, 0, 70, [])), (70, (0, 0, -6, 72, [])), (72, (70, 0, 0, 73, []))]
/-- B_neverTogether -/
def tb62 : List (Nat × Ent) := [(0, (0, 0, 0, 1, [])), (1, (2, 3, 0, 2, [])), (2, (0, 0, 0, 3, [])), (3, (2, 4, 0, 5, [])), (5, (1, 4, 0, 7, [])), (7, (3, 0, 0, 8, [])), (8, (50, 2, 0, 11, [])), (11, (39, 89, 0, 14, [])), (14, (3, 0, 0, 15, [])), (15, (1, 1, 0, 16, [])), (16, (1, 4, 0, 18, [])), (18, (82, 18, 2, 21, [])), (21, (2, 5, 0, 23, [])), (23, (3, 0, 0, 24, [])), (24, (1, 2, 0, 25, [])), (25, (1, 4, 0, 27, [])), (27, (82, 18, 2, 30, [])), (30, (2, 6, 0, 32, [])), (32, (1, 5, 0, 34, [])), (34, (0, 0, -1, 35, [])), (35, (36, 48, 0, 38, [])), (38, (1, 6, 0, 40, [])), (40, (0, 0, -1, 41, [])), (41, (36, 48, 0, 44, [])), (44, (0, 0, 1, 45, [])), (45, (44, 49, 0, 48, [])), (48, (0, 0, 0, 49, [])), (49, (2, 7, 0, 51, [])), (51, (1, 3, 0, 52, [])), (52, (31, 77, 0, 55, [])), (55, (1, 7, 0, 57, [])), (57, (30, 81, 0, 60, [])), (60, (1, 5, 0, 62, [])), (62, (1, 6, 0, 64, [])), (64, (12, 0, 0, 65, [])), (65, (88, 0, 0, 68, [])), (68, (0, 0, 2, 69, [])), (69, (3, 0, 0, 70, [])), (70, (50, 4, 0, 73, [])), (73, (13, 0, 0, 74, [])), (74, (41, 81, 0, 77, [])), (77, (0, 0, 1, 78, [])), (78, (44, 82, 0, 81, [])), (81, (0, 0, 0, 82, [])), (82, (2, 3, 0, 83, [])), (83, (8, 4, 1, 86, [])), (86, (44, 5, 0, 89, [])), (89, (1, 3, 0, 90, [])), (90, (71, 0, 0, 91, []))]
/-- F_walk -/
def tb63 : List (Nat × Ent) := [(0, (3, 0, 0, 1, [])), (1, (51, 0, 2, 4, [])), (4, (1, 1, 0, 5, [])), (5, (82, 8, 1, 8, [])), (8, (30, 22, 0, 11, [])), (11, (3, 0, 0, 12, [])), (12, (51, 0, 2, 15, [])), (15, (1, 2, 0, 16, [])), (16, (82, 8, 1, 19, [])), (19, (31, 24, 0, 22, [])), (22, (0, 0, -1, 23, [])), (23, (70, 0, 0, 24, [])), (24, (1, 3, 0, 25, [])), (25, (0, 0, 0, 26, [])), (26, (0, 0, 2, 27, [])), (27, (80, 6, 3, 30, [])), (30, (31, 36, 0, 33, [])), (33, (0, 0, -2, 35, [])), (35, (70, 0, 0, 36, [])), (36, (3, 0, 0, 37, [])), (37, (1, 2, 0, 38, [])), (38, (82, 64, 1, 41, [])), (41, (3, 0, 0, 42, [])), (42, (51, 6, 2, 45, [])), (45, (1, 1, 0, 46, [])), (46, (80, 10, 2, 49, [])), (49, (2, 4, 0, 51, [])), (51, (1, 3, 0, 52, [])), (52, (31, 61, 0, 55, [])), (55, (1, 4, 0, 57, [])), (57, (0, 0, 100, 59, [])), (59, (14, 0, 0, 60, [])), (60, (70, 0, 0, 61, [])), (61, (1, 3, 0, 62, [])), (62, (0, 0, 1, 63, [])), (63, (37, 74, 0, 66, [])), (66, (1, 4, 0, 68, [])), (68, (0, 0, 100, 70, [])), (70, (15, 0, 0, 71, [])), (71, (44, 80, 0, 74, [])), (74, (3, 0, 0, 75, [])), (75, (1, 1, 0, 76, [])), (76, (1, 2, 0, 77, [])), (77, (82, 68, 2, 80, [])), (80, (70, 0, 0, 81, []))]
/-- F_weighWays -/
def tb64 : List (Nat × Ent) := [(0, (0, 0, 0, 1, [])), (1, (2, 2, 0, 2, [])), (2, (1, 2, 0, 3, [])), (3, (3, 0, 0, 4, [])), (4, (51, 0, 2, 7, [])), (7, (50, 2, 0, 10, [])), (10, (39, 42, 0, 13, [])), (13, (3, 0, 0, 14, [])), (14, (51, 6, 2, 17, [])), (17, (1, 2, 0, 18, [])), (18, (1, 2, 0, 19, [])), (19, (1, 1, 0, 20, [])), (20, (37, 31, 0, 23, [])), (23, (3, 0, 0, 24, [])), (24, (1, 2, 0, 25, [])), (25, (82, 65, 1, 28, [])), (28, (44, 33, 0, 31, [])), (31, (0, 0, 1000000, 33, [])), (33, (80, 11, 3, 36, [])), (36, (8, 2, 1, 39, [])), (39, (44, 2, 0, 42, [])), (42, (0, 0, 0, 43, [])), (43, (2, 2, 0, 44, [])), (44, (1, 2, 0, 45, [])), (45, (3, 0, 0, 46, [])), (46, (51, 0, 2, 49, [])), (49, (50, 2, 0, 52, [])), (52, (39, 153, 0, 55, [])), (55, (0, 0, 0, 56, [])), (56, (2, 3, 0, 57, [])), (57, (1, 3, 0, 58, [])), (58, (3, 0, 0, 59, [])), (59, (51, 0, 2, 62, [])), (62, (50, 2, 0, 65, [])), (65, (39, 147, 0, 68, [])), (68, (0, 0, 0, 69, [])), (69, (2, 4, 0, 71, [])), (71, (1, 4, 0, 73, [])), (73, (0, 0, 4, 74, [])), (74, (39, 141, 0, 77, [])), (77, (3, 0, 0, 78, [])), (78, (51, 0, 2, 81, [])), (81, (1, 3, 0, 82, [])), (82, (1, 4, 0, 84, [])), (84, (82, 67, 2, 87, [])), (87, (2, 5, 0, 89, [])), (89, (1, 5, 0, 91, [])), (91, (0, 0, -1, 92, [])), (92, (36, 135, 0, 95, [])), (95, (3, 0, 0, 96, [])), (96, (51, 6, 2, 99, [])), (99, (1, 5, 0, 101, [])), (101, (80, 10, 2, 104, [])), (104, (0, 0, 1, 105, [])), (105, (11, 0, 0, 106, [])), (106, (3, 0, 0, 107, [])), (107, (1, 3, 0, 108, [])), (108, (82, 65, 1, 111, [])), (111, (11, 0, 0, 112, [])), (112, (2, 6, 0, 114, [])), (114, (3, 0, 0, 115, [])), (115, (51, 6, 2, 118, [])), (118, (1, 3, 0, 119, [])), (119, (3, 0, 0, 120, [])), (120, (51, 6, 2, 123, [])), (123, (1, 3, 0, 124, [])), (124, (80, 10, 2, 127, [])), (127, (1, 6, 0, 129, [])), (129, (87, 0, 0, 132, [])), (132, (80, 11, 3, 135, [])), (135, (8, 4, 1, 138, [])), (138, (44, 71, 0, 141, [])), (141, (8, 3, 1, 144, [])), (144, (44, 57, 0, 147, [])), (147, (8, 2, 1, 150, [])), (150, (44, 44, 0, 153, [])), (153, (73, 0, 0, 154, []))]
/-- F_spoiltIn -/
def tb65 : List (Nat × Ent) := [(0, (3, 0, 0, 1, [])), (1, (51, 0, 2, 4, [])), (4, (1, 1, 0, 5, [])), (5, (82, 66, 1, 8, [])), (8, (30, 16, 0, 11, [])), (11, (0, 0, 100, 13, [])), (13, (44, 17, 0, 16, [])), (16, (0, 0, 0, 17, [])), (17, (70, 0, 0, 18, []))]
/-- B_isWanted -/
def tb66 : List (Nat × Ent) := [(0, (0, 0, 0, 1, [])), (1, (2, 2, 0, 2, [])), (2, (0, 0, 0, 3, [])), (3, (2, 3, 0, 4, [])), (4, (1, 3, 0, 5, [])), (5, (0, 0, 4, 6, [])), (6, (39, 35, 0, 9, [])), (9, (1, 2, 0, 10, [])), (10, (31, 23, 0, 13, [])), (13, (3, 0, 0, 14, [])), (14, (1, 3, 0, 15, [])), (15, (1, 1, 0, 16, [])), (16, (82, 18, 2, 19, [])), (19, (0, 0, -1, 20, [])), (20, (36, 27, 0, 23, [])), (23, (0, 0, 1, 24, [])), (24, (44, 28, 0, 27, [])), (27, (0, 0, 0, 28, [])), (28, (2, 2, 0, 29, [])), (29, (8, 3, 1, 32, [])), (32, (44, 4, 0, 35, [])), (35, (1, 2, 0, 36, [])), (36, (71, 0, 0, 37, []))]
/-- B_beside -/
def tb67 : List (Nat × Ent) := [(0, (3, 0, 0, 1, [])), (1, (50, 1, 0, 4, [])), (4, (0, 0, 1, 5, [])), (5, (39, 10, 0, 8, [])), (8, (0, 0, -1, 9, [])), (9, (70, 0, 0, 10, [])), (10, (3, 0, 0, 11, [])), (11, (1, 1, 0, 12, [])), (12, (3, 0, 0, 13, [])), (13, (50, 1, 0, 16, [])), (16, (14, 0, 0, 17, [])), (17, (1, 2, 0, 18, [])), (18, (80, 31, 1, 21, [])), (21, (11, 0, 0, 22, [])), (22, (1, 1, 0, 23, [])), (23, (3, 0, 0, 24, [])), (24, (50, 1, 0, 27, [])), (27, (15, 0, 0, 28, [])), (28, (1, 2, 0, 29, [])), (29, (80, 32, 1, 32, [])), (32, (11, 0, 0, 33, [])), (33, (82, 14, 2, 36, [])), (36, (70, 0, 0, 37, []))]
/-- F_firstStep -/
def tb68 : List (Nat × Ent) := [(0, (0, 0, -6, 2, [])), (2, (2, 3, 0, 3, [])), (3, (0, 0, 0, 4, [])), (4, (2, 4, 0, 6, [])), (6, (1, 4, 0, 8, [])), (8, (0, 0, 4, 9, [])), (9, (39, 96, 0, 12, [])), (12, (1, 1, 0, 13, [])), (13, (1, 2, 0, 14, [])), (14, (36, 96, 0, 17, [])), (17, (3, 0, 0, 18, [])), (18, (51, 0, 2, 21, [])), (21, (1, 1, 0, 22, [])), (22, (1, 4, 0, 24, [])), (24, (82, 67, 2, 27, [])), (27, (2, 5, 0, 29, [])), (29, (1, 5, 0, 31, [])), (31, (0, 0, -1, 32, [])), (32, (36, 67, 0, 35, [])), (35, (3, 0, 0, 36, [])), (36, (51, 6, 2, 39, [])), (39, (1, 5, 0, 41, [])), (41, (80, 10, 2, 44, [])), (44, (0, 0, 1, 45, [])), (45, (11, 0, 0, 46, [])), (46, (3, 0, 0, 47, [])), (47, (1, 1, 0, 48, [])), (48, (82, 65, 1, 51, [])), (51, (11, 0, 0, 52, [])), (52, (3, 0, 0, 53, [])), (53, (51, 6, 2, 56, [])), (56, (1, 1, 0, 57, [])), (57, (80, 10, 2, 60, [])), (60, (37, 67, 0, 63, [])), (63, (0, 0, 1, 64, [])), (64, (44, 68, 0, 67, [])), (67, (0, 0, 0, 68, [])), (68, (2, 6, 0, 70, [])), (70, (1, 6, 0, 72, [])), (72, (30, 90, 0, 75, [])), (75, (1, 3, 0, 76, [])), (76, (0, 0, -6, 78, [])), (78, (36, 87, 0, 81, [])), (81, (1, 5, 0, 83, [])), (83, (1, 3, 0, 84, [])), (84, (39, 90, 0, 87, [])), (87, (1, 5, 0, 89, [])), (89, (2, 3, 0, 90, [])), (90, (8, 4, 1, 93, [])), (93, (44, 6, 0, 96, [])), (96, (1, 3, 0, 97, [])), (97, (70, 0, 0, 98, []))]
/-- F_wins -/
def tb69 : List (Nat × Ent) := [(0, (3, 0, 0, 1, [])), (1, (1, 1, 0, 2, [])), (2, (82, 70, 1, 5, [])), (5, (31, 11, 0, 8, [])), (8, (0, 0, -2, 10, [])), (10, (70, 0, 0, 11, [])), (11, (3, 0, 0, 12, [])), (12, (1, 1, 0, 13, [])), (13, (82, 71, 1, 16, [])), (16, (30, 23, 0, 19, [])), (19, (0, 0, 0, 20, [])), (20, (44, 24, 0, 23, [])), (23, (0, 0, 1, 24, [])), (24, (70, 0, 0, 25, []))]
/-- F_isSet -/
def tb70 : List (Nat × Ent) := [(0, (1, 1, 0, 1, [])), (1, (0, 0, 0, 2, [])), (2, (0, 0, 1, 3, [])), (3, (3, 0, 0, 4, [])), (4, (51, 0, 2, 7, [])), (7, (50, 2, 0, 10, [])), (10, (17, 0, 0, 11, [])), (11, (0, 0, 1, 12, [])), (12, (12, 0, 0, 13, [])), (13, (80, 6, 3, 16, [])), (16, (71, 0, 0, 17, []))]
/-- F_nimSum -/
def tb71 : List (Nat × Ent) := [(0, (0, 0, 0, 1, [])), (1, (2, 2, 0, 2, [])), (2, (0, 0, 0, 3, [])), (3, (2, 3, 0, 4, [])), (4, (1, 3, 0, 5, [])), (5, (3, 0, 0, 6, [])), (6, (51, 0, 2, 9, [])), (9, (50, 2, 0, 12, [])), (12, (39, 48, 0, 15, [])), (15, (1, 2, 0, 16, [])), (16, (1, 1, 0, 17, [])), (17, (1, 3, 0, 18, [])), (18, (18, 0, 0, 19, [])), (19, (0, 0, 1, 20, [])), (20, (20, 0, 0, 21, [])), (21, (0, 0, 1, 22, [])), (22, (37, 39, 0, 25, [])), (25, (3, 0, 0, 26, [])), (26, (51, 0, 2, 29, [])), (29, (51, 6, 0, 32, [])), (32, (1, 3, 0, 33, [])), (33, (80, 10, 2, 36, [])), (36, (44, 40, 0, 39, [])), (39, (0, 0, 0, 40, [])), (40, (22, 0, 0, 41, [])), (41, (2, 2, 0, 42, [])), (42, (8, 3, 1, 45, [])), (45, (44, 4, 0, 48, [])), (48, (1, 2, 0, 49, [])), (49, (70, 0, 0, 50, []))]
/-- F_cut -/
def tb72 : List (Nat × Ent) := [(0, (3, 0, 0, 1, [])), (1, (1, 1, 0, 2, [])), (2, (82, 70, 1, 5, [])), (5, (31, 11, 0, 8, [])), (8, (0, 0, -2, 10, [])), (10, (70, 0, 0, 11, [])), (11, (3, 0, 0, 12, [])), (12, (1, 1, 0, 13, [])), (13, (82, 71, 1, 16, [])), (16, (2, 2, 0, 17, [])), (17, (0, 0, 0, 18, [])), (18, (2, 3, 0, 19, [])), (19, (1, 3, 0, 20, [])), (20, (3, 0, 0, 21, [])), (21, (51, 0, 2, 24, [])), (24, (50, 2, 0, 27, [])), (27, (39, 79, 0, 30, [])), (30, (3, 0, 0, 31, [])), (31, (51, 0, 2, 34, [])), (34, (51, 6, 0, 37, [])), (37, (1, 3, 0, 38, [])), (38, (80, 10, 2, 41, [])), (41, (2, 4, 0, 43, [])), (43, (1, 4, 0, 45, [])), (45, (1, 2, 0, 46, [])), (46, (22, 0, 0, 47, [])), (47, (2, 5, 0, 49, [])), (49, (1, 1, 0, 50, [])), (50, (1, 3, 0, 51, [])), (51, (18, 0, 0, 52, [])), (52, (0, 0, 1, 53, [])), (53, (20, 0, 0, 54, [])), (54, (0, 0, 1, 55, [])), (55, (37, 73, 0, 58, [])), (58, (1, 5, 0, 60, [])), (60, (1, 4, 0, 62, [])), (62, (39, 73, 0, 65, [])), (65, (0, 0, 10, 67, [])), (67, (1, 3, 0, 68, [])), (68, (13, 0, 0, 69, [])), (69, (1, 5, 0, 71, [])), (71, (11, 0, 0, 72, [])), (72, (70, 0, 0, 73, [])), (73, (8, 3, 1, 76, [])), (76, (44, 19, 0, 79, [])), (79, (0, 0, -6, 81, [])), (81, (70, 0, 0, 82, []))]
/-- F_seen -/
def tb73 : List (Nat × Ent) := [(0, (3, 0, 0, 1, [])), (1, (51, 0, 2, 4, [])), (4, (1, 1, 0, 5, [])), (5, (82, 8, 1, 8, [])), (8, (31, 13, 0, 11, [])), (11, (0, 0, -1, 12, [])), (12, (70, 0, 0, 13, [])), (13, (1, 2, 0, 14, [])), (14, (0, 0, 0, 15, [])), (15, (0, 0, 9, 17, [])), (17, (80, 6, 3, 20, [])), (20, (31, 26, 0, 23, [])), (23, (0, 0, -2, 25, [])), (25, (70, 0, 0, 26, [])), (26, (3, 0, 0, 27, [])), (27, (51, 0, 2, 30, [])), (30, (50, 5, 0, 33, [])), (33, (0, 0, 8, 35, [])), (35, (38, 41, 0, 38, [])), (38, (0, 0, -4, 40, [])), (40, (70, 0, 0, 41, [])), (41, (3, 0, 0, 42, [])), (42, (51, 0, 2, 45, [])), (45, (51, 11, 0, 48, [])), (48, (3, 0, 0, 49, [])), (49, (51, 0, 2, 52, [])), (52, (50, 5, 0, 55, [])), (55, (1, 1, 0, 56, [])), (56, (80, 11, 3, 59, [])), (59, (3, 0, 0, 60, [])), (60, (51, 0, 2, 63, [])), (63, (51, 12, 0, 66, [])), (66, (3, 0, 0, 67, [])), (67, (51, 0, 2, 70, [])), (70, (50, 5, 0, 73, [])), (73, (1, 2, 0, 74, [])), (74, (80, 11, 3, 77, [])), (77, (3, 0, 0, 78, [])), (78, (51, 0, 2, 81, [])), (81, (9, 0, 0, 82, [])), (82, (50, 5, 0, 85, [])), (85, (0, 0, 1, 86, [])), (86, (11, 0, 0, 87, [])), (87, (52, 5, 0, 90, [])), (90, (3, 0, 0, 91, [])), (91, (51, 0, 2, 94, [])), (94, (50, 5, 0, 97, [])), (97, (70, 0, 0, 98, []))]
/-- F_forget -/
def tb74 : List (Nat × Ent) := [(0, (3, 0, 0, 1, [])), (1, (51, 0, 2, 4, [])), (4, (50, 5, 0, 7, [])), (7, (2, 1, 0, 8, [])), (8, (3, 0, 0, 9, [])), (9, (51, 0, 2, 12, [])), (12, (0, 0, 0, 13, [])), (13, (52, 5, 0, 16, [])), (16, (1, 1, 0, 17, [])), (17, (70, 0, 0, 18, []))]
/-- F_what -/
def tb75 : List (Nat × Ent) := [(0, (3, 0, 0, 1, [])), (1, (51, 2, 2, 4, [])), (4, (82, 48, 0, 7, [])), (7, (31, 13, 0, 10, [])), (10, (0, 0, -5, 12, [])), (12, (70, 0, 0, 13, [])), (13, (3, 0, 0, 14, [])), (14, (82, 76, 0, 17, [])), (17, (2, 2, 0, 18, [])), (18, (1, 1, 0, 19, [])), (19, (0, 0, -1, 20, [])), (20, (37, 25, 0, 23, [])), (23, (1, 2, 0, 24, [])), (24, (70, 0, 0, 25, [])), (25, (1, 1, 0, 26, [])), (26, (0, 0, 0, 27, [])), (27, (1, 2, 0, 28, [])), (28, (0, 0, 1, 29, [])), (29, (12, 0, 0, 30, [])), (30, (80, 6, 3, 33, [])), (33, (30, 47, 0, 36, [])), (36, (3, 0, 0, 37, [])), (37, (51, 5, 2, 40, [])), (40, (1, 1, 0, 41, [])), (41, (80, 10, 2, 44, [])), (44, (44, 49, 0, 47, [])), (47, (0, 0, -6, 49, [])), (49, (70, 0, 0, 50, []))]
/-- F_findFitting -/
def tb76 : List (Nat × Ent) := [(0, (0, 0, 0, 1, [])), (1, (2, 1, 0, 2, [])), (2, (3, 0, 0, 3, [])), (3, (51, 1, 2, 6, [])), (6, (3, 0, 0, 7, [])), (7, (51, 0, 2, 10, [])), (10, (82, 27, 1, 13, [])), (13, (0, 0, 0, 14, [])), (14, (2, 2, 0, 15, [])), (15, (1, 2, 0, 16, [])), (16, (3, 0, 0, 17, [])), (17, (51, 0, 2, 20, [])), (20, (50, 2, 0, 23, [])), (23, (39, 122, 0, 26, [])), (26, (3, 0, 0, 27, [])), (27, (51, 0, 2, 30, [])), (30, (51, 6, 0, 33, [])), (33, (1, 2, 0, 34, [])), (34, (80, 10, 2, 37, [])), (37, (2, 3, 0, 38, [])), (38, (0, 0, 0, 39, [])), (39, (2, 4, 0, 41, [])), (41, (1, 4, 0, 43, [])), (43, (1, 3, 0, 44, [])), (44, (39, 116, 0, 47, [])), (47, (3, 0, 0, 48, [])), (48, (51, 1, 2, 51, [])), (51, (3, 0, 0, 52, [])), (52, (51, 0, 2, 55, [])), (55, (82, 29, 1, 58, [])), (58, (3, 0, 0, 59, [])), (59, (51, 1, 2, 62, [])), (62, (51, 6, 0, 65, [])), (65, (1, 2, 0, 66, [])), (66, (1, 4, 0, 68, [])), (68, (80, 11, 3, 71, [])), (71, (3, 0, 0, 72, [])), (72, (51, 2, 2, 75, [])), (75, (3, 0, 0, 76, [])), (76, (51, 1, 2, 79, [])), (79, (82, 52, 1, 82, [])), (82, (3, 0, 0, 83, [])), (83, (51, 1, 2, 86, [])), (86, (82, 77, 0, 89, [])), (89, (30, 110, 0, 92, [])), (92, (3, 0, 0, 93, [])), (93, (51, 5, 2, 96, [])), (96, (1, 1, 0, 97, [])), (97, (0, 0, 10, 99, [])), (99, (1, 2, 0, 100, [])), (100, (13, 0, 0, 101, [])), (101, (1, 4, 0, 103, [])), (103, (11, 0, 0, 104, [])), (104, (80, 11, 3, 107, [])), (107, (8, 1, 1, 110, [])), (110, (8, 4, 1, 113, [])), (113, (44, 41, 0, 116, [])), (116, (8, 2, 1, 119, [])), (119, (44, 15, 0, 122, [])), (122, (1, 1, 0, 123, [])), (123, (70, 0, 0, 124, []))]
/-- B_sightsHold -/
def tb77 : List (Nat × Ent) := [(0, (0, 0, 1, 1, [])), (1, (2, 1, 0, 2, [])), (2, (0, 0, 0, 3, [])), (3, (2, 2, 0, 4, [])), (4, (1, 2, 0, 5, [])), (5, (3, 0, 0, 6, [])), (6, (50, 5, 0, 9, [])), (9, (39, 54, 0, 12, [])), (12, (1, 1, 0, 13, [])), (13, (30, 46, 0, 16, [])), (16, (3, 0, 0, 17, [])), (17, (51, 6, 0, 20, [])), (20, (3, 0, 0, 21, [])), (21, (51, 11, 0, 24, [])), (24, (1, 2, 0, 25, [])), (25, (80, 10, 2, 28, [])), (28, (80, 10, 2, 31, [])), (31, (3, 0, 0, 32, [])), (32, (51, 12, 0, 35, [])), (35, (1, 2, 0, 36, [])), (36, (80, 10, 2, 39, [])), (39, (37, 46, 0, 42, [])), (42, (0, 0, 1, 43, [])), (43, (44, 47, 0, 46, [])), (46, (0, 0, 0, 47, [])), (47, (2, 1, 0, 48, [])), (48, (8, 2, 1, 51, [])), (51, (44, 4, 0, 54, [])), (54, (1, 1, 0, 55, [])), (55, (71, 0, 0, 56, []))]
/-- F_where -/
def tb78 : List (Nat × Ent) := [(0, (3, 0, 0, 1, [])), (1, (51, 2, 2, 4, [])), (4, (82, 48, 0, 7, [])), (7, (31, 13, 0, 10, [])), (10, (0, 0, -5, 12, [])), (12, (70, 0, 0, 13, [])), (13, (3, 0, 0, 14, [])), (14, (82, 76, 0, 17, [])), (17, (2, 1, 0, 18, [])), (18, (0, 0, 0, 19, [])), (19, (2, 2, 0, 20, [])), (20, (0, 0, 0, 21, [])), (21, (2, 3, 0, 22, [])), (22, (1, 3, 0, 23, [])), (23, (1, 1, 0, 24, [])), (24, (39, 49, 0, 27, [])), (27, (1, 2, 0, 28, [])), (28, (0, 0, 1, 29, [])), (29, (3, 0, 0, 30, [])), (30, (51, 5, 2, 33, [])), (33, (1, 3, 0, 34, [])), (34, (80, 10, 2, 37, [])), (37, (0, 0, 10, 39, [])), (39, (14, 0, 0, 40, [])), (40, (17, 0, 0, 41, [])), (41, (21, 0, 0, 42, [])), (42, (2, 2, 0, 43, [])), (43, (8, 3, 1, 46, [])), (46, (44, 22, 0, 49, [])), (49, (1, 2, 0, 50, [])), (50, (70, 0, 0, 51, []))]
/-- F_chance -/
def tb79 : List (Nat × Ent) := [(0, (3, 0, 0, 1, [])), (1, (1, 1, 0, 2, [])), (2, (82, 43, 1, 5, [])), (5, (31, 12, 0, 8, [])), (8, (7, 0, -1000000000000000001, 11, [])), (11, (72, 0, 0, 12, [])), (12, (1, 2, 0, 13, [])), (13, (0, 0, 0, 14, [])), (14, (0, 0, 10, 16, [])), (16, (80, 6, 3, 19, [])), (19, (30, 42, 0, 22, [])), (22, (1, 3, 0, 23, [])), (23, (0, 0, 0, 24, [])), (24, (0, 0, 8, 26, [])), (26, (80, 6, 3, 29, [])), (29, (30, 42, 0, 32, [])), (32, (1, 4, 0, 34, [])), (34, (0, 0, 0, 35, [])), (35, (0, 0, 1, 36, [])), (36, (80, 6, 3, 39, [])), (39, (31, 46, 0, 42, [])), (42, (7, 0, -1000000000000000002, 45, [])), (45, (72, 0, 0, 46, [])), (46, (3, 0, 0, 47, [])), (47, (1, 1, 0, 48, [])), (48, (1, 2, 0, 49, [])), (49, (1, 3, 0, 50, [])), (50, (82, 80, 3, 53, [])), (53, (6, 5, 0, 55, [])), (55, (0, 0, 10, 57, [])), (57, (1, 3, 0, 58, [])), (58, (80, 81, 2, 61, [])), (61, (6, 7, 0, 63, [])), (63, (0, 0, 0, 64, [])), (64, (2, 9, 0, 66, [])), (66, (1, 9, 0, 68, [])), (68, (1, 3, 0, 69, [])), (69, (39, 154, 0, 72, [])), (72, (5, 5, 0, 74, [])), (74, (7, 0, 2, 77, [])), (77, (26, 0, 0, 78, [])), (78, (7, 0, 0, 79, [])), (79, (27, 0, 0, 80, [])), (80, (31, 110, 0, 83, [])), (83, (5, 7, 0, 85, [])), (85, (7, 0, 2, 88, [])), (88, (26, 0, 0, 89, [])), (89, (7, 0, 0, 90, [])), (90, (27, 0, 0, 91, [])), (91, (31, 110, 0, 94, [])), (94, (5, 5, 0, 96, [])), (96, (7, 0, 2, 99, [])), (99, (25, 0, 0, 100, [])), (100, (6, 5, 0, 102, [])), (102, (5, 7, 0, 104, [])), (104, (7, 0, 2, 107, [])), (107, (25, 0, 0, 108, [])), (108, (6, 7, 0, 110, [])), (110, (5, 5, 0, 112, [])), (112, (7, 0, 5, 115, [])), (115, (26, 0, 0, 116, [])), (116, (7, 0, 0, 117, [])), (117, (27, 0, 0, 118, [])), (118, (31, 148, 0, 121, [])), (121, (5, 7, 0, 123, [])), (123, (7, 0, 5, 126, [])), (126, (26, 0, 0, 127, [])), (127, (7, 0, 0, 128, [])), (128, (27, 0, 0, 129, [])), (129, (31, 148, 0, 132, [])), (132, (5, 5, 0, 134, [])), (134, (7, 0, 5, 137, [])), (137, (25, 0, 0, 138, [])), (138, (6, 5, 0, 140, [])), (140, (5, 7, 0, 142, [])), (142, (7, 0, 5, 145, [])), (145, (25, 0, 0, 146, [])), (146, (6, 7, 0, 148, [])), (148, (8, 9, 1, 151, [])), (151, (44, 66, 0, 154, [])), (154, (1, 4, 0, 156, [])), (156, (31, 164, 0, 159, [])), (159, (5, 5, 0, 161, [])), (161, (44, 166, 0, 164, [])), (164, (5, 7, 0, 166, [])), (166, (72, 0, 0, 167, []))]
/-- F_tenthsThatStand -/
def tb80 : List (Nat × Ent) := [(0, (7, 0, 0, 1, [])), (1, (6, 4, 0, 3, [])), (3, (3, 0, 0, 4, [])), (4, (51, 1, 2, 7, [])), (7, (3, 0, 0, 8, [])), (8, (51, 0, 2, 11, [])), (11, (82, 27, 1, 14, [])), (14, (0, 0, 0, 15, [])), (15, (2, 6, 0, 17, [])), (17, (1, 6, 0, 19, [])), (19, (0, 0, 1, 20, [])), (20, (1, 3, 0, 21, [])), (21, (17, 0, 0, 22, [])), (22, (39, 136, 0, 25, [])), (25, (1, 6, 0, 27, [])), (27, (80, 50, 1, 30, [])), (30, (2, 7, 0, 32, [])), (32, (1, 2, 0, 33, [])), (33, (1, 7, 0, 35, [])), (35, (80, 81, 2, 38, [])), (38, (0, 0, 10, 40, [])), (40, (1, 2, 0, 41, [])), (41, (12, 0, 0, 42, [])), (42, (1, 3, 0, 43, [])), (43, (1, 7, 0, 45, [])), (45, (12, 0, 0, 46, [])), (46, (80, 81, 2, 49, [])), (49, (24, 0, 0, 50, [])), (50, (6, 8, 0, 52, [])), (52, (5, 8, 0, 54, [])), (54, (7, 0, 0, 55, [])), (55, (27, 0, 0, 56, [])), (56, (35, 130, 0, 59, [])), (59, (3, 0, 0, 60, [])), (60, (51, 1, 2, 63, [])), (63, (3, 0, 0, 64, [])), (64, (51, 0, 2, 67, [])), (67, (82, 29, 1, 70, [])), (70, (0, 0, 0, 71, [])), (71, (2, 10, 0, 73, [])), (73, (1, 10, 0, 75, [])), (75, (1, 3, 0, 76, [])), (76, (39, 108, 0, 79, [])), (79, (3, 0, 0, 80, [])), (80, (51, 1, 2, 83, [])), (83, (1, 6, 0, 85, [])), (85, (1, 10, 0, 87, [])), (87, (18, 0, 0, 88, [])), (88, (0, 0, 1, 89, [])), (89, (20, 0, 0, 90, [])), (90, (0, 0, 1, 91, [])), (91, (37, 98, 0, 94, [])), (94, (0, 0, 1, 95, [])), (95, (44, 99, 0, 98, [])), (98, (0, 0, 5, 99, [])), (99, (82, 30, 1, 102, [])), (102, (8, 10, 1, 105, [])), (105, (44, 73, 0, 108, [])), (108, (5, 4, 0, 110, [])), (110, (3, 0, 0, 111, [])), (111, (51, 1, 2, 114, [])), (114, (1, 1, 0, 115, [])), (115, (82, 35, 1, 118, [])), (118, (30, 126, 0, 121, [])), (121, (5, 8, 0, 123, [])), (123, (44, 127, 0, 126, [])), (126, (7, 0, 0, 127, [])), (127, (23, 0, 0, 128, [])), (128, (6, 4, 0, 130, [])), (130, (8, 6, 1, 133, [])), (133, (44, 17, 0, 136, [])), (136, (5, 4, 0, 138, [])), (138, (72, 0, 0, 139, []))]
/-- F_power -/
def tb81 : List (Nat × Ent) := [(0, (7, 0, 1, 1, [])), (1, (6, 2, 0, 2, [])), (2, (0, 0, 0, 3, [])), (3, (2, 4, 0, 5, [])), (5, (1, 4, 0, 7, [])), (7, (1, 1, 0, 8, [])), (8, (39, 22, 0, 11, [])), (11, (5, 2, 0, 12, [])), (12, (1, 0, 0, 13, [])), (13, (28, 0, 0, 14, [])), (14, (24, 0, 0, 15, [])), (15, (6, 2, 0, 16, [])), (16, (8, 4, 1, 19, [])), (19, (44, 5, 0, 22, [])), (22, (5, 2, 0, 23, [])), (23, (72, 0, 0, 24, []))]
/-- F_year -/
def tb82 : List (Nat × Ent) := [(0, (1, 1, 0, 1, [])), (1, (0, 0, 0, 2, [])), (2, (0, 0, 9999, 5, [])), (5, (80, 6, 3, 8, [])), (8, (30, 30, 0, 11, [])), (11, (1, 2, 0, 12, [])), (12, (0, 0, 1, 13, [])), (13, (0, 0, 99, 15, [])), (15, (80, 6, 3, 18, [])), (18, (30, 30, 0, 21, [])), (21, (1, 3, 0, 22, [])), (22, (0, 0, 0, 23, [])), (23, (0, 0, 2, 24, [])), (24, (80, 6, 3, 27, [])), (27, (31, 33, 0, 30, [])), (30, (0, 0, -2, 32, [])), (32, (70, 0, 0, 33, [])), (33, (3, 0, 0, 34, [])), (34, (51, 1, 2, 37, [])), (37, (3, 0, 0, 38, [])), (38, (51, 0, 2, 41, [])), (41, (82, 27, 1, 44, [])), (44, (1, 1, 0, 45, [])), (45, (2, 4, 0, 47, [])), (47, (0, 0, 0, 48, [])), (48, (2, 5, 0, 50, [])), (50, (0, 0, 0, 51, [])), (51, (2, 6, 0, 53, [])), (53, (0, 0, 0, 54, [])), (54, (2, 7, 0, 56, [])), (56, (1, 7, 0, 58, [])), (58, (1, 2, 0, 59, [])), (59, (39, 131, 0, 62, [])), (62, (0, 0, 75, 64, [])), (64, (1, 4, 0, 66, [])), (66, (13, 0, 0, 67, [])), (67, (0, 0, 74, 69, [])), (69, (11, 0, 0, 70, [])), (70, (0, 0, 65537, 72, [])), (72, (15, 0, 0, 73, [])), (73, (2, 4, 0, 75, [])), (75, (3, 0, 0, 76, [])), (76, (51, 1, 2, 79, [])), (79, (1, 4, 0, 81, [])), (81, (0, 0, 8, 83, [])), (83, (15, 0, 0, 84, [])), (84, (0, 0, 5, 85, [])), (85, (87, 0, 0, 88, [])), (88, (82, 30, 1, 91, [])), (91, (1, 5, 0, 93, [])), (93, (3, 0, 0, 94, [])), (94, (51, 1, 2, 97, [])), (97, (82, 83, 0, 100, [])), (100, (30, 107, 0, 103, [])), (103, (0, 0, 1, 104, [])), (104, (44, 108, 0, 107, [])), (107, (0, 0, 0, 108, [])), (108, (11, 0, 0, 109, [])), (109, (2, 5, 0, 111, [])), (111, (1, 6, 0, 113, [])), (113, (3, 0, 0, 114, [])), (114, (51, 1, 2, 117, [])), (117, (82, 84, 0, 120, [])), (120, (86, 0, 0, 123, [])), (123, (2, 6, 0, 125, [])), (125, (8, 7, 1, 128, [])), (128, (44, 56, 0, 131, [])), (131, (1, 3, 0, 132, [])), (132, (31, 143, 0, 135, [])), (135, (3, 0, 0, 136, [])), (136, (51, 1, 2, 139, [])), (139, (82, 85, 0, 142, [])), (142, (70, 0, 0, 143, [])), (143, (1, 3, 0, 144, [])), (144, (0, 0, 1, 145, [])), (145, (37, 153, 0, 148, [])), (148, (1, 5, 0, 150, [])), (150, (44, 155, 0, 153, [])), (153, (1, 6, 0, 155, [])), (155, (70, 0, 0, 156, []))]
/-- B_someShapeFell -/
def tb83 : List (Nat × Ent) := [(0, (0, 0, 0, 1, [])), (1, (2, 1, 0, 2, [])), (2, (0, 0, 0, 3, [])), (3, (2, 2, 0, 4, [])), (4, (1, 2, 0, 5, [])), (5, (0, 0, 4, 6, [])), (6, (39, 33, 0, 9, [])), (9, (1, 1, 0, 10, [])), (10, (31, 21, 0, 13, [])), (13, (3, 0, 0, 14, [])), (14, (1, 2, 0, 15, [])), (15, (82, 35, 1, 18, [])), (18, (31, 25, 0, 21, [])), (21, (0, 0, 1, 22, [])), (22, (44, 26, 0, 25, [])), (25, (0, 0, 0, 26, [])), (26, (2, 1, 0, 27, [])), (27, (8, 2, 1, 30, [])), (30, (44, 4, 0, 33, [])), (33, (1, 1, 0, 34, [])), (34, (71, 0, 0, 35, []))]
/-- B_thickest -/
def tb84 : List (Nat × Ent) := [(0, (0, 0, 0, 1, [])), (1, (2, 1, 0, 2, [])), (2, (0, 0, 0, 3, [])), (3, (2, 2, 0, 4, [])), (4, (1, 2, 0, 5, [])), (5, (3, 0, 0, 6, [])), (6, (50, 2, 0, 9, [])), (9, (39, 31, 0, 12, [])), (12, (1, 1, 0, 13, [])), (13, (3, 0, 0, 14, [])), (14, (51, 6, 0, 17, [])), (17, (1, 2, 0, 18, [])), (18, (80, 10, 2, 21, [])), (21, (86, 0, 0, 24, [])), (24, (2, 1, 0, 25, [])), (25, (8, 2, 1, 28, [])), (28, (44, 4, 0, 31, [])), (31, (1, 1, 0, 32, [])), (32, (70, 0, 0, 33, []))]
/-- B_together -/
def tb85 : List (Nat × Ent) := [(0, (0, 0, 0, 1, [])), (1, (2, 1, 0, 2, [])), (2, (0, 0, 0, 3, [])), (3, (2, 2, 0, 4, [])), (4, (1, 2, 0, 5, [])), (5, (3, 0, 0, 6, [])), (6, (50, 2, 0, 9, [])), (9, (39, 29, 0, 12, [])), (12, (1, 1, 0, 13, [])), (13, (3, 0, 0, 14, [])), (14, (51, 6, 0, 17, [])), (17, (1, 2, 0, 18, [])), (18, (80, 10, 2, 21, [])), (21, (11, 0, 0, 22, [])), (22, (2, 1, 0, 23, [])), (23, (8, 2, 1, 26, [])), (26, (44, 4, 0, 29, [])), (29, (1, 1, 0, 30, [])), (30, (70, 0, 0, 31, []))]
/-- F_image -/
def tb86 : List (Nat × Ent) := [(0, (1, 1, 0, 1, [])), (1, (32, 13, 0, 4, [])), (4, (1, 1, 0, 5, [])), (5, (3, 0, 0, 6, [])), (6, (51, 3, 2, 9, [])), (9, (54, 0, 0, 10, [])), (10, (38, 16, 0, 13, [])), (13, (0, 0, -2, 15, [])), (15, (70, 0, 0, 16, [])), (16, (3, 0, 0, 17, [])), (17, (51, 3, 2, 20, [])), (20, (1, 1, 0, 21, [])), (21, (59, 0, 0, 22, [])), (22, (4, 2, 0, 23, [])), (23, (3, 2, 0, 24, [])), (24, (43, 42, 0, 27, [])), (27, (64, 0, 0, 30, [])), (30, (9, 0, 0, 31, [])), (31, (83, 1, 0, 34, [])), (34, (4, 2, 0, 35, [])), (35, (3, 0, 0, 36, [])), (36, (51, 3, 2, 39, [])), (39, (1, 1, 0, 40, [])), (40, (3, 2, 0, 41, [])), (41, (60, 0, 0, 42, [])), (42, (3, 2, 0, 43, [])), (43, (3, 0, 0, 44, [])), (44, (51, 0, 2, 47, [])), (47, (82, 27, 1, 50, [])), (50, (0, 0, 1, 51, [])), (51, (70, 0, 0, 52, []))]
/-- F_restore -/
def tb87 : List (Nat × Ent) := [(0, (1, 1, 0, 1, [])), (1, (32, 13, 0, 4, [])), (4, (1, 1, 0, 5, [])), (5, (3, 0, 0, 6, [])), (6, (51, 3, 2, 9, [])), (9, (54, 0, 0, 10, [])), (10, (38, 16, 0, 13, [])), (13, (0, 0, -2, 15, [])), (15, (70, 0, 0, 16, [])), (16, (3, 0, 0, 17, [])), (17, (51, 3, 2, 20, [])), (20, (1, 1, 0, 21, [])), (21, (59, 0, 0, 22, [])), (22, (4, 2, 0, 23, [])), (23, (3, 2, 0, 24, [])), (24, (43, 30, 0, 27, [])), (27, (0, 0, -3, 29, [])), (29, (70, 0, 0, 30, [])), (30, (3, 0, 0, 31, [])), (31, (51, 0, 2, 34, [])), (34, (3, 2, 0, 35, [])), (35, (82, 27, 1, 38, [])), (38, (0, 0, 1, 39, [])), (39, (70, 0, 0, 40, []))]
/-- F_told -/
def tb88 : List (Nat × Ent) := [(0, (1, 1, 0, 1, [])), (1, (45, 112, 0, 48, [(0, 48), (1, 56), (2, 64), (3, 72), (4, 80), (5, 88), (6, 96), (7, 104)])), (48, (3, 0, 0, 49, [])), (49, (51, 2, 2, 52, [])), (52, (50, 1, 1, 55, [])), (55, (70, 0, 0, 56, [])), (56, (3, 0, 0, 57, [])), (57, (51, 0, 2, 60, [])), (60, (50, 0, 0, 63, [])), (63, (70, 0, 0, 64, [])), (64, (3, 0, 0, 65, [])), (65, (51, 0, 2, 68, [])), (68, (50, 1, 0, 71, [])), (71, (70, 0, 0, 72, [])), (72, (3, 0, 0, 73, [])), (73, (51, 0, 2, 76, [])), (76, (50, 3, 0, 79, [])), (79, (70, 0, 0, 80, [])), (80, (3, 0, 0, 81, [])), (81, (51, 0, 2, 84, [])), (84, (50, 4, 0, 87, [])), (87, (70, 0, 0, 88, [])), (88, (3, 0, 0, 89, [])), (89, (51, 0, 2, 92, [])), (92, (82, 56, 0, 95, [])), (95, (70, 0, 0, 96, [])), (96, (3, 0, 0, 97, [])), (97, (51, 0, 2, 100, [])), (100, (50, 5, 0, 103, [])), (103, (70, 0, 0, 104, [])), (104, (3, 0, 0, 105, [])), (105, (51, 0, 2, 108, [])), (108, (82, 85, 0, 111, [])), (111, (70, 0, 0, 112, [])), (112, (1, 1, 0, 113, [])), (113, (0, 0, 100, 115, [])), (115, (14, 0, 0, 116, [])), (116, (0, 0, 1, 117, [])), (117, (12, 0, 0, 118, [])), (118, (2, 2, 0, 119, [])), (119, (1, 1, 0, 120, [])), (120, (0, 0, 100, 122, [])), (122, (15, 0, 0, 123, [])), (123, (2, 3, 0, 124, [])), (124, (1, 2, 0, 125, [])), (125, (0, 0, 0, 126, [])), (126, (0, 0, 3, 127, [])), (127, (80, 6, 3, 130, [])), (130, (30, 156, 0, 133, [])), (133, (3, 0, 0, 134, [])), (134, (51, 0, 2, 137, [])), (137, (1, 3, 0, 138, [])), (138, (82, 8, 1, 141, [])), (141, (30, 156, 0, 144, [])), (144, (3, 0, 0, 145, [])), (145, (51, 0, 2, 148, [])), (148, (1, 2, 0, 149, [])), (149, (1, 3, 0, 150, [])), (150, (82, 18, 2, 153, [])), (153, (44, 158, 0, 156, [])), (156, (0, 0, -2, 158, [])), (158, (70, 0, 0, 159, []))]
/-- M_init -/
def tb89 : List (Nat × Ent) := [(0, (3, 0, 0, 1, [])), (1, (85, 0, 0, 4, [])), (4, (3, 0, 0, 5, [])), (5, (0, 0, 3, 6, [])), (6, (52, 0, 3, 9, [])), (9, (3, 0, 0, 10, [])), (10, (0, 0, 4, 11, [])), (11, (52, 1, 3, 14, [])), (14, (3, 0, 0, 15, [])), (15, (0, 0, 24, 17, [])), (17, (61, 0, 0, 19, [])), (19, (53, 2, 3, 22, [])), (22, (3, 0, 0, 23, [])), (23, (0, 0, 2, 24, [])), (24, (52, 4, 3, 27, [])), (27, (3, 0, 0, 28, [])), (28, (0, 0, 1, 29, [])), (29, (52, 5, 3, 32, [])), (32, (3, 0, 0, 33, [])), (33, (0, 0, 96, 35, [])), (35, (61, 0, 0, 37, [])), (37, (53, 6, 3, 40, [])), (40, (3, 0, 0, 41, [])), (41, (0, 0, 16, 43, [])), (43, (61, 0, 0, 45, [])), (45, (53, 8, 3, 48, [])), (48, (3, 0, 0, 49, [])), (49, (0, 0, 60, 51, [])), (51, (61, 0, 0, 53, [])), (53, (53, 10, 3, 56, [])), (56, (3, 0, 0, 57, [])), (57, (0, 0, 24, 59, [])), (59, (61, 0, 0, 61, [])), (61, (53, 11, 3, 64, [])), (64, (3, 0, 0, 65, [])), (65, (0, 0, 24, 67, [])), (67, (61, 0, 0, 69, [])), (69, (53, 12, 3, 72, [])), (72, (3, 0, 0, 73, [])), (73, (0, 0, 24, 75, [])), (75, (61, 0, 0, 77, [])), (77, (53, 17, 3, 80, [])), (80, (3, 0, 0, 81, [])), (81, (0, 0, 320, 84, [])), (84, (61, 0, 0, 86, [])), (86, (53, 18, 3, 89, [])), (89, (3, 0, 0, 90, [])), (90, (0, 0, 2, 91, [])), (91, (62, 0, 0, 93, [])), (93, (53, 19, 3, 96, [])), (96, (3, 0, 0, 97, [])), (97, (82, 90, 0, 100, [])), (100, (73, 0, 0, 101, []))]
/-- M_clear -/
def tb90 : List (Nat × Ent) := [(0, (3, 0, 0, 1, [])), (1, (0, 0, 0, 2, [])), (2, (52, 3, 3, 5, [])), (5, (3, 0, 0, 6, [])), (6, (0, 0, 2, 7, [])), (7, (52, 4, 3, 10, [])), (10, (3, 0, 0, 11, [])), (11, (0, 0, 1, 12, [])), (12, (52, 5, 3, 15, [])), (15, (3, 0, 0, 16, [])), (16, (0, 0, 0, 17, [])), (17, (52, 7, 3, 20, [])), (20, (0, 0, 0, 21, [])), (21, (2, 1, 0, 22, [])), (22, (1, 1, 0, 23, [])), (23, (0, 0, 24, 25, [])), (25, (39, 41, 0, 28, [])), (28, (3, 0, 0, 29, [])), (29, (51, 2, 3, 32, [])), (32, (1, 1, 0, 33, [])), (33, (0, 0, 0, 34, [])), (34, (56, 0, 0, 35, [])), (35, (8, 1, 1, 38, [])), (38, (44, 22, 0, 41, [])), (41, (0, 0, 0, 42, [])), (42, (2, 1, 0, 43, [])), (43, (1, 1, 0, 44, [])), (44, (0, 0, 96, 46, [])), (46, (39, 62, 0, 49, [])), (49, (3, 0, 0, 50, [])), (50, (51, 6, 3, 53, [])), (53, (1, 1, 0, 54, [])), (54, (0, 0, -1, 55, [])), (55, (56, 0, 0, 56, [])), (56, (8, 1, 1, 59, [])), (59, (44, 43, 0, 62, [])), (62, (73, 0, 0, 63, []))]
/-- M_bank -/
def tb91 : List (Nat × Ent) := [(0, (1, 1, 0, 1, [])), (1, (0, 0, 1, 2, [])), (2, (0, 0, 4, 3, [])), (3, (80, 92, 3, 6, [])), (6, (30, 19, 0, 9, [])), (9, (1, 2, 0, 10, [])), (10, (0, 0, 1, 11, [])), (11, (0, 0, 6, 13, [])), (13, (80, 92, 3, 16, [])), (16, (31, 22, 0, 19, [])), (19, (0, 0, -2, 21, [])), (21, (70, 0, 0, 22, [])), (22, (3, 0, 0, 23, [])), (23, (1, 1, 0, 24, [])), (24, (52, 0, 3, 27, [])), (27, (3, 0, 0, 28, [])), (28, (1, 2, 0, 29, [])), (29, (52, 1, 3, 32, [])), (32, (3, 0, 0, 33, [])), (33, (82, 90, 0, 36, [])), (36, (1, 1, 0, 37, [])), (37, (1, 2, 0, 38, [])), (38, (13, 0, 0, 39, [])), (39, (70, 0, 0, 40, []))]
/-- M_in -/
def tb92 : List (Nat × Ent) := [(0, (1, 0, 0, 1, [])), (1, (1, 1, 0, 2, [])), (2, (38, 14, 0, 5, [])), (5, (1, 0, 0, 6, [])), (6, (1, 2, 0, 7, [])), (7, (40, 14, 0, 10, [])), (10, (0, 0, 1, 11, [])), (11, (44, 15, 0, 14, [])), (14, (0, 0, 0, 15, [])), (15, (71, 0, 0, 16, []))]
/-- M_cell -/
def tb93 : List (Nat × Ent) := [(0, (3, 0, 0, 1, [])), (1, (1, 1, 0, 2, [])), (2, (82, 94, 1, 5, [])), (5, (31, 10, 0, 8, [])), (8, (0, 0, -1, 9, [])), (9, (70, 0, 0, 10, [])), (10, (1, 2, 0, 11, [])), (11, (0, 0, 0, 12, [])), (12, (0, 0, 1, 13, [])), (13, (80, 92, 3, 16, [])), (16, (30, 37, 0, 19, [])), (19, (1, 3, 0, 20, [])), (20, (0, 0, 0, 21, [])), (21, (1, 2, 0, 22, [])), (22, (31, 30, 0, 25, [])), (25, (0, 0, 9, 27, [])), (27, (44, 31, 0, 30, [])), (30, (0, 0, 1, 31, [])), (31, (80, 92, 3, 34, [])), (34, (31, 40, 0, 37, [])), (37, (0, 0, -2, 39, [])), (39, (70, 0, 0, 40, [])), (40, (1, 2, 0, 41, [])), (41, (31, 53, 0, 44, [])), (44, (3, 0, 0, 45, [])), (45, (51, 2, 3, 48, [])), (48, (1, 1, 0, 49, [])), (49, (55, 0, 0, 50, [])), (50, (44, 61, 0, 53, [])), (53, (3, 0, 0, 54, [])), (54, (50, 3, 3, 57, [])), (57, (1, 1, 0, 58, [])), (58, (18, 0, 0, 59, [])), (59, (0, 0, 1, 60, [])), (60, (20, 0, 0, 61, [])), (61, (2, 4, 0, 63, [])), (63, (1, 2, 0, 64, [])), (64, (31, 77, 0, 67, [])), (67, (3, 0, 0, 68, [])), (68, (51, 2, 3, 71, [])), (71, (1, 1, 0, 72, [])), (72, (1, 3, 0, 73, [])), (73, (56, 0, 0, 74, [])), (74, (44, 107, 0, 77, [])), (77, (3, 0, 0, 78, [])), (78, (1, 3, 0, 79, [])), (79, (0, 0, 1, 80, [])), (80, (37, 94, 0, 83, [])), (83, (3, 0, 0, 84, [])), (84, (50, 3, 3, 87, [])), (87, (0, 0, 1, 88, [])), (88, (1, 1, 0, 89, [])), (89, (17, 0, 0, 90, [])), (90, (21, 0, 0, 91, [])), (91, (44, 104, 0, 94, [])), (94, (3, 0, 0, 95, [])), (95, (50, 3, 3, 98, [])), (98, (0, 0, 1, 99, [])), (99, (1, 1, 0, 100, [])), (100, (17, 0, 0, 101, [])), (101, (0, 0, -1, 102, [])), (102, (22, 0, 0, 103, [])), (103, (20, 0, 0, 104, [])), (104, (52, 3, 3, 107, [])), (107, (1, 4, 0, 109, [])), (109, (70, 0, 0, 110, []))]
/-- M_isCell -/
def tb94 : List (Nat × Ent) := [(0, (1, 1, 0, 1, [])), (1, (0, 0, 0, 2, [])), (2, (3, 0, 0, 3, [])), (3, (82, 95, 0, 6, [])), (6, (0, 0, 1, 7, [])), (7, (12, 0, 0, 8, [])), (8, (80, 92, 3, 11, [])), (11, (71, 0, 0, 12, []))]
/-- M_cells -/
def tb95 : List (Nat × Ent) := [(0, (3, 0, 0, 1, [])), (1, (50, 0, 3, 4, [])), (4, (3, 0, 0, 5, [])), (5, (50, 1, 3, 8, [])), (8, (13, 0, 0, 9, [])), (9, (70, 0, 0, 10, []))]
/-- M_set -/
def tb96 : List (Nat × Ent) := [(0, (1, 1, 0, 1, [])), (1, (31, 13, 0, 4, [])), (4, (1, 2, 0, 5, [])), (5, (0, 0, 1, 6, [])), (6, (0, 0, 5, 7, [])), (7, (80, 92, 3, 10, [])), (10, (44, 32, 0, 13, [])), (13, (1, 1, 0, 14, [])), (14, (0, 0, 1, 15, [])), (15, (37, 31, 0, 18, [])), (18, (1, 2, 0, 19, [])), (19, (0, 0, 0, 20, [])), (20, (0, 0, 3, 21, [])), (21, (80, 92, 3, 24, [])), (24, (30, 31, 0, 27, [])), (27, (0, 0, 1, 28, [])), (28, (44, 32, 0, 31, [])), (31, (0, 0, 0, 32, [])), (32, (2, 3, 0, 33, [])), (33, (1, 3, 0, 34, [])), (34, (31, 40, 0, 37, [])), (37, (0, 0, -2, 39, [])), (39, (70, 0, 0, 40, [])), (40, (1, 1, 0, 41, [])), (41, (31, 51, 0, 44, [])), (44, (3, 0, 0, 45, [])), (45, (50, 4, 3, 48, [])), (48, (44, 55, 0, 51, [])), (51, (3, 0, 0, 52, [])), (52, (50, 5, 3, 55, [])), (55, (2, 4, 0, 57, [])), (57, (3, 0, 0, 58, [])), (58, (1, 1, 0, 59, [])), (59, (31, 66, 0, 62, [])), (62, (1, 2, 0, 63, [])), (63, (44, 70, 0, 66, [])), (66, (3, 0, 0, 67, [])), (67, (50, 4, 3, 70, [])), (70, (52, 4, 3, 73, [])), (73, (3, 0, 0, 74, [])), (74, (1, 1, 0, 75, [])), (75, (0, 0, 1, 76, [])), (76, (37, 83, 0, 79, [])), (79, (1, 2, 0, 80, [])), (80, (44, 87, 0, 83, [])), (83, (3, 0, 0, 84, [])), (84, (50, 5, 3, 87, [])), (87, (52, 5, 3, 90, [])), (90, (1, 4, 0, 92, [])), (92, (70, 0, 0, 93, []))]
/-- M_shape -/
def tb97 : List (Nat × Ent) := [(0, (1, 1, 0, 1, [])), (1, (0, 0, 0, 2, [])), (2, (0, 0, 3, 3, [])), (3, (80, 92, 3, 6, [])), (6, (30, 17, 0, 9, [])), (9, (3, 0, 0, 10, [])), (10, (1, 2, 0, 11, [])), (11, (82, 94, 1, 14, [])), (14, (31, 19, 0, 17, [])), (17, (0, 0, -1, 18, [])), (18, (70, 0, 0, 19, [])), (19, (1, 3, 0, 20, [])), (20, (0, 0, -1, 21, [])), (21, (0, 0, 9, 23, [])), (23, (80, 92, 3, 26, [])), (26, (31, 32, 0, 29, [])), (29, (0, 0, -2, 31, [])), (31, (70, 0, 0, 32, [])), (32, (3, 0, 0, 33, [])), (33, (51, 6, 3, 36, [])), (36, (0, 0, 24, 38, [])), (38, (1, 1, 0, 39, [])), (39, (13, 0, 0, 40, [])), (40, (1, 2, 0, 41, [])), (41, (11, 0, 0, 42, [])), (42, (1, 3, 0, 43, [])), (43, (56, 0, 0, 44, [])), (44, (3, 0, 0, 45, [])), (45, (1, 1, 0, 46, [])), (46, (82, 98, 1, 49, [])), (49, (80, 99, 1, 52, [])), (52, (70, 0, 0, 53, []))]
/-- M_wanted -/
def tb98 : List (Nat × Ent) := [(0, (0, 0, 0, 1, [])), (1, (2, 2, 0, 2, [])), (2, (0, 0, 0, 3, [])), (3, (2, 3, 0, 4, [])), (4, (1, 3, 0, 5, [])), (5, (0, 0, 24, 7, [])), (7, (39, 40, 0, 10, [])), (10, (1, 2, 0, 11, [])), (11, (3, 0, 0, 12, [])), (12, (51, 6, 3, 15, [])), (15, (0, 0, 24, 17, [])), (17, (1, 1, 0, 18, [])), (18, (13, 0, 0, 19, [])), (19, (1, 3, 0, 20, [])), (20, (11, 0, 0, 21, [])), (21, (55, 0, 0, 22, [])), (22, (32, 31, 0, 25, [])), (25, (0, 0, 1, 26, [])), (26, (1, 3, 0, 27, [])), (27, (17, 0, 0, 28, [])), (28, (44, 32, 0, 31, [])), (31, (0, 0, 0, 32, [])), (32, (21, 0, 0, 33, [])), (33, (2, 2, 0, 34, [])), (34, (8, 3, 1, 37, [])), (37, (44, 4, 0, 40, [])), (40, (1, 2, 0, 41, [])), (41, (70, 0, 0, 42, []))]
/-- M_bits -/
def tb99 : List (Nat × Ent) := [(0, (0, 0, 0, 1, [])), (1, (2, 1, 0, 2, [])), (2, (0, 0, 0, 3, [])), (3, (2, 2, 0, 4, [])), (4, (1, 2, 0, 5, [])), (5, (0, 0, 24, 7, [])), (7, (39, 24, 0, 10, [])), (10, (1, 1, 0, 11, [])), (11, (1, 0, 0, 12, [])), (12, (1, 2, 0, 13, [])), (13, (18, 0, 0, 14, [])), (14, (0, 0, 1, 15, [])), (15, (20, 0, 0, 16, [])), (16, (11, 0, 0, 17, [])), (17, (2, 1, 0, 18, [])), (18, (8, 2, 1, 21, [])), (21, (44, 4, 0, 24, [])), (24, (1, 1, 0, 25, [])), (25, (70, 0, 0, 26, []))]
/-- M_say -/
def tb100 : List (Nat × Ent) := [(0, (1, 1, 0, 1, [])), (1, (0, 0, 33, 3, [])), (3, (0, 0, 126, 5, [])), (5, (80, 92, 3, 8, [])), (8, (31, 14, 0, 11, [])), (11, (0, 0, -2, 13, [])), (13, (70, 0, 0, 14, [])), (14, (3, 0, 0, 15, [])), (15, (50, 9, 3, 18, [])), (18, (0, 0, 60, 20, [])), (20, (37, 26, 0, 23, [])), (23, (0, 0, -4, 25, [])), (25, (70, 0, 0, 26, [])), (26, (3, 0, 0, 27, [])), (27, (51, 10, 3, 30, [])), (30, (3, 0, 0, 31, [])), (31, (50, 9, 3, 34, [])), (34, (1, 1, 0, 35, [])), (35, (56, 0, 0, 36, [])), (36, (3, 0, 0, 37, [])), (37, (9, 0, 0, 38, [])), (38, (50, 9, 3, 41, [])), (41, (0, 0, 1, 42, [])), (42, (11, 0, 0, 43, [])), (43, (52, 9, 3, 46, [])), (46, (3, 0, 0, 47, [])), (47, (50, 9, 3, 50, [])), (50, (70, 0, 0, 51, []))]
/-- M_wipe -/
def tb101 : List (Nat × Ent) := [(0, (3, 0, 0, 1, [])), (1, (50, 9, 3, 4, [])), (4, (2, 1, 0, 5, [])), (5, (3, 0, 0, 6, [])), (6, (0, 0, 0, 7, [])), (7, (52, 9, 3, 10, [])), (10, (1, 1, 0, 11, [])), (11, (70, 0, 0, 12, []))]
/-- M_fault -/
def tb102 : List (Nat × Ent) := [(0, (3, 0, 0, 1, [])), (1, (82, 103, 0, 4, [])), (4, (70, 0, 0, 5, []))]
/-- M_faultOf -/
def tb103 : List (Nat × Ent) := [(0, (0, 0, 0, 1, [])), (1, (2, 1, 0, 2, [])), (2, (0, 0, 0, 3, [])), (3, (2, 2, 0, 4, [])), (4, (1, 2, 0, 5, [])), (5, (3, 0, 0, 6, [])), (6, (50, 9, 3, 9, [])), (9, (39, 113, 0, 12, [])), (12, (3, 0, 0, 13, [])), (13, (51, 10, 3, 16, [])), (16, (1, 2, 0, 17, [])), (17, (55, 0, 0, 18, [])), (18, (2, 3, 0, 19, [])), (19, (1, 1, 0, 20, [])), (20, (30, 54, 0, 23, [])), (23, (1, 3, 0, 24, [])), (24, (0, 0, 48, 26, [])), (26, (0, 0, 57, 28, [])), (28, (80, 92, 3, 31, [])), (31, (31, 46, 0, 34, [])), (34, (1, 3, 0, 35, [])), (35, (0, 0, 43, 37, [])), (37, (36, 46, 0, 40, [])), (40, (1, 3, 0, 41, [])), (41, (0, 0, 42, 43, [])), (43, (37, 50, 0, 46, [])), (46, (0, 0, 1, 47, [])), (47, (44, 77, 0, 50, [])), (50, (0, 0, 0, 51, [])), (51, (44, 77, 0, 54, [])), (54, (3, 0, 0, 55, [])), (55, (1, 3, 0, 56, [])), (56, (0, 0, 97, 58, [])), (58, (12, 0, 0, 59, [])), (59, (82, 94, 1, 62, [])), (62, (31, 72, 0, 65, [])), (65, (1, 3, 0, 66, [])), (66, (80, 104, 1, 69, [])), (69, (32, 76, 0, 72, [])), (72, (0, 0, 1, 73, [])), (73, (44, 77, 0, 76, [])), (76, (0, 0, 0, 77, [])), (77, (2, 4, 0, 79, [])), (79, (1, 4, 0, 81, [])), (81, (31, 86, 0, 84, [])), (84, (1, 2, 0, 85, [])), (85, (70, 0, 0, 86, [])), (86, (1, 1, 0, 87, [])), (87, (31, 105, 0, 90, [])), (90, (3, 0, 0, 91, [])), (91, (1, 3, 0, 92, [])), (92, (0, 0, 97, 94, [])), (94, (12, 0, 0, 95, [])), (95, (82, 94, 1, 98, [])), (98, (30, 105, 0, 101, [])), (101, (0, 0, 1, 102, [])), (102, (44, 106, 0, 105, [])), (105, (0, 0, 0, 106, [])), (106, (2, 1, 0, 107, [])), (107, (8, 2, 1, 110, [])), (110, (44, 4, 0, 113, [])), (113, (1, 1, 0, 114, [])), (114, (30, 124, 0, 117, [])), (117, (3, 0, 0, 118, [])), (118, (50, 9, 3, 121, [])), (121, (44, 126, 0, 124, [])), (124, (0, 0, -6, 126, [])), (126, (70, 0, 0, 127, []))]
/-- M_kindOf -/
def tb104 : List (Nat × Ent) := [(0, (1, 0, 0, 1, [])), (1, (0, 0, 46, 3, [])), (3, (37, 10, 0, 6, [])), (6, (0, 0, 0, 7, [])), (7, (44, 62, 0, 10, [])), (10, (1, 0, 0, 11, [])), (11, (0, 0, 94, 13, [])), (13, (37, 20, 0, 16, [])), (16, (0, 0, 1, 17, [])), (17, (44, 62, 0, 20, [])), (20, (1, 0, 0, 21, [])), (21, (0, 0, 62, 23, [])), (23, (37, 30, 0, 26, [])), (26, (0, 0, 2, 27, [])), (27, (44, 62, 0, 30, [])), (30, (1, 0, 0, 31, [])), (31, (0, 0, 95, 33, [])), (33, (37, 40, 0, 36, [])), (36, (0, 0, 3, 37, [])), (37, (44, 62, 0, 40, [])), (40, (1, 0, 0, 41, [])), (41, (0, 0, 60, 43, [])), (43, (37, 50, 0, 46, [])), (46, (0, 0, 4, 47, [])), (47, (44, 62, 0, 50, [])), (50, (1, 0, 0, 51, [])), (51, (0, 0, 126, 53, [])), (53, (37, 60, 0, 56, [])), (56, (0, 0, 5, 57, [])), (57, (44, 62, 0, 60, [])), (60, (0, 0, -6, 62, [])), (62, (70, 0, 0, 63, []))]
/-- M_judge -/
def tb105 : List (Nat × Ent) := [(0, (1, 1, 0, 1, [])), (1, (0, 0, 0, 2, [])), (2, (0, 0, 1, 3, [])), (3, (80, 92, 3, 6, [])), (6, (31, 12, 0, 9, [])), (9, (0, 0, -2, 11, [])), (11, (70, 0, 0, 12, [])), (12, (3, 0, 0, 13, [])), (13, (82, 103, 0, 16, [])), (16, (32, 22, 0, 19, [])), (19, (0, 0, -5, 21, [])), (21, (70, 0, 0, 22, [])), (22, (3, 0, 0, 23, [])), (23, (0, 0, -6, 25, [])), (25, (82, 106, 1, 28, [])), (28, (2, 2, 0, 29, [])), (29, (1, 2, 0, 30, [])), (30, (32, 37, 0, 33, [])), (33, (1, 1, 0, 34, [])), (34, (31, 41, 0, 37, [])), (37, (1, 2, 0, 38, [])), (38, (44, 45, 0, 41, [])), (41, (3, 0, 0, 42, [])), (42, (50, 14, 3, 45, [])), (45, (70, 0, 0, 46, []))]
/-- M_goNight -/
def tb106 : List (Nat × Ent) := [(0, (3, 0, 0, 1, [])), (1, (82, 107, 0, 4, [])), (4, (3, 0, 0, 5, [])), (5, (0, 0, 0, 6, [])), (6, (52, 15, 3, 9, [])), (9, (3, 0, 0, 10, [])), (10, (0, 0, -6, 12, [])), (12, (52, 16, 3, 15, [])), (15, (0, 0, 0, 16, [])), (16, (2, 2, 0, 17, [])), (17, (1, 2, 0, 18, [])), (18, (3, 0, 0, 19, [])), (19, (50, 9, 3, 22, [])), (22, (39, 272, 0, 25, [])), (25, (3, 0, 0, 26, [])), (26, (51, 10, 3, 29, [])), (29, (1, 2, 0, 30, [])), (30, (55, 0, 0, 31, [])), (31, (80, 104, 1, 34, [])), (34, (2, 3, 0, 35, [])), (35, (3, 0, 0, 36, [])), (36, (0, 0, 0, 37, [])), (37, (52, 14, 3, 40, [])), (40, (1, 3, 0, 41, [])), (41, (32, 55, 0, 44, [])), (44, (3, 0, 0, 45, [])), (45, (1, 3, 0, 46, [])), (46, (82, 108, 1, 49, [])), (49, (8, 2, 1, 52, [])), (52, (44, 225, 0, 55, [])), (55, (3, 0, 0, 56, [])), (56, (51, 10, 3, 59, [])), (59, (1, 2, 0, 60, [])), (60, (55, 0, 0, 61, [])), (61, (0, 0, 97, 63, [])), (63, (12, 0, 0, 64, [])), (64, (2, 4, 0, 66, [])), (66, (3, 0, 0, 67, [])), (67, (51, 10, 3, 70, [])), (70, (1, 2, 0, 71, [])), (71, (0, 0, 1, 72, [])), (72, (11, 0, 0, 73, [])), (73, (55, 0, 0, 74, [])), (74, (2, 5, 0, 76, [])), (76, (3, 0, 0, 77, [])), (77, (1, 5, 0, 79, [])), (79, (0, 0, 48, 81, [])), (81, (0, 0, 57, 83, [])), (83, (80, 92, 3, 86, [])), (86, (30, 108, 0, 89, [])), (89, (3, 0, 0, 90, [])), (90, (51, 11, 3, 93, [])), (93, (1, 4, 0, 95, [])), (95, (55, 0, 0, 96, [])), (96, (1, 5, 0, 98, [])), (98, (0, 0, 48, 100, [])), (100, (12, 0, 0, 101, [])), (101, (40, 108, 0, 104, [])), (104, (0, 0, 1, 105, [])), (105, (44, 132, 0, 108, [])), (108, (1, 5, 0, 110, [])), (110, (0, 0, 43, 112, [])), (112, (37, 131, 0, 115, [])), (115, (3, 0, 0, 116, [])), (116, (51, 11, 3, 119, [])), (119, (1, 4, 0, 121, [])), (121, (55, 0, 0, 122, [])), (122, (0, 0, 9, 124, [])), (124, (37, 131, 0, 127, [])), (127, (0, 0, 2, 128, [])), (128, (44, 132, 0, 131, [])), (131, (0, 0, 0, 132, [])), (132, (52, 14, 3, 135, [])), (135, (3, 0, 0, 136, [])), (136, (50, 14, 3, 139, [])), (139, (35, 147, 0, 142, [])), (142, (3, 0, 0, 143, [])), (143, (50, 15, 3, 146, [])), (146, (70, 0, 0, 147, [])), (147, (3, 0, 0, 148, [])), (148, (51, 11, 3, 151, [])), (151, (1, 4, 0, 153, [])), (153, (1, 5, 0, 155, [])), (155, (0, 0, 43, 157, [])), (157, (37, 172, 0, 160, [])), (160, (3, 0, 0, 161, [])), (161, (51, 11, 3, 164, [])), (164, (1, 4, 0, 166, [])), (166, (55, 0, 0, 167, [])), (167, (0, 0, 1, 168, [])), (168, (11, 0, 0, 169, [])), (169, (44, 194, 0, 172, [])), (172, (1, 5, 0, 174, [])), (174, (0, 0, 42, 176, [])), (176, (37, 189, 0, 179, [])), (179, (3, 0, 0, 180, [])), (180, (51, 11, 3, 183, [])), (183, (1, 4, 0, 185, [])), (185, (55, 0, 0, 186, [])), (186, (44, 194, 0, 189, [])), (189, (1, 5, 0, 191, [])), (191, (0, 0, 48, 193, [])), (193, (12, 0, 0, 194, [])), (194, (56, 0, 0, 195, [])), (195, (3, 0, 0, 196, [])), (196, (1, 5, 0, 198, [])), (198, (0, 0, 42, 200, [])), (200, (37, 215, 0, 203, [])), (203, (3, 0, 0, 204, [])), (204, (50, 13, 3, 207, [])), (207, (0, 0, 1, 208, [])), (208, (1, 4, 0, 210, [])), (210, (17, 0, 0, 211, [])), (211, (22, 0, 0, 212, [])), (212, (44, 219, 0, 215, [])), (215, (3, 0, 0, 216, [])), (216, (50, 13, 3, 219, [])), (219, (52, 13, 3, 222, [])), (222, (8, 2, 2, 225, [])), (225, (3, 0, 0, 226, [])), (226, (3, 0, 0, 227, [])), (227, (50, 16, 3, 230, [])), (230, (33, 252, 0, 233, [])), (233, (1, 1, 0, 234, [])), (234, (32, 252, 0, 237, [])), (237, (3, 0, 0, 238, [])), (238, (1, 1, 0, 239, [])), (239, (82, 111, 1, 242, [])), (242, (31, 252, 0, 245, [])), (245, (3, 0, 0, 246, [])), (246, (50, 15, 3, 249, [])), (249, (44, 256, 0, 252, [])), (252, (3, 0, 0, 253, [])), (253, (50, 16, 3, 256, [])), (256, (52, 16, 3, 259, [])), (259, (3, 0, 0, 260, [])), (260, (9, 0, 0, 261, [])), (261, (50, 15, 3, 264, [])), (264, (0, 0, 1, 265, [])), (265, (11, 0, 0, 266, [])), (266, (52, 15, 3, 269, [])), (269, (44, 17, 0, 272, [])), (272, (0, 0, -6, 274, [])), (274, (70, 0, 0, 275, []))]
/-- M_asNow -/
def tb107 : List (Nat × Ent) := [(0, (0, 0, 0, 1, [])), (1, (2, 1, 0, 2, [])), (2, (1, 1, 0, 3, [])), (3, (0, 0, 24, 5, [])), (5, (39, 26, 0, 8, [])), (8, (3, 0, 0, 9, [])), (9, (51, 11, 3, 12, [])), (12, (1, 1, 0, 13, [])), (13, (3, 0, 0, 14, [])), (14, (51, 2, 3, 17, [])), (17, (1, 1, 0, 18, [])), (18, (55, 0, 0, 19, [])), (19, (56, 0, 0, 20, [])), (20, (8, 1, 1, 23, [])), (23, (44, 2, 0, 26, [])), (26, (3, 0, 0, 27, [])), (27, (3, 0, 0, 28, [])), (28, (50, 3, 3, 31, [])), (31, (52, 13, 3, 34, [])), (34, (73, 0, 0, 35, []))]
/-- M_pass -/
def tb108 : List (Nat × Ent) := [(0, (0, 0, 0, 1, [])), (1, (2, 2, 0, 2, [])), (2, (1, 2, 0, 3, [])), (3, (3, 0, 0, 4, [])), (4, (82, 95, 0, 7, [])), (7, (39, 112, 0, 10, [])), (10, (3, 0, 0, 11, [])), (11, (50, 13, 3, 14, [])), (14, (1, 2, 0, 15, [])), (15, (80, 109, 2, 18, [])), (18, (30, 25, 0, 21, [])), (21, (0, 0, 2, 22, [])), (22, (44, 26, 0, 25, [])), (25, (0, 0, 0, 26, [])), (26, (2, 3, 0, 27, [])), (27, (0, 0, 0, 28, [])), (28, (2, 4, 0, 30, [])), (30, (1, 4, 0, 32, [])), (32, (0, 0, 4, 33, [])), (33, (39, 78, 0, 36, [])), (36, (3, 0, 0, 37, [])), (37, (1, 2, 0, 38, [])), (38, (1, 4, 0, 40, [])), (40, (82, 110, 2, 43, [])), (43, (2, 5, 0, 45, [])), (45, (1, 3, 0, 46, [])), (46, (31, 70, 0, 49, [])), (49, (1, 5, 0, 51, [])), (51, (32, 70, 0, 54, [])), (54, (3, 0, 0, 55, [])), (55, (50, 13, 3, 58, [])), (58, (1, 5, 0, 60, [])), (60, (80, 109, 2, 63, [])), (63, (30, 70, 0, 66, [])), (66, (0, 0, 1, 67, [])), (67, (44, 71, 0, 70, [])), (70, (1, 3, 0, 71, [])), (71, (2, 3, 0, 72, [])), (72, (8, 4, 1, 75, [])), (75, (44, 30, 0, 78, [])), (78, (3, 0, 0, 79, [])), (79, (51, 11, 3, 82, [])), (82, (1, 2, 0, 83, [])), (83, (3, 0, 0, 84, [])), (84, (51, 11, 3, 87, [])), (87, (1, 2, 0, 88, [])), (88, (55, 0, 0, 89, [])), (89, (1, 3, 0, 90, [])), (90, (41, 104, 0, 93, [])), (93, (3, 0, 0, 94, [])), (94, (51, 11, 3, 97, [])), (97, (1, 2, 0, 98, [])), (98, (55, 0, 0, 99, [])), (99, (1, 3, 0, 100, [])), (100, (12, 0, 0, 101, [])), (101, (44, 105, 0, 104, [])), (104, (0, 0, 0, 105, [])), (105, (56, 0, 0, 106, [])), (106, (8, 2, 1, 109, [])), (109, (44, 2, 0, 112, [])), (112, (0, 0, 0, 113, [])), (113, (2, 2, 0, 114, [])), (114, (1, 2, 0, 115, [])), (115, (3, 0, 0, 116, [])), (116, (82, 95, 0, 119, [])), (119, (39, 140, 0, 122, [])), (122, (3, 0, 0, 123, [])), (123, (51, 12, 3, 126, [])), (126, (1, 2, 0, 127, [])), (127, (3, 0, 0, 128, [])), (128, (51, 11, 3, 131, [])), (131, (1, 2, 0, 132, [])), (132, (55, 0, 0, 133, [])), (133, (56, 0, 0, 134, [])), (134, (8, 2, 1, 137, [])), (137, (44, 114, 0, 140, [])), (140, (0, 0, 0, 141, [])), (141, (2, 2, 0, 142, [])), (142, (1, 2, 0, 143, [])), (143, (3, 0, 0, 144, [])), (144, (82, 95, 0, 147, [])), (147, (39, 307, 0, 150, [])), (150, (1, 1, 0, 151, [])), (151, (0, 0, 1, 152, [])), (152, (0, 0, 4, 153, [])), (153, (80, 92, 3, 156, [])), (156, (30, 249, 0, 159, [])), (159, (3, 0, 0, 160, [])), (160, (1, 2, 0, 161, [])), (161, (1, 1, 0, 162, [])), (162, (0, 0, 1, 163, [])), (163, (12, 0, 0, 164, [])), (164, (82, 110, 2, 167, [])), (167, (2, 3, 0, 168, [])), (168, (1, 3, 0, 169, [])), (169, (33, 189, 0, 172, [])), (172, (3, 0, 0, 173, [])), (173, (51, 11, 3, 176, [])), (176, (1, 2, 0, 177, [])), (177, (55, 0, 0, 178, [])), (178, (35, 185, 0, 181, [])), (181, (0, 0, 1, 182, [])), (182, (44, 209, 0, 185, [])), (185, (0, 0, 0, 186, [])), (186, (44, 209, 0, 189, [])), (189, (3, 0, 0, 190, [])), (190, (51, 11, 3, 193, [])), (193, (1, 3, 0, 194, [])), (194, (55, 0, 0, 195, [])), (195, (3, 0, 0, 196, [])), (196, (51, 11, 3, 199, [])), (199, (1, 2, 0, 200, [])), (200, (55, 0, 0, 201, [])), (201, (39, 208, 0, 204, [])), (204, (0, 0, 1, 205, [])), (205, (44, 209, 0, 208, [])), (208, (0, 0, 0, 209, [])), (209, (2, 4, 0, 211, [])), (211, (3, 0, 0, 212, [])), (212, (51, 12, 3, 215, [])), (215, (1, 2, 0, 216, [])), (216, (10, 0, 0, 217, [])), (217, (55, 0, 0, 218, [])), (218, (1, 4, 0, 220, [])), (220, (30, 227, 0, 223, [])), (223, (0, 0, 1, 224, [])), (224, (44, 228, 0, 227, [])), (227, (0, 0, 0, 228, [])), (228, (12, 0, 0, 229, [])), (229, (56, 0, 0, 230, [])), (230, (1, 4, 0, 232, [])), (232, (30, 249, 0, 235, [])), (235, (1, 3, 0, 236, [])), (236, (32, 249, 0, 239, [])), (239, (3, 0, 0, 240, [])), (240, (51, 12, 3, 243, [])), (243, (1, 3, 0, 244, [])), (244, (10, 0, 0, 245, [])), (245, (55, 0, 0, 246, [])), (246, (0, 0, 1, 247, [])), (247, (11, 0, 0, 248, [])), (248, (56, 0, 0, 249, [])), (249, (1, 1, 0, 250, [])), (250, (0, 0, 5, 251, [])), (251, (37, 301, 0, 254, [])), (254, (1, 2, 0, 255, [])), (255, (3, 0, 0, 256, [])), (256, (50, 1, 3, 259, [])), (259, (15, 0, 0, 260, [])), (260, (31, 301, 0, 263, [])), (263, (3, 0, 0, 264, [])), (264, (51, 12, 3, 267, [])), (267, (1, 2, 0, 268, [])), (268, (3, 0, 0, 269, [])), (269, (51, 11, 3, 272, [])), (272, (1, 2, 0, 273, [])), (273, (55, 0, 0, 274, [])), (274, (3, 0, 0, 275, [])), (275, (50, 4, 3, 278, [])), (278, (11, 0, 0, 279, [])), (279, (0, 0, 9, 281, [])), (281, (41, 289, 0, 284, [])), (284, (0, 0, 9, 286, [])), (286, (44, 300, 0, 289, [])), (289, (3, 0, 0, 290, [])), (290, (51, 11, 3, 293, [])), (293, (1, 2, 0, 294, [])), (294, (55, 0, 0, 295, [])), (295, (3, 0, 0, 296, [])), (296, (50, 4, 3, 299, [])), (299, (11, 0, 0, 300, [])), (300, (56, 0, 0, 301, [])), (301, (8, 2, 1, 304, [])), (304, (44, 142, 0, 307, [])), (307, (0, 0, 0, 308, [])), (308, (2, 2, 0, 309, [])), (309, (1, 2, 0, 310, [])), (310, (3, 0, 0, 311, [])), (311, (82, 95, 0, 314, [])), (314, (39, 335, 0, 317, [])), (317, (3, 0, 0, 318, [])), (318, (51, 11, 3, 321, [])), (321, (1, 2, 0, 322, [])), (322, (3, 0, 0, 323, [])), (323, (51, 12, 3, 326, [])), (326, (1, 2, 0, 327, [])), (327, (55, 0, 0, 328, [])), (328, (56, 0, 0, 329, [])), (329, (8, 2, 1, 332, [])), (332, (44, 309, 0, 335, [])), (335, (73, 0, 0, 336, []))]
/-- M_has -/
def tb109 : List (Nat × Ent) := [(0, (1, 0, 0, 1, [])), (1, (1, 1, 0, 2, [])), (2, (18, 0, 0, 3, [])), (3, (0, 0, 1, 4, [])), (4, (20, 0, 0, 5, [])), (5, (0, 0, 1, 6, [])), (6, (37, 13, 0, 9, [])), (9, (0, 0, 1, 10, [])), (10, (44, 14, 0, 13, [])), (13, (0, 0, 0, 14, [])), (14, (71, 0, 0, 15, []))]
/-- M_beside -/
def tb110 : List (Nat × Ent) := [(0, (1, 1, 0, 1, [])), (1, (3, 0, 0, 2, [])), (2, (50, 1, 3, 5, [])), (5, (14, 0, 0, 6, [])), (6, (1, 2, 0, 7, [])), (7, (31, 14, 0, 10, [])), (10, (0, 0, -1, 11, [])), (11, (44, 24, 0, 14, [])), (14, (1, 2, 0, 15, [])), (15, (0, 0, 2, 16, [])), (16, (37, 23, 0, 19, [])), (19, (0, 0, 1, 20, [])), (20, (44, 24, 0, 23, [])), (23, (0, 0, 0, 24, [])), (24, (11, 0, 0, 25, [])), (25, (2, 3, 0, 26, [])), (26, (1, 1, 0, 27, [])), (27, (3, 0, 0, 28, [])), (28, (50, 1, 3, 31, [])), (31, (15, 0, 0, 32, [])), (32, (1, 2, 0, 33, [])), (33, (0, 0, 1, 34, [])), (34, (37, 41, 0, 37, [])), (37, (0, 0, 1, 38, [])), (38, (44, 51, 0, 41, [])), (41, (1, 2, 0, 42, [])), (42, (0, 0, 3, 43, [])), (43, (37, 50, 0, 46, [])), (46, (0, 0, -1, 47, [])), (47, (44, 51, 0, 50, [])), (50, (0, 0, 0, 51, [])), (51, (11, 0, 0, 52, [])), (52, (2, 4, 0, 54, [])), (54, (1, 3, 0, 55, [])), (55, (0, 0, 0, 56, [])), (56, (3, 0, 0, 57, [])), (57, (50, 0, 3, 60, [])), (60, (0, 0, 1, 61, [])), (61, (12, 0, 0, 62, [])), (62, (80, 92, 3, 65, [])), (65, (30, 95, 0, 68, [])), (68, (1, 4, 0, 70, [])), (70, (0, 0, 0, 71, [])), (71, (3, 0, 0, 72, [])), (72, (50, 1, 3, 75, [])), (75, (0, 0, 1, 76, [])), (76, (12, 0, 0, 77, [])), (77, (80, 92, 3, 80, [])), (80, (30, 95, 0, 83, [])), (83, (1, 3, 0, 84, [])), (84, (3, 0, 0, 85, [])), (85, (50, 1, 3, 88, [])), (88, (13, 0, 0, 89, [])), (89, (1, 4, 0, 91, [])), (91, (11, 0, 0, 92, [])), (92, (44, 97, 0, 95, [])), (95, (0, 0, -6, 97, [])), (97, (70, 0, 0, 98, []))]
/-- M_standsNow -/
def tb111 : List (Nat × Ent) := [(0, (0, 0, 1, 1, [])), (1, (2, 2, 0, 2, [])), (2, (0, 0, 0, 3, [])), (3, (2, 3, 0, 4, [])), (4, (1, 3, 0, 5, [])), (5, (0, 0, 24, 7, [])), (7, (39, 70, 0, 10, [])), (10, (3, 0, 0, 11, [])), (11, (51, 6, 3, 14, [])), (14, (0, 0, 24, 16, [])), (16, (1, 1, 0, 17, [])), (17, (13, 0, 0, 18, [])), (18, (1, 3, 0, 19, [])), (19, (11, 0, 0, 20, [])), (20, (55, 0, 0, 21, [])), (21, (2, 4, 0, 23, [])), (23, (1, 2, 0, 24, [])), (24, (30, 62, 0, 27, [])), (27, (1, 4, 0, 29, [])), (29, (32, 58, 0, 32, [])), (32, (3, 0, 0, 33, [])), (33, (51, 11, 3, 36, [])), (36, (1, 3, 0, 37, [])), (37, (55, 0, 0, 38, [])), (38, (1, 4, 0, 40, [])), (40, (3, 0, 0, 41, [])), (41, (50, 5, 3, 44, [])), (44, (12, 0, 0, 45, [])), (45, (1, 4, 0, 47, [])), (47, (3, 0, 0, 48, [])), (48, (50, 5, 3, 51, [])), (51, (11, 0, 0, 52, [])), (52, (80, 92, 3, 55, [])), (55, (30, 62, 0, 58, [])), (58, (0, 0, 1, 59, [])), (59, (44, 63, 0, 62, [])), (62, (0, 0, 0, 63, [])), (63, (2, 2, 0, 64, [])), (64, (8, 3, 1, 67, [])), (67, (44, 4, 0, 70, [])), (70, (1, 2, 0, 71, [])), (71, (71, 0, 0, 72, []))]
/-- M_done -/
def tb112 : List (Nat × Ent) := [(0, (3, 0, 0, 1, [])), (1, (0, 0, -6, 3, [])), (3, (82, 113, 1, 6, [])), (6, (33, 12, 0, 9, [])), (9, (0, 0, -5, 11, [])), (11, (70, 0, 0, 12, [])), (12, (0, 0, 0, 13, [])), (13, (2, 1, 0, 14, [])), (14, (1, 1, 0, 15, [])), (15, (0, 0, 24, 17, [])), (17, (39, 38, 0, 20, [])), (20, (3, 0, 0, 21, [])), (21, (51, 2, 3, 24, [])), (24, (1, 1, 0, 25, [])), (25, (3, 0, 0, 26, [])), (26, (51, 11, 3, 29, [])), (29, (1, 1, 0, 30, [])), (30, (55, 0, 0, 31, [])), (31, (56, 0, 0, 32, [])), (32, (8, 1, 1, 35, [])), (35, (44, 14, 0, 38, [])), (38, (3, 0, 0, 39, [])), (39, (3, 0, 0, 40, [])), (40, (50, 13, 3, 43, [])), (43, (52, 3, 3, 46, [])), (46, (3, 0, 0, 47, [])), (47, (0, 0, 0, 48, [])), (48, (52, 9, 3, 51, [])), (51, (3, 0, 0, 52, [])), (52, (50, 15, 3, 55, [])), (55, (70, 0, 0, 56, []))]
/-- M_barOfNight -/
def tb113 : List (Nat × Ent) := [(0, (3, 0, 0, 1, [])), (1, (82, 103, 0, 4, [])), (4, (33, 15, 0, 7, [])), (7, (3, 0, 0, 8, [])), (8, (1, 1, 0, 9, [])), (9, (82, 106, 1, 12, [])), (12, (32, 20, 0, 15, [])), (15, (0, 0, -5, 17, [])), (17, (44, 21, 0, 20, [])), (20, (0, 0, 0, 21, [])), (21, (70, 0, 0, 22, []))]
/-- M_state -/
def tb114 : List (Nat × Ent) := [(0, (3, 0, 0, 1, [])), (1, (1, 1, 0, 2, [])), (2, (82, 94, 1, 5, [])), (5, (31, 10, 0, 8, [])), (8, (0, 0, -1, 9, [])), (9, (70, 0, 0, 10, [])), (10, (1, 2, 0, 11, [])), (11, (31, 23, 0, 14, [])), (14, (3, 0, 0, 15, [])), (15, (51, 2, 3, 18, [])), (18, (1, 1, 0, 19, [])), (19, (55, 0, 0, 20, [])), (20, (44, 41, 0, 23, [])), (23, (1, 2, 0, 24, [])), (24, (0, 0, 1, 25, [])), (25, (37, 39, 0, 28, [])), (28, (3, 0, 0, 29, [])), (29, (50, 3, 3, 32, [])), (32, (1, 1, 0, 33, [])), (33, (18, 0, 0, 34, [])), (34, (0, 0, 1, 35, [])), (35, (20, 0, 0, 36, [])), (36, (44, 41, 0, 39, [])), (39, (0, 0, -2, 41, [])), (41, (70, 0, 0, 42, []))]
/-- M_behind -/
def tb115 : List (Nat × Ent) := [(0, (3, 0, 0, 1, [])), (1, (1, 1, 0, 2, [])), (2, (82, 94, 1, 5, [])), (5, (31, 10, 0, 8, [])), (8, (0, 0, -1, 9, [])), (9, (70, 0, 0, 10, [])), (10, (1, 2, 0, 11, [])), (11, (0, 0, 0, 12, [])), (12, (0, 0, 1, 13, [])), (13, (80, 92, 3, 16, [])), (16, (31, 22, 0, 19, [])), (19, (0, 0, -2, 21, [])), (21, (70, 0, 0, 22, [])), (22, (3, 0, 0, 23, [])), (23, (0, 0, -6, 25, [])), (25, (82, 113, 1, 28, [])), (28, (33, 34, 0, 31, [])), (31, (0, 0, -5, 33, [])), (33, (70, 0, 0, 34, [])), (34, (1, 2, 0, 35, [])), (35, (31, 47, 0, 38, [])), (38, (3, 0, 0, 39, [])), (39, (51, 11, 3, 42, [])), (42, (1, 1, 0, 43, [])), (43, (55, 0, 0, 44, [])), (44, (44, 55, 0, 47, [])), (47, (3, 0, 0, 48, [])), (48, (50, 13, 3, 51, [])), (51, (1, 1, 0, 52, [])), (52, (18, 0, 0, 53, [])), (53, (0, 0, 1, 54, [])), (54, (20, 0, 0, 55, [])), (55, (70, 0, 0, 56, []))]
/-- M_stands -/
def tb116 : List (Nat × Ent) := [(0, (3, 0, 0, 1, [])), (1, (1, 1, 0, 2, [])), (2, (82, 117, 1, 5, [])), (5, (31, 10, 0, 8, [])), (8, (0, 0, -1, 9, [])), (9, (70, 0, 0, 10, [])), (10, (3, 0, 0, 11, [])), (11, (82, 107, 0, 14, [])), (14, (3, 0, 0, 15, [])), (15, (1, 1, 0, 16, [])), (16, (82, 111, 1, 19, [])), (19, (30, 26, 0, 22, [])), (22, (0, 0, 1, 23, [])), (23, (44, 27, 0, 26, [])), (26, (0, 0, 0, 27, [])), (27, (70, 0, 0, 28, []))]
/-- M_isShape -/
def tb117 : List (Nat × Ent) := [(0, (1, 1, 0, 1, [])), (1, (0, 0, 0, 2, [])), (2, (0, 0, 3, 3, [])), (3, (80, 92, 3, 6, [])), (6, (30, 21, 0, 9, [])), (9, (3, 0, 0, 10, [])), (10, (1, 1, 0, 11, [])), (11, (82, 98, 1, 14, [])), (14, (30, 21, 0, 17, [])), (17, (0, 0, 1, 18, [])), (18, (44, 22, 0, 21, [])), (21, (0, 0, 0, 22, [])), (22, (71, 0, 0, 23, []))]
/-- M_lost -/
def tb118 : List (Nat × Ent) := [(0, (3, 0, 0, 1, [])), (1, (1, 1, 0, 2, [])), (2, (82, 117, 1, 5, [])), (5, (31, 10, 0, 8, [])), (8, (0, 0, -1, 9, [])), (9, (70, 0, 0, 10, [])), (10, (3, 0, 0, 11, [])), (11, (1, 1, 0, 12, [])), (12, (82, 113, 1, 15, [])), (15, (33, 23, 0, 18, [])), (18, (0, 0, -5, 20, [])), (20, (44, 27, 0, 23, [])), (23, (3, 0, 0, 24, [])), (24, (50, 16, 3, 27, [])), (27, (70, 0, 0, 28, []))]
/-- M_through -/
def tb119 : List (Nat × Ent) := [(0, (0, 0, 0, 1, [])), (1, (2, 1, 0, 2, [])), (2, (0, 0, 0, 3, [])), (3, (2, 2, 0, 4, [])), (4, (1, 2, 0, 5, [])), (5, (3, 0, 0, 6, [])), (6, (50, 0, 3, 9, [])), (9, (39, 79, 0, 12, [])), (12, (0, 0, 1, 13, [])), (13, (2, 3, 0, 14, [])), (14, (0, 0, 0, 15, [])), (15, (2, 4, 0, 17, [])), (17, (1, 4, 0, 19, [])), (19, (3, 0, 0, 20, [])), (20, (50, 1, 3, 23, [])), (23, (39, 59, 0, 26, [])), (26, (1, 3, 0, 27, [])), (27, (30, 51, 0, 30, [])), (30, (3, 0, 0, 31, [])), (31, (51, 2, 3, 34, [])), (34, (1, 2, 0, 35, [])), (35, (3, 0, 0, 36, [])), (36, (50, 1, 3, 39, [])), (39, (13, 0, 0, 40, [])), (40, (1, 4, 0, 42, [])), (42, (11, 0, 0, 43, [])), (43, (55, 0, 0, 44, [])), (44, (31, 51, 0, 47, [])), (47, (0, 0, 1, 48, [])), (48, (44, 52, 0, 51, [])), (51, (0, 0, 0, 52, [])), (52, (2, 3, 0, 53, [])), (53, (8, 4, 1, 56, [])), (56, (44, 17, 0, 59, [])), (59, (1, 1, 0, 60, [])), (60, (1, 3, 0, 61, [])), (61, (30, 70, 0, 64, [])), (64, (0, 0, 1, 65, [])), (65, (1, 2, 0, 66, [])), (66, (17, 0, 0, 67, [])), (67, (44, 71, 0, 70, [])), (70, (0, 0, 0, 71, [])), (71, (21, 0, 0, 72, [])), (72, (2, 1, 0, 73, [])), (73, (8, 2, 1, 76, [])), (76, (44, 4, 0, 79, [])), (79, (1, 1, 0, 80, [])), (80, (70, 0, 0, 81, []))]
/-- M_carved -/
def tb120 : List (Nat × Ent) := [(0, (3, 0, 0, 1, [])), (1, (1, 1, 0, 2, [])), (2, (82, 117, 1, 5, [])), (5, (30, 18, 0, 8, [])), (8, (3, 0, 0, 9, [])), (9, (1, 1, 0, 10, [])), (10, (0, 0, 0, 11, [])), (11, (0, 0, 0, 12, [])), (12, (82, 121, 3, 15, [])), (15, (44, 19, 0, 18, [])), (18, (0, 0, -1, 19, [])), (19, (70, 0, 0, 20, []))]
/-- M_actsFor -/
def tb121 : List (Nat × Ent) := [(0, (0, 0, 0, 1, [])), (1, (2, 4, 0, 3, [])), (3, (0, 0, 0, 4, [])), (4, (2, 5, 0, 6, [])), (6, (1, 5, 0, 8, [])), (8, (3, 0, 0, 9, [])), (9, (82, 95, 0, 12, [])), (12, (39, 159, 0, 15, [])), (15, (3, 0, 0, 16, [])), (16, (51, 6, 3, 19, [])), (19, (0, 0, 24, 21, [])), (21, (1, 1, 0, 22, [])), (22, (13, 0, 0, 23, [])), (23, (1, 5, 0, 25, [])), (25, (11, 0, 0, 26, [])), (26, (55, 0, 0, 27, [])), (27, (2, 6, 0, 29, [])), (29, (1, 6, 0, 31, [])), (31, (32, 153, 0, 34, [])), (34, (1, 5, 0, 36, [])), (36, (3, 0, 0, 37, [])), (37, (50, 1, 3, 40, [])), (40, (14, 0, 0, 41, [])), (41, (1, 2, 0, 42, [])), (42, (11, 0, 0, 43, [])), (43, (2, 7, 0, 45, [])), (45, (1, 5, 0, 47, [])), (47, (3, 0, 0, 48, [])), (48, (50, 1, 3, 51, [])), (51, (15, 0, 0, 52, [])), (52, (1, 3, 0, 53, [])), (53, (11, 0, 0, 54, [])), (54, (2, 8, 0, 56, [])), (56, (1, 7, 0, 58, [])), (58, (0, 0, 0, 59, [])), (59, (3, 0, 0, 60, [])), (60, (50, 0, 3, 63, [])), (63, (0, 0, 1, 64, [])), (64, (12, 0, 0, 65, [])), (65, (80, 92, 3, 68, [])), (68, (30, 86, 0, 71, [])), (71, (1, 8, 0, 73, [])), (73, (0, 0, 0, 74, [])), (74, (3, 0, 0, 75, [])), (75, (50, 1, 3, 78, [])), (78, (0, 0, 1, 79, [])), (79, (12, 0, 0, 80, [])), (80, (80, 92, 3, 83, [])), (83, (31, 89, 0, 86, [])), (86, (0, 0, 1000000, 88, [])), (88, (70, 0, 0, 89, [])), (89, (3, 0, 0, 90, [])), (90, (51, 2, 3, 93, [])), (93, (1, 7, 0, 95, [])), (95, (3, 0, 0, 96, [])), (96, (50, 1, 3, 99, [])), (99, (13, 0, 0, 100, [])), (100, (1, 8, 0, 102, [])), (102, (11, 0, 0, 103, [])), (103, (55, 0, 0, 104, [])), (104, (2, 9, 0, 106, [])), (106, (1, 4, 0, 108, [])), (108, (1, 9, 0, 110, [])), (110, (1, 6, 0, 112, [])), (112, (3, 0, 0, 113, [])), (113, (50, 5, 3, 116, [])), (116, (11, 0, 0, 117, [])), (117, (41, 124, 0, 120, [])), (120, (0, 0, 1, 121, [])), (121, (44, 150, 0, 124, [])), (124, (1, 9, 0, 126, [])), (126, (1, 6, 0, 128, [])), (128, (3, 0, 0, 129, [])), (129, (50, 5, 3, 132, [])), (132, (12, 0, 0, 133, [])), (133, (39, 149, 0, 136, [])), (136, (1, 6, 0, 138, [])), (138, (3, 0, 0, 139, [])), (139, (50, 5, 3, 142, [])), (142, (12, 0, 0, 143, [])), (143, (1, 9, 0, 145, [])), (145, (12, 0, 0, 146, [])), (146, (44, 150, 0, 149, [])), (149, (0, 0, 0, 150, [])), (150, (11, 0, 0, 151, [])), (151, (2, 4, 0, 153, [])), (153, (8, 5, 1, 156, [])), (156, (44, 6, 0, 159, [])), (159, (1, 4, 0, 161, [])), (161, (70, 0, 0, 162, []))]
/-- M_nowThen -/
def tb122 : List (Nat × Ent) := [(0, (3, 0, 0, 1, [])), (1, (1, 1, 0, 2, [])), (2, (82, 117, 1, 5, [])), (5, (31, 10, 0, 8, [])), (8, (0, 0, -1, 9, [])), (9, (70, 0, 0, 10, [])), (10, (1, 2, 0, 11, [])), (11, (0, 0, 0, 12, [])), (12, (0, 0, 1, 13, [])), (13, (80, 92, 3, 16, [])), (16, (31, 22, 0, 19, [])), (19, (0, 0, -2, 21, [])), (21, (70, 0, 0, 22, [])), (22, (3, 0, 0, 23, [])), (23, (82, 123, 0, 26, [])), (26, (31, 32, 0, 29, [])), (29, (0, 0, -5, 31, [])), (31, (70, 0, 0, 32, [])), (32, (3, 0, 0, 33, [])), (33, (1, 1, 0, 34, [])), (34, (82, 98, 1, 37, [])), (37, (2, 3, 0, 38, [])), (38, (1, 3, 0, 39, [])), (39, (80, 99, 1, 42, [])), (42, (0, 0, 3, 43, [])), (43, (41, 49, 0, 46, [])), (46, (0, 0, -4, 48, [])), (48, (70, 0, 0, 49, [])), (49, (0, 0, -6, 51, [])), (51, (2, 4, 0, 53, [])), (53, (0, 0, 0, 54, [])), (54, (2, 5, 0, 56, [])), (56, (1, 5, 0, 58, [])), (58, (0, 0, 1331, 61, [])), (61, (39, 281, 0, 64, [])), (64, (3, 0, 0, 65, [])), (65, (82, 107, 0, 68, [])), (68, (1, 5, 0, 70, [])), (70, (2, 6, 0, 72, [])), (72, (0, 0, 0, 73, [])), (73, (2, 7, 0, 75, [])), (75, (0, 0, 1, 76, [])), (76, (2, 8, 0, 78, [])), (78, (0, 0, 0, 79, [])), (79, (2, 9, 0, 81, [])), (81, (1, 9, 0, 83, [])), (83, (0, 0, 24, 85, [])), (85, (39, 194, 0, 88, [])), (88, (1, 3, 0, 89, [])), (89, (1, 9, 0, 91, [])), (91, (80, 109, 2, 94, [])), (94, (30, 188, 0, 97, [])), (97, (1, 6, 0, 99, [])), (99, (0, 0, 11, 101, [])), (101, (15, 0, 0, 102, [])), (102, (2, 10, 0, 104, [])), (104, (1, 6, 0, 106, [])), (106, (0, 0, 11, 108, [])), (108, (14, 0, 0, 109, [])), (109, (2, 6, 0, 111, [])), (111, (1, 8, 0, 113, [])), (113, (30, 139, 0, 116, [])), (116, (1, 10, 0, 118, [])), (118, (0, 0, 10, 120, [])), (120, (36, 135, 0, 123, [])), (123, (1, 10, 0, 125, [])), (125, (3, 0, 0, 126, [])), (126, (51, 11, 3, 129, [])), (129, (1, 9, 0, 131, [])), (131, (55, 0, 0, 132, [])), (132, (39, 139, 0, 135, [])), (135, (0, 0, 1, 136, [])), (136, (44, 140, 0, 139, [])), (139, (0, 0, 0, 140, [])), (140, (2, 8, 0, 142, [])), (142, (1, 7, 0, 144, [])), (144, (1, 10, 0, 146, [])), (146, (0, 0, 10, 148, [])), (148, (39, 158, 0, 151, [])), (151, (0, 0, 1, 152, [])), (152, (1, 9, 0, 154, [])), (154, (17, 0, 0, 155, [])), (155, (44, 159, 0, 158, [])), (158, (0, 0, 0, 159, [])), (159, (21, 0, 0, 160, [])), (160, (2, 7, 0, 162, [])), (162, (3, 0, 0, 163, [])), (163, (51, 11, 3, 166, [])), (166, (1, 9, 0, 168, [])), (168, (1, 10, 0, 170, [])), (170, (0, 0, 10, 172, [])), (172, (39, 180, 0, 175, [])), (175, (1, 10, 0, 177, [])), (177, (44, 187, 0, 180, [])), (180, (3, 0, 0, 181, [])), (181, (51, 11, 3, 184, [])), (184, (1, 9, 0, 186, [])), (186, (55, 0, 0, 187, [])), (187, (56, 0, 0, 188, [])), (188, (8, 9, 1, 191, [])), (191, (44, 81, 0, 194, [])), (194, (1, 8, 0, 196, [])), (196, (30, 275, 0, 199, [])), (199, (1, 6, 0, 201, [])), (201, (31, 275, 0, 204, [])), (204, (3, 0, 0, 205, [])), (205, (82, 124, 0, 208, [])), (208, (1, 4, 0, 210, [])), (210, (32, 246, 0, 213, [])), (213, (1, 7, 0, 215, [])), (215, (80, 99, 1, 218, [])), (218, (1, 4, 0, 220, [])), (220, (80, 99, 1, 223, [])), (223, (38, 246, 0, 226, [])), (226, (1, 7, 0, 228, [])), (228, (80, 99, 1, 231, [])), (231, (1, 4, 0, 233, [])), (233, (80, 99, 1, 236, [])), (236, (37, 250, 0, 239, [])), (239, (1, 7, 0, 241, [])), (241, (1, 4, 0, 243, [])), (243, (39, 250, 0, 246, [])), (246, (0, 0, 1, 247, [])), (247, (44, 251, 0, 250, [])), (250, (0, 0, 0, 251, [])), (251, (2, 9, 0, 253, [])), (253, (1, 9, 0, 255, [])), (255, (30, 271, 0, 258, [])), (258, (3, 0, 0, 259, [])), (259, (1, 1, 0, 260, [])), (260, (82, 111, 1, 263, [])), (263, (30, 271, 0, 266, [])), (266, (1, 7, 0, 268, [])), (268, (44, 273, 0, 271, [])), (271, (1, 4, 0, 273, [])), (273, (2, 4, 0, 275, [])), (275, (8, 5, 1, 278, [])), (278, (44, 56, 0, 281, [])), (281, (1, 4, 0, 283, [])), (283, (32, 291, 0, 286, [])), (286, (1, 2, 0, 287, [])), (287, (0, 0, 1, 288, [])), (288, (37, 296, 0, 291, [])), (291, (1, 4, 0, 293, [])), (293, (44, 301, 0, 296, [])), (296, (1, 4, 0, 298, [])), (298, (80, 99, 1, 301, [])), (301, (70, 0, 0, 302, []))]
/-- M_areHours -/
def tb123 : List (Nat × Ent) := [(0, (3, 0, 0, 1, [])), (1, (82, 103, 0, 4, [])), (4, (33, 11, 0, 7, [])), (7, (0, 0, 1, 8, [])), (8, (44, 12, 0, 11, [])), (11, (0, 0, 0, 12, [])), (12, (2, 1, 0, 13, [])), (13, (0, 0, 0, 14, [])), (14, (2, 2, 0, 15, [])), (15, (1, 2, 0, 16, [])), (16, (3, 0, 0, 17, [])), (17, (50, 9, 3, 20, [])), (20, (39, 51, 0, 23, [])), (23, (1, 1, 0, 24, [])), (24, (30, 51, 0, 27, [])), (27, (3, 0, 0, 28, [])), (28, (51, 10, 3, 31, [])), (31, (1, 2, 0, 32, [])), (32, (55, 0, 0, 33, [])), (33, (80, 104, 1, 36, [])), (36, (32, 43, 0, 39, [])), (39, (0, 0, 1, 40, [])), (40, (44, 44, 0, 43, [])), (43, (0, 0, 0, 44, [])), (44, (2, 1, 0, 45, [])), (45, (8, 2, 1, 48, [])), (48, (44, 15, 0, 51, [])), (51, (1, 1, 0, 52, [])), (52, (71, 0, 0, 53, []))]
/-- M_goHours -/
def tb124 : List (Nat × Ent) := [(0, (0, 0, 0, 1, [])), (1, (2, 1, 0, 2, [])), (2, (1, 1, 0, 3, [])), (3, (3, 0, 0, 4, [])), (4, (50, 9, 3, 7, [])), (7, (39, 29, 0, 10, [])), (10, (3, 0, 0, 11, [])), (11, (3, 0, 0, 12, [])), (12, (51, 10, 3, 15, [])), (15, (1, 1, 0, 16, [])), (16, (55, 0, 0, 17, [])), (17, (80, 104, 1, 20, [])), (20, (82, 108, 1, 23, [])), (23, (8, 1, 1, 26, [])), (26, (44, 2, 0, 29, [])), (29, (73, 0, 0, 30, []))]
/-- M_dark -/
def tb125 : List (Nat × Ent) := [(0, (3, 0, 0, 1, [])), (1, (1, 1, 0, 2, [])), (2, (82, 117, 1, 5, [])), (5, (31, 10, 0, 8, [])), (8, (0, 0, -1, 9, [])), (9, (70, 0, 0, 10, [])), (10, (1, 2, 0, 11, [])), (11, (0, 0, 0, 12, [])), (12, (0, 0, 1, 13, [])), (13, (80, 92, 3, 16, [])), (16, (31, 22, 0, 19, [])), (19, (0, 0, -2, 21, [])), (21, (70, 0, 0, 22, [])), (22, (3, 0, 0, 23, [])), (23, (82, 123, 0, 26, [])), (26, (31, 32, 0, 29, [])), (29, (0, 0, -5, 31, [])), (31, (70, 0, 0, 32, [])), (32, (3, 0, 0, 33, [])), (33, (50, 3, 3, 36, [])), (36, (80, 99, 1, 39, [])), (39, (2, 3, 0, 40, [])), (40, (1, 3, 0, 41, [])), (41, (0, 0, 8, 43, [])), (43, (41, 49, 0, 46, [])), (46, (0, 0, -4, 48, [])), (48, (70, 0, 0, 49, [])), (49, (0, 0, -6, 51, [])), (51, (2, 4, 0, 53, [])), (53, (0, 0, 0, 54, [])), (54, (2, 5, 0, 56, [])), (56, (1, 5, 0, 58, [])), (58, (0, 0, 1, 59, [])), (59, (1, 3, 0, 60, [])), (60, (17, 0, 0, 61, [])), (61, (39, 186, 0, 64, [])), (64, (0, 0, 0, 65, [])), (65, (2, 6, 0, 67, [])), (67, (0, 0, 0, 68, [])), (68, (2, 7, 0, 70, [])), (70, (0, 0, 0, 71, [])), (71, (2, 8, 0, 73, [])), (73, (1, 8, 0, 75, [])), (75, (0, 0, 24, 77, [])), (77, (39, 124, 0, 80, [])), (80, (3, 0, 0, 81, [])), (81, (50, 3, 3, 84, [])), (84, (1, 8, 0, 86, [])), (86, (80, 109, 2, 89, [])), (89, (30, 118, 0, 92, [])), (92, (1, 6, 0, 94, [])), (94, (1, 5, 0, 96, [])), (96, (1, 7, 0, 98, [])), (98, (80, 109, 2, 101, [])), (101, (30, 111, 0, 104, [])), (104, (0, 0, 1, 105, [])), (105, (1, 8, 0, 107, [])), (107, (17, 0, 0, 108, [])), (108, (44, 112, 0, 111, [])), (111, (0, 0, 0, 112, [])), (112, (21, 0, 0, 113, [])), (113, (2, 6, 0, 115, [])), (115, (8, 7, 1, 118, [])), (118, (8, 8, 1, 121, [])), (121, (44, 73, 0, 124, [])), (124, (1, 4, 0, 126, [])), (126, (32, 142, 0, 129, [])), (129, (1, 6, 0, 131, [])), (131, (80, 99, 1, 134, [])), (134, (1, 4, 0, 136, [])), (136, (80, 99, 1, 139, [])), (139, (39, 180, 0, 142, [])), (142, (3, 0, 0, 143, [])), (143, (82, 107, 0, 146, [])), (146, (3, 0, 0, 147, [])), (147, (3, 0, 0, 148, [])), (148, (50, 3, 3, 151, [])), (151, (1, 6, 0, 153, [])), (153, (0, 0, -1, 154, [])), (154, (22, 0, 0, 155, [])), (155, (20, 0, 0, 156, [])), (156, (52, 13, 3, 159, [])), (159, (3, 0, 0, 160, [])), (160, (82, 124, 0, 163, [])), (163, (3, 0, 0, 164, [])), (164, (1, 1, 0, 165, [])), (165, (82, 111, 1, 168, [])), (168, (30, 176, 0, 171, [])), (171, (1, 6, 0, 173, [])), (173, (44, 178, 0, 176, [])), (176, (1, 4, 0, 178, [])), (178, (2, 4, 0, 180, [])), (180, (8, 5, 1, 183, [])), (183, (44, 56, 0, 186, [])), (186, (1, 4, 0, 188, [])), (188, (32, 196, 0, 191, [])), (191, (1, 2, 0, 192, [])), (192, (0, 0, 1, 193, [])), (193, (37, 201, 0, 196, [])), (196, (1, 4, 0, 198, [])), (198, (44, 206, 0, 201, [])), (201, (1, 4, 0, 203, [])), (203, (80, 99, 1, 206, [])), (206, (70, 0, 0, 207, []))]
/-- M_moved -/
def tb126 : List (Nat × Ent) := [(0, (3, 0, 0, 1, [])), (1, (1, 1, 0, 2, [])), (2, (82, 117, 1, 5, [])), (5, (31, 10, 0, 8, [])), (8, (0, 0, -1, 9, [])), (9, (70, 0, 0, 10, [])), (10, (1, 2, 0, 11, [])), (11, (0, 0, 0, 12, [])), (12, (0, 0, 1, 13, [])), (13, (80, 92, 3, 16, [])), (16, (31, 22, 0, 19, [])), (19, (0, 0, -2, 21, [])), (21, (70, 0, 0, 22, [])), (22, (0, 0, 1000000, 24, [])), (24, (2, 3, 0, 25, [])), (25, (0, 0, -6, 27, [])), (27, (2, 4, 0, 29, [])), (29, (0, 0, -3, 31, [])), (31, (2, 5, 0, 33, [])), (33, (1, 5, 0, 35, [])), (35, (0, 0, 4, 36, [])), (36, (39, 111, 0, 39, [])), (39, (0, 0, -5, 41, [])), (41, (2, 6, 0, 43, [])), (43, (1, 6, 0, 45, [])), (45, (0, 0, 6, 47, [])), (47, (39, 105, 0, 50, [])), (50, (3, 0, 0, 51, [])), (51, (1, 1, 0, 52, [])), (52, (1, 5, 0, 54, [])), (54, (1, 6, 0, 56, [])), (56, (82, 121, 3, 59, [])), (59, (2, 7, 0, 61, [])), (61, (1, 7, 0, 63, [])), (63, (1, 3, 0, 64, [])), (64, (39, 82, 0, 67, [])), (67, (0, 0, 100, 69, [])), (69, (1, 5, 0, 71, [])), (71, (0, 0, 3, 72, [])), (72, (11, 0, 0, 73, [])), (73, (13, 0, 0, 74, [])), (74, (1, 6, 0, 76, [])), (76, (11, 0, 0, 77, [])), (77, (0, 0, 5, 78, [])), (78, (11, 0, 0, 79, [])), (79, (44, 84, 0, 82, [])), (82, (1, 4, 0, 84, [])), (84, (2, 4, 0, 86, [])), (86, (1, 7, 0, 88, [])), (88, (1, 3, 0, 89, [])), (89, (39, 97, 0, 92, [])), (92, (1, 7, 0, 94, [])), (94, (44, 98, 0, 97, [])), (97, (1, 3, 0, 98, [])), (98, (2, 3, 0, 99, [])), (99, (8, 6, 1, 102, [])), (102, (44, 43, 0, 105, [])), (105, (8, 5, 1, 108, [])), (108, (44, 33, 0, 111, [])), (111, (1, 2, 0, 112, [])), (112, (31, 119, 0, 115, [])), (115, (1, 3, 0, 116, [])), (116, (44, 121, 0, 119, [])), (119, (1, 4, 0, 121, [])), (121, (70, 0, 0, 122, []))]
/-- M_apart -/
def tb127 : List (Nat × Ent) := [(0, (0, 0, 0, 1, [])), (1, (2, 2, 0, 2, [])), (2, (0, 0, 0, 3, [])), (3, (2, 3, 0, 4, [])), (4, (1, 3, 0, 5, [])), (5, (0, 0, 4, 6, [])), (6, (39, 58, 0, 9, [])), (9, (1, 3, 0, 10, [])), (10, (0, 0, 1, 11, [])), (11, (11, 0, 0, 12, [])), (12, (2, 4, 0, 14, [])), (14, (1, 4, 0, 16, [])), (16, (0, 0, 4, 17, [])), (17, (39, 52, 0, 20, [])), (20, (3, 0, 0, 21, [])), (21, (1, 3, 0, 22, [])), (22, (1, 4, 0, 24, [])), (24, (82, 128, 2, 27, [])), (27, (30, 46, 0, 30, [])), (30, (1, 2, 0, 31, [])), (31, (1, 1, 0, 32, [])), (32, (37, 43, 0, 35, [])), (35, (0, 0, 10, 37, [])), (37, (1, 3, 0, 38, [])), (38, (13, 0, 0, 39, [])), (39, (1, 4, 0, 41, [])), (41, (11, 0, 0, 42, [])), (42, (70, 0, 0, 43, [])), (43, (8, 2, 1, 46, [])), (46, (8, 4, 1, 49, [])), (49, (44, 14, 0, 52, [])), (52, (8, 3, 1, 55, [])), (55, (44, 4, 0, 58, [])), (58, (1, 1, 0, 59, [])), (59, (0, 0, -1, 60, [])), (60, (37, 67, 0, 63, [])), (63, (1, 2, 0, 64, [])), (64, (44, 69, 0, 67, [])), (67, (0, 0, -6, 69, [])), (69, (70, 0, 0, 70, []))]
/-- M_areApart -/
def tb128 : List (Nat × Ent) := [(0, (0, 0, 0, 1, [])), (1, (2, 3, 0, 2, [])), (2, (0, 0, 0, 3, [])), (3, (2, 4, 0, 5, [])), (5, (1, 4, 0, 7, [])), (7, (0, 0, 24, 9, [])), (9, (39, 94, 0, 12, [])), (12, (3, 0, 0, 13, [])), (13, (51, 6, 3, 16, [])), (16, (0, 0, 24, 18, [])), (18, (1, 1, 0, 19, [])), (19, (13, 0, 0, 20, [])), (20, (1, 4, 0, 22, [])), (22, (11, 0, 0, 23, [])), (23, (55, 0, 0, 24, [])), (24, (2, 5, 0, 26, [])), (26, (3, 0, 0, 27, [])), (27, (51, 6, 3, 30, [])), (30, (0, 0, 24, 32, [])), (32, (1, 2, 0, 33, [])), (33, (13, 0, 0, 34, [])), (34, (1, 4, 0, 36, [])), (36, (11, 0, 0, 37, [])), (37, (55, 0, 0, 38, [])), (38, (2, 6, 0, 40, [])), (40, (1, 3, 0, 41, [])), (41, (31, 82, 0, 44, [])), (44, (1, 5, 0, 46, [])), (46, (32, 86, 0, 49, [])), (49, (1, 6, 0, 51, [])), (51, (32, 86, 0, 54, [])), (54, (1, 5, 0, 56, [])), (56, (1, 6, 0, 58, [])), (58, (12, 0, 0, 59, [])), (59, (0, 0, 2, 60, [])), (60, (3, 0, 0, 61, [])), (61, (50, 5, 3, 64, [])), (64, (13, 0, 0, 65, [])), (65, (40, 82, 0, 68, [])), (68, (1, 6, 0, 70, [])), (70, (1, 5, 0, 72, [])), (72, (12, 0, 0, 73, [])), (73, (0, 0, 2, 74, [])), (74, (3, 0, 0, 75, [])), (75, (50, 5, 3, 78, [])), (78, (13, 0, 0, 79, [])), (79, (41, 86, 0, 82, [])), (82, (0, 0, 1, 83, [])), (83, (44, 87, 0, 86, [])), (86, (0, 0, 0, 87, [])), (87, (2, 3, 0, 88, [])), (88, (8, 4, 1, 91, [])), (91, (44, 5, 0, 94, [])), (94, (1, 3, 0, 95, [])), (95, (71, 0, 0, 96, []))]
/-- M_walk -/
def tb129 : List (Nat × Ent) := [(0, (3, 0, 0, 1, [])), (1, (1, 1, 0, 2, [])), (2, (82, 94, 1, 5, [])), (5, (30, 16, 0, 8, [])), (8, (3, 0, 0, 9, [])), (9, (1, 2, 0, 10, [])), (10, (82, 94, 1, 13, [])), (13, (31, 18, 0, 16, [])), (16, (0, 0, -1, 17, [])), (17, (70, 0, 0, 18, [])), (18, (1, 3, 0, 19, [])), (19, (0, 0, 0, 20, [])), (20, (0, 0, 2, 21, [])), (21, (80, 92, 3, 24, [])), (24, (31, 30, 0, 27, [])), (27, (0, 0, -2, 29, [])), (29, (70, 0, 0, 30, [])), (30, (3, 0, 0, 31, [])), (31, (1, 2, 0, 32, [])), (32, (82, 130, 1, 35, [])), (35, (1, 3, 0, 36, [])), (36, (0, 0, 2, 37, [])), (37, (39, 72, 0, 40, [])), (40, (1, 3, 0, 41, [])), (41, (31, 62, 0, 44, [])), (44, (3, 0, 0, 45, [])), (45, (51, 17, 3, 48, [])), (48, (1, 1, 0, 49, [])), (49, (55, 0, 0, 50, [])), (50, (0, 0, 100, 52, [])), (52, (14, 0, 0, 53, [])), (53, (3, 0, 0, 54, [])), (54, (1, 1, 0, 55, [])), (55, (82, 131, 1, 58, [])), (58, (11, 0, 0, 59, [])), (59, (44, 71, 0, 62, [])), (62, (3, 0, 0, 63, [])), (63, (51, 17, 3, 66, [])), (66, (1, 1, 0, 67, [])), (67, (55, 0, 0, 68, [])), (68, (0, 0, 100, 70, [])), (70, (15, 0, 0, 71, [])), (71, (70, 0, 0, 72, [])), (72, (0, 0, -6, 74, [])), (74, (2, 4, 0, 76, [])), (76, (0, 0, 0, 77, [])), (77, (2, 5, 0, 79, [])), (79, (1, 5, 0, 81, [])), (81, (0, 0, 4, 82, [])), (82, (39, 171, 0, 85, [])), (85, (1, 1, 0, 86, [])), (86, (1, 2, 0, 87, [])), (87, (36, 171, 0, 90, [])), (90, (3, 0, 0, 91, [])), (91, (1, 1, 0, 92, [])), (92, (1, 5, 0, 94, [])), (94, (82, 110, 2, 97, [])), (97, (2, 6, 0, 99, [])), (99, (1, 6, 0, 101, [])), (101, (32, 136, 0, 104, [])), (104, (3, 0, 0, 105, [])), (105, (51, 17, 3, 108, [])), (108, (1, 6, 0, 110, [])), (110, (55, 0, 0, 111, [])), (111, (0, 0, 100, 113, [])), (113, (3, 0, 0, 114, [])), (114, (1, 6, 0, 116, [])), (116, (82, 131, 1, 119, [])), (119, (13, 0, 0, 120, [])), (120, (11, 0, 0, 121, [])), (121, (0, 0, 1, 122, [])), (122, (11, 0, 0, 123, [])), (123, (3, 0, 0, 124, [])), (124, (51, 17, 3, 127, [])), (127, (1, 1, 0, 128, [])), (128, (55, 0, 0, 129, [])), (129, (37, 136, 0, 132, [])), (132, (0, 0, 1, 133, [])), (133, (44, 137, 0, 136, [])), (136, (0, 0, 0, 137, [])), (137, (2, 7, 0, 139, [])), (139, (1, 7, 0, 141, [])), (141, (30, 161, 0, 144, [])), (144, (1, 4, 0, 146, [])), (146, (32, 156, 0, 149, [])), (149, (1, 6, 0, 151, [])), (151, (1, 4, 0, 153, [])), (153, (39, 161, 0, 156, [])), (156, (1, 6, 0, 158, [])), (158, (44, 163, 0, 161, [])), (161, (1, 4, 0, 163, [])), (163, (2, 4, 0, 165, [])), (165, (8, 5, 1, 168, [])), (168, (44, 79, 0, 171, [])), (171, (1, 4, 0, 173, [])), (173, (70, 0, 0, 174, []))]
/-- M_layWalk -/
def tb130 : List (Nat × Ent) := [(0, (0, 0, 0, 1, [])), (1, (2, 2, 0, 2, [])), (2, (1, 2, 0, 3, [])), (3, (0, 0, 24, 5, [])), (5, (39, 31, 0, 8, [])), (8, (3, 0, 0, 9, [])), (9, (51, 17, 3, 12, [])), (12, (1, 2, 0, 13, [])), (13, (1, 2, 0, 14, [])), (14, (1, 1, 0, 15, [])), (15, (37, 22, 0, 18, [])), (18, (0, 0, 0, 19, [])), (19, (44, 24, 0, 22, [])), (22, (0, 0, 1000000, 24, [])), (24, (56, 0, 0, 25, [])), (25, (8, 2, 1, 28, [])), (28, (44, 2, 0, 31, [])), (31, (0, 0, 1, 32, [])), (32, (2, 2, 0, 33, [])), (33, (1, 2, 0, 34, [])), (34, (30, 162, 0, 37, [])), (37, (0, 0, 0, 38, [])), (38, (2, 2, 0, 39, [])), (39, (0, 0, 0, 40, [])), (40, (2, 3, 0, 41, [])), (41, (1, 3, 0, 42, [])), (42, (3, 0, 0, 43, [])), (43, (82, 95, 0, 46, [])), (46, (39, 159, 0, 49, [])), (49, (0, 0, 0, 50, [])), (50, (2, 4, 0, 52, [])), (52, (1, 4, 0, 54, [])), (54, (0, 0, 4, 55, [])), (55, (39, 153, 0, 58, [])), (58, (3, 0, 0, 59, [])), (59, (1, 3, 0, 60, [])), (60, (1, 4, 0, 62, [])), (62, (82, 110, 2, 65, [])), (65, (2, 5, 0, 67, [])), (67, (1, 5, 0, 69, [])), (69, (33, 77, 0, 72, [])), (72, (0, 0, 1000000, 74, [])), (74, (44, 96, 0, 77, [])), (77, (3, 0, 0, 78, [])), (78, (51, 17, 3, 81, [])), (81, (1, 5, 0, 83, [])), (83, (55, 0, 0, 84, [])), (84, (0, 0, 100, 86, [])), (86, (3, 0, 0, 87, [])), (87, (1, 5, 0, 89, [])), (89, (82, 131, 1, 92, [])), (92, (13, 0, 0, 93, [])), (93, (11, 0, 0, 94, [])), (94, (0, 0, 1, 95, [])), (95, (11, 0, 0, 96, [])), (96, (2, 6, 0, 98, [])), (98, (1, 2, 0, 99, [])), (99, (31, 113, 0, 102, [])), (102, (1, 6, 0, 104, [])), (104, (3, 0, 0, 105, [])), (105, (51, 17, 3, 108, [])), (108, (1, 3, 0, 109, [])), (109, (55, 0, 0, 110, [])), (110, (39, 117, 0, 113, [])), (113, (0, 0, 1, 114, [])), (114, (44, 118, 0, 117, [])), (117, (0, 0, 0, 118, [])), (118, (2, 2, 0, 119, [])), (119, (3, 0, 0, 120, [])), (120, (51, 17, 3, 123, [])), (123, (1, 3, 0, 124, [])), (124, (1, 6, 0, 126, [])), (126, (3, 0, 0, 127, [])), (127, (51, 17, 3, 130, [])), (130, (1, 3, 0, 131, [])), (131, (55, 0, 0, 132, [])), (132, (39, 140, 0, 135, [])), (135, (1, 6, 0, 137, [])), (137, (44, 146, 0, 140, [])), (140, (3, 0, 0, 141, [])), (141, (51, 17, 3, 144, [])), (144, (1, 3, 0, 145, [])), (145, (55, 0, 0, 146, [])), (146, (56, 0, 0, 147, [])), (147, (8, 4, 1, 150, [])), (150, (44, 52, 0, 153, [])), (153, (8, 3, 1, 156, [])), (156, (44, 41, 0, 159, [])), (159, (44, 33, 0, 162, [])), (162, (73, 0, 0, 163, []))]
/-- M_anyWants -/
def tb131 : List (Nat × Ent) := [(0, (0, 0, 0, 1, [])), (1, (2, 2, 0, 2, [])), (2, (0, 0, 0, 3, [])), (3, (2, 3, 0, 4, [])), (4, (1, 3, 0, 5, [])), (5, (0, 0, 4, 6, [])), (6, (39, 35, 0, 9, [])), (9, (3, 0, 0, 10, [])), (10, (51, 6, 3, 13, [])), (13, (0, 0, 24, 15, [])), (15, (1, 3, 0, 16, [])), (16, (13, 0, 0, 17, [])), (17, (1, 1, 0, 18, [])), (18, (11, 0, 0, 19, [])), (19, (55, 0, 0, 20, [])), (20, (32, 27, 0, 23, [])), (23, (0, 0, 1, 24, [])), (24, (44, 28, 0, 27, [])), (27, (1, 2, 0, 28, [])), (28, (2, 2, 0, 29, [])), (29, (8, 3, 1, 32, [])), (32, (44, 4, 0, 35, [])), (35, (1, 2, 0, 36, [])), (36, (70, 0, 0, 37, []))]
/-- M_wins -/
def tb132 : List (Nat × Ent) := [(0, (3, 0, 0, 1, [])), (1, (1, 1, 0, 2, [])), (2, (82, 133, 1, 5, [])), (5, (31, 13, 0, 8, [])), (8, (0, 0, -2, 10, [])), (10, (44, 26, 0, 13, [])), (13, (3, 0, 0, 14, [])), (14, (1, 1, 0, 15, [])), (15, (82, 134, 1, 18, [])), (18, (30, 25, 0, 21, [])), (21, (0, 0, 0, 22, [])), (22, (44, 26, 0, 25, [])), (25, (0, 0, 1, 26, [])), (26, (70, 0, 0, 27, []))]
/-- M_areCells -/
def tb133 : List (Nat × Ent) := [(0, (1, 1, 0, 1, [])), (1, (0, 0, 0, 2, [])), (2, (0, 0, 1, 3, [])), (3, (3, 0, 0, 4, [])), (4, (82, 95, 0, 7, [])), (7, (17, 0, 0, 8, [])), (8, (0, 0, 1, 9, [])), (9, (12, 0, 0, 10, [])), (10, (80, 92, 3, 13, [])), (13, (71, 0, 0, 14, []))]
/-- M_over -/
def tb134 : List (Nat × Ent) := [(0, (0, 0, 0, 1, [])), (1, (2, 2, 0, 2, [])), (2, (0, 0, 0, 3, [])), (3, (2, 3, 0, 4, [])), (4, (1, 3, 0, 5, [])), (5, (0, 0, 24, 7, [])), (7, (39, 37, 0, 10, [])), (10, (1, 2, 0, 11, [])), (11, (1, 1, 0, 12, [])), (12, (1, 3, 0, 13, [])), (13, (80, 109, 2, 16, [])), (16, (30, 28, 0, 19, [])), (19, (3, 0, 0, 20, [])), (20, (51, 2, 3, 23, [])), (23, (1, 3, 0, 24, [])), (24, (55, 0, 0, 25, [])), (25, (44, 29, 0, 28, [])), (28, (0, 0, 0, 29, [])), (29, (22, 0, 0, 30, [])), (30, (2, 2, 0, 31, [])), (31, (8, 3, 1, 34, [])), (34, (44, 4, 0, 37, [])), (37, (1, 2, 0, 38, [])), (38, (70, 0, 0, 39, []))]
/-- M_cut -/
def tb135 : List (Nat × Ent) := [(0, (3, 0, 0, 1, [])), (1, (1, 1, 0, 2, [])), (2, (82, 133, 1, 5, [])), (5, (31, 11, 0, 8, [])), (8, (0, 0, -2, 10, [])), (10, (70, 0, 0, 11, [])), (11, (3, 0, 0, 12, [])), (12, (1, 1, 0, 13, [])), (13, (82, 134, 1, 16, [])), (16, (2, 2, 0, 17, [])), (17, (0, 0, 0, 18, [])), (18, (2, 3, 0, 19, [])), (19, (1, 3, 0, 20, [])), (20, (0, 0, 24, 22, [])), (22, (39, 74, 0, 25, [])), (25, (1, 1, 0, 26, [])), (26, (1, 3, 0, 27, [])), (27, (80, 109, 2, 30, [])), (30, (30, 68, 0, 33, [])), (33, (1, 2, 0, 34, [])), (34, (30, 68, 0, 37, [])), (37, (3, 0, 0, 38, [])), (38, (51, 2, 3, 41, [])), (41, (1, 3, 0, 42, [])), (42, (55, 0, 0, 43, [])), (43, (1, 2, 0, 44, [])), (44, (22, 0, 0, 45, [])), (45, (3, 0, 0, 46, [])), (46, (51, 2, 3, 49, [])), (49, (1, 3, 0, 50, [])), (50, (55, 0, 0, 51, [])), (51, (39, 68, 0, 54, [])), (54, (0, 0, 10, 56, [])), (56, (1, 3, 0, 57, [])), (57, (13, 0, 0, 58, [])), (58, (3, 0, 0, 59, [])), (59, (51, 2, 3, 62, [])), (62, (1, 3, 0, 63, [])), (63, (55, 0, 0, 64, [])), (64, (1, 2, 0, 65, [])), (65, (22, 0, 0, 66, [])), (66, (11, 0, 0, 67, [])), (67, (70, 0, 0, 68, [])), (68, (8, 3, 1, 71, [])), (71, (44, 19, 0, 74, [])), (74, (0, 0, -6, 76, [])), (76, (70, 0, 0, 77, []))]
/-- M_seen -/
def tb136 : List (Nat × Ent) := [(0, (3, 0, 0, 1, [])), (1, (1, 1, 0, 2, [])), (2, (82, 94, 1, 5, [])), (5, (31, 10, 0, 8, [])), (8, (0, 0, -1, 9, [])), (9, (70, 0, 0, 10, [])), (10, (1, 2, 0, 11, [])), (11, (0, 0, 0, 12, [])), (12, (0, 0, 9, 14, [])), (14, (80, 92, 3, 17, [])), (17, (31, 23, 0, 20, [])), (20, (0, 0, -2, 22, [])), (22, (70, 0, 0, 23, [])), (23, (3, 0, 0, 24, [])), (24, (50, 7, 3, 27, [])), (27, (0, 0, 8, 29, [])), (29, (37, 35, 0, 32, [])), (32, (0, 0, -4, 34, [])), (34, (70, 0, 0, 35, [])), (35, (3, 0, 0, 36, [])), (36, (51, 8, 3, 39, [])), (39, (0, 0, 2, 40, [])), (40, (3, 0, 0, 41, [])), (41, (50, 7, 3, 44, [])), (44, (13, 0, 0, 45, [])), (45, (1, 1, 0, 46, [])), (46, (56, 0, 0, 47, [])), (47, (3, 0, 0, 48, [])), (48, (51, 8, 3, 51, [])), (51, (0, 0, 2, 52, [])), (52, (3, 0, 0, 53, [])), (53, (50, 7, 3, 56, [])), (56, (13, 0, 0, 57, [])), (57, (0, 0, 1, 58, [])), (58, (11, 0, 0, 59, [])), (59, (1, 2, 0, 60, [])), (60, (56, 0, 0, 61, [])), (61, (3, 0, 0, 62, [])), (62, (9, 0, 0, 63, [])), (63, (50, 7, 3, 66, [])), (66, (0, 0, 1, 67, [])), (67, (11, 0, 0, 68, [])), (68, (52, 7, 3, 71, [])), (71, (3, 0, 0, 72, [])), (72, (50, 7, 3, 75, [])), (75, (70, 0, 0, 76, []))]
/-- M_forget -/
def tb137 : List (Nat × Ent) := [(0, (3, 0, 0, 1, [])), (1, (50, 7, 3, 4, [])), (4, (2, 1, 0, 5, [])), (5, (3, 0, 0, 6, [])), (6, (0, 0, 0, 7, [])), (7, (52, 7, 3, 10, [])), (10, (1, 1, 0, 11, [])), (11, (70, 0, 0, 12, []))]
/-- M_what -/
def tb138 : List (Nat × Ent) := [(0, (3, 0, 0, 1, [])), (1, (82, 123, 0, 4, [])), (4, (31, 10, 0, 7, [])), (7, (0, 0, -5, 9, [])), (9, (70, 0, 0, 10, [])), (10, (0, 0, 0, 11, [])), (11, (2, 2, 0, 12, [])), (12, (0, 0, 0, 13, [])), (13, (2, 3, 0, 14, [])), (14, (1, 3, 0, 15, [])), (15, (0, 0, 10, 17, [])), (17, (3, 0, 0, 18, [])), (18, (82, 95, 0, 21, [])), (21, (13, 0, 0, 22, [])), (22, (39, 56, 0, 25, [])), (25, (3, 0, 0, 26, [])), (26, (1, 3, 0, 27, [])), (27, (0, 0, 10, 29, [])), (29, (14, 0, 0, 30, [])), (30, (1, 3, 0, 31, [])), (31, (0, 0, 10, 33, [])), (33, (15, 0, 0, 34, [])), (34, (82, 139, 2, 37, [])), (37, (30, 50, 0, 40, [])), (40, (1, 2, 0, 41, [])), (41, (1, 1, 0, 42, [])), (42, (37, 47, 0, 45, [])), (45, (1, 3, 0, 46, [])), (46, (70, 0, 0, 47, [])), (47, (8, 2, 1, 50, [])), (50, (8, 3, 1, 53, [])), (53, (44, 14, 0, 56, [])), (56, (1, 1, 0, 57, [])), (57, (0, 0, -1, 58, [])), (58, (37, 65, 0, 61, [])), (61, (1, 2, 0, 62, [])), (62, (44, 67, 0, 65, [])), (65, (0, 0, -6, 67, [])), (67, (70, 0, 0, 68, []))]
/-- M_wasCut -/
def tb139 : List (Nat × Ent) := [(0, (1, 2, 0, 1, [])), (1, (3, 0, 0, 2, [])), (2, (51, 2, 3, 5, [])), (5, (1, 1, 0, 6, [])), (6, (55, 0, 0, 7, [])), (7, (38, 12, 0, 10, [])), (10, (0, 0, 0, 11, [])), (11, (71, 0, 0, 12, [])), (12, (3, 0, 0, 13, [])), (13, (82, 107, 0, 16, [])), (16, (3, 0, 0, 17, [])), (17, (51, 11, 3, 20, [])), (20, (1, 1, 0, 21, [])), (21, (1, 2, 0, 22, [])), (22, (56, 0, 0, 23, [])), (23, (3, 0, 0, 24, [])), (24, (82, 124, 0, 27, [])), (27, (0, 0, 1, 28, [])), (28, (2, 3, 0, 29, [])), (29, (0, 0, 0, 30, [])), (30, (2, 4, 0, 32, [])), (32, (1, 4, 0, 34, [])), (34, (3, 0, 0, 35, [])), (35, (50, 7, 3, 38, [])), (38, (39, 85, 0, 41, [])), (41, (1, 3, 0, 42, [])), (42, (30, 77, 0, 45, [])), (45, (3, 0, 0, 46, [])), (46, (51, 11, 3, 49, [])), (49, (3, 0, 0, 50, [])), (50, (51, 8, 3, 53, [])), (53, (0, 0, 2, 54, [])), (54, (1, 4, 0, 56, [])), (56, (13, 0, 0, 57, [])), (57, (55, 0, 0, 58, [])), (58, (55, 0, 0, 59, [])), (59, (3, 0, 0, 60, [])), (60, (51, 8, 3, 63, [])), (63, (0, 0, 2, 64, [])), (64, (1, 4, 0, 66, [])), (66, (13, 0, 0, 67, [])), (67, (0, 0, 1, 68, [])), (68, (11, 0, 0, 69, [])), (69, (55, 0, 0, 70, [])), (70, (37, 77, 0, 73, [])), (73, (0, 0, 1, 74, [])), (74, (44, 78, 0, 77, [])), (77, (0, 0, 0, 78, [])), (78, (2, 3, 0, 79, [])), (79, (8, 4, 1, 82, [])), (82, (44, 32, 0, 85, [])), (85, (1, 3, 0, 86, [])), (86, (71, 0, 0, 87, []))]
/-- M_where -/
def tb140 : List (Nat × Ent) := [(0, (3, 0, 0, 1, [])), (1, (82, 123, 0, 4, [])), (4, (31, 10, 0, 7, [])), (7, (0, 0, -5, 9, [])), (9, (70, 0, 0, 10, [])), (10, (0, 0, 0, 11, [])), (11, (2, 1, 0, 12, [])), (12, (0, 0, 0, 13, [])), (13, (2, 2, 0, 14, [])), (14, (1, 2, 0, 15, [])), (15, (0, 0, 10, 17, [])), (17, (3, 0, 0, 18, [])), (18, (82, 95, 0, 21, [])), (21, (13, 0, 0, 22, [])), (22, (39, 59, 0, 25, [])), (25, (1, 1, 0, 26, [])), (26, (3, 0, 0, 27, [])), (27, (1, 2, 0, 28, [])), (28, (0, 0, 10, 30, [])), (30, (14, 0, 0, 31, [])), (31, (1, 2, 0, 32, [])), (32, (0, 0, 10, 34, [])), (34, (15, 0, 0, 35, [])), (35, (82, 139, 2, 38, [])), (38, (30, 50, 0, 41, [])), (41, (0, 0, 1, 42, [])), (42, (1, 2, 0, 43, [])), (43, (0, 0, 10, 45, [])), (45, (14, 0, 0, 46, [])), (46, (17, 0, 0, 47, [])), (47, (44, 51, 0, 50, [])), (50, (0, 0, 0, 51, [])), (51, (21, 0, 0, 52, [])), (52, (2, 1, 0, 53, [])), (53, (8, 2, 1, 56, [])), (56, (44, 14, 0, 59, [])), (59, (1, 1, 0, 60, [])), (60, (70, 0, 0, 61, []))]
/-- M_chance -/
def tb141 : List (Nat × Ent) := [(0, (3, 0, 0, 1, [])), (1, (1, 1, 0, 2, [])), (2, (82, 117, 1, 5, [])), (5, (31, 12, 0, 8, [])), (8, (7, 0, -1000000000000000001, 11, [])), (11, (72, 0, 0, 12, [])), (12, (1, 2, 0, 13, [])), (13, (0, 0, 0, 14, [])), (14, (0, 0, 10, 16, [])), (16, (80, 92, 3, 19, [])), (19, (30, 42, 0, 22, [])), (22, (1, 3, 0, 23, [])), (23, (0, 0, 0, 24, [])), (24, (0, 0, 8, 26, [])), (26, (80, 92, 3, 29, [])), (29, (30, 42, 0, 32, [])), (32, (1, 4, 0, 34, [])), (34, (0, 0, 0, 35, [])), (35, (0, 0, 1, 36, [])), (36, (80, 92, 3, 39, [])), (39, (31, 46, 0, 42, [])), (42, (7, 0, -1000000000000000002, 45, [])), (45, (72, 0, 0, 46, [])), (46, (7, 0, 0, 47, [])), (47, (6, 5, 0, 49, [])), (49, (7, 0, 1, 50, [])), (50, (6, 7, 0, 52, [])), (52, (0, 0, 0, 53, [])), (53, (2, 9, 0, 55, [])), (55, (1, 9, 0, 57, [])), (57, (1, 3, 0, 58, [])), (58, (39, 75, 0, 61, [])), (61, (5, 7, 0, 63, [])), (63, (7, 0, 10, 66, [])), (66, (24, 0, 0, 67, [])), (67, (6, 7, 0, 69, [])), (69, (8, 9, 1, 72, [])), (72, (44, 55, 0, 75, [])), (75, (0, 0, 0, 76, [])), (76, (2, 9, 0, 78, [])), (78, (1, 9, 0, 80, [])), (80, (0, 0, 1, 81, [])), (81, (1, 3, 0, 82, [])), (82, (17, 0, 0, 83, [])), (83, (39, 177, 0, 86, [])), (86, (7, 0, 1, 87, [])), (87, (6, 10, 0, 89, [])), (89, (3, 0, 0, 90, [])), (90, (82, 107, 0, 93, [])), (93, (0, 0, 0, 94, [])), (94, (2, 12, 0, 96, [])), (96, (1, 12, 0, 98, [])), (98, (1, 3, 0, 99, [])), (99, (39, 152, 0, 102, [])), (102, (5, 10, 0, 104, [])), (104, (1, 9, 0, 106, [])), (106, (1, 12, 0, 108, [])), (108, (80, 109, 2, 111, [])), (111, (30, 119, 0, 114, [])), (114, (1, 2, 0, 115, [])), (115, (28, 0, 0, 116, [])), (116, (44, 124, 0, 119, [])), (119, (0, 0, 10, 121, [])), (121, (1, 2, 0, 122, [])), (122, (12, 0, 0, 123, [])), (123, (28, 0, 0, 124, [])), (124, (24, 0, 0, 125, [])), (125, (6, 10, 0, 127, [])), (127, (3, 0, 0, 128, [])), (128, (1, 9, 0, 130, [])), (130, (1, 12, 0, 132, [])), (132, (80, 109, 2, 135, [])), (135, (30, 142, 0, 138, [])), (138, (0, 0, 2, 139, [])), (139, (44, 143, 0, 142, [])), (142, (0, 0, 0, 143, [])), (143, (82, 108, 1, 146, [])), (146, (8, 12, 1, 149, [])), (149, (44, 96, 0, 152, [])), (152, (5, 5, 0, 154, [])), (154, (3, 0, 0, 155, [])), (155, (1, 1, 0, 156, [])), (156, (82, 111, 1, 159, [])), (159, (30, 167, 0, 162, [])), (162, (5, 10, 0, 164, [])), (164, (44, 168, 0, 167, [])), (167, (7, 0, 0, 168, [])), (168, (23, 0, 0, 169, [])), (169, (6, 5, 0, 171, [])), (171, (8, 9, 1, 174, [])), (174, (44, 78, 0, 177, [])), (177, (5, 5, 0, 179, [])), (179, (6, 9, 0, 181, [])), (181, (5, 7, 0, 183, [])), (183, (6, 11, 0, 185, [])), (185, (5, 11, 0, 187, [])), (187, (7, 0, 0, 188, [])), (188, (27, 0, 0, 189, [])), (189, (30, 210, 0, 192, [])), (192, (5, 9, 0, 194, [])), (194, (5, 11, 0, 196, [])), (196, (26, 0, 0, 197, [])), (197, (6, 13, 0, 199, [])), (199, (5, 11, 0, 201, [])), (201, (6, 9, 0, 203, [])), (203, (5, 13, 0, 205, [])), (205, (6, 11, 0, 207, [])), (207, (44, 185, 0, 210, [])), (210, (1, 4, 0, 212, [])), (212, (31, 223, 0, 215, [])), (215, (5, 5, 0, 217, [])), (217, (5, 9, 0, 219, [])), (219, (25, 0, 0, 220, [])), (220, (44, 228, 0, 223, [])), (223, (5, 7, 0, 225, [])), (225, (5, 9, 0, 227, [])), (227, (25, 0, 0, 228, [])), (228, (72, 0, 0, 229, []))]
/-- M_year -/
def tb142 : List (Nat × Ent) := [(0, (1, 1, 0, 1, [])), (1, (0, 0, 0, 2, [])), (2, (0, 0, 9999, 5, [])), (5, (80, 92, 3, 8, [])), (8, (30, 30, 0, 11, [])), (11, (1, 2, 0, 12, [])), (12, (0, 0, 1, 13, [])), (13, (0, 0, 99, 15, [])), (15, (80, 92, 3, 18, [])), (18, (30, 30, 0, 21, [])), (21, (1, 3, 0, 22, [])), (22, (0, 0, 0, 23, [])), (23, (0, 0, 2, 24, [])), (24, (80, 92, 3, 27, [])), (27, (31, 33, 0, 30, [])), (30, (0, 0, -2, 32, [])), (32, (70, 0, 0, 33, [])), (33, (3, 0, 0, 34, [])), (34, (82, 107, 0, 37, [])), (37, (1, 1, 0, 38, [])), (38, (2, 4, 0, 40, [])), (40, (0, 0, 0, 41, [])), (41, (2, 5, 0, 43, [])), (43, (0, 0, 0, 44, [])), (44, (2, 6, 0, 46, [])), (46, (0, 0, 0, 47, [])), (47, (2, 7, 0, 49, [])), (49, (1, 7, 0, 51, [])), (51, (1, 2, 0, 52, [])), (52, (39, 160, 0, 55, [])), (55, (0, 0, 75, 57, [])), (57, (1, 4, 0, 59, [])), (59, (13, 0, 0, 60, [])), (60, (0, 0, 74, 62, [])), (62, (11, 0, 0, 63, [])), (63, (0, 0, 65537, 65, [])), (65, (15, 0, 0, 66, [])), (66, (2, 4, 0, 68, [])), (68, (1, 4, 0, 70, [])), (70, (0, 0, 8, 72, [])), (72, (15, 0, 0, 73, [])), (73, (2, 8, 0, 75, [])), (75, (3, 0, 0, 76, [])), (76, (1, 8, 0, 78, [])), (78, (0, 0, 5, 79, [])), (79, (39, 89, 0, 82, [])), (82, (1, 8, 0, 84, [])), (84, (0, 0, 1, 85, [])), (85, (11, 0, 0, 86, [])), (86, (44, 90, 0, 89, [])), (89, (0, 0, 0, 90, [])), (90, (82, 108, 1, 93, [])), (93, (1, 5, 0, 95, [])), (95, (3, 0, 0, 96, [])), (96, (82, 143, 0, 99, [])), (99, (30, 106, 0, 102, [])), (102, (0, 0, 0, 103, [])), (103, (44, 107, 0, 106, [])), (106, (0, 0, 1, 107, [])), (107, (11, 0, 0, 108, [])), (108, (2, 5, 0, 110, [])), (110, (0, 0, 0, 111, [])), (111, (2, 9, 0, 113, [])), (113, (1, 9, 0, 115, [])), (115, (3, 0, 0, 116, [])), (116, (82, 95, 0, 119, [])), (119, (39, 154, 0, 122, [])), (122, (3, 0, 0, 123, [])), (123, (51, 11, 3, 126, [])), (126, (1, 9, 0, 128, [])), (128, (55, 0, 0, 129, [])), (129, (1, 6, 0, 131, [])), (131, (41, 144, 0, 134, [])), (134, (3, 0, 0, 135, [])), (135, (51, 11, 3, 138, [])), (138, (1, 9, 0, 140, [])), (140, (55, 0, 0, 141, [])), (141, (44, 146, 0, 144, [])), (144, (1, 6, 0, 146, [])), (146, (2, 6, 0, 148, [])), (148, (8, 9, 1, 151, [])), (151, (44, 113, 0, 154, [])), (154, (8, 7, 1, 157, [])), (157, (44, 49, 0, 160, [])), (160, (1, 3, 0, 161, [])), (161, (31, 171, 0, 164, [])), (164, (3, 0, 0, 165, [])), (165, (82, 144, 0, 168, [])), (168, (44, 183, 0, 171, [])), (171, (1, 3, 0, 172, [])), (172, (0, 0, 1, 173, [])), (173, (37, 181, 0, 176, [])), (176, (1, 5, 0, 178, [])), (178, (44, 183, 0, 181, [])), (181, (1, 6, 0, 183, [])), (183, (70, 0, 0, 184, []))]
/-- M_allStand -/
def tb143 : List (Nat × Ent) := [(0, (0, 0, 1, 1, [])), (1, (2, 1, 0, 2, [])), (2, (0, 0, 0, 3, [])), (3, (2, 2, 0, 4, [])), (4, (1, 2, 0, 5, [])), (5, (0, 0, 4, 6, [])), (6, (39, 33, 0, 9, [])), (9, (1, 1, 0, 10, [])), (10, (30, 25, 0, 13, [])), (13, (3, 0, 0, 14, [])), (14, (1, 2, 0, 15, [])), (15, (82, 111, 1, 18, [])), (18, (30, 25, 0, 21, [])), (21, (0, 0, 1, 22, [])), (22, (44, 26, 0, 25, [])), (25, (0, 0, 0, 26, [])), (26, (2, 1, 0, 27, [])), (27, (8, 2, 1, 30, [])), (30, (44, 4, 0, 33, [])), (33, (1, 1, 0, 34, [])), (34, (71, 0, 0, 35, []))]
/-- M_sumNow -/
def tb144 : List (Nat × Ent) := [(0, (0, 0, 0, 1, [])), (1, (2, 1, 0, 2, [])), (2, (0, 0, 0, 3, [])), (3, (2, 2, 0, 4, [])), (4, (1, 2, 0, 5, [])), (5, (3, 0, 0, 6, [])), (6, (82, 95, 0, 9, [])), (9, (39, 27, 0, 12, [])), (12, (1, 1, 0, 13, [])), (13, (3, 0, 0, 14, [])), (14, (51, 11, 3, 17, [])), (17, (1, 2, 0, 18, [])), (18, (55, 0, 0, 19, [])), (19, (11, 0, 0, 20, [])), (20, (2, 1, 0, 21, [])), (21, (8, 2, 1, 24, [])), (24, (44, 4, 0, 27, [])), (27, (1, 1, 0, 28, [])), (28, (70, 0, 0, 29, []))]
/-- M_image -/
def tb145 : List (Nat × Ent) := [(0, (1, 1, 0, 1, [])), (1, (0, 0, 0, 2, [])), (2, (0, 0, 1, 3, [])), (3, (80, 92, 3, 6, [])), (6, (31, 12, 0, 9, [])), (9, (0, 0, -2, 11, [])), (11, (70, 0, 0, 12, [])), (12, (0, 0, 160, 15, [])), (15, (1, 1, 0, 16, [])), (16, (13, 0, 0, 17, [])), (17, (2, 2, 0, 18, [])), (18, (0, 0, 0, 19, [])), (19, (2, 3, 0, 20, [])), (20, (1, 3, 0, 21, [])), (21, (0, 0, 24, 23, [])), (23, (39, 46, 0, 26, [])), (26, (3, 0, 0, 27, [])), (27, (51, 18, 3, 30, [])), (30, (1, 2, 0, 31, [])), (31, (1, 3, 0, 32, [])), (32, (11, 0, 0, 33, [])), (33, (3, 0, 0, 34, [])), (34, (51, 2, 3, 37, [])), (37, (1, 3, 0, 38, [])), (38, (55, 0, 0, 39, [])), (39, (56, 0, 0, 40, [])), (40, (8, 3, 1, 43, [])), (43, (44, 20, 0, 46, [])), (46, (0, 0, 0, 47, [])), (47, (2, 3, 0, 48, [])), (48, (1, 3, 0, 49, [])), (49, (0, 0, 96, 51, [])), (51, (39, 77, 0, 54, [])), (54, (3, 0, 0, 55, [])), (55, (51, 18, 3, 58, [])), (58, (1, 2, 0, 59, [])), (59, (0, 0, 24, 61, [])), (61, (11, 0, 0, 62, [])), (62, (1, 3, 0, 63, [])), (63, (11, 0, 0, 64, [])), (64, (3, 0, 0, 65, [])), (65, (51, 6, 3, 68, [])), (68, (1, 3, 0, 69, [])), (69, (55, 0, 0, 70, [])), (70, (56, 0, 0, 71, [])), (71, (8, 3, 1, 74, [])), (74, (44, 48, 0, 77, [])), (77, (0, 0, 0, 78, [])), (78, (2, 3, 0, 79, [])), (79, (1, 3, 0, 80, [])), (80, (0, 0, 16, 82, [])), (82, (39, 108, 0, 85, [])), (85, (3, 0, 0, 86, [])), (86, (51, 18, 3, 89, [])), (89, (1, 2, 0, 90, [])), (90, (0, 0, 120, 92, [])), (92, (11, 0, 0, 93, [])), (93, (1, 3, 0, 94, [])), (94, (11, 0, 0, 95, [])), (95, (3, 0, 0, 96, [])), (96, (51, 8, 3, 99, [])), (99, (1, 3, 0, 100, [])), (100, (55, 0, 0, 101, [])), (101, (56, 0, 0, 102, [])), (102, (8, 3, 1, 105, [])), (105, (44, 79, 0, 108, [])), (108, (3, 0, 0, 109, [])), (109, (51, 18, 3, 112, [])), (112, (1, 2, 0, 113, [])), (113, (0, 0, 136, 116, [])), (116, (11, 0, 0, 117, [])), (117, (3, 0, 0, 118, [])), (118, (50, 0, 3, 121, [])), (121, (56, 0, 0, 122, [])), (122, (3, 0, 0, 123, [])), (123, (51, 18, 3, 126, [])), (126, (1, 2, 0, 127, [])), (127, (0, 0, 137, 130, [])), (130, (11, 0, 0, 131, [])), (131, (3, 0, 0, 132, [])), (132, (50, 1, 3, 135, [])), (135, (56, 0, 0, 136, [])), (136, (3, 0, 0, 137, [])), (137, (51, 18, 3, 140, [])), (140, (1, 2, 0, 141, [])), (141, (0, 0, 138, 144, [])), (144, (11, 0, 0, 145, [])), (145, (3, 0, 0, 146, [])), (146, (50, 3, 3, 149, [])), (149, (56, 0, 0, 150, [])), (150, (3, 0, 0, 151, [])), (151, (51, 18, 3, 154, [])), (154, (1, 2, 0, 155, [])), (155, (0, 0, 139, 158, [])), (158, (11, 0, 0, 159, [])), (159, (3, 0, 0, 160, [])), (160, (50, 4, 3, 163, [])), (163, (56, 0, 0, 164, [])), (164, (3, 0, 0, 165, [])), (165, (51, 18, 3, 168, [])), (168, (1, 2, 0, 169, [])), (169, (0, 0, 140, 172, [])), (172, (11, 0, 0, 173, [])), (173, (3, 0, 0, 174, [])), (174, (50, 5, 3, 177, [])), (177, (56, 0, 0, 178, [])), (178, (3, 0, 0, 179, [])), (179, (51, 18, 3, 182, [])), (182, (1, 2, 0, 183, [])), (183, (0, 0, 141, 186, [])), (186, (11, 0, 0, 187, [])), (187, (3, 0, 0, 188, [])), (188, (50, 7, 3, 191, [])), (191, (56, 0, 0, 192, [])), (192, (3, 0, 0, 193, [])), (193, (51, 19, 3, 196, [])), (196, (1, 1, 0, 197, [])), (197, (0, 0, 1, 198, [])), (198, (58, 0, 0, 199, [])), (199, (0, 0, 1, 200, [])), (200, (70, 0, 0, 201, []))]
/-- M_restore -/
def tb146 : List (Nat × Ent) := [(0, (1, 1, 0, 1, [])), (1, (0, 0, 0, 2, [])), (2, (0, 0, 1, 3, [])), (3, (80, 92, 3, 6, [])), (6, (31, 12, 0, 9, [])), (9, (0, 0, -2, 11, [])), (11, (70, 0, 0, 12, [])), (12, (3, 0, 0, 13, [])), (13, (51, 19, 3, 16, [])), (16, (1, 1, 0, 17, [])), (17, (57, 0, 0, 18, [])), (18, (31, 24, 0, 21, [])), (21, (0, 0, -3, 23, [])), (23, (70, 0, 0, 24, [])), (24, (0, 0, 160, 27, [])), (27, (1, 1, 0, 28, [])), (28, (13, 0, 0, 29, [])), (29, (2, 2, 0, 30, [])), (30, (0, 0, 0, 31, [])), (31, (2, 3, 0, 32, [])), (32, (1, 3, 0, 33, [])), (33, (0, 0, 24, 35, [])), (35, (39, 58, 0, 38, [])), (38, (3, 0, 0, 39, [])), (39, (51, 2, 3, 42, [])), (42, (1, 3, 0, 43, [])), (43, (3, 0, 0, 44, [])), (44, (51, 18, 3, 47, [])), (47, (1, 2, 0, 48, [])), (48, (1, 3, 0, 49, [])), (49, (11, 0, 0, 50, [])), (50, (55, 0, 0, 51, [])), (51, (56, 0, 0, 52, [])), (52, (8, 3, 1, 55, [])), (55, (44, 32, 0, 58, [])), (58, (0, 0, 0, 59, [])), (59, (2, 3, 0, 60, [])), (60, (1, 3, 0, 61, [])), (61, (0, 0, 96, 63, [])), (63, (39, 89, 0, 66, [])), (66, (3, 0, 0, 67, [])), (67, (51, 6, 3, 70, [])), (70, (1, 3, 0, 71, [])), (71, (3, 0, 0, 72, [])), (72, (51, 18, 3, 75, [])), (75, (1, 2, 0, 76, [])), (76, (0, 0, 24, 78, [])), (78, (11, 0, 0, 79, [])), (79, (1, 3, 0, 80, [])), (80, (11, 0, 0, 81, [])), (81, (55, 0, 0, 82, [])), (82, (56, 0, 0, 83, [])), (83, (8, 3, 1, 86, [])), (86, (44, 60, 0, 89, [])), (89, (0, 0, 0, 90, [])), (90, (2, 3, 0, 91, [])), (91, (1, 3, 0, 92, [])), (92, (0, 0, 16, 94, [])), (94, (39, 120, 0, 97, [])), (97, (3, 0, 0, 98, [])), (98, (51, 8, 3, 101, [])), (101, (1, 3, 0, 102, [])), (102, (3, 0, 0, 103, [])), (103, (51, 18, 3, 106, [])), (106, (1, 2, 0, 107, [])), (107, (0, 0, 120, 109, [])), (109, (11, 0, 0, 110, [])), (110, (1, 3, 0, 111, [])), (111, (11, 0, 0, 112, [])), (112, (55, 0, 0, 113, [])), (113, (56, 0, 0, 114, [])), (114, (8, 3, 1, 117, [])), (117, (44, 91, 0, 120, [])), (120, (3, 0, 0, 121, [])), (121, (3, 0, 0, 122, [])), (122, (51, 18, 3, 125, [])), (125, (1, 2, 0, 126, [])), (126, (0, 0, 136, 129, [])), (129, (11, 0, 0, 130, [])), (130, (55, 0, 0, 131, [])), (131, (52, 0, 3, 134, [])), (134, (3, 0, 0, 135, [])), (135, (3, 0, 0, 136, [])), (136, (51, 18, 3, 139, [])), (139, (1, 2, 0, 140, [])), (140, (0, 0, 137, 143, [])), (143, (11, 0, 0, 144, [])), (144, (55, 0, 0, 145, [])), (145, (52, 1, 3, 148, [])), (148, (3, 0, 0, 149, [])), (149, (3, 0, 0, 150, [])), (150, (51, 18, 3, 153, [])), (153, (1, 2, 0, 154, [])), (154, (0, 0, 138, 157, [])), (157, (11, 0, 0, 158, [])), (158, (55, 0, 0, 159, [])), (159, (52, 3, 3, 162, [])), (162, (3, 0, 0, 163, [])), (163, (3, 0, 0, 164, [])), (164, (51, 18, 3, 167, [])), (167, (1, 2, 0, 168, [])), (168, (0, 0, 139, 171, [])), (171, (11, 0, 0, 172, [])), (172, (55, 0, 0, 173, [])), (173, (52, 4, 3, 176, [])), (176, (3, 0, 0, 177, [])), (177, (3, 0, 0, 178, [])), (178, (51, 18, 3, 181, [])), (181, (1, 2, 0, 182, [])), (182, (0, 0, 140, 185, [])), (185, (11, 0, 0, 186, [])), (186, (55, 0, 0, 187, [])), (187, (52, 5, 3, 190, [])), (190, (3, 0, 0, 191, [])), (191, (3, 0, 0, 192, [])), (192, (51, 18, 3, 195, [])), (195, (1, 2, 0, 196, [])), (196, (0, 0, 141, 199, [])), (199, (11, 0, 0, 200, [])), (200, (55, 0, 0, 201, [])), (201, (52, 7, 3, 204, [])), (204, (0, 0, 1, 205, [])), (205, (70, 0, 0, 206, []))]
/-- M_told -/
def tb147 : List (Nat × Ent) := [(0, (1, 1, 0, 1, [])), (1, (0, 0, 100, 3, [])), (3, (38, 53, 0, 6, [])), (6, (1, 1, 0, 7, [])), (7, (0, 0, 100, 9, [])), (9, (14, 0, 0, 10, [])), (10, (0, 0, 1, 11, [])), (11, (12, 0, 0, 12, [])), (12, (2, 2, 0, 13, [])), (13, (1, 2, 0, 14, [])), (14, (0, 0, 0, 15, [])), (15, (0, 0, 3, 16, [])), (16, (80, 92, 3, 19, [])), (19, (30, 50, 0, 22, [])), (22, (3, 0, 0, 23, [])), (23, (1, 1, 0, 24, [])), (24, (0, 0, 100, 26, [])), (26, (15, 0, 0, 27, [])), (27, (82, 94, 1, 30, [])), (30, (30, 50, 0, 33, [])), (33, (3, 0, 0, 34, [])), (34, (51, 6, 3, 37, [])), (37, (0, 0, 24, 39, [])), (39, (1, 2, 0, 40, [])), (40, (13, 0, 0, 41, [])), (41, (1, 1, 0, 42, [])), (42, (0, 0, 100, 44, [])), (44, (15, 0, 0, 45, [])), (45, (11, 0, 0, 46, [])), (46, (55, 0, 0, 47, [])), (47, (44, 52, 0, 50, [])), (50, (0, 0, -2, 52, [])), (52, (70, 0, 0, 53, [])), (53, (1, 1, 0, 54, [])), (54, (45, 131, 0, 96, [(0, 96), (1, 101), (2, 106), (3, 111), (4, 116), (5, 121), (6, 126)])), (96, (3, 0, 0, 97, [])), (97, (50, 9, 3, 100, [])), (100, (70, 0, 0, 101, [])), (101, (3, 0, 0, 102, [])), (102, (50, 0, 3, 105, [])), (105, (70, 0, 0, 106, [])), (106, (3, 0, 0, 107, [])), (107, (50, 1, 3, 110, [])), (110, (70, 0, 0, 111, [])), (111, (3, 0, 0, 112, [])), (112, (50, 4, 3, 115, [])), (115, (70, 0, 0, 116, [])), (116, (3, 0, 0, 117, [])), (117, (50, 5, 3, 120, [])), (120, (70, 0, 0, 121, [])), (121, (3, 0, 0, 122, [])), (122, (50, 3, 3, 125, [])), (125, (70, 0, 0, 126, [])), (126, (3, 0, 0, 127, [])), (127, (50, 7, 3, 130, [])), (130, (70, 0, 0, 131, [])), (131, (3, 0, 0, 132, [])), (132, (82, 107, 0, 135, [])), (135, (1, 1, 0, 136, [])), (136, (0, 0, 7, 138, [])), (138, (37, 148, 0, 141, [])), (141, (3, 0, 0, 142, [])), (142, (82, 144, 0, 145, [])), (145, (44, 150, 0, 148, [])), (148, (0, 0, -2, 150, [])), (150, (70, 0, 0, 151, []))]
/-- L_law -/
def tb148 : List (Nat × Ent) := [(0, (64, 2, 0, 3, [])), (3, (9, 0, 0, 4, [])), (4, (83, 0, 0, 7, [])), (7, (4, 1, 0, 8, [])), (8, (64, 3, 0, 11, [])), (11, (9, 0, 0, 12, [])), (12, (83, 89, 0, 15, [])), (15, (4, 2, 0, 16, [])), (16, (0, 0, 0, 17, [])), (17, (2, 3, 0, 18, [])), (18, (1, 3, 0, 19, [])), (19, (3, 0, 0, 20, [])), (20, (66, 0, 0, 21, [])), (21, (0, 0, 5, 22, [])), (22, (12, 0, 0, 23, [])), (23, (40, 1022, 0, 26, [])), (26, (3, 0, 0, 27, [])), (27, (1, 3, 0, 28, [])), (28, (65, 0, 0, 29, [])), (29, (0, 0, 31, 31, [])), (31, (20, 0, 0, 32, [])), (32, (45, 1016, 0, 172, [(0, 172), (1, 205), (2, 248), (3, 281), (4, 324), (5, 347), (6, 360), (7, 373), (8, 396), (9, 409), (10, 442), (11, 475), (12, 498), (13, 521), (14, 534), (15, 557), (16, 590), (17, 623), (18, 656), (19, 679), (20, 722), (21, 745), (22, 768), (23, 801), (24, 814), (25, 837), (26, 850), (27, 904), (28, 947), (29, 970), (30, 993)])), (172, (3, 1, 0, 173, [])), (173, (3, 0, 0, 174, [])), (174, (1, 3, 0, 175, [])), (175, (0, 0, 1, 176, [])), (176, (11, 0, 0, 177, [])), (177, (65, 0, 0, 178, [])), (178, (3, 0, 0, 179, [])), (179, (1, 3, 0, 180, [])), (180, (0, 0, 2, 181, [])), (181, (11, 0, 0, 182, [])), (182, (65, 0, 0, 183, [])), (183, (82, 5, 2, 186, [])), (186, (3, 2, 0, 187, [])), (187, (3, 0, 0, 188, [])), (188, (1, 3, 0, 189, [])), (189, (0, 0, 1, 190, [])), (190, (11, 0, 0, 191, [])), (191, (65, 0, 0, 192, [])), (192, (3, 0, 0, 193, [])), (193, (1, 3, 0, 194, [])), (194, (0, 0, 2, 195, [])), (195, (11, 0, 0, 196, [])), (196, (65, 0, 0, 197, [])), (197, (82, 91, 2, 200, [])), (200, (36, 1016, 0, 203, [])), (203, (0, 0, 0, 204, [])), (204, (71, 0, 0, 205, [])), (205, (3, 1, 0, 206, [])), (206, (3, 0, 0, 207, [])), (207, (1, 3, 0, 208, [])), (208, (0, 0, 1, 209, [])), (209, (11, 0, 0, 210, [])), (210, (65, 0, 0, 211, [])), (211, (3, 0, 0, 212, [])), (212, (1, 3, 0, 213, [])), (213, (0, 0, 2, 214, [])), (214, (11, 0, 0, 215, [])), (215, (65, 0, 0, 216, [])), (216, (3, 0, 0, 217, [])), (217, (1, 3, 0, 218, [])), (218, (0, 0, 3, 219, [])), (219, (11, 0, 0, 220, [])), (220, (65, 0, 0, 221, [])), (221, (82, 7, 3, 224, [])), (224, (3, 2, 0, 225, [])), (225, (3, 0, 0, 226, [])), (226, (1, 3, 0, 227, [])), (227, (0, 0, 1, 228, [])), (228, (11, 0, 0, 229, [])), (229, (65, 0, 0, 230, [])), (230, (3, 0, 0, 231, [])), (231, (1, 3, 0, 232, [])), (232, (0, 0, 2, 233, [])), (233, (11, 0, 0, 234, [])), (234, (65, 0, 0, 235, [])), (235, (3, 0, 0, 236, [])), (236, (1, 3, 0, 237, [])), (237, (0, 0, 3, 238, [])), (238, (11, 0, 0, 239, [])), (239, (65, 0, 0, 240, [])), (240, (82, 93, 3, 243, [])), (243, (36, 1016, 0, 246, [])), (246, (0, 0, 0, 247, [])), (247, (71, 0, 0, 248, [])), (248, (3, 1, 0, 249, [])), (249, (3, 0, 0, 250, [])), (250, (1, 3, 0, 251, [])), (251, (0, 0, 1, 252, [])), (252, (11, 0, 0, 253, [])), (253, (65, 0, 0, 254, [])), (254, (3, 0, 0, 255, [])), (255, (1, 3, 0, 256, [])), (256, (0, 0, 2, 257, [])), (257, (11, 0, 0, 258, [])), (258, (65, 0, 0, 259, [])), (259, (82, 15, 2, 262, [])), (262, (3, 2, 0, 263, [])), (263, (3, 0, 0, 264, [])), (264, (1, 3, 0, 265, [])), (265, (0, 0, 1, 266, [])), (266, (11, 0, 0, 267, [])), (267, (65, 0, 0, 268, [])), (268, (3, 0, 0, 269, [])), (269, (1, 3, 0, 270, [])), (270, (0, 0, 2, 271, [])), (271, (11, 0, 0, 272, [])), (272, (65, 0, 0, 273, [])), (273, (82, 96, 2, 276, [])), (276, (36, 1016, 0, 279, [])), (279, (0, 0, 0, 280, [])), (280, (71, 0, 0, 281, [])), (281, (3, 1, 0, 282, [])), (282, (3, 0, 0, 283, [])), (283, (1, 3, 0, 284, [])), (284, (0, 0, 1, 285, [])), (285, (11, 0, 0, 286, [])), (286, (65, 0, 0, 287, [])), (287, (3, 0, 0, 288, [])), (288, (1, 3, 0, 289, [])), (289, (0, 0, 2, 290, [])), (290, (11, 0, 0, 291, [])), (291, (65, 0, 0, 292, [])), (292, (3, 0, 0, 293, [])), (293, (1, 3, 0, 294, [])), (294, (0, 0, 3, 295, [])), (295, (11, 0, 0, 296, [])), (296, (65, 0, 0, 297, [])), (297, (82, 16, 3, 300, [])), (300, (3, 2, 0, 301, [])), (301, (3, 0, 0, 302, [])), (302, (1, 3, 0, 303, [])), (303, (0, 0, 1, 304, [])), (304, (11, 0, 0, 305, [])), (305, (65, 0, 0, 306, [])), (306, (3, 0, 0, 307, [])), (307, (1, 3, 0, 308, [])), (308, (0, 0, 2, 309, [])), (309, (11, 0, 0, 310, [])), (310, (65, 0, 0, 311, [])), (311, (3, 0, 0, 312, [])), (312, (1, 3, 0, 313, [])), (313, (0, 0, 3, 314, [])), (314, (11, 0, 0, 315, [])), (315, (65, 0, 0, 316, [])), (316, (82, 97, 3, 319, [])), (319, (36, 1016, 0, 322, [])), (322, (0, 0, 0, 323, [])), (323, (71, 0, 0, 324, [])), (324, (3, 1, 0, 325, [])), (325, (3, 0, 0, 326, [])), (326, (1, 3, 0, 327, [])), (327, (0, 0, 1, 328, [])), (328, (11, 0, 0, 329, [])), (329, (65, 0, 0, 330, [])), (330, (82, 19, 1, 333, [])), (333, (3, 2, 0, 334, [])), (334, (3, 0, 0, 335, [])), (335, (1, 3, 0, 336, [])), (336, (0, 0, 1, 337, [])), (337, (11, 0, 0, 338, [])), (338, (65, 0, 0, 339, [])), (339, (82, 100, 1, 342, [])), (342, (36, 1016, 0, 345, [])), (345, (0, 0, 0, 346, [])), (346, (71, 0, 0, 347, [])), (347, (3, 1, 0, 348, [])), (348, (82, 20, 0, 351, [])), (351, (3, 2, 0, 352, [])), (352, (82, 101, 0, 355, [])), (355, (36, 1016, 0, 358, [])), (358, (0, 0, 0, 359, [])), (359, (71, 0, 0, 360, [])), (360, (3, 1, 0, 361, [])), (361, (82, 21, 0, 364, [])), (364, (3, 2, 0, 365, [])), (365, (82, 102, 0, 368, [])), (368, (36, 1016, 0, 371, [])), (371, (0, 0, 0, 372, [])), (372, (71, 0, 0, 373, [])), (373, (3, 1, 0, 374, [])), (374, (3, 0, 0, 375, [])), (375, (1, 3, 0, 376, [])), (376, (0, 0, 1, 377, [])), (377, (11, 0, 0, 378, [])), (378, (65, 0, 0, 379, [])), (379, (82, 25, 1, 382, [])), (382, (3, 2, 0, 383, [])), (383, (3, 0, 0, 384, [])), (384, (1, 3, 0, 385, [])), (385, (0, 0, 1, 386, [])), (386, (11, 0, 0, 387, [])), (387, (65, 0, 0, 388, [])), (388, (82, 105, 1, 391, [])), (391, (36, 1016, 0, 394, [])), (394, (0, 0, 0, 395, [])), (395, (71, 0, 0, 396, [])), (396, (3, 1, 0, 397, [])), (397, (82, 38, 0, 400, [])), (400, (3, 2, 0, 401, [])), (401, (82, 112, 0, 404, [])), (404, (36, 1016, 0, 407, [])), (407, (0, 0, 0, 408, [])), (408, (71, 0, 0, 409, [])), (409, (3, 1, 0, 410, [])), (410, (3, 0, 0, 411, [])), (411, (1, 3, 0, 412, [])), (412, (0, 0, 1, 413, [])), (413, (11, 0, 0, 414, [])), (414, (65, 0, 0, 415, [])), (415, (3, 0, 0, 416, [])), (416, (1, 3, 0, 417, [])), (417, (0, 0, 2, 418, [])), (418, (11, 0, 0, 419, [])), (419, (65, 0, 0, 420, [])), (420, (82, 40, 2, 423, [])), (423, (3, 2, 0, 424, [])), (424, (3, 0, 0, 425, [])), (425, (1, 3, 0, 426, [])), (426, (0, 0, 1, 427, [])), (427, (11, 0, 0, 428, [])), (428, (65, 0, 0, 429, [])), (429, (3, 0, 0, 430, [])), (430, (1, 3, 0, 431, [])), (431, (0, 0, 2, 432, [])), (432, (11, 0, 0, 433, [])), (433, (65, 0, 0, 434, [])), (434, (82, 114, 2, 437, [])), (437, (36, 1016, 0, 440, [])), (440, (0, 0, 0, 441, [])), (441, (71, 0, 0, 442, [])), (442, (3, 1, 0, 443, [])), (443, (3, 0, 0, 444, [])), (444, (1, 3, 0, 445, [])), (445, (0, 0, 1, 446, [])), (446, (11, 0, 0, 447, [])), (447, (65, 0, 0, 448, [])), (448, (3, 0, 0, 449, [])), (449, (1, 3, 0, 450, [])), (450, (0, 0, 2, 451, [])), (451, (11, 0, 0, 452, [])), (452, (65, 0, 0, 453, [])), (453, (82, 41, 2, 456, [])), (456, (3, 2, 0, 457, [])), (457, (3, 0, 0, 458, [])), (458, (1, 3, 0, 459, [])), (459, (0, 0, 1, 460, [])), (460, (11, 0, 0, 461, [])), (461, (65, 0, 0, 462, [])), (462, (3, 0, 0, 463, [])), (463, (1, 3, 0, 464, [])), (464, (0, 0, 2, 465, [])), (465, (11, 0, 0, 466, [])), (466, (65, 0, 0, 467, [])), (467, (82, 115, 2, 470, [])), (470, (36, 1016, 0, 473, [])), (473, (0, 0, 0, 474, [])), (474, (71, 0, 0, 475, [])), (475, (3, 1, 0, 476, [])), (476, (3, 0, 0, 477, [])), (477, (1, 3, 0, 478, [])), (478, (0, 0, 1, 479, [])), (479, (11, 0, 0, 480, [])), (480, (65, 0, 0, 481, [])), (481, (82, 42, 1, 484, [])), (484, (3, 2, 0, 485, [])), (485, (3, 0, 0, 486, [])), (486, (1, 3, 0, 487, [])), (487, (0, 0, 1, 488, [])), (488, (11, 0, 0, 489, [])), (489, (65, 0, 0, 490, [])), (490, (82, 116, 1, 493, [])), (493, (36, 1016, 0, 496, [])), (496, (0, 0, 0, 497, [])), (497, (71, 0, 0, 498, [])), (498, (3, 1, 0, 499, [])), (499, (3, 0, 0, 500, [])), (500, (1, 3, 0, 501, [])), (501, (0, 0, 1, 502, [])), (502, (11, 0, 0, 503, [])), (503, (65, 0, 0, 504, [])), (504, (82, 44, 1, 507, [])), (507, (3, 2, 0, 508, [])), (508, (3, 0, 0, 509, [])), (509, (1, 3, 0, 510, [])), (510, (0, 0, 1, 511, [])), (511, (11, 0, 0, 512, [])), (512, (65, 0, 0, 513, [])), (513, (82, 118, 1, 516, [])), (516, (36, 1016, 0, 519, [])), (519, (0, 0, 0, 520, [])), (520, (71, 0, 0, 521, [])), (521, (3, 1, 0, 522, [])), (522, (82, 45, 0, 525, [])), (525, (3, 2, 0, 526, [])), (526, (82, 119, 0, 529, [])), (529, (36, 1016, 0, 532, [])), (532, (0, 0, 0, 533, [])), (533, (71, 0, 0, 534, [])), (534, (3, 1, 0, 535, [])), (535, (3, 0, 0, 536, [])), (536, (1, 3, 0, 537, [])), (537, (0, 0, 1, 538, [])), (538, (11, 0, 0, 539, [])), (539, (65, 0, 0, 540, [])), (540, (82, 46, 1, 543, [])), (543, (3, 2, 0, 544, [])), (544, (3, 0, 0, 545, [])), (545, (1, 3, 0, 546, [])), (546, (0, 0, 1, 547, [])), (547, (11, 0, 0, 548, [])), (548, (65, 0, 0, 549, [])), (549, (82, 120, 1, 552, [])), (552, (36, 1016, 0, 555, [])), (555, (0, 0, 0, 556, [])), (556, (71, 0, 0, 557, [])), (557, (3, 1, 0, 558, [])), (558, (3, 0, 0, 559, [])), (559, (1, 3, 0, 560, [])), (560, (0, 0, 1, 561, [])), (561, (11, 0, 0, 562, [])), (562, (65, 0, 0, 563, [])), (563, (3, 0, 0, 564, [])), (564, (1, 3, 0, 565, [])), (565, (0, 0, 2, 566, [])), (566, (11, 0, 0, 567, [])), (567, (65, 0, 0, 568, [])), (568, (82, 47, 2, 571, [])), (571, (3, 2, 0, 572, [])), (572, (3, 0, 0, 573, [])), (573, (1, 3, 0, 574, [])), (574, (0, 0, 1, 575, [])), (575, (11, 0, 0, 576, [])), (576, (65, 0, 0, 577, [])), (577, (3, 0, 0, 578, [])), (578, (1, 3, 0, 579, [])), (579, (0, 0, 2, 580, [])), (580, (11, 0, 0, 581, [])), (581, (65, 0, 0, 582, [])), (582, (82, 122, 2, 585, [])), (585, (36, 1016, 0, 588, [])), (588, (0, 0, 0, 589, [])), (589, (71, 0, 0, 590, [])), (590, (3, 1, 0, 591, [])), (591, (3, 0, 0, 592, [])), (592, (1, 3, 0, 593, [])), (593, (0, 0, 1, 594, [])), (594, (11, 0, 0, 595, [])), (595, (65, 0, 0, 596, [])), (596, (3, 0, 0, 597, [])), (597, (1, 3, 0, 598, [])), (598, (0, 0, 2, 599, [])), (599, (11, 0, 0, 600, [])), (600, (65, 0, 0, 601, [])), (601, (82, 55, 2, 604, [])), (604, (3, 2, 0, 605, [])), (605, (3, 0, 0, 606, [])), (606, (1, 3, 0, 607, [])), (607, (0, 0, 1, 608, [])), (608, (11, 0, 0, 609, [])), (609, (65, 0, 0, 610, [])), (610, (3, 0, 0, 611, [])), (611, (1, 3, 0, 612, [])), (612, (0, 0, 2, 613, [])), (613, (11, 0, 0, 614, [])), (614, (65, 0, 0, 615, [])), (615, (82, 125, 2, 618, [])), (618, (36, 1016, 0, 621, [])), (621, (0, 0, 0, 622, [])), (622, (71, 0, 0, 623, [])), (623, (3, 1, 0, 624, [])), (624, (3, 0, 0, 625, [])), (625, (1, 3, 0, 626, [])), (626, (0, 0, 1, 627, [])), (627, (11, 0, 0, 628, [])), (628, (65, 0, 0, 629, [])), (629, (3, 0, 0, 630, [])), (630, (1, 3, 0, 631, [])), (631, (0, 0, 2, 632, [])), (632, (11, 0, 0, 633, [])), (633, (65, 0, 0, 634, [])), (634, (82, 60, 2, 637, [])), (637, (3, 2, 0, 638, [])), (638, (3, 0, 0, 639, [])), (639, (1, 3, 0, 640, [])), (640, (0, 0, 1, 641, [])), (641, (11, 0, 0, 642, [])), (642, (65, 0, 0, 643, [])), (643, (3, 0, 0, 644, [])), (644, (1, 3, 0, 645, [])), (645, (0, 0, 2, 646, [])), (646, (11, 0, 0, 647, [])), (647, (65, 0, 0, 648, [])), (648, (82, 126, 2, 651, [])), (651, (36, 1016, 0, 654, [])), (654, (0, 0, 0, 655, [])), (655, (71, 0, 0, 656, [])), (656, (3, 1, 0, 657, [])), (657, (3, 0, 0, 658, [])), (658, (1, 3, 0, 659, [])), (659, (0, 0, 1, 660, [])), (660, (11, 0, 0, 661, [])), (661, (65, 0, 0, 662, [])), (662, (82, 61, 1, 665, [])), (665, (3, 2, 0, 666, [])), (666, (3, 0, 0, 667, [])), (667, (1, 3, 0, 668, [])), (668, (0, 0, 1, 669, [])), (669, (11, 0, 0, 670, [])), (670, (65, 0, 0, 671, [])), (671, (82, 127, 1, 674, [])), (674, (36, 1016, 0, 677, [])), (677, (0, 0, 0, 678, [])), (678, (71, 0, 0, 679, [])), (679, (3, 1, 0, 680, [])), (680, (3, 0, 0, 681, [])), (681, (1, 3, 0, 682, [])), (682, (0, 0, 1, 683, [])), (683, (11, 0, 0, 684, [])), (684, (65, 0, 0, 685, [])), (685, (3, 0, 0, 686, [])), (686, (1, 3, 0, 687, [])), (687, (0, 0, 2, 688, [])), (688, (11, 0, 0, 689, [])), (689, (65, 0, 0, 690, [])), (690, (3, 0, 0, 691, [])), (691, (1, 3, 0, 692, [])), (692, (0, 0, 3, 693, [])), (693, (11, 0, 0, 694, [])), (694, (65, 0, 0, 695, [])), (695, (82, 63, 3, 698, [])), (698, (3, 2, 0, 699, [])), (699, (3, 0, 0, 700, [])), (700, (1, 3, 0, 701, [])), (701, (0, 0, 1, 702, [])), (702, (11, 0, 0, 703, [])), (703, (65, 0, 0, 704, [])), (704, (3, 0, 0, 705, [])), (705, (1, 3, 0, 706, [])), (706, (0, 0, 2, 707, [])), (707, (11, 0, 0, 708, [])), (708, (65, 0, 0, 709, [])), (709, (3, 0, 0, 710, [])), (710, (1, 3, 0, 711, [])), (711, (0, 0, 3, 712, [])), (712, (11, 0, 0, 713, [])), (713, (65, 0, 0, 714, [])), (714, (82, 129, 3, 717, [])), (717, (36, 1016, 0, 720, [])), (720, (0, 0, 0, 721, [])), (721, (71, 0, 0, 722, [])), (722, (3, 1, 0, 723, [])), (723, (3, 0, 0, 724, [])), (724, (1, 3, 0, 725, [])), (725, (0, 0, 1, 726, [])), (726, (11, 0, 0, 727, [])), (727, (65, 0, 0, 728, [])), (728, (82, 69, 1, 731, [])), (731, (3, 2, 0, 732, [])), (732, (3, 0, 0, 733, [])), (733, (1, 3, 0, 734, [])), (734, (0, 0, 1, 735, [])), (735, (11, 0, 0, 736, [])), (736, (65, 0, 0, 737, [])), (737, (82, 132, 1, 740, [])), (740, (36, 1016, 0, 743, [])), (743, (0, 0, 0, 744, [])), (744, (71, 0, 0, 745, [])), (745, (3, 1, 0, 746, [])), (746, (3, 0, 0, 747, [])), (747, (1, 3, 0, 748, [])), (748, (0, 0, 1, 749, [])), (749, (11, 0, 0, 750, [])), (750, (65, 0, 0, 751, [])), (751, (82, 72, 1, 754, [])), (754, (3, 2, 0, 755, [])), (755, (3, 0, 0, 756, [])), (756, (1, 3, 0, 757, [])), (757, (0, 0, 1, 758, [])), (758, (11, 0, 0, 759, [])), (759, (65, 0, 0, 760, [])), (760, (82, 135, 1, 763, [])), (763, (36, 1016, 0, 766, [])), (766, (0, 0, 0, 767, [])), (767, (71, 0, 0, 768, [])), (768, (3, 1, 0, 769, [])), (769, (3, 0, 0, 770, [])), (770, (1, 3, 0, 771, [])), (771, (0, 0, 1, 772, [])), (772, (11, 0, 0, 773, [])), (773, (65, 0, 0, 774, [])), (774, (3, 0, 0, 775, [])), (775, (1, 3, 0, 776, [])), (776, (0, 0, 2, 777, [])), (777, (11, 0, 0, 778, [])), (778, (65, 0, 0, 779, [])), (779, (82, 73, 2, 782, [])), (782, (3, 2, 0, 783, [])), (783, (3, 0, 0, 784, [])), (784, (1, 3, 0, 785, [])), (785, (0, 0, 1, 786, [])), (786, (11, 0, 0, 787, [])), (787, (65, 0, 0, 788, [])), (788, (3, 0, 0, 789, [])), (789, (1, 3, 0, 790, [])), (790, (0, 0, 2, 791, [])), (791, (11, 0, 0, 792, [])), (792, (65, 0, 0, 793, [])), (793, (82, 136, 2, 796, [])), (796, (36, 1016, 0, 799, [])), (799, (0, 0, 0, 800, [])), (800, (71, 0, 0, 801, [])), (801, (3, 1, 0, 802, [])), (802, (82, 74, 0, 805, [])), (805, (3, 2, 0, 806, [])), (806, (82, 137, 0, 809, [])), (809, (36, 1016, 0, 812, [])), (812, (0, 0, 0, 813, [])), (813, (71, 0, 0, 814, [])), (814, (3, 1, 0, 815, [])), (815, (3, 0, 0, 816, [])), (816, (1, 3, 0, 817, [])), (817, (0, 0, 1, 818, [])), (818, (11, 0, 0, 819, [])), (819, (65, 0, 0, 820, [])), (820, (82, 75, 1, 823, [])), (823, (3, 2, 0, 824, [])), (824, (3, 0, 0, 825, [])), (825, (1, 3, 0, 826, [])), (826, (0, 0, 1, 827, [])), (827, (11, 0, 0, 828, [])), (828, (65, 0, 0, 829, [])), (829, (82, 138, 1, 832, [])), (832, (36, 1016, 0, 835, [])), (835, (0, 0, 0, 836, [])), (836, (71, 0, 0, 837, [])), (837, (3, 1, 0, 838, [])), (838, (82, 78, 0, 841, [])), (841, (3, 2, 0, 842, [])), (842, (82, 140, 0, 845, [])), (845, (36, 1016, 0, 848, [])), (848, (0, 0, 0, 849, [])), (849, (71, 0, 0, 850, [])), (850, (3, 1, 0, 851, [])), (851, (3, 0, 0, 852, [])), (852, (1, 3, 0, 853, [])), (853, (0, 0, 1, 854, [])), (854, (11, 0, 0, 855, [])), (855, (65, 0, 0, 856, [])), (856, (3, 0, 0, 857, [])), (857, (1, 3, 0, 858, [])), (858, (0, 0, 2, 859, [])), (859, (11, 0, 0, 860, [])), (860, (65, 0, 0, 861, [])), (861, (3, 0, 0, 862, [])), (862, (1, 3, 0, 863, [])), (863, (0, 0, 3, 864, [])), (864, (11, 0, 0, 865, [])), (865, (65, 0, 0, 866, [])), (866, (3, 0, 0, 867, [])), (867, (1, 3, 0, 868, [])), (868, (0, 0, 4, 869, [])), (869, (11, 0, 0, 870, [])), (870, (65, 0, 0, 871, [])), (871, (82, 79, 4, 874, [])), (874, (3, 2, 0, 875, [])), (875, (3, 0, 0, 876, [])), (876, (1, 3, 0, 877, [])), (877, (0, 0, 1, 878, [])), (878, (11, 0, 0, 879, [])), (879, (65, 0, 0, 880, [])), (880, (3, 0, 0, 881, [])), (881, (1, 3, 0, 882, [])), (882, (0, 0, 2, 883, [])), (883, (11, 0, 0, 884, [])), (884, (65, 0, 0, 885, [])), (885, (3, 0, 0, 886, [])), (886, (1, 3, 0, 887, [])), (887, (0, 0, 3, 888, [])), (888, (11, 0, 0, 889, [])), (889, (65, 0, 0, 890, [])), (890, (3, 0, 0, 891, [])), (891, (1, 3, 0, 892, [])), (892, (0, 0, 4, 893, [])), (893, (11, 0, 0, 894, [])), (894, (65, 0, 0, 895, [])), (895, (82, 141, 4, 898, [])), (898, (27, 0, 0, 899, [])), (899, (30, 1016, 0, 902, [])), (902, (0, 0, 0, 903, [])), (903, (71, 0, 0, 904, [])), (904, (3, 1, 0, 905, [])), (905, (3, 0, 0, 906, [])), (906, (1, 3, 0, 907, [])), (907, (0, 0, 1, 908, [])), (908, (11, 0, 0, 909, [])), (909, (65, 0, 0, 910, [])), (910, (3, 0, 0, 911, [])), (911, (1, 3, 0, 912, [])), (912, (0, 0, 2, 913, [])), (913, (11, 0, 0, 914, [])), (914, (65, 0, 0, 915, [])), (915, (3, 0, 0, 916, [])), (916, (1, 3, 0, 917, [])), (917, (0, 0, 3, 918, [])), (918, (11, 0, 0, 919, [])), (919, (65, 0, 0, 920, [])), (920, (82, 82, 3, 923, [])), (923, (3, 2, 0, 924, [])), (924, (3, 0, 0, 925, [])), (925, (1, 3, 0, 926, [])), (926, (0, 0, 1, 927, [])), (927, (11, 0, 0, 928, [])), (928, (65, 0, 0, 929, [])), (929, (3, 0, 0, 930, [])), (930, (1, 3, 0, 931, [])), (931, (0, 0, 2, 932, [])), (932, (11, 0, 0, 933, [])), (933, (65, 0, 0, 934, [])), (934, (3, 0, 0, 935, [])), (935, (1, 3, 0, 936, [])), (936, (0, 0, 3, 937, [])), (937, (11, 0, 0, 938, [])), (938, (65, 0, 0, 939, [])), (939, (82, 142, 3, 942, [])), (942, (36, 1016, 0, 945, [])), (945, (0, 0, 0, 946, [])), (946, (71, 0, 0, 947, [])), (947, (3, 1, 0, 948, [])), (948, (3, 0, 0, 949, [])), (949, (1, 3, 0, 950, [])), (950, (0, 0, 1, 951, [])), (951, (11, 0, 0, 952, [])), (952, (65, 0, 0, 953, [])), (953, (82, 86, 1, 956, [])), (956, (3, 2, 0, 957, [])), (957, (3, 0, 0, 958, [])), (958, (1, 3, 0, 959, [])), (959, (0, 0, 1, 960, [])), (960, (11, 0, 0, 961, [])), (961, (65, 0, 0, 962, [])), (962, (82, 145, 1, 965, [])), (965, (36, 1016, 0, 968, [])), (968, (0, 0, 0, 969, [])), (969, (71, 0, 0, 970, [])), (970, (3, 1, 0, 971, [])), (971, (3, 0, 0, 972, [])), (972, (1, 3, 0, 973, [])), (973, (0, 0, 1, 974, [])), (974, (11, 0, 0, 975, [])), (975, (65, 0, 0, 976, [])), (976, (82, 87, 1, 979, [])), (979, (3, 2, 0, 980, [])), (980, (3, 0, 0, 981, [])), (981, (1, 3, 0, 982, [])), (982, (0, 0, 1, 983, [])), (983, (11, 0, 0, 984, [])), (984, (65, 0, 0, 985, [])), (985, (82, 146, 1, 988, [])), (988, (36, 1016, 0, 991, [])), (991, (0, 0, 0, 992, [])), (992, (71, 0, 0, 993, [])), (993, (3, 1, 0, 994, [])), (994, (3, 0, 0, 995, [])), (995, (1, 3, 0, 996, [])), (996, (0, 0, 1, 997, [])), (997, (11, 0, 0, 998, [])), (998, (65, 0, 0, 999, [])), (999, (82, 88, 1, 1002, [])), (1002, (3, 2, 0, 1003, [])), (1003, (3, 0, 0, 1004, [])), (1004, (1, 3, 0, 1005, [])), (1005, (0, 0, 1, 1006, [])), (1006, (11, 0, 0, 1007, [])), (1007, (65, 0, 0, 1008, [])), (1008, (82, 147, 1, 1011, [])), (1011, (36, 1016, 0, 1014, [])), (1014, (0, 0, 0, 1015, [])), (1015, (71, 0, 0, 1016, [])), (1016, (8, 3, 5, 1019, [])), (1019, (44, 18, 0, 1022, [])), (1022, (0, 0, 1, 1023, [])), (1023, (71, 0, 0, 1024, []))]
def tbs : List (List (Nat × Ent)) := [tb0, tb1, tb2, tb3, tb4, tb5, tb6, tb7, tb8, tb9, tb10, tb11, tb12, tb13, tb14, tb15, tb16, tb17, tb18, tb19, tb20, tb21, tb22, tb23, tb24, tb25, tb26, tb27, tb28, tb29, tb30, tb31, tb32, tb33, tb34, tb35, tb36, tb37, tb38, tb39, tb40, tb41, tb42, tb43, tb44, tb45, tb46, tb47, tb48, tb49, tb50, tb51, tb52, tb53, tb54, tb55, tb56, tb57, tb58, tb59, tb60, tb61, tb62, tb63, tb64, tb65, tb66, tb67, tb68, tb69, tb70, tb71, tb72, tb73, tb74, tb75, tb76, tb77, tb78, tb79, tb80, tb81, tb82, tb83, tb84, tb85, tb86, tb87, tb88, tb89, tb90, tb91, tb92, tb93, tb94, tb95, tb96, tb97, tb98, tb99, tb100, tb101, tb102, tb103, tb104, tb105, tb106, tb107, tb108, tb109, tb110, tb111, tb112, tb113, tb114, tb115, tb116, tb117, tb118, tb119, tb120, tb121, tb122, tb123, tb124, tb125, tb126, tb127, tb128, tb129, tb130, tb131, tb132, tb133, tb134, tb135, tb136, tb137, tb138, tb139, tb140, tb141, tb142, tb143, tb144, tb145, tb146, tb147, tb148]
def tb (M : Nat) : List (Nat × Ent) := (tbs[M]?).getD []
def cd (M pc : Nat) : Ent := ((tb M).lookup pc).getD (99, 0, 0, 0, [])
end
section
/-! THE INTERPRETER: the methods' code, read as data (cd), run over a plain store; ints are Int, a reference is a number (0: null; k + 1: the k-th cell) -/
/-- a value: (0, z, _) an int, (1, _, k) a reference, (2, z, _) a long, (3, ..) a long's second half, (5, _, b) the script, (9, ..) none -/
abbrev AV : Type := Nat × Int × Nat
def vI (z : Int) : AV := (0, z, 0)
def vR (k : Nat) : AV := (1, 0, k)
def vL (z : Int) : AV := (2, z, 0)
def vH : AV := (3, 0, 0)
def vS (b : Nat) : AV := (5, 0, b)
def vU : AV := (9, 0, 0)
/-- a store: how many cells; slots in all; of each cell its kind (0 to 3 a class, 4 ints, 5 booleans, 6 references) and size; ints; references; the script's length and ints -/
abbrev St : Type := Nat × Nat × (Nat → Nat × Nat) × (Nat → Nat → Int) × (Nat → Nat → Nat) × Nat × (Nat → Int)
def nn (σ : St) : Nat := σ.1
def nt (σ : St) : Nat := σ.2.1
def sk (σ : St) : Nat → Nat × Nat := σ.2.2.1
def gt (σ : St) : Nat → Nat → Int := σ.2.2.2.1
def gr (σ : St) : Nat → Nat → Nat := σ.2.2.2.2.1
def sl (σ : St) : Nat := σ.2.2.2.2.2.1
def sx (σ : St) : Nat → Int := σ.2.2.2.2.2.2
def ru {α : Type} (f : Nat → α) (k : Nat) (v : α) : Nat → α := fun i => if i = k then v else f i
/-- a row of ints, a row of references, set anew; a cell more -/
def sr (σ : St) (k : Nat) (f : Nat → Int) : St := (σ.1, σ.2.1, σ.2.2.1, ru σ.2.2.2.1 k f, σ.2.2.2.2)
def rr (σ : St) (k : Nat) (f : Nat → Nat) : St := (σ.1, σ.2.1, σ.2.2.1, σ.2.2.2.1, ru σ.2.2.2.2.1 k f, σ.2.2.2.2.2)
def al (σ : St) (kd sz : Nat) : St := (σ.1 + 1, σ.2.1 + sz, ru σ.2.2.1 (σ.1 + 1) (kd, sz), ru σ.2.2.2.1 (σ.1 + 1) (fun _ => 0), ru σ.2.2.2.2.1 (σ.1 + 1) (fun _ => 0), σ.2.2.2.2.2)
def wr (z : Int) : Int := Int.bmod z (2 ^ 32)
def wl (z : Int) : Int := Int.bmod z (2 ^ 64)
/-- bits, shifts: as the machine has them -/
def bAnd (x y : Int) : Int := (Int32.ofInt x &&& Int32.ofInt y).toInt
def bOr (x y : Int) : Int := (Int32.ofInt x ||| Int32.ofInt y).toInt
def bXor (x y : Int) : Int := (Int32.ofInt x ^^^ Int32.ofInt y).toInt
def bShl (x y : Int) : Int := (Int32.ofInt x <<< (Int32.ofInt y &&& 31)).toInt
def bShr (x y : Int) : Int := (Int32.ofInt x >>> (Int32.ofInt y &&& 31)).toInt
def bUsh (x y : Int) : Int := ((Int32.ofInt x).toUInt32 >>> ((Int32.ofInt y).toUInt32 &&& Int32.toUInt32 31)).toInt32.toInt
def lCmp (x y : Int) : Int := if x < y then -1 else if x = y then 0 else 1
def lg (ls : List AV) (i : Nat) : AV := (ls[i]?).getD vU
def fok (σ : St) (k kd : Nat) : Prop := 1 ≤ k ∧ k ≤ nn σ ∧ (sk σ k).1 = kd
def aok (σ : St) (k kd : Nat) (j : Int) : Prop := fok σ k kd ∧ 0 ≤ j ∧ j < ((sk σ k).2 : Int)
def sw (ts : List (Int × Nat)) (d : Nat) (z : Int) : Nat := (ts.lookup z).getD d
/-- a call's answer on the stack -/
def psh (r : AV) (st : List AV) : List AV := if r.1 = 9 then st else r :: st
abbrev Res : Type := Option (AV × St)
def pad (as : List AV) (n : Nat) : List AV := as ++ List.replicate (n - as.length) vU
def bnd (o : Res) (f : AV → St → Res) : Res := match o with
  | none => none
  | some q => f q.1 q.2
/-- a test of the store -/
noncomputable def ck (c : Prop) (x : Res) : Res := @ite _ c (Classical.propDecidable c) x none
/-- one instruction; k: how it goes on -/
noncomputable def stp (k : Nat → Nat → List AV → List AV → St → Res) (e : Ent) (M : Nat) (ls st : List AV) (σ : St) : Res := match e with
  | (op, a, b, nx, ts) => match op with
    | 0 => k M nx ls (vI b :: st) σ
    | 1 => (match lg ls a with
      | (0, _, _) => k M nx ls (lg ls a :: st) σ
      | _ => none)
    | 2 => (match st with
      | (0, z, q) :: st => k M nx (ls.set a (0, z, q)) st σ
      | _ => none)
    | 3 => (match lg ls a with
      | (1, _, _) => k M nx ls (lg ls a :: st) σ
      | (5, _, _) => k M nx ls (lg ls a :: st) σ
      | _ => none)
    | 4 => (match st with
      | (1, z, q) :: st => k M nx (ls.set a (1, z, q)) st σ
      | _ => none)
    | 5 => (match lg ls a, lg ls (a + 1) with
      | (2, _, _), (3, 0, 0) => k M nx ls (lg ls a :: st) σ
      | _, _ => none)
    | 6 => (match st with
      | (2, z, q) :: st => k M nx ((ls.set a (2, z, q)).set (a + 1) vH) st σ
      | _ => none)
    | 7 => k M nx ls (vL b :: st) σ
    | 8 => (match lg ls a with
      | (0, z, _) => k M nx (ls.set a (vI (wr (z + b)))) st σ
      | _ => none)
    | 9 => (match st with
      | (0, z, q) :: st => k M nx ls ((0, z, q) :: (0, z, q) :: st) σ
      | (1, z, q) :: st => k M nx ls ((1, z, q) :: (1, z, q) :: st) σ
      | _ => none)
    | 10 => (match st with
      | (0, y, q) :: (1, x, p) :: st => k M nx ls ((0, y, q) :: (1, x, p) :: (0, y, q) :: (1, x, p) :: st) σ
      | _ => none)
    | 11 => (match st with
      | (0, y, _) :: (0, x, _) :: st => k M nx ls (vI (wr (x + y)) :: st) σ
      | _ => none)
    | 12 => (match st with
      | (0, y, _) :: (0, x, _) :: st => k M nx ls (vI (wr (x - y)) :: st) σ
      | _ => none)
    | 13 => (match st with
      | (0, y, _) :: (0, x, _) :: st => k M nx ls (vI (wr (x * y)) :: st) σ
      | _ => none)
    | 14 => (match st with
      | (0, y, _) :: (0, x, _) :: st => if y = 0 then none else k M nx ls (vI (wr (x.tdiv y)) :: st) σ
      | _ => none)
    | 15 => (match st with
      | (0, y, _) :: (0, x, _) :: st => if y = 0 then none else k M nx ls (vI (wr (x.tmod y)) :: st) σ
      | _ => none)
    | 16 => (match st with
      | (0, x, _) :: st => k M nx ls (vI (wr (-x)) :: st) σ
      | _ => none)
    | 17 => (match st with
      | (0, y, _) :: (0, x, _) :: st => k M nx ls (vI (bShl x y) :: st) σ
      | _ => none)
    | 18 => (match st with
      | (0, y, _) :: (0, x, _) :: st => k M nx ls (vI (bShr x y) :: st) σ
      | _ => none)
    | 19 => (match st with
      | (0, y, _) :: (0, x, _) :: st => k M nx ls (vI (bUsh x y) :: st) σ
      | _ => none)
    | 20 => (match st with
      | (0, y, _) :: (0, x, _) :: st => k M nx ls (vI (bAnd x y) :: st) σ
      | _ => none)
    | 21 => (match st with
      | (0, y, _) :: (0, x, _) :: st => k M nx ls (vI (bOr x y) :: st) σ
      | _ => none)
    | 22 => (match st with
      | (0, y, _) :: (0, x, _) :: st => k M nx ls (vI (bXor x y) :: st) σ
      | _ => none)
    | 23 => (match st with
      | (2, y, _) :: (2, x, _) :: st => k M nx ls (vL (wl (x + y)) :: st) σ
      | _ => none)
    | 24 => (match st with
      | (2, y, _) :: (2, x, _) :: st => k M nx ls (vL (wl (x * y)) :: st) σ
      | _ => none)
    | 25 => (match st with
      | (2, y, _) :: (2, x, _) :: st => if y = 0 then none else k M nx ls (vL (wl (x.tdiv y)) :: st) σ
      | _ => none)
    | 26 => (match st with
      | (2, y, _) :: (2, x, _) :: st => if y = 0 then none else k M nx ls (vL (wl (x.tmod y)) :: st) σ
      | _ => none)
    | 27 => (match st with
      | (2, y, _) :: (2, x, _) :: st => k M nx ls (vI (lCmp x y) :: st) σ
      | _ => none)
    | 28 => (match st with
      | (0, x, _) :: st => k M nx ls (vL x :: st) σ
      | _ => none)
    | 30 => (match st with
      | (0, x, _) :: st => if x = 0 then k M a ls st σ else k M nx ls st σ
      | _ => none)
    | 31 => (match st with
      | (0, x, _) :: st => if x = 0 then k M nx ls st σ else k M a ls st σ
      | _ => none)
    | 32 => (match st with
      | (0, x, _) :: st => if x < 0 then k M a ls st σ else k M nx ls st σ
      | _ => none)
    | 33 => (match st with
      | (0, x, _) :: st => if x < 0 then k M nx ls st σ else k M a ls st σ
      | _ => none)
    | 34 => (match st with
      | (0, x, _) :: st => if 0 < x then k M a ls st σ else k M nx ls st σ
      | _ => none)
    | 35 => (match st with
      | (0, x, _) :: st => if 0 < x then k M nx ls st σ else k M a ls st σ
      | _ => none)
    | 36 => (match st with
      | (0, y, _) :: (0, x, _) :: st => if x = y then k M a ls st σ else k M nx ls st σ
      | _ => none)
    | 37 => (match st with
      | (0, y, _) :: (0, x, _) :: st => if x = y then k M nx ls st σ else k M a ls st σ
      | _ => none)
    | 38 => (match st with
      | (0, y, _) :: (0, x, _) :: st => if x < y then k M a ls st σ else k M nx ls st σ
      | _ => none)
    | 39 => (match st with
      | (0, y, _) :: (0, x, _) :: st => if x < y then k M nx ls st σ else k M a ls st σ
      | _ => none)
    | 40 => (match st with
      | (0, y, _) :: (0, x, _) :: st => if y < x then k M a ls st σ else k M nx ls st σ
      | _ => none)
    | 41 => (match st with
      | (0, y, _) :: (0, x, _) :: st => if y < x then k M nx ls st σ else k M a ls st σ
      | _ => none)
    | 42 => (match st with
      | (1, _, q) :: st => if q = 0 then k M a ls st σ else k M nx ls st σ
      | _ => none)
    | 43 => (match st with
      | (1, _, q) :: st => if q = 0 then k M nx ls st σ else k M a ls st σ
      | _ => none)
    | 44 => k M a ls st σ
    | 45 => (match st with
      | (0, x, _) :: st => k M (sw ts a x) ls st σ
      | _ => none)
    | 50 => (match st with
      | (1, _, q) :: st => ck (fok σ q b.toNat) (k M nx ls (vI (gt σ q a) :: st) σ)
      | _ => none)
    | 51 => (match st with
      | (1, _, q) :: st => ck (fok σ q b.toNat) (k M nx ls (vR (gr σ q a) :: st) σ)
      | _ => none)
    | 52 => (match st with
      | (0, z, _) :: (1, _, q) :: st => ck (fok σ q b.toNat) (k M nx ls st (sr σ q (ru (gt σ q) a z)))
      | _ => none)
    | 53 => (match st with
      | (1, _, z) :: (1, _, q) :: st => ck (fok σ q b.toNat ∧ 1 ≤ z) (k M nx ls st (rr σ q (ru (gr σ q) a z)))
      | _ => none)
    | 54 => (match st with
      | (1, _, q) :: st => ck (fok σ q 4 ∨ fok σ q 6) (k M nx ls (vI (sk σ q).2 :: st) σ)
      | _ => none)
    | 55 => (match st with
      | (0, j, _) :: (1, _, q) :: st => ck (aok σ q 4 j) (k M nx ls (vI (gt σ q j.toNat) :: st) σ)
      | _ => none)
    | 56 => (match st with
      | (0, z, _) :: (0, j, _) :: (1, _, q) :: st => ck (aok σ q 4 j) (k M nx ls st (sr σ q (ru (gt σ q) j.toNat z)))
      | _ => none)
    | 57 => (match st with
      | (0, j, _) :: (1, _, q) :: st => ck (aok σ q 5 j) (k M nx ls (vI (gt σ q j.toNat) :: st) σ)
      | _ => none)
    | 58 => (match st with
      | (0, z, _) :: (0, j, _) :: (1, _, q) :: st => ck (aok σ q 5 j ∧ (z = 0 ∨ z = 1)) (k M nx ls st (sr σ q (ru (gt σ q) j.toNat z)))
      | _ => none)
    | 59 => (match st with
      | (0, j, _) :: (1, _, q) :: st => ck (aok σ q 6 j) (k M nx ls (vR (gr σ q j.toNat) :: st) σ)
      | _ => none)
    | 60 => (match st with
      | (1, _, z) :: (0, j, _) :: (1, _, q) :: st => ck (aok σ q 6 j ∧ fok σ z 0) (k M nx ls st (rr σ q (ru (gr σ q) j.toNat z)))
      | _ => none)
    | 61 => (match st with
      | (0, z, _) :: st => if 0 ≤ z ∧ z ≤ 1000 then k M nx ls (vR (nn σ + 1) :: st) (al σ 4 z.toNat) else none
      | _ => none)
    | 62 => (match st with
      | (0, z, _) :: st => if 0 ≤ z ∧ z ≤ 1000 then k M nx ls (vR (nn σ + 1) :: st) (al σ 5 z.toNat) else none
      | _ => none)
    | 63 => (match st with
      | (0, z, _) :: st => if 0 ≤ z ∧ z ≤ 1000 then k M nx ls (vR (nn σ + 1) :: st) (al σ 6 z.toNat) else none
      | _ => none)
    | 64 => k M nx ls (vR (nn σ + 1) :: st) (al σ a (cN a))
    | 65 => (match st with
      | (0, j, _) :: (5, _, _) :: st => if 0 ≤ j ∧ j < (sl σ : Int) then k M nx ls (vI (sx σ j.toNat) :: st) σ else none
      | _ => none)
    | 66 => (match st with
      | (5, _, _) :: st => k M nx ls (vI (sl σ) :: st) σ
      | _ => none)
    | 70 => (match st with
      | [(0, z, _)] => some (vI z, σ)
      | _ => none)
    | 71 => (match st with
      | [(0, z, _)] => if z = 0 ∨ z = 1 then some (vI z, σ) else none
      | _ => none)
    | 72 => (match st with
      | [(2, z, _)] => some (vL z, σ)
      | _ => none)
    | 73 => (match st with
      | [] => some (vU, σ)
      | _ => none)
    | 80 => ck ((st.take b.toNat).all (fun t => decide (t.1 ≤ 1)) = true ∧ b.toNat ≤ st.length ∧ st.length - b.toNat ≤ 4) (bnd (k a 0 (pad (st.take b.toNat).reverse (ml a)) [] σ) (fun r σ => k M nx ls (psh r (st.drop b.toNat)) σ))
    | 82 => ck ((st.take (b.toNat + 1)).all (fun t => decide (t.1 ≤ 1)) = true ∧ b.toNat + 1 ≤ st.length ∧ st.length - (b.toNat + 1) ≤ 4 ∧ (lg st b.toNat).1 = 1 ∧ fok σ (lg st b.toNat).2.2 (mo a)) (bnd (k a 0 (pad (st.take (b.toNat + 1)).reverse (ml a)) [] σ) (fun r σ => k M nx ls (psh r (st.drop (b.toNat + 1))) σ))
    | 83 => ck ((st.take (b.toNat + 1)).all (fun t => decide (t.1 ≤ 1)) = true ∧ b.toNat + 1 ≤ st.length ∧ st.length - (b.toNat + 1) ≤ 4 ∧ (lg st b.toNat).1 = 1 ∧ 1 ≤ (lg st b.toNat).2.2) (bnd (k a 0 (pad (st.take (b.toNat + 1)).reverse (ml a)) [] σ) (fun r σ => k M nx ls (psh r (st.drop (b.toNat + 1))) σ))
    | 85 => (match st with
      | (1, _, q) :: st => ck (1 ≤ q ∧ st.length ≤ 4) (k M nx ls st σ)
      | _ => none)
    | 86 => (match st with
      | (0, y, _) :: (0, x, _) :: st => ck (st.length ≤ 4) (k M nx ls (vI (if x < y then y else x) :: st) σ)
      | _ => none)
    | 87 => (match st with
      | (0, y, _) :: (0, x, _) :: st => ck (st.length ≤ 4) (k M nx ls (vI (if y < x then y else x) :: st) σ)
      | _ => none)
    | 88 => (match st with
      | (0, x, _) :: st => ck (st.length ≤ 4) (k M nx ls (vI (if 0 ≤ x then x else wr (-x)) :: st) σ)
      | _ => none)
    | _ => none
/-- with so much fuel -/
noncomputable def ex : Nat → Nat → Nat → List AV → List AV → St → Res
  | 0 => fun _ _ _ _ _ => none
  | n + 1 => fun M pc ls st σ => stp (ex n) (cd M pc) M ls st σ
end
section
/-- how many parameters; whether a call of c fits into what M asks for -/
def nar (c : Nat) : Option Nat := (parseMethodDescriptor (my c).desc).map (fun d => d.parameters.length)
def rmo (M c : Nat) : Bool := decide (mf c + 1 ≤ mf M) && decide (8 + (ml c + 11) + mlo c ≤ mlo M)
/-! THE DATA AND THE BYTES: tr reads a real instruction as data; each row of each table is so read -/
def tg (pc : Nat) (off : Int) : Nat := ((pc : Int) + off).toNat
def tgo (pc : Nat) (off : Int) : Bool := decide (0 ≤ (pc : Int) + off)
def swr (pc : Nat) (lo : Int) : List Int → List (Int × Nat)
  | [] => []
  | o :: os => (lo, tg pc o) :: swr pc (lo + 1) os
def swl (pc : Nat) (ps : List (Int × Int)) : List (Int × Nat) := ps.map fun q => (q.1, tg pc q.2)
def tr (M pc : Nat) (q : Instr × Nat) : Option Ent := match q with
  | (.iconst n, 1) => if -1 ≤ n ∧ n ≤ 5 then some (0, 0, n, pc + 1, []) else none
  | (.bipush n, 2) => if -128 ≤ n ∧ n ≤ 127 then some (0, 0, n, pc + 2, []) else none
  | (.sipush n, 3) => if -32768 ≤ n ∧ n ≤ 32767 then some (0, 0, n, pc + 3, []) else none
  | (.ldc i, 2) => (clk.lookup (mo M, i)).map fun v => (0, 0, v, pc + 2, [])
  | (.ldc_w i, 3) => (clk.lookup (mo M, i)).map fun v => (0, 0, v, pc + 3, [])
  | (.ldc2_w i, 3) => (cll.lookup (mo M, i)).map fun v => (7, 0, v, pc + 3, [])
  | (.lconst n, 1) => some (7, 0, ((n : Nat) : Int), pc + 1, [])
  | (.iload i, 2) => some (1, i, 0, pc + 2, [])
  | (.iload_n i, 1) => some (1, (i : Nat), 0, pc + 1, [])
  | (.istore i, 2) => if i < ml M then some (2, i, 0, pc + 2, []) else none
  | (.istore_n i, 1) => if (i : Nat) < ml M then some (2, (i : Nat), 0, pc + 1, []) else none
  | (.aload i, 2) => some (3, i, 0, pc + 2, [])
  | (.aload_n i, 1) => some (3, (i : Nat), 0, pc + 1, [])
  | (.astore i, 2) => if i < ml M then some (4, i, 0, pc + 2, []) else none
  | (.astore_n i, 1) => if (i : Nat) < ml M then some (4, (i : Nat), 0, pc + 1, []) else none
  | (.lload i, 2) => some (5, i, 0, pc + 2, [])
  | (.lload_n i, 1) => some (5, (i : Nat), 0, pc + 1, [])
  | (.lstore i, 2) => if i + 1 < ml M then some (6, i, 0, pc + 2, []) else none
  | (.lstore_n i, 1) => if (i : Nat) + 1 < ml M then some (6, (i : Nat), 0, pc + 1, []) else none
  | (.iinc i n, 3) => if (-128 ≤ n ∧ n ≤ 127) ∧ i < ml M then some (8, i, n, pc + 3, []) else none
  | (.dup, 1) => some (9, 0, 0, pc + 1, [])
  | (.dup2, 1) => some (10, 0, 0, pc + 1, [])
  | (.iadd, 1) => some (11, 0, 0, pc + 1, [])
  | (.isub, 1) => some (12, 0, 0, pc + 1, [])
  | (.imul, 1) => some (13, 0, 0, pc + 1, [])
  | (.idiv, 1) => some (14, 0, 0, pc + 1, [])
  | (.irem, 1) => some (15, 0, 0, pc + 1, [])
  | (.ineg, 1) => some (16, 0, 0, pc + 1, [])
  | (.ishl, 1) => some (17, 0, 0, pc + 1, [])
  | (.ishr, 1) => some (18, 0, 0, pc + 1, [])
  | (.iushr, 1) => some (19, 0, 0, pc + 1, [])
  | (.iand, 1) => some (20, 0, 0, pc + 1, [])
  | (.ior, 1) => some (21, 0, 0, pc + 1, [])
  | (.ixor, 1) => some (22, 0, 0, pc + 1, [])
  | (.ladd, 1) => some (23, 0, 0, pc + 1, [])
  | (.lmul, 1) => some (24, 0, 0, pc + 1, [])
  | (.ldiv, 1) => some (25, 0, 0, pc + 1, [])
  | (.lrem, 1) => some (26, 0, 0, pc + 1, [])
  | (.lcmp, 1) => some (27, 0, 0, pc + 1, [])
  | (.i2l, 1) => some (28, 0, 0, pc + 1, [])
  | (.ifCond .eq off, 3) => if tgo pc off = true then some (30, tg pc off, 0, pc + 3, []) else none
  | (.if_icmp .eq off, 3) => if tgo pc off = true then some (36, tg pc off, 0, pc + 3, []) else none
  | (.ifCond .ne off, 3) => if tgo pc off = true then some (31, tg pc off, 0, pc + 3, []) else none
  | (.if_icmp .ne off, 3) => if tgo pc off = true then some (37, tg pc off, 0, pc + 3, []) else none
  | (.ifCond .lt off, 3) => if tgo pc off = true then some (32, tg pc off, 0, pc + 3, []) else none
  | (.if_icmp .lt off, 3) => if tgo pc off = true then some (38, tg pc off, 0, pc + 3, []) else none
  | (.ifCond .ge off, 3) => if tgo pc off = true then some (33, tg pc off, 0, pc + 3, []) else none
  | (.if_icmp .ge off, 3) => if tgo pc off = true then some (39, tg pc off, 0, pc + 3, []) else none
  | (.ifCond .gt off, 3) => if tgo pc off = true then some (34, tg pc off, 0, pc + 3, []) else none
  | (.if_icmp .gt off, 3) => if tgo pc off = true then some (40, tg pc off, 0, pc + 3, []) else none
  | (.ifCond .le off, 3) => if tgo pc off = true then some (35, tg pc off, 0, pc + 3, []) else none
  | (.if_icmp .le off, 3) => if tgo pc off = true then some (41, tg pc off, 0, pc + 3, []) else none
  | (.ifnull off, 3) => if tgo pc off = true then some (42, tg pc off, 0, pc + 3, []) else none
  | (.ifnonnull off, 3) => if tgo pc off = true then some (43, tg pc off, 0, pc + 3, []) else none
  | (.goto off, 3) => if tgo pc off = true then some (44, tg pc off, 0, pc + 3, []) else none
  | (.tableswitch d lo hi offs, len) => if tgo pc d = true ∧ offs.toList.all (tgo pc) = true ∧ (offs.size : Int) = hi - lo + 1 then some (45, tg pc d, 0, pc + len, swr pc lo offs.toList) else none
  | (.lookupswitch d ps, len) => if tgo pc d = true ∧ ps.toList.all (fun q => tgo pc q.2) = true ∧ (ps.toList.zip (ps.toList.drop 1)).all (fun (a, next) => a.1 < next.1) = true then some (45, tg pc d, 0, pc + len, swl pc ps.toList) else none
  | (.getfield i, 3) => (fl.lookup (mo M, i)).map fun (k, s) => (if isr k s = true then 51 else 50, s, (k : Int), pc + 3, [])
  | (.putfield i, 3) => (fl.lookup (mo M, i)).bind fun (k, s) => if fin k s = true → (my M).name = "<init>" ∧ (cT k s).1 = oS (mo M) then some (if isr k s = true then 53 else 52, s, (k : Int), pc + 3, []) else none
  | (.arraylength, 1) => some (if mo M = 4 then 66 else 54, 0, 0, pc + 1, [])
  | (.iaload, 1) => some (if mo M = 4 then 65 else 55, 0, 0, pc + 1, [])
  | (.iastore, 1) => some (56, 0, 0, pc + 1, [])
  | (.baload, 1) => some (57, 0, 0, pc + 1, [])
  | (.bastore, 1) => some (58, 0, 0, pc + 1, [])
  | (.aaload, 1) => some (59, 0, 0, pc + 1, [])
  | (.aastore, 1) => some (60, 0, 0, pc + 1, [])
  | (.newarray .int, 2) => some (61, 0, 0, pc + 2, [])
  | (.newarray .boolean, 2) => some (62, 0, 0, pc + 2, [])
  | (.anewarray i, 3) => (nlk.lookup (mo M, i)).bind fun k => if k = 0 then some (63, 0, 0, pc + 3, []) else none
  | (.new i, 3) => (nlk.lookup (mo M, i)).map fun k => (64, k, 0, pc + 3, [])
  | (.ireturn, 1) => if mk M = 1 then some (70, 0, 0, pc + 1, []) else if mk M = 2 then some (71, 0, 0, pc + 1, []) else none
  | (.lreturn, 1) => if mk M = 3 then some (72, 0, 0, pc + 1, []) else none
  | (.return_, 1) => if mk M = 0 then some (73, 0, 0, pc + 1, []) else none
  | (.invokestatic i, 3) => (mlk.lookup (mo M, i)).bind fun (c, s) => if s = 0 ∨ s = 1 then (if rmo M c = true then (nar c).bind fun n => if n ≤ ml c then some (80, c, (n : Int), pc + 3, []) else none else none)
      else if 1 ≤ mf M ∧ 21 ≤ mlo M then (if s = 6 then some (86, 0, 0, pc + 3, []) else if s = 7 then some (87, 0, 0, pc + 3, []) else if s = 8 then some (88, 0, 0, pc + 3, []) else none) else none
  | (.invokevirtual i, 3) => (mlk.lookup (mo M, i)).bind fun (c, s) => if s = 2 ∧ rmo M c = true then (nar c).bind fun n => if n + 1 ≤ ml c then some (82, c, (n : Int), pc + 3, []) else none else none
  | (.invokespecial i, 3) => (mlk.lookup (mo M, i)).bind fun (c, s) => if (s = 3 ∨ s = 4) ∧ rmo M c = true then (nar c).bind fun n => if n + 1 ≤ ml c then some (83, c, (n : Int), pc + 3, []) else none else if s = 5 ∧ 1 ≤ mf M ∧ 20 ≤ mlo M then some (85, 0, 0, pc + 3, []) else none
  | _ => none
def okr (M : Nat) (q : Nat × Ent) : Bool := match decode (mb M) q.1 with
  | .ok i => (match tr M q.1 i with
    | some e => decide (e = q.2)
    | none => false)
  | .error _ => false
end
section
theorem tok_0 : (tb 0).all (okr 0) = true := by decide +kernel
theorem tok_1 : (tb 1).all (okr 1) = true := by decide +kernel
theorem tok_2 : (tb 2).all (okr 2) = true := by decide +kernel
theorem tok_3 : (tb 3).all (okr 3) = true := by decide +kernel
theorem tok_4 : (tb 4).all (okr 4) = true := by decide +kernel
theorem tok_5 : (tb 5).all (okr 5) = true := by decide +kernel
theorem tok_6 : (tb 6).all (okr 6) = true := by decide +kernel
theorem tok_7 : (tb 7).all (okr 7) = true := by decide +kernel
theorem tok_8 : (tb 8).all (okr 8) = true := by decide +kernel
theorem tok_9 : (tb 9).all (okr 9) = true := by decide +kernel
theorem tok_10 : (tb 10).all (okr 10) = true := by decide +kernel
theorem tok_11 : (tb 11).all (okr 11) = true := by decide +kernel
theorem tok_12 : (tb 12).all (okr 12) = true := by decide +kernel
theorem tok_13 : (tb 13).all (okr 13) = true := by decide +kernel
theorem tok_14 : (tb 14).all (okr 14) = true := by decide +kernel
theorem tok_15 : (tb 15).all (okr 15) = true := by decide +kernel
theorem tok_16 : (tb 16).all (okr 16) = true := by decide +kernel
theorem tok_17 : (tb 17).all (okr 17) = true := by decide +kernel
theorem tok_18 : (tb 18).all (okr 18) = true := by decide +kernel
theorem tok_19 : (tb 19).all (okr 19) = true := by decide +kernel
theorem tok_20 : (tb 20).all (okr 20) = true := by decide +kernel
theorem tok_21 : (tb 21).all (okr 21) = true := by decide +kernel
theorem tok_22 : (tb 22).all (okr 22) = true := by decide +kernel
theorem tok_23 : (tb 23).all (okr 23) = true := by decide +kernel
theorem tok_24 : (tb 24).all (okr 24) = true := by decide +kernel
theorem tok_25 : (tb 25).all (okr 25) = true := by decide +kernel
theorem tok_26 : (tb 26).all (okr 26) = true := by decide +kernel
theorem tok_27 : (tb 27).all (okr 27) = true := by decide +kernel
theorem tok_28 : (tb 28).all (okr 28) = true := by decide +kernel
theorem tok_29 : (tb 29).all (okr 29) = true := by decide +kernel
theorem tok_30 : (tb 30).all (okr 30) = true := by decide +kernel
theorem tok_31 : (tb 31).all (okr 31) = true := by decide +kernel
theorem tok_32 : (tb 32).all (okr 32) = true := by decide +kernel
theorem tok_33 : (tb 33).all (okr 33) = true := by decide +kernel
theorem tok_34 : (tb 34).all (okr 34) = true := by decide +kernel
theorem tok_35 : (tb 35).all (okr 35) = true := by decide +kernel
theorem tok_36 : (tb 36).all (okr 36) = true := by decide +kernel
theorem tok_37 : (tb 37).all (okr 37) = true := by decide +kernel
theorem tok_38 : (tb 38).all (okr 38) = true := by decide +kernel
theorem tok_39 : (tb 39).all (okr 39) = true := by decide +kernel
theorem tok_40 : (tb 40).all (okr 40) = true := by decide +kernel
theorem tok_41 : (tb 41).all (okr 41) = true := by decide +kernel
theorem tok_42 : (tb 42).all (okr 42) = true := by decide +kernel
theorem tok_43 : (tb 43).all (okr 43) = true := by decide +kernel
theorem tok_44 : (tb 44).all (okr 44) = true := by decide +kernel
theorem tok_45 : (tb 45).all (okr 45) = true := by decide +kernel
theorem tok_46 : (tb 46).all (okr 46) = true := by decide +kernel
theorem tok_47 : (tb 47).all (okr 47) = true := by decide +kernel
theorem tok_48 : (tb 48).all (okr 48) = true := by decide +kernel
theorem tok_49 : (tb 49).all (okr 49) = true := by decide +kernel
theorem tok_50 : (tb 50).all (okr 50) = true := by decide +kernel
theorem tok_51 : (tb 51).all (okr 51) = true := by decide +kernel
theorem tok_52 : (tb 52).all (okr 52) = true := by decide +kernel
theorem tok_53 : (tb 53).all (okr 53) = true := by decide +kernel
theorem tok_54 : (tb 54).all (okr 54) = true := by decide +kernel
theorem tok_55 : (tb 55).all (okr 55) = true := by decide +kernel
theorem tok_56 : (tb 56).all (okr 56) = true := by decide +kernel
theorem tok_57 : (tb 57).all (okr 57) = true := by decide +kernel
theorem tok_58 : (tb 58).all (okr 58) = true := by decide +kernel
theorem tok_59 : (tb 59).all (okr 59) = true := by decide +kernel
theorem tok_60 : (tb 60).all (okr 60) = true := by decide +kernel
theorem tok_61 : (tb 61).all (okr 61) = true := by decide +kernel
theorem tok_62 : (tb 62).all (okr 62) = true := by decide +kernel
theorem tok_63 : (tb 63).all (okr 63) = true := by decide +kernel
theorem tok_64 : (tb 64).all (okr 64) = true := by decide +kernel
theorem tok_65 : (tb 65).all (okr 65) = true := by decide +kernel
theorem tok_66 : (tb 66).all (okr 66) = true := by decide +kernel
theorem tok_67 : (tb 67).all (okr 67) = true := by decide +kernel
theorem tok_68 : (tb 68).all (okr 68) = true := by decide +kernel
theorem tok_69 : (tb 69).all (okr 69) = true := by decide +kernel
theorem tok_70 : (tb 70).all (okr 70) = true := by decide +kernel
theorem tok_71 : (tb 71).all (okr 71) = true := by decide +kernel
theorem tok_72 : (tb 72).all (okr 72) = true := by decide +kernel
theorem tok_73 : (tb 73).all (okr 73) = true := by decide +kernel
theorem tok_74 : (tb 74).all (okr 74) = true := by decide +kernel
theorem tok_75 : (tb 75).all (okr 75) = true := by decide +kernel
theorem tok_76 : (tb 76).all (okr 76) = true := by decide +kernel
theorem tok_77 : (tb 77).all (okr 77) = true := by decide +kernel
theorem tok_78 : (tb 78).all (okr 78) = true := by decide +kernel
theorem tok_79 : (tb 79).all (okr 79) = true := by decide +kernel
theorem tok_80 : (tb 80).all (okr 80) = true := by decide +kernel
theorem tok_81 : (tb 81).all (okr 81) = true := by decide +kernel
theorem tok_82 : (tb 82).all (okr 82) = true := by decide +kernel
theorem tok_83 : (tb 83).all (okr 83) = true := by decide +kernel
theorem tok_84 : (tb 84).all (okr 84) = true := by decide +kernel
theorem tok_85 : (tb 85).all (okr 85) = true := by decide +kernel
theorem tok_86 : (tb 86).all (okr 86) = true := by decide +kernel
theorem tok_87 : (tb 87).all (okr 87) = true := by decide +kernel
theorem tok_88 : (tb 88).all (okr 88) = true := by decide +kernel
theorem tok_89 : (tb 89).all (okr 89) = true := by decide +kernel
theorem tok_90 : (tb 90).all (okr 90) = true := by decide +kernel
theorem tok_91 : (tb 91).all (okr 91) = true := by decide +kernel
theorem tok_92 : (tb 92).all (okr 92) = true := by decide +kernel
theorem tok_93 : (tb 93).all (okr 93) = true := by decide +kernel
theorem tok_94 : (tb 94).all (okr 94) = true := by decide +kernel
theorem tok_95 : (tb 95).all (okr 95) = true := by decide +kernel
theorem tok_96 : (tb 96).all (okr 96) = true := by decide +kernel
theorem tok_97 : (tb 97).all (okr 97) = true := by decide +kernel
theorem tok_98 : (tb 98).all (okr 98) = true := by decide +kernel
theorem tok_99 : (tb 99).all (okr 99) = true := by decide +kernel
theorem tok_100 : (tb 100).all (okr 100) = true := by decide +kernel
theorem tok_101 : (tb 101).all (okr 101) = true := by decide +kernel
theorem tok_102 : (tb 102).all (okr 102) = true := by decide +kernel
theorem tok_103 : (tb 103).all (okr 103) = true := by decide +kernel
theorem tok_104 : (tb 104).all (okr 104) = true := by decide +kernel
theorem tok_105 : (tb 105).all (okr 105) = true := by decide +kernel
theorem tok_106 : (tb 106).all (okr 106) = true := by decide +kernel
theorem tok_107 : (tb 107).all (okr 107) = true := by decide +kernel
theorem tok_108 : (tb 108).all (okr 108) = true := by decide +kernel
theorem tok_109 : (tb 109).all (okr 109) = true := by decide +kernel
theorem tok_110 : (tb 110).all (okr 110) = true := by decide +kernel
theorem tok_111 : (tb 111).all (okr 111) = true := by decide +kernel
theorem tok_112 : (tb 112).all (okr 112) = true := by decide +kernel
theorem tok_113 : (tb 113).all (okr 113) = true := by decide +kernel
theorem tok_114 : (tb 114).all (okr 114) = true := by decide +kernel
theorem tok_115 : (tb 115).all (okr 115) = true := by decide +kernel
theorem tok_116 : (tb 116).all (okr 116) = true := by decide +kernel
theorem tok_117 : (tb 117).all (okr 117) = true := by decide +kernel
theorem tok_118 : (tb 118).all (okr 118) = true := by decide +kernel
theorem tok_119 : (tb 119).all (okr 119) = true := by decide +kernel
theorem tok_120 : (tb 120).all (okr 120) = true := by decide +kernel
theorem tok_121 : (tb 121).all (okr 121) = true := by decide +kernel
theorem tok_122 : (tb 122).all (okr 122) = true := by decide +kernel
theorem tok_123 : (tb 123).all (okr 123) = true := by decide +kernel
theorem tok_124 : (tb 124).all (okr 124) = true := by decide +kernel
theorem tok_125 : (tb 125).all (okr 125) = true := by decide +kernel
theorem tok_126 : (tb 126).all (okr 126) = true := by decide +kernel
theorem tok_127 : (tb 127).all (okr 127) = true := by decide +kernel
theorem tok_128 : (tb 128).all (okr 128) = true := by decide +kernel
theorem tok_129 : (tb 129).all (okr 129) = true := by decide +kernel
theorem tok_130 : (tb 130).all (okr 130) = true := by decide +kernel
theorem tok_131 : (tb 131).all (okr 131) = true := by decide +kernel
theorem tok_132 : (tb 132).all (okr 132) = true := by decide +kernel
theorem tok_133 : (tb 133).all (okr 133) = true := by decide +kernel
theorem tok_134 : (tb 134).all (okr 134) = true := by decide +kernel
theorem tok_135 : (tb 135).all (okr 135) = true := by decide +kernel
theorem tok_136 : (tb 136).all (okr 136) = true := by decide +kernel
theorem tok_137 : (tb 137).all (okr 137) = true := by decide +kernel
theorem tok_138 : (tb 138).all (okr 138) = true := by decide +kernel
theorem tok_139 : (tb 139).all (okr 139) = true := by decide +kernel
theorem tok_140 : (tb 140).all (okr 140) = true := by decide +kernel
theorem tok_141 : (tb 141).all (okr 141) = true := by decide +kernel
theorem tok_142 : (tb 142).all (okr 142) = true := by decide +kernel
theorem tok_143 : (tb 143).all (okr 143) = true := by decide +kernel
theorem tok_144 : (tb 144).all (okr 144) = true := by decide +kernel
theorem tok_145 : (tb 145).all (okr 145) = true := by decide +kernel
theorem tok_146 : (tb 146).all (okr 146) = true := by decide +kernel
theorem tok_147 : (tb 147).all (okr 147) = true := by decide +kernel
end
section
theorem tokl_0 : (((tb 148).drop 0).take 50).all (okr 148) = true := by decide +kernel
end
section
theorem tokl_1 : (((tb 148).drop 50).take 50).all (okr 148) = true := by decide +kernel
end
section
theorem tokl_2 : (((tb 148).drop 100).take 50).all (okr 148) = true := by decide +kernel
end
section
theorem tokl_3 : (((tb 148).drop 150).take 50).all (okr 148) = true := by decide +kernel
end
section
theorem tokl_4 : (((tb 148).drop 200).take 50).all (okr 148) = true := by decide +kernel
end
section
theorem tokl_5 : (((tb 148).drop 250).take 50).all (okr 148) = true := by decide +kernel
end
section
theorem tokl_6 : (((tb 148).drop 300).take 50).all (okr 148) = true := by decide +kernel
end
section
theorem tokl_7 : (((tb 148).drop 350).take 50).all (okr 148) = true := by decide +kernel
end
section
theorem tokl_8 : (((tb 148).drop 400).take 50).all (okr 148) = true := by decide +kernel
end
section
theorem tokl_9 : (((tb 148).drop 450).take 50).all (okr 148) = true := by decide +kernel
end
section
theorem tokl_10 : (((tb 148).drop 500).take 50).all (okr 148) = true := by decide +kernel
end
section
theorem tokl_11 : (((tb 148).drop 550).take 50).all (okr 148) = true := by decide +kernel
end
section
theorem tokl_12 : (((tb 148).drop 600).take 50).all (okr 148) = true := by decide +kernel
end
section
theorem tokl_13 : (((tb 148).drop 650).take 50).all (okr 148) = true := by decide +kernel
end
section
theorem all_cut {α : Type} (p : α → Bool) (n : Nat) (L : List α) (h1 : (L.take n).all p = true) (h2 : (L.drop n).all p = true) : L.all p = true := by
  have h : (L.take n ++ L.drop n).all p = true := by rw [List.all_append, h1, h2]; rfl
  rwa [List.take_append_drop] at h
theorem tok_148 : (tb 148).all (okr 148) = true := by
  have z : ((tb 148).drop 700).all (okr 148) = true := by
    rw [show (tb 148).drop 700 = [] from List.drop_eq_nil_of_le (by decide +kernel)]; rfl
  have z13 : ((tb 148).drop 650).all (okr 148) = true := all_cut _ 50 _ tokl_13 (by rw [List.drop_drop]; exact z)
  have z12 : ((tb 148).drop 600).all (okr 148) = true := all_cut _ 50 _ tokl_12 (by rw [List.drop_drop]; exact z13)
  have z11 : ((tb 148).drop 550).all (okr 148) = true := all_cut _ 50 _ tokl_11 (by rw [List.drop_drop]; exact z12)
  have z10 : ((tb 148).drop 500).all (okr 148) = true := all_cut _ 50 _ tokl_10 (by rw [List.drop_drop]; exact z11)
  have z9 : ((tb 148).drop 450).all (okr 148) = true := all_cut _ 50 _ tokl_9 (by rw [List.drop_drop]; exact z10)
  have z8 : ((tb 148).drop 400).all (okr 148) = true := all_cut _ 50 _ tokl_8 (by rw [List.drop_drop]; exact z9)
  have z7 : ((tb 148).drop 350).all (okr 148) = true := all_cut _ 50 _ tokl_7 (by rw [List.drop_drop]; exact z8)
  have z6 : ((tb 148).drop 300).all (okr 148) = true := all_cut _ 50 _ tokl_6 (by rw [List.drop_drop]; exact z7)
  have z5 : ((tb 148).drop 250).all (okr 148) = true := all_cut _ 50 _ tokl_5 (by rw [List.drop_drop]; exact z6)
  have z4 : ((tb 148).drop 200).all (okr 148) = true := all_cut _ 50 _ tokl_4 (by rw [List.drop_drop]; exact z5)
  have z3 : ((tb 148).drop 150).all (okr 148) = true := all_cut _ 50 _ tokl_3 (by rw [List.drop_drop]; exact z4)
  have z2 : ((tb 148).drop 100).all (okr 148) = true := all_cut _ 50 _ tokl_2 (by rw [List.drop_drop]; exact z3)
  have z1 : ((tb 148).drop 50).all (okr 148) = true := all_cut _ 50 _ tokl_1 (by rw [List.drop_drop]; exact z2)
  have z0 : ((tb 148).drop 0).all (okr 148) = true := all_cut _ 50 _ tokl_0 (by rw [List.drop_drop]; exact z1)
  exact z0
theorem toks : ∀ M : Nat, (tb M).all (okr M) = true := by
  intro M
  by_cases h : M < 149
  · match M, h with
    | 0, _ => exact tok_0
    | 1, _ => exact tok_1
    | 2, _ => exact tok_2
    | 3, _ => exact tok_3
    | 4, _ => exact tok_4
    | 5, _ => exact tok_5
    | 6, _ => exact tok_6
    | 7, _ => exact tok_7
    | 8, _ => exact tok_8
    | 9, _ => exact tok_9
    | 10, _ => exact tok_10
    | 11, _ => exact tok_11
    | 12, _ => exact tok_12
    | 13, _ => exact tok_13
    | 14, _ => exact tok_14
    | 15, _ => exact tok_15
    | 16, _ => exact tok_16
    | 17, _ => exact tok_17
    | 18, _ => exact tok_18
    | 19, _ => exact tok_19
    | 20, _ => exact tok_20
    | 21, _ => exact tok_21
    | 22, _ => exact tok_22
    | 23, _ => exact tok_23
    | 24, _ => exact tok_24
    | 25, _ => exact tok_25
    | 26, _ => exact tok_26
    | 27, _ => exact tok_27
    | 28, _ => exact tok_28
    | 29, _ => exact tok_29
    | 30, _ => exact tok_30
    | 31, _ => exact tok_31
    | 32, _ => exact tok_32
    | 33, _ => exact tok_33
    | 34, _ => exact tok_34
    | 35, _ => exact tok_35
    | 36, _ => exact tok_36
    | 37, _ => exact tok_37
    | 38, _ => exact tok_38
    | 39, _ => exact tok_39
    | 40, _ => exact tok_40
    | 41, _ => exact tok_41
    | 42, _ => exact tok_42
    | 43, _ => exact tok_43
    | 44, _ => exact tok_44
    | 45, _ => exact tok_45
    | 46, _ => exact tok_46
    | 47, _ => exact tok_47
    | 48, _ => exact tok_48
    | 49, _ => exact tok_49
    | 50, _ => exact tok_50
    | 51, _ => exact tok_51
    | 52, _ => exact tok_52
    | 53, _ => exact tok_53
    | 54, _ => exact tok_54
    | 55, _ => exact tok_55
    | 56, _ => exact tok_56
    | 57, _ => exact tok_57
    | 58, _ => exact tok_58
    | 59, _ => exact tok_59
    | 60, _ => exact tok_60
    | 61, _ => exact tok_61
    | 62, _ => exact tok_62
    | 63, _ => exact tok_63
    | 64, _ => exact tok_64
    | 65, _ => exact tok_65
    | 66, _ => exact tok_66
    | 67, _ => exact tok_67
    | 68, _ => exact tok_68
    | 69, _ => exact tok_69
    | 70, _ => exact tok_70
    | 71, _ => exact tok_71
    | 72, _ => exact tok_72
    | 73, _ => exact tok_73
    | 74, _ => exact tok_74
    | 75, _ => exact tok_75
    | 76, _ => exact tok_76
    | 77, _ => exact tok_77
    | 78, _ => exact tok_78
    | 79, _ => exact tok_79
    | 80, _ => exact tok_80
    | 81, _ => exact tok_81
    | 82, _ => exact tok_82
    | 83, _ => exact tok_83
    | 84, _ => exact tok_84
    | 85, _ => exact tok_85
    | 86, _ => exact tok_86
    | 87, _ => exact tok_87
    | 88, _ => exact tok_88
    | 89, _ => exact tok_89
    | 90, _ => exact tok_90
    | 91, _ => exact tok_91
    | 92, _ => exact tok_92
    | 93, _ => exact tok_93
    | 94, _ => exact tok_94
    | 95, _ => exact tok_95
    | 96, _ => exact tok_96
    | 97, _ => exact tok_97
    | 98, _ => exact tok_98
    | 99, _ => exact tok_99
    | 100, _ => exact tok_100
    | 101, _ => exact tok_101
    | 102, _ => exact tok_102
    | 103, _ => exact tok_103
    | 104, _ => exact tok_104
    | 105, _ => exact tok_105
    | 106, _ => exact tok_106
    | 107, _ => exact tok_107
    | 108, _ => exact tok_108
    | 109, _ => exact tok_109
    | 110, _ => exact tok_110
    | 111, _ => exact tok_111
    | 112, _ => exact tok_112
    | 113, _ => exact tok_113
    | 114, _ => exact tok_114
    | 115, _ => exact tok_115
    | 116, _ => exact tok_116
    | 117, _ => exact tok_117
    | 118, _ => exact tok_118
    | 119, _ => exact tok_119
    | 120, _ => exact tok_120
    | 121, _ => exact tok_121
    | 122, _ => exact tok_122
    | 123, _ => exact tok_123
    | 124, _ => exact tok_124
    | 125, _ => exact tok_125
    | 126, _ => exact tok_126
    | 127, _ => exact tok_127
    | 128, _ => exact tok_128
    | 129, _ => exact tok_129
    | 130, _ => exact tok_130
    | 131, _ => exact tok_131
    | 132, _ => exact tok_132
    | 133, _ => exact tok_133
    | 134, _ => exact tok_134
    | 135, _ => exact tok_135
    | 136, _ => exact tok_136
    | 137, _ => exact tok_137
    | 138, _ => exact tok_138
    | 139, _ => exact tok_139
    | 140, _ => exact tok_140
    | 141, _ => exact tok_141
    | 142, _ => exact tok_142
    | 143, _ => exact tok_143
    | 144, _ => exact tok_144
    | 145, _ => exact tok_145
    | 146, _ => exact tok_146
    | 147, _ => exact tok_147
    | 148, _ => exact tok_148
    | n + 149, h => exact absurd h (by omega)
  · have e : tb M = [] := by
      have h1 : tbs.length ≤ M := by have : tbs.length = 149 := by decide +kernel
                                     omega
      unfold tb
      rw [List.getElem?_eq_none h1]
      rfl
    rw [e]
    rfl
theorem cd_spec {M pc : Nat} {e : Ent} (h : cd M pc = e) (hne : e.1 ≠ 99) : ∃ i n, decode (mb M) pc = .ok (i, n) ∧ tr M pc (i, n) = some e := by
  unfold cd at h
  cases hl : (tb M).lookup pc with
  | none => rw [hl] at h; exact absurd (by rw [← h]; rfl) hne
  | some e' =>
    rw [hl] at h
    have he : e' = e := h
    subst he
    have hm : (pc, e') ∈ tb M := by
      have key : ∀ (l : List (Nat × Ent)), l.lookup pc = some e' → (pc, e') ∈ l := by
        intro l
        induction l with
        | nil => intro h; cases h
        | cons q l ih =>
          intro h
          rw [List.lookup_cons] at h
          split at h
          · next hq =>
            have hq' : pc = q.1 := by simpa using hq
            cases h
            rw [hq']
            exact List.mem_cons_self
          · exact List.mem_cons_of_mem _ (ih h)
      exact key _ hl
    have h2 := List.all_eq_true.mp (toks M) _ hm
    unfold okr at h2
    simp only at h2
    split at h2
    · next i hd =>
      split at h2
      · next e2 ht => exact ⟨i.1, i.2, hd, by rw [show (i.1, i.2) = i from rfl, ht, of_decide_eq_true h2]⟩
      · cases h2
    · cases h2
end
section
/-! RUNS: how the fuel goes away -/
theorem ck_some {c : Prop} {x : Res} {r : AV × St} : ck c x = some r ↔ c ∧ x = some r := by
  unfold ck
  by_cases h : c
  · rw [if_pos h]; exact ⟨fun e => ⟨h, e⟩, fun e => e.2⟩
  · rw [if_neg h]; exact ⟨fun e => (by cases e), fun e => absurd e.1 h⟩
theorem bnd_some {o : Res} {f : AV → St → Res} {r : AV × St} : bnd o f = some r ↔ ∃ q, o = some q ∧ f q.1 q.2 = some r := by
  cases o with
  | none => exact ⟨fun e => (by cases e), fun ⟨q, e, _⟩ => (by cases e)⟩
  | some q => exact ⟨fun e => ⟨q, rfl, e⟩, fun ⟨q', e, h⟩ => by cases e; exact h⟩
set_option maxHeartbeats 4000000 in
theorem stp_mono {k k' : Nat → Nat → List AV → List AV → St → Res} (h : ∀ M pc ls st σ r, k M pc ls st σ = some r → k' M pc ls st σ = some r) (e : Ent) (M : Nat) (ls st : List AV) (σ : St) (r : AV × St) :
    stp k e M ls st σ = some r → stp k' e M ls st σ = some r := by
  obtain ⟨op, a, b, nx, ts⟩ := e
  unfold stp
  dsimp only
  split
  all_goals try (intro hh; exact h _ _ _ _ _ _ hh)
  all_goals try (split <;> first | (intro hh; exact h _ _ _ _ _ _ hh) | (intro hh; cases hh; done) | (intro hh; exact hh) | (intro hh; obtain ⟨h1, h2⟩ := ck_some.mp hh; exact ck_some.mpr ⟨h1, h _ _ _ _ _ _ h2⟩) | (split <;> first | (intro hh; exact h _ _ _ _ _ _ hh) | (intro hh; cases hh; done) | (intro hh; exact hh)))
  all_goals try (intro hh; obtain ⟨h1, h2⟩ := ck_some.mp hh; obtain ⟨q, h3, h4⟩ := bnd_some.mp h2; exact ck_some.mpr ⟨h1, bnd_some.mpr ⟨q, h _ _ _ _ _ _ h3, h _ _ _ _ _ _ h4⟩⟩)
  intro hh; exact hh
theorem ex_succ {n M pc : Nat} {ls st : List AV} {σ : St} {r : AV × St} : ex n M pc ls st σ = some r → ex (n + 1) M pc ls st σ = some r := by
  induction n generalizing M pc ls st σ r with
  | zero => intro h; cases h
  | succ n ih => intro h; exact stp_mono (k := ex n) (k' := ex (n + 1)) (fun M pc ls st σ r hh => ih hh) _ _ _ _ _ _ h
theorem ex_le {n m M pc : Nat} {ls st : List AV} {σ : St} {r : AV × St} (hm : n ≤ m) (h : ex n M pc ls st σ = some r) : ex m M pc ls st σ = some r := by
  induction m with
  | zero => cases Nat.le_zero.mp hm; exact h
  | succ m ih =>
    by_cases e : n = m + 1
    · rw [← e]; exact h
    · exact ex_succ (ih (by omega))
/-- the run itself, as much fuel as it takes -/
noncomputable def run (M pc : Nat) (ls st : List AV) (σ : St) : Res :=
  @dite _ (∃ n, (ex n M pc ls st σ).isSome = true) (Classical.propDecidable _) (fun h => ex (Classical.choose h) M pc ls st σ) (fun _ => none)
theorem run_some {M pc : Nat} {ls st : List AV} {σ : St} {r : AV × St} : run M pc ls st σ = some r ↔ ∃ n, ex n M pc ls st σ = some r := by
  unfold run
  by_cases h : ∃ n, (ex n M pc ls st σ).isSome = true
  · rw [dif_pos h]
    have h1 := Classical.choose_spec h
    refine ⟨fun e => ⟨_, e⟩, fun ⟨n, hn⟩ => ?_⟩
    obtain ⟨r', hr'⟩ := Option.isSome_iff_exists.mp h1
    rw [hr']
    have e1 := ex_le (Nat.le_max_left n (Classical.choose h)) hn
    have e2 := ex_le (Nat.le_max_right n (Classical.choose h)) hr'
    rw [← e1, ← e2]
  · rw [dif_neg h]
    refine ⟨fun e => (by cases e), fun ⟨n, hn⟩ => absurd ⟨n, by rw [hn]; rfl⟩ h⟩
set_option maxHeartbeats 4000000 in
/-- what one step with the whole run does, some fuel does -/
theorem stp_fin (e : Ent) (M : Nat) (ls st : List AV) (σ : St) (r : AV × St) :
    stp run e M ls st σ = some r → ∃ n, stp (ex n) e M ls st σ = some r := by
  obtain ⟨op, a, b, nx, ts⟩ := e
  unfold stp
  dsimp only
  split
  all_goals try (intro hh; obtain ⟨n, hn⟩ := run_some.mp hh; exact ⟨n, hn⟩)
  all_goals try (split <;> first | (intro hh; obtain ⟨n, hn⟩ := run_some.mp hh; exact ⟨n, hn⟩) | (intro hh; cases hh; done) | (intro hh; exact ⟨0, hh⟩) | (intro hh; obtain ⟨h1, h2⟩ := ck_some.mp hh; obtain ⟨n, hn⟩ := run_some.mp h2; exact ⟨n, ck_some.mpr ⟨h1, hn⟩⟩) | (split <;> first | (intro hh; obtain ⟨n, hn⟩ := run_some.mp hh; exact ⟨n, hn⟩) | (intro hh; cases hh; done) | (intro hh; exact ⟨0, hh⟩)))
  all_goals try (intro hh; obtain ⟨h1, h2⟩ := ck_some.mp hh; obtain ⟨q, h3, h4⟩ := bnd_some.mp h2; obtain ⟨n1, e1⟩ := run_some.mp h3; obtain ⟨n2, e2⟩ := run_some.mp h4; exact ⟨max n1 n2, ck_some.mpr ⟨h1, bnd_some.mpr ⟨q, ex_le (Nat.le_max_left _ _) e1, ex_le (Nat.le_max_right _ _) e2⟩⟩⟩)
  intro hh; exact ⟨0, hh⟩
/-- a run's first step -/
theorem run_eq (M pc : Nat) (ls st : List AV) (σ : St) : run M pc ls st σ = stp run (cd M pc) M ls st σ := by
  have h1 : ∀ r, run M pc ls st σ = some r ↔ stp run (cd M pc) M ls st σ = some r := by
    intro r
    refine ⟨fun h => ?_, fun h => ?_⟩
    · obtain ⟨n, hn⟩ := run_some.mp h
      have h2 := ex_succ hn
      exact stp_mono (fun M pc ls st σ r h => run_some.mpr ⟨n, h⟩) _ _ _ _ _ _ h2
    · obtain ⟨n, hn⟩ := stp_fin _ _ _ _ _ _ h
      exact run_some.mpr ⟨n + 1, hn⟩
  cases e : stp run (cd M pc) M ls st σ with
  | some r => exact (h1 r).mpr e
  | none =>
    cases e2 : run M pc ls st σ with
    | none => rfl
    | some r => rw [(h1 r).mp e2] at e; cases e
end
section
/-! THE STORE AND THE HEAP -/
def ar (adl : List Nat) (bS : Nat) (t : AV) (v : Value) : Prop := match t with
  | (0, z, _) => ∃ x : Int32, v = .int x ∧ x.toInt = z
  | (1, _, k) => (k = 0 ∧ v = .null) ∨ ∃ a, 1 ≤ k ∧ adl[k - 1]? = some a ∧ v = .ref a
  | (2, z, _) => ∃ x : Int64, v = .long x ∧ x.toInt = z
  | (5, _, _) => v = .ref bS
  | _ => False
theorem pre_get {adl adl' : List Nat} (h : ∃ x, adl' = adl ++ x) {k a : Nat} (hk : adl[k]? = some a) : adl'[k]? = some a := by
  obtain ⟨x, rfl⟩ := h
  rw [List.getElem?_append_left (List.getElem?_eq_some_iff.mp hk).1]
  exact hk
theorem ar_pre {adl adl' : List Nat} {bS : Nat} (h : ∃ x, adl' = adl ++ x) {t : AV} {v : Value} (ha : ar adl bS t v) : ar adl' bS t v := by
  obtain ⟨g, z, k⟩ := t
  unfold ar at ha ⊢
  split at ha
  · exact ha
  · rcases ha with ha | ⟨a, h1, h2, h3⟩
    · exact Or.inl ha
    · exact Or.inr ⟨a, h1, pre_get h h2, h3⟩
  · exact ha
  · exact ha
  · exact ha.elim
/-- the claimed locals -/
def lr (adl : List Nat) (bS nL : Nat) (l : List AV) (als : Array Slot) : Prop := als.size = nL ∧ lv_wf als ∧ l.length = nL ∧ ∀ (i : Nat) (t : AV), l[i]? = some t → (t.1 = 0 ∨ t.1 = 1 ∨ t.1 = 5 ∨ (t.1 = 2 ∧ l[i + 1]? = some vH)) → ∃ v, als[i]? = some (.val v) ∧ ar adl bS t v
theorem lr_pre {adl adl' : List Nat} {bS nL : Nat} (h : ∃ x, adl' = adl ++ x) {l : List AV} {als : Array Slot} (hl : lr adl bS nL l als) : lr adl' bS nL l als :=
  ⟨hl.1, hl.2.1, hl.2.2.1, fun i t hi ht => by obtain ⟨v, h1, h2⟩ := hl.2.2.2 i t hi ht; exact ⟨v, h1, ar_pre h h2⟩⟩
def st2 (adl : List Nat) (bS : Nat) : List AV → List Value → Prop
  | [], [] => True
  | t :: ts, v :: vs => ar adl bS t v ∧ st2 adl bS ts vs
  | _, _ => False
theorem st2_cons {adl : List Nat} {bS : Nat} {t : AV} {ts : List AV} {vs : List Value} (h : st2 adl bS (t :: ts) vs) : ∃ v vs', vs = v :: vs' ∧ ar adl bS t v ∧ st2 adl bS ts vs' := by
  cases vs with
  | nil => exact h.elim
  | cons v vs => exact ⟨v, vs, rfl, h.1, h.2⟩
theorem st2_nil {adl : List Nat} {bS : Nat} {vs : List Value} (h : st2 adl bS [] vs) : vs = [] := by
  cases vs with
  | nil => rfl
  | cons v vs => exact h.elim
theorem st2_pre {adl adl' : List Nat} {bS : Nat} (h : ∃ x, adl' = adl ++ x) : ∀ {ts : List AV} {vs : List Value}, st2 adl bS ts vs → st2 adl' bS ts vs
  | [], [], _ => trivial
  | _ :: _, _ :: _, hs => ⟨ar_pre h hs.1, st2_pre h hs.2⟩
  | [], _ :: _, hs => hs.elim
  | _ :: _, [], hs => hs.elim
theorem st2_len {adl : List Nat} {bS : Nat} : ∀ {ts : List AV} {vs : List Value}, st2 adl bS ts vs → vs.length = ts.length
  | [], [], _ => rfl
  | _ :: _, _ :: _, hs => by simp [st2_len hs.2]
  | [], _ :: _, hs => hs.elim
  | _ :: _, [], hs => hs.elim
theorem st2_take {adl : List Nat} {bS : Nat} : ∀ {ts : List AV} {vs : List Value} (n : Nat), st2 adl bS ts vs → st2 adl bS (ts.take n) (vs.take n)
  | [], [], n, _ => by simp [st2]
  | _ :: _, _ :: _, 0, _ => by simp [st2]
  | _ :: _, _ :: _, n + 1, hs => ⟨hs.1, st2_take n hs.2⟩
  | [], _ :: _, _, hs => hs.elim
  | _ :: _, [], _, hs => hs.elim
theorem st2_drop {adl : List Nat} {bS : Nat} : ∀ {ts : List AV} {vs : List Value} (n : Nat), st2 adl bS ts vs → st2 adl bS (ts.drop n) (vs.drop n)
  | [], [], n, _ => by simp [st2]
  | _ :: _, _ :: _, 0, hs => hs
  | _ :: _, _ :: _, n + 1, hs => st2_drop n hs.2
  | [], _ :: _, _, hs => hs.elim
  | _ :: _, [], _, hs => hs.elim
theorem st2_app {adl : List Nat} {bS : Nat} {us : List AV} {ws : List Value} (h2 : st2 adl bS us ws) : ∀ {ts : List AV} {vs : List Value}, st2 adl bS ts vs → st2 adl bS (ts ++ us) (vs ++ ws)
  | [], [], _ => h2
  | _ :: _, _ :: _, hs => ⟨hs.1, st2_app h2 hs.2⟩
  | [], _ :: _, hs => hs.elim
  | _ :: _, [], hs => hs.elim
theorem st2_rev {adl : List Nat} {bS : Nat} : ∀ {ts : List AV} {vs : List Value}, st2 adl bS ts vs → st2 adl bS ts.reverse vs.reverse
  | [], [], _ => trivial
  | t :: ts, v :: vs, hs => by
    rw [List.reverse_cons, List.reverse_cons]
    exact st2_app (us := [t]) (ws := [v]) ⟨hs.1, trivial⟩ (st2_rev hs.2)
  | [], _ :: _, hs => hs.elim
  | _ :: _, [], hs => hs.elim
theorem st2_get {adl : List Nat} {bS : Nat} : ∀ {ts : List AV} {vs : List Value}, st2 adl bS ts vs → ∀ (i : Nat) (t : AV), ts[i]? = some t → ∃ v, vs[i]? = some v ∧ ar adl bS t v
  | [], [], _, i, t, h => by simp at h
  | _ :: _, v :: _, hs, 0, t, h => by
    simp only [List.getElem?_cons_zero, Option.some.injEq] at h
    subst h
    exact ⟨v, rfl, hs.1⟩
  | _ :: _, _ :: _, hs, i + 1, t, h => by
    simp only [List.getElem?_cons_succ] at h ⊢
    exact st2_get hs.2 i t h
  | [], _ :: _, hs, _, _, _ => hs.elim
  | _ :: _, [], hs, _, _, _ => hs.elim
/-- a cell -/
def cr (adl : List Nat) (bS cI cZ cO kd sz : Nat) (ri : Nat → Int) (rf : Nat → Nat) (e : va_E) : Prop :=
  (kd < 4 ∧ sz = cN kd ∧ ∃ fs : List Value, e = .inr (kd, fs) ∧ fs.length = sz ∧ ∀ j, j < sz → ∃ v, fs[j]? = some v ∧ ar adl bS (if isr kd j = true then vR (rf j) else vI (ri j)) v) ∨
  (kd = 4 ∧ sz ≤ 1000 ∧ ∃ f : Nat → Int32, e = .inl (cI, sz, .inl f) ∧ ∀ j, j < sz → (f j).toInt = ri j) ∨
  (kd = 5 ∧ sz ≤ 1000 ∧ ∃ f : Nat → Int32, e = .inl (cZ, sz, .inl f) ∧ ∀ j, j < sz → (f j).toInt = ri j) ∨
  (kd = 6 ∧ sz ≤ 1000 ∧ ∃ f : Nat → Option Nat, e = .inl (cO, sz, .inr (.inr (.inr (.inr f)))) ∧ ∀ j, j < sz → (rf j = 0 ∧ f j = none) ∨ ∃ a, 1 ≤ rf j ∧ adl[rf j - 1]? = some a ∧ f j = some a)
theorem cr_pre {adl adl' : List Nat} {bS cI cZ cO kd sz : Nat} {ri : Nat → Int} {rf : Nat → Nat} {e : va_E} (h : ∃ x, adl' = adl ++ x) (hc : cr adl bS cI cZ cO kd sz ri rf e) : cr adl' bS cI cZ cO kd sz ri rf e := by
  rcases hc with ⟨h1, h2, fs, h3, h4, h5⟩ | hc | hc | ⟨h1, h2, f, h3, h4⟩
  · exact Or.inl ⟨h1, h2, fs, h3, h4, fun j hj => by obtain ⟨v, a, b⟩ := h5 j hj; exact ⟨v, a, ar_pre h b⟩⟩
  · exact Or.inr (Or.inl hc)
  · exact Or.inr (Or.inr (Or.inl hc))
  · refine Or.inr (Or.inr (Or.inr ⟨h1, h2, f, h3, fun j hj => ?_⟩))
    rcases h4 j hj with a | ⟨a, b, c, d⟩
    · exact Or.inl a
    · exact Or.inr ⟨a, b, pre_get h c, d⟩
def wd (adl : List Nat) (bS cI cZ cO : Nat) (σ : St) (ws : va_W) : Prop := ws.length = nn σ ∧ adl.length = nn σ ∧ ∀ k, k < nn σ → ∃ a e, adl[k]? = some a ∧ ws[k]? = some (a, e) ∧ cr adl bS cI cZ cO (sk σ (k + 1)).1 (sk σ (k + 1)).2 (gt σ (k + 1)) (gr σ (k + 1)) e
/-- one cell anew -/
theorem wd_set {adl : List Nat} {bS cI cZ cO : Nat} {σ σ1 : St} {ws : va_W} (h : wd adl bS cI cZ cO σ ws) {q a : Nat} {e : va_E} (hq : 1 ≤ q) (hqn : q ≤ nn σ) (ha : adl[q - 1]? = some a) (hn : nn σ1 = nn σ) (hs : sk σ1 = sk σ)
    (hg : ∀ i, i ≠ q → gt σ1 i = gt σ i) (hr : ∀ i, i ≠ q → gr σ1 i = gr σ i) (hc : cr adl bS cI cZ cO (sk σ q).1 (sk σ q).2 (gt σ1 q) (gr σ1 q) e) : wd adl bS cI cZ cO σ1 (ws.set (q - 1) (a, e)) := by
  obtain ⟨h1, h2, h3⟩ := h
  refine ⟨by rw [List.length_set, h1, hn], by rw [h2, hn], fun k hk => ?_⟩
  rw [hn] at hk
  rw [hs]
  by_cases e1 : k = q - 1
  · subst e1
    have e2 : q - 1 + 1 = q := by omega
    rw [e2]
    exact ⟨a, e, ha, by rw [List.getElem?_set_self (by omega)], hc⟩
  · obtain ⟨a', e', g1, g2, g3⟩ := h3 k hk
    have e2 : k + 1 ≠ q := by omega
    exact ⟨a', e', g1, by rw [List.getElem?_set_ne (by omega)]; exact g2, by rw [hg _ e2, hr _ e2]; exact g3⟩
/-- one cell more -/
theorem wd_push {adl : List Nat} {bS cI cZ cO : Nat} {σ : St} {ws : va_W} (h : wd adl bS cI cZ cO σ ws) {a : Nat} {e : va_E} {kd sz : Nat} (hc : cr adl bS cI cZ cO kd sz (fun _ => 0) (fun _ => 0) e) : wd (adl ++ [a]) bS cI cZ cO (al σ kd sz) (ws ++ [(a, e)]) := by
  obtain ⟨h1, h2, h3⟩ := h
  have hnn : nn (al σ kd sz) = nn σ + 1 := rfl
  refine ⟨by rw [List.length_append, h1, hnn]; rfl, by rw [List.length_append, h2, hnn]; rfl, fun k hk => ?_⟩
  rw [hnn] at hk
  have e0 : sk (al σ kd sz) (k + 1) = if k + 1 = nn σ + 1 then (kd, sz) else sk σ (k + 1) := rfl
  have e1 : gt (al σ kd sz) (k + 1) = if k + 1 = nn σ + 1 then (fun _ => 0) else gt σ (k + 1) := rfl
  have e2 : gr (al σ kd sz) (k + 1) = if k + 1 = nn σ + 1 then (fun _ => 0) else gr σ (k + 1) := rfl
  by_cases hx : k = nn σ
  · subst hx
    rw [e0, e1, e2, if_pos rfl, if_pos rfl, if_pos rfl]
    exact ⟨a, e, by rw [List.getElem?_append_right (by omega), h2]; simp, by rw [List.getElem?_append_right (by omega), h1]; simp, cr_pre ⟨_, rfl⟩ hc⟩
  · rw [e0, e1, e2, if_neg (by omega), if_neg (by omega), if_neg (by omega)]
    obtain ⟨a', e', g1, g2, g3⟩ := h3 k (by omega)
    exact ⟨a', e', by rw [List.getElem?_append_left (by omega)]; exact g1, by rw [List.getElem?_append_left (by omega)]; exact g2, cr_pre ⟨_, rfl⟩ g3⟩
theorem wd_at {adl : List Nat} {bS cI cZ cO : Nat} {σ : St} {ws : va_W} (h : wd adl bS cI cZ cO σ ws) {q kd : Nat} (hf : fok σ q kd) : ∃ a e, adl[q - 1]? = some a ∧ ws[q - 1]? = some (a, e) ∧ cr adl bS cI cZ cO kd (sk σ q).2 (gt σ q) (gr σ q) e := by
  obtain ⟨h1, h2, h3⟩ := hf
  obtain ⟨a, e, g1, g2, g3⟩ := h.2.2 (q - 1) (by omega)
  rw [show q - 1 + 1 = q by omega, h3] at g3
  exact ⟨a, e, g1, g2, g3⟩
/-! locals: a value stored -/
def lvl (als : Array Slot) : List (Nat × Value) := (List.range als.size).filterMap fun i => match (als[i]? : Option Slot) with
  | some (Slot.val v) => some (i, v)
  | _ => none
theorem lvl_mem {als : Array Slot} {i : Nat} {v : Value} : (i, v) ∈ lvl als ↔ als[i]? = some (.val v) := by
  unfold lvl
  rw [List.mem_filterMap]
  constructor
  · rintro ⟨j, hj, h⟩
    split at h
    · next w hw => cases h; exact hw
    · cases h
  · intro h
    exact ⟨i, List.mem_range.mpr (lv_lt h), by rw [h]⟩
theorem lvl_has {als : Array Slot} {nL : Nat} (hs : als.size = nL) (hw : lv_wf als) : lv_has als nL (lvl als) := ⟨hs, hw, fun q hq => lvl_mem.mp hq⟩
theorem lr_set1 {adl : List Nat} {bS nL : Nat} {l : List AV} {als als' : Array Slot} {i : Nat} {t : AV} {v : Value} (h : lr adl bS nL l als) (hi : i < nL) (ht : t.1 = 0 ∨ t.1 = 1) (ha : ar adl bS t v)
    (h' : lv_has als' nL ((i, v) :: (lvl als).filter (fun q => !(q.1 == i) && !(q.1 + 1 == i && q.2.category == 2)))) : lr adl bS nL (l.set i t) als' := by
  obtain ⟨h1, h2, h3, h4⟩ := h
  obtain ⟨g1, g2, g3⟩ := h'
  refine ⟨g1, g2, by rw [List.length_set]; exact h3, fun j u hj hu => ?_⟩
  by_cases e : j = i
  · subst e
    rw [List.getElem?_set_self (by omega)] at hj
    cases hj
    exact ⟨v, g3 _ List.mem_cons_self, ha⟩
  · rw [List.getElem?_set_ne (fun q => e q.symm)] at hj
    have hu' : u.1 = 0 ∨ u.1 = 1 ∨ u.1 = 5 ∨ (u.1 = 2 ∧ l[j + 1]? = some vH) := by
      rcases hu with a | a | a | ⟨a, b⟩
      · exact Or.inl a
      · exact Or.inr (Or.inl a)
      · exact Or.inr (Or.inr (Or.inl a))
      · refine Or.inr (Or.inr (Or.inr ⟨a, ?_⟩))
        by_cases e2 : j + 1 = i
        · rw [e2, List.getElem?_set_self (by omega)] at b
          rcases ht with c | c <;> (cases b; cases c)
        · rwa [List.getElem?_set_ne (fun q => e2 q.symm)] at b
    obtain ⟨w, k1, k2⟩ := h4 j u hj hu'
    refine ⟨w, ?_, k2⟩
    refine g3 (j, w) (List.mem_cons_of_mem _ (List.mem_filter.mpr ⟨lvl_mem.mpr k1, ?_⟩))
    have e0 : (j == i) = false := beq_eq_false_iff_ne.mpr e
    have e9 : (j + 1 == i && w.category == 2) = false := by
      by_cases e2 : j + 1 = i
      · have hc : w.category ≠ 2 := by
          obtain ⟨g, z, k⟩ := u
          unfold ar at k2
          rcases hu with a | a | a | ⟨a, b⟩
          · cases a; obtain ⟨x, rfl, -⟩ := k2; show (1 : Nat) ≠ 2; decide
          · cases a
            rcases k2 with ⟨-, rfl⟩ | ⟨a, -, -, rfl⟩ <;> (show (1 : Nat) ≠ 2; decide)
          · cases a; cases k2; show (1 : Nat) ≠ 2; decide
          · rw [e2, List.getElem?_set_self (by omega)] at b
            rcases ht with c | c <;> (cases b; cases c)
        simp [hc]
      · simp [e2]
    simp only [e0, e9]
    rfl
theorem lr_set2 {adl : List Nat} {bS nL : Nat} {l : List AV} {als als' : Array Slot} {i : Nat} {z : Int} {k0 : Nat} {v : Value} (h : lr adl bS nL l als) (hi : i + 1 < nL) (ha : ar adl bS (2, z, k0) v)
    (h' : lv_has als' nL ((i, v) :: (lvl als).filter (fun q => !(q.1 == i) && (!(q.1 == i + 1) && !(q.1 + 1 == i && q.2.category == 2))))) : lr adl bS nL ((l.set i (2, z, k0)).set (i + 1) vH) als' := by
  obtain ⟨h1, h2, h3, h4⟩ := h
  obtain ⟨g1, g2, g3⟩ := h'
  refine ⟨g1, g2, by rw [List.length_set, List.length_set]; exact h3, fun j u hj hu => ?_⟩
  by_cases e : j = i
  · subst e
    rw [List.getElem?_set_ne (by omega), List.getElem?_set_self (by omega)] at hj
    cases hj
    exact ⟨v, g3 _ List.mem_cons_self, ha⟩
  · by_cases e1 : j = i + 1
    · subst e1
      rw [List.getElem?_set_self (by rw [List.length_set]; omega)] at hj
      cases hj
      rcases hu with a | a | a | ⟨a, b⟩ <;> cases a
    · rw [List.getElem?_set_ne (fun q => e1 q.symm), List.getElem?_set_ne (fun q => e q.symm)] at hj
      have hu' : (u.1 = 0 ∨ u.1 = 1 ∨ u.1 = 5 ∨ (u.1 = 2 ∧ l[j + 1]? = some vH)) ∧ (j + 1 = i → u.1 ≠ 2) := by
        rcases hu with a | a | a | ⟨a, b⟩
        · exact ⟨Or.inl a, fun _ q => by rw [a] at q; cases q⟩
        · exact ⟨Or.inr (Or.inl a), fun _ q => by rw [a] at q; cases q⟩
        · exact ⟨Or.inr (Or.inr (Or.inl a)), fun _ q => by rw [a] at q; cases q⟩
        · by_cases e2 : j + 1 = i
          · rw [e2, List.getElem?_set_ne (by omega), List.getElem?_set_self (by omega)] at b
            cases b
          · rw [List.getElem?_set_ne (by omega), List.getElem?_set_ne (fun q => e2 q.symm)] at b
            exact ⟨Or.inr (Or.inr (Or.inr ⟨a, b⟩)), fun q => absurd q e2⟩
      obtain ⟨w, k1, k2⟩ := h4 j u hj hu'.1
      refine ⟨w, ?_, k2⟩
      refine g3 (j, w) (List.mem_cons_of_mem _ (List.mem_filter.mpr ⟨lvl_mem.mpr k1, ?_⟩))
      have e0 : (j == i) = false := beq_eq_false_iff_ne.mpr e
      have e3 : (j == i + 1) = false := beq_eq_false_iff_ne.mpr e1
      have e9 : (j + 1 == i && w.category == 2) = false := by
        by_cases e2 : j + 1 = i
        · have hc : w.category ≠ 2 := by
            have hn2 := hu'.2 e2
            obtain ⟨g, z, k⟩ := u
            unfold ar at k2
            rcases hu'.1 with a | a | a | ⟨a, b⟩
            · cases a; obtain ⟨x, rfl, -⟩ := k2; show (1 : Nat) ≠ 2; decide
            · cases a
              rcases k2 with ⟨-, rfl⟩ | ⟨a, -, -, rfl⟩ <;> (show (1 : Nat) ≠ 2; decide)
            · cases a; cases k2; show (1 : Nat) ≠ 2; decide
            · exact absurd a hn2
          simp [hc]
        · simp [e2]
      simp only [e0, e3, e9]
      rfl
/-- the locals with which a method begins -/
theorem lr_entry {adl : List Nat} {bS : Nat} {as : List AV} {vs : List Value} (h : st2 adl bS as vs) (hc : ∀ t ∈ as, t.1 = 0 ∨ t.1 = 1 ∨ t.1 = 5) {n : Nat} (hn : as.length ≤ n) :
    lr adl bS n (pad as n) ((lg_sl vs ++ List.replicate (n - (lg_sl vs).length) Slot.unset).toArray) := by
  have hcat : ∀ v ∈ vs, v.category = 1 := by
    intro v hv
    obtain ⟨i, hi⟩ := List.getElem?_of_mem hv
    have hl := st2_len h
    have hil : i < as.length := by rw [← hl]; exact (List.getElem?_eq_some_iff.mp hi).1
    have ht : as[i]? = some as[i] := List.getElem?_eq_getElem hil
    obtain ⟨w, h1, h2⟩ := st2_get h i _ ht
    rw [hi] at h1
    cases h1
    have := hc _ (List.mem_of_getElem? ht)
    revert h2 this
    generalize as[i] = t
    obtain ⟨g, z, k⟩ := t
    intro h2 this
    unfold ar at h2
    rcases this with a | a | a <;> cases a
    · obtain ⟨x, rfl, -⟩ := h2; rfl
    · rcases h2 with ⟨-, rfl⟩ | ⟨a, -, -, rfl⟩ <;> rfl
    · cases h2; rfl
  have hsl : ∀ (vs : List Value), (∀ v ∈ vs, v.category = 1) → lg_sl vs = vs.map Slot.val := by
    intro vs
    induction vs with
    | nil => intro _; rfl
    | cons v vs ih =>
      intro h
      have h1 := h v List.mem_cons_self
      have h2 := ih fun w hw => h w (List.mem_cons_of_mem _ hw)
      simp only [lg_sl, List.flatMap_cons, List.map_cons] at h2 ⊢
      rw [h2, if_neg (by rw [h1]; decide)]
      rfl
  have hargs : ∀ (vs : List Value) (k : Nat), (∀ v ∈ vs, v.category = 1) → ∀ (i : Nat) (v : Value), vs[i]? = some v → (k + i, v) ∈ lv_args k vs := by
    intro vs
    induction vs with
    | nil => intro k _ i v h; simp at h
    | cons w vs ih =>
      intro k h i v hi
      have h1 := h w List.mem_cons_self
      unfold lv_args
      rw [if_neg (by rw [h1]; decide)]
      cases i with
      | zero => simp only [List.getElem?_cons_zero, Option.some.injEq] at hi; subst hi; exact List.mem_cons_self
      | succ i =>
        simp only [List.getElem?_cons_succ] at hi
        refine List.mem_cons_of_mem _ ?_
        have := ih (k + 1) (fun w hw => h w (List.mem_cons_of_mem _ hw)) i v hi
        rwa [show k + (i + 1) = k + 1 + i by omega]
  have hl := st2_len h
  have e := lv_entry vs (n := n) (by rw [hsl vs hcat, List.length_map]; omega)
  obtain ⟨e1, e2, e3⟩ := e
  refine ⟨e1, e2, by unfold pad; rw [List.length_append, List.length_replicate]; omega, fun i t hi ht => ?_⟩
  unfold pad at hi
  by_cases hia : i < as.length
  · rw [List.getElem?_append_left hia] at hi
    obtain ⟨v, h1, h2⟩ := st2_get h i t hi
    refine ⟨v, ?_, h2⟩
    have := e3 _ (hargs vs 0 hcat i v h1)
    simpa using this
  · rw [List.getElem?_append_right (by omega)] at hi
    have := List.eq_of_mem_replicate (List.mem_of_getElem? hi)
    subst this
    rcases ht with a | a | a | ⟨a, -⟩ <;> cases a
end
section
theorem lookup_mem {α : Type} {l : List ((Nat × Nat) × α)} {k : Nat × Nat} {v : α} (h : l.lookup k = some v) : (k, v) ∈ l := by
  induction l with
  | nil => cases h
  | cons q l ih =>
    rw [List.lookup_cons] at h
    split at h
    · next hq =>
      have hq' : k = q.1 := by simpa using hq
      cases h
      rw [hq']
      exact List.mem_cons_self
    · exact List.mem_cons_of_mem _ (ih h)
theorem i32_of {n : Int} (h1 : -2147483648 ≤ n) (h2 : n < 2147483648) : (Int32.ofInt n).toInt = n := by
  rw [Int32.toInt_ofInt]
  exact Int.bmod_eq_of_le (by simp [Int32.size]; omega) (by simp [Int32.size]; omega)
theorem lg_some {ls : List AV} {i : Nat} {t : AV} (h : lg ls i = t) (ht : t.1 ≠ 9) : ls[i]? = some t := by
  unfold lg at h
  cases e : ls[i]? with
  | none => rw [e] at h; exact absurd (by rw [← h]; rfl) ht
  | some u => rw [e] at h; rw [← h]; rfl
theorem lr_get {adl : List Nat} {bS nL : Nat} {l : List AV} {als : Array Slot} (hl : lr adl bS nL l als) {i g : Nat} {z : Int} {q : Nat} (hg : lg l i = (g, z, q)) (ht : g = 0 ∨ g = 1 ∨ g = 5) : ∃ v, als[i]? = some (.val v) ∧ ar adl bS (g, z, q) v :=
  hl.2.2.2 i _ (lg_some hg (by rcases ht with rfl | rfl | rfl <;> (intro h; cases h))) (by rcases ht with h | h | h <;> simp [h])
theorem vH_of {ls : List AV} {i : Nat} {t : AV} (h : ls[i]? = some t) (h3 : t = vH) : ls[i]? = some vH := by rw [h, h3]
theorem lr_get2 {adl : List Nat} {bS nL : Nat} {l : List AV} {als : Array Slot} (hl : lr adl bS nL l als) {i : Nat} {z y : Int} {q q2 : Nat} (hg : lg l i = (2, z, q)) (hg2 : lg l (i + 1) = (3, y, q2)) (hy : (3, y, q2) = vH) : ∃ v, als[i]? = some (.val v) ∧ ar adl bS (2, z, q) v :=
  hl.2.2.2 i _ (lg_some hg (by intro h; cases h)) (Or.inr (Or.inr (Or.inr ⟨rfl, by rw [lg_some hg2 (by intro h; cases h), hy]⟩)))
theorem wr_rem (x y : Int) : Int.bmod (x - Int.bmod (Int.bmod (x.tdiv y) (2 ^ 32) * y) (2 ^ 32)) (2 ^ 32) = wr (x.tmod y) := by
  unfold wr
  rw [Int.bmod_mul_bmod, Int.sub_bmod_bmod]
  congr 1
  have := Int.tmod_def x y
  rw [this, Int.mul_comm]
theorem wl_rem (x y : Int) : Int.bmod (x - Int.bmod (Int.bmod (x.tdiv y) (2 ^ 64) * y) (2 ^ 64)) (2 ^ 64) = wl (x.tmod y) := by
  unfold wl
  rw [Int.bmod_mul_bmod, Int.sub_bmod_bmod]
  congr 1
  have := Int.tmod_def x y
  rw [this, Int.mul_comm]
theorem lcmp_eq (x y : Int64) : (lg_cmp x y).toInt = lCmp x.toInt y.toInt := by
  unfold lg_cmp lCmp
  have e1 : (x > y) ↔ y.toInt < x.toInt := Int64.lt_iff_toInt_lt
  have e2 : x = y ↔ x.toInt = y.toInt := Int64.toInt_inj.symm
  by_cases h1 : y.toInt < x.toInt
  · rw [if_pos (e1.mpr h1), if_neg (by omega), if_neg (by omega)]; rfl
  · rw [if_neg (fun h => h1 (e1.mp h))]
    by_cases h2 : x.toInt = y.toInt
    · rw [if_pos (e2.mpr h2), if_neg (by omega), if_pos h2]; rfl
    · rw [if_neg (fun h => h2 (e2.mp h)), if_pos (by omega)]; rfl
theorem tg_eq {pc : Nat} {off : Int} (h : tgo pc off = true) : (pc : Int) + off = (tg pc off : Int) := by
  have := of_decide_eq_true h
  unfold tg
  omega
section CV
variable {x y : Int} {x1 y1 : Int32}
theorem cv_eq (h : x1.toInt = x) : x1 = 0 ↔ x = 0 := by rw [← h, ← Int32.toInt_inj]; rfl
theorem cv_ne (h : x1.toInt = x) : (¬ x1 = 0) ↔ ¬ x = 0 := by rw [cv_eq h]
theorem cv_lt (h : x1.toInt = x) : x1 < 0 ↔ x < 0 := by rw [← h, Int32.lt_iff_toInt_lt]; rfl
theorem cv_ge (h : x1.toInt = x) : 0 ≤ x1 ↔ ¬ x < 0 := by rw [← h, Int32.le_iff_toInt_le, Int.not_lt]; rfl
theorem cv_gt (h : x1.toInt = x) : 0 < x1 ↔ 0 < x := by rw [← h, Int32.lt_iff_toInt_lt]; rfl
theorem cv_le (h : x1.toInt = x) : x1 ≤ 0 ↔ ¬ 0 < x := by rw [← h, Int32.le_iff_toInt_le, Int.not_lt]; rfl
theorem cv_eq2 (h1 : y1.toInt = y) (h : x1.toInt = x) : x1 = y1 ↔ x = y := by rw [← h, ← h1, ← Int32.toInt_inj]
theorem cv_ne2 (h1 : y1.toInt = y) (h : x1.toInt = x) : (¬ x1 = y1) ↔ ¬ x = y := by rw [cv_eq2 h1 h]
theorem cv_lt2 (h1 : y1.toInt = y) (h : x1.toInt = x) : x1 < y1 ↔ x < y := by rw [← h, ← h1, Int32.lt_iff_toInt_lt]
theorem cv_ge2 (h1 : y1.toInt = y) (h : x1.toInt = x) : y1 ≤ x1 ↔ ¬ x < y := by rw [← h, ← h1, Int32.le_iff_toInt_le, Int.not_lt]
theorem cv_gt2 (h1 : y1.toInt = y) (h : x1.toInt = x) : y1 < x1 ↔ y < x := by rw [← h, ← h1, Int32.lt_iff_toInt_lt]
theorem cv_le2 (h1 : y1.toInt = y) (h : x1.toInt = x) : x1 ≤ y1 ↔ ¬ y < x := by rw [← h, ← h1, Int32.le_iff_toInt_le, Int.not_lt]
end CV
theorem swr_out {pc d : Nat} {x : Int} : ∀ {os : List Int} {lo : Int}, x < lo ∨ lo + os.length ≤ x → sw (swr pc lo os) d x = d
  | [], lo, _ => rfl
  | o :: os, lo, h => by
    have ih := swr_out (pc := pc) (d := d) (x := x) (os := os) (lo := lo + 1) (by simp only [List.length_cons] at h; omega)
    unfold sw at ih ⊢
    unfold swr
    rw [List.lookup_cons]
    have e : (x == lo) = false := beq_eq_false_iff_ne.mpr (by simp only [List.length_cons] at h; omega)
    rw [e]
    exact ih
theorem swr_in {pc d : Nat} {x : Int} : ∀ {os : List Int} {lo : Int} {k : Nat}, x = lo + k → (h : k < os.length) → sw (swr pc lo os) d x = tg pc os[k]
  | [], lo, k, _, h => by simp at h
  | o :: os, lo, 0, e, h => by
    unfold sw swr
    rw [List.lookup_cons]
    have e1 : (x == lo) = true := beq_iff_eq.mpr (by omega)
    rw [e1]
    rfl
  | o :: os, lo, k + 1, e, h => by
    have ih := swr_in (pc := pc) (d := d) (x := x) (os := os) (lo := lo + 1) (k := k) (by omega) (by simpa using h)
    unfold sw at ih ⊢
    unfold swr
    rw [List.lookup_cons]
    have e1 : (x == lo) = false := beq_eq_false_iff_ne.mpr (by omega)
    rw [e1]
    simpa using ih
theorem swl_off {pc : Nat} {d : Int} : ∀ (ps : List (Int × Int)) (x : Int), tgo pc d = true → ps.all (fun q => tgo pc q.2) = true → ∃ off, tgo pc off = true ∧ sw (swl pc ps) (tg pc d) x = tg pc off ∧ Op.lookupswitch.offset ps d x = off
  | [], x, h, _ => ⟨d, h, rfl, rfl⟩
  | (a, o) :: ps, x, h, ha => by
    simp only [List.all_cons, Bool.and_eq_true] at ha
    obtain ⟨off, h1, h2, h3⟩ := swl_off ps x h ha.2
    by_cases e : x = a
    · refine ⟨o, ha.1, ?_, ?_⟩
      · unfold sw swl
        rw [List.map_cons, List.lookup_cons]
        have e1 : (x == a) = true := beq_iff_eq.mpr e
        simp only [e1]
        rfl
      · rw [Op.lookupswitch.offset, if_pos e.symm]
    · refine ⟨off, h1, ?_, ?_⟩
      · unfold sw swl at h2 ⊢
        rw [List.map_cons, List.lookup_cons]
        have e1 : (x == a) = false := beq_eq_false_iff_ne.mpr e
        simp only [e1]
        exact h2
      · show Op.lookupswitch.offset ((a, o) :: ps) d x = off
        rw [Op.lookupswitch.offset, if_neg (fun z => e z.symm)]
        exact h3
/-! EACH INSTRUCTION OF THE DATA IS THE MACHINE'S -/
def gtys (cI cZ cO : Nat) : List (ClassId × FieldType) := [(cI, .int), (cZ, .boolean), (cO, .object RX0)]
/-- a method's end -/
def en (M : Nat) (r : AV) (cst : List Value) (pc : Nat) : Prop :=
  (mk M = 0 ∧ r = vU ∧ cst = [] ∧ decode (mb M) pc = .ok (.return_, 1)) ∨
  ((mk M = 1 ∨ mk M = 2) ∧ ∃ v : Int32, r = vI v.toInt ∧ cst = [.int v] ∧ (mk M = 2 → v = 0 ∨ v = 1) ∧ decode (mb M) pc = .ok (.ireturn, 1)) ∨
  (mk M = 3 ∧ ∃ v : Int64, r = vL v.toInt ∧ cst = [.long v] ∧ decode (mb M) pc = .ok (.lreturn, 1))
/-- the world, the room used, the script -/
def wp (adl0 : List Nat) (bS cI cZ cO L : Nat) (xs : Nat → Int32) (M : Nat) (s : State) (D : va_G) (A : Nat → Prop) (fc fs : Nat) (σ' σ : St) (adl : List Nat) (H : Heap) (locs : List Loc) (cells slots : Nat) : Prop :=
  ∃ ws : va_W, (∃ x, adl = adl0 ++ x) ∧ wd adl bS cI cZ cO σ ws ∧ va_P D vwc ws H ∧ va_D A ws ∧ va_S A s.heap H locs ∧ cells + nn σ' = fc + nn σ ∧ slots + nt σ' = fs + nt σ ∧ nn σ ≤ nn σ' ∧ nt σ ≤ nt σ' ∧ (mo M = 4 → sl σ = L ∧ ∀ j : Nat, j < L → (xs j).toInt = sx σ j)
def cx (p : Program) (R : Room) (s : State) (m : MethodId) (args : Array Value) (meth : Method) (c : Code) (D : va_G) (A : Nat → Prop) (bS cI cZ cO L : Nat) (xs : Nat → Int32) (fc fs M : Nat) : Prop :=
  p.tables.exec = Jvm.exec ∧ c.code = mb M ∧ c.maxLocals = ml M ∧ s.vm.findClass (oS (mo M)) = some m.cls ∧ (∀ w ∈ gw, w.before args s = true) ∧ (∀ w ∈ nst, va_Nw w s) ∧ va_AO RX0 s ∧ ((my M).name = "<init>" → meth.name = "<init>") ∧ va_K D vwc (gtys cI cZ cO) s ∧ (∀ q : Nat, s.heap.size ≤ q → A q) ∧ (mo M = 4 → L < 2 ^ 31 ∧ va_X bS L xs s s.heap ∧ bS < s.heap.size ∧ ¬ A bS) ∧ (mf M ≤ R.frames ∧ mlo M ≤ R.locals ∧ fc ≤ R.cells ∧ fs ≤ R.slots)
def he (p : Program) (l : Launch) (e : Env) (R : Room) (s : State) (m : MethodId) (args : Array Value) (below : List Frame) (meth : Method) (c : Code) (D : va_G) (A : Nat → Prop) (bS cI cZ cO L : Nat) (xs : Nat → Int32) (Q : State → Prop) (adl0 : List Nat) (fc fs M : Nat) (r : AV) (σ' : St) : Prop :=
  ∀ (adl : List Nat) (H : Heap) (locs : List Loc) (als : Array Slot) (cst : List Value) (pc : Nat), wp adl0 bS cI cZ cO L xs M s D A fc fs σ' σ' adl H locs fc fs → en M r cst pc → W p l e R s m args below meth c H locs fc fs Q (F0 m pc als cst)
/-- from here on the machine comes to the method's end, with the answer and store of the run -/
def simAt (M pc : Nat) (ls st : List AV) (σ : St) (r : AV) (σ' : St) : Prop :=
  ∀ (p : Program) (l : Launch) (e : Env) (R : Room) (s : State) (m : MethodId) (args : Array Value) (below : List Frame) (meth : Method) (c : Code) (D : va_G) (A : Nat → Prop) (bS cI cZ cO L : Nat) (xs : Nat → Int32) (Q : State → Prop) (adl0 : List Nat) (fc fs : Nat),
    cx p R s m args meth c D A bS cI cZ cO L xs fc fs M → he p l e R s m args below meth c D A bS cI cZ cO L xs Q adl0 fc fs M r σ' →
    ∀ (adl : List Nat) (H : Heap) (locs : List Loc) (cells slots : Nat) (als : Array Slot) (cst : List Value), wp adl0 bS cI cZ cO L xs M s D A fc fs σ' σ adl H locs cells slots → lr adl bS (ml M) ls als → st2 adl bS st cst → W p l e R s m args below meth c H locs cells slots Q (F0 m pc als cst)

section SI
variable {M pc : Nat} {ls st : List AV} {σ σ' : St} {r : AV}

theorem s_iconst {n : Int} (hn : -1 ≤ n ∧ n ≤ 5) (hd : decode (mb M) pc = .ok (.iconst n, 1)) (hk : simAt M (pc + 1) ls (vI n :: st) σ r σ') : simAt M pc ls st σ r σ' := by
  intro p l e R s m args below meth c D A bS cI cZ cO L xs Q adl0 fc fs C E adl H locs cells slots als cst P hl hs
  refine lv_iconst (v := Int32.ofInt n) C.1 C.2.1 hd rfl ?_
  exact hk p l e R s m args below meth c D A bS cI cZ cO L xs Q adl0 fc fs C E adl H locs cells slots als _ P hl ⟨⟨_, rfl, by exact i32_of (by omega) (by omega)⟩, hs⟩

theorem s_bipush {n : Int} (hn : -128 ≤ n ∧ n ≤ 127) (hd : decode (mb M) pc = .ok (.bipush n, 2)) (hk : simAt M (pc + 2) ls (vI n :: st) σ r σ') : simAt M pc ls st σ r σ' := by
  intro p l e R s m args below meth c D A bS cI cZ cO L xs Q adl0 fc fs C E adl H locs cells slots als cst P hl hs
  refine lv_bipush C.1 C.2.1 hd rfl ?_
  exact hk p l e R s m args below meth c D A bS cI cZ cO L xs Q adl0 fc fs C E adl H locs cells slots als _ P hl ⟨⟨_, rfl, by rw [Int8.toInt_toInt32, Int8.toInt_ofInt]; exact Int.bmod_eq_of_le (by simp [Int8.size]; omega) (by simp [Int8.size]; omega)⟩, hs⟩

theorem s_sipush {n : Int} (hn : -32768 ≤ n ∧ n ≤ 32767) (hd : decode (mb M) pc = .ok (.sipush n, 3)) (hk : simAt M (pc + 3) ls (vI n :: st) σ r σ') : simAt M pc ls st σ r σ' := by
  intro p l e R s m args below meth c D A bS cI cZ cO L xs Q adl0 fc fs C E adl H locs cells slots als cst P hl hs
  refine lv_sipush C.1 C.2.1 hd rfl ?_
  exact hk p l e R s m args below meth c D A bS cI cZ cO L xs Q adl0 fc fs C E adl H locs cells slots als _ P hl ⟨⟨_, rfl, by rw [Int16.toInt_toInt32, Int16.toInt_ofInt]; exact Int.bmod_eq_of_le (by simp [Int16.size]; omega) (by simp [Int16.size]; omega)⟩, hs⟩

theorem s_ldc {i : Nat} {n : Int} (hq : clk.lookup (mo M, i) = some n) (hd : decode (mb M) pc = .ok (.ldc i, 2)) (hk : simAt M (pc + 2) ls (vI n :: st) σ r σ') : simAt M pc ls st σ r σ' := by
  intro p l e R s m args below meth c D A bS cI cZ cO L xs Q adl0 fc fs C E adl H locs cells slots als cst P hl hs
  obtain ⟨f1, f2⟩ := cfacts _ (lookup_mem hq)
  refine lv_ldc C.1 C.2.1 C.2.2.2.1 (C.2.2.2.2.1 _ f1) hd ?_
  exact hk p l e R s m args below meth c D A bS cI cZ cO L xs Q adl0 fc fs C E adl H locs cells slots als _ P hl ⟨⟨_, rfl, f2⟩, hs⟩

theorem s_ldcw {i : Nat} {n : Int} (hq : clk.lookup (mo M, i) = some n) (hd : decode (mb M) pc = .ok (.ldc_w i, 3)) (hk : simAt M (pc + 3) ls (vI n :: st) σ r σ') : simAt M pc ls st σ r σ' := by
  intro p l e R s m args below meth c D A bS cI cZ cO L xs Q adl0 fc fs C E adl H locs cells slots als cst P hl hs
  obtain ⟨f1, f2⟩ := cfacts _ (lookup_mem hq)
  refine lv_ldcw C.1 C.2.1 C.2.2.2.1 (C.2.2.2.2.1 _ f1) hd ?_
  exact hk p l e R s m args below meth c D A bS cI cZ cO L xs Q adl0 fc fs C E adl H locs cells slots als _ P hl ⟨⟨_, rfl, f2⟩, hs⟩

theorem s_ldc2 {i : Nat} {n : Int} (hq : cll.lookup (mo M, i) = some n) (hd : decode (mb M) pc = .ok (.ldc2_w i, 3)) (hk : simAt M (pc + 3) ls (vL n :: st) σ r σ') : simAt M pc ls st σ r σ' := by
  intro p l e R s m args below meth c D A bS cI cZ cO L xs Q adl0 fc fs C E adl H locs cells slots als cst P hl hs
  obtain ⟨f1, f2⟩ := clfacts _ (lookup_mem hq)
  refine lv_ldc2 C.1 C.2.1 C.2.2.2.1 (C.2.2.2.2.1 _ f1) hd ?_
  exact hk p l e R s m args below meth c D A bS cI cZ cO L xs Q adl0 fc fs C E adl H locs cells slots als _ P hl ⟨⟨_, rfl, f2⟩, hs⟩

theorem s_lconst {n : Fin 2} (hd : decode (mb M) pc = .ok (.lconst n, 1)) (hk : simAt M (pc + 1) ls (vL ((n : Nat) : Int) :: st) σ r σ') : simAt M pc ls st σ r σ' := by
  intro p l e R s m args below meth c D A bS cI cZ cO L xs Q adl0 fc fs C E adl H locs cells slots als cst P hl hs
  refine lv_lconst (v := Int64.ofNat (n : Nat)) C.1 C.2.1 hd rfl ?_
  refine hk p l e R s m args below meth c D A bS cI cZ cO L xs Q adl0 fc fs C E adl H locs cells slots als _ P hl ⟨⟨_, rfl, ?_⟩, hs⟩
  rcases n with ⟨n, h⟩
  have h2 : n = 0 ∨ n = 1 := by omega
  rcases h2 with rfl | rfl <;> rfl

theorem s_iload {i : Nat} {z : Int} {q : Nat} (hg : lg ls i = (0, z, q)) (hd : decode (mb M) pc = .ok (.iload i, 2)) (hk : simAt M (pc + 2) ls ((0, z, q) :: st) σ r σ') : simAt M pc ls st σ r σ' := by
  intro p l e R s m args below meth c D A bS cI cZ cO L xs Q adl0 fc fs C E adl H locs cells slots als cst P hl hs
  obtain ⟨v, h1, x, rfl, h2⟩ := lr_get hl hg (Or.inl rfl)
  refine lv_iload C.1 C.2.1 hd  h1 ?_
  exact hk p l e R s m args below meth c D A bS cI cZ cO L xs Q adl0 fc fs C E adl H locs cells slots als _ P hl ⟨⟨_, rfl, h2⟩, hs⟩

theorem s_iload_n {k4 : Fin 4} {z : Int} {q : Nat} (hg : lg ls (k4 : Nat) = (0, z, q)) (hd : decode (mb M) pc = .ok (.iload_n k4, 1)) (hk : simAt M (pc + 1) ls ((0, z, q) :: st) σ r σ') : simAt M pc ls st σ r σ' := by
  intro p l e R s m args below meth c D A bS cI cZ cO L xs Q adl0 fc fs C E adl H locs cells slots als cst P hl hs
  obtain ⟨v, h1, x, rfl, h2⟩ := lr_get hl hg (Or.inl rfl)
  refine lv_iload_n C.1 C.2.1 hd rfl h1 ?_
  exact hk p l e R s m args below meth c D A bS cI cZ cO L xs Q adl0 fc fs C E adl H locs cells slots als _ P hl ⟨⟨_, rfl, h2⟩, hs⟩

theorem s_lload {i : Nat} {z : Int} {q : Nat} (hg : lg ls i = (2, z, q)) (hg2 : lg ls (i + 1) = vH) (hd : decode (mb M) pc = .ok (.lload i, 2)) (hk : simAt M (pc + 2) ls ((2, z, q) :: st) σ r σ') : simAt M pc ls st σ r σ' := by
  intro p l e R s m args below meth c D A bS cI cZ cO L xs Q adl0 fc fs C E adl H locs cells slots als cst P hl hs
  obtain ⟨v, h1, x, rfl, h2⟩ := lr_get2 (y := 0) (q2 := 0) hl hg hg2 rfl
  refine lv_lload C.1 C.2.1 hd  h1 ?_
  exact hk p l e R s m args below meth c D A bS cI cZ cO L xs Q adl0 fc fs C E adl H locs cells slots als _ P hl ⟨⟨_, rfl, h2⟩, hs⟩

theorem s_lload_n {k4 : Fin 4} {z : Int} {q : Nat} (hg : lg ls (k4 : Nat) = (2, z, q)) (hg2 : lg ls ((k4 : Nat) + 1) = vH) (hd : decode (mb M) pc = .ok (.lload_n k4, 1)) (hk : simAt M (pc + 1) ls ((2, z, q) :: st) σ r σ') : simAt M pc ls st σ r σ' := by
  intro p l e R s m args below meth c D A bS cI cZ cO L xs Q adl0 fc fs C E adl H locs cells slots als cst P hl hs
  obtain ⟨v, h1, x, rfl, h2⟩ := lr_get2 (y := 0) (q2 := 0) hl hg hg2 rfl
  refine lv_lload_n C.1 C.2.1 hd rfl h1 ?_
  exact hk p l e R s m args below meth c D A bS cI cZ cO L xs Q adl0 fc fs C E adl H locs cells slots als _ P hl ⟨⟨_, rfl, h2⟩, hs⟩

theorem s_aload {i : Nat} {z : Int} {q : Nat} (hg : lg ls i = (1, z, q)) (hd : decode (mb M) pc = .ok (.aload i, 2)) (hk : simAt M (pc + 2) ls ((1, z, q) :: st) σ r σ') : simAt M pc ls st σ r σ' := by
  intro p l e R s m args below meth c D A bS cI cZ cO L xs Q adl0 fc fs C E adl H locs cells slots als cst P hl hs
  obtain ⟨v, h1, h2⟩ := lr_get hl hg (Or.inr (Or.inl rfl))
  rcases h2 with ⟨h3, rfl⟩ | ⟨a, h3, h4, rfl⟩
  · refine lv_aloadN C.1 C.2.1 hd  h1 ?_
    exact hk p l e R s m args below meth c D A bS cI cZ cO L xs Q adl0 fc fs C E adl H locs cells slots als _ P hl ⟨Or.inl ⟨h3, rfl⟩, hs⟩
  · refine lv_aload C.1 C.2.1 hd  h1 ?_
    exact hk p l e R s m args below meth c D A bS cI cZ cO L xs Q adl0 fc fs C E adl H locs cells slots als _ P hl ⟨Or.inr ⟨a, h3, h4, rfl⟩, hs⟩

theorem s_aloadS {i : Nat} {z : Int} {q : Nat} (hg : lg ls i = (5, z, q)) (hd : decode (mb M) pc = .ok (.aload i, 2)) (hk : simAt M (pc + 2) ls ((5, z, q) :: st) σ r σ') : simAt M pc ls st σ r σ' := by
  intro p l e R s m args below meth c D A bS cI cZ cO L xs Q adl0 fc fs C E adl H locs cells slots als cst P hl hs
  obtain ⟨v, h1, h2⟩ := lr_get hl hg (Or.inr (Or.inr rfl))
  cases h2
  refine lv_aload C.1 C.2.1 hd  h1 ?_
  exact hk p l e R s m args below meth c D A bS cI cZ cO L xs Q adl0 fc fs C E adl H locs cells slots als _ P hl ⟨rfl, hs⟩

theorem s_istore {i : Nat} (hi : i < ml M) {z : Int} {q : Nat} (hd : decode (mb M) pc = .ok (.istore i, 2)) (hk : simAt M (pc + 2) (ls.set i (0, z, q)) st σ r σ') : simAt M pc ls ((0, z, q) :: st) σ r σ' := by
  intro p l e R s m args below meth c D A bS cI cZ cO L xs Q adl0 fc fs C E adl H locs cells slots als cst P hl hs
  have hs0 := st2_cons hs
  clear hs
  obtain ⟨v1, cst, rfl, ⟨x, rfl, h1⟩, hs⟩ := hs0
  refine lv_istore C.1 C.2.1 hd  (lvl_has hl.1 hl.2.1) hi rfl (fun als2 h2 => ?_)
  exact hk p l e R s m args below meth c D A bS cI cZ cO L xs Q adl0 fc fs C E adl H locs cells slots als2 _ P (lr_set1 hl hi (Or.inl rfl) ⟨x, rfl, h1⟩ h2) hs

theorem s_astore {i : Nat} (hi : i < ml M) {z : Int} {q : Nat} (hd : decode (mb M) pc = .ok (.astore i, 2)) (hk : simAt M (pc + 2) (ls.set i (1, z, q)) st σ r σ') : simAt M pc ls ((1, z, q) :: st) σ r σ' := by
  intro p l e R s m args below meth c D A bS cI cZ cO L xs Q adl0 fc fs C E adl H locs cells slots als cst P hl hs
  have hs0 := st2_cons hs
  clear hs
  obtain ⟨v1, cst, rfl, h1, hs⟩ := hs0
  rcases id h1 with ⟨h3, rfl⟩ | ⟨a, h3, h4, rfl⟩
  · refine lv_astoreN C.1 C.2.1 hd  (lvl_has hl.1 hl.2.1) hi rfl (fun als2 h2 => ?_)
    exact hk p l e R s m args below meth c D A bS cI cZ cO L xs Q adl0 fc fs C E adl H locs cells slots als2 _ P (lr_set1 hl hi (Or.inr rfl) h1 h2) hs
  · refine lv_astore C.1 C.2.1 hd  (lvl_has hl.1 hl.2.1) hi rfl (fun als2 h2 => ?_)
    exact hk p l e R s m args below meth c D A bS cI cZ cO L xs Q adl0 fc fs C E adl H locs cells slots als2 _ P (lr_set1 hl hi (Or.inr rfl) h1 h2) hs

theorem s_lstore {i : Nat} (hi : i + 1 < ml M) {z : Int} {q : Nat} (hd : decode (mb M) pc = .ok (.lstore i, 2)) (hk : simAt M (pc + 2) ((ls.set i (2, z, q)).set (i + 1) vH) st σ r σ') : simAt M pc ls ((2, z, q) :: st) σ r σ' := by
  intro p l e R s m args below meth c D A bS cI cZ cO L xs Q adl0 fc fs C E adl H locs cells slots als cst P hl hs
  have hs0 := st2_cons hs
  clear hs
  obtain ⟨v1, cst, rfl, ⟨x, rfl, h1⟩, hs⟩ := hs0
  refine lv_lstore C.1 C.2.1 hd  (lvl_has hl.1 hl.2.1) hi rfl (fun als2 h2 => ?_)
  exact hk p l e R s m args below meth c D A bS cI cZ cO L xs Q adl0 fc fs C E adl H locs cells slots als2 _ P (lr_set2 hl hi ⟨x, rfl, h1⟩ h2) hs

theorem s_aload_n {k4 : Fin 4} {z : Int} {q : Nat} (hg : lg ls (k4 : Nat) = (1, z, q)) (hd : decode (mb M) pc = .ok (.aload_n k4, 1)) (hk : simAt M (pc + 1) ls ((1, z, q) :: st) σ r σ') : simAt M pc ls st σ r σ' := by
  intro p l e R s m args below meth c D A bS cI cZ cO L xs Q adl0 fc fs C E adl H locs cells slots als cst P hl hs
  obtain ⟨v, h1, h2⟩ := lr_get hl hg (Or.inr (Or.inl rfl))
  rcases h2 with ⟨h3, rfl⟩ | ⟨a, h3, h4, rfl⟩
  · refine lv_aload_nN C.1 C.2.1 hd rfl h1 ?_
    exact hk p l e R s m args below meth c D A bS cI cZ cO L xs Q adl0 fc fs C E adl H locs cells slots als _ P hl ⟨Or.inl ⟨h3, rfl⟩, hs⟩
  · refine lv_aload_n C.1 C.2.1 hd rfl h1 ?_
    exact hk p l e R s m args below meth c D A bS cI cZ cO L xs Q adl0 fc fs C E adl H locs cells slots als _ P hl ⟨Or.inr ⟨a, h3, h4, rfl⟩, hs⟩

theorem s_aloadS_n {k4 : Fin 4} {z : Int} {q : Nat} (hg : lg ls (k4 : Nat) = (5, z, q)) (hd : decode (mb M) pc = .ok (.aload_n k4, 1)) (hk : simAt M (pc + 1) ls ((5, z, q) :: st) σ r σ') : simAt M pc ls st σ r σ' := by
  intro p l e R s m args below meth c D A bS cI cZ cO L xs Q adl0 fc fs C E adl H locs cells slots als cst P hl hs
  obtain ⟨v, h1, h2⟩ := lr_get hl hg (Or.inr (Or.inr rfl))
  cases h2
  refine lv_aload_n C.1 C.2.1 hd rfl h1 ?_
  exact hk p l e R s m args below meth c D A bS cI cZ cO L xs Q adl0 fc fs C E adl H locs cells slots als _ P hl ⟨rfl, hs⟩

theorem s_istore_n {k4 : Fin 4} (hi : (k4 : Nat) < ml M) {z : Int} {q : Nat} (hd : decode (mb M) pc = .ok (.istore_n k4, 1)) (hk : simAt M (pc + 1) (ls.set (k4 : Nat) (0, z, q)) st σ r σ') : simAt M pc ls ((0, z, q) :: st) σ r σ' := by
  intro p l e R s m args below meth c D A bS cI cZ cO L xs Q adl0 fc fs C E adl H locs cells slots als cst P hl hs
  have hs0 := st2_cons hs
  clear hs
  obtain ⟨v1, cst, rfl, ⟨x, rfl, h1⟩, hs⟩ := hs0
  refine lv_istore_n C.1 C.2.1 hd rfl (lvl_has hl.1 hl.2.1) hi rfl (fun als2 h2 => ?_)
  exact hk p l e R s m args below meth c D A bS cI cZ cO L xs Q adl0 fc fs C E adl H locs cells slots als2 _ P (lr_set1 hl hi (Or.inl rfl) ⟨x, rfl, h1⟩ h2) hs

theorem s_astore_n {k4 : Fin 4} (hi : (k4 : Nat) < ml M) {z : Int} {q : Nat} (hd : decode (mb M) pc = .ok (.astore_n k4, 1)) (hk : simAt M (pc + 1) (ls.set (k4 : Nat) (1, z, q)) st σ r σ') : simAt M pc ls ((1, z, q) :: st) σ r σ' := by
  intro p l e R s m args below meth c D A bS cI cZ cO L xs Q adl0 fc fs C E adl H locs cells slots als cst P hl hs
  have hs0 := st2_cons hs
  clear hs
  obtain ⟨v1, cst, rfl, h1, hs⟩ := hs0
  rcases id h1 with ⟨h3, rfl⟩ | ⟨a, h3, h4, rfl⟩
  · refine lv_astore_nN C.1 C.2.1 hd rfl (lvl_has hl.1 hl.2.1) hi rfl (fun als2 h2 => ?_)
    exact hk p l e R s m args below meth c D A bS cI cZ cO L xs Q adl0 fc fs C E adl H locs cells slots als2 _ P (lr_set1 hl hi (Or.inr rfl) h1 h2) hs
  · refine lv_astore_n C.1 C.2.1 hd rfl (lvl_has hl.1 hl.2.1) hi rfl (fun als2 h2 => ?_)
    exact hk p l e R s m args below meth c D A bS cI cZ cO L xs Q adl0 fc fs C E adl H locs cells slots als2 _ P (lr_set1 hl hi (Or.inr rfl) h1 h2) hs

theorem s_lstore_n {k4 : Fin 4} (hi : (k4 : Nat) + 1 < ml M) {z : Int} {q : Nat} (hd : decode (mb M) pc = .ok (.lstore_n k4, 1)) (hk : simAt M (pc + 1) ((ls.set (k4 : Nat) (2, z, q)).set ((k4 : Nat) + 1) vH) st σ r σ') : simAt M pc ls ((2, z, q) :: st) σ r σ' := by
  intro p l e R s m args below meth c D A bS cI cZ cO L xs Q adl0 fc fs C E adl H locs cells slots als cst P hl hs
  have hs0 := st2_cons hs
  clear hs
  obtain ⟨v1, cst, rfl, ⟨x, rfl, h1⟩, hs⟩ := hs0
  refine lv_lstore_n C.1 C.2.1 hd rfl (lvl_has hl.1 hl.2.1) hi rfl (fun als2 h2 => ?_)
  exact hk p l e R s m args below meth c D A bS cI cZ cO L xs Q adl0 fc fs C E adl H locs cells slots als2 _ P (lr_set2 hl hi ⟨x, rfl, h1⟩ h2) hs

theorem s_iinc {i : Nat} {n : Int} (hn : -128 ≤ n ∧ n ≤ 127) {z : Int} {q : Nat} (hi : i < ml M) (hg : lg ls i = (0, z, q)) (hd : decode (mb M) pc = .ok (.iinc i n, 3)) (hk : simAt M (pc + 3) (ls.set i (vI (wr (z + n)))) st σ r σ') : simAt M pc ls st σ r σ' := by
  intro p l e R s m args below meth c D A bS cI cZ cO L xs Q adl0 fc fs C E adl H locs cells slots als cst P hl hs
  obtain ⟨v, h1, x, rfl, h2⟩ := lr_get hl hg (Or.inl rfl)
  obtain ⟨k, hk0⟩ := List.getElem?_of_mem (lvl_mem.mpr h1)
  refine lv_iinc C.1 C.2.1 hd (lvl_has hl.1 hl.2.1) hk0 rfl hi rfl (fun als2 h3 => ?_)
  exact hk p l e R s m args below meth c D A bS cI cZ cO L xs Q adl0 fc fs C E adl H locs cells slots als2 _ P (lr_set1 hl hi (Or.inl rfl) ⟨_, rfl, by rw [Int32.toInt_add, h2, Int32.toInt_ofInt]; unfold wr; rw [show (2 : Nat) ^ 32 = 4294967296 from rfl]; simp [Int32.size, Int.add_bmod_bmod]⟩ h3) hs

theorem s_dup0 {z : Int} {q : Nat} (hd : decode (mb M) pc = .ok (.dup, 1)) (hk : simAt M (pc + 1) ls ((0, z, q) :: (0, z, q) :: st) σ r σ') : simAt M pc ls ((0, z, q) :: st) σ r σ' := by
  intro p l e R s m args below meth c D A bS cI cZ cO L xs Q adl0 fc fs C E adl H locs cells slots als cst P hl hs
  have hs0 := st2_cons hs
  clear hs
  obtain ⟨v1, cst, rfl, ⟨x, rfl, h1⟩, hs⟩ := hs0
  refine lv_dup C.1 C.2.1 hd rfl ?_
  exact hk p l e R s m args below meth c D A bS cI cZ cO L xs Q adl0 fc fs C E adl H locs cells slots als _ P hl ⟨⟨x, rfl, h1⟩, ⟨x, rfl, h1⟩, hs⟩

theorem s_dup1 {z : Int} {q : Nat} (hd : decode (mb M) pc = .ok (.dup, 1)) (hk : simAt M (pc + 1) ls ((1, z, q) :: (1, z, q) :: st) σ r σ') : simAt M pc ls ((1, z, q) :: st) σ r σ' := by
  intro p l e R s m args below meth c D A bS cI cZ cO L xs Q adl0 fc fs C E adl H locs cells slots als cst P hl hs
  have hs0 := st2_cons hs
  clear hs
  obtain ⟨v1, cst, rfl, h1, hs⟩ := hs0
  refine lv_dup C.1 C.2.1 hd (by rcases h1 with ⟨-, rfl⟩ | ⟨a, -, -, rfl⟩ <;> rfl) ?_
  exact hk p l e R s m args below meth c D A bS cI cZ cO L xs Q adl0 fc fs C E adl H locs cells slots als _ P hl ⟨h1, h1, hs⟩

theorem s_dup2 {y x : Int} {q p1 : Nat} (hd : decode (mb M) pc = .ok (.dup2, 1)) (hk : simAt M (pc + 1) ls ((0, y, q) :: (1, x, p1) :: (0, y, q) :: (1, x, p1) :: st) σ r σ') : simAt M pc ls ((0, y, q) :: (1, x, p1) :: st) σ r σ' := by
  intro p l e R s m args below meth c D A bS cI cZ cO L xs Q adl0 fc fs C E adl H locs cells slots als cst P hl hs
  have hs0 := st2_cons hs
  clear hs
  obtain ⟨v1, cst, rfl, ⟨y1, rfl, h1⟩, hs⟩ := hs0
  have hs0 := st2_cons hs
  clear hs
  obtain ⟨v2, cst, rfl, h2, hs⟩ := hs0
  refine lv_dup2_11 C.1 C.2.1 hd rfl (by rcases h2 with ⟨-, rfl⟩ | ⟨a, -, -, rfl⟩ <;> rfl) ?_
  exact hk p l e R s m args below meth c D A bS cI cZ cO L xs Q adl0 fc fs C E adl H locs cells slots als _ P hl ⟨⟨y1, rfl, h1⟩, h2, ⟨y1, rfl, h1⟩, h2, hs⟩

theorem s_iadd {y x : Int} {q1 q2 : Nat} (hd : decode (mb M) pc = .ok (.iadd, 1)) (hk : simAt M (pc + 1) ls (vI (wr (x + y)) :: st) σ r σ') : simAt M pc ls ((0, y, q1) :: (0, x, q2) :: st) σ r σ' := by
  intro p l e R s m args below meth c D A bS cI cZ cO L xs Q adl0 fc fs C E adl H locs cells slots als cst P hl hs
  have hs0 := st2_cons hs
  clear hs
  obtain ⟨v1, cst, rfl, ⟨y1, rfl, h1⟩, hs⟩ := hs0
  have hs0 := st2_cons hs
  clear hs
  obtain ⟨v2, cst, rfl, ⟨x1, rfl, h2⟩, hs⟩ := hs0
  refine lv_iadd C.1 C.2.1 hd ?_
  exact hk p l e R s m args below meth c D A bS cI cZ cO L xs Q adl0 fc fs C E adl H locs cells slots als _ P hl ⟨⟨_, rfl, by rw [Int32.toInt_add, h1, h2]; rfl⟩, hs⟩

theorem s_isub {y x : Int} {q1 q2 : Nat} (hd : decode (mb M) pc = .ok (.isub, 1)) (hk : simAt M (pc + 1) ls (vI (wr (x - y)) :: st) σ r σ') : simAt M pc ls ((0, y, q1) :: (0, x, q2) :: st) σ r σ' := by
  intro p l e R s m args below meth c D A bS cI cZ cO L xs Q adl0 fc fs C E adl H locs cells slots als cst P hl hs
  have hs0 := st2_cons hs
  clear hs
  obtain ⟨v1, cst, rfl, ⟨y1, rfl, h1⟩, hs⟩ := hs0
  have hs0 := st2_cons hs
  clear hs
  obtain ⟨v2, cst, rfl, ⟨x1, rfl, h2⟩, hs⟩ := hs0
  refine lv_isub C.1 C.2.1 hd ?_
  exact hk p l e R s m args below meth c D A bS cI cZ cO L xs Q adl0 fc fs C E adl H locs cells slots als _ P hl ⟨⟨_, rfl, by rw [Int32.toInt_sub, h1, h2]; rfl⟩, hs⟩

theorem s_imul {y x : Int} {q1 q2 : Nat} (hd : decode (mb M) pc = .ok (.imul, 1)) (hk : simAt M (pc + 1) ls (vI (wr (x * y)) :: st) σ r σ') : simAt M pc ls ((0, y, q1) :: (0, x, q2) :: st) σ r σ' := by
  intro p l e R s m args below meth c D A bS cI cZ cO L xs Q adl0 fc fs C E adl H locs cells slots als cst P hl hs
  have hs0 := st2_cons hs
  clear hs
  obtain ⟨v1, cst, rfl, ⟨y1, rfl, h1⟩, hs⟩ := hs0
  have hs0 := st2_cons hs
  clear hs
  obtain ⟨v2, cst, rfl, ⟨x1, rfl, h2⟩, hs⟩ := hs0
  refine lv_imul C.1 C.2.1 hd ?_
  exact hk p l e R s m args below meth c D A bS cI cZ cO L xs Q adl0 fc fs C E adl H locs cells slots als _ P hl ⟨⟨_, rfl, by rw [Int32.toInt_mul, h1, h2]; rfl⟩, hs⟩

theorem s_idiv {y x : Int} {q1 q2 : Nat} (hne : ¬ y = 0) (hd : decode (mb M) pc = .ok (.idiv, 1)) (hk : simAt M (pc + 1) ls (vI (wr (x.tdiv y)) :: st) σ r σ') : simAt M pc ls ((0, y, q1) :: (0, x, q2) :: st) σ r σ' := by
  intro p l e R s m args below meth c D A bS cI cZ cO L xs Q adl0 fc fs C E adl H locs cells slots als cst P hl hs
  have hs0 := st2_cons hs
  clear hs
  obtain ⟨v1, cst, rfl, ⟨y1, rfl, h1⟩, hs⟩ := hs0
  have hs0 := st2_cons hs
  clear hs
  obtain ⟨v2, cst, rfl, ⟨x1, rfl, h2⟩, hs⟩ := hs0
  refine lv_idiv C.1 C.2.1 hd (fun q => hne (by rw [← h1, q]; rfl)) ?_
  exact hk p l e R s m args below meth c D A bS cI cZ cO L xs Q adl0 fc fs C E adl H locs cells slots als _ P hl ⟨⟨_, rfl, by rw [Int32.toInt_div, h1, h2]; rfl⟩, hs⟩

theorem s_irem {y x : Int} {q1 q2 : Nat} (hne : ¬ y = 0) (hd : decode (mb M) pc = .ok (.irem, 1)) (hk : simAt M (pc + 1) ls (vI (wr (x.tmod y)) :: st) σ r σ') : simAt M pc ls ((0, y, q1) :: (0, x, q2) :: st) σ r σ' := by
  intro p l e R s m args below meth c D A bS cI cZ cO L xs Q adl0 fc fs C E adl H locs cells slots als cst P hl hs
  have hs0 := st2_cons hs
  clear hs
  obtain ⟨v1, cst, rfl, ⟨y1, rfl, h1⟩, hs⟩ := hs0
  have hs0 := st2_cons hs
  clear hs
  obtain ⟨v2, cst, rfl, ⟨x1, rfl, h2⟩, hs⟩ := hs0
  refine lv_irem C.1 C.2.1 hd (fun q => hne (by rw [← h1, q]; rfl)) ?_
  exact hk p l e R s m args below meth c D A bS cI cZ cO L xs Q adl0 fc fs C E adl H locs cells slots als _ P hl ⟨⟨_, rfl, by rw [Int32.toInt_sub, Int32.toInt_mul, Int32.toInt_div, h1, h2]; exact wr_rem x y⟩, hs⟩

theorem s_ishl {y x : Int} {q1 q2 : Nat} (hd : decode (mb M) pc = .ok (.ishl, 1)) (hk : simAt M (pc + 1) ls (vI (bShl x y) :: st) σ r σ') : simAt M pc ls ((0, y, q1) :: (0, x, q2) :: st) σ r σ' := by
  intro p l e R s m args below meth c D A bS cI cZ cO L xs Q adl0 fc fs C E adl H locs cells slots als cst P hl hs
  have hs0 := st2_cons hs
  clear hs
  obtain ⟨v1, cst, rfl, ⟨y1, rfl, h1⟩, hs⟩ := hs0
  have hs0 := st2_cons hs
  clear hs
  obtain ⟨v2, cst, rfl, ⟨x1, rfl, h2⟩, hs⟩ := hs0
  refine lv_ishl C.1 C.2.1 hd ?_
  exact hk p l e R s m args below meth c D A bS cI cZ cO L xs Q adl0 fc fs C E adl H locs cells slots als _ P hl ⟨⟨_, rfl, by unfold bShl; rw [← h1, ← h2, Int32.ofInt_toInt, Int32.ofInt_toInt]⟩, hs⟩

theorem s_ishr {y x : Int} {q1 q2 : Nat} (hd : decode (mb M) pc = .ok (.ishr, 1)) (hk : simAt M (pc + 1) ls (vI (bShr x y) :: st) σ r σ') : simAt M pc ls ((0, y, q1) :: (0, x, q2) :: st) σ r σ' := by
  intro p l e R s m args below meth c D A bS cI cZ cO L xs Q adl0 fc fs C E adl H locs cells slots als cst P hl hs
  have hs0 := st2_cons hs
  clear hs
  obtain ⟨v1, cst, rfl, ⟨y1, rfl, h1⟩, hs⟩ := hs0
  have hs0 := st2_cons hs
  clear hs
  obtain ⟨v2, cst, rfl, ⟨x1, rfl, h2⟩, hs⟩ := hs0
  refine lv_ishr C.1 C.2.1 hd ?_
  exact hk p l e R s m args below meth c D A bS cI cZ cO L xs Q adl0 fc fs C E adl H locs cells slots als _ P hl ⟨⟨_, rfl, by unfold bShr; rw [← h1, ← h2, Int32.ofInt_toInt, Int32.ofInt_toInt]⟩, hs⟩

theorem s_iand {y x : Int} {q1 q2 : Nat} (hd : decode (mb M) pc = .ok (.iand, 1)) (hk : simAt M (pc + 1) ls (vI (bAnd x y) :: st) σ r σ') : simAt M pc ls ((0, y, q1) :: (0, x, q2) :: st) σ r σ' := by
  intro p l e R s m args below meth c D A bS cI cZ cO L xs Q adl0 fc fs C E adl H locs cells slots als cst P hl hs
  have hs0 := st2_cons hs
  clear hs
  obtain ⟨v1, cst, rfl, ⟨y1, rfl, h1⟩, hs⟩ := hs0
  have hs0 := st2_cons hs
  clear hs
  obtain ⟨v2, cst, rfl, ⟨x1, rfl, h2⟩, hs⟩ := hs0
  refine lv_iand C.1 C.2.1 hd ?_
  exact hk p l e R s m args below meth c D A bS cI cZ cO L xs Q adl0 fc fs C E adl H locs cells slots als _ P hl ⟨⟨_, rfl, by unfold bAnd; rw [← h1, ← h2, Int32.ofInt_toInt, Int32.ofInt_toInt]⟩, hs⟩

theorem s_ior {y x : Int} {q1 q2 : Nat} (hd : decode (mb M) pc = .ok (.ior, 1)) (hk : simAt M (pc + 1) ls (vI (bOr x y) :: st) σ r σ') : simAt M pc ls ((0, y, q1) :: (0, x, q2) :: st) σ r σ' := by
  intro p l e R s m args below meth c D A bS cI cZ cO L xs Q adl0 fc fs C E adl H locs cells slots als cst P hl hs
  have hs0 := st2_cons hs
  clear hs
  obtain ⟨v1, cst, rfl, ⟨y1, rfl, h1⟩, hs⟩ := hs0
  have hs0 := st2_cons hs
  clear hs
  obtain ⟨v2, cst, rfl, ⟨x1, rfl, h2⟩, hs⟩ := hs0
  refine lv_ior C.1 C.2.1 hd ?_
  exact hk p l e R s m args below meth c D A bS cI cZ cO L xs Q adl0 fc fs C E adl H locs cells slots als _ P hl ⟨⟨_, rfl, by unfold bOr; rw [← h1, ← h2, Int32.ofInt_toInt, Int32.ofInt_toInt]⟩, hs⟩

theorem s_ixor {y x : Int} {q1 q2 : Nat} (hd : decode (mb M) pc = .ok (.ixor, 1)) (hk : simAt M (pc + 1) ls (vI (bXor x y) :: st) σ r σ') : simAt M pc ls ((0, y, q1) :: (0, x, q2) :: st) σ r σ' := by
  intro p l e R s m args below meth c D A bS cI cZ cO L xs Q adl0 fc fs C E adl H locs cells slots als cst P hl hs
  have hs0 := st2_cons hs
  clear hs
  obtain ⟨v1, cst, rfl, ⟨y1, rfl, h1⟩, hs⟩ := hs0
  have hs0 := st2_cons hs
  clear hs
  obtain ⟨v2, cst, rfl, ⟨x1, rfl, h2⟩, hs⟩ := hs0
  refine lv_ixor C.1 C.2.1 hd ?_
  exact hk p l e R s m args below meth c D A bS cI cZ cO L xs Q adl0 fc fs C E adl H locs cells slots als _ P hl ⟨⟨_, rfl, by unfold bXor; rw [← h1, ← h2, Int32.ofInt_toInt, Int32.ofInt_toInt]⟩, hs⟩

theorem s_iushr {y x : Int} {q1 q2 : Nat} (hd : decode (mb M) pc = .ok (.iushr, 1)) (hk : simAt M (pc + 1) ls (vI (bUsh x y) :: st) σ r σ') : simAt M pc ls ((0, y, q1) :: (0, x, q2) :: st) σ r σ' := by
  intro p l e R s m args below meth c D A bS cI cZ cO L xs Q adl0 fc fs C E adl H locs cells slots als cst P hl hs
  have hs0 := st2_cons hs
  clear hs
  obtain ⟨v1, cst, rfl, ⟨y1, rfl, h1⟩, hs⟩ := hs0
  have hs0 := st2_cons hs
  clear hs
  obtain ⟨v2, cst, rfl, ⟨x1, rfl, h2⟩, hs⟩ := hs0
  refine lv_iushr C.1 C.2.1 hd rfl ?_
  exact hk p l e R s m args below meth c D A bS cI cZ cO L xs Q adl0 fc fs C E adl H locs cells slots als _ P hl ⟨⟨_, rfl, by unfold bUsh; rw [← h1, ← h2, Int32.ofInt_toInt, Int32.ofInt_toInt]⟩, hs⟩

theorem s_ineg {x : Int} {q1 : Nat} (hd : decode (mb M) pc = .ok (.ineg, 1)) (hk : simAt M (pc + 1) ls (vI (wr (-x)) :: st) σ r σ') : simAt M pc ls ((0, x, q1) :: st) σ r σ' := by
  intro p l e R s m args below meth c D A bS cI cZ cO L xs Q adl0 fc fs C E adl H locs cells slots als cst P hl hs
  have hs0 := st2_cons hs
  clear hs
  obtain ⟨v1, cst, rfl, ⟨x1, rfl, h1⟩, hs⟩ := hs0
  refine lv_ineg C.1 C.2.1 hd ?_
  exact hk p l e R s m args below meth c D A bS cI cZ cO L xs Q adl0 fc fs C E adl H locs cells slots als _ P hl ⟨⟨_, rfl, by rw [Int32.toInt_neg, h1]; rfl⟩, hs⟩

theorem s_ladd {y x : Int} {q1 q2 : Nat} (hd : decode (mb M) pc = .ok (.ladd, 1)) (hk : simAt M (pc + 1) ls (vL (wl (x + y)) :: st) σ r σ') : simAt M pc ls ((2, y, q1) :: (2, x, q2) :: st) σ r σ' := by
  intro p l e R s m args below meth c D A bS cI cZ cO L xs Q adl0 fc fs C E adl H locs cells slots als cst P hl hs
  have hs0 := st2_cons hs
  clear hs
  obtain ⟨v1, cst, rfl, ⟨y1, rfl, h1⟩, hs⟩ := hs0
  have hs0 := st2_cons hs
  clear hs
  obtain ⟨v2, cst, rfl, ⟨x1, rfl, h2⟩, hs⟩ := hs0
  refine lv_ladd C.1 C.2.1 hd ?_
  exact hk p l e R s m args below meth c D A bS cI cZ cO L xs Q adl0 fc fs C E adl H locs cells slots als _ P hl ⟨⟨_, rfl, by rw [Int64.toInt_add, h1, h2]; rfl⟩, hs⟩

theorem s_lmul {y x : Int} {q1 q2 : Nat} (hd : decode (mb M) pc = .ok (.lmul, 1)) (hk : simAt M (pc + 1) ls (vL (wl (x * y)) :: st) σ r σ') : simAt M pc ls ((2, y, q1) :: (2, x, q2) :: st) σ r σ' := by
  intro p l e R s m args below meth c D A bS cI cZ cO L xs Q adl0 fc fs C E adl H locs cells slots als cst P hl hs
  have hs0 := st2_cons hs
  clear hs
  obtain ⟨v1, cst, rfl, ⟨y1, rfl, h1⟩, hs⟩ := hs0
  have hs0 := st2_cons hs
  clear hs
  obtain ⟨v2, cst, rfl, ⟨x1, rfl, h2⟩, hs⟩ := hs0
  refine lv_lmul C.1 C.2.1 hd ?_
  exact hk p l e R s m args below meth c D A bS cI cZ cO L xs Q adl0 fc fs C E adl H locs cells slots als _ P hl ⟨⟨_, rfl, by rw [Int64.toInt_mul, h1, h2]; rfl⟩, hs⟩

theorem s_ldiv {y x : Int} {q1 q2 : Nat} (hne : ¬ y = 0) (hd : decode (mb M) pc = .ok (.ldiv, 1)) (hk : simAt M (pc + 1) ls (vL (wl (x.tdiv y)) :: st) σ r σ') : simAt M pc ls ((2, y, q1) :: (2, x, q2) :: st) σ r σ' := by
  intro p l e R s m args below meth c D A bS cI cZ cO L xs Q adl0 fc fs C E adl H locs cells slots als cst P hl hs
  have hs0 := st2_cons hs
  clear hs
  obtain ⟨v1, cst, rfl, ⟨y1, rfl, h1⟩, hs⟩ := hs0
  have hs0 := st2_cons hs
  clear hs
  obtain ⟨v2, cst, rfl, ⟨x1, rfl, h2⟩, hs⟩ := hs0
  refine lv_ldiv C.1 C.2.1 hd (fun q => hne (by rw [← h1, q]; rfl)) ?_
  exact hk p l e R s m args below meth c D A bS cI cZ cO L xs Q adl0 fc fs C E adl H locs cells slots als _ P hl ⟨⟨_, rfl, by rw [Int64.toInt_div, h1, h2]; rfl⟩, hs⟩

theorem s_lrem {y x : Int} {q1 q2 : Nat} (hne : ¬ y = 0) (hd : decode (mb M) pc = .ok (.lrem, 1)) (hk : simAt M (pc + 1) ls (vL (wl (x.tmod y)) :: st) σ r σ') : simAt M pc ls ((2, y, q1) :: (2, x, q2) :: st) σ r σ' := by
  intro p l e R s m args below meth c D A bS cI cZ cO L xs Q adl0 fc fs C E adl H locs cells slots als cst P hl hs
  have hs0 := st2_cons hs
  clear hs
  obtain ⟨v1, cst, rfl, ⟨y1, rfl, h1⟩, hs⟩ := hs0
  have hs0 := st2_cons hs
  clear hs
  obtain ⟨v2, cst, rfl, ⟨x1, rfl, h2⟩, hs⟩ := hs0
  refine lv_lrem C.1 C.2.1 hd (fun q => hne (by rw [← h1, q]; rfl)) ?_
  exact hk p l e R s m args below meth c D A bS cI cZ cO L xs Q adl0 fc fs C E adl H locs cells slots als _ P hl ⟨⟨_, rfl, by rw [Int64.toInt_sub, Int64.toInt_mul, Int64.toInt_div, h1, h2]; exact wl_rem x y⟩, hs⟩

theorem s_lcmp {y x : Int} {q1 q2 : Nat} (hd : decode (mb M) pc = .ok (.lcmp, 1)) (hk : simAt M (pc + 1) ls (vI (lCmp x y) :: st) σ r σ') : simAt M pc ls ((2, y, q1) :: (2, x, q2) :: st) σ r σ' := by
  intro p l e R s m args below meth c D A bS cI cZ cO L xs Q adl0 fc fs C E adl H locs cells slots als cst P hl hs
  have hs0 := st2_cons hs
  clear hs
  obtain ⟨v1, cst, rfl, ⟨y1, rfl, h1⟩, hs⟩ := hs0
  have hs0 := st2_cons hs
  clear hs
  obtain ⟨v2, cst, rfl, ⟨x1, rfl, h2⟩, hs⟩ := hs0
  refine W.lcmp C.1 C.2.1 hd ?_
  exact hk p l e R s m args below meth c D A bS cI cZ cO L xs Q adl0 fc fs C E adl H locs cells slots als _ P hl ⟨⟨_, rfl, by rw [← h1, ← h2]; exact lcmp_eq _ _⟩, hs⟩

theorem s_i2l {x : Int} {q1 : Nat} (hd : decode (mb M) pc = .ok (.i2l, 1)) (hk : simAt M (pc + 1) ls (vL x :: st) σ r σ') : simAt M pc ls ((0, x, q1) :: st) σ r σ' := by
  intro p l e R s m args below meth c D A bS cI cZ cO L xs Q adl0 fc fs C E adl H locs cells slots als cst P hl hs
  have hs0 := st2_cons hs
  clear hs
  obtain ⟨v1, cst, rfl, ⟨x1, rfl, h1⟩, hs⟩ := hs0
  refine lv_i2l C.1 C.2.1 hd rfl ?_
  exact hk p l e R s m args below meth c D A bS cI cZ cO L xs Q adl0 fc fs C E adl H locs cells slots als _ P hl ⟨⟨_, rfl, by rw [Int32.toInt_toInt64, h1]⟩, hs⟩

theorem s_if_eq {x : Int} {q2 : Nat} {off : Int} (ho : tgo pc off = true) (hd : decode (mb M) pc = .ok (.ifCond .eq off, 3)) (hp : x = 0 → simAt M (tg pc off) ls st σ r σ') (hq : ¬ x = 0 → simAt M (pc + 3) ls st σ r σ') : simAt M pc ls ((0, x, q2) :: st) σ r σ' := by
  intro p l e R s m args below meth c D A bS cI cZ cO L xs Q adl0 fc fs C E adl H locs cells slots als cst P hl hs
  have hs0 := st2_cons hs
  clear hs
  obtain ⟨v2, cst, rfl, ⟨x1, rfl, h2⟩, hs⟩ := hs0
  refine lv_if_eq C.1 C.2.1 hd (tg_eq ho) (fun hc => ?_) (fun hc => ?_)
  · exact (fun hk => hk p l e R s m args below meth c D A bS cI cZ cO L xs Q adl0 fc fs C E adl H locs cells slots als _ P hl hs) (hp ((cv_eq h2).mp hc))
  · exact (fun hk => hk p l e R s m args below meth c D A bS cI cZ cO L xs Q adl0 fc fs C E adl H locs cells slots als _ P hl hs) (hq (fun z => hc ((cv_eq h2).mpr z)))

theorem s_icmp_eq {y : Int} {q1 : Nat} {x : Int} {q2 : Nat} {off : Int} (ho : tgo pc off = true) (hd : decode (mb M) pc = .ok (.if_icmp .eq off, 3)) (hp : x = y → simAt M (tg pc off) ls st σ r σ') (hq : ¬ x = y → simAt M (pc + 3) ls st σ r σ') : simAt M pc ls ((0, y, q1) :: (0, x, q2) :: st) σ r σ' := by
  intro p l e R s m args below meth c D A bS cI cZ cO L xs Q adl0 fc fs C E adl H locs cells slots als cst P hl hs
  have hs0 := st2_cons hs
  clear hs
  obtain ⟨v1, cst, rfl, ⟨y1, rfl, h1⟩, hs⟩ := hs0
  have hs0 := st2_cons hs
  clear hs
  obtain ⟨v2, cst, rfl, ⟨x1, rfl, h2⟩, hs⟩ := hs0
  refine lv_icmp_eq C.1 C.2.1 hd (tg_eq ho) (fun hc => ?_) (fun hc => ?_)
  · exact (fun hk => hk p l e R s m args below meth c D A bS cI cZ cO L xs Q adl0 fc fs C E adl H locs cells slots als _ P hl hs) (hp ((cv_eq2 h1 h2).mp hc))
  · exact (fun hk => hk p l e R s m args below meth c D A bS cI cZ cO L xs Q adl0 fc fs C E adl H locs cells slots als _ P hl hs) (hq (fun z => hc ((cv_eq2 h1 h2).mpr z)))

theorem s_if_ne {x : Int} {q2 : Nat} {off : Int} (ho : tgo pc off = true) (hd : decode (mb M) pc = .ok (.ifCond .ne off, 3)) (hp : x = 0 → simAt M (pc + 3) ls st σ r σ') (hq : ¬ x = 0 → simAt M (tg pc off) ls st σ r σ') : simAt M pc ls ((0, x, q2) :: st) σ r σ' := by
  intro p l e R s m args below meth c D A bS cI cZ cO L xs Q adl0 fc fs C E adl H locs cells slots als cst P hl hs
  have hs0 := st2_cons hs
  clear hs
  obtain ⟨v2, cst, rfl, ⟨x1, rfl, h2⟩, hs⟩ := hs0
  refine lv_if_ne C.1 C.2.1 hd (tg_eq ho) (fun hc => ?_) (fun hc => ?_)
  · exact (fun hk => hk p l e R s m args below meth c D A bS cI cZ cO L xs Q adl0 fc fs C E adl H locs cells slots als _ P hl hs) (hq ((cv_ne h2).mp hc))
  · exact (fun hk => hk p l e R s m args below meth c D A bS cI cZ cO L xs Q adl0 fc fs C E adl H locs cells slots als _ P hl hs) (hp ((cv_eq h2).mp hc))

theorem s_icmp_ne {y : Int} {q1 : Nat} {x : Int} {q2 : Nat} {off : Int} (ho : tgo pc off = true) (hd : decode (mb M) pc = .ok (.if_icmp .ne off, 3)) (hp : x = y → simAt M (pc + 3) ls st σ r σ') (hq : ¬ x = y → simAt M (tg pc off) ls st σ r σ') : simAt M pc ls ((0, y, q1) :: (0, x, q2) :: st) σ r σ' := by
  intro p l e R s m args below meth c D A bS cI cZ cO L xs Q adl0 fc fs C E adl H locs cells slots als cst P hl hs
  have hs0 := st2_cons hs
  clear hs
  obtain ⟨v1, cst, rfl, ⟨y1, rfl, h1⟩, hs⟩ := hs0
  have hs0 := st2_cons hs
  clear hs
  obtain ⟨v2, cst, rfl, ⟨x1, rfl, h2⟩, hs⟩ := hs0
  refine lv_icmp_ne C.1 C.2.1 hd (tg_eq ho) (fun hc => ?_) (fun hc => ?_)
  · exact (fun hk => hk p l e R s m args below meth c D A bS cI cZ cO L xs Q adl0 fc fs C E adl H locs cells slots als _ P hl hs) (hq ((cv_ne2 h1 h2).mp hc))
  · exact (fun hk => hk p l e R s m args below meth c D A bS cI cZ cO L xs Q adl0 fc fs C E adl H locs cells slots als _ P hl hs) (hp ((cv_eq2 h1 h2).mp hc))

theorem s_if_lt {x : Int} {q2 : Nat} {off : Int} (ho : tgo pc off = true) (hd : decode (mb M) pc = .ok (.ifCond .lt off, 3)) (hp : x < 0 → simAt M (tg pc off) ls st σ r σ') (hq : ¬ x < 0 → simAt M (pc + 3) ls st σ r σ') : simAt M pc ls ((0, x, q2) :: st) σ r σ' := by
  intro p l e R s m args below meth c D A bS cI cZ cO L xs Q adl0 fc fs C E adl H locs cells slots als cst P hl hs
  have hs0 := st2_cons hs
  clear hs
  obtain ⟨v2, cst, rfl, ⟨x1, rfl, h2⟩, hs⟩ := hs0
  refine lv_if_lt C.1 C.2.1 hd (tg_eq ho) (fun hc => ?_) (fun hc => ?_)
  · exact (fun hk => hk p l e R s m args below meth c D A bS cI cZ cO L xs Q adl0 fc fs C E adl H locs cells slots als _ P hl hs) (hp ((cv_lt h2).mp hc))
  · exact (fun hk => hk p l e R s m args below meth c D A bS cI cZ cO L xs Q adl0 fc fs C E adl H locs cells slots als _ P hl hs) (hq (fun z => hc ((cv_lt h2).mpr z)))

theorem s_icmp_lt {y : Int} {q1 : Nat} {x : Int} {q2 : Nat} {off : Int} (ho : tgo pc off = true) (hd : decode (mb M) pc = .ok (.if_icmp .lt off, 3)) (hp : x < y → simAt M (tg pc off) ls st σ r σ') (hq : ¬ x < y → simAt M (pc + 3) ls st σ r σ') : simAt M pc ls ((0, y, q1) :: (0, x, q2) :: st) σ r σ' := by
  intro p l e R s m args below meth c D A bS cI cZ cO L xs Q adl0 fc fs C E adl H locs cells slots als cst P hl hs
  have hs0 := st2_cons hs
  clear hs
  obtain ⟨v1, cst, rfl, ⟨y1, rfl, h1⟩, hs⟩ := hs0
  have hs0 := st2_cons hs
  clear hs
  obtain ⟨v2, cst, rfl, ⟨x1, rfl, h2⟩, hs⟩ := hs0
  refine lv_icmp_lt C.1 C.2.1 hd (tg_eq ho) (fun hc => ?_) (fun hc => ?_)
  · exact (fun hk => hk p l e R s m args below meth c D A bS cI cZ cO L xs Q adl0 fc fs C E adl H locs cells slots als _ P hl hs) (hp ((cv_lt2 h1 h2).mp hc))
  · exact (fun hk => hk p l e R s m args below meth c D A bS cI cZ cO L xs Q adl0 fc fs C E adl H locs cells slots als _ P hl hs) (hq (fun z => hc ((cv_lt2 h1 h2).mpr z)))

theorem s_if_ge {x : Int} {q2 : Nat} {off : Int} (ho : tgo pc off = true) (hd : decode (mb M) pc = .ok (.ifCond .ge off, 3)) (hp : x < 0 → simAt M (pc + 3) ls st σ r σ') (hq : ¬ x < 0 → simAt M (tg pc off) ls st σ r σ') : simAt M pc ls ((0, x, q2) :: st) σ r σ' := by
  intro p l e R s m args below meth c D A bS cI cZ cO L xs Q adl0 fc fs C E adl H locs cells slots als cst P hl hs
  have hs0 := st2_cons hs
  clear hs
  obtain ⟨v2, cst, rfl, ⟨x1, rfl, h2⟩, hs⟩ := hs0
  refine lv_if_ge C.1 C.2.1 hd (tg_eq ho) (fun hc => ?_) (fun hc => ?_)
  · exact (fun hk => hk p l e R s m args below meth c D A bS cI cZ cO L xs Q adl0 fc fs C E adl H locs cells slots als _ P hl hs) (hq ((cv_ge h2).mp hc))
  · exact (fun hk => hk p l e R s m args below meth c D A bS cI cZ cO L xs Q adl0 fc fs C E adl H locs cells slots als _ P hl hs) (hp (Classical.not_not.mp (fun z => hc ((cv_ge h2).mpr z))))

theorem s_icmp_ge {y : Int} {q1 : Nat} {x : Int} {q2 : Nat} {off : Int} (ho : tgo pc off = true) (hd : decode (mb M) pc = .ok (.if_icmp .ge off, 3)) (hp : x < y → simAt M (pc + 3) ls st σ r σ') (hq : ¬ x < y → simAt M (tg pc off) ls st σ r σ') : simAt M pc ls ((0, y, q1) :: (0, x, q2) :: st) σ r σ' := by
  intro p l e R s m args below meth c D A bS cI cZ cO L xs Q adl0 fc fs C E adl H locs cells slots als cst P hl hs
  have hs0 := st2_cons hs
  clear hs
  obtain ⟨v1, cst, rfl, ⟨y1, rfl, h1⟩, hs⟩ := hs0
  have hs0 := st2_cons hs
  clear hs
  obtain ⟨v2, cst, rfl, ⟨x1, rfl, h2⟩, hs⟩ := hs0
  refine lv_icmp_ge C.1 C.2.1 hd (tg_eq ho) (fun hc => ?_) (fun hc => ?_)
  · exact (fun hk => hk p l e R s m args below meth c D A bS cI cZ cO L xs Q adl0 fc fs C E adl H locs cells slots als _ P hl hs) (hq ((cv_ge2 h1 h2).mp hc))
  · exact (fun hk => hk p l e R s m args below meth c D A bS cI cZ cO L xs Q adl0 fc fs C E adl H locs cells slots als _ P hl hs) (hp (Classical.not_not.mp (fun z => hc ((cv_ge2 h1 h2).mpr z))))

theorem s_if_gt {x : Int} {q2 : Nat} {off : Int} (ho : tgo pc off = true) (hd : decode (mb M) pc = .ok (.ifCond .gt off, 3)) (hp : 0 < x → simAt M (tg pc off) ls st σ r σ') (hq : ¬ 0 < x → simAt M (pc + 3) ls st σ r σ') : simAt M pc ls ((0, x, q2) :: st) σ r σ' := by
  intro p l e R s m args below meth c D A bS cI cZ cO L xs Q adl0 fc fs C E adl H locs cells slots als cst P hl hs
  have hs0 := st2_cons hs
  clear hs
  obtain ⟨v2, cst, rfl, ⟨x1, rfl, h2⟩, hs⟩ := hs0
  refine lv_if_gt C.1 C.2.1 hd (tg_eq ho) (fun hc => ?_) (fun hc => ?_)
  · exact (fun hk => hk p l e R s m args below meth c D A bS cI cZ cO L xs Q adl0 fc fs C E adl H locs cells slots als _ P hl hs) (hp ((cv_gt h2).mp hc))
  · exact (fun hk => hk p l e R s m args below meth c D A bS cI cZ cO L xs Q adl0 fc fs C E adl H locs cells slots als _ P hl hs) (hq (fun z => hc ((cv_gt h2).mpr z)))

theorem s_icmp_gt {y : Int} {q1 : Nat} {x : Int} {q2 : Nat} {off : Int} (ho : tgo pc off = true) (hd : decode (mb M) pc = .ok (.if_icmp .gt off, 3)) (hp : y < x → simAt M (tg pc off) ls st σ r σ') (hq : ¬ y < x → simAt M (pc + 3) ls st σ r σ') : simAt M pc ls ((0, y, q1) :: (0, x, q2) :: st) σ r σ' := by
  intro p l e R s m args below meth c D A bS cI cZ cO L xs Q adl0 fc fs C E adl H locs cells slots als cst P hl hs
  have hs0 := st2_cons hs
  clear hs
  obtain ⟨v1, cst, rfl, ⟨y1, rfl, h1⟩, hs⟩ := hs0
  have hs0 := st2_cons hs
  clear hs
  obtain ⟨v2, cst, rfl, ⟨x1, rfl, h2⟩, hs⟩ := hs0
  refine lv_icmp_gt C.1 C.2.1 hd (tg_eq ho) (fun hc => ?_) (fun hc => ?_)
  · exact (fun hk => hk p l e R s m args below meth c D A bS cI cZ cO L xs Q adl0 fc fs C E adl H locs cells slots als _ P hl hs) (hp ((cv_gt2 h1 h2).mp hc))
  · exact (fun hk => hk p l e R s m args below meth c D A bS cI cZ cO L xs Q adl0 fc fs C E adl H locs cells slots als _ P hl hs) (hq (fun z => hc ((cv_gt2 h1 h2).mpr z)))

theorem s_if_le {x : Int} {q2 : Nat} {off : Int} (ho : tgo pc off = true) (hd : decode (mb M) pc = .ok (.ifCond .le off, 3)) (hp : 0 < x → simAt M (pc + 3) ls st σ r σ') (hq : ¬ 0 < x → simAt M (tg pc off) ls st σ r σ') : simAt M pc ls ((0, x, q2) :: st) σ r σ' := by
  intro p l e R s m args below meth c D A bS cI cZ cO L xs Q adl0 fc fs C E adl H locs cells slots als cst P hl hs
  have hs0 := st2_cons hs
  clear hs
  obtain ⟨v2, cst, rfl, ⟨x1, rfl, h2⟩, hs⟩ := hs0
  refine lv_if_le C.1 C.2.1 hd (tg_eq ho) (fun hc => ?_) (fun hc => ?_)
  · exact (fun hk => hk p l e R s m args below meth c D A bS cI cZ cO L xs Q adl0 fc fs C E adl H locs cells slots als _ P hl hs) (hq ((cv_le h2).mp hc))
  · exact (fun hk => hk p l e R s m args below meth c D A bS cI cZ cO L xs Q adl0 fc fs C E adl H locs cells slots als _ P hl hs) (hp (Classical.not_not.mp (fun z => hc ((cv_le h2).mpr z))))

theorem s_icmp_le {y : Int} {q1 : Nat} {x : Int} {q2 : Nat} {off : Int} (ho : tgo pc off = true) (hd : decode (mb M) pc = .ok (.if_icmp .le off, 3)) (hp : y < x → simAt M (pc + 3) ls st σ r σ') (hq : ¬ y < x → simAt M (tg pc off) ls st σ r σ') : simAt M pc ls ((0, y, q1) :: (0, x, q2) :: st) σ r σ' := by
  intro p l e R s m args below meth c D A bS cI cZ cO L xs Q adl0 fc fs C E adl H locs cells slots als cst P hl hs
  have hs0 := st2_cons hs
  clear hs
  obtain ⟨v1, cst, rfl, ⟨y1, rfl, h1⟩, hs⟩ := hs0
  have hs0 := st2_cons hs
  clear hs
  obtain ⟨v2, cst, rfl, ⟨x1, rfl, h2⟩, hs⟩ := hs0
  refine lv_icmp_le C.1 C.2.1 hd (tg_eq ho) (fun hc => ?_) (fun hc => ?_)
  · exact (fun hk => hk p l e R s m args below meth c D A bS cI cZ cO L xs Q adl0 fc fs C E adl H locs cells slots als _ P hl hs) (hq ((cv_le2 h1 h2).mp hc))
  · exact (fun hk => hk p l e R s m args below meth c D A bS cI cZ cO L xs Q adl0 fc fs C E adl H locs cells slots als _ P hl hs) (hp (Classical.not_not.mp (fun z => hc ((cv_le2 h1 h2).mpr z))))

theorem s_ifnull {z : Int} {q : Nat} {off : Int} (ho : tgo pc off = true) (hd : decode (mb M) pc = .ok (.ifnull off, 3)) (hp : q = 0 → simAt M (tg pc off) ls st σ r σ') (hq : ¬ q = 0 → simAt M (pc + 3) ls st σ r σ') : simAt M pc ls ((1, z, q) :: st) σ r σ' := by
  intro p l e R s m args below meth c D A bS cI cZ cO L xs Q adl0 fc fs C E adl H locs cells slots als cst P hl hs
  have hs0 := st2_cons hs
  clear hs
  obtain ⟨v1, cst, rfl, h1, hs⟩ := hs0
  rcases h1 with ⟨h3, rfl⟩ | ⟨a, h3, h4, rfl⟩
  · refine lv_ifnullN C.1 C.2.1 hd (tg_eq ho) ?_
    exact (fun hk => hk p l e R s m args below meth c D A bS cI cZ cO L xs Q adl0 fc fs C E adl H locs cells slots als _ P hl hs) (hp h3)
  · refine lv_ifnull C.1 C.2.1 hd ?_
    exact (fun hk => hk p l e R s m args below meth c D A bS cI cZ cO L xs Q adl0 fc fs C E adl H locs cells slots als _ P hl hs) (hq (by omega))

theorem s_ifnonnull {z : Int} {q : Nat} {off : Int} (ho : tgo pc off = true) (hd : decode (mb M) pc = .ok (.ifnonnull off, 3)) (hp : q = 0 → simAt M (pc + 3) ls st σ r σ') (hq : ¬ q = 0 → simAt M (tg pc off) ls st σ r σ') : simAt M pc ls ((1, z, q) :: st) σ r σ' := by
  intro p l e R s m args below meth c D A bS cI cZ cO L xs Q adl0 fc fs C E adl H locs cells slots als cst P hl hs
  have hs0 := st2_cons hs
  clear hs
  obtain ⟨v1, cst, rfl, h1, hs⟩ := hs0
  rcases h1 with ⟨h3, rfl⟩ | ⟨a, h3, h4, rfl⟩
  · refine lv_ifnonnullN C.1 C.2.1 hd ?_
    exact (fun hk => hk p l e R s m args below meth c D A bS cI cZ cO L xs Q adl0 fc fs C E adl H locs cells slots als _ P hl hs) (hp h3)
  · refine lv_ifnonnull C.1 C.2.1 hd (tg_eq ho) ?_
    exact (fun hk => hk p l e R s m args below meth c D A bS cI cZ cO L xs Q adl0 fc fs C E adl H locs cells slots als _ P hl hs) (hq (by omega))

theorem s_goto {off : Int} (ho : tgo pc off = true) (hd : decode (mb M) pc = .ok (.goto off, 3)) (hk : simAt M (tg pc off) ls st σ r σ') : simAt M pc ls st σ r σ' := by
  intro p l e R s m args below meth c D A bS cI cZ cO L xs Q adl0 fc fs C E adl H locs cells slots als cst P hl hs
  refine lv_goto C.1 C.2.1 hd (tg_eq ho) ?_
  exact hk p l e R s m args below meth c D A bS cI cZ cO L xs Q adl0 fc fs C E adl H locs cells slots als _ P hl hs

theorem s_table {d lo hi : Int} {offs : Array Int} {len : Nat} {x : Int} {q : Nat} (ho : tgo pc d = true ∧ offs.toList.all (tgo pc) = true ∧ (offs.size : Int) = hi - lo + 1) (hd : decode (mb M) pc = .ok (.tableswitch d lo hi offs, len)) (hk : simAt M (sw (swr pc lo offs.toList) (tg pc d) x) ls st σ r σ') : simAt M pc ls ((0, x, q) :: st) σ r σ' := by
  intro p l e R s m args below meth c D A bS cI cZ cO L xs Q adl0 fc fs C E adl H locs cells slots als cst P hl hs
  have hs0 := st2_cons hs
  clear hs
  obtain ⟨v1, cst, rfl, ⟨x1, rfl, h1⟩, hs⟩ := hs0
  by_cases hr : x < lo ∨ hi < x
  · rw [swr_out (by rw [Array.length_toList]; omega)] at hk
    refine lv_tableOut C.1 C.2.1 hd (by rw [h1]; exact hr) (tg_eq ho.1) ?_
    exact hk p l e R s m args below meth c D A bS cI cZ cO L xs Q adl0 fc fs C E adl H locs cells slots als _ P hl hs
  · have hlt : (x - lo).toNat < offs.toList.length := by rw [Array.length_toList]; omega
    rw [swr_in (k := (x - lo).toNat) (by omega) hlt] at hk
    refine lv_tableIn (off := offs.toList[(x - lo).toNat]) C.1 C.2.1 hd (by rw [h1]; omega) (by rw [h1]; omega) (by rw [h1, ← Array.getElem?_toList]; exact List.getElem?_eq_getElem hlt) (tg_eq (List.all_eq_true.mp ho.2.1 _ (List.getElem_mem hlt))) ?_
    exact hk p l e R s m args below meth c D A bS cI cZ cO L xs Q adl0 fc fs C E adl H locs cells slots als _ P hl hs

theorem s_lookup {d : Int} {ps : Array (Int × Int)} {len : Nat} {x : Int} {q : Nat} (ho : tgo pc d = true ∧ ps.toList.all (fun q => tgo pc q.2) = true ∧ (ps.toList.zip (ps.toList.drop 1)).all (fun (a, next) => a.1 < next.1) = true) (hd : decode (mb M) pc = .ok (.lookupswitch d ps, len)) (hk : simAt M (sw (swl pc ps.toList) (tg pc d) x) ls st σ r σ') : simAt M pc ls ((0, x, q) :: st) σ r σ' := by
  intro p l e R s m args below meth c D A bS cI cZ cO L xs Q adl0 fc fs C E adl H locs cells slots als cst P hl hs
  have hs0 := st2_cons hs
  clear hs
  obtain ⟨v1, cst, rfl, ⟨x1, rfl, h1⟩, hs⟩ := hs0
  obtain ⟨off, h3, h4, h5⟩ := swl_off ps.toList x ho.1 ho.2.1
  rw [h4] at hk
  refine lv_lookup C.1 C.2.1 hd ho.2.2 (by rw [h1]; exact h5) (tg_eq h3) ?_
  exact hk p l e R s m args below meth c D A bS cI cZ cO L xs Q adl0 fc fs C E adl H locs cells slots als _ P hl hs

end SI
end
section
/-! FIELDS, ROWS, NEW CELLS -/
theorem inX (k : Nat) (h : k < 4) : ∀ w ∈ u_ws (cR k) (cT k) (cN k), w ∈ gw := by
  match k, h with
  | 0, _ => exact inX0
  | 1, _ => exact inX1
  | 2, _ => exact inX2
  | 3, _ => exact inX3
theorem vwc_at {k : Nat} (h : k < 4) : vwc[k]? = some (cR k, cT k, cN k) := by
  match k, h with
  | 0, _ => rfl
  | 1, _ => rfl
  | 2, _ => rfl
  | 3, _ => rfl
theorem tyX_ok (k : Nat) (h : k < 4) : ∀ j, j < cN k → parseFieldDescriptor (cT k j).2.2.1 = some (cY k j) := by
  match k, h with
  | 0, _ => exact tyX0_ok
  | 1, _ => exact tyX1_ok
  | 2, _ => exact tyX2_ok
  | 3, _ => exact tyX3_ok
theorem nmX (k : Nat) (h : k < 4) : ∀ a, a < cN k → ∀ b, b < cN k → a ≠ b → (cT k a).2.1 ≠ (cT k b).2.1 := by
  match k, h with
  | 0, _ => exact nmX0
  | 1, _ => exact nmX1
  | 2, _ => exact nmX2
  | 3, _ => exact nmX3
def dfl (k : Nat) : List Value := (List.range (cN k)).map fun j => if isr k j = true then .null else .int 0
theorem dfl_ok : ∀ k, k < 4 → ∀ j, j < cN k → defaultValue (cY k j) = vp_V (dfl k) j := by
  intro k hk
  match k, hk with
  | 0, _ => intro j hj; match j, hj with
    | 0, _ => rfl
    | 1, _ => rfl
    | 2, _ => rfl
    | 3, _ => rfl
    | 4, _ => rfl
    | 5, _ => rfl
    | 6, _ => rfl
    | 7, _ => rfl
    | 8, _ => rfl
    | 9, _ => rfl
    | 10, _ => rfl
    | 11, _ => rfl
    | 12, _ => rfl
  | 1, _ => intro j hj; match j, hj with
    | 0, _ => rfl
    | 1, _ => rfl
    | 2, _ => rfl
    | 3, _ => rfl
    | 4, _ => rfl
    | 5, _ => rfl
  | 2, _ => intro j hj; match j, hj with
    | 0, _ => rfl
    | 1, _ => rfl
    | 2, _ => rfl
    | 3, _ => rfl
    | 4, _ => rfl
    | 5, _ => rfl
    | 6, _ => rfl
  | 3, _ =>
    intro j hj
    match j, hj with
    | 0, _ => exact rfl
    | 1, _ => exact rfl
    | 2, _ => exact rfl
    | 3, _ => exact rfl
    | 4, _ => exact rfl
    | 5, _ => exact rfl
    | 6, _ => exact rfl
    | 7, _ => exact rfl
    | 8, _ => exact rfl
    | 9, _ => exact rfl
    | 10, _ => exact rfl
    | 11, _ => exact rfl
    | 12, _ => exact rfl
    | 13, _ => exact rfl
    | 14, _ => exact rfl
    | 15, _ => exact rfl
    | 16, _ => exact rfl
    | 17, _ => exact rfl
    | 18, _ => exact rfl
    | 19, _ => exact rfl
    | n + 20, h => exact absurd (show n + 20 < 20 from h) (by omega)
/-- a slot's type: ints, or a reference's -/
theorem isr_ty {k j : Nat} (h : isr k j = false) : cY k j = .int := by
  unfold isr at h
  split at h
  · next e => exact e
  · cases h
theorem isr_rf : ∀ k, k < 4 → ∀ j, j < cN k → isr k j = true → (∃ t, cY k j = .array t) ∨ ∃ C, cY k j = .object C := by
  intro k hk j hj h
  have key : ∀ t : FieldType, (match t with | .array _ => true | .object _ => true | .int => true | _ => false) = true → t ≠ .int → (∃ u, t = .array u) ∨ ∃ C, t = .object C := by
    intro t h1 h2
    cases t <;> first | exact Or.inl ⟨_, rfl⟩ | exact Or.inr ⟨_, rfl⟩ | exact absurd rfl h2 | cases h1
  refine key _ ?_ ?_
  · have all : ∀ k, k < 4 → ∀ j, j < cN k → (match cY k j with | .array _ => true | .object _ => true | .int => true | _ => false) = true := by decide +kernel
    exact all k hk j hj
  · intro e
    unfold isr at h
    rw [e] at h
    cases h
theorem cr_obj {adl : List Nat} {bS cI cZ cO kd sz : Nat} {ri : Nat → Int} {rf : Nat → Nat} {e : va_E} (hk : kd < 4) (h : cr adl bS cI cZ cO kd sz ri rf e) : sz = cN kd ∧ ∃ fs : List Value, e = .inr (kd, fs) ∧ fs.length = sz ∧ ∀ j, j < sz → ∃ v, fs[j]? = some v ∧ ar adl bS (if isr kd j = true then vR (rf j) else vI (ri j)) v := by
  rcases h with ⟨-, h⟩ | ⟨h, -⟩ | ⟨h, -⟩ | ⟨h, -⟩
  · exact h
  · omega
  · omega
  · omega
theorem cr_ints {adl : List Nat} {bS cI cZ cO sz : Nat} {ri : Nat → Int} {rf : Nat → Nat} {e : va_E} (h : cr adl bS cI cZ cO 4 sz ri rf e) : sz ≤ 1000 ∧ ∃ f : Nat → Int32, e = .inl (cI, sz, .inl f) ∧ ∀ j, j < sz → (f j).toInt = ri j := by
  rcases h with ⟨h, -⟩ | ⟨-, h⟩ | ⟨h, -⟩ | ⟨h, -⟩
  · omega
  · exact h
  · omega
  · omega
theorem cr_bools {adl : List Nat} {bS cI cZ cO sz : Nat} {ri : Nat → Int} {rf : Nat → Nat} {e : va_E} (h : cr adl bS cI cZ cO 5 sz ri rf e) : sz ≤ 1000 ∧ ∃ f : Nat → Int32, e = .inl (cZ, sz, .inl f) ∧ ∀ j, j < sz → (f j).toInt = ri j := by
  rcases h with ⟨h, -⟩ | ⟨h, -⟩ | ⟨-, h⟩ | ⟨h, -⟩
  · omega
  · omega
  · exact h
  · omega
theorem cr_refs {adl : List Nat} {bS cI cZ cO sz : Nat} {ri : Nat → Int} {rf : Nat → Nat} {e : va_E} (h : cr adl bS cI cZ cO 6 sz ri rf e) : sz ≤ 1000 ∧ ∃ f : Nat → Option Nat, e = .inl (cO, sz, .inr (.inr (.inr (.inr f)))) ∧ ∀ j, j < sz → (rf j = 0 ∧ f j = none) ∨ ∃ a, 1 ≤ rf j ∧ adl[rf j - 1]? = some a ∧ f j = some a := by
  rcases h with ⟨h, -⟩ | ⟨h, -⟩ | ⟨h, -⟩ | ⟨-, h⟩
  · omega
  · omega
  · omega
  · exact h
theorem ar_at {adl : List Nat} {bS q a : Nat} {z : Int} {v : Value} (h : ar adl bS (1, z, q) v) (hq : 1 ≤ q) (ha : adl[q - 1]? = some a) : v = .ref a := by
  rcases h with ⟨h, -⟩ | ⟨b, -, h, rfl⟩
  · omega
  · rw [ha] at h; cases h; rfl
theorem gt_sr (σ : St) (q i : Nat) (F : Nat → Int) : gt (sr σ q F) i = if i = q then F else gt σ i := rfl
theorem gr_rr (σ : St) (q i : Nat) (F : Nat → Nat) : gr (rr σ q F) i = if i = q then F else gr σ i := rfl
section HP
variable {M pc : Nat} {ls st : List AV} {σ σ' : St} {r : AV}
theorem s_get {i k f : Nat} {z : Int} {q : Nat} (hq : fl.lookup (mo M, i) = some (k, f)) (hf : fok σ q k) (hd : decode (mb M) pc = .ok (.getfield i, 3)) (hk : simAt M (pc + 3) ls ((if isr k f = true then vR (gr σ q f) else vI (gt σ q f)) :: st) σ r σ') : simAt M pc ls ((1, z, q) :: st) σ r σ' := by
  intro p l e R s m args below meth c D A bS cI cZ cO L xs Q adl0 fc fs C E adl H locs cells slots als cst P hl hs
  have hs0 := st2_cons hs
  clear hs
  obtain ⟨v1, cst, rfl, h1, hs⟩ := hs0
  obtain ⟨ws, hx, hw, hP, hD, hS, hrest⟩ := id P
  obtain ⟨f1, f2, f3, -⟩ := ffacts _ (lookup_mem hq)
  obtain ⟨a, e', g1, g2, g3⟩ := wd_at hw hf
  obtain rfl := ar_at h1 hf.1 g1
  obtain ⟨c1, vs, rfl, c3, c4⟩ := cr_obj f1 g3
  obtain ⟨v, c5, c6⟩ := c4 f (by rw [c1]; exact f2)
  refine va_get (D := D) (ci := k) (v := v) (C := cR k) (T := cT k) (N := cN k) C.1 C.2.1 C.2.2.2.2.1 (inX k f1) C.2.2.2.1 C.2.2.2.2.2.2.2.2.1 hP (q - 1) g2 (vwc_at f1) f f2 (C.2.2.2.2.1 _ f3) (fun _ h9 => h9) c5 hd ?_
  exact hk p l e R s m args below meth c D A bS cI cZ cO L xs Q adl0 fc fs C E adl H locs cells slots als _ P hl ⟨c6, hs⟩
/-- a field set anew, an int or a reference -/
theorem s_put {i k f : Nat} {z0 : Int} {q : Nat} {t t' : AV} (hta : ∀ adl bS v, ar adl bS t v → ar adl bS t' v) {σ1 : St} (hq : fl.lookup (mo M, i) = some (k, f)) (hf : fok σ q k) (hfin : fin k f = true → (my M).name = "<init>" ∧ (cT k f).1 = oS (mo M))
    (hn : nn σ1 = nn σ) (hnt : nt σ1 = nt σ) (hsk : sk σ1 = sk σ) (hsl : sl σ1 = sl σ) (hsx : sx σ1 = sx σ) (hg : ∀ i, i ≠ q → gt σ1 i = gt σ i) (hr : ∀ i, i ≠ q → gr σ1 i = gr σ i)
    (hnew : ∀ j : Nat, (if isr k j = true then vR (gr σ1 q j) else vI (gt σ1 q j)) = if j = f then t' else (if isr k j = true then vR (gr σ q j) else vI (gt σ q j)))
    (hty : (isr k f = false ∧ t.1 = 0) ∨ (isr k f = true ∧ ∃ z w, t = (1, z, w) ∧ 1 ≤ w))
    (hd : decode (mb M) pc = .ok (.putfield i, 3)) (hk : simAt M (pc + 3) ls st σ1 r σ') : simAt M pc ls (t :: (1, z0, q) :: st) σ r σ' := by
  intro p l e R s m args below meth c D A bS cI cZ cO L xs Q adl0 fc fs C E adl H locs cells slots als cst P hl hs
  have hs0 := st2_cons hs
  clear hs
  obtain ⟨v1, cst, rfl, h1, hs⟩ := hs0
  have hs0 := st2_cons hs
  clear hs
  obtain ⟨v2, cst, rfl, h2, hs⟩ := hs0
  obtain ⟨ws, hx, hw, hP, hD, hS, hrest⟩ := P
  obtain ⟨f1, f2, f3, -⟩ := ffacts _ (lookup_mem hq)
  obtain ⟨a, e', g1, g2, g3⟩ := wd_at hw hf
  obtain rfl := ar_at h2 hf.1 g1
  obtain ⟨c1, vs, rfl, c3, c4⟩ := cr_obj f1 g3
  have hfl : f < vs.length := by rw [c3, c1]; exact f2
  have hnar : narrow (cY k f) v1 = v1 ∧ fits (cY k f) v1 = true := by
    rcases hty with ⟨a1, a2⟩ | ⟨a1, z, w, rfl, a2⟩
    · rw [isr_ty a1]
      obtain ⟨g, zz, kk⟩ := t
      cases a2
      obtain ⟨x, rfl, -⟩ := h1
      exact ⟨rfl, rfl⟩
    · rcases h1 with ⟨h, -⟩ | ⟨b, -, -, rfl⟩
      · omega
      · rcases isr_rf k f1 f f2 a1 with ⟨u, e⟩ | ⟨u, e⟩ <;> (rw [e]; exact ⟨rfl, rfl⟩)
  have fin' : ∀ (H1 : Heap) (locs1 : List Loc), va_P D vwc (ws.set (q - 1) (a, .inr (k, vs.set f v1))) H1 → va_D A (ws.set (q - 1) (a, .inr (k, vs.set f v1))) → va_S A s.heap H1 locs1 → W p l e R s m args below meth c H1 locs1 cells slots Q (F0 m (pc + 3) als cst) := by
    intro H1 locs1 hP1 hD1 hS1
    refine hk p l e R s m args below meth c D A bS cI cZ cO L xs Q adl0 fc fs C E adl H1 locs1 cells slots als _ ⟨_, hx, wd_set hw hf.1 hf.2.1 g1 hn hsk hg hr ?_, hP1, hD1, hS1, ?_⟩ hl hs
    · rw [hf.2.2]
      refine Or.inl ⟨f1, c1, _, rfl, by rw [List.length_set]; exact c3, fun j hj => ?_⟩
      rw [hnew j]
      by_cases e : j = f
      · subst e
        rw [if_pos rfl]
        exact ⟨v1, by rw [List.getElem?_set_self hfl], hta _ _ _ h1⟩
      · rw [if_neg e]
        obtain ⟨v, c5, c6⟩ := c4 j hj
        exact ⟨v, by rw [List.getElem?_set_ne (fun z => e z.symm)]; exact c5, c6⟩
    · rw [hn, hnt, hsl, hsx]
      exact hrest
  cases hfi : fin k f with
  | false => exact va_put (D := D) (ci := k) (v := v1) (ty := cY k f) (C := cR k) (T := cT k) (N := cN k) C.1 C.2.1 C.2.2.2.2.1 (inX k f1) (cY k) (tyX_ok k f1) (nmX k f1) C.2.2.2.1 C.2.2.2.2.2.2.2.2.1 hP hD hS (q - 1) g2 (vwc_at f1) f f2 (C.2.2.2.2.1 _ f3) (fun _ h9 => h9) hfi (tyX_ok k f1 f f2) hnar.1 hnar.2 hfl hd fin'
  | true => exact va_putF (D := D) (ci := k) (v := v1) (ty := cY k f) (C := cR k) (T := cT k) (N := cN k) C.1 C.2.1 C.2.2.2.2.1 (inX k f1) (cY k) (tyX_ok k f1) (nmX k f1) C.2.2.2.1 C.2.2.2.2.2.2.2.2.1 hP hD hS (q - 1) g2 (vwc_at f1) f f2 (C.2.2.2.2.1 _ f3) (fun _ h9 => h9) hfi (C.2.2.2.2.2.2.2.1 (hfin hfi).1) (hfin hfi).2 (tyX_ok k f1 f f2) hnar.1 hnar.2 hfl hd fin'
theorem vp_ofj {x : Int32} {j : Int} {n : Nat} (h : x.toInt = j) (h0 : 0 ≤ j) (h1 : j < (n : Int)) : vp_in x n := vp_in_iff.mpr (by rw [h]; exact ⟨h0, h1⟩)
theorem tnc {x : Int32} {j : Int} (h : x.toInt = j) : x.toNatClampNeg = j.toNat := by rw [← h]; rfl
theorem s_iald {z : Int} {j : Int} {q q1 : Nat} (hf : aok σ q 4 j) (hd : decode (mb M) pc = .ok (.iaload, 1)) (hk : simAt M (pc + 1) ls (vI (gt σ q j.toNat) :: st) σ r σ') : simAt M pc ls ((0, j, q1) :: (1, z, q) :: st) σ r σ' := by
  intro p l e R s m args below meth c D A bS cI cZ cO L xs Q adl0 fc fs C E adl H locs cells slots als cst P hl hs
  have hs0 := st2_cons hs
  clear hs
  obtain ⟨v1, cst, rfl, ⟨x1, rfl, h1⟩, hs⟩ := hs0
  have hs0 := st2_cons hs
  clear hs
  obtain ⟨v2, cst, rfl, h2, hs⟩ := hs0
  obtain ⟨ws, hx, hw, hP, hD, hS, hrest⟩ := id P
  obtain ⟨hf, j0, j1⟩ := hf
  obtain ⟨a, e', g1, g2, g3⟩ := wd_at hw hf
  obtain rfl := ar_at h2 hf.1 g1
  obtain ⟨c1, f, rfl, c2⟩ := cr_ints g3
  refine va_iald C.1 C.2.1 C.2.2.2.2.2.2.2.2.1 hP (q - 1) 0 g2 rfl (vp_ofj h1 j0 j1) hd ?_
  exact hk p l e R s m args below meth c D A bS cI cZ cO L xs Q adl0 fc fs C E adl H locs cells slots als _ P hl ⟨⟨_, rfl, by rw [tnc h1]; exact c2 _ (by omega)⟩, hs⟩
theorem s_zald {z : Int} {j : Int} {q q1 : Nat} (hf : aok σ q 5 j) (hd : decode (mb M) pc = .ok (.baload, 1)) (hk : simAt M (pc + 1) ls (vI (gt σ q j.toNat) :: st) σ r σ') : simAt M pc ls ((0, j, q1) :: (1, z, q) :: st) σ r σ' := by
  intro p l e R s m args below meth c D A bS cI cZ cO L xs Q adl0 fc fs C E adl H locs cells slots als cst P hl hs
  have hs0 := st2_cons hs
  clear hs
  obtain ⟨v1, cst, rfl, ⟨x1, rfl, h1⟩, hs⟩ := hs0
  have hs0 := st2_cons hs
  clear hs
  obtain ⟨v2, cst, rfl, h2, hs⟩ := hs0
  obtain ⟨ws, hx, hw, hP, hD, hS, hrest⟩ := id P
  obtain ⟨hf, j0, j1⟩ := hf
  obtain ⟨a, e', g1, g2, g3⟩ := wd_at hw hf
  obtain rfl := ar_at h2 hf.1 g1
  obtain ⟨c1, f, rfl, c2⟩ := cr_bools g3
  refine va_zald C.1 C.2.1 C.2.2.2.2.2.2.2.2.1 hP (q - 1) 1 g2 rfl (vp_ofj h1 j0 j1) hd ?_
  exact hk p l e R s m args below meth c D A bS cI cZ cO L xs Q adl0 fc fs C E adl H locs cells slots als _ P hl ⟨⟨_, rfl, by rw [tnc h1]; exact c2 _ (by omega)⟩, hs⟩
theorem s_aald {z : Int} {j : Int} {q q1 : Nat} (hf : aok σ q 6 j) (hd : decode (mb M) pc = .ok (.aaload, 1)) (hk : simAt M (pc + 1) ls (vR (gr σ q j.toNat) :: st) σ r σ') : simAt M pc ls ((0, j, q1) :: (1, z, q) :: st) σ r σ' := by
  intro p l e R s m args below meth c D A bS cI cZ cO L xs Q adl0 fc fs C E adl H locs cells slots als cst P hl hs
  have hs0 := st2_cons hs
  clear hs
  obtain ⟨v1, cst, rfl, ⟨x1, rfl, h1⟩, hs⟩ := hs0
  have hs0 := st2_cons hs
  clear hs
  obtain ⟨v2, cst, rfl, h2, hs⟩ := hs0
  obtain ⟨ws, hx, hw, hP, hD, hS, hrest⟩ := id P
  obtain ⟨hf, j0, j1⟩ := hf
  obtain ⟨a, e', g1, g2, g3⟩ := wd_at hw hf
  obtain rfl := ar_at h2 hf.1 g1
  obtain ⟨c1, f, rfl, c2⟩ := cr_refs g3
  refine va_aldq C.1 C.2.1 C.2.2.2.2.2.2.2.2.1 hP (q - 1) 2 g2 rfl (vp_ofj h1 j0 j1) hd ?_
  refine hk p l e R s m args below meth c D A bS cI cZ cO L xs Q adl0 fc fs C E adl H locs cells slots als _ P hl ⟨?_, hs⟩
  rw [tnc h1]
  rcases c2 _ (show j.toNat < (sk σ q).2 by omega) with ⟨b1, b2⟩ | ⟨b, b1, b2, b3⟩
  · exact Or.inl ⟨b1, by rw [b2]; rfl⟩
  · exact Or.inr ⟨b, b1, b2, by rw [b3]; rfl⟩
theorem s_iast {z y : Int} {j : Int} {q q1 q2 : Nat} (hf : aok σ q 4 j) (hd : decode (mb M) pc = .ok (.iastore, 1)) (hk : simAt M (pc + 1) ls st (sr σ q (ru (gt σ q) j.toNat y)) r σ') : simAt M pc ls ((0, y, q2) :: (0, j, q1) :: (1, z, q) :: st) σ r σ' := by
  intro p l e R s m args below meth c D A bS cI cZ cO L xs Q adl0 fc fs C E adl H locs cells slots als cst P hl hs
  have hs0 := st2_cons hs
  clear hs
  obtain ⟨v0, cst, rfl, ⟨x0, rfl, h0⟩, hs⟩ := hs0
  have hs0 := st2_cons hs
  clear hs
  obtain ⟨v1, cst, rfl, ⟨x1, rfl, h1⟩, hs⟩ := hs0
  have hs0 := st2_cons hs
  clear hs
  obtain ⟨v2, cst, rfl, h2, hs⟩ := hs0
  obtain ⟨ws, hx, hw, hP, hD, hS, hrest⟩ := P
  obtain ⟨hf, j0, j1⟩ := hf
  obtain ⟨a, e', g1, g2, g3⟩ := wd_at hw hf
  obtain rfl := ar_at h2 hf.1 g1
  obtain ⟨c1, f, rfl, c2⟩ := cr_ints g3
  refine va_iast C.1 C.2.1 C.2.2.2.2.2.2.2.2.1 hP hD hS (q - 1) 0 g2 rfl (vp_ofj h1 j0 j1) hd (fun H1 locs1 hP1 hD1 hS1 => ?_)
  refine hk p l e R s m args below meth c D A bS cI cZ cO L xs Q adl0 fc fs C E adl H1 locs1 cells slots als _ ⟨_, hx, wd_set hw hf.1 hf.2.1 g1 rfl rfl (fun i hi => by rw [gt_sr, if_neg hi]) (fun i _ => rfl) ?_, hP1, hD1, hS1, hrest⟩ hl hs
  rw [hf.2.2]
  refine Or.inr (Or.inl ⟨rfl, c1, _, rfl, fun i hi => ?_⟩)
  rw [gt_sr, if_pos rfl, tnc h1]
  unfold upd ru
  by_cases e : i = j.toNat
  · rw [if_pos e, if_pos e]; exact h0
  · rw [if_neg e, if_neg e]; exact c2 i hi
theorem s_zast {z y : Int} {j : Int} {q q1 q2 : Nat} (hf : aok σ q 5 j) (hy : y = 0 ∨ y = 1) (hd : decode (mb M) pc = .ok (.bastore, 1)) (hk : simAt M (pc + 1) ls st (sr σ q (ru (gt σ q) j.toNat y)) r σ') : simAt M pc ls ((0, y, q2) :: (0, j, q1) :: (1, z, q) :: st) σ r σ' := by
  intro p l e R s m args below meth c D A bS cI cZ cO L xs Q adl0 fc fs C E adl H locs cells slots als cst P hl hs
  have hs0 := st2_cons hs
  clear hs
  obtain ⟨v0, cst, rfl, ⟨x0, rfl, h0⟩, hs⟩ := hs0
  have hs0 := st2_cons hs
  clear hs
  obtain ⟨v1, cst, rfl, ⟨x1, rfl, h1⟩, hs⟩ := hs0
  have hs0 := st2_cons hs
  clear hs
  obtain ⟨v2, cst, rfl, h2, hs⟩ := hs0
  obtain ⟨ws, hx, hw, hP, hD, hS, hrest⟩ := P
  obtain ⟨hf, j0, j1⟩ := hf
  obtain ⟨a, e', g1, g2, g3⟩ := wd_at hw hf
  obtain rfl := ar_at h2 hf.1 g1
  obtain ⟨c1, f, rfl, c2⟩ := cr_bools g3
  have hnar : vp_nar .boolean x0 = x0 := by
    have : x0 = 0 ∨ x0 = 1 := by
      rcases hy with e | e
      · exact Or.inl (Int32.toInt_inj.mp (by rw [h0, e]; rfl))
      · exact Or.inr (Int32.toInt_inj.mp (by rw [h0, e]; rfl))
    rcases this with rfl | rfl <;> decide
  refine va_zast C.1 C.2.1 C.2.2.2.2.2.2.2.2.1 hP hD hS (q - 1) 1 g2 rfl (vp_ofj h1 j0 j1) hd (fun H1 locs1 hP1 hD1 hS1 => ?_)
  rw [hnar] at hP1 hD1
  refine hk p l e R s m args below meth c D A bS cI cZ cO L xs Q adl0 fc fs C E adl H1 locs1 cells slots als _ ⟨_, hx, wd_set hw hf.1 hf.2.1 g1 rfl rfl (fun i hi => by rw [gt_sr, if_neg hi]) (fun i _ => rfl) ?_, hP1, hD1, hS1, hrest⟩ hl hs
  rw [hf.2.2]
  refine Or.inr (Or.inr (Or.inl ⟨rfl, c1, _, rfl, fun i hi => ?_⟩))
  rw [gt_sr, if_pos rfl, tnc h1]
  unfold upd ru
  by_cases e : i = j.toNat
  · rw [if_pos e, if_pos e]; exact h0
  · rw [if_neg e, if_neg e]; exact c2 i hi
theorem s_aast {z z2 : Int} {j : Int} {q q1 w : Nat} (hf : aok σ q 6 j) (hw0 : fok σ w 0) (hd : decode (mb M) pc = .ok (.aastore, 1)) (hk : simAt M (pc + 1) ls st (rr σ q (ru (gr σ q) j.toNat w)) r σ') : simAt M pc ls ((1, z2, w) :: (0, j, q1) :: (1, z, q) :: st) σ r σ' := by
  intro p l e R s m args below meth c D A bS cI cZ cO L xs Q adl0 fc fs C E adl H locs cells slots als cst P hl hs
  have hs0 := st2_cons hs
  clear hs
  obtain ⟨v0, cst, rfl, h0, hs⟩ := hs0
  have hs0 := st2_cons hs
  clear hs
  obtain ⟨v1, cst, rfl, ⟨x1, rfl, h1⟩, hs⟩ := hs0
  have hs0 := st2_cons hs
  clear hs
  obtain ⟨v2, cst, rfl, h2, hs⟩ := hs0
  obtain ⟨ws, hx, hw, hP, hD, hS, hrest⟩ := P
  obtain ⟨hf, j0, j1⟩ := hf
  obtain ⟨a, e', g1, g2, g3⟩ := wd_at hw hf
  obtain rfl := ar_at h2 hf.1 g1
  obtain ⟨c1, f, rfl, c2⟩ := cr_refs g3
  obtain ⟨b, e2, k1, k2, k3⟩ := wd_at hw hw0
  obtain rfl := ar_at h0 hw0.1 k1
  obtain ⟨-, vs, rfl, -, -⟩ := cr_obj (by decide) k3
  refine va_astq (r := (RX0, TX0, 13)) C.1 C.2.1 C.2.2.2.2.2.2.2.2.1 hP hD hS (q - 1) 2 (w - 1) 0 g2 rfl k2 rfl (vp_ofj h1 j0 j1) hd (fun H1 locs1 hP1 hD1 hS1 => ?_)
  refine hk p l e R s m args below meth c D A bS cI cZ cO L xs Q adl0 fc fs C E adl H1 locs1 cells slots als _ ⟨_, hx, wd_set hw hf.1 hf.2.1 g1 rfl rfl (fun i _ => rfl) (fun i hi => by rw [gr_rr, if_neg hi]) ?_, hP1, hD1, hS1, hrest⟩ hl hs
  rw [hf.2.2]
  refine Or.inr (Or.inr (Or.inr ⟨rfl, c1, _, rfl, fun i hi => ?_⟩))
  rw [gr_rr, if_pos rfl, tnc h1]
  unfold va_up ru
  by_cases e : i = j.toNat
  · rw [if_pos e, if_pos e]; exact Or.inr ⟨b, hw0.1, k1, rfl⟩
  · rw [if_neg e, if_neg e]; exact c2 i hi
theorem s_alen {z : Int} {q : Nat} (hf : fok σ q 4 ∨ fok σ q 6) (hd : decode (mb M) pc = .ok (.arraylength, 1)) (hk : simAt M (pc + 1) ls (vI (sk σ q).2 :: st) σ r σ') : simAt M pc ls ((1, z, q) :: st) σ r σ' := by
  intro p l e R s m args below meth c D A bS cI cZ cO L xs Q adl0 fc fs C E adl H locs cells slots als cst P hl hs
  have hs0 := st2_cons hs
  clear hs
  obtain ⟨v2, cst, rfl, h2, hs⟩ := hs0
  obtain ⟨ws, hx, hw, hP, hD, hS, hrest⟩ := id P
  have hsz : ∀ n : Nat, n ≤ 1000 → (Int32.ofNat n).toInt = (n : Int) := fun n hn => i32_of (n := (n : Int)) (by omega) (by omega)
  rcases hf with hf | hf
  · obtain ⟨a, e', g1, g2, g3⟩ := wd_at hw hf
    obtain rfl := ar_at h2 hf.1 g1
    obtain ⟨c1, f, rfl, c2⟩ := cr_ints g3
    refine va_alen C.1 C.2.1 C.2.2.2.2.2.2.2.2.1 hP (q - 1) 0 g2 (ty := .int) rfl rfl hd ?_
    exact hk p l e R s m args below meth c D A bS cI cZ cO L xs Q adl0 fc fs C E adl H locs cells slots als _ P hl ⟨⟨_, rfl, hsz _ c1⟩, hs⟩
  · obtain ⟨a, e', g1, g2, g3⟩ := wd_at hw hf
    obtain rfl := ar_at h2 hf.1 g1
    obtain ⟨c1, f, rfl, c2⟩ := cr_refs g3
    refine va_alen C.1 C.2.1 C.2.2.2.2.2.2.2.2.1 hP (q - 1) 2 g2 (ty := .object RX0) rfl rfl hd ?_
    exact hk p l e R s m args below meth c D A bS cI cZ cO L xs Q adl0 fc fs C E adl H locs cells slots als _ P hl ⟨⟨_, rfl, hsz _ c1⟩, hs⟩
theorem s_slen {z : Int} {q : Nat} (hM : mo M = 4) (hd : decode (mb M) pc = .ok (.arraylength, 1)) (hk : simAt M (pc + 1) ls (vI (sl σ) :: st) σ r σ') : simAt M pc ls ((5, z, q) :: st) σ r σ' := by
  intro p l e R s m args below meth c D A bS cI cZ cO L xs Q adl0 fc fs C E adl H locs cells slots als cst P hl hs
  have hs0 := st2_cons hs
  clear hs
  obtain ⟨v2, cst, rfl, h2, hs⟩ := hs0
  cases h2
  obtain ⟨ws, hx, hw, hP, hD, hS, -, -, -, -, hscr⟩ := id P
  obtain ⟨c1, c2, c3, c4⟩ := C.2.2.2.2.2.2.2.2.2.2.1 hM
  refine va_slen C.1 C.2.1 c2 c3 c4 hS hd ?_
  refine hk p l e R s m args below meth c D A bS cI cZ cO L xs Q adl0 fc fs C E adl H locs cells slots als _ P hl ⟨⟨_, rfl, ?_⟩, hs⟩
  rw [(hscr hM).1]
  exact i32_of (n := (L : Int)) (by omega) (by omega)
theorem s_sald {z : Int} {j : Int} {q q1 : Nat} (hM : mo M = 4) (hj : 0 ≤ j ∧ j < (sl σ : Int)) (hd : decode (mb M) pc = .ok (.iaload, 1)) (hk : simAt M (pc + 1) ls (vI (sx σ j.toNat) :: st) σ r σ') : simAt M pc ls ((0, j, q1) :: (5, z, q) :: st) σ r σ' := by
  intro p l e R s m args below meth c D A bS cI cZ cO L xs Q adl0 fc fs C E adl H locs cells slots als cst P hl hs
  have hs0 := st2_cons hs
  clear hs
  obtain ⟨v1, cst, rfl, ⟨x1, rfl, h1⟩, hs⟩ := hs0
  have hs0 := st2_cons hs
  clear hs
  obtain ⟨v2, cst, rfl, h2, hs⟩ := hs0
  cases h2
  obtain ⟨ws, hx, hw, hP, hD, hS, -, -, -, -, hscr⟩ := id P
  obtain ⟨c1, c2, c3, c4⟩ := C.2.2.2.2.2.2.2.2.2.2.1 hM
  obtain ⟨d1, d2⟩ := hscr hM
  rw [d1] at hj
  refine va_sld C.1 C.2.1 c2 c3 c4 hS (vp_ofj h1 hj.1 hj.2) hd ?_
  refine hk p l e R s m args below meth c D A bS cI cZ cO L xs Q adl0 fc fs C E adl H locs cells slots als _ P hl ⟨⟨_, rfl, ?_⟩, hs⟩
  rw [tnc h1]
  exact d2 _ (by omega)
theorem al_nn (σ : St) (kd sz : Nat) : nn (al σ kd sz) = nn σ + 1 ∧ nt (al σ kd sz) = nt σ + sz := ⟨rfl, rfl⟩
/-- the world with one cell more -/
theorem wp_push {adl0 : List Nat} {bS cI cZ cO L : Nat} {xs : Nat → Int32} {s : State} {D : va_G} {A : Nat → Prop} {fc fs : Nat} {adl : List Nat} {H1 : Heap} {locs : List Loc} {cells slots kd sz a : Nat} {e : va_E} {ws : va_W}
    (hx : ∃ x, adl = adl0 ++ x) (hw : wd adl bS cI cZ cO σ ws) (hrest : cells + nn σ' = fc + nn σ ∧ slots + nt σ' = fs + nt σ ∧ nn σ ≤ nn σ' ∧ nt σ ≤ nt σ' ∧ (mo M = 4 → sl σ = L ∧ ∀ j : Nat, j < L → (xs j).toInt = sx σ j))
    (hg : nn (al σ kd sz) ≤ nn σ' ∧ nt (al σ kd sz) ≤ nt σ') (hc : cr adl bS cI cZ cO kd sz (fun _ => 0) (fun _ => 0) e) (hP1 : va_P D vwc (ws ++ [(a, e)]) H1) (hD1 : va_D A (ws ++ [(a, e)])) (hS1 : va_S A s.heap H1 locs) :
    wp adl0 bS cI cZ cO L xs M s D A fc fs σ' (al σ kd sz) (adl ++ [a]) H1 locs (cells + 1) (slots + sz) := by
  obtain ⟨x, rfl⟩ := hx
  obtain ⟨r1, r2, r3, r4, r5⟩ := hrest
  have e1 := (al_nn σ kd sz).1
  have e2 := (al_nn σ kd sz).2
  exact ⟨_, ⟨x ++ [a], by rw [List.append_assoc]⟩, wd_push hw hc, hP1, hD1, hS1, by omega, by omega, hg.1, hg.2, r5⟩
theorem s_newi {y : Int} {q : Nat} (hy : 0 ≤ y ∧ y ≤ 1000) (hg : nn (al σ 4 y.toNat) ≤ nn σ' ∧ nt (al σ 4 y.toNat) ≤ nt σ') (hd : decode (mb M) pc = .ok (.newarray .int, 2)) (hk : simAt M (pc + 2) ls (vR (nn σ + 1) :: st) (al σ 4 y.toNat) r σ') : simAt M pc ls ((0, y, q) :: st) σ r σ' := by
  intro p l e R s m args below meth c D A bS cI cZ cO L xs Q adl0 fc fs C E adl H locs cells slots als cst P hl hs
  have hs0 := st2_cons hs
  clear hs
  obtain ⟨v1, cst, rfl, ⟨x1, rfl, h1⟩, hs⟩ := hs0
  obtain ⟨ws, hx, hw, hP, hD, hS, hrest⟩ := P
  obtain ⟨-, -, r3, r4⟩ := C.2.2.2.2.2.2.2.2.2.2.2
  have hK := C.2.2.2.2.2.2.2.2.1
  obtain ⟨r5, r6, -⟩ := id hrest
  have e1 := (al_nn σ 4 y.toNat).1
  have e2 := (al_nn σ 4 y.toNat).2
  refine va_newa (atype := .int) (ty := .int) (a0 := (y.toNat, .inl (fun _ => 0))) (N' := y.toNat) C.1 C.2.1 (C.2.2.2.2.1 _ gw_arr.1) rfl hK hP hD hS C.2.2.2.2.2.2.2.2.2.1 (fun cA => rfl) (by rw [cv_lt h1]; omega) (tnc h1) (by show y.toNat * 4 ≤ _; omega) (by omega) (by omega) hd (fun q' cA H1 hK1 hP1 hD1 hS1 => ?_)
  have hcA : cA = cI := Option.some.inj (((hK1.2 3 _ rfl).2 : s.vm.findClass ("[" ++ FieldType.int.toString) = some cA).symm.trans ((hK.2 0 _ rfl).2 : s.vm.findClass ("[" ++ FieldType.int.toString) = some cI))
  subst hcA
  refine hk p l e R s m args below meth c D A bS cA cZ cO L xs Q adl0 fc fs C E (adl ++ [q']) H1 locs (cells + 1) (slots + y.toNat) als _ (wp_push hx hw hrest hg ?_ hP1 hD1 hS1) (lr_pre ⟨_, rfl⟩ hl) ⟨?_, st2_pre ⟨_, rfl⟩ hs⟩
  · exact Or.inr (Or.inl ⟨rfl, by omega, _, rfl, fun j _ => rfl⟩)
  · exact Or.inr ⟨q', by omega, by rw [show nn σ + 1 - 1 = nn σ by omega, ← hw.2.1]; simp, rfl⟩
theorem s_newz {y : Int} {q : Nat} (hy : 0 ≤ y ∧ y ≤ 1000) (hg : nn (al σ 5 y.toNat) ≤ nn σ' ∧ nt (al σ 5 y.toNat) ≤ nt σ') (hd : decode (mb M) pc = .ok (.newarray .boolean, 2)) (hk : simAt M (pc + 2) ls (vR (nn σ + 1) :: st) (al σ 5 y.toNat) r σ') : simAt M pc ls ((0, y, q) :: st) σ r σ' := by
  intro p l e R s m args below meth c D A bS cI cZ cO L xs Q adl0 fc fs C E adl H locs cells slots als cst P hl hs
  have hs0 := st2_cons hs
  clear hs
  obtain ⟨v1, cst, rfl, ⟨x1, rfl, h1⟩, hs⟩ := hs0
  obtain ⟨ws, hx, hw, hP, hD, hS, hrest⟩ := P
  obtain ⟨-, -, r3, r4⟩ := C.2.2.2.2.2.2.2.2.2.2.2
  have hK := C.2.2.2.2.2.2.2.2.1
  obtain ⟨r5, r6, -⟩ := id hrest
  have e1 := (al_nn σ 5 y.toNat).1
  have e2 := (al_nn σ 5 y.toNat).2
  refine va_newa (atype := .boolean) (ty := .boolean) (a0 := (y.toNat, .inl (fun _ => 0))) (N' := y.toNat) C.1 C.2.1 (C.2.2.2.2.1 _ gw_arr.2) rfl hK hP hD hS C.2.2.2.2.2.2.2.2.2.1 (fun cA => rfl) (by rw [cv_lt h1]; omega) (tnc h1) (by show y.toNat * 1 ≤ _; omega) (by omega) (by omega) hd (fun q' cA H1 hK1 hP1 hD1 hS1 => ?_)
  have hcA : cA = cZ := Option.some.inj (((hK1.2 3 _ rfl).2 : s.vm.findClass ("[" ++ FieldType.boolean.toString) = some cA).symm.trans ((hK.2 1 _ rfl).2 : s.vm.findClass ("[" ++ FieldType.boolean.toString) = some cZ))
  subst hcA
  refine hk p l e R s m args below meth c D A bS cI cA cO L xs Q adl0 fc fs C E (adl ++ [q']) H1 locs (cells + 1) (slots + y.toNat) als _ (wp_push hx hw hrest hg ?_ hP1 hD1 hS1) (lr_pre ⟨_, rfl⟩ hl) ⟨?_, st2_pre ⟨_, rfl⟩ hs⟩
  · exact Or.inr (Or.inr (Or.inl ⟨rfl, by omega, _, rfl, fun j _ => rfl⟩))
  · exact Or.inr ⟨q', by omega, by rw [show nn σ + 1 - 1 = nn σ by omega, ← hw.2.1]; simp, rfl⟩
theorem s_newr {y : Int} {q i : Nat} (hq : nlk.lookup (mo M, i) = some 0) (hy : 0 ≤ y ∧ y ≤ 1000) (hg : nn (al σ 6 y.toNat) ≤ nn σ' ∧ nt (al σ 6 y.toNat) ≤ nt σ') (hd : decode (mb M) pc = .ok (.anewarray i, 3)) (hk : simAt M (pc + 3) ls (vR (nn σ + 1) :: st) (al σ 6 y.toNat) r σ') : simAt M pc ls ((0, y, q) :: st) σ r σ' := by
  intro p l e R s m args below meth c D A bS cI cZ cO L xs Q adl0 fc fs C E adl H locs cells slots als cst P hl hs
  have hs0 := st2_cons hs
  clear hs
  obtain ⟨v1, cst, rfl, ⟨x1, rfl, h1⟩, hs⟩ := hs0
  obtain ⟨ws, hx, hw, hP, hD, hS, hrest⟩ := P
  obtain ⟨-, -, r3, r4⟩ := C.2.2.2.2.2.2.2.2.2.2.2
  have hK := C.2.2.2.2.2.2.2.2.1
  obtain ⟨r5, r6, -⟩ := id hrest
  have e1 := (al_nn σ 6 y.toNat).1
  have e2 := (al_nn σ 6 y.toNat).2
  obtain ⟨-, n1, n2, n3⟩ := nfacts _ (lookup_mem hq)
  refine va_newq (N' := y.toNat) C.1 C.2.1 C.2.2.2.1 (C.2.2.2.2.1 _ n1) C.2.2.2.2.2.2.1 hK hP hD hS C.2.2.2.2.2.2.2.2.2.1 (by rw [cv_lt h1]; omega) (tnc h1) (by omega) (by omega) (by omega) hd (fun q' cA H1 hK1 hP1 hD1 hS1 => ?_)
  have hcA : cA = cO := by
    obtain ⟨kA, comp, -, -, -, a1⟩ := (hK1.2 3 _ rfl).2
    obtain ⟨kB, comp', -, -, -, a2⟩ := (hK.2 2 _ rfl).2
    exact Option.some.inj (a1.symm.trans a2)
  subst hcA
  refine hk p l e R s m args below meth c D A bS cI cZ cA L xs Q adl0 fc fs C E (adl ++ [q']) H1 locs (cells + 1) (slots + y.toNat) als _ (wp_push hx hw hrest hg ?_ hP1 hD1 hS1) (lr_pre ⟨_, rfl⟩ hl) ⟨?_, st2_pre ⟨_, rfl⟩ hs⟩
  · exact Or.inr (Or.inr (Or.inr ⟨rfl, by omega, _, rfl, fun j _ => Or.inl ⟨rfl, rfl⟩⟩))
  · exact Or.inr ⟨q', by omega, by rw [show nn σ + 1 - 1 = nn σ by omega, ← hw.2.1]; simp, rfl⟩
theorem s_new {k i : Nat} (hq : nlk.lookup (mo M, i) = some k) (hg : nn (al σ k (cN k)) ≤ nn σ' ∧ nt (al σ k (cN k)) ≤ nt σ') (hd : decode (mb M) pc = .ok (.new i, 3)) (hk : simAt M (pc + 3) ls (vR (nn σ + 1) :: st) (al σ k (cN k)) r σ') : simAt M pc ls st σ r σ' := by
  intro p l e R s m args below meth c D A bS cI cZ cO L xs Q adl0 fc fs C E adl H locs cells slots als cst P hl hs
  obtain ⟨ws, hx, hw, hP, hD, hS, hrest⟩ := P
  obtain ⟨-, -, r3, r4⟩ := C.2.2.2.2.2.2.2.2.2.2.2
  have hK := C.2.2.2.2.2.2.2.2.1
  obtain ⟨r5, r6, -⟩ := id hrest
  have e1 := (al_nn σ k (cN k)).1
  have e2 := (al_nn σ k (cN k)).2
  obtain ⟨f1, n1, n2, n3⟩ := nfacts _ (lookup_mem hq)
  refine va_new (ci := k) (fs := dfl k) (C := cR k) (T := cT k) (N := cN k) C.1 C.2.1 C.2.2.2.2.1 (inX k f1) (cY k) (tyX_ok k f1) C.2.2.2.1 (C.2.2.2.2.1 _ n1) (C.2.2.2.2.1 _ n2) (C.2.2.2.2.1 _ n3) hK hP hD hS C.2.2.2.2.2.2.2.2.2.1 (vwc_at f1) (dfl_ok k f1) (by omega) (by omega) hd (fun q' H1 hP1 hD1 hS1 => ?_)
  refine hk p l e R s m args below meth c D A bS cI cZ cO L xs Q adl0 fc fs C E (adl ++ [q']) H1 locs (cells + 1) (slots + cN k) als _ (wp_push hx hw hrest hg ?_ hP1 hD1 hS1) (lr_pre ⟨_, rfl⟩ hl) ⟨?_, st2_pre ⟨_, rfl⟩ hs⟩
  · refine Or.inl ⟨f1, rfl, _, rfl, by unfold dfl; simp, fun j hj => ⟨if isr k j = true then .null else .int 0, by unfold dfl; simp [hj], ?_⟩⟩
    by_cases h : isr k j = true
    · rw [if_pos h, if_pos h]; exact Or.inl ⟨rfl, rfl⟩
    · rw [if_neg h, if_neg h]; exact ⟨0, rfl, rfl⟩
  · exact Or.inr ⟨q', by omega, by rw [show nn σ + 1 - 1 = nn σ by omega, ← hw.2.1]; simp, rfl⟩
end HP
end
section
/-! CALLS, AND THE WHOLE: a run of the data is a run of the machine -/
def grow (σ σ' : St) : Prop := nn σ ≤ nn σ' ∧ nt σ ≤ nt σ' ∧ sl σ' = sl σ ∧ sx σ' = sx σ
theorem grow_rf (σ : St) : grow σ σ := ⟨Nat.le_refl _, Nat.le_refl _, rfl, rfl⟩
theorem grow_tr {a b c : St} (h1 : grow a b) (h2 : grow b c) : grow a c := ⟨Nat.le_trans h1.1 h2.1, Nat.le_trans h1.2.1 h2.2.1, h2.2.2.1.trans h1.2.2.1, h2.2.2.2.trans h1.2.2.2⟩
theorem grow_al {σ σ' : St} {kd sz : Nat} (h : grow (al σ kd sz) σ') : grow σ σ' := ⟨Nat.le_trans (Nat.le_succ _) h.1, Nat.le_trans (Nat.le_add_right _ _) h.2.1, h.2.2.1, h.2.2.2⟩
set_option maxHeartbeats 4000000 in
theorem stp_grow {k : Nat → Nat → List AV → List AV → St → Res} (h : ∀ M pc ls st σ r, k M pc ls st σ = some r → grow σ r.2) (e : Ent) (M : Nat) (ls st : List AV) (σ : St) (r : AV × St) :
    stp k e M ls st σ = some r → grow σ r.2 := by
  obtain ⟨op, a, b, nx, ts⟩ := e
  unfold stp
  dsimp only
  split
  all_goals try (intro hh; have h3 := h _ _ _ _ _ _ hh; exact h3)
  all_goals try (intro hh; exact grow_al (h _ _ _ _ _ _ hh))
  all_goals try (split <;> first | (intro hh; have h3 := h _ _ _ _ _ _ hh; exact h3) | (intro hh; cases hh; done) | (intro hh; cases hh; exact grow_rf _) | (intro hh; obtain ⟨h1, h2⟩ := ck_some.mp hh; have h3 := h _ _ _ _ _ _ h2; exact h3) | (split <;> first | (intro hh; have h3 := h _ _ _ _ _ _ hh; exact h3) | (intro hh; exact grow_al (h _ _ _ _ _ _ hh)) | (intro hh; cases hh; done) | (intro hh; cases hh; exact grow_rf _)))
  all_goals try (intro hh; obtain ⟨h1, h2⟩ := ck_some.mp hh; obtain ⟨q, h3, h4⟩ := bnd_some.mp h2; exact grow_tr (h _ _ _ _ _ _ h3) (h _ _ _ _ _ _ h4))
  intro hh; cases hh
theorem ex_grow : ∀ (n M pc : Nat) (ls st : List AV) (σ : St) (r : AV × St), ex n M pc ls st σ = some r → grow σ r.2
  | 0, _, _, _, _, _, _, h => by cases h
  | n + 1, M, pc, ls, st, σ, r, h => stp_grow (ex_grow n) _ _ _ _ _ _ h
/-- an answer -/
def rv (r : AV) (v : Option Value) : Prop := (r = vU ∧ v = none) ∨ (∃ x : Int32, r = vI x.toInt ∧ v = some (.int x)) ∨ (∃ x : Int64, r = vL x.toInt ∧ v = some (.long x))
def ws_ (M : Nat) : List Cond := .code (my M) (mb M) (ml M) (rt (mk M)) :: gw
def qc (adl : List Nat) (bS cI cZ cO : Nat) (D : va_G) (r : AV) (σ' : St) (ws : va_W) (sz : Nat) (st : State) (oc : Outcome) (t : State) : Prop :=
  (∃ (v : Option Value) (adl1 : List Nat) (ws1 : va_W), oc = .returned v ∧ rv r v ∧ (∃ x, adl1 = adl ++ x) ∧ wd adl1 bS cI cZ cO σ' ws1 ∧ va_P D vwc ws1 t.heap ∧ va_D (va_A ws sz) ws1) ∧ va_F (va_A ws sz) st t
def pcs (cI cZ cO : Nat) (D : va_G) (ws : va_W) (sz : Nat) (U : State) : Prop := U.heap.size = sz ∧ va_P D vwc ws U.heap ∧ va_K D vwc (gtys cI cZ cO) U ∧ va_D (fun _ => True) ws ∧ (∀ w ∈ nst, va_Nw w U) ∧ va_AO RX0 U
theorem not_law : ∀ c, c < 148 → mo c ≠ 4 := by decide +kernel
theorem nst_warm {s U : State} (hW : s.WarmedH U.vm) (h : ∀ w ∈ nst, va_Nw w s) : ∀ w ∈ nst, va_Nw w U := by
  have key : ∀ (l : List Cond), (l.all fun w => match w with | .methodLinkNest .. => true | _ => false) = true → (∀ w ∈ l, va_Nw w s) → ∀ w ∈ l, va_Nw w U := by
    intro l h1 h2 w hw
    have h3 := List.all_eq_true.mp h1 w hw
    have h4 := h2 w hw
    cases w <;> first | exact va_Nw.warmM hW h4 | cases h3
  exact key nst (by decide +kernel) h
theorem nst_vm {s U : State} (hvm : s.vm = U.vm) (h : ∀ w ∈ nst, va_Nw w s) : ∀ w ∈ nst, va_Nw w U := by
  have key : ∀ (l : List Cond), (l.all fun w => w.onTables) = true → (∀ w ∈ l, va_Nw w s) → ∀ w ∈ l, va_Nw w U := by
    intro l h1 h2 w hw
    exact va_Nw.same (List.all_eq_true.mp h1 w hw) hvm (h2 w hw)
  exact key nst (by decide +kernel) h
theorem met_of {M : Nat} (hM : M < 148) {as : List AV} {σ σ' : St} {r : AV} (hsim : simAt M 0 (pad as (ml M)) [] σ r σ') (has : ∀ t ∈ as, t.1 = 0 ∨ t.1 = 1) (hlen : as.length ≤ ml M) (hg : grow σ σ')
    {adl : List Nat} {bS cI cZ cO : Nat} {D : va_G} {ws : va_W} {vs : List Value} (hw : wd adl bS cI cZ cO σ ws) (hs : st2 adl bS as vs) (l : Launch) (sz : Nat) :
    Met l (my M) (ws_ M) ({ frames := mf M, cells := nn σ' - nn σ, slots := nt σ' - nt σ, locals := mlo M }) (va_Pc vs (pcs cI cZ cO D ws sz)) (fun _ st oc t => qc adl bS cI cZ cO D r σ' ws sz st oc t) (nn σ' - nn σ) (nt σ' - nt σ) (va_A ws sz) := by
  obtain ⟨m1, m2, m3, m4, m5⟩ := mfacts M hM
  refine Met.ofW (cc := mb M) (maxL := ml M) (ret := rt (mk M)) m1 rfl ?_
  intro p e s m args below meth c s₁ B hml hv
  obtain ⟨rfl, hsz, hP, hK, hD0, hN, hO⟩ := hv
  have hts := atoms_spec (ws := ws_ M) B.pre
  have hown : s.vm.findClass (my M).cls = some m.cls := findClass_of_methodNamed B.named
  have hin : meth.name = (my M).name := (name_of_methodNamed B.named B.method).1
  have hr := B.returns
  have hlocks := B.notSynchronized
  subst hsz
  rw [lg_entry_eq]
  have hA : ∀ q : Nat, s.heap.size ≤ q → va_A ws s.heap.size q := fun q h => Or.inr h
  refine hsim p l e (headSpec (ws_ M) _).room s m vs.toArray below meth c D (va_A ws s.heap.size) bS cI cZ cO 0 (fun _ => 0) _ adl (nn σ' - nn σ) (nt σ' - nt σ)
    ⟨B.exec, B.bytes, hml, by rw [← show (my M).cls = oS (mo M) from m5]; exact hown, fun w h => hts w (List.mem_cons_of_mem _ h), hN, hO, fun h => hin.trans h, hK, hA, fun h => absurd h (not_law M hM), ⟨Nat.le_refl _, Nat.le_refl _, Nat.le_refl _, Nat.le_refl _⟩⟩
    ?_ adl s.heap [] 0 0 _ _ ⟨ws, ⟨[], by simp⟩, hw, hP, hD0.self, va_S.rf, by have := hg.1; omega, by have := hg.2.1; omega, hg.1, hg.2.1, fun h => absurd h (not_law M hM)⟩ (lr_entry hs (fun t ht => (has t ht).elim Or.inl (fun h => Or.inr (Or.inl h))) hlen) trivial
  intro adl1 H1 locs1 als1 cst1 pc1 P1 hen
  obtain ⟨ws1, hx1, hw1, hP1, hD1, hS1, -⟩ := P1
  rcases hen with ⟨k1, rfl, rfl, hd⟩ | ⟨k1, v, rfl, rfl, k2, hd⟩ | ⟨k1, v, rfl, rfl, hd⟩
  · rw [k1] at hr
    exact W.vret B.exec B.bytes hr (fun t ht hW => ⟨⟨none, adl1, ws1, rfl, Or.inl ⟨rfl, rfl⟩, hx1, hw1, by rw [ht]; exact hP1, hD1⟩, hS1.F ht⟩) hS1.2.2 hd
  · rcases k1 with k1 | k1
    · rw [k1] at hr
      exact W.iret (v := v) B.exec B.bytes hr (fun t ht hW => ⟨⟨some (.int v), adl1, ws1, rfl, Or.inr (Or.inl ⟨v, rfl, rfl⟩), hx1, hw1, by rw [ht]; exact hP1, hD1⟩, hS1.F ht⟩) hS1.2.2 hd
    · rw [k1] at hr
      exact W.zret (v := v) (ty := .boolean) B.exec B.bytes hr (by rcases k2 k1 with rfl | rfl <;> rfl) (fun t ht hW => ⟨⟨some (.int v), adl1, ws1, rfl, Or.inr (Or.inl ⟨v, rfl, rfl⟩), hx1, hw1, by rw [ht]; exact hP1, hD1⟩, hS1.F ht⟩) hS1.2.2 hd
  · rw [k1] at hr
    exact W.lret (v := v) B.exec B.bytes hr (fun t ht hW => ⟨⟨some (.long v), adl1, ws1, rfl, Or.inr (Or.inr ⟨v, rfl, rfl⟩), hx1, hw1, by rw [ht]; exact hP1, hD1⟩, hS1.F ht⟩) hS1.2.2 hd
theorem gw_good {c : Nat} (hc : c < 148) : GoodIn gw (ws_ c) := by
  intro w hw
  rcases List.mem_cons.mp hw with rfl | hw
  · exact ⟨(mfacts c hc).2.1, good_of_word (List.mem_filter.mp (mfacts c hc).2.1).2⟩
  · exact ⟨hw, good_of_word (List.mem_filter.mp hw).2⟩
theorem cat_le (v : Value) : v.category ≤ 2 := by rcases lv_cat v with h | h <;> omega
theorem cat_sum {st : List Value} (h : st.length ≤ 4) : (st.map fun v => v.category).sum ≤ 8 := by
  have key : ∀ (l : List Value), (l.map fun v => v.category).sum ≤ 2 * l.length := by
    intro l
    induction l with
    | nil => simp
    | cons v l ih => simp only [List.map_cons, List.sum_cons, List.length_cons]; have := cat_le v; omega
  have := key st
  omega
section CS
variable {M pc : Nat} {ls st : List AV} {σ σ1 σ' : St} {r r1 : AV}
theorem blind {vs : List Value} {cI cZ cO : Nat} {D : va_G} {ws : va_W} {sz : Nat} : FrameBlind (va_Pc vs (pcs cI cZ cO D ws sz)) := by
  intro a U g mk h
  obtain ⟨h0, h1, h2, h3, h4, h5, h6⟩ := h
  exact ⟨h0, h1, h2, va_K.moved (u := U) (U := U.calling g mk a) (Vm.Alike.refl U.vm) h3, h4, nst_vm (s := U) (U := U.calling g mk a) rfl h5, va_AO.moved (u := U) (U := U.calling g mk a) (Vm.Alike.refl U.vm) h6⟩
/-- behind a call -/
theorem s_back {p : Program} {l : Launch} {e : Env} {R : Room} {s : State} {m : MethodId} {args : Array Value} {below : List Frame} {meth : Method} {c : Code} {D : va_G} {A : Nat → Prop} {bS cI cZ cO L : Nat} {xs : Nat → Int32} {Q : State → Prop} {adl0 : List Nat} {fc fs : Nat}
    (C : cx p R s m args meth c D A bS cI cZ cO L xs fc fs M) (E : he p l e R s m args below meth c D A bS cI cZ cO L xs Q adl0 fc fs M r σ')
    {adl : List Nat} {H : Heap} {locs : List Loc} {cells slots : Nat} {als : Array Slot} {cst : List Value} {ws : va_W} {k : Nat}
    (hx : ∃ x, adl = adl0 ++ x) (hD : va_D A ws) (hS : va_S A s.heap H locs) (hrest : cells + nn σ' = fc + nn σ ∧ slots + nt σ' = fs + nt σ ∧ nn σ ≤ nn σ' ∧ nt σ ≤ nt σ' ∧ (mo M = 4 → sl σ = L ∧ ∀ j : Nat, j < L → (xs j).toInt = sx σ j))
    (g1 : grow σ σ1) (g2 : grow σ1 σ') (hl : lr adl bS (ml M) ls als) (hs : st2 adl bS (st.drop k) (cst.drop k))
    (hk : simAt M (pc + 3) ls (psh r1 (st.drop k)) σ1 r σ')
    (hr : va_Run p l e R s m args below meth c H locs cells slots (nn σ1 - nn σ) (nt σ1 - nt σ) (F0 m pc als cst) (cst.drop k) (qc adl bS cI cZ cO D r1 σ1 ws H.size) (va_A ws H.size)) :
    W p l e R s m args below meth c H locs cells slots Q (F0 m pc als cst) := by
  intro T hT X
  obtain ⟨v, st₀, t, T', L', h0, X', hL, e1, e2, ⟨⟨v', adl1, ws1, hv, hrv, hx1, hw1, hP1, hD1⟩, hz, hkeep⟩, stp'⟩ := hr T hT X
  cases hv
  rw [h0] at hz hkeep
  have hF : ∀ q, va_A ws H.size q → A q := by
    intro q h
    rcases h with ⟨k, e', h⟩ | h
    · exact hD.2 k _ h
    · exact C.2.2.2.2.2.2.2.2.2.1 q (Nat.le_trans hS.1 h)
  have hS1 : va_S A s.heap T'.heap (locs ++ L') := ⟨Nat.le_trans hS.1 (by rw [e1]; exact hz), fun q h1 h2 => by rw [e1, hkeep q (Nat.lt_of_lt_of_le h1 hS.1) (fun z => h2 (hF q z))]; exact hS.2.1 q h1 h2, fun q hq => by
      rcases List.mem_append.mp hq with h | h
      · exact hS.2.2 q h
      · exact hF _ (hL q h)⟩
  obtain ⟨r1', r2', r3', r4', r5'⟩ := hrest
  have hst : st2 adl1 bS (psh r1 (st.drop k)) (v.toList ++ cst.drop k) := by
    rcases hrv with ⟨rfl, rfl⟩ | ⟨x, rfl, rfl⟩ | ⟨x, rfl, rfl⟩
    · exact st2_pre hx1 hs
    · exact ⟨⟨x, rfl, rfl⟩, st2_pre hx1 hs⟩
    · exact ⟨⟨x, rfl, rfl⟩, st2_pre hx1 hs⟩
  have hxx : ∃ x, adl1 = adl0 ++ x := by
    obtain ⟨a, rfl⟩ := hx
    obtain ⟨b, rfl⟩ := hx1
    exact ⟨a ++ b, by rw [List.append_assoc]⟩
  have hfin := hk p l e R s m args below meth c D A bS cI cZ cO L xs Q adl0 fc fs C E adl1 T'.heap (locs ++ L') (cells + (nn σ1 - nn σ)) (slots + (nt σ1 - nt σ)) als (v.toList ++ cst.drop k)
    ⟨ws1, hxx, hw1, by rw [e1]; exact hP1, hD1.weaken (fun _ q _ h => hF q.1 h), hS1, by have := g1.1; omega, by have := g1.2.1; omega, g2.1, g2.2.1, fun h => by obtain ⟨a, b⟩ := r5' h; exact ⟨by rw [g1.2.2.1]; exact a, by rw [g1.2.2.2]; exact b⟩⟩ (lr_pre hx1 hl) hst
  obtain ⟨t2, a1, b1⟩ := hfin T' rfl X'
  exact ⟨t2, stp' t2 a1, b1⟩
theorem tags_of {l : List AV} (h : (l.all fun t => decide (t.1 ≤ 1)) = true) : ∀ t ∈ l.reverse, t.1 = 0 ∨ t.1 = 1 := by
  intro t ht
  have := of_decide_eq_true (List.all_eq_true.mp h t (List.mem_reverse.mp ht))
  omega
theorem rmo_of {M c : Nat} (h : rmo M c = true) : mf c + 1 ≤ mf M ∧ 8 + (ml c + 11) + mlo c ≤ mlo M := by
  simp only [rmo, Bool.and_eq_true, decide_eq_true_eq] at h
  exact h
theorem s_static {i c0 sy n : Nat} (hq : mlk.lookup (mo M, i) = some (c0, sy)) (hsy : sy = 0 ∨ sy = 1) (hrm : rmo M c0 = true) (hn : nar c0 = some n) (hnl : n ≤ ml c0)
    (ht : ((st.take n).all fun t => decide (t.1 ≤ 1)) = true) (hle : n ≤ st.length) (h4 : st.length - n ≤ 4) (g1 : grow σ σ1) (g2 : grow σ1 σ')
    (hsim : simAt c0 0 (pad (st.take n).reverse (ml c0)) [] σ r1 σ1) (hd : decode (mb M) pc = .ok (.invokestatic i, 3)) (hk : simAt M (pc + 3) ls (psh r1 (st.drop n)) σ1 r σ') : simAt M pc ls st σ r σ' := by
  intro p l e R s m args below meth c D A bS cI cZ cO L xs Q adl0 fc fs C E adl H locs cells slots als cst P hl hs
  obtain ⟨ws, hx, hw, hP, hD, hS, hrest⟩ := P
  have f0 := lfacts _ (lookup_mem hq)
  have f1 : c0 < 148 := f0.1
  have f2 := f0.2
  clear f0
  obtain ⟨m1, m2, m3, m4, m5⟩ := mfacts c0 f1
  have hts := C.2.2.2.2.1
  have hlen := st2_len hs
  have hrm := rmo_of hrm
  obtain ⟨ra, rb, rc, rd⟩ := C.2.2.2.2.2.2.2.2.2.2.2
  obtain ⟨q1, q2, -⟩ := id hrest
  have ga := g1.1
  have gb := g1.2.1
  have gc := g2.1
  have gd := g2.2.1
  have hmet := met_of (D := D) f1 hsim (tags_of ht) (by rw [List.length_reverse, List.length_take]; omega) g1 hw (st2_rev (st2_take n hs)) l H.size
  have hsd := st2_drop n hs
  have hroom : (mf c0 + 1 ≤ R.frames ∧ 8 + (ml c0 + 11) + mlo c0 ≤ R.locals) := ⟨Nat.le_trans hrm.1 ra, Nat.le_trans hrm.2 rb⟩
  have hpre : PreS s H (va_Pc (cst.take n).reverse (pcs cI cZ cO D ws H.size)) (cst.take n).reverse :=
    ⟨blind, fun U hU hW => ⟨rfl, by rw [hU], by rw [hU]; exact hP, va_K.moved hW.alike C.2.2.2.2.2.2.2.2.1, hD.weaken (fun _ _ _ _ => trivial), nst_warm hW C.2.2.2.2.2.1, va_AO.moved hW.alike C.2.2.2.2.2.2.1⟩⟩
  have hstack : cst = (cst.take n).reverse.reverse ++ cst.drop n := by rw [List.reverse_reverse, List.take_append_drop]
  have hcat : 2 * (F0 m pc als cst).monitorRoom + ((cst.drop n).map fun v => v.category).sum ≤ 8 := lv_room (cat_sum (by rw [List.length_drop]; omega))
  refine s_back C E hx hD hS hrest g1 g2 hl hsd hk ?_
  have hcells : cells + (nn σ1 - nn σ) ≤ R.cells ∧ slots + (nt σ1 - nt σ) ≤ R.slots := ⟨by omega, by omega⟩
  rcases hsy with rfl | rfl
  · exact va_runS (n := n) ⟨C.1, C.2.1, C.2.2.1, C.2.2.2.1, hts⟩ hmet ⟨callB_of n hts (gw_good f1) rfl rfl rfl (hts _ m3) (hts _ f2.1) ⟨m4.1, m4.2, hn⟩ hroom, hts _ f2.2⟩ hpre rfl (by rw [List.length_reverse, List.length_take]; omega) hl.1 hstack hcat hd hcells
  · exact va_runSN (n := n) ⟨C.1, C.2.1, C.2.2.1, C.2.2.2.1, hts⟩ hmet ⟨va_cnB n hts (gw_good f1) rfl rfl rfl (C.2.2.2.2.2.1 _ f2.1) (hts _ m3) ⟨m4.1, m4.2, hn⟩ hroom, hts _ f2.2, trivial⟩ hpre rfl (by rw [List.length_reverse, List.length_take]; omega) hl.1 hstack hcat hd hcells
theorem s_inst {i c0 sy n : Nat} {virt : Bool} (hq : mlk.lookup (mo M, i) = some (c0, sy)) (hsy : if virt = true then sy = 2 else sy = 3 ∨ sy = 4) (hrm : rmo M c0 = true) (hn : nar c0 = some n) (hnl : n + 1 ≤ ml c0)
    (ht : ((st.take (n + 1)).all fun t => decide (t.1 ≤ 1)) = true) (hle : n + 1 ≤ st.length) (h4 : st.length - (n + 1) ≤ 4) (g1 : grow σ σ1) (g2 : grow σ1 σ')
    (hr1 : (lg st n).1 = 1) (hr2 : if virt = true then fok σ (lg st n).2.2 (mo c0) else 1 ≤ (lg st n).2.2)
    (hsim : simAt c0 0 (pad (st.take (n + 1)).reverse (ml c0)) [] σ r1 σ1) (hd : decode (mb M) pc = .ok (if virt = true then .invokevirtual i else .invokespecial i, 3)) (hk : simAt M (pc + 3) ls (psh r1 (st.drop (n + 1))) σ1 r σ') : simAt M pc ls st σ r σ' := by
  intro p l e R s m args below meth c D A bS cI cZ cO L xs Q adl0 fc fs C E adl H locs cells slots als cst P hl hs
  obtain ⟨ws, hx, hw, hP, hD, hS, hrest⟩ := P
  have f0 := lfacts _ (lookup_mem hq)
  have f1 : c0 < 148 := f0.1
  have f2 := f0.2
  clear f0
  obtain ⟨m1, m2, m3, m4, m5⟩ := mfacts c0 f1
  have hts := C.2.2.2.2.1
  have hlen := st2_len hs
  have hrm := rmo_of hrm
  obtain ⟨ra, rb, rc, rd⟩ := C.2.2.2.2.2.2.2.2.2.2.2
  obtain ⟨q1, q2, -⟩ := id hrest
  have ga := g1.1
  have gb := g1.2.1
  have gc := g2.1
  have gd := g2.2.1
  have hmet := met_of (D := D) f1 hsim (tags_of ht) (by rw [List.length_reverse, List.length_take]; omega) g1 hw (st2_rev (st2_take (n + 1) hs)) l H.size
  have hsd := st2_drop (n + 1) hs
  have hroom : (mf c0 + 1 ≤ R.frames ∧ 8 + (ml c0 + 11) + mlo c0 ≤ R.locals) := ⟨Nat.le_trans hrm.1 ra, Nat.le_trans hrm.2 rb⟩
  have hlt : n < cst.length := by omega
  obtain ⟨b, hb1⟩ : ∃ b, cst[n]? = some (.ref b) ∧ ((lg st n).2.2 ≥ 1 → adl[(lg st n).2.2 - 1]? = some b) := by
    have hget : st[n]? = some (lg st n) := lg_some rfl (by rw [hr1]; decide)
    obtain ⟨v, h1, h2⟩ := st2_get hs n _ hget
    have h1' : 1 ≤ (lg st n).2.2 := by
      cases virt with
      | true => exact hr2.1
      | false => exact hr2
    revert h2 h1' hr1
    generalize lg st n = t
    obtain ⟨g, zz, kk⟩ := t
    intro hr1 h2 h1'
    cases hr1
    rcases h2 with ⟨h3, -⟩ | ⟨a, h3, h4', rfl⟩
    · exact absurd h1' (by show ¬ 1 ≤ kk; omega)
    · exact ⟨a, h1, fun _ => h4'⟩
  obtain ⟨hb1, hb2⟩ := hb1
  have htk : (cst.take (n + 1)).reverse = .ref b :: (cst.take n).reverse := by
    rw [List.take_add_one, hb1]; simp
  have hpre0 : ∀ U : State, U.heap = H → s.WarmedH U.vm → va_Pc (cst.take (n + 1)).reverse (pcs cI cZ cO D ws H.size) (Value.ref b :: (cst.take n).reverse).toArray U :=
    fun U hU hW => ⟨by rw [htk], by rw [hU], by rw [hU]; exact hP, va_K.moved hW.alike C.2.2.2.2.2.2.2.2.1, hD.weaken (fun _ _ _ _ => trivial), nst_warm hW C.2.2.2.2.2.1, va_AO.moved hW.alike C.2.2.2.2.2.2.1⟩
  have hstack : cst = (cst.take n).reverse.reverse ++ .ref b :: cst.drop (n + 1) := by
    rw [List.reverse_reverse]
    have e1 : cst[n]'hlt = .ref b := by
      rw [List.getElem?_eq_getElem hlt] at hb1
      exact Option.some.inj hb1
    rw [← e1, List.getElem_cons_drop, List.take_append_drop]
  have hcat : 2 * (F0 m pc als cst).monitorRoom + ((cst.drop (n + 1)).map fun v => v.category).sum ≤ 8 := lv_room (cat_sum (by rw [List.length_drop]; omega))
  refine s_back C E hx hD hS hrest g1 g2 hl hsd hk ?_
  have hcells : cells + (nn σ1 - nn σ) ≤ R.cells ∧ slots + (nt σ1 - nt σ) ≤ R.slots := ⟨by omega, by omega⟩
  cases virt with
  | true =>
    have hsy' : sy = 2 := hsy
    subst hsy'
    obtain ⟨f2a, f2b, f2c, f2d, f2e⟩ := f2
    have hf : fok σ (lg st n).2.2 (mo c0) := hr2
    obtain ⟨a, e', k1, k2, k3⟩ := wd_at hw hf
    have hab : a = b := Option.some.inj (k1.symm.trans (hb2 hf.1))
    subst hab
    obtain ⟨-, vs, rfl, -, -⟩ := cr_obj f2d k3
    have hrecv := va_recv C.2.2.2.2.2.2.2.2.1 hP (vwc_at f2d) k2
    exact va_runV (n := n) (C := (my c0).cls) ⟨C.1, C.2.1, C.2.2.1, C.2.2.2.1, hts⟩ hmet ⟨callB_of n hts (gw_good f1) rfl rfl rfl (hts _ m3) (hts _ f2a) ⟨m4.1, m4.2, hn⟩ hroom, hts _ f2b, hts _ f2c⟩ ⟨blind, by rw [f2e]; exact hrecv, hpre0⟩ rfl (by rw [List.length_reverse, List.length_take]; omega) hl.1 hstack hcat hd hcells
  | false =>
    have hsy' : sy = 3 ∨ sy = 4 := hsy
    rcases hsy' with rfl | rfl
    · obtain ⟨f2a, f2b, f2c, f2d⟩ := f2
      have hcb := callB_of (R := R) (s := s) (args := args) (own := oS (mo M)) (index := i) (y := my c0) (bytes := mb c0) (maxL := ml c0) (ret := rt (mk c0)) (rm := { frames := mf c0, cells := nn σ1 - nn σ, slots := nt σ1 - nt σ, locals := mlo c0 }) (mc := nn σ1 - nn σ) (ms := nt σ1 - nt σ) n hts (gw_good f1) rfl rfl rfl (hts _ m3) (hts _ f2a) ⟨m4.1, m4.2, hn⟩ hroom
      rw [f2d] at hcb
      exact va_runI (n := n) ⟨C.1, C.2.1, C.2.2.1, C.2.2.2.1, hts⟩ hmet ⟨hcb, f2c, hts _ f2b⟩ ⟨blind, hpre0⟩ rfl (by rw [List.length_reverse, List.length_take]; omega) hl.1 hstack hcat hd hcells
    · obtain ⟨f2a, f2b, f2c, f2d⟩ := f2
      have hcb := va_cnB (R := R) (s := s) (args := args) (own := oS (mo M)) (host := "FogCuts") (index := i) (y := my c0) (bytes := mb c0) (maxL := ml c0) (ret := rt (mk c0)) (rm := { frames := mf c0, cells := nn σ1 - nn σ, slots := nt σ1 - nt σ, locals := mlo c0 }) (mc := nn σ1 - nn σ) (ms := nt σ1 - nt σ) n hts (gw_good f1) rfl rfl rfl (C.2.2.2.2.2.1 _ f2a) (hts _ m3) ⟨m4.1, m4.2, hn⟩ hroom
      rw [f2d] at hcb
      exact va_runIN (n := n) ⟨C.1, C.2.1, C.2.2.1, C.2.2.2.1, hts⟩ hmet ⟨hcb, f2c, hts _ f2b⟩ ⟨blind, hpre0⟩ rfl (by rw [List.length_reverse, List.length_take]; omega) hl.1 hstack hcat hd hcells
theorem s_obj {i c0 q : Nat} {z : Int} (hq : mlk.lookup (mo M, i) = some (c0, 5)) (hr : 1 ≤ mf M ∧ 20 ≤ mlo M) (h1 : 1 ≤ q) (h4 : st.length ≤ 4) (hd : decode (mb M) pc = .ok (.invokespecial i, 3)) (hk : simAt M (pc + 3) ls st σ r σ') : simAt M pc ls ((1, z, q) :: st) σ r σ' := by
  intro p l e R s m args below meth c D A bS cI cZ cO L xs Q adl0 fc fs C E adl H locs cells slots als cst P hl hs
  have hs0 := st2_cons hs
  clear hs
  obtain ⟨v2, cst, rfl, h2, hs⟩ := hs0
  obtain ⟨ra, rb, -, -⟩ := C.2.2.2.2.2.2.2.2.2.2.2
  have hts := C.2.2.2.2.1
  rcases h2 with ⟨h3, -⟩ | ⟨a, h3, h5, rfl⟩
  · omega
  refine W.objInit (rest := cst) C.1 C.2.1 C.2.2.2.1 (hts _ (lfacts _ (lookup_mem hq)).2) (hts _ gw_obj.1) (hts _ gw_obj.2) rfl (by rw [C.2.2.1]; exact hl.1) rfl hd (Nat.le_trans hr.1 ra) ?_ ?_
  · have h := lv_room (m := m) (pc := pc) (ls := als) (rest := Value.ref a :: cst) (cat_sum (st := cst) (by rw [st2_len hs]; exact h4))
    have := hr.2
    omega
  · exact hk p l e R s m args below meth c D A bS cI cZ cO L xs Q adl0 fc fs C E adl H locs cells slots als _ P hl hs
theorem wp_room {p : Program} {R : Room} {s : State} {m : MethodId} {args : Array Value} {meth : Method} {c : Code} {D : va_G} {A : Nat → Prop} {bS cI cZ cO L : Nat} {xs : Nat → Int32} {adl0 : List Nat} {fc fs : Nat} {adl : List Nat} {H : Heap} {locs : List Loc} {cells slots : Nat}
    (C : cx p R s m args meth c D A bS cI cZ cO L xs fc fs M) (P : wp adl0 bS cI cZ cO L xs M s D A fc fs σ' σ adl H locs cells slots) : cells ≤ R.cells ∧ slots ≤ R.slots := by
  obtain ⟨ws, hx, hw, hP, hD, hS, r1', r2', r3', r4', -⟩ := P
  obtain ⟨-, -, rc, rd⟩ := C.2.2.2.2.2.2.2.2.2.2.2
  omega
theorem s_max {i c0 q1 q2 : Nat} {y x : Int} (hq : mlk.lookup (mo M, i) = some (c0, 6)) (hr : 1 ≤ mf M ∧ 21 ≤ mlo M) (h4 : st.length ≤ 4) (hd : decode (mb M) pc = .ok (.invokestatic i, 3)) (hk : simAt M (pc + 3) ls (vI (if x < y then y else x) :: st) σ r σ') : simAt M pc ls ((0, y, q1) :: (0, x, q2) :: st) σ r σ' := by
  intro p l e R s m args below meth c D A bS cI cZ cO L xs Q adl0 fc fs C E adl H locs cells slots als cst P hl hs
  have hs0 := st2_cons hs
  clear hs
  obtain ⟨v1, cst, rfl, ⟨y1, rfl, h1⟩, hs⟩ := hs0
  have hs0 := st2_cons hs
  clear hs
  obtain ⟨v2, cst, rfl, ⟨x1, rfl, h2⟩, hs⟩ := hs0
  obtain ⟨ra, rb, -, -⟩ := C.2.2.2.2.2.2.2.2.2.2.2
  have hts := C.2.2.2.2.1
  obtain ⟨w1, w2⟩ := wp_room C P
  refine va_mmax C.1 C.2.1 (C.2.2.1.trans hl.1.symm) C.2.2.2.1 (hts _ (lfacts _ (lookup_mem hq)).2) (hts _ gw_max.1) (hts _ gw_max.2.1) (hts _ gw_max.2.2) (Nat.le_trans hr.1 ra) ?_ w1 w2 hd ?_
  · have h := cat_sum (st := cst) (by rw [st2_len hs]; exact h4)
    have := hr.2
    omega
  · refine hk p l e R s m args below meth c D A bS cI cZ cO L xs Q adl0 fc fs C E adl H locs cells slots als _ P hl ⟨⟨_, rfl, ?_⟩, hs⟩
    by_cases h : x < y
    · rw [if_pos h, if_pos ((cv_lt2 h1 h2).mpr h)]; exact h1
    · rw [if_neg h, if_neg (fun z => h ((cv_lt2 h1 h2).mp z))]; exact h2
theorem s_min {i c0 q1 q2 : Nat} {y x : Int} (hq : mlk.lookup (mo M, i) = some (c0, 7)) (hr : 1 ≤ mf M ∧ 21 ≤ mlo M) (h4 : st.length ≤ 4) (hd : decode (mb M) pc = .ok (.invokestatic i, 3)) (hk : simAt M (pc + 3) ls (vI (if y < x then y else x) :: st) σ r σ') : simAt M pc ls ((0, y, q1) :: (0, x, q2) :: st) σ r σ' := by
  intro p l e R s m args below meth c D A bS cI cZ cO L xs Q adl0 fc fs C E adl H locs cells slots als cst P hl hs
  have hs0 := st2_cons hs
  clear hs
  obtain ⟨v1, cst, rfl, ⟨y1, rfl, h1⟩, hs⟩ := hs0
  have hs0 := st2_cons hs
  clear hs
  obtain ⟨v2, cst, rfl, ⟨x1, rfl, h2⟩, hs⟩ := hs0
  obtain ⟨ra, rb, -, -⟩ := C.2.2.2.2.2.2.2.2.2.2.2
  have hts := C.2.2.2.2.1
  obtain ⟨w1, w2⟩ := wp_room C P
  refine va_mmin C.1 C.2.1 (C.2.2.1.trans hl.1.symm) C.2.2.2.1 (hts _ (lfacts _ (lookup_mem hq)).2) (hts _ gw_min.1) (hts _ gw_min.2.1) (hts _ gw_min.2.2) (Nat.le_trans hr.1 ra) ?_ w1 w2 hd ?_
  · have h := cat_sum (st := cst) (by rw [st2_len hs]; exact h4)
    have := hr.2
    omega
  · refine hk p l e R s m args below meth c D A bS cI cZ cO L xs Q adl0 fc fs C E adl H locs cells slots als _ P hl ⟨⟨_, rfl, ?_⟩, hs⟩
    by_cases h : y < x
    · rw [if_pos h, if_pos ((cv_lt2 h2 h1).mpr h)]; exact h1
    · rw [if_neg h, if_neg (fun z => h ((cv_lt2 h2 h1).mp z))]; exact h2
theorem s_abs {i c0 q2 : Nat} {x : Int} (hq : mlk.lookup (mo M, i) = some (c0, 8)) (hr : 1 ≤ mf M ∧ 21 ≤ mlo M) (h4 : st.length ≤ 4) (hd : decode (mb M) pc = .ok (.invokestatic i, 3)) (hk : simAt M (pc + 3) ls (vI (if 0 ≤ x then x else wr (-x)) :: st) σ r σ') : simAt M pc ls ((0, x, q2) :: st) σ r σ' := by
  intro p l e R s m args below meth c D A bS cI cZ cO L xs Q adl0 fc fs C E adl H locs cells slots als cst P hl hs
  have hs0 := st2_cons hs
  clear hs
  obtain ⟨v2, cst, rfl, ⟨x1, rfl, h2⟩, hs⟩ := hs0
  obtain ⟨ra, rb, -, -⟩ := C.2.2.2.2.2.2.2.2.2.2.2
  have hts := C.2.2.2.2.1
  obtain ⟨w1, w2⟩ := wp_room C P
  refine va_mabs C.1 C.2.1 (C.2.2.1.trans hl.1.symm) C.2.2.2.1 (hts _ (lfacts _ (lookup_mem hq)).2) (hts _ gw_abs.1) (hts _ gw_abs.2.1) (hts _ gw_abs.2.2) (Nat.le_trans hr.1 ra) ?_ w1 w2 hd ?_
  · have h := cat_sum (st := cst) (by rw [st2_len hs]; exact h4)
    have := hr.2
    omega
  · refine hk p l e R s m args below meth c D A bS cI cZ cO L xs Q adl0 fc fs C E adl H locs cells slots als _ P hl ⟨⟨_, rfl, ?_⟩, hs⟩
    by_cases h : 0 ≤ x
    · rw [if_pos h, if_pos (by rw [cv_ge h2]; omega)]; exact h2
    · rw [if_neg h, if_neg (by rw [cv_ge h2]; omega), Int32.toInt_sub, h2]
      unfold wr
      congr 1
      rw [show (0 : Int32).toInt = 0 from rfl]
      omega
end CS
end
section
/-! one instruction, by its number -/
section SP
variable (k : Nat → Nat → List AV → List AV → St → Res) (a : Nat) (b : Int) (nx : Nat) (ts : List (Int × Nat)) (M : Nat) (ls st : List AV) (σ : St)
theorem stp_0 : stp k (0, a, b, nx, ts) M ls st σ = k M nx ls (vI b :: st) σ := rfl
theorem stp_1 : stp k (1, a, b, nx, ts) M ls st σ = (match lg ls a with
      | (0, _, _) => k M nx ls (lg ls a :: st) σ
      | _ => none) := rfl
theorem stp_2 : stp k (2, a, b, nx, ts) M ls st σ = (match st with
      | (0, z, q) :: st => k M nx (ls.set a (0, z, q)) st σ
      | _ => none) := rfl
theorem stp_3 : stp k (3, a, b, nx, ts) M ls st σ = (match lg ls a with
      | (1, _, _) => k M nx ls (lg ls a :: st) σ
      | (5, _, _) => k M nx ls (lg ls a :: st) σ
      | _ => none) := rfl
theorem stp_4 : stp k (4, a, b, nx, ts) M ls st σ = (match st with
      | (1, z, q) :: st => k M nx (ls.set a (1, z, q)) st σ
      | _ => none) := rfl
theorem stp_5 : stp k (5, a, b, nx, ts) M ls st σ = (match lg ls a, lg ls (a + 1) with
      | (2, _, _), (3, 0, 0) => k M nx ls (lg ls a :: st) σ
      | _, _ => none) := rfl
theorem stp_6 : stp k (6, a, b, nx, ts) M ls st σ = (match st with
      | (2, z, q) :: st => k M nx ((ls.set a (2, z, q)).set (a + 1) vH) st σ
      | _ => none) := rfl
theorem stp_7 : stp k (7, a, b, nx, ts) M ls st σ = k M nx ls (vL b :: st) σ := rfl
theorem stp_8 : stp k (8, a, b, nx, ts) M ls st σ = (match lg ls a with
      | (0, z, _) => k M nx (ls.set a (vI (wr (z + b)))) st σ
      | _ => none) := rfl
theorem stp_9 : stp k (9, a, b, nx, ts) M ls st σ = (match st with
      | (0, z, q) :: st => k M nx ls ((0, z, q) :: (0, z, q) :: st) σ
      | (1, z, q) :: st => k M nx ls ((1, z, q) :: (1, z, q) :: st) σ
      | _ => none) := rfl
theorem stp_10 : stp k (10, a, b, nx, ts) M ls st σ = (match st with
      | (0, y, q) :: (1, x, p) :: st => k M nx ls ((0, y, q) :: (1, x, p) :: (0, y, q) :: (1, x, p) :: st) σ
      | _ => none) := rfl
theorem stp_11 : stp k (11, a, b, nx, ts) M ls st σ = (match st with
      | (0, y, _) :: (0, x, _) :: st => k M nx ls (vI (wr (x + y)) :: st) σ
      | _ => none) := rfl
theorem stp_12 : stp k (12, a, b, nx, ts) M ls st σ = (match st with
      | (0, y, _) :: (0, x, _) :: st => k M nx ls (vI (wr (x - y)) :: st) σ
      | _ => none) := rfl
theorem stp_13 : stp k (13, a, b, nx, ts) M ls st σ = (match st with
      | (0, y, _) :: (0, x, _) :: st => k M nx ls (vI (wr (x * y)) :: st) σ
      | _ => none) := rfl
theorem stp_14 : stp k (14, a, b, nx, ts) M ls st σ = (match st with
      | (0, y, _) :: (0, x, _) :: st => if y = 0 then none else k M nx ls (vI (wr (x.tdiv y)) :: st) σ
      | _ => none) := rfl
theorem stp_15 : stp k (15, a, b, nx, ts) M ls st σ = (match st with
      | (0, y, _) :: (0, x, _) :: st => if y = 0 then none else k M nx ls (vI (wr (x.tmod y)) :: st) σ
      | _ => none) := rfl
theorem stp_16 : stp k (16, a, b, nx, ts) M ls st σ = (match st with
      | (0, x, _) :: st => k M nx ls (vI (wr (-x)) :: st) σ
      | _ => none) := rfl
theorem stp_17 : stp k (17, a, b, nx, ts) M ls st σ = (match st with
      | (0, y, _) :: (0, x, _) :: st => k M nx ls (vI (bShl x y) :: st) σ
      | _ => none) := rfl
theorem stp_18 : stp k (18, a, b, nx, ts) M ls st σ = (match st with
      | (0, y, _) :: (0, x, _) :: st => k M nx ls (vI (bShr x y) :: st) σ
      | _ => none) := rfl
theorem stp_19 : stp k (19, a, b, nx, ts) M ls st σ = (match st with
      | (0, y, _) :: (0, x, _) :: st => k M nx ls (vI (bUsh x y) :: st) σ
      | _ => none) := rfl
theorem stp_20 : stp k (20, a, b, nx, ts) M ls st σ = (match st with
      | (0, y, _) :: (0, x, _) :: st => k M nx ls (vI (bAnd x y) :: st) σ
      | _ => none) := rfl
theorem stp_21 : stp k (21, a, b, nx, ts) M ls st σ = (match st with
      | (0, y, _) :: (0, x, _) :: st => k M nx ls (vI (bOr x y) :: st) σ
      | _ => none) := rfl
theorem stp_22 : stp k (22, a, b, nx, ts) M ls st σ = (match st with
      | (0, y, _) :: (0, x, _) :: st => k M nx ls (vI (bXor x y) :: st) σ
      | _ => none) := rfl
theorem stp_23 : stp k (23, a, b, nx, ts) M ls st σ = (match st with
      | (2, y, _) :: (2, x, _) :: st => k M nx ls (vL (wl (x + y)) :: st) σ
      | _ => none) := rfl
theorem stp_24 : stp k (24, a, b, nx, ts) M ls st σ = (match st with
      | (2, y, _) :: (2, x, _) :: st => k M nx ls (vL (wl (x * y)) :: st) σ
      | _ => none) := rfl
theorem stp_25 : stp k (25, a, b, nx, ts) M ls st σ = (match st with
      | (2, y, _) :: (2, x, _) :: st => if y = 0 then none else k M nx ls (vL (wl (x.tdiv y)) :: st) σ
      | _ => none) := rfl
theorem stp_26 : stp k (26, a, b, nx, ts) M ls st σ = (match st with
      | (2, y, _) :: (2, x, _) :: st => if y = 0 then none else k M nx ls (vL (wl (x.tmod y)) :: st) σ
      | _ => none) := rfl
theorem stp_27 : stp k (27, a, b, nx, ts) M ls st σ = (match st with
      | (2, y, _) :: (2, x, _) :: st => k M nx ls (vI (lCmp x y) :: st) σ
      | _ => none) := rfl
theorem stp_28 : stp k (28, a, b, nx, ts) M ls st σ = (match st with
      | (0, x, _) :: st => k M nx ls (vL x :: st) σ
      | _ => none) := rfl
theorem stp_30 : stp k (30, a, b, nx, ts) M ls st σ = (match st with
      | (0, x, _) :: st => if x = 0 then k M a ls st σ else k M nx ls st σ
      | _ => none) := rfl
theorem stp_31 : stp k (31, a, b, nx, ts) M ls st σ = (match st with
      | (0, x, _) :: st => if x = 0 then k M nx ls st σ else k M a ls st σ
      | _ => none) := rfl
theorem stp_32 : stp k (32, a, b, nx, ts) M ls st σ = (match st with
      | (0, x, _) :: st => if x < 0 then k M a ls st σ else k M nx ls st σ
      | _ => none) := rfl
theorem stp_33 : stp k (33, a, b, nx, ts) M ls st σ = (match st with
      | (0, x, _) :: st => if x < 0 then k M nx ls st σ else k M a ls st σ
      | _ => none) := rfl
theorem stp_34 : stp k (34, a, b, nx, ts) M ls st σ = (match st with
      | (0, x, _) :: st => if 0 < x then k M a ls st σ else k M nx ls st σ
      | _ => none) := rfl
theorem stp_35 : stp k (35, a, b, nx, ts) M ls st σ = (match st with
      | (0, x, _) :: st => if 0 < x then k M nx ls st σ else k M a ls st σ
      | _ => none) := rfl
theorem stp_36 : stp k (36, a, b, nx, ts) M ls st σ = (match st with
      | (0, y, _) :: (0, x, _) :: st => if x = y then k M a ls st σ else k M nx ls st σ
      | _ => none) := rfl
theorem stp_37 : stp k (37, a, b, nx, ts) M ls st σ = (match st with
      | (0, y, _) :: (0, x, _) :: st => if x = y then k M nx ls st σ else k M a ls st σ
      | _ => none) := rfl
theorem stp_38 : stp k (38, a, b, nx, ts) M ls st σ = (match st with
      | (0, y, _) :: (0, x, _) :: st => if x < y then k M a ls st σ else k M nx ls st σ
      | _ => none) := rfl
theorem stp_39 : stp k (39, a, b, nx, ts) M ls st σ = (match st with
      | (0, y, _) :: (0, x, _) :: st => if x < y then k M nx ls st σ else k M a ls st σ
      | _ => none) := rfl
theorem stp_40 : stp k (40, a, b, nx, ts) M ls st σ = (match st with
      | (0, y, _) :: (0, x, _) :: st => if y < x then k M a ls st σ else k M nx ls st σ
      | _ => none) := rfl
theorem stp_41 : stp k (41, a, b, nx, ts) M ls st σ = (match st with
      | (0, y, _) :: (0, x, _) :: st => if y < x then k M nx ls st σ else k M a ls st σ
      | _ => none) := rfl
theorem stp_42 : stp k (42, a, b, nx, ts) M ls st σ = (match st with
      | (1, _, q) :: st => if q = 0 then k M a ls st σ else k M nx ls st σ
      | _ => none) := rfl
theorem stp_43 : stp k (43, a, b, nx, ts) M ls st σ = (match st with
      | (1, _, q) :: st => if q = 0 then k M nx ls st σ else k M a ls st σ
      | _ => none) := rfl
theorem stp_44 : stp k (44, a, b, nx, ts) M ls st σ = k M a ls st σ := rfl
theorem stp_45 : stp k (45, a, b, nx, ts) M ls st σ = (match st with
      | (0, x, _) :: st => k M (sw ts a x) ls st σ
      | _ => none) := rfl
theorem stp_50 : stp k (50, a, b, nx, ts) M ls st σ = (match st with
      | (1, _, q) :: st => ck (fok σ q b.toNat) (k M nx ls (vI (gt σ q a) :: st) σ)
      | _ => none) := rfl
theorem stp_51 : stp k (51, a, b, nx, ts) M ls st σ = (match st with
      | (1, _, q) :: st => ck (fok σ q b.toNat) (k M nx ls (vR (gr σ q a) :: st) σ)
      | _ => none) := rfl
theorem stp_52 : stp k (52, a, b, nx, ts) M ls st σ = (match st with
      | (0, z, _) :: (1, _, q) :: st => ck (fok σ q b.toNat) (k M nx ls st (sr σ q (ru (gt σ q) a z)))
      | _ => none) := rfl
theorem stp_53 : stp k (53, a, b, nx, ts) M ls st σ = (match st with
      | (1, _, z) :: (1, _, q) :: st => ck (fok σ q b.toNat ∧ 1 ≤ z) (k M nx ls st (rr σ q (ru (gr σ q) a z)))
      | _ => none) := rfl
theorem stp_54 : stp k (54, a, b, nx, ts) M ls st σ = (match st with
      | (1, _, q) :: st => ck (fok σ q 4 ∨ fok σ q 6) (k M nx ls (vI (sk σ q).2 :: st) σ)
      | _ => none) := rfl
theorem stp_55 : stp k (55, a, b, nx, ts) M ls st σ = (match st with
      | (0, j, _) :: (1, _, q) :: st => ck (aok σ q 4 j) (k M nx ls (vI (gt σ q j.toNat) :: st) σ)
      | _ => none) := rfl
theorem stp_56 : stp k (56, a, b, nx, ts) M ls st σ = (match st with
      | (0, z, _) :: (0, j, _) :: (1, _, q) :: st => ck (aok σ q 4 j) (k M nx ls st (sr σ q (ru (gt σ q) j.toNat z)))
      | _ => none) := rfl
theorem stp_57 : stp k (57, a, b, nx, ts) M ls st σ = (match st with
      | (0, j, _) :: (1, _, q) :: st => ck (aok σ q 5 j) (k M nx ls (vI (gt σ q j.toNat) :: st) σ)
      | _ => none) := rfl
theorem stp_58 : stp k (58, a, b, nx, ts) M ls st σ = (match st with
      | (0, z, _) :: (0, j, _) :: (1, _, q) :: st => ck (aok σ q 5 j ∧ (z = 0 ∨ z = 1)) (k M nx ls st (sr σ q (ru (gt σ q) j.toNat z)))
      | _ => none) := rfl
theorem stp_59 : stp k (59, a, b, nx, ts) M ls st σ = (match st with
      | (0, j, _) :: (1, _, q) :: st => ck (aok σ q 6 j) (k M nx ls (vR (gr σ q j.toNat) :: st) σ)
      | _ => none) := rfl
theorem stp_60 : stp k (60, a, b, nx, ts) M ls st σ = (match st with
      | (1, _, z) :: (0, j, _) :: (1, _, q) :: st => ck (aok σ q 6 j ∧ fok σ z 0) (k M nx ls st (rr σ q (ru (gr σ q) j.toNat z)))
      | _ => none) := rfl
theorem stp_61 : stp k (61, a, b, nx, ts) M ls st σ = (match st with
      | (0, z, _) :: st => if 0 ≤ z ∧ z ≤ 1000 then k M nx ls (vR (nn σ + 1) :: st) (al σ 4 z.toNat) else none
      | _ => none) := rfl
theorem stp_62 : stp k (62, a, b, nx, ts) M ls st σ = (match st with
      | (0, z, _) :: st => if 0 ≤ z ∧ z ≤ 1000 then k M nx ls (vR (nn σ + 1) :: st) (al σ 5 z.toNat) else none
      | _ => none) := rfl
theorem stp_63 : stp k (63, a, b, nx, ts) M ls st σ = (match st with
      | (0, z, _) :: st => if 0 ≤ z ∧ z ≤ 1000 then k M nx ls (vR (nn σ + 1) :: st) (al σ 6 z.toNat) else none
      | _ => none) := rfl
theorem stp_64 : stp k (64, a, b, nx, ts) M ls st σ = k M nx ls (vR (nn σ + 1) :: st) (al σ a (cN a)) := rfl
theorem stp_65 : stp k (65, a, b, nx, ts) M ls st σ = (match st with
      | (0, j, _) :: (5, _, _) :: st => if 0 ≤ j ∧ j < (sl σ : Int) then k M nx ls (vI (sx σ j.toNat) :: st) σ else none
      | _ => none) := rfl
theorem stp_66 : stp k (66, a, b, nx, ts) M ls st σ = (match st with
      | (5, _, _) :: st => k M nx ls (vI (sl σ) :: st) σ
      | _ => none) := rfl
theorem stp_70 : stp k (70, a, b, nx, ts) M ls st σ = (match st with
      | [(0, z, _)] => some (vI z, σ)
      | _ => none) := rfl
theorem stp_71 : stp k (71, a, b, nx, ts) M ls st σ = (match st with
      | [(0, z, _)] => if z = 0 ∨ z = 1 then some (vI z, σ) else none
      | _ => none) := rfl
theorem stp_72 : stp k (72, a, b, nx, ts) M ls st σ = (match st with
      | [(2, z, _)] => some (vL z, σ)
      | _ => none) := rfl
theorem stp_73 : stp k (73, a, b, nx, ts) M ls st σ = (match st with
      | [] => some (vU, σ)
      | _ => none) := rfl
theorem stp_80 : stp k (80, a, b, nx, ts) M ls st σ = ck ((st.take b.toNat).all (fun t => decide (t.1 ≤ 1)) = true ∧ b.toNat ≤ st.length ∧ st.length - b.toNat ≤ 4) (bnd (k a 0 (pad (st.take b.toNat).reverse (ml a)) [] σ) (fun r σ => k M nx ls (psh r (st.drop b.toNat)) σ)) := rfl
theorem stp_82 : stp k (82, a, b, nx, ts) M ls st σ = ck ((st.take (b.toNat + 1)).all (fun t => decide (t.1 ≤ 1)) = true ∧ b.toNat + 1 ≤ st.length ∧ st.length - (b.toNat + 1) ≤ 4 ∧ (lg st b.toNat).1 = 1 ∧ fok σ (lg st b.toNat).2.2 (mo a)) (bnd (k a 0 (pad (st.take (b.toNat + 1)).reverse (ml a)) [] σ) (fun r σ => k M nx ls (psh r (st.drop (b.toNat + 1))) σ)) := rfl
theorem stp_83 : stp k (83, a, b, nx, ts) M ls st σ = ck ((st.take (b.toNat + 1)).all (fun t => decide (t.1 ≤ 1)) = true ∧ b.toNat + 1 ≤ st.length ∧ st.length - (b.toNat + 1) ≤ 4 ∧ (lg st b.toNat).1 = 1 ∧ 1 ≤ (lg st b.toNat).2.2) (bnd (k a 0 (pad (st.take (b.toNat + 1)).reverse (ml a)) [] σ) (fun r σ => k M nx ls (psh r (st.drop (b.toNat + 1))) σ)) := rfl
theorem stp_85 : stp k (85, a, b, nx, ts) M ls st σ = (match st with
      | (1, _, q) :: st => ck (1 ≤ q ∧ st.length ≤ 4) (k M nx ls st σ)
      | _ => none) := rfl
theorem stp_86 : stp k (86, a, b, nx, ts) M ls st σ = (match st with
      | (0, y, _) :: (0, x, _) :: st => ck (st.length ≤ 4) (k M nx ls (vI (if x < y then y else x) :: st) σ)
      | _ => none) := rfl
theorem stp_87 : stp k (87, a, b, nx, ts) M ls st σ = (match st with
      | (0, y, _) :: (0, x, _) :: st => ck (st.length ≤ 4) (k M nx ls (vI (if y < x then y else x) :: st) σ)
      | _ => none) := rfl
theorem stp_88 : stp k (88, a, b, nx, ts) M ls st σ = (match st with
      | (0, x, _) :: st => ck (st.length ≤ 4) (k M nx ls (vI (if 0 ≤ x then x else wr (-x)) :: st) σ)
      | _ => none) := rfl
end SP
end
section
theorem pad_len {as : List AV} {n : Nat} (h : as.length ≤ n) : (pad as n).length = n := by unfold pad; rw [List.length_append, List.length_replicate]; omega
set_option maxHeartbeats 8000000 in
/-- A RUN OF THE DATA IS A RUN OF THE MACHINE -/
theorem sim : ∀ (n M pc : Nat) (ls st : List AV) (σ : St) (r : AV) (σ' : St), ls.length = ml M → ex n M pc ls st σ = some (r, σ') → simAt M pc ls st σ r σ' := by
  intro n
  induction n with
  | zero => intro M pc ls st σ r σ' hlen h; cases h
  | succ n ih =>
    intro M pc ls st σ r σ' hlen h
    have h : stp (ex n) (cd M pc) M ls st σ = some (r, σ') := h
    have hne : (cd M pc).1 ≠ 99 := by
      generalize cd M pc = e at h
      obtain ⟨op, a, b, nx, ts⟩ := e
      intro q
      cases q
      cases h
    obtain ⟨i, len, hd, ht⟩ := cd_spec (M := M) (pc := pc) rfl hne
    clear hne
    have hg : grow σ σ' := stp_grow (ex_grow n) _ _ _ _ _ _ h
    generalize cd M pc = e at h ht
    unfold tr at ht
    split at ht
    · next z heq =>
      cases heq
      split at ht
      · next hc =>
        cases ht
        rw [stp_0] at h
        exact s_iconst hc hd (ih _ _ _ _ _ _ _ hlen h)
      · cases ht
    · next z heq =>
      cases heq
      split at ht
      · next hc =>
        cases ht
        rw [stp_0] at h
        exact s_bipush hc hd (ih _ _ _ _ _ _ _ hlen h)
      · cases ht
    · next z heq =>
      cases heq
      split at ht
      · next hc =>
        cases ht
        rw [stp_0] at h
        exact s_sipush hc hd (ih _ _ _ _ _ _ _ hlen h)
      · cases ht
    · next j heq =>
      cases heq
      obtain ⟨v, hv, rfl⟩ := Option.map_eq_some_iff.mp ht
      rw [stp_0] at h
      exact s_ldc hv hd (ih _ _ _ _ _ _ _ hlen h)
    · next j heq =>
      cases heq
      obtain ⟨v, hv, rfl⟩ := Option.map_eq_some_iff.mp ht
      rw [stp_0] at h
      exact s_ldcw hv hd (ih _ _ _ _ _ _ _ hlen h)
    · next j heq =>
      cases heq
      obtain ⟨v, hv, rfl⟩ := Option.map_eq_some_iff.mp ht
      rw [stp_7] at h
      exact s_ldc2 hv hd (ih _ _ _ _ _ _ _ hlen h)
    · next z heq =>
      cases heq
      cases ht
      rw [stp_7] at h
      exact s_lconst hd (ih _ _ _ _ _ _ _ hlen h)
    · next j heq =>
      cases heq
      cases ht
      rw [stp_1] at h
      split at h
      · next z q hq =>
        exact s_iload hq hd (by first | exact ih _ _ _ _ _ _ _ hlen h | (have h2 := ih _ _ _ _ _ _ _ hlen h; rw [hq] at h2; exact h2))
      · cases h
    · next j heq =>
      cases heq
      cases ht
      rw [stp_1] at h
      split at h
      · next z q hq =>
        exact s_iload_n hq hd (by first | exact ih _ _ _ _ _ _ _ hlen h | (have h2 := ih _ _ _ _ _ _ _ hlen h; rw [hq] at h2; exact h2))
      · cases h
    · next j heq =>
      cases heq
      split at ht
      · next hc =>
        cases ht
        rw [stp_2] at h
        split at h
        · next z q st2 =>
          exact s_istore hc hd (ih _ _ _ _ _ _ _ (by rw [List.length_set]; exact hlen) h)
        · cases h
      · cases ht
    · next j heq =>
      cases heq
      split at ht
      · next hc =>
        cases ht
        rw [stp_2] at h
        split at h
        · next z q st2 =>
          exact s_istore_n hc hd (ih _ _ _ _ _ _ _ (by rw [List.length_set]; exact hlen) h)
        · cases h
      · cases ht
    · next j heq =>
      cases heq
      cases ht
      rw [stp_3] at h
      split at h
      · next z q hq =>
        exact s_aload hq hd (by first | exact ih _ _ _ _ _ _ _ hlen h | (have h2 := ih _ _ _ _ _ _ _ hlen h; rw [hq] at h2; exact h2))
      · next z q hq =>
        exact s_aloadS hq hd (by first | exact ih _ _ _ _ _ _ _ hlen h | (have h2 := ih _ _ _ _ _ _ _ hlen h; rw [hq] at h2; exact h2))
      · cases h
    · next j heq =>
      cases heq
      cases ht
      rw [stp_3] at h
      split at h
      · next z q hq =>
        exact s_aload_n hq hd (by first | exact ih _ _ _ _ _ _ _ hlen h | (have h2 := ih _ _ _ _ _ _ _ hlen h; rw [hq] at h2; exact h2))
      · next z q hq =>
        exact s_aloadS_n hq hd (by first | exact ih _ _ _ _ _ _ _ hlen h | (have h2 := ih _ _ _ _ _ _ _ hlen h; rw [hq] at h2; exact h2))
      · cases h
    · next j heq =>
      cases heq
      split at ht
      · next hc =>
        cases ht
        rw [stp_4] at h
        split at h
        · next z q st2 =>
          exact s_astore hc hd (ih _ _ _ _ _ _ _ (by rw [List.length_set]; exact hlen) h)
        · cases h
      · cases ht
    · next j heq =>
      cases heq
      split at ht
      · next hc =>
        cases ht
        rw [stp_4] at h
        split at h
        · next z q st2 =>
          exact s_astore_n hc hd (ih _ _ _ _ _ _ _ (by rw [List.length_set]; exact hlen) h)
        · cases h
      · cases ht
    · next j heq =>
      cases heq
      cases ht
      rw [stp_5] at h
      split at h
      · next z q hq hq2 =>
        exact s_lload hq hq2 hd (by first | exact ih _ _ _ _ _ _ _ hlen h | (have h2 := ih _ _ _ _ _ _ _ hlen h; rw [hq] at h2; exact h2))
      · cases h
    · next j heq =>
      cases heq
      cases ht
      rw [stp_5] at h
      split at h
      · next z q hq hq2 =>
        exact s_lload_n hq hq2 hd (by first | exact ih _ _ _ _ _ _ _ hlen h | (have h2 := ih _ _ _ _ _ _ _ hlen h; rw [hq] at h2; exact h2))
      · cases h
    · next j heq =>
      cases heq
      split at ht
      · next hc =>
        cases ht
        rw [stp_6] at h
        split at h
        · next z q st2 =>
          exact s_lstore hc hd (ih _ _ _ _ _ _ _ (by rw [List.length_set, List.length_set]; exact hlen) h)
        · cases h
      · cases ht
    · next j heq =>
      cases heq
      split at ht
      · next hc =>
        cases ht
        rw [stp_6] at h
        split at h
        · next z q st2 =>
          exact s_lstore_n hc hd (ih _ _ _ _ _ _ _ (by rw [List.length_set, List.length_set]; exact hlen) h)
        · cases h
      · cases ht
    · next j z heq =>
      cases heq
      split at ht
      · next hc =>
        cases ht
        rw [stp_8] at h
        split at h
        · next x q hq =>
          exact s_iinc hc.1 hc.2 hq hd (ih _ _ _ _ _ _ _ (by rw [List.length_set]; exact hlen) h)
        · cases h
      · cases ht
    · next heq =>
      cases heq
      cases ht
      rw [stp_9] at h
      split at h
      · next z q st2 =>
        exact s_dup0 hd (ih _ _ _ _ _ _ _ hlen h)
      · next z q st2 =>
        exact s_dup1 hd (ih _ _ _ _ _ _ _ hlen h)
      · cases h
    · next heq =>
      cases heq
      cases ht
      rw [stp_10] at h
      split at h
      · next y q x p st2 =>
        exact s_dup2 hd (ih _ _ _ _ _ _ _ hlen h)
      · cases h
    · next heq =>
      cases heq
      cases ht
      rw [stp_11] at h
      split at h
      · next y q1 x q2 st2 =>
        exact s_iadd hd (ih _ _ _ _ _ _ _ hlen h)
      · cases h
    · next heq =>
      cases heq
      cases ht
      rw [stp_12] at h
      split at h
      · next y q1 x q2 st2 =>
        exact s_isub hd (ih _ _ _ _ _ _ _ hlen h)
      · cases h
    · next heq =>
      cases heq
      cases ht
      rw [stp_13] at h
      split at h
      · next y q1 x q2 st2 =>
        exact s_imul hd (ih _ _ _ _ _ _ _ hlen h)
      · cases h
    · next heq =>
      cases heq
      cases ht
      rw [stp_14] at h
      split at h
      · next y q1 x q2 st2 =>
        split at h
        · cases h
        · next hne =>
          exact s_idiv hne hd (ih _ _ _ _ _ _ _ hlen h)
      · cases h
    · next heq =>
      cases heq
      cases ht
      rw [stp_15] at h
      split at h
      · next y q1 x q2 st2 =>
        split at h
        · cases h
        · next hne =>
          exact s_irem hne hd (ih _ _ _ _ _ _ _ hlen h)
      · cases h
    · next heq =>
      cases heq
      cases ht
      rw [stp_16] at h
      split at h
      · next x q st2 =>
        exact s_ineg hd (ih _ _ _ _ _ _ _ hlen h)
      · cases h
    · next heq =>
      cases heq
      cases ht
      rw [stp_17] at h
      split at h
      · next y q1 x q2 st2 =>
        exact s_ishl hd (ih _ _ _ _ _ _ _ hlen h)
      · cases h
    · next heq =>
      cases heq
      cases ht
      rw [stp_18] at h
      split at h
      · next y q1 x q2 st2 =>
        exact s_ishr hd (ih _ _ _ _ _ _ _ hlen h)
      · cases h
    · next heq =>
      cases heq
      cases ht
      rw [stp_19] at h
      split at h
      · next y q1 x q2 st2 =>
        exact s_iushr hd (ih _ _ _ _ _ _ _ hlen h)
      · cases h
    · next heq =>
      cases heq
      cases ht
      rw [stp_20] at h
      split at h
      · next y q1 x q2 st2 =>
        exact s_iand hd (ih _ _ _ _ _ _ _ hlen h)
      · cases h
    · next heq =>
      cases heq
      cases ht
      rw [stp_21] at h
      split at h
      · next y q1 x q2 st2 =>
        exact s_ior hd (ih _ _ _ _ _ _ _ hlen h)
      · cases h
    · next heq =>
      cases heq
      cases ht
      rw [stp_22] at h
      split at h
      · next y q1 x q2 st2 =>
        exact s_ixor hd (ih _ _ _ _ _ _ _ hlen h)
      · cases h
    · next heq =>
      cases heq
      cases ht
      rw [stp_23] at h
      split at h
      · next y q1 x q2 st2 =>
        exact s_ladd hd (ih _ _ _ _ _ _ _ hlen h)
      · cases h
    · next heq =>
      cases heq
      cases ht
      rw [stp_24] at h
      split at h
      · next y q1 x q2 st2 =>
        exact s_lmul hd (ih _ _ _ _ _ _ _ hlen h)
      · cases h
    · next heq =>
      cases heq
      cases ht
      rw [stp_25] at h
      split at h
      · next y q1 x q2 st2 =>
        split at h
        · cases h
        · next hne =>
          exact s_ldiv hne hd (ih _ _ _ _ _ _ _ hlen h)
      · cases h
    · next heq =>
      cases heq
      cases ht
      rw [stp_26] at h
      split at h
      · next y q1 x q2 st2 =>
        split at h
        · cases h
        · next hne =>
          exact s_lrem hne hd (ih _ _ _ _ _ _ _ hlen h)
      · cases h
    · next heq =>
      cases heq
      cases ht
      rw [stp_27] at h
      split at h
      · next y q1 x q2 st2 =>
        exact s_lcmp hd (ih _ _ _ _ _ _ _ hlen h)
      · cases h
    · next heq =>
      cases heq
      cases ht
      rw [stp_28] at h
      split at h
      · next x q st2 =>
        exact s_i2l hd (ih _ _ _ _ _ _ _ hlen h)
      · cases h
    · next off heq =>
      cases heq
      split at ht
      · next hc =>
        cases ht
        rw [stp_30] at h
        split at h
        · next x q st2 =>
          refine s_if_eq hc hd (fun hz => ?_) (fun hz => ?_)
          · rw [if_pos hz] at h
            exact ih _ _ _ _ _ _ _ hlen h
          · rw [if_neg hz] at h
            exact ih _ _ _ _ _ _ _ hlen h
        · cases h
      · cases ht
    · next off heq =>
      cases heq
      split at ht
      · next hc =>
        cases ht
        rw [stp_36] at h
        split at h
        · next y q1 x q2 st2 =>
          refine s_icmp_eq hc hd (fun hz => ?_) (fun hz => ?_)
          · rw [if_pos hz] at h
            exact ih _ _ _ _ _ _ _ hlen h
          · rw [if_neg hz] at h
            exact ih _ _ _ _ _ _ _ hlen h
        · cases h
      · cases ht
    · next off heq =>
      cases heq
      split at ht
      · next hc =>
        cases ht
        rw [stp_31] at h
        split at h
        · next x q st2 =>
          refine s_if_ne hc hd (fun hz => ?_) (fun hz => ?_)
          · rw [if_pos hz] at h
            exact ih _ _ _ _ _ _ _ hlen h
          · rw [if_neg hz] at h
            exact ih _ _ _ _ _ _ _ hlen h
        · cases h
      · cases ht
    · next off heq =>
      cases heq
      split at ht
      · next hc =>
        cases ht
        rw [stp_37] at h
        split at h
        · next y q1 x q2 st2 =>
          refine s_icmp_ne hc hd (fun hz => ?_) (fun hz => ?_)
          · rw [if_pos hz] at h
            exact ih _ _ _ _ _ _ _ hlen h
          · rw [if_neg hz] at h
            exact ih _ _ _ _ _ _ _ hlen h
        · cases h
      · cases ht
    · next off heq =>
      cases heq
      split at ht
      · next hc =>
        cases ht
        rw [stp_32] at h
        split at h
        · next x q st2 =>
          refine s_if_lt hc hd (fun hz => ?_) (fun hz => ?_)
          · rw [if_pos hz] at h
            exact ih _ _ _ _ _ _ _ hlen h
          · rw [if_neg hz] at h
            exact ih _ _ _ _ _ _ _ hlen h
        · cases h
      · cases ht
    · next off heq =>
      cases heq
      split at ht
      · next hc =>
        cases ht
        rw [stp_38] at h
        split at h
        · next y q1 x q2 st2 =>
          refine s_icmp_lt hc hd (fun hz => ?_) (fun hz => ?_)
          · rw [if_pos hz] at h
            exact ih _ _ _ _ _ _ _ hlen h
          · rw [if_neg hz] at h
            exact ih _ _ _ _ _ _ _ hlen h
        · cases h
      · cases ht
    · next off heq =>
      cases heq
      split at ht
      · next hc =>
        cases ht
        rw [stp_33] at h
        split at h
        · next x q st2 =>
          refine s_if_ge hc hd (fun hz => ?_) (fun hz => ?_)
          · rw [if_pos hz] at h
            exact ih _ _ _ _ _ _ _ hlen h
          · rw [if_neg hz] at h
            exact ih _ _ _ _ _ _ _ hlen h
        · cases h
      · cases ht
    · next off heq =>
      cases heq
      split at ht
      · next hc =>
        cases ht
        rw [stp_39] at h
        split at h
        · next y q1 x q2 st2 =>
          refine s_icmp_ge hc hd (fun hz => ?_) (fun hz => ?_)
          · rw [if_pos hz] at h
            exact ih _ _ _ _ _ _ _ hlen h
          · rw [if_neg hz] at h
            exact ih _ _ _ _ _ _ _ hlen h
        · cases h
      · cases ht
    · next off heq =>
      cases heq
      split at ht
      · next hc =>
        cases ht
        rw [stp_34] at h
        split at h
        · next x q st2 =>
          refine s_if_gt hc hd (fun hz => ?_) (fun hz => ?_)
          · rw [if_pos hz] at h
            exact ih _ _ _ _ _ _ _ hlen h
          · rw [if_neg hz] at h
            exact ih _ _ _ _ _ _ _ hlen h
        · cases h
      · cases ht
    · next off heq =>
      cases heq
      split at ht
      · next hc =>
        cases ht
        rw [stp_40] at h
        split at h
        · next y q1 x q2 st2 =>
          refine s_icmp_gt hc hd (fun hz => ?_) (fun hz => ?_)
          · rw [if_pos hz] at h
            exact ih _ _ _ _ _ _ _ hlen h
          · rw [if_neg hz] at h
            exact ih _ _ _ _ _ _ _ hlen h
        · cases h
      · cases ht
    · next off heq =>
      cases heq
      split at ht
      · next hc =>
        cases ht
        rw [stp_35] at h
        split at h
        · next x q st2 =>
          refine s_if_le hc hd (fun hz => ?_) (fun hz => ?_)
          · rw [if_pos hz] at h
            exact ih _ _ _ _ _ _ _ hlen h
          · rw [if_neg hz] at h
            exact ih _ _ _ _ _ _ _ hlen h
        · cases h
      · cases ht
    · next off heq =>
      cases heq
      split at ht
      · next hc =>
        cases ht
        rw [stp_41] at h
        split at h
        · next y q1 x q2 st2 =>
          refine s_icmp_le hc hd (fun hz => ?_) (fun hz => ?_)
          · rw [if_pos hz] at h
            exact ih _ _ _ _ _ _ _ hlen h
          · rw [if_neg hz] at h
            exact ih _ _ _ _ _ _ _ hlen h
        · cases h
      · cases ht
    · next off heq =>
      cases heq
      split at ht
      · next hc =>
        cases ht
        rw [stp_42] at h
        split at h
        · next z q st2 =>
          refine s_ifnull hc hd (fun hz => ?_) (fun hz => ?_)
          · rw [if_pos hz] at h
            exact ih _ _ _ _ _ _ _ hlen h
          · rw [if_neg hz] at h
            exact ih _ _ _ _ _ _ _ hlen h
        · cases h
      · cases ht
    · next off heq =>
      cases heq
      split at ht
      · next hc =>
        cases ht
        rw [stp_43] at h
        split at h
        · next z q st2 =>
          refine s_ifnonnull hc hd (fun hz => ?_) (fun hz => ?_)
          · rw [if_pos hz] at h
            exact ih _ _ _ _ _ _ _ hlen h
          · rw [if_neg hz] at h
            exact ih _ _ _ _ _ _ _ hlen h
        · cases h
      · cases ht
    · next off heq =>
      cases heq
      split at ht
      · next hc =>
        cases ht
        rw [stp_44] at h
        exact s_goto hc hd (ih _ _ _ _ _ _ _ hlen h)
      · cases ht
    · next d lo hi offs len heq =>
      cases heq
      split at ht
      · next hc =>
        cases ht
        rw [stp_45] at h
        split at h
        · next x q st2 =>
          exact s_table hc hd (ih _ _ _ _ _ _ _ hlen h)
        · cases h
      · cases ht
    · next d ps len heq =>
      cases heq
      split at ht
      · next hc =>
        cases ht
        rw [stp_45] at h
        split at h
        · next x q st2 =>
          exact s_lookup hc hd (ih _ _ _ _ _ _ _ hlen h)
        · cases h
      · cases ht
    · next j heq =>
      cases heq
      obtain ⟨⟨k, f⟩, hv, rfl⟩ := Option.map_eq_some_iff.mp ht
      dsimp only at h
      by_cases hr : isr k f = true
      · rw [if_pos hr] at h
        rw [stp_51] at h
        split at h
        · next z q st2 =>
          obtain ⟨h1, h2⟩ := ck_some.mp h
          rw [Int.toNat_natCast] at h1
          exact s_get hv h1 hd (by rw [if_pos hr]; exact ih _ _ _ _ _ _ _ hlen h2)
        · cases h
      · rw [if_neg hr] at h
        rw [stp_50] at h
        split at h
        · next z q st2 =>
          obtain ⟨h1, h2⟩ := ck_some.mp h
          rw [Int.toNat_natCast] at h1
          exact s_get hv h1 hd (by rw [if_neg hr]; exact ih _ _ _ _ _ _ _ hlen h2)
        · cases h
    · next j heq =>
      cases heq
      obtain ⟨⟨k, f⟩, hv, ht⟩ := Option.bind_eq_some_iff.mp ht
      dsimp only at ht
      split at ht
      · next hfin =>
        cases ht
        by_cases hr : isr k f = true
        · rw [if_pos hr] at h
          rw [stp_53] at h
          split at h
          · next z2 w z q st2 hq2 =>
            try subst hq2
            obtain ⟨⟨h1, h3⟩, h2⟩ := ck_some.mp h
            rw [Int.toNat_natCast] at h1
            refine s_put (t' := vR w) (fun _ _ _ h => h) (σ1 := rr σ q (ru (gr σ q) f w)) hv h1 hfin rfl rfl rfl rfl rfl (fun i _ => rfl) (fun i hi => by rw [gr_rr, if_neg hi]) (fun j => ?_) (Or.inr ⟨hr, z2, w, rfl, h3⟩) hd (ih _ _ _ _ _ _ _ hlen h2)
            rw [gr_rr, if_pos rfl]
            unfold ru
            by_cases e : j = f
            · subst e
              rw [if_pos hr, if_pos rfl, if_pos rfl]
            · rw [if_neg e, if_neg e]
              rfl
          · cases h
        · rw [if_neg hr] at h
          rw [stp_52] at h
          split at h
          · next x q1 z q st2 hq2 =>
            try subst hq2
            obtain ⟨h1, h2⟩ := ck_some.mp h
            rw [Int.toNat_natCast] at h1
            refine s_put (t' := vI x) (fun _ _ _ h => h) (σ1 := sr σ q (ru (gt σ q) f x)) hv h1 hfin rfl rfl rfl rfl rfl (fun i hi => by rw [gt_sr, if_neg hi]) (fun i _ => rfl) (fun j => ?_) (Or.inl ⟨by simpa using hr, rfl⟩) hd (ih _ _ _ _ _ _ _ hlen h2)
            rw [gt_sr, if_pos rfl]
            unfold ru
            by_cases e : j = f
            · subst e
              rw [if_neg hr, if_pos rfl, if_pos rfl]
            · rw [if_neg e, if_neg e]
              rfl
          · cases h
      · cases ht
    · next heq =>
      cases heq
      cases ht
      by_cases hM : mo M = 4
      · rw [if_pos hM] at h
        rw [stp_66] at h
        split at h
        · next z q st2 =>
          exact s_slen hM hd (ih _ _ _ _ _ _ _ hlen h)
        · cases h
      · rw [if_neg hM] at h
        rw [stp_54] at h
        split at h
        · next z q st2 =>
          obtain ⟨h1, h2⟩ := ck_some.mp h
          exact s_alen h1 hd (ih _ _ _ _ _ _ _ hlen h2)
        · cases h
    · next heq =>
      cases heq
      cases ht
      by_cases hM : mo M = 4
      · rw [if_pos hM] at h
        rw [stp_65] at h
        split at h
        · next j q1 z q st2 =>
          split at h
          · next hj =>
            exact s_sald hM hj hd (ih _ _ _ _ _ _ _ hlen h)
          · cases h
        · cases h
      · rw [if_neg hM] at h
        rw [stp_55] at h
        split at h
        · next j q1 z q st2 =>
          obtain ⟨h1, h2⟩ := ck_some.mp h
          exact s_iald h1 hd (ih _ _ _ _ _ _ _ hlen h2)
        · cases h
    · next heq =>
      cases heq
      cases ht
      rw [stp_56] at h
      split at h
      · next y q2 j q1 z q st2 =>
        obtain ⟨h1, h2⟩ := ck_some.mp h
        exact s_iast h1 hd (ih _ _ _ _ _ _ _ hlen h2)
      · cases h
    · next heq =>
      cases heq
      cases ht
      rw [stp_57] at h
      split at h
      · next j q1 z q st2 =>
        obtain ⟨h1, h2⟩ := ck_some.mp h
        exact s_zald h1 hd (ih _ _ _ _ _ _ _ hlen h2)
      · cases h
    · next heq =>
      cases heq
      cases ht
      rw [stp_58] at h
      split at h
      · next y q2 j q1 z q st2 =>
        obtain ⟨h1, h2⟩ := ck_some.mp h
        exact s_zast h1.1 h1.2 hd (ih _ _ _ _ _ _ _ hlen h2)
      · cases h
    · next heq =>
      cases heq
      cases ht
      rw [stp_59] at h
      split at h
      · next j q1 z q st2 =>
        obtain ⟨h1, h2⟩ := ck_some.mp h
        exact s_aald h1 hd (ih _ _ _ _ _ _ _ hlen h2)
      · cases h
    · next heq =>
      cases heq
      cases ht
      rw [stp_60] at h
      split at h
      · next z2 w j q1 z q st2 =>
        obtain ⟨h1, h2⟩ := ck_some.mp h
        exact s_aast h1.1 h1.2 hd (ih _ _ _ _ _ _ _ hlen h2)
      · cases h
    · next heq =>
      cases heq
      cases ht
      rw [stp_61] at h
      split at h
      · next y q st2 =>
        split at h
        · next hy =>
          have g := ex_grow _ _ _ _ _ _ _ h
          exact s_newi hy ⟨g.1, g.2.1⟩ hd (ih _ _ _ _ _ _ _ hlen h)
        · cases h
      · cases h
    · next heq =>
      cases heq
      cases ht
      rw [stp_62] at h
      split at h
      · next y q st2 =>
        split at h
        · next hy =>
          have g := ex_grow _ _ _ _ _ _ _ h
          exact s_newz hy ⟨g.1, g.2.1⟩ hd (ih _ _ _ _ _ _ _ hlen h)
        · cases h
      · cases h
    · next j heq =>
      cases heq
      obtain ⟨k, hv, ht⟩ := Option.bind_eq_some_iff.mp ht
      split at ht
      · next hk0 =>
        subst hk0
        cases ht
        rw [stp_63] at h
        split at h
        · next y q st2 =>
          split at h
          · next hy =>
            have g := ex_grow _ _ _ _ _ _ _ h
            exact s_newr hv hy ⟨g.1, g.2.1⟩ hd (ih _ _ _ _ _ _ _ hlen h)
          · cases h
        · cases h
      · cases ht
    · next j heq =>
      cases heq
      obtain ⟨k, hv, rfl⟩ := Option.map_eq_some_iff.mp ht
      rw [stp_64] at h
      have g := ex_grow _ _ _ _ _ _ _ h
      exact s_new hv ⟨g.1, g.2.1⟩ hd (ih _ _ _ _ _ _ _ hlen h)
    · next heq =>
      cases heq
      split at ht
      · next hm =>
        cases ht
        rw [stp_70] at h
        split at h
        · next z q =>
          cases h
          intro p l e R s m args below meth c D A bS cI cZ cO L xs Q adl0 fc fs C E adl H locs cells slots als cst P hl hs
          have hs0 := st2_cons hs
          clear hs
          obtain ⟨v1, cst, rfl, ⟨x1, rfl, h1⟩, hs⟩ := hs0
          obtain rfl := st2_nil hs
          have hcc : cells = fc ∧ slots = fs := by
            obtain ⟨ws, a1, a2, a3, a4, a5, a6, a7, -⟩ := P
            omega
          obtain ⟨rfl, rfl⟩ := hcc
          exact E adl H locs als _ pc P (Or.inr (Or.inl ⟨Or.inl hm, x1, by rw [h1], rfl, (fun q => by rw [hm] at q; cases q), hd⟩))
        · cases h
      · split at ht
        · next hm =>
          cases ht
          rw [stp_71] at h
          split at h
          · next z q =>
            split at h
            · next hz =>
              cases h
              intro p l e R s m args below meth c D A bS cI cZ cO L xs Q adl0 fc fs C E adl H locs cells slots als cst P hl hs
              have hs0 := st2_cons hs
              clear hs
              obtain ⟨v1, cst, rfl, ⟨x1, rfl, h1⟩, hs⟩ := hs0
              obtain rfl := st2_nil hs
              have hcc : cells = fc ∧ slots = fs := by
                obtain ⟨ws, a1, a2, a3, a4, a5, a6, a7, -⟩ := P
                omega
              obtain ⟨rfl, rfl⟩ := hcc
              refine E adl H locs als _ pc P (Or.inr (Or.inl ⟨Or.inr hm, x1, by rw [h1], rfl, fun q => ?_, hd⟩))
              rcases hz with hz | hz
              · exact Or.inl (Int32.toInt_inj.mp (by rw [h1, hz]; rfl))
              · exact Or.inr (Int32.toInt_inj.mp (by rw [h1, hz]; rfl))
            · cases h
          · cases h
        · cases ht
    · next heq =>
      cases heq
      split at ht
      · next hm =>
        cases ht
        rw [stp_72] at h
        split at h
        · next z q =>
          cases h
          intro p l e R s m args below meth c D A bS cI cZ cO L xs Q adl0 fc fs C E adl H locs cells slots als cst P hl hs
          have hs0 := st2_cons hs
          clear hs
          obtain ⟨v1, cst, rfl, ⟨x1, rfl, h1⟩, hs⟩ := hs0
          obtain rfl := st2_nil hs
          have hcc : cells = fc ∧ slots = fs := by
            obtain ⟨ws, a1, a2, a3, a4, a5, a6, a7, -⟩ := P
            omega
          obtain ⟨rfl, rfl⟩ := hcc
          exact E adl H locs als _ pc P (Or.inr (Or.inr ⟨hm, x1, by rw [h1], rfl, hd⟩))
        · cases h
      · cases ht
    · next heq =>
      cases heq
      split at ht
      · next hm =>
        cases ht
        rw [stp_73] at h
        split at h
        · cases h
          intro p l e R s m args below meth c D A bS cI cZ cO L xs Q adl0 fc fs C E adl H locs cells slots als cst P hl hs
          obtain rfl := st2_nil hs
          have hcc : cells = fc ∧ slots = fs := by
            obtain ⟨ws, a1, a2, a3, a4, a5, a6, a7, -⟩ := P
            omega
          obtain ⟨rfl, rfl⟩ := hcc
          exact E adl H locs als _ pc P (Or.inl ⟨hm, rfl, rfl, hd⟩)
        · cases h
      · cases ht
    · next j heq =>
      cases heq
      obtain ⟨⟨c0, sy⟩, hv, ht⟩ := Option.bind_eq_some_iff.mp ht
      dsimp only at ht
      split at ht
      · next hsy =>
        split at ht
        · next hrm =>
          obtain ⟨nn', hn, ht⟩ := Option.bind_eq_some_iff.mp ht
          split at ht
          · next hnl =>
            cases ht
            rw [stp_80] at h
            obtain ⟨⟨h1, h2, h3⟩, h4⟩ := ck_some.mp h
            obtain ⟨⟨r1, σ1⟩, h5, h6⟩ := bnd_some.mp h4
            rw [Int.toNat_natCast] at h1 h2 h3 h5 h6
            exact s_static hv hsy hrm hn hnl h1 h2 h3 (ex_grow _ _ _ _ _ _ _ h5) (ex_grow _ _ _ _ _ _ _ h6) (ih _ _ _ _ _ _ _ (pad_len (by rw [List.length_reverse, List.length_take]; omega)) h5) hd (ih _ _ _ _ _ _ _ hlen h6)
          · cases ht
        · cases ht
      · split at ht
        · next hr =>
          split at ht
          · next e6 =>
            subst e6
            cases ht
            rw [stp_86] at h
            split at h
            · next y q1 x q2 st2 =>
              obtain ⟨h1, h2⟩ := ck_some.mp h
              exact s_max hv hr h1 hd (ih _ _ _ _ _ _ _ hlen h2)
            · cases h
          · split at ht
            · next e6 =>
              subst e6
              cases ht
              rw [stp_87] at h
              split at h
              · next y q1 x q2 st2 =>
                obtain ⟨h1, h2⟩ := ck_some.mp h
                exact s_min hv hr h1 hd (ih _ _ _ _ _ _ _ hlen h2)
              · cases h
            · split at ht
              · next e6 =>
                subst e6
                cases ht
                rw [stp_88] at h
                split at h
                · next x q2 st2 =>
                  obtain ⟨h1, h2⟩ := ck_some.mp h
                  exact s_abs hv hr h1 hd (ih _ _ _ _ _ _ _ hlen h2)
                · cases h
              · cases ht
        · cases ht
    · next j heq =>
      cases heq
      obtain ⟨⟨c0, sy⟩, hv, ht⟩ := Option.bind_eq_some_iff.mp ht
      dsimp only at ht
      split at ht
      · next hsy =>
        obtain ⟨nn', hn, ht⟩ := Option.bind_eq_some_iff.mp ht
        split at ht
        · next hnl =>
          cases ht
          rw [stp_82] at h
          obtain ⟨⟨h1, h2, h3, h7, h8⟩, h4⟩ := ck_some.mp h
          obtain ⟨⟨r1, σ1⟩, h5, h6⟩ := bnd_some.mp h4
          rw [Int.toNat_natCast] at h1 h2 h3 h5 h6 h7 h8
          exact s_inst (virt := true) hv hsy.1 hsy.2 hn hnl h1 h2 h3 (ex_grow _ _ _ _ _ _ _ h5) (ex_grow _ _ _ _ _ _ _ h6) h7 h8 (ih _ _ _ _ _ _ _ (pad_len (by rw [List.length_reverse, List.length_take]; omega)) h5) hd (ih _ _ _ _ _ _ _ hlen h6)
        · cases ht
      · cases ht
    · next j heq =>
      cases heq
      obtain ⟨⟨c0, sy⟩, hv, ht⟩ := Option.bind_eq_some_iff.mp ht
      dsimp only at ht
      split at ht
      · next hsy =>
        obtain ⟨nn', hn, ht⟩ := Option.bind_eq_some_iff.mp ht
        split at ht
        · next hnl =>
          cases ht
          rw [stp_83] at h
          obtain ⟨⟨h1, h2, h3, h7, h8⟩, h4⟩ := ck_some.mp h
          obtain ⟨⟨r1, σ1⟩, h5, h6⟩ := bnd_some.mp h4
          rw [Int.toNat_natCast] at h1 h2 h3 h5 h6 h7 h8
          exact s_inst (virt := false) hv hsy.1 hsy.2 hn hnl h1 h2 h3 (ex_grow _ _ _ _ _ _ _ h5) (ex_grow _ _ _ _ _ _ _ h6) h7 h8 (ih _ _ _ _ _ _ _ (pad_len (by rw [List.length_reverse, List.length_take]; omega)) h5) hd (ih _ _ _ _ _ _ _ hlen h6)
        · cases ht
      · split at ht
        · next hr =>
          obtain ⟨e5, hr⟩ := hr
          subst e5
          cases ht
          rw [stp_85] at h
          split at h
          · next z q st2 =>
            obtain ⟨h1, h2⟩ := ck_some.mp h
            exact s_obj hv hr h1.1 h1.2 hd (ih _ _ _ _ _ _ _ hlen h2)
          · cases h
        · cases ht
    · cases ht
end
section

/-! THE CLAIM OUT OF ONE WALK OF THE LAW'S BODY. Your part is whole_start (and what it stands on); all else here is the same for every law, but numbers. -/
def R_law : String := "FogCutsLaw"
def lw_P (b : Addr) (xs : List Int32) (args : Array Value) (s : State) : Prop := args = #[.ref b] ∧ s.IntsAt b xs ∧ xs.length ≤ 2560 ∧ (Jvm.Cond.and given_1 narrow_1).before args s = true
def lw_Q (_ : Array Value) (s : State) (o : Outcome) (t : State) : Prop := o = .returned (some (.int 1)) ∧ Framed s o t [] 600000 7302250
def lw_Z (below : List Frame) (a : Array Value) (s : State) : State → Prop := fun t => ∃ o, t.status = .running ∧ Ended t below o ∧ lw_Q a s o t
/-- the law's own end, with 1 on the stack, nothing written that was there before, its room as the claim has it -/
theorem lw_ret {p : Program} {l : Launch} {e : Env} {s : State} {m : MethodId} {below : List Frame} {meth : Method} {c : Code} {b : Nat} (hx : p.tables.exec = Jvm.exec) (hb : c.code = code) (hr : meth.sig.returnType = ret) (hlocks : meth.locks = false) {pc : Nat} {H : Heap} {ls : Array Slot} (hdg : decode code pc = .ok (.ireturn, 1)) : W p l e room_1 s m #[Value.ref b] below meth c H [] 600000 7302250 (lw_Z below #[Value.ref b] s) (F0 m pc ls [.int 1]) := by
  intro T hT X
  obtain ⟨fs, hret, hrun, hended, hW, hframe⟩ := X.leave (v := some (.int 1)) (hlocks := hlocks) (fun h => by rw [hr] at h; cases h)
  have hmeth' : T.vm.method? m = some meth := X.method'
  refine ⟨T.setFrames fs, ?_, .returned (some (.int 1)), hrun, hended, rfl, ⟨_, rfl⟩, hW, hframe⟩
  jvm_step X.here [X.here.top, hx, hb, hdg, hmeth', hr, ret, narrow_b1]
  (try refine ⟨rfl, ?_⟩); (try refine ⟨rfl, ?_⟩)
  first | (intro acts; rw [hret _ acts rfl rfl rfl]) | rw [hret _ _ rfl rfl rfl]
  exact Steps.refl _
/-- what holds at the law's entry: the machine, the code, the tables' words (any of lw_tbl by 'hts w (by decide +kernel)'), the script of L ints xs at the cell b, what the Statement gives of the start (any of its parts by flat_of_before) -/
def lw_At (p : Program) (s : State) (m : MethodId) (meth : Method) (c : Code) (b L : Nat) (xs : Nat → Int32) : Prop :=
  p.tables.exec = Jvm.exec ∧ c.code = code ∧ meth.sig.returnType = ret ∧ c.maxLocals = 4 ∧ s.vm.findClass R_law = some m.cls ∧ (∀ w ∈ lw_tbl, w.before #[Value.ref b] s = true) ∧ va_X b L xs s s.heap ∧ b < s.heap.size ∧ meth.locks = false ∧ (Jvm.Cond.and given_1 narrow_1).before #[Value.ref b] s = true
/-- the store before the law has made anything: the script alone -/
def st0 (L : Nat) (x : Nat → Int) : St := (0, 0, fun _ => (0, 0), fun _ _ => 0, fun _ _ => 0, L, x)
/-- WHAT IS LEFT: of every script, the data's run answers 1 within the room -/
def law_goal : Prop := ∀ (b L : Nat) (x : Nat → Int), L ≤ 2560 → (∀ j, -2147483648 ≤ x j ∧ x j < 2147483648) → ∃ σ' : St, run 148 0 [vS b, vU, vU, vU] [] (st0 L x) = some (vI 1, σ') ∧ nn σ' ≤ 600000 ∧ nt σ' ≤ 7302250
theorem kn_of {p : Program} {s : State} {m : MethodId} {meth : Method} {c : Code} {b L : Nat} {xs : Nat → Int32} (C0 : lw_At p s m meth c b L xs) : ∃ (D : va_G) (cI cZ cO : Nat), va_K D vwc (gtys cI cZ cO) s ∧ va_AO RX0 s ∧ (∀ w ∈ gw, w.before #[Value.ref b] s = true) ∧ ∀ w ∈ nst, va_Nw w s := by
  obtain ⟨hx, hb, hr, hml, hown, hts, hX, hbl, hlocks, hgv⟩ := C0
  have hgw : ∀ w ∈ gw, w.before #[Value.ref b] s = true := fun w h => hts w (List.mem_filter.mp h).1
  have hins : ∀ k, k < 4 → (Cond.instantiable (cR k) (cN k)).before #[Value.ref b] s = true := by
    have key : ∀ q ∈ nlk, (Cond.instantiable (cR q.2) (cN q.2)).before #[Value.ref b] s = true := fun q hq => hgw _ (nfacts q hq).2.2.1
    have all : ∀ k, k < 4 → ∃ q ∈ nlk, q.2 = k := by decide +kernel
    intro k hk
    obtain ⟨q, hq, rfl⟩ := all k hk
    exact key q hq
  have hkn : ∀ k, ∃ (cc : ClassId) (iS : Nat → Nat), k < 4 → u_Kn s (cR k) (cT k) (cN k) cc iS := by
    intro k
    by_cases hk : k < 4
    · obtain ⟨cc, iS, h⟩ := u_known (C := cR k) (T := cT k) (N := cN k) (n := cN k) hgw (inX k hk) (hins k hk)
      exact ⟨cc, iS, fun _ => h⟩
    · exact ⟨0, fun _ => 0, fun h => absurd h hk⟩
  obtain ⟨cI, kI, compI, i1, i2, i3⟩ := Cond.arrayClass_spec (hgw _ gw_arr.1)
  obtain ⟨cZ, kZ, compZ, z1, z2, z3⟩ := Cond.arrayClass_spec (hgw _ gw_arr.2)
  have hao : va_AO RX0 s := va_AO.of (hts _ tbl_over)
  obtain ⟨compO, cO, kO, o1, o2, o3, o4, o5⟩ := Cond.arrayOver_spec hao
  refine ⟨(fun k => Classical.choose (hkn k), fun k => Classical.choose (Classical.choose_spec (hkn k))), cI, cZ, cO, ⟨?_, ?_⟩, hao, hgw, fun w h => ?_⟩
  · intro k q hq
    have hk : k < 4 := (List.getElem?_eq_some_iff.mp hq).1
    have e := vwc_at hk
    rw [hq] at e
    cases e
    exact Classical.choose_spec (Classical.choose_spec (hkn k)) hk
  · intro k q hq
    match k, hq with
    | 0, hq => cases hq; exact ⟨fun n z => ⟨(fun k h => by cases h), kI, i2, compI, i3⟩, i1⟩
    | 1, hq => cases hq; exact ⟨fun n z => ⟨(fun k h => by cases h), kZ, z2, compZ, z3⟩, z1⟩
    | 2, hq => cases hq; exact ⟨fun n z => ⟨(fun k h => by cases h), kO, o3, compO, o4⟩, kO, compO, o3, o4, o1, o5⟩
    | k + 3, hq => simp [gtys] at hq
  · have honT : ∀ w ∈ nst, w.onTables = true := by
      intro w hw
      exact List.all_eq_true.mp (show (nst.all fun w => w.onTables) = true by decide +kernel) w hw
    exact va_Nw.of (honT w h) (hts w (tbl_nst w h))
theorem whole_of (hG : law_goal) {p : Program} {e : Env} {s : State} {m : MethodId} {below : List Frame} {meth : Method} {c : Code} (l : Launch) {b L : Nat} {xs : Nat → Int32} (hL : L ≤ 2560) (C0 : lw_At p s m meth c b L xs) : W p l e room_1 s m #[Value.ref b] below meth c s.heap [] 0 0 (lw_Z below #[Value.ref b] s) (entryFrame m ([Value.ref b] : List Value).toArray 4) := by
  obtain ⟨D, cI, cZ, cO, hK, hao, hgw, hnst⟩ := kn_of C0
  obtain ⟨hx, hb, hr, hml, hown, hts, hX, hbl, hlocks, hgv⟩ := id C0
  obtain ⟨σ', hrun, hn1, hn2⟩ := hG b L (fun j => (xs j).toInt) hL (fun j => ⟨Int32.le_toInt _, Int32.toInt_lt _⟩)
  obtain ⟨n, hn⟩ := run_some.mp hrun
  have hsim := sim n 148 0 [vS b, vU, vU, vU] [] _ _ _ rfl hn
  have hg := ex_grow _ _ _ _ _ _ _ hn
  rw [lg_entry_eq]
  refine hsim p l e room_1 s m #[Value.ref b] below meth c D (fun q : Nat => s.heap.size ≤ q) b cI cZ cO L xs _ [] (nn σ') (nt σ')
    ⟨hx, hb, hml, hown, hgw, hnst, hao, fun h => absurd h (by decide +kernel), hK, fun _ h => h, fun _ => ⟨by omega, hX, hbl, Nat.not_le.mpr hbl⟩, ⟨by decide +kernel, by decide +kernel, hn1, hn2⟩⟩ ?_ [] s.heap [] 0 0 _ _
    ⟨[], ⟨[], rfl⟩, ⟨rfl, rfl, fun k hk => absurd hk (Nat.not_lt_zero k)⟩, fun k q h => by simp at h, ⟨fun i j p q h => by simp at h, fun k q h => by simp at h⟩, va_S.rf, (by show 0 + nn σ' = nn σ' + 0; omega), (by show 0 + nt σ' = nt σ' + 0; omega), Nat.zero_le _, Nat.zero_le _, fun _ => ⟨rfl, fun j _ => rfl⟩⟩
    (lr_entry (as := [vS b]) (vs := [.ref b]) ⟨rfl, trivial⟩ (fun t ht => Or.inr (Or.inr (by rw [List.mem_singleton.mp ht]; rfl))) (by show 1 ≤ ml 148; decide +kernel)) trivial
  intro adl1 H1 locs1 als1 cst1 pc1 P1 hen
  obtain ⟨ws1, hx1, hw1, hP1, hD1, hS1, -⟩ := P1
  have m2 : mk 148 = 2 := by decide +kernel
  rcases hen with ⟨k1, -⟩ | ⟨k1, v, e1, rfl, k2, hd⟩ | ⟨k1, -⟩
  · rw [m2] at k1; cases k1
  · have e2 : v.toInt = 1 := by
      have := congrArg (fun t : AV => t.2.1) e1
      exact this.symm
    have e3 : v = 1 := Int32.toInt_inj.mp (by rw [e2]; rfl)
    subst e3
    refine va_forget (fun q hq => hS1.2.2 q hq) ?_
    refine W.widen (k := 600000) (n := 7302250) hn1 hn2 ?_
    exact lw_ret hx hb hr hlocks hd
  · rw [m2] at k1; cases k1
end
