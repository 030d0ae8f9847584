section
-- ===== PART A: goes FIRST, ahead of the names: the tables' words, and 'selects' of the private methods out of them =====
/-- a private method of a class that the tables say can be made, by its rows of tables_1 -/
def lw_okq (q : MethodName × Nat) : Prop := (q.1.cls ≠ "java/lang/invoke/MethodHandle" ∧ q.1.cls ≠ "java/lang/invoke/VarHandle") ∧ Cond.instantiable q.1.cls q.2 ∈ tables_1 ∧ Cond.privateMethod q.1 ∈ tables_1 ∧ Cond.instanceMethod q.1 ∈ tables_1
theorem lw_p0 : lw_okq (⟨"SeenNumbers", "answerFault", "(I)I"⟩, 8) := ⟨⟨by decide +kernel, by decide +kernel⟩, List.mem_of_getElem? (i := 15) (by decide +kernel), List.mem_of_getElem? (i := 320) (by decide +kernel), List.mem_of_getElem? (i := 321) (by decide +kernel)⟩
theorem lw_p1 : lw_okq (⟨"SeenNumbers$Text", "takeHead", "()Z"⟩, 11) := ⟨⟨by decide +kernel, by decide +kernel⟩, List.mem_of_getElem? (i := 44) (by decide +kernel), List.mem_of_getElem? (i := 328) (by decide +kernel), List.mem_of_getElem? (i := 329) (by decide +kernel)⟩
theorem lw_p2 : lw_okq (⟨"SeenNumbers$Text", "take", "(I)Z"⟩, 11) := ⟨⟨by decide +kernel, by decide +kernel⟩, List.mem_of_getElem? (i := 44) (by decide +kernel), List.mem_of_getElem? (i := 332) (by decide +kernel), List.mem_of_getElem? (i := 333) (by decide +kernel)⟩
theorem lw_p3 : lw_okq (⟨"SeenNumbers$Text", "takeDigit", "(II)I"⟩, 11) := ⟨⟨by decide +kernel, by decide +kernel⟩, List.mem_of_getElem? (i := 44) (by decide +kernel), List.mem_of_getElem? (i := 336) (by decide +kernel), List.mem_of_getElem? (i := 337) (by decide +kernel)⟩
theorem lw_p4 : lw_okq (⟨"SeenNumbers$Text", "takeRows", "()Z"⟩, 11) := ⟨⟨by decide +kernel, by decide +kernel⟩, List.mem_of_getElem? (i := 44) (by decide +kernel), List.mem_of_getElem? (i := 341) (by decide +kernel), List.mem_of_getElem? (i := 342) (by decide +kernel)⟩
theorem lw_p5 : lw_okq (⟨"SeenNumbers$Text", "takeCell", "(I)Z"⟩, 11) := ⟨⟨by decide +kernel, by decide +kernel⟩, List.mem_of_getElem? (i := 44) (by decide +kernel), List.mem_of_getElem? (i := 345) (by decide +kernel), List.mem_of_getElem? (i := 346) (by decide +kernel)⟩
theorem lw_p6 : lw_okq (⟨"SeenNumbers$Text", "takeLetter", "()I"⟩, 11) := ⟨⟨by decide +kernel, by decide +kernel⟩, List.mem_of_getElem? (i := 44) (by decide +kernel), List.mem_of_getElem? (i := 349) (by decide +kernel), List.mem_of_getElem? (i := 350) (by decide +kernel)⟩
theorem lw_p7 : lw_okq (⟨"SeenNumbers$Text", "takeKind", "()I"⟩, 11) := ⟨⟨by decide +kernel, by decide +kernel⟩, List.mem_of_getElem? (i := 44) (by decide +kernel), List.mem_of_getElem? (i := 353) (by decide +kernel), List.mem_of_getElem? (i := 354) (by decide +kernel)⟩
theorem lw_p8 : lw_okq (⟨"SeenNumbers$Land", "settle", "(III)I"⟩, 13) := ⟨⟨by decide +kernel, by decide +kernel⟩, List.mem_of_getElem? (i := 90) (by decide +kernel), List.mem_of_getElem? (i := 361) (by decide +kernel), List.mem_of_getElem? (i := 362) (by decide +kernel)⟩
theorem lw_p9 : lw_okq (⟨"SeenNumbers$Land", "tallOn", "(I)I"⟩, 13) := ⟨⟨by decide +kernel, by decide +kernel⟩, List.mem_of_getElem? (i := 90) (by decide +kernel), List.mem_of_getElem? (i := 378) (by decide +kernel), List.mem_of_getElem? (i := 379) (by decide +kernel)⟩
theorem lw_p10 : lw_okq (⟨"SeenNumbers$Sight", "isSeenByOne", "(II)Z"⟩, 4) := ⟨⟨by decide +kernel, by decide +kernel⟩, List.mem_of_getElem? (i := 212) (by decide +kernel), List.mem_of_getElem? (i := 509) (by decide +kernel), List.mem_of_getElem? (i := 510) (by decide +kernel)⟩
theorem lw_p11 : lw_okq (⟨"SeenNumbers", "refusedFor", "(II)I"⟩, 8) := ⟨⟨by decide +kernel, by decide +kernel⟩, List.mem_of_getElem? (i := 15) (by decide +kernel), List.mem_of_getElem? (i := 527) (by decide +kernel), List.mem_of_getElem? (i := 528) (by decide +kernel)⟩
theorem lw_p12 : lw_okq (⟨"SeenNumbers$Finder", "numberFelling", "(II)I"⟩, 2) := ⟨⟨by decide +kernel, by decide +kernel⟩, List.mem_of_getElem? (i := 234) (by decide +kernel), List.mem_of_getElem? (i := 559) (by decide +kernel), List.mem_of_getElem? (i := 560) (by decide +kernel)⟩
theorem lw_p13 : lw_okq (⟨"SeenNumbers$Readings", "allAreSo", "(I)Z"⟩, 6) := ⟨⟨by decide +kernel, by decide +kernel⟩, List.mem_of_getElem? (i := 247) (by decide +kernel), List.mem_of_getElem? (i := 630) (by decide +kernel), List.mem_of_getElem? (i := 631) (by decide +kernel)⟩
theorem lw_p14 : lw_okq (⟨"SeenNumbers", "towerTells", "(LSeenNumbers$House;)I"⟩, 8) := ⟨⟨by decide +kernel, by decide +kernel⟩, List.mem_of_getElem? (i := 15) (by decide +kernel), List.mem_of_getElem? (i := 692) (by decide +kernel), List.mem_of_getElem? (i := 693) (by decide +kernel)⟩
theorem lw_p15 : lw_okq (⟨"SeenNumbers", "leaveTrace", "(I)V"⟩, 8) := ⟨⟨by decide +kernel, by decide +kernel⟩, List.mem_of_getElem? (i := 15) (by decide +kernel), List.mem_of_getElem? (i := 696) (by decide +kernel), List.mem_of_getElem? (i := 697) (by decide +kernel)⟩
def lw_privs_1 : List (MethodName × Nat) := [(⟨"SeenNumbers", "answerFault", "(I)I"⟩, 8), (⟨"SeenNumbers$Text", "takeHead", "()Z"⟩, 11), (⟨"SeenNumbers$Text", "take", "(I)Z"⟩, 11), (⟨"SeenNumbers$Text", "takeDigit", "(II)I"⟩, 11), (⟨"SeenNumbers$Text", "takeRows", "()Z"⟩, 11), (⟨"SeenNumbers$Text", "takeCell", "(I)Z"⟩, 11), (⟨"SeenNumbers$Text", "takeLetter", "()I"⟩, 11), (⟨"SeenNumbers$Text", "takeKind", "()I"⟩, 11), (⟨"SeenNumbers$Land", "settle", "(III)I"⟩, 13), (⟨"SeenNumbers$Land", "tallOn", "(I)I"⟩, 13), (⟨"SeenNumbers$Sight", "isSeenByOne", "(II)Z"⟩, 4), (⟨"SeenNumbers", "refusedFor", "(II)I"⟩, 8), (⟨"SeenNumbers$Finder", "numberFelling", "(II)I"⟩, 2), (⟨"SeenNumbers$Readings", "allAreSo", "(I)Z"⟩, 6), (⟨"SeenNumbers", "towerTells", "(LSeenNumbers$House;)I"⟩, 8), (⟨"SeenNumbers", "leaveTrace", "(I)V"⟩, 8)]
theorem lw_r1 : ∀ q ∈ lw_privs_1, lw_okq q := List.forall_mem_cons.mpr ⟨lw_p0, List.forall_mem_cons.mpr ⟨lw_p1, List.forall_mem_cons.mpr ⟨lw_p2, List.forall_mem_cons.mpr ⟨lw_p3, List.forall_mem_cons.mpr ⟨lw_p4, List.forall_mem_cons.mpr ⟨lw_p5, List.forall_mem_cons.mpr ⟨lw_p6, List.forall_mem_cons.mpr ⟨lw_p7, List.forall_mem_cons.mpr ⟨lw_p8, List.forall_mem_cons.mpr ⟨lw_p9, List.forall_mem_cons.mpr ⟨lw_p10, List.forall_mem_cons.mpr ⟨lw_p11, List.forall_mem_cons.mpr ⟨lw_p12, List.forall_mem_cons.mpr ⟨lw_p13, List.forall_mem_cons.mpr ⟨lw_p14, List.forall_mem_cons.mpr ⟨lw_p15, fun _ h => absurd h List.not_mem_nil⟩⟩⟩⟩⟩⟩⟩⟩⟩⟩⟩⟩⟩⟩⟩⟩
theorem lw_p16 : lw_okq (⟨"SeenNumbers", "chimneyTells", "(LSeenNumbers$House;)I"⟩, 8) := ⟨⟨by decide +kernel, by decide +kernel⟩, List.mem_of_getElem? (i := 15) (by decide +kernel), List.mem_of_getElem? (i := 700) (by decide +kernel), List.mem_of_getElem? (i := 701) (by decide +kernel)⟩
theorem lw_p17 : lw_okq (⟨"SeenNumbers", "houseTells", "(LSeenNumbers$House;)I"⟩, 8) := ⟨⟨by decide +kernel, by decide +kernel⟩, List.mem_of_getElem? (i := 15) (by decide +kernel), List.mem_of_getElem? (i := 704) (by decide +kernel), List.mem_of_getElem? (i := 705) (by decide +kernel)⟩
theorem lw_p18 : lw_okq (⟨"SeenNumbersModel", "refused", "(I)I"⟩, 41) := ⟨⟨by decide +kernel, by decide +kernel⟩, List.mem_of_getElem? (i := 729) (by decide +kernel), List.mem_of_getElem? (i := 871) (by decide +kernel), List.mem_of_getElem? (i := 872) (by decide +kernel)⟩
theorem lw_p19 : lw_okq (⟨"SeenNumbersModel", "failed", "(I)I"⟩, 41) := ⟨⟨by decide +kernel, by decide +kernel⟩, List.mem_of_getElem? (i := 729) (by decide +kernel), List.mem_of_getElem? (i := 876) (by decide +kernel), List.mem_of_getElem? (i := 877) (by decide +kernel)⟩
theorem lw_p20 : lw_okq (⟨"SeenNumbersModel", "readsLand", "(II)Z"⟩, 41) := ⟨⟨by decide +kernel, by decide +kernel⟩, List.mem_of_getElem? (i := 729) (by decide +kernel), List.mem_of_getElem? (i := 883) (by decide +kernel), List.mem_of_getElem? (i := 884) (by decide +kernel)⟩
theorem lw_p21 : lw_okq (⟨"SeenNumbersModel", "codeAt", "(II)I"⟩, 41) := ⟨⟨by decide +kernel, by decide +kernel⟩, List.mem_of_getElem? (i := 729) (by decide +kernel), List.mem_of_getElem? (i := 887) (by decide +kernel), List.mem_of_getElem? (i := 888) (by decide +kernel)⟩
theorem lw_p22 : lw_okq (⟨"SeenNumbersModel", "figure", "(IIII)I"⟩, 41) := ⟨⟨by decide +kernel, by decide +kernel⟩, List.mem_of_getElem? (i := 729) (by decide +kernel), List.mem_of_getElem? (i := 891) (by decide +kernel), List.mem_of_getElem? (i := 892) (by decide +kernel)⟩
theorem lw_p23 : lw_okq (⟨"SeenNumbersModel", "readsCell", "(III)Z"⟩, 41) := ⟨⟨by decide +kernel, by decide +kernel⟩, List.mem_of_getElem? (i := 729) (by decide +kernel), List.mem_of_getElem? (i := 895) (by decide +kernel), List.mem_of_getElem? (i := 896) (by decide +kernel)⟩
theorem lw_p24 : lw_okq (⟨"SeenNumbersModel", "cells", "()I"⟩, 41) := ⟨⟨by decide +kernel, by decide +kernel⟩, List.mem_of_getElem? (i := 729) (by decide +kernel), List.mem_of_getElem? (i := 899) (by decide +kernel), List.mem_of_getElem? (i := 900) (by decide +kernel)⟩
theorem lw_p25 : lw_okq (⟨"SeenNumbersModel", "noCell", "(I)Z"⟩, 41) := ⟨⟨by decide +kernel, by decide +kernel⟩, List.mem_of_getElem? (i := 729) (by decide +kernel), List.mem_of_getElem? (i := 907) (by decide +kernel), List.mem_of_getElem? (i := 908) (by decide +kernel)⟩
theorem lw_p26 : lw_okq (⟨"SeenNumbersModel", "topOf", "(I)I"⟩, 41) := ⟨⟨by decide +kernel, by decide +kernel⟩, List.mem_of_getElem? (i := 729) (by decide +kernel), List.mem_of_getElem? (i := 911) (by decide +kernel), List.mem_of_getElem? (i := 912) (by decide +kernel)⟩
theorem lw_p27 : lw_okq (⟨"SeenNumbersModel", "houseTall", "(I)I"⟩, 41) := ⟨⟨by decide +kernel, by decide +kernel⟩, List.mem_of_getElem? (i := 729) (by decide +kernel), List.mem_of_getElem? (i := 915) (by decide +kernel), List.mem_of_getElem? (i := 916) (by decide +kernel)⟩
theorem lw_p28 : lw_okq (⟨"SeenNumbersModel", "treeNow", "(I)I"⟩, 41) := ⟨⟨by decide +kernel, by decide +kernel⟩, List.mem_of_getElem? (i := 729) (by decide +kernel), List.mem_of_getElem? (i := 919) (by decide +kernel), List.mem_of_getElem? (i := 920) (by decide +kernel)⟩
theorem lw_p29 : lw_okq (⟨"SeenNumbersModel", "noHouse", "(I)Z"⟩, 41) := ⟨⟨by decide +kernel, by decide +kernel⟩, List.mem_of_getElem? (i := 729) (by decide +kernel), List.mem_of_getElem? (i := 927) (by decide +kernel), List.mem_of_getElem? (i := 928) (by decide +kernel)⟩
theorem lw_p30 : lw_okq (⟨"SeenNumbersModel", "noTree", "(I)Z"⟩, 41) := ⟨⟨by decide +kernel, by decide +kernel⟩, List.mem_of_getElem? (i := 729) (by decide +kernel), List.mem_of_getElem? (i := 935) (by decide +kernel), List.mem_of_getElem? (i := 936) (by decide +kernel)⟩
theorem lw_p31 : lw_okq (⟨"SeenNumbersModel", "doSee", "(II)Z"⟩, 41) := ⟨⟨by decide +kernel, by decide +kernel⟩, List.mem_of_getElem? (i := 729) (by decide +kernel), List.mem_of_getElem? (i := 961) (by decide +kernel), List.mem_of_getElem? (i := 962) (by decide +kernel)⟩
def lw_privs_2 : List (MethodName × Nat) := [(⟨"SeenNumbers", "chimneyTells", "(LSeenNumbers$House;)I"⟩, 8), (⟨"SeenNumbers", "houseTells", "(LSeenNumbers$House;)I"⟩, 8), (⟨"SeenNumbersModel", "refused", "(I)I"⟩, 41), (⟨"SeenNumbersModel", "failed", "(I)I"⟩, 41), (⟨"SeenNumbersModel", "readsLand", "(II)Z"⟩, 41), (⟨"SeenNumbersModel", "codeAt", "(II)I"⟩, 41), (⟨"SeenNumbersModel", "figure", "(IIII)I"⟩, 41), (⟨"SeenNumbersModel", "readsCell", "(III)Z"⟩, 41), (⟨"SeenNumbersModel", "cells", "()I"⟩, 41), (⟨"SeenNumbersModel", "noCell", "(I)Z"⟩, 41), (⟨"SeenNumbersModel", "topOf", "(I)I"⟩, 41), (⟨"SeenNumbersModel", "houseTall", "(I)I"⟩, 41), (⟨"SeenNumbersModel", "treeNow", "(I)I"⟩, 41), (⟨"SeenNumbersModel", "noHouse", "(I)Z"⟩, 41), (⟨"SeenNumbersModel", "noTree", "(I)Z"⟩, 41), (⟨"SeenNumbersModel", "doSee", "(II)Z"⟩, 41)]
theorem lw_r2 : ∀ q ∈ lw_privs_2, lw_okq q := List.forall_mem_cons.mpr ⟨lw_p16, List.forall_mem_cons.mpr ⟨lw_p17, List.forall_mem_cons.mpr ⟨lw_p18, List.forall_mem_cons.mpr ⟨lw_p19, List.forall_mem_cons.mpr ⟨lw_p20, List.forall_mem_cons.mpr ⟨lw_p21, List.forall_mem_cons.mpr ⟨lw_p22, List.forall_mem_cons.mpr ⟨lw_p23, List.forall_mem_cons.mpr ⟨lw_p24, List.forall_mem_cons.mpr ⟨lw_p25, List.forall_mem_cons.mpr ⟨lw_p26, List.forall_mem_cons.mpr ⟨lw_p27, List.forall_mem_cons.mpr ⟨lw_p28, List.forall_mem_cons.mpr ⟨lw_p29, List.forall_mem_cons.mpr ⟨lw_p30, List.forall_mem_cons.mpr ⟨lw_p31, fun _ h => absurd h List.not_mem_nil⟩⟩⟩⟩⟩⟩⟩⟩⟩⟩⟩⟩⟩⟩⟩⟩
theorem lw_p32 : lw_okq (⟨"SeenNumbersModel", "numberOf", "(I)I"⟩, 41) := ⟨⟨by decide +kernel, by decide +kernel⟩, List.mem_of_getElem? (i := 729) (by decide +kernel), List.mem_of_getElem? (i := 975) (by decide +kernel), List.mem_of_getElem? (i := 976) (by decide +kernel)⟩
theorem lw_p33 : lw_okq (⟨"SeenNumbersModel", "havingNow", "(I)I"⟩, 41) := ⟨⟨by decide +kernel, by decide +kernel⟩, List.mem_of_getElem? (i := 729) (by decide +kernel), List.mem_of_getElem? (i := 987) (by decide +kernel), List.mem_of_getElem? (i := 988) (by decide +kernel)⟩
theorem lw_p34 : lw_okq (⟨"SeenNumbersModel", "felledNow", "()I"⟩, 41) := ⟨⟨by decide +kernel, by decide +kernel⟩, List.mem_of_getElem? (i := 729) (by decide +kernel), List.mem_of_getElem? (i := 1025) (by decide +kernel), List.mem_of_getElem? (i := 1026) (by decide +kernel)⟩
theorem lw_p35 : lw_okq (⟨"SeenNumbersModel", "fellAll", "(IZ)V"⟩, 41) := ⟨⟨by decide +kernel, by decide +kernel⟩, List.mem_of_getElem? (i := 729) (by decide +kernel), List.mem_of_getElem? (i := 1029) (by decide +kernel), List.mem_of_getElem? (i := 1030) (by decide +kernel)⟩
theorem lw_p36 : lw_okq (⟨"SeenNumbersModel", "triedOn", "(II)I"⟩, 41) := ⟨⟨by decide +kernel, by decide +kernel⟩, List.mem_of_getElem? (i := 729) (by decide +kernel), List.mem_of_getElem? (i := 1037) (by decide +kernel), List.mem_of_getElem? (i := 1038) (by decide +kernel)⟩
theorem lw_p37 : lw_okq (⟨"SeenNumbersModel", "areSo", "()Z"⟩, 41) := ⟨⟨by decide +kernel, by decide +kernel⟩, List.mem_of_getElem? (i := 729) (by decide +kernel), List.mem_of_getElem? (i := 1062) (by decide +kernel), List.mem_of_getElem? (i := 1063) (by decide +kernel)⟩
theorem lw_p38 : lw_okq (⟨"SeenNumbersModel", "noCell", "(II)I"⟩, 41) := ⟨⟨by decide +kernel, by decide +kernel⟩, List.mem_of_getElem? (i := 729) (by decide +kernel), List.mem_of_getElem? (i := 1082) (by decide +kernel), List.mem_of_getElem? (i := 1083) (by decide +kernel)⟩
theorem lw_p39 : lw_okq (⟨"SeenNumbersModel", "failedLong", "(I)J"⟩, 41) := ⟨⟨by decide +kernel, by decide +kernel⟩, List.mem_of_getElem? (i := 729) (by decide +kernel), List.mem_of_getElem? (i := 1090) (by decide +kernel), List.mem_of_getElem? (i := 1091) (by decide +kernel)⟩
theorem lw_p40 : lw_okq (⟨"SeenNumbersModel", "traced", "(I)V"⟩, 41) := ⟨⟨by decide +kernel, by decide +kernel⟩, List.mem_of_getElem? (i := 729) (by decide +kernel), List.mem_of_getElem? (i := 1102) (by decide +kernel), List.mem_of_getElem? (i := 1103) (by decide +kernel)⟩
def lw_privs_3 : List (MethodName × Nat) := [(⟨"SeenNumbersModel", "numberOf", "(I)I"⟩, 41), (⟨"SeenNumbersModel", "havingNow", "(I)I"⟩, 41), (⟨"SeenNumbersModel", "felledNow", "()I"⟩, 41), (⟨"SeenNumbersModel", "fellAll", "(IZ)V"⟩, 41), (⟨"SeenNumbersModel", "triedOn", "(II)I"⟩, 41), (⟨"SeenNumbersModel", "areSo", "()Z"⟩, 41), (⟨"SeenNumbersModel", "noCell", "(II)I"⟩, 41), (⟨"SeenNumbersModel", "failedLong", "(I)J"⟩, 41), (⟨"SeenNumbersModel", "traced", "(I)V"⟩, 41)]
theorem lw_r3 : ∀ q ∈ lw_privs_3, lw_okq q := List.forall_mem_cons.mpr ⟨lw_p32, List.forall_mem_cons.mpr ⟨lw_p33, List.forall_mem_cons.mpr ⟨lw_p34, List.forall_mem_cons.mpr ⟨lw_p35, List.forall_mem_cons.mpr ⟨lw_p36, List.forall_mem_cons.mpr ⟨lw_p37, List.forall_mem_cons.mpr ⟨lw_p38, List.forall_mem_cons.mpr ⟨lw_p39, List.forall_mem_cons.mpr ⟨lw_p40, fun _ h => absurd h List.not_mem_nil⟩⟩⟩⟩⟩⟩⟩⟩⟩
def lw_privs : List (MethodName × Nat) := lw_privs_1 ++ (lw_privs_2 ++ (lw_privs_3))
def lw_tbl : List Cond := k2_sels lw_privs ++ tables_1
theorem lw_privs_ok : ∀ q ∈ lw_privs, lw_okq q := by
  show ∀ q ∈ lw_privs_1 ++ (lw_privs_2 ++ (lw_privs_3)), lw_okq q
  exact List.forall_mem_append.mpr ⟨lw_r1, List.forall_mem_append.mpr ⟨lw_r2, lw_r3⟩⟩
-- ===== end of PART A; then your names; then what follows =====
end
section
/-! ===== BEGIN words of one list among another's, by their places ===== -/
theorem goodIn_r {big : List Cond} (ws : List Cond) (ps : List Nat) (hp : ws = ps.filterMap (fun i => big[i]?)) (h : ws.all goodWord = true) : GoodIn big ws := by
  intro w hw
  have h1 := List.all_eq_true.mp h w hw
  rw [hp] at hw
  obtain ⟨i, -, hi⟩ := List.mem_filterMap.mp hw
  have hm : w ∈ big := by first | exact List.mem_of_getElem? hi | exact List.getElem?_mem hi
  exact ⟨hm, good_of_word h1⟩
theorem goodIn_app {big a b : List Cond} (ha : GoodIn big a) (hb : GoodIn big b) : GoodIn big (a ++ b) := fun w h => (List.mem_append.mp h).elim (ha w) (hb w)
theorem goodIn_ca {big a b : List Cond} {c : Cond} (ha : GoodIn big (c :: a)) (hb : GoodIn big b) : GoodIn big (c :: (a ++ b)) := fun w h => (List.mem_cons.mp h).elim (fun e => ha w (List.mem_cons.mpr (Or.inl e))) (fun h => (List.mem_append.mp h).elim (fun h => ha w (List.mem_cons.mpr (Or.inr h))) (hb w))
theorem goodIn_sub {big ws : List Cond} (hm : ∀ w ∈ ws, w ∈ big) (h : ws.all goodWord = true) : GoodIn big ws := fun w hw => ⟨hm w hw, good_of_word (List.all_eq_true.mp h w hw)⟩
/-! ===== END ===== -/

/-! ===== BEGIN printed: names, fields, word lists, decode rows ===== -/
def RX0 : String := "SeenNumbers$Finder"
def TX0 : u_T := fun k => match k with
  | 0 => ("SeenNumbers$Finder", "land", "LSeenNumbers$Land;", true)
  | _ => ("SeenNumbers$Finder", "sight", "LSeenNumbers$Sight;", true)
def tyX0 : Nat → FieldType := fun k => match k with
  | 0 => .object "SeenNumbers$Land"
  | _ => .object "SeenNumbers$Sight"
abbrev wsX00 : List Cond := u_ws RX0 TX0 2
theorem nmX0 : ∀ a, a < 2 → ∀ b, b < 2 → a ≠ b → (TX0 a).2.1 ≠ (TX0 b).2.1 := by decide +kernel
theorem tyX0_ok : ∀ k, k < 2 → parseFieldDescriptor (TX0 k).2.2.1 = some (tyX0 k) := by decide +kernel
abbrev cX0_init : ByteArray := prog_2_method_1_code
def yX0_init : MethodName := ⟨RX0, "<init>", "(LSeenNumbers$Land;LSeenNumbers$Sight;)V"⟩
abbrev cX0_lowestWall : ByteArray := prog_2_method_2_code
def yX0_lowestWall : MethodName := ⟨RX0, "lowestWall", "(II)I"⟩
abbrev cX0_leastFloors : ByteArray := prog_2_method_3_code
def yX0_leastFloors : MethodName := ⟨RX0, "leastFloors", "(II)I"⟩
abbrev cX0_fewestFelled : ByteArray := prog_2_method_4_code
def yX0_fewestFelled : MethodName := ⟨RX0, "fewestFelled", "(II)I"⟩
abbrev cX0_numberFelling : ByteArray := prog_2_method_5_code
def yX0_numberFelling : MethodName := ⟨RX0, "numberFelling", "(II)I"⟩
abbrev cX0_numberOfNew : ByteArray := prog_2_method_6_code
def yX0_numberOfNew : MethodName := ⟨RX0, "numberOfNew", "(II)I"⟩
abbrev cX0_changedByNew : ByteArray := prog_2_method_7_code
def yX0_changedByNew : MethodName := ⟨RX0, "changedByNew", "(II)I"⟩
abbrev cX0_cellsForNew : ByteArray := prog_2_method_8_code
def yX0_cellsForNew : MethodName := ⟨RX0, "cellsForNew", "(II)J"⟩
abbrev cX0_yearOfChange : ByteArray := prog_2_method_9_code
def yX0_yearOfChange : MethodName := ⟨RX0, "yearOfChange", "(I)I"⟩
def RX1 : String := "SeenNumbers$House"
def TX1 : u_T := fun k => match k with
  | 0 => ("SeenNumbers$House", "kind", "I", false)
  | 1 => ("SeenNumbers$House", "place", "I", false)
  | 2 => ("SeenNumbers$House", "tallAtFirst", "I", false)
  | _ => ("SeenNumbers$House", "floorsOn", "I", false)
def tyX1 : Nat → FieldType := fun k => match k with
  | 0 => .int
  | 1 => .int
  | 2 => .int
  | _ => .int
abbrev wsX10 : List Cond := u_ws RX1 TX1 4
theorem nmX1 : ∀ a, a < 4 → ∀ b, b < 4 → a ≠ b → (TX1 a).2.1 ≠ (TX1 b).2.1 := by decide +kernel
theorem tyX1_ok : ∀ k, k < 4 → parseFieldDescriptor (TX1 k).2.2.1 = some (tyX1 k) := by decide +kernel
abbrev cX1_init : ByteArray := prog_3_method_1_code
def yX1_init : MethodName := ⟨RX1, "<init>", "()V"⟩
abbrev cX1_isA : ByteArray := prog_3_method_2_code
def yX1_isA : MethodName := ⟨RX1, "isA", "(I)Z"⟩
abbrev cX1_tallWith : ByteArray := prog_3_method_3_code
def yX1_tallWith : MethodName := ⟨RX1, "tallWith", "(II)I"⟩
def RX2 : String := "SeenNumbers$Land"
def TX2 : u_T := fun k => match k with
  | 0 => ("SeenNumbers$Land", "ground", "[I", true)
  | 1 => ("SeenNumbers$Land", "walls", "[I", true)
  | 2 => ("SeenNumbers$Land", "thing", "[I", true)
  | 3 => ("SeenNumbers$Land", "houses", "[LSeenNumbers$House;", true)
  | 4 => ("SeenNumbers$Land", "trees", "[LSeenNumbers$Tree;", true)
  | 5 => ("SeenNumbers$Land", "wide", "I", false)
  | 6 => ("SeenNumbers$Land", "cells", "I", false)
  | 7 => ("SeenNumbers$Land", "houseCount", "I", false)
  | 8 => ("SeenNumbers$Land", "treeCount", "I", false)
  | 9 => ("SeenNumbers$Land", "felled", "I", false)
  | 10 => ("SeenNumbers$Land", "year", "I", false)
  | 11 => ("SeenNumbers$Land", "fog", "I", false)
  | _ => ("SeenNumbers$Land", "law", "I", false)
def tyX2 : Nat → FieldType := fun k => match k with
  | 0 => .array .int
  | 1 => .array .int
  | 2 => .array .int
  | 3 => .array (.object "SeenNumbers$House")
  | 4 => .array (.object "SeenNumbers$Tree")
  | 5 => .int
  | 6 => .int
  | 7 => .int
  | 8 => .int
  | 9 => .int
  | 10 => .int
  | 11 => .int
  | _ => .int
abbrev wsX20 : List Cond := u_ws RX2 TX2 13
theorem nmX2 : ∀ a, a < 13 → ∀ b, b < 13 → a ≠ b → (TX2 a).2.1 ≠ (TX2 b).2.1 := by decide +kernel
theorem tyX2_ok : ∀ k, k < 13 → parseFieldDescriptor (TX2 k).2.2.1 = some (tyX2 k) := by decide +kernel
abbrev cX2_init : ByteArray := prog_4_method_1_code
def yX2_init : MethodName := ⟨RX2, "<init>", "()V"⟩
abbrev cX2_isThere : ByteArray := prog_4_method_2_code
def yX2_isThere : MethodName := ⟨RX2, "isThere", "()Z"⟩
abbrev cX2_hasCell : ByteArray := prog_4_method_3_code
def yX2_hasCell : MethodName := ⟨RX2, "hasCell", "(I)Z"⟩
abbrev cX2_hasHouse : ByteArray := prog_4_method_4_code
def yX2_hasHouse : MethodName := ⟨RX2, "hasHouse", "(I)Z"⟩
abbrev cX2_hasTree : ByteArray := prog_4_method_5_code
def yX2_hasTree : MethodName := ⟨RX2, "hasTree", "(I)Z"⟩
abbrev cX2_hasNothing : ByteArray := prog_4_method_6_code
def yX2_hasNothing : MethodName := ⟨RX2, "hasNothing", "(I)Z"⟩
abbrev cX2_canTakeNew : ByteArray := prog_4_method_7_code
def yX2_canTakeNew : MethodName := ⟨RX2, "canTakeNew", "(I)Z"⟩
abbrev cX2_makeAnew : ByteArray := prog_4_method_8_code
def yX2_makeAnew : MethodName := ⟨RX2, "makeAnew", "(LSeenNumbers$Text;)V"⟩
abbrev cX2_settle : ByteArray := prog_4_method_9_code
def yX2_settle : MethodName := ⟨RX2, "settle", "(III)I"⟩
abbrev cX2_treeTall : ByteArray := prog_4_method_10_code
def yX2_treeTall : MethodName := ⟨RX2, "treeTall", "(III)I"⟩
abbrev cX2_topOf : ByteArray := prog_4_method_11_code
def yX2_topOf : MethodName := ⟨RX2, "topOf", "(I)I"⟩
abbrev cX2_tallOn : ByteArray := prog_4_method_12_code
def yX2_tallOn : MethodName := ⟨RX2, "tallOn", "(I)I"⟩
def RX3 : String := "SeenNumbers$Readings"
def TX3 : u_T := fun k => match k with
  | 0 => ("SeenNumbers$Readings", "count", "I", false)
  | 1 => ("SeenNumbers$Readings", "houses", "[I", true)
  | 2 => ("SeenNumbers$Readings", "years", "[I", true)
  | 3 => ("SeenNumbers$Readings", "numbers", "[I", true)
  | 4 => ("SeenNumbers$Readings", "land", "LSeenNumbers$Land;", true)
  | _ => ("SeenNumbers$Readings", "sight", "LSeenNumbers$Sight;", true)
def tyX3 : Nat → FieldType := fun k => match k with
  | 0 => .int
  | 1 => .array .int
  | 2 => .array .int
  | 3 => .array .int
  | 4 => .object "SeenNumbers$Land"
  | _ => .object "SeenNumbers$Sight"
abbrev wsX30 : List Cond := u_ws RX3 TX3 6
theorem nmX3 : ∀ a, a < 6 → ∀ b, b < 6 → a ≠ b → (TX3 a).2.1 ≠ (TX3 b).2.1 := by decide +kernel
theorem tyX3_ok : ∀ k, k < 6 → parseFieldDescriptor (TX3 k).2.2.1 = some (tyX3 k) := by decide +kernel
abbrev cX3_init : ByteArray := prog_5_method_1_code
def yX3_init : MethodName := ⟨RX3, "<init>", "(LSeenNumbers$Land;LSeenNumbers$Sight;)V"⟩
abbrev cX3_isFull : ByteArray := prog_5_method_2_code
def yX3_isFull : MethodName := ⟨RX3, "isFull", "()Z"⟩
abbrev cX3_keep : ByteArray := prog_5_method_3_code
def yX3_keep : MethodName := ⟨RX3, "keep", "(III)I"⟩
abbrev cX3_possibleFogs : ByteArray := prog_5_method_4_code
def yX3_possibleFogs : MethodName := ⟨RX3, "possibleFogs", "()I"⟩
abbrev cX3_howManyStood : ByteArray := prog_5_method_5_code
def yX3_howManyStood : MethodName := ⟨RX3, "howManyStood", "()I"⟩
abbrev cX3_firstThatStood : ByteArray := prog_5_method_6_code
def yX3_firstThatStood : MethodName := ⟨RX3, "firstThatStood", "()I"⟩
abbrev cX3_allAreSo : ByteArray := prog_5_method_7_code
def yX3_allAreSo : MethodName := ⟨RX3, "allAreSo", "(I)Z"⟩
def RX4 : String := "SeenNumbers$Sheet"
def TX4 : u_T := fun k => match k with
  | 0 => ("SeenNumbers$Sheet", "cells", "[I", true)
  | 1 => ("SeenNumbers$Sheet", "lane", "I", false)
  | _ => ("SeenNumbers$Sheet", "size", "I", false)
def tyX4 : Nat → FieldType := fun k => match k with
  | 0 => .array .int
  | 1 => .int
  | _ => .int
abbrev wsX40 : List Cond := u_ws RX4 TX4 3
theorem nmX4 : ∀ a, a < 3 → ∀ b, b < 3 → a ≠ b → (TX4 a).2.1 ≠ (TX4 b).2.1 := by decide +kernel
theorem tyX4_ok : ∀ k, k < 3 → parseFieldDescriptor (TX4 k).2.2.1 = some (tyX4 k) := by decide +kernel
abbrev cX4_init : ByteArray := prog_6_method_1_code
def yX4_init : MethodName := ⟨RX4, "<init>", "()V"⟩
abbrev cX4_hasRow : ByteArray := prog_6_method_2_code
def yX4_hasRow : MethodName := ⟨RX4, "hasRow", "()Z"⟩
abbrev cX4_makeRow : ByteArray := prog_6_method_3_code
def yX4_makeRow : MethodName := ⟨RX4, "makeRow", "(II)V"⟩
abbrev cX4_dropRow : ByteArray := prog_6_method_4_code
def yX4_dropRow : MethodName := ⟨RX4, "dropRow", "()V"⟩
abbrev cX4_faultAs : ByteArray := prog_6_method_5_code
def yX4_faultAs : MethodName := ⟨RX4, "faultAs", "(I)I"⟩
abbrev cX4_holds : ByteArray := prog_6_method_6_code
def yX4_holds : MethodName := ⟨RX4, "holds", "(I)Z"⟩
abbrev cX4_holdsRun : ByteArray := prog_6_method_7_code
def yX4_holdsRun : MethodName := ⟨RX4, "holdsRun", "(II)Z"⟩
abbrev cX4_write : ByteArray := prog_6_method_8_code
def yX4_write : MethodName := ⟨RX4, "write", "(II)V"⟩
def RX5 : String := "SeenNumbers$Sight"
def TX5 : u_T := fun k => match k with
  | 0 => ("SeenNumbers$Sight", "tops", "[I", true)
  | 1 => ("SeenNumbers$Sight", "numbers", "[I", true)
  | 2 => ("SeenNumbers$Sight", "fog", "I", false)
  | _ => ("SeenNumbers$Sight", "land", "LSeenNumbers$Land;", true)
def tyX5 : Nat → FieldType := fun k => match k with
  | 0 => .array .int
  | 1 => .array .int
  | 2 => .int
  | _ => .object "SeenNumbers$Land"
abbrev wsX50 : List Cond := u_ws RX5 TX5 4
theorem nmX5 : ∀ a, a < 4 → ∀ b, b < 4 → a ≠ b → (TX5 a).2.1 ≠ (TX5 b).2.1 := by decide +kernel
theorem tyX5_ok : ∀ k, k < 4 → parseFieldDescriptor (TX5 k).2.2.1 = some (tyX5 k) := by decide +kernel
abbrev cX5_init : ByteArray := prog_7_method_1_code
def yX5_init : MethodName := ⟨RX5, "<init>", "(LSeenNumbers$Land;)V"⟩
abbrev cX5_lookNow : ByteArray := prog_7_method_2_code
def yX5_lookNow : MethodName := ⟨RX5, "lookNow", "()V"⟩
abbrev cX5_lookWithTrees : ByteArray := prog_7_method_3_code
def yX5_lookWithTrees : MethodName := ⟨RX5, "lookWithTrees", "(II)V"⟩
abbrev cX5_isClear : ByteArray := prog_7_method_4_code
def yX5_isClear : MethodName := ⟨RX5, "isClear", "(II)Z"⟩
abbrev cX5_numberFrom : ByteArray := prog_7_method_5_code
def yX5_numberFrom : MethodName := ⟨RX5, "numberFrom", "(I)I"⟩
abbrev cX5_numberOf : ByteArray := prog_7_method_6_code
def yX5_numberOf : MethodName := ⟨RX5, "numberOf", "(I)I"⟩
abbrev cX5_numberIf : ByteArray := prog_7_method_7_code
def yX5_numberIf : MethodName := ⟨RX5, "numberIf", "(III)I"⟩
abbrev cX5_countAll : ByteArray := prog_7_method_8_code
def yX5_countAll : MethodName := ⟨RX5, "countAll", "()V"⟩
abbrev cX5_sumOfNumbers : ByteArray := prog_7_method_9_code
def yX5_sumOfNumbers : MethodName := ⟨RX5, "sumOfNumbers", "()I"⟩
abbrev cX5_housesWith : ByteArray := prog_7_method_10_code
def yX5_housesWith : MethodName := ⟨RX5, "housesWith", "(I)I"⟩
abbrev cX5_seenAmong : ByteArray := prog_7_method_11_code
def yX5_seenAmong : MethodName := ⟨RX5, "seenAmong", "(II)I"⟩
abbrev cX5_isSeenByOne : ByteArray := prog_7_method_12_code
def yX5_isSeenByOne : MethodName := ⟨RX5, "isSeenByOne", "(II)Z"⟩
def RX6 : String := "SeenNumbers$Text"
def TX6 : u_T := fun k => match k with
  | 0 => ("SeenNumbers$Text", "ground", "[I", true)
  | 1 => ("SeenNumbers$Text", "kinds", "[I", true)
  | 2 => ("SeenNumbers$Text", "tall", "[I", true)
  | 3 => ("SeenNumbers$Text", "high", "I", false)
  | 4 => ("SeenNumbers$Text", "wide", "I", false)
  | 5 => ("SeenNumbers$Text", "place", "I", false)
  | 6 => ("SeenNumbers$Text", "houses", "I", false)
  | 7 => ("SeenNumbers$Text", "trees", "I", false)
  | 8 => ("SeenNumbers$Text", "row", "LSeenNumbers$Sheet;", false)
  | 9 => ("SeenNumbers$Text", "start", "I", false)
  | _ => ("SeenNumbers$Text", "length", "I", false)
def tyX6 : Nat → FieldType := fun k => match k with
  | 0 => .array .int
  | 1 => .array .int
  | 2 => .array .int
  | 3 => .int
  | 4 => .int
  | 5 => .int
  | 6 => .int
  | 7 => .int
  | 8 => .object "SeenNumbers$Sheet"
  | 9 => .int
  | _ => .int
abbrev wsX60 : List Cond := u_ws RX6 TX6 11
theorem nmX6 : ∀ a, a < 11 → ∀ b, b < 11 → a ≠ b → (TX6 a).2.1 ≠ (TX6 b).2.1 := by decide +kernel
theorem tyX6_ok : ∀ k, k < 11 → parseFieldDescriptor (TX6 k).2.2.1 = some (tyX6 k) := by decide +kernel
abbrev cX6_init : ByteArray := prog_8_method_1_code
def yX6_init : MethodName := ⟨RX6, "<init>", "()V"⟩
abbrev cX6_isTaken : ByteArray := prog_8_method_2_code
def yX6_isTaken : MethodName := ⟨RX6, "isTaken", "(LSeenNumbers$Sheet;II)Z"⟩
abbrev cX6_takeHead : ByteArray := prog_8_method_3_code
def yX6_takeHead : MethodName := ⟨RX6, "takeHead", "()Z"⟩
abbrev cX6_takeRows : ByteArray := prog_8_method_4_code
def yX6_takeRows : MethodName := ⟨RX6, "takeRows", "()Z"⟩
abbrev cX6_takeCell : ByteArray := prog_8_method_5_code
def yX6_takeCell : MethodName := ⟨RX6, "takeCell", "(I)Z"⟩
abbrev cX6_takeLetter : ByteArray := prog_8_method_6_code
def yX6_takeLetter : MethodName := ⟨RX6, "takeLetter", "()I"⟩
abbrev cX6_takeKind : ByteArray := prog_8_method_7_code
def yX6_takeKind : MethodName := ⟨RX6, "takeKind", "()I"⟩
abbrev cX6_take : ByteArray := prog_8_method_8_code
def yX6_take : MethodName := ⟨RX6, "take", "(I)Z"⟩
abbrev cX6_takeDigit : ByteArray := prog_8_method_9_code
def yX6_takeDigit : MethodName := ⟨RX6, "takeDigit", "(II)I"⟩
def RX7 : String := "SeenNumbers$Tree"
def TX7 : u_T := fun k => match k with
  | 0 => ("SeenNumbers$Tree", "place", "I", false)
  | _ => ("SeenNumbers$Tree", "tallAtFirst", "I", false)
def tyX7 : Nat → FieldType := fun k => match k with
  | 0 => .int
  | _ => .int
abbrev wsX70 : List Cond := u_ws RX7 TX7 2
theorem nmX7 : ∀ a, a < 2 → ∀ b, b < 2 → a ≠ b → (TX7 a).2.1 ≠ (TX7 b).2.1 := by decide +kernel
theorem tyX7_ok : ∀ k, k < 2 → parseFieldDescriptor (TX7 k).2.2.1 = some (tyX7 k) := by decide +kernel
abbrev cX7_init : ByteArray := prog_9_method_1_code
def yX7_init : MethodName := ⟨RX7, "<init>", "()V"⟩
def RX8 : String := "SeenNumbers"
def TX8 : u_T := fun k => match k with
  | 0 => ("SeenNumbers", "sheets", "[LSeenNumbers$Sheet;", true)
  | 1 => ("SeenNumbers", "text", "LSeenNumbers$Text;", true)
  | 2 => ("SeenNumbers", "plot", "LSeenNumbers$Land;", true)
  | 3 => ("SeenNumbers", "sight", "LSeenNumbers$Sight;", true)
  | 4 => ("SeenNumbers", "finder", "LSeenNumbers$Finder;", true)
  | 5 => ("SeenNumbers", "readings", "LSeenNumbers$Readings;", true)
  | 6 => ("SeenNumbers", "traceLeft", "I", false)
  | _ => ("SeenNumbers", "latestFault", "I", false)
def tyX8 : Nat → FieldType := fun k => match k with
  | 0 => .array (.object "SeenNumbers$Sheet")
  | 1 => .object "SeenNumbers$Text"
  | 2 => .object "SeenNumbers$Land"
  | 3 => .object "SeenNumbers$Sight"
  | 4 => .object "SeenNumbers$Finder"
  | 5 => .object "SeenNumbers$Readings"
  | 6 => .int
  | _ => .int
abbrev wsX80 : List Cond := u_ws RX8 TX8 8
theorem nmX8 : ∀ a, a < 8 → ∀ b, b < 8 → a ≠ b → (TX8 a).2.1 ≠ (TX8 b).2.1 := by decide +kernel
theorem tyX8_ok : ∀ k, k < 8 → parseFieldDescriptor (TX8 k).2.2.1 = some (tyX8 k) := by decide +kernel
abbrev cX8_init : ByteArray := prog_1_method_1_code
def yX8_init : MethodName := ⟨RX8, "<init>", "()V"⟩
abbrev cX8_land : ByteArray := prog_1_method_2_code
def yX8_land : MethodName := ⟨RX8, "land", "(IIII)I"⟩
abbrev cX8_ofCell : ByteArray := prog_1_method_3_code
def yX8_ofCell : MethodName := ⟨RX8, "ofCell", "(II)I"⟩
abbrev cX8_ofHouse : ByteArray := prog_1_method_4_code
def yX8_ofHouse : MethodName := ⟨RX8, "ofHouse", "(II)I"⟩
abbrev cX8_ofTree : ByteArray := prog_1_method_5_code
def yX8_ofTree : MethodName := ⟨RX8, "ofTree", "(II)I"⟩
abbrev cX8_times : ByteArray := prog_1_method_6_code
def yX8_times : MethodName := ⟨RX8, "times", "(III)I"⟩
abbrev cX8_wall : ByteArray := prog_1_method_7_code
def yX8_wall : MethodName := ⟨RX8, "wall", "(II)I"⟩
abbrev cX8_floors : ByteArray := prog_1_method_8_code
def yX8_floors : MethodName := ⟨RX8, "floors", "(II)I"⟩
abbrev cX8_fell : ByteArray := prog_1_method_9_code
def yX8_fell : MethodName := ⟨RX8, "fell", "(IZ)I"⟩
abbrev cX8_see : ByteArray := prog_1_method_10_code
def yX8_see : MethodName := ⟨RX8, "see", "(II)I"⟩
abbrev cX8_number : ByteArray := prog_1_method_11_code
def yX8_number : MethodName := ⟨RX8, "number", "(I)I"⟩
abbrev cX8_having : ByteArray := prog_1_method_12_code
def yX8_having : MethodName := ⟨RX8, "having", "(I)I"⟩
abbrev cX8_alone : ByteArray := prog_1_method_13_code
def yX8_alone : MethodName := ⟨RX8, "alone", "()I"⟩
abbrev cX8_letter : ByteArray := prog_1_method_14_code
def yX8_letter : MethodName := ⟨RX8, "letter", "(II)I"⟩
abbrev cX8_mean : ByteArray := prog_1_method_15_code
def yX8_mean : MethodName := ⟨RX8, "mean", "(I)J"⟩
abbrev cX8_walled : ByteArray := prog_1_method_16_code
def yX8_walled : MethodName := ⟨RX8, "walled", "(II)I"⟩
abbrev cX8_raised : ByteArray := prog_1_method_17_code
def yX8_raised : MethodName := ⟨RX8, "raised", "(II)I"⟩
abbrev cX8_felling : ByteArray := prog_1_method_18_code
def yX8_felling : MethodName := ⟨RX8, "felling", "(II)I"⟩
abbrev cX8_fresh : ByteArray := prog_1_method_19_code
def yX8_fresh : MethodName := ⟨RX8, "fresh", "(III)I"⟩
abbrev cX8_free : ByteArray := prog_1_method_20_code
def yX8_free : MethodName := ⟨RX8, "free", "(II)J"⟩
abbrev cX8_change : ByteArray := prog_1_method_21_code
def yX8_change : MethodName := ⟨RX8, "change", "(I)I"⟩
abbrev cX8_reading : ByteArray := prog_1_method_22_code
def yX8_reading : MethodName := ⟨RX8, "reading", "(III)I"⟩
abbrev cX8_back : ByteArray := prog_1_method_23_code
def yX8_back : MethodName := ⟨RX8, "back", "(I)I"⟩
abbrev cX8_fogs : ByteArray := prog_1_method_24_code
def yX8_fogs : MethodName := ⟨RX8, "fogs", "()I"⟩
abbrev cX8_stood : ByteArray := prog_1_method_25_code
def yX8_stood : MethodName := ⟨RX8, "stood", "(I)I"⟩
abbrev cX8_sheet : ByteArray := prog_1_method_26_code
def yX8_sheet : MethodName := ⟨RX8, "sheet", "(III)I"⟩
abbrev cX8_lose : ByteArray := prog_1_method_27_code
def yX8_lose : MethodName := ⟨RX8, "lose", "(I)I"⟩
abbrev cX8_put : ByteArray := prog_1_method_28_code
def yX8_put : MethodName := ⟨RX8, "put", "(III)I"⟩
abbrev cX8_cell : ByteArray := prog_1_method_29_code
def yX8_cell : MethodName := ⟨RX8, "cell", "(III)J"⟩
abbrev cX8_copy : ByteArray := prog_1_method_30_code
def yX8_copy : MethodName := ⟨RX8, "copy", "(IIIII)I"⟩
abbrev cX8_tell : ByteArray := prog_1_method_31_code
def yX8_tell : MethodName := ⟨RX8, "tell", "(I)I"⟩
abbrev cX8_rent : ByteArray := prog_1_method_32_code
def yX8_rent : MethodName := ⟨RX8, "rent", "(I)I"⟩
abbrev cX8_as : ByteArray := prog_1_method_33_code
def yX8_as : MethodName := ⟨RX8, "as", "(II)I"⟩
abbrev cX8_trace : ByteArray := prog_1_method_34_code
def yX8_trace : MethodName := ⟨RX8, "trace", "()I"⟩
abbrev cX8_fault : ByteArray := prog_1_method_35_code
def yX8_fault : MethodName := ⟨RX8, "fault", "()I"⟩
abbrev cX8_many : ByteArray := prog_1_method_36_code
def yX8_many : MethodName := ⟨RX8, "many", "(I)I"⟩
abbrev cX8_isWithin : ByteArray := prog_1_method_37_code
def yX8_isWithin : MethodName := ⟨RX8, "isWithin", "(III)Z"⟩
abbrev cX8_isSheet : ByteArray := prog_1_method_38_code
def yX8_isSheet : MethodName := ⟨RX8, "isSheet", "(I)Z"⟩
abbrev cX8_isIn : ByteArray := prog_1_method_39_code
def yX8_isIn : MethodName := ⟨RX8, "isIn", "(II)Z"⟩
abbrev cX8_greatestCommon : ByteArray := prog_1_method_40_code
def yX8_greatestCommon : MethodName := ⟨RX8, "greatestCommon", "(II)I"⟩
abbrev cX8_answerFault : ByteArray := prog_1_method_41_code
def yX8_answerFault : MethodName := ⟨RX8, "answerFault", "(I)I"⟩
abbrev cX8_refusedFor : ByteArray := prog_1_method_42_code
def yX8_refusedFor : MethodName := ⟨RX8, "refusedFor", "(II)I"⟩
abbrev cX8_leaveTrace : ByteArray := prog_1_method_43_code
def yX8_leaveTrace : MethodName := ⟨RX8, "leaveTrace", "(I)V"⟩
abbrev cX8_houseTells : ByteArray := prog_1_method_44_code
def yX8_houseTells : MethodName := ⟨RX8, "houseTells", "(LSeenNumbers$House;)I"⟩
abbrev cX8_chimneyTells : ByteArray := prog_1_method_45_code
def yX8_chimneyTells : MethodName := ⟨RX8, "chimneyTells", "(LSeenNumbers$House;)I"⟩
abbrev cX8_towerTells : ByteArray := prog_1_method_46_code
def yX8_towerTells : MethodName := ⟨RX8, "towerTells", "(LSeenNumbers$House;)I"⟩
def RX9 : String := "SeenNumbersModel"
def TX9 : u_T := fun k => match k with
  | 0 => ("SeenNumbersModel", "fault", "I", false)
  | 1 => ("SeenNumbersModel", "high", "I", false)
  | 2 => ("SeenNumbersModel", "wide", "I", false)
  | 3 => ("SeenNumbersModel", "groundOf", "[I", true)
  | 4 => ("SeenNumbersModel", "has", "[I", true)
  | 5 => ("SeenNumbersModel", "wallOf", "[I", true)
  | 6 => ("SeenNumbersModel", "houses", "I", false)
  | 7 => ("SeenNumbersModel", "kindOf", "[I", true)
  | 8 => ("SeenNumbersModel", "houseAt", "[I", true)
  | 9 => ("SeenNumbersModel", "tallOf", "[I", true)
  | 10 => ("SeenNumbersModel", "floorsOf", "[I", true)
  | 11 => ("SeenNumbersModel", "trees", "I", false)
  | 12 => ("SeenNumbersModel", "treeAt", "[I", true)
  | 13 => ("SeenNumbersModel", "treeTall", "[I", true)
  | 14 => ("SeenNumbersModel", "isFelled", "[Z", true)
  | 15 => ("SeenNumbersModel", "yearNow", "I", false)
  | 16 => ("SeenNumbersModel", "fogNow", "I", false)
  | 17 => ("SeenNumbersModel", "lawNow", "I", false)
  | 18 => ("SeenNumbersModel", "readAt", "I", false)
  | 19 => ("SeenNumbersModel", "readHigh", "I", false)
  | 20 => ("SeenNumbersModel", "readWide", "I", false)
  | 21 => ("SeenNumbersModel", "readHouses", "I", false)
  | 22 => ("SeenNumbersModel", "readTrees", "I", false)
  | 23 => ("SeenNumbersModel", "readGround", "[I", true)
  | 24 => ("SeenNumbersModel", "readHas", "[I", true)
  | 25 => ("SeenNumbersModel", "readKind", "[I", true)
  | 26 => ("SeenNumbersModel", "readHouse", "[I", true)
  | 27 => ("SeenNumbersModel", "readTall", "[I", true)
  | 28 => ("SeenNumbersModel", "readTree", "[I", true)
  | 29 => ("SeenNumbersModel", "readGrown", "[I", true)
  | 30 => ("SeenNumbersModel", "numberWas", "[I", true)
  | 31 => ("SeenNumbersModel", "othersThen", "I", false)
  | 32 => ("SeenNumbersModel", "readings", "I", false)
  | 33 => ("SeenNumbersModel", "readingOf", "[I", true)
  | 34 => ("SeenNumbersModel", "readingIn", "[I", true)
  | 35 => ("SeenNumbersModel", "readingTo", "[I", true)
  | 36 => ("SeenNumbersModel", "sheetSize", "[I", true)
  | 37 => ("SeenNumbersModel", "sheetLane", "[I", true)
  | 38 => ("SeenNumbersModel", "sheet", "[I", true)
  | 39 => ("SeenNumbersModel", "hands", "[I", true)
  | _ => ("SeenNumbersModel", "traceNow", "I", false)
def tyX9 : Nat → FieldType := fun k => match k with
  | 0 => .int
  | 1 => .int
  | 2 => .int
  | 3 => .array .int
  | 4 => .array .int
  | 5 => .array .int
  | 6 => .int
  | 7 => .array .int
  | 8 => .array .int
  | 9 => .array .int
  | 10 => .array .int
  | 11 => .int
  | 12 => .array .int
  | 13 => .array .int
  | 14 => .array .boolean
  | 15 => .int
  | 16 => .int
  | 17 => .int
  | 18 => .int
  | 19 => .int
  | 20 => .int
  | 21 => .int
  | 22 => .int
  | 23 => .array .int
  | 24 => .array .int
  | 25 => .array .int
  | 26 => .array .int
  | 27 => .array .int
  | 28 => .array .int
  | 29 => .array .int
  | 30 => .array .int
  | 31 => .int
  | 32 => .int
  | 33 => .array .int
  | 34 => .array .int
  | 35 => .array .int
  | 36 => .array .int
  | 37 => .array .int
  | 38 => .array .int
  | 39 => .array .int
  | _ => .int
abbrev wsX90 : List Cond := u_ws RX9 TX9 41
theorem nmX9 : ∀ a, a < 41 → ∀ b, b < 41 → a ≠ b → (TX9 a).2.1 ≠ (TX9 b).2.1 := by decide +kernel
theorem tyX9_ok : ∀ k, k < 41 → parseFieldDescriptor (TX9 k).2.2.1 = some (tyX9 k) := by decide +kernel
abbrev cX9_init : ByteArray := prog_11_method_1_code
def yX9_init : MethodName := ⟨RX9, "<init>", "()V"⟩
abbrev cX9_in : ByteArray := prog_11_method_2_code
def yX9_in : MethodName := ⟨RX9, "in", "(JJJ)Z"⟩
abbrev cX9_lost : ByteArray := prog_11_method_3_code
def yX9_lost : MethodName := ⟨RX9, "lost", "()J"⟩
abbrev cX9_far : ByteArray := prog_11_method_4_code
def yX9_far : MethodName := ⟨RX9, "far", "(II)I"⟩
abbrev cX9_common : ByteArray := prog_11_method_5_code
def yX9_common : MethodName := ⟨RX9, "common", "(II)I"⟩
abbrev cX9_isIn : ByteArray := prog_11_method_6_code
def yX9_isIn : MethodName := ⟨RX9, "isIn", "(II)Z"⟩
abbrev cX9_bits : ByteArray := prog_11_method_7_code
def yX9_bits : MethodName := ⟨RX9, "bits", "(I)I"⟩
abbrev cX9_refused : ByteArray := prog_11_method_8_code
def yX9_refused : MethodName := ⟨RX9, "refused", "(I)I"⟩
abbrev cX9_failed : ByteArray := prog_11_method_9_code
def yX9_failed : MethodName := ⟨RX9, "failed", "(I)I"⟩
abbrev cX9_failedLong : ByteArray := prog_11_method_10_code
def yX9_failedLong : MethodName := ⟨RX9, "failedLong", "(I)J"⟩
abbrev cX9_cells : ByteArray := prog_11_method_11_code
def yX9_cells : MethodName := ⟨RX9, "cells", "()I"⟩
abbrev cX9_noCell : ByteArray := prog_11_method_12_code
def yX9_noCell : MethodName := ⟨RX9, "noCell", "(I)Z"⟩
abbrev cX9_noHouse : ByteArray := prog_11_method_13_code
def yX9_noHouse : MethodName := ⟨RX9, "noHouse", "(I)Z"⟩
abbrev cX9_noTree : ByteArray := prog_11_method_14_code
def yX9_noTree : MethodName := ⟨RX9, "noTree", "(I)Z"⟩
abbrev cX9_codeAt : ByteArray := prog_11_method_15_code
def yX9_codeAt : MethodName := ⟨RX9, "codeAt", "(II)I"⟩
abbrev cX9_figure : ByteArray := prog_11_method_16_code
def yX9_figure : MethodName := ⟨RX9, "figure", "(IIII)I"⟩
abbrev cX9_readsCell : ByteArray := prog_11_method_17_code
def yX9_readsCell : MethodName := ⟨RX9, "readsCell", "(III)Z"⟩
abbrev cX9_readsLand : ByteArray := prog_11_method_18_code
def yX9_readsLand : MethodName := ⟨RX9, "readsLand", "(II)Z"⟩
abbrev cX9_land : ByteArray := prog_11_method_19_code
def yX9_land : MethodName := ⟨RX9, "land", "(IIII)I"⟩
abbrev cX9_houseTall : ByteArray := prog_11_method_20_code
def yX9_houseTall : MethodName := ⟨RX9, "houseTall", "(I)I"⟩
abbrev cX9_treeNow : ByteArray := prog_11_method_21_code
def yX9_treeNow : MethodName := ⟨RX9, "treeNow", "(I)I"⟩
abbrev cX9_topOf : ByteArray := prog_11_method_22_code
def yX9_topOf : MethodName := ⟨RX9, "topOf", "(I)I"⟩
abbrev cX9_ofCell : ByteArray := prog_11_method_23_code
def yX9_ofCell : MethodName := ⟨RX9, "ofCell", "(II)I"⟩
abbrev cX9_ofHouse : ByteArray := prog_11_method_24_code
def yX9_ofHouse : MethodName := ⟨RX9, "ofHouse", "(II)I"⟩
abbrev cX9_ofTree : ByteArray := prog_11_method_25_code
def yX9_ofTree : MethodName := ⟨RX9, "ofTree", "(II)I"⟩
abbrev cX9_times : ByteArray := prog_11_method_26_code
def yX9_times : MethodName := ⟨RX9, "times", "(III)I"⟩
abbrev cX9_wall : ByteArray := prog_11_method_27_code
def yX9_wall : MethodName := ⟨RX9, "wall", "(II)I"⟩
abbrev cX9_floors : ByteArray := prog_11_method_28_code
def yX9_floors : MethodName := ⟨RX9, "floors", "(II)I"⟩
abbrev cX9_fell : ByteArray := prog_11_method_29_code
def yX9_fell : MethodName := ⟨RX9, "fell", "(IZ)I"⟩
abbrev cX9_doSee : ByteArray := prog_11_method_30_code
def yX9_doSee : MethodName := ⟨RX9, "doSee", "(II)Z"⟩
abbrev cX9_see : ByteArray := prog_11_method_31_code
def yX9_see : MethodName := ⟨RX9, "see", "(II)I"⟩
abbrev cX9_numberOf : ByteArray := prog_11_method_32_code
def yX9_numberOf : MethodName := ⟨RX9, "numberOf", "(I)I"⟩
abbrev cX9_number : ByteArray := prog_11_method_33_code
def yX9_number : MethodName := ⟨RX9, "number", "(I)I"⟩
abbrev cX9_isNumber : ByteArray := prog_11_method_34_code
def yX9_isNumber : MethodName := ⟨RX9, "isNumber", "(I)Z"⟩
abbrev cX9_havingNow : ByteArray := prog_11_method_35_code
def yX9_havingNow : MethodName := ⟨RX9, "havingNow", "(I)I"⟩
abbrev cX9_having : ByteArray := prog_11_method_36_code
def yX9_having : MethodName := ⟨RX9, "having", "(I)I"⟩
abbrev cX9_alone : ByteArray := prog_11_method_37_code
def yX9_alone : MethodName := ⟨RX9, "alone", "()I"⟩
abbrev cX9_letter : ByteArray := prog_11_method_38_code
def yX9_letter : MethodName := ⟨RX9, "letter", "(II)I"⟩
abbrev cX9_mean : ByteArray := prog_11_method_39_code
def yX9_mean : MethodName := ⟨RX9, "mean", "(I)J"⟩
abbrev cX9_walled : ByteArray := prog_11_method_40_code
def yX9_walled : MethodName := ⟨RX9, "walled", "(II)I"⟩
abbrev cX9_raised : ByteArray := prog_11_method_41_code
def yX9_raised : MethodName := ⟨RX9, "raised", "(II)I"⟩
abbrev cX9_fellAll : ByteArray := prog_11_method_42_code
def yX9_fellAll : MethodName := ⟨RX9, "fellAll", "(IZ)V"⟩
abbrev cX9_felledNow : ByteArray := prog_11_method_43_code
def yX9_felledNow : MethodName := ⟨RX9, "felledNow", "()I"⟩
abbrev cX9_felling : ByteArray := prog_11_method_44_code
def yX9_felling : MethodName := ⟨RX9, "felling", "(II)I"⟩
abbrev cX9_triedOn : ByteArray := prog_11_method_45_code
def yX9_triedOn : MethodName := ⟨RX9, "triedOn", "(II)I"⟩
abbrev cX9_fresh : ByteArray := prog_11_method_46_code
def yX9_fresh : MethodName := ⟨RX9, "fresh", "(III)I"⟩
abbrev cX9_free : ByteArray := prog_11_method_47_code
def yX9_free : MethodName := ⟨RX9, "free", "(II)J"⟩
abbrev cX9_change : ByteArray := prog_11_method_48_code
def yX9_change : MethodName := ⟨RX9, "change", "(I)I"⟩
abbrev cX9_reading : ByteArray := prog_11_method_49_code
def yX9_reading : MethodName := ⟨RX9, "reading", "(III)I"⟩
abbrev cX9_back : ByteArray := prog_11_method_50_code
def yX9_back : MethodName := ⟨RX9, "back", "(I)I"⟩
abbrev cX9_areSo : ByteArray := prog_11_method_51_code
def yX9_areSo : MethodName := ⟨RX9, "areSo", "()Z"⟩
abbrev cX9_fogs : ByteArray := prog_11_method_52_code
def yX9_fogs : MethodName := ⟨RX9, "fogs", "()I"⟩
abbrev cX9_stood : ByteArray := prog_11_method_53_code
def yX9_stood : MethodName := ⟨RX9, "stood", "(I)I"⟩
abbrev cX9_noSheet : ByteArray := prog_11_method_54_code
def yX9_noSheet : MethodName := ⟨RX9, "noSheet", "(I)Z"⟩
abbrev cX9_sheet : ByteArray := prog_11_method_55_code
def yX9_sheet : MethodName := ⟨RX9, "sheet", "(III)I"⟩
abbrev cX9_lose : ByteArray := prog_11_method_56_code
def yX9_lose : MethodName := ⟨RX9, "lose", "(I)I"⟩
abbrev cX9_noCell_ : ByteArray := prog_11_method_57_code
def yX9_noCell_ : MethodName := ⟨RX9, "noCell", "(II)I"⟩
abbrev cX9_put : ByteArray := prog_11_method_58_code
def yX9_put : MethodName := ⟨RX9, "put", "(III)I"⟩
abbrev cX9_cell : ByteArray := prog_11_method_59_code
def yX9_cell : MethodName := ⟨RX9, "cell", "(III)J"⟩
abbrev cX9_isBeyond : ByteArray := prog_11_method_60_code
def yX9_isBeyond : MethodName := ⟨RX9, "isBeyond", "(IJI)Z"⟩
abbrev cX9_copy : ByteArray := prog_11_method_61_code
def yX9_copy : MethodName := ⟨RX9, "copy", "(IIIII)I"⟩
abbrev cX9_traced : ByteArray := prog_11_method_62_code
def yX9_traced : MethodName := ⟨RX9, "traced", "(I)V"⟩
abbrev cX9_tell : ByteArray := prog_11_method_63_code
def yX9_tell : MethodName := ⟨RX9, "tell", "(I)I"⟩
abbrev cX9_rent : ByteArray := prog_11_method_64_code
def yX9_rent : MethodName := ⟨RX9, "rent", "(I)I"⟩
abbrev cX9_as : ByteArray := prog_11_method_65_code
def yX9_as : MethodName := ⟨RX9, "as", "(II)I"⟩
abbrev cX9_trace : ByteArray := prog_11_method_66_code
def yX9_trace : MethodName := ⟨RX9, "trace", "()I"⟩
abbrev cX9_fault : ByteArray := prog_11_method_67_code
def yX9_fault : MethodName := ⟨RX9, "fault", "()I"⟩
abbrev cX9_many : ByteArray := prog_11_method_68_code
def yX9_many : MethodName := ⟨RX9, "many", "(I)I"⟩
def RJ6 : String := "java/lang/Integer"
def TJ6 : u_T := fun k => match k with
  | _ => ("", "", "", false)
def tyJ6 : Nat → FieldType := fun k => match k with
  | _ => .int
abbrev wsJ60 : List Cond := u_ws RJ6 TJ6 0
theorem nmJ6 : ∀ a, a < 0 → ∀ b, b < 0 → a ≠ b → (TJ6 a).2.1 ≠ (TJ6 b).2.1 := by decide +kernel
theorem tyJ6_ok : ∀ k, k < 0 → parseFieldDescriptor (TJ6 k).2.2.1 = some (tyJ6 k) := by decide +kernel
abbrev cJ6_bitCount_0f7a4 : ByteArray := prog_12_method_49_code
def yJ6_bitCount_0f7a4 : MethodName := ⟨RJ6, "bitCount", "(I)I"⟩
def RJ9 : String := "java/lang/Math"
def TJ9 : u_T := fun k => match k with
  | _ => ("", "", "", false)
def tyJ9 : Nat → FieldType := fun k => match k with
  | _ => .int
abbrev wsJ90 : List Cond := u_ws RJ9 TJ9 0
theorem nmJ9 : ∀ a, a < 0 → ∀ b, b < 0 → a ≠ b → (TJ9 a).2.1 ≠ (TJ9 b).2.1 := by decide +kernel
theorem tyJ9_ok : ∀ k, k < 0 → parseFieldDescriptor (TJ9 k).2.2.1 = some (tyJ9 k) := by decide +kernel
abbrev cJ9_abs_0f7a4 : ByteArray := prog_13_method_59_code
def yJ9_abs_0f7a4 : MethodName := ⟨RJ9, "abs", "(I)I"⟩
abbrev cJ9_max_7cf53 : ByteArray := prog_13_method_65_code
def yJ9_max_7cf53 : MethodName := ⟨RJ9, "max", "(II)I"⟩
def RJ10 : String := "java/lang/System"
def TJ10 : u_T := fun k => match k with
  | _ => ("", "", "", false)
def tyJ10 : Nat → FieldType := fun k => match k with
  | _ => .int
abbrev wsJ100 : List Cond := u_ws RJ10 TJ10 0
theorem nmJ10 : ∀ a, a < 0 → ∀ b, b < 0 → a ≠ b → (TJ10 a).2.1 ≠ (TJ10 b).2.1 := by decide +kernel
theorem tyJ10_ok : ∀ k, k < 0 → parseFieldDescriptor (TJ10 k).2.2.1 = some (tyJ10 k) := by decide +kernel
def RL : String := "SeenNumbersLaw"
abbrev cL_law : ByteArray := code
def yL_law : MethodName := ⟨RL, "law", "([I)Z"⟩
def wsX0_init : List Cond := .code yX0_init cX0_init 3 none :: ([.methodLink RX0 3 objectInit, .instanceMethod objectInit, .code objectInit ⟨#[0xb1]⟩ 1 none, .fieldLink RX0 9 "SeenNumbers$Finder" "land" "LSeenNumbers$Land;", .fieldLink RX0 15 "SeenNumbers$Finder" "sight" "LSeenNumbers$Sight;"] ++ wsX00)
def wsX8_isIn : List Cond := .code yX8_isIn cX8_isIn 2 (some .boolean) :: ([])
def wsX2_treeTall : List Cond := .code yX2_treeTall cX2_treeTall 4 (some .int) :: ([.fieldLink RX2 29 "SeenNumbers$Land" "trees" "[LSeenNumbers$Tree;", .fieldLink RX2 88 "SeenNumbers$Tree" "tallAtFirst" "I", .static yX8_isIn, .initialized RX8, .code yX8_isIn cX8_isIn 2 (some .boolean)] ++ wsX20 ++ wsX70)
def wsX1_isA : List Cond := .code yX1_isA cX1_isA 2 (some .boolean) :: ([.fieldLink RX1 9 "SeenNumbers$House" "kind" "I"] ++ wsX10)
def wsX1_tallWith : List Cond := .code yX1_tallWith cX1_tallWith 4 (some .int) :: ([.fieldLink RX1 15 "SeenNumbers$House" "tallAtFirst" "I", .methodLink RX1 18 yX1_isA, .instanceMethod yX1_isA, .selects RX1 yX1_isA yX1_isA, .initialized RX1, .code yX1_isA cX1_isA 2 (some .boolean), .fieldLink RX1 9 "SeenNumbers$House" "kind" "I"] ++ wsX10)
def wsX2_tallOn_r1 : List Cond := [Cond.fieldLink RX2 18 "SeenNumbers$Land" "thing" "[I", Cond.fieldLink RX2 65 "SeenNumbers$Land" "year" "I", Cond.fieldLink RX2 62 "SeenNumbers$Land" "felled" "I", Cond.fieldLink RX2 23 "SeenNumbers$Land" "houses" "[LSeenNumbers$House;", Cond.fieldLink RX2 96 "SeenNumbers$House" "floorsOn" "I", Cond.fieldLink RX2 71 "SeenNumbers$Land" "law" "I", Cond.fieldLink RX2 15 "SeenNumbers$Land" "walls" "[I", Cond.methodLink RX2 107 yX2_treeTall, Cond.instanceMethod yX2_treeTall, Cond.selects RX2 yX2_treeTall yX2_treeTall, Cond.initialized RX2, Cond.code yX2_treeTall cX2_treeTall 4 (some .int), Cond.fieldLink RX2 29 "SeenNumbers$Land" "trees" "[LSeenNumbers$Tree;", Cond.fieldLink RX2 88 "SeenNumbers$Tree" "tallAtFirst" "I", Cond.static yX8_isIn, Cond.initialized RX8, Cond.code yX8_isIn cX8_isIn 2 (some .boolean), Cond.methodLink RX2 110 yX1_tallWith, Cond.instanceMethod yX1_tallWith, Cond.selects RX1 yX1_tallWith yX1_tallWith, Cond.initialized RX1, Cond.code yX1_tallWith cX1_tallWith 4 (some .int), Cond.fieldLink RX1 15 "SeenNumbers$House" "tallAtFirst" "I", Cond.methodLink RX1 18 yX1_isA]
def wsX2_tallOn_r2 : List Cond := [Cond.instanceMethod yX1_isA, Cond.selects RX1 yX1_isA yX1_isA, Cond.code yX1_isA cX1_isA 2 (some .boolean), Cond.fieldLink RX1 9 "SeenNumbers$House" "kind" "I"]
def wsX2_tallOn : List Cond := .code yX2_tallOn cX2_tallOn 4 (some .int) :: ((wsX2_tallOn_r1 ++ wsX2_tallOn_r2) ++ wsX20 ++ wsX10 ++ wsX70)
def wsX2_topOf_r1 : List Cond := [Cond.fieldLink RX2 9 "SeenNumbers$Land" "ground" "[I", Cond.methodLink RX2 103 yX2_tallOn, Cond.instanceMethod yX2_tallOn, Cond.selects RX2 yX2_tallOn yX2_tallOn, Cond.initialized RX2, Cond.code yX2_tallOn cX2_tallOn 4 (some .int), Cond.fieldLink RX2 18 "SeenNumbers$Land" "thing" "[I", Cond.fieldLink RX2 65 "SeenNumbers$Land" "year" "I", Cond.fieldLink RX2 62 "SeenNumbers$Land" "felled" "I", Cond.fieldLink RX2 23 "SeenNumbers$Land" "houses" "[LSeenNumbers$House;", Cond.fieldLink RX2 96 "SeenNumbers$House" "floorsOn" "I", Cond.fieldLink RX2 71 "SeenNumbers$Land" "law" "I", Cond.fieldLink RX2 15 "SeenNumbers$Land" "walls" "[I", Cond.methodLink RX2 107 yX2_treeTall, Cond.instanceMethod yX2_treeTall, Cond.selects RX2 yX2_treeTall yX2_treeTall, Cond.code yX2_treeTall cX2_treeTall 4 (some .int), Cond.fieldLink RX2 29 "SeenNumbers$Land" "trees" "[LSeenNumbers$Tree;", Cond.fieldLink RX2 88 "SeenNumbers$Tree" "tallAtFirst" "I", Cond.static yX8_isIn, Cond.initialized RX8, Cond.code yX8_isIn cX8_isIn 2 (some .boolean), Cond.methodLink RX2 110 yX1_tallWith, Cond.instanceMethod yX1_tallWith]
def wsX2_topOf_r2 : List Cond := [Cond.selects RX1 yX1_tallWith yX1_tallWith, Cond.initialized RX1, Cond.code yX1_tallWith cX1_tallWith 4 (some .int), Cond.fieldLink RX1 15 "SeenNumbers$House" "tallAtFirst" "I", Cond.methodLink RX1 18 yX1_isA, Cond.instanceMethod yX1_isA, Cond.selects RX1 yX1_isA yX1_isA, Cond.code yX1_isA cX1_isA 2 (some .boolean), Cond.fieldLink RX1 9 "SeenNumbers$House" "kind" "I"]
def wsX2_topOf : List Cond := .code yX2_topOf cX2_topOf 2 (some .int) :: ((wsX2_topOf_r1 ++ wsX2_topOf_r2) ++ wsX20 ++ wsX10 ++ wsX70)
def wsX5_lookNow_r1 : List Cond := [Cond.fieldLink RX5 18 "SeenNumbers$Sight" "land" "LSeenNumbers$Land;", Cond.fieldLink RX5 22 "SeenNumbers$Land" "fog" "I", Cond.fieldLink RX5 28 "SeenNumbers$Sight" "fog" "I", Cond.fieldLink RX5 29 "SeenNumbers$Land" "cells" "I", Cond.fieldLink RX5 9 "SeenNumbers$Sight" "tops" "[I", Cond.methodLink RX5 32 yX2_topOf, Cond.instanceMethod yX2_topOf, Cond.selects RX2 yX2_topOf yX2_topOf, Cond.initialized RX2, Cond.code yX2_topOf cX2_topOf 2 (some .int), Cond.fieldLink RX2 9 "SeenNumbers$Land" "ground" "[I", Cond.methodLink RX2 103 yX2_tallOn, Cond.instanceMethod yX2_tallOn, Cond.selects RX2 yX2_tallOn yX2_tallOn, Cond.code yX2_tallOn cX2_tallOn 4 (some .int), Cond.fieldLink RX2 18 "SeenNumbers$Land" "thing" "[I", Cond.fieldLink RX2 65 "SeenNumbers$Land" "year" "I", Cond.fieldLink RX2 62 "SeenNumbers$Land" "felled" "I", Cond.fieldLink RX2 23 "SeenNumbers$Land" "houses" "[LSeenNumbers$House;", Cond.fieldLink RX2 96 "SeenNumbers$House" "floorsOn" "I", Cond.fieldLink RX2 71 "SeenNumbers$Land" "law" "I", Cond.fieldLink RX2 15 "SeenNumbers$Land" "walls" "[I", Cond.methodLink RX2 107 yX2_treeTall, Cond.instanceMethod yX2_treeTall]
def wsX5_lookNow_r2 : List Cond := [Cond.selects RX2 yX2_treeTall yX2_treeTall, Cond.code yX2_treeTall cX2_treeTall 4 (some .int), Cond.fieldLink RX2 29 "SeenNumbers$Land" "trees" "[LSeenNumbers$Tree;", Cond.fieldLink RX2 88 "SeenNumbers$Tree" "tallAtFirst" "I", Cond.static yX8_isIn, Cond.initialized RX8, Cond.code yX8_isIn cX8_isIn 2 (some .boolean), Cond.methodLink RX2 110 yX1_tallWith, Cond.instanceMethod yX1_tallWith, Cond.selects RX1 yX1_tallWith yX1_tallWith, Cond.initialized RX1, Cond.code yX1_tallWith cX1_tallWith 4 (some .int), Cond.fieldLink RX1 15 "SeenNumbers$House" "tallAtFirst" "I", Cond.methodLink RX1 18 yX1_isA, Cond.instanceMethod yX1_isA, Cond.selects RX1 yX1_isA yX1_isA, Cond.code yX1_isA cX1_isA 2 (some .boolean), Cond.fieldLink RX1 9 "SeenNumbers$House" "kind" "I"]
def wsX5_lookNow : List Cond := .code yX5_lookNow cX5_lookNow 2 none :: ((wsX5_lookNow_r1 ++ wsX5_lookNow_r2) ++ wsX50 ++ wsX20 ++ wsX10 ++ wsX70)
def wsX2_hasNothing : List Cond := .code yX2_hasNothing cX2_hasNothing 2 (some .boolean) :: ([.fieldLink RX2 18 "SeenNumbers$Land" "thing" "[I"] ++ wsX20)
def wsX8_greatestCommon : List Cond := .code yX8_greatestCommon cX8_greatestCommon 3 (some .int) :: ([.methodLink RX8 304 Lib.Math.max.name, .static Lib.Math.max.name, .initialized "java/lang/Math", .code Lib.Math.max.name Lib.Math.max.code 2 (some .int)])
def wsX5_isClear : List Cond := .code yX5_isClear cX5_isClear 9 (some .boolean) :: ([.fieldLink RX5 18 "SeenNumbers$Sight" "land" "LSeenNumbers$Land;", .fieldLink RX5 55 "SeenNumbers$Land" "wide" "I", .methodLink RX5 58 Lib.Math.abs.name, .static Lib.Math.abs.name, .initialized "java/lang/Math", .code Lib.Math.abs.name Lib.Math.abs.code 1 (some .int), .methodLink RX5 63 Lib.Math.max.name, .static Lib.Math.max.name, .code Lib.Math.max.name Lib.Math.max.code 2 (some .int), .fieldLink RX5 28 "SeenNumbers$Sight" "fog" "I", .fieldLink RX5 9 "SeenNumbers$Sight" "tops" "[I", .static yX8_greatestCommon, .initialized RX8, .code yX8_greatestCommon cX8_greatestCommon 3 (some .int), .methodLink RX8 304 Lib.Math.max.name] ++ wsX50 ++ wsX20)
def wsX5_numberFrom : List Cond := .code yX5_numberFrom cX5_numberFrom 5 (some .int) :: ([.fieldLink RX5 18 "SeenNumbers$Sight" "land" "LSeenNumbers$Land;", .fieldLink RX5 70 "SeenNumbers$Land" "houseCount" "I", .fieldLink RX5 73 "SeenNumbers$Land" "houses" "[LSeenNumbers$House;", .fieldLink RX5 77 "SeenNumbers$House" "place" "I", .methodLink RX5 80 yX5_isClear, .instanceMethod yX5_isClear, .selects RX5 yX5_isClear yX5_isClear, .initialized RX5, .code yX5_isClear cX5_isClear 9 (some .boolean), .fieldLink RX5 55 "SeenNumbers$Land" "wide" "I", .methodLink RX5 58 Lib.Math.abs.name, .static Lib.Math.abs.name, .initialized "java/lang/Math", .code Lib.Math.abs.name Lib.Math.abs.code 1 (some .int), .methodLink RX5 63 Lib.Math.max.name, .static Lib.Math.max.name, .code Lib.Math.max.name Lib.Math.max.code 2 (some .int), .fieldLink RX5 28 "SeenNumbers$Sight" "fog" "I", .fieldLink RX5 9 "SeenNumbers$Sight" "tops" "[I", .static yX8_greatestCommon, .initialized RX8, .code yX8_greatestCommon cX8_greatestCommon 3 (some .int), .methodLink RX8 304 Lib.Math.max.name] ++ wsX50 ++ wsX20 ++ wsX10)
def wsX5_numberIf_r1 : List Cond := [Cond.fieldLink RX5 9 "SeenNumbers$Sight" "tops" "[I", Cond.methodLink RX5 84 yX5_numberFrom, Cond.instanceMethod yX5_numberFrom, Cond.selects RX5 yX5_numberFrom yX5_numberFrom, Cond.initialized RX5, Cond.code yX5_numberFrom cX5_numberFrom 5 (some .int), Cond.fieldLink RX5 18 "SeenNumbers$Sight" "land" "LSeenNumbers$Land;", Cond.fieldLink RX5 70 "SeenNumbers$Land" "houseCount" "I", Cond.fieldLink RX5 73 "SeenNumbers$Land" "houses" "[LSeenNumbers$House;", Cond.fieldLink RX5 77 "SeenNumbers$House" "place" "I", Cond.methodLink RX5 80 yX5_isClear, Cond.instanceMethod yX5_isClear, Cond.selects RX5 yX5_isClear yX5_isClear, Cond.code yX5_isClear cX5_isClear 9 (some .boolean), Cond.fieldLink RX5 55 "SeenNumbers$Land" "wide" "I", Cond.methodLink RX5 58 Lib.Math.abs.name, Cond.static Lib.Math.abs.name, Cond.initialized "java/lang/Math", Cond.code Lib.Math.abs.name Lib.Math.abs.code 1 (some .int), Cond.methodLink RX5 63 Lib.Math.max.name, Cond.static Lib.Math.max.name, Cond.code Lib.Math.max.name Lib.Math.max.code 2 (some .int), Cond.fieldLink RX5 28 "SeenNumbers$Sight" "fog" "I", Cond.static yX8_greatestCommon]
def wsX5_numberIf_r2 : List Cond := [Cond.initialized RX8, Cond.code yX8_greatestCommon cX8_greatestCommon 3 (some .int), Cond.methodLink RX8 304 Lib.Math.max.name]
def wsX5_numberIf : List Cond := .code yX5_numberIf cX5_numberIf 6 (some .int) :: ((wsX5_numberIf_r1 ++ wsX5_numberIf_r2) ++ wsX50 ++ wsX20 ++ wsX10)
def wsX0_lowestWall_r1 : List Cond := [Cond.fieldLink RX0 15 "SeenNumbers$Finder" "sight" "LSeenNumbers$Sight;", Cond.fieldLink RX0 9 "SeenNumbers$Finder" "land" "LSeenNumbers$Land;", Cond.fieldLink RX0 24 "SeenNumbers$Land" "houses" "[LSeenNumbers$House;", Cond.fieldLink RX0 30 "SeenNumbers$House" "place" "I", Cond.fieldLink RX0 36 "SeenNumbers$Land" "cells" "I", Cond.fieldLink RX0 43 "SeenNumbers$Land" "ground" "[I", Cond.methodLink RX0 19 yX5_lookNow, Cond.instanceMethod yX5_lookNow, Cond.selects RX5 yX5_lookNow yX5_lookNow, Cond.initialized RX5, Cond.code yX5_lookNow cX5_lookNow 2 none, Cond.fieldLink RX5 18 "SeenNumbers$Sight" "land" "LSeenNumbers$Land;", Cond.fieldLink RX5 22 "SeenNumbers$Land" "fog" "I", Cond.fieldLink RX5 28 "SeenNumbers$Sight" "fog" "I", Cond.fieldLink RX5 29 "SeenNumbers$Land" "cells" "I", Cond.fieldLink RX5 9 "SeenNumbers$Sight" "tops" "[I", Cond.methodLink RX5 32 yX2_topOf, Cond.instanceMethod yX2_topOf, Cond.selects RX2 yX2_topOf yX2_topOf, Cond.initialized RX2, Cond.code yX2_topOf cX2_topOf 2 (some .int), Cond.fieldLink RX2 9 "SeenNumbers$Land" "ground" "[I", Cond.methodLink RX2 103 yX2_tallOn, Cond.instanceMethod yX2_tallOn]
def wsX0_lowestWall_r2 : List Cond := [Cond.selects RX2 yX2_tallOn yX2_tallOn, Cond.code yX2_tallOn cX2_tallOn 4 (some .int), Cond.fieldLink RX2 18 "SeenNumbers$Land" "thing" "[I", Cond.fieldLink RX2 65 "SeenNumbers$Land" "year" "I", Cond.fieldLink RX2 62 "SeenNumbers$Land" "felled" "I", Cond.fieldLink RX2 23 "SeenNumbers$Land" "houses" "[LSeenNumbers$House;", Cond.fieldLink RX2 96 "SeenNumbers$House" "floorsOn" "I", Cond.fieldLink RX2 71 "SeenNumbers$Land" "law" "I", Cond.fieldLink RX2 15 "SeenNumbers$Land" "walls" "[I", Cond.methodLink RX2 107 yX2_treeTall, Cond.instanceMethod yX2_treeTall, Cond.selects RX2 yX2_treeTall yX2_treeTall, Cond.code yX2_treeTall cX2_treeTall 4 (some .int), Cond.fieldLink RX2 29 "SeenNumbers$Land" "trees" "[LSeenNumbers$Tree;", Cond.fieldLink RX2 88 "SeenNumbers$Tree" "tallAtFirst" "I", Cond.static yX8_isIn, Cond.initialized RX8, Cond.code yX8_isIn cX8_isIn 2 (some .boolean), Cond.methodLink RX2 110 yX1_tallWith, Cond.instanceMethod yX1_tallWith, Cond.selects RX1 yX1_tallWith yX1_tallWith, Cond.initialized RX1, Cond.code yX1_tallWith cX1_tallWith 4 (some .int), Cond.fieldLink RX1 15 "SeenNumbers$House" "tallAtFirst" "I"]
def wsX0_lowestWall_r3 : List Cond := [Cond.methodLink RX1 18 yX1_isA, Cond.instanceMethod yX1_isA, Cond.selects RX1 yX1_isA yX1_isA, Cond.code yX1_isA cX1_isA 2 (some .boolean), Cond.fieldLink RX1 9 "SeenNumbers$House" "kind" "I", Cond.methodLink RX0 39 yX2_hasNothing, Cond.instanceMethod yX2_hasNothing, Cond.selects RX2 yX2_hasNothing yX2_hasNothing, Cond.code yX2_hasNothing cX2_hasNothing 2 (some .boolean), Cond.methodLink RX0 47 yX5_numberIf, Cond.instanceMethod yX5_numberIf, Cond.selects RX5 yX5_numberIf yX5_numberIf, Cond.code yX5_numberIf cX5_numberIf 6 (some .int), Cond.methodLink RX5 84 yX5_numberFrom, Cond.instanceMethod yX5_numberFrom, Cond.selects RX5 yX5_numberFrom yX5_numberFrom, Cond.code yX5_numberFrom cX5_numberFrom 5 (some .int), Cond.fieldLink RX5 70 "SeenNumbers$Land" "houseCount" "I", Cond.fieldLink RX5 73 "SeenNumbers$Land" "houses" "[LSeenNumbers$House;", Cond.fieldLink RX5 77 "SeenNumbers$House" "place" "I", Cond.methodLink RX5 80 yX5_isClear, Cond.instanceMethod yX5_isClear, Cond.selects RX5 yX5_isClear yX5_isClear, Cond.code yX5_isClear cX5_isClear 9 (some .boolean)]
def wsX0_lowestWall_r4 : List Cond := [Cond.fieldLink RX5 55 "SeenNumbers$Land" "wide" "I", Cond.methodLink RX5 58 Lib.Math.abs.name, Cond.static Lib.Math.abs.name, Cond.initialized "java/lang/Math", Cond.code Lib.Math.abs.name Lib.Math.abs.code 1 (some .int), Cond.methodLink RX5 63 Lib.Math.max.name, Cond.static Lib.Math.max.name, Cond.code Lib.Math.max.name Lib.Math.max.code 2 (some .int), Cond.static yX8_greatestCommon, Cond.code yX8_greatestCommon cX8_greatestCommon 3 (some .int), Cond.methodLink RX8 304 Lib.Math.max.name]
def wsX0_lowestWall : List Cond := .code yX0_lowestWall cX0_lowestWall 6 (some .int) :: ((wsX0_lowestWall_r1 ++ (wsX0_lowestWall_r2 ++ (wsX0_lowestWall_r3 ++ wsX0_lowestWall_r4))) ++ wsX00 ++ wsX20 ++ wsX10 ++ wsX50 ++ wsX70)
def wsX0_leastFloors_r1 : List Cond := [Cond.fieldLink RX0 15 "SeenNumbers$Finder" "sight" "LSeenNumbers$Sight;", Cond.fieldLink RX0 9 "SeenNumbers$Finder" "land" "LSeenNumbers$Land;", Cond.fieldLink RX0 24 "SeenNumbers$Land" "houses" "[LSeenNumbers$House;", Cond.fieldLink RX0 43 "SeenNumbers$Land" "ground" "[I", Cond.fieldLink RX0 30 "SeenNumbers$House" "place" "I", Cond.fieldLink RX0 51 "SeenNumbers$Land" "law" "I", Cond.methodLink RX0 19 yX5_lookNow, Cond.instanceMethod yX5_lookNow, Cond.selects RX5 yX5_lookNow yX5_lookNow, Cond.initialized RX5, Cond.code yX5_lookNow cX5_lookNow 2 none, Cond.fieldLink RX5 18 "SeenNumbers$Sight" "land" "LSeenNumbers$Land;", Cond.fieldLink RX5 22 "SeenNumbers$Land" "fog" "I", Cond.fieldLink RX5 28 "SeenNumbers$Sight" "fog" "I", Cond.fieldLink RX5 29 "SeenNumbers$Land" "cells" "I", Cond.fieldLink RX5 9 "SeenNumbers$Sight" "tops" "[I", Cond.methodLink RX5 32 yX2_topOf, Cond.instanceMethod yX2_topOf, Cond.selects RX2 yX2_topOf yX2_topOf, Cond.initialized RX2, Cond.code yX2_topOf cX2_topOf 2 (some .int), Cond.fieldLink RX2 9 "SeenNumbers$Land" "ground" "[I", Cond.methodLink RX2 103 yX2_tallOn, Cond.instanceMethod yX2_tallOn]
def wsX0_leastFloors_r2 : List Cond := [Cond.selects RX2 yX2_tallOn yX2_tallOn, Cond.code yX2_tallOn cX2_tallOn 4 (some .int), Cond.fieldLink RX2 18 "SeenNumbers$Land" "thing" "[I", Cond.fieldLink RX2 65 "SeenNumbers$Land" "year" "I", Cond.fieldLink RX2 62 "SeenNumbers$Land" "felled" "I", Cond.fieldLink RX2 23 "SeenNumbers$Land" "houses" "[LSeenNumbers$House;", Cond.fieldLink RX2 96 "SeenNumbers$House" "floorsOn" "I", Cond.fieldLink RX2 71 "SeenNumbers$Land" "law" "I", Cond.fieldLink RX2 15 "SeenNumbers$Land" "walls" "[I", Cond.methodLink RX2 107 yX2_treeTall, Cond.instanceMethod yX2_treeTall, Cond.selects RX2 yX2_treeTall yX2_treeTall, Cond.code yX2_treeTall cX2_treeTall 4 (some .int), Cond.fieldLink RX2 29 "SeenNumbers$Land" "trees" "[LSeenNumbers$Tree;", Cond.fieldLink RX2 88 "SeenNumbers$Tree" "tallAtFirst" "I", Cond.static yX8_isIn, Cond.initialized RX8, Cond.code yX8_isIn cX8_isIn 2 (some .boolean), Cond.methodLink RX2 110 yX1_tallWith, Cond.instanceMethod yX1_tallWith, Cond.selects RX1 yX1_tallWith yX1_tallWith, Cond.initialized RX1, Cond.code yX1_tallWith cX1_tallWith 4 (some .int), Cond.fieldLink RX1 15 "SeenNumbers$House" "tallAtFirst" "I"]
def wsX0_leastFloors_r3 : List Cond := [Cond.methodLink RX1 18 yX1_isA, Cond.instanceMethod yX1_isA, Cond.selects RX1 yX1_isA yX1_isA, Cond.code yX1_isA cX1_isA 2 (some .boolean), Cond.fieldLink RX1 9 "SeenNumbers$House" "kind" "I", Cond.methodLink RX0 54 yX1_tallWith, Cond.methodLink RX0 47 yX5_numberIf, Cond.instanceMethod yX5_numberIf, Cond.selects RX5 yX5_numberIf yX5_numberIf, Cond.code yX5_numberIf cX5_numberIf 6 (some .int), Cond.methodLink RX5 84 yX5_numberFrom, Cond.instanceMethod yX5_numberFrom, Cond.selects RX5 yX5_numberFrom yX5_numberFrom, Cond.code yX5_numberFrom cX5_numberFrom 5 (some .int), Cond.fieldLink RX5 70 "SeenNumbers$Land" "houseCount" "I", Cond.fieldLink RX5 73 "SeenNumbers$Land" "houses" "[LSeenNumbers$House;", Cond.fieldLink RX5 77 "SeenNumbers$House" "place" "I", Cond.methodLink RX5 80 yX5_isClear, Cond.instanceMethod yX5_isClear, Cond.selects RX5 yX5_isClear yX5_isClear, Cond.code yX5_isClear cX5_isClear 9 (some .boolean), Cond.fieldLink RX5 55 "SeenNumbers$Land" "wide" "I", Cond.methodLink RX5 58 Lib.Math.abs.name, Cond.static Lib.Math.abs.name]
def wsX0_leastFloors_r4 : List Cond := [Cond.initialized "java/lang/Math", Cond.code Lib.Math.abs.name Lib.Math.abs.code 1 (some .int), Cond.methodLink RX5 63 Lib.Math.max.name, Cond.static Lib.Math.max.name, Cond.code Lib.Math.max.name Lib.Math.max.code 2 (some .int), Cond.static yX8_greatestCommon, Cond.code yX8_greatestCommon cX8_greatestCommon 3 (some .int), Cond.methodLink RX8 304 Lib.Math.max.name]
def wsX0_leastFloors : List Cond := .code yX0_leastFloors cX0_leastFloors 6 (some .int) :: ((wsX0_leastFloors_r1 ++ (wsX0_leastFloors_r2 ++ (wsX0_leastFloors_r3 ++ wsX0_leastFloors_r4))) ++ wsX00 ++ wsX20 ++ wsX10 ++ wsX50 ++ wsX70)
def wsJ6_bitCount_0f7a4 : List Cond := .code yJ6_bitCount_0f7a4 cJ6_bitCount_0f7a4 1 (some .int) :: ([.constant RJ6 265 (1431655765), .constant RJ6 266 (858993459), .constant RJ6 267 (252645135)])
def wsX5_lookWithTrees : List Cond := .code yX5_lookWithTrees cX5_lookWithTrees 5 none :: ([.fieldLink RX5 18 "SeenNumbers$Sight" "land" "LSeenNumbers$Land;", .fieldLink RX5 36 "SeenNumbers$Land" "treeCount" "I", .fieldLink RX5 39 "SeenNumbers$Land" "trees" "[LSeenNumbers$Tree;", .fieldLink RX5 43 "SeenNumbers$Tree" "place" "I", .fieldLink RX5 9 "SeenNumbers$Sight" "tops" "[I", .fieldLink RX5 48 "SeenNumbers$Land" "ground" "[I", .methodLink RX5 51 yX2_treeTall, .instanceMethod yX2_treeTall, .selects RX2 yX2_treeTall yX2_treeTall, .initialized RX2, .code yX2_treeTall cX2_treeTall 4 (some .int), .fieldLink RX2 29 "SeenNumbers$Land" "trees" "[LSeenNumbers$Tree;", .fieldLink RX2 88 "SeenNumbers$Tree" "tallAtFirst" "I", .static yX8_isIn, .initialized RX8, .code yX8_isIn cX8_isIn 2 (some .boolean)] ++ wsX50 ++ wsX20 ++ wsX70)
def wsX5_numberOf_r1 : List Cond := [Cond.fieldLink RX5 18 "SeenNumbers$Sight" "land" "LSeenNumbers$Land;", Cond.fieldLink RX5 73 "SeenNumbers$Land" "houses" "[LSeenNumbers$House;", Cond.fieldLink RX5 77 "SeenNumbers$House" "place" "I", Cond.methodLink RX5 84 yX5_numberFrom, Cond.instanceMethod yX5_numberFrom, Cond.selects RX5 yX5_numberFrom yX5_numberFrom, Cond.initialized RX5, Cond.code yX5_numberFrom cX5_numberFrom 5 (some .int), Cond.fieldLink RX5 70 "SeenNumbers$Land" "houseCount" "I", Cond.methodLink RX5 80 yX5_isClear, Cond.instanceMethod yX5_isClear, Cond.selects RX5 yX5_isClear yX5_isClear, Cond.code yX5_isClear cX5_isClear 9 (some .boolean), Cond.fieldLink RX5 55 "SeenNumbers$Land" "wide" "I", Cond.methodLink RX5 58 Lib.Math.abs.name, Cond.static Lib.Math.abs.name, Cond.initialized "java/lang/Math", Cond.code Lib.Math.abs.name Lib.Math.abs.code 1 (some .int), Cond.methodLink RX5 63 Lib.Math.max.name, Cond.static Lib.Math.max.name, Cond.code Lib.Math.max.name Lib.Math.max.code 2 (some .int), Cond.fieldLink RX5 28 "SeenNumbers$Sight" "fog" "I", Cond.fieldLink RX5 9 "SeenNumbers$Sight" "tops" "[I", Cond.static yX8_greatestCommon]
def wsX5_numberOf_r2 : List Cond := [Cond.initialized RX8, Cond.code yX8_greatestCommon cX8_greatestCommon 3 (some .int), Cond.methodLink RX8 304 Lib.Math.max.name]
def wsX5_numberOf : List Cond := .code yX5_numberOf cX5_numberOf 2 (some .int) :: ((wsX5_numberOf_r1 ++ wsX5_numberOf_r2) ++ wsX50 ++ wsX20 ++ wsX10)
def wsX0_numberFelling_r1 : List Cond := [Cond.fieldLink RX0 15 "SeenNumbers$Finder" "sight" "LSeenNumbers$Sight;", Cond.fieldLink RX0 9 "SeenNumbers$Finder" "land" "LSeenNumbers$Land;", Cond.fieldLink RX0 73 "SeenNumbers$Land" "year" "I", Cond.fieldLink RX0 67 "SeenNumbers$Land" "felled" "I", Cond.methodLink RX0 76 yX5_lookWithTrees, Cond.instanceMethod yX5_lookWithTrees, Cond.selects RX5 yX5_lookWithTrees yX5_lookWithTrees, Cond.initialized RX5, Cond.code yX5_lookWithTrees cX5_lookWithTrees 5 none, Cond.fieldLink RX5 18 "SeenNumbers$Sight" "land" "LSeenNumbers$Land;", Cond.fieldLink RX5 36 "SeenNumbers$Land" "treeCount" "I", Cond.fieldLink RX5 39 "SeenNumbers$Land" "trees" "[LSeenNumbers$Tree;", Cond.fieldLink RX5 43 "SeenNumbers$Tree" "place" "I", Cond.fieldLink RX5 9 "SeenNumbers$Sight" "tops" "[I", Cond.fieldLink RX5 48 "SeenNumbers$Land" "ground" "[I", Cond.methodLink RX5 51 yX2_treeTall, Cond.instanceMethod yX2_treeTall, Cond.selects RX2 yX2_treeTall yX2_treeTall, Cond.initialized RX2, Cond.code yX2_treeTall cX2_treeTall 4 (some .int), Cond.fieldLink RX2 29 "SeenNumbers$Land" "trees" "[LSeenNumbers$Tree;", Cond.fieldLink RX2 88 "SeenNumbers$Tree" "tallAtFirst" "I", Cond.static yX8_isIn, Cond.initialized RX8]
def wsX0_numberFelling_r2 : List Cond := [Cond.code yX8_isIn cX8_isIn 2 (some .boolean), Cond.methodLink RX0 80 yX5_numberOf, Cond.instanceMethod yX5_numberOf, Cond.selects RX5 yX5_numberOf yX5_numberOf, Cond.code yX5_numberOf cX5_numberOf 2 (some .int), Cond.fieldLink RX5 73 "SeenNumbers$Land" "houses" "[LSeenNumbers$House;", Cond.fieldLink RX5 77 "SeenNumbers$House" "place" "I", Cond.methodLink RX5 84 yX5_numberFrom, Cond.instanceMethod yX5_numberFrom, Cond.selects RX5 yX5_numberFrom yX5_numberFrom, Cond.code yX5_numberFrom cX5_numberFrom 5 (some .int), Cond.fieldLink RX5 70 "SeenNumbers$Land" "houseCount" "I", Cond.methodLink RX5 80 yX5_isClear, Cond.instanceMethod yX5_isClear, Cond.selects RX5 yX5_isClear yX5_isClear, Cond.code yX5_isClear cX5_isClear 9 (some .boolean), Cond.fieldLink RX5 55 "SeenNumbers$Land" "wide" "I", Cond.methodLink RX5 58 Lib.Math.abs.name, Cond.static Lib.Math.abs.name, Cond.initialized "java/lang/Math", Cond.code Lib.Math.abs.name Lib.Math.abs.code 1 (some .int), Cond.methodLink RX5 63 Lib.Math.max.name, Cond.static Lib.Math.max.name, Cond.code Lib.Math.max.name Lib.Math.max.code 2 (some .int)]
def wsX0_numberFelling_r3 : List Cond := [Cond.fieldLink RX5 28 "SeenNumbers$Sight" "fog" "I", Cond.static yX8_greatestCommon, Cond.code yX8_greatestCommon cX8_greatestCommon 3 (some .int), Cond.methodLink RX8 304 Lib.Math.max.name]
def wsX0_numberFelling : List Cond := .code yX0_numberFelling cX0_numberFelling 3 (some .int) :: ((wsX0_numberFelling_r1 ++ (wsX0_numberFelling_r2 ++ wsX0_numberFelling_r3)) ++ wsX00 ++ wsX20 ++ wsX50 ++ wsX70 ++ wsX10)
def wsX0_fewestFelled_r1 : List Cond := [Cond.fieldLink RX0 15 "SeenNumbers$Finder" "sight" "LSeenNumbers$Sight;", Cond.fieldLink RX0 9 "SeenNumbers$Finder" "land" "LSeenNumbers$Land;", Cond.fieldLink RX0 58 "SeenNumbers$Land" "treeCount" "I", Cond.fieldLink RX0 67 "SeenNumbers$Land" "felled" "I", Cond.methodLink RX0 19 yX5_lookNow, Cond.instanceMethod yX5_lookNow, Cond.selects RX5 yX5_lookNow yX5_lookNow, Cond.initialized RX5, Cond.code yX5_lookNow cX5_lookNow 2 none, Cond.fieldLink RX5 18 "SeenNumbers$Sight" "land" "LSeenNumbers$Land;", Cond.fieldLink RX5 22 "SeenNumbers$Land" "fog" "I", Cond.fieldLink RX5 28 "SeenNumbers$Sight" "fog" "I", Cond.fieldLink RX5 29 "SeenNumbers$Land" "cells" "I", Cond.fieldLink RX5 9 "SeenNumbers$Sight" "tops" "[I", Cond.methodLink RX5 32 yX2_topOf, Cond.instanceMethod yX2_topOf, Cond.selects RX2 yX2_topOf yX2_topOf, Cond.initialized RX2, Cond.code yX2_topOf cX2_topOf 2 (some .int), Cond.fieldLink RX2 9 "SeenNumbers$Land" "ground" "[I", Cond.methodLink RX2 103 yX2_tallOn, Cond.instanceMethod yX2_tallOn, Cond.selects RX2 yX2_tallOn yX2_tallOn, Cond.code yX2_tallOn cX2_tallOn 4 (some .int)]
def wsX0_fewestFelled_r2 : List Cond := [Cond.fieldLink RX2 18 "SeenNumbers$Land" "thing" "[I", Cond.fieldLink RX2 65 "SeenNumbers$Land" "year" "I", Cond.fieldLink RX2 62 "SeenNumbers$Land" "felled" "I", Cond.fieldLink RX2 23 "SeenNumbers$Land" "houses" "[LSeenNumbers$House;", Cond.fieldLink RX2 96 "SeenNumbers$House" "floorsOn" "I", Cond.fieldLink RX2 71 "SeenNumbers$Land" "law" "I", Cond.fieldLink RX2 15 "SeenNumbers$Land" "walls" "[I", Cond.methodLink RX2 107 yX2_treeTall, Cond.instanceMethod yX2_treeTall, Cond.selects RX2 yX2_treeTall yX2_treeTall, Cond.code yX2_treeTall cX2_treeTall 4 (some .int), Cond.fieldLink RX2 29 "SeenNumbers$Land" "trees" "[LSeenNumbers$Tree;", Cond.fieldLink RX2 88 "SeenNumbers$Tree" "tallAtFirst" "I", Cond.static yX8_isIn, Cond.initialized RX8, Cond.code yX8_isIn cX8_isIn 2 (some .boolean), Cond.methodLink RX2 110 yX1_tallWith, Cond.instanceMethod yX1_tallWith, Cond.selects RX1 yX1_tallWith yX1_tallWith, Cond.initialized RX1, Cond.code yX1_tallWith cX1_tallWith 4 (some .int), Cond.fieldLink RX1 15 "SeenNumbers$House" "tallAtFirst" "I", Cond.methodLink RX1 18 yX1_isA, Cond.instanceMethod yX1_isA]
def wsX0_fewestFelled_r3 : List Cond := [Cond.selects RX1 yX1_isA yX1_isA, Cond.code yX1_isA cX1_isA 2 (some .boolean), Cond.fieldLink RX1 9 "SeenNumbers$House" "kind" "I", Cond.methodLink RX0 61 yJ6_bitCount_0f7a4, Cond.static yJ6_bitCount_0f7a4, Cond.initialized RJ6, Cond.code yJ6_bitCount_0f7a4 cJ6_bitCount_0f7a4 1 (some .int), Cond.constant RJ6 265 (1431655765), Cond.constant RJ6 266 (858993459), Cond.constant RJ6 267 (252645135), Cond.methodLink RX0 70 yX0_numberFelling, Cond.instanceMethod yX0_numberFelling, Cond.selects RX0 yX0_numberFelling yX0_numberFelling, Cond.initialized RX0, Cond.code yX0_numberFelling cX0_numberFelling 3 (some .int), Cond.fieldLink RX0 73 "SeenNumbers$Land" "year" "I", Cond.methodLink RX0 76 yX5_lookWithTrees, Cond.instanceMethod yX5_lookWithTrees, Cond.selects RX5 yX5_lookWithTrees yX5_lookWithTrees, Cond.code yX5_lookWithTrees cX5_lookWithTrees 5 none, Cond.fieldLink RX5 36 "SeenNumbers$Land" "treeCount" "I", Cond.fieldLink RX5 39 "SeenNumbers$Land" "trees" "[LSeenNumbers$Tree;", Cond.fieldLink RX5 43 "SeenNumbers$Tree" "place" "I", Cond.fieldLink RX5 48 "SeenNumbers$Land" "ground" "[I"]
def wsX0_fewestFelled_r4 : List Cond := [Cond.methodLink RX5 51 yX2_treeTall, Cond.methodLink RX0 80 yX5_numberOf, Cond.instanceMethod yX5_numberOf, Cond.selects RX5 yX5_numberOf yX5_numberOf, Cond.code yX5_numberOf cX5_numberOf 2 (some .int), Cond.fieldLink RX5 73 "SeenNumbers$Land" "houses" "[LSeenNumbers$House;", Cond.fieldLink RX5 77 "SeenNumbers$House" "place" "I", Cond.methodLink RX5 84 yX5_numberFrom, Cond.instanceMethod yX5_numberFrom, Cond.selects RX5 yX5_numberFrom yX5_numberFrom, Cond.code yX5_numberFrom cX5_numberFrom 5 (some .int), Cond.fieldLink RX5 70 "SeenNumbers$Land" "houseCount" "I", Cond.methodLink RX5 80 yX5_isClear, Cond.instanceMethod yX5_isClear, Cond.selects RX5 yX5_isClear yX5_isClear, Cond.code yX5_isClear cX5_isClear 9 (some .boolean), Cond.fieldLink RX5 55 "SeenNumbers$Land" "wide" "I", Cond.methodLink RX5 58 Lib.Math.abs.name, Cond.static Lib.Math.abs.name, Cond.initialized "java/lang/Math", Cond.code Lib.Math.abs.name Lib.Math.abs.code 1 (some .int), Cond.methodLink RX5 63 Lib.Math.max.name, Cond.static Lib.Math.max.name, Cond.code Lib.Math.max.name Lib.Math.max.code 2 (some .int)]
def wsX0_fewestFelled_r5 : List Cond := [Cond.static yX8_greatestCommon, Cond.code yX8_greatestCommon cX8_greatestCommon 3 (some .int), Cond.methodLink RX8 304 Lib.Math.max.name]
def wsX0_fewestFelled : List Cond := .code yX0_fewestFelled cX0_fewestFelled 7 (some .int) :: ((wsX0_fewestFelled_r1 ++ (wsX0_fewestFelled_r2 ++ (wsX0_fewestFelled_r3 ++ (wsX0_fewestFelled_r4 ++ wsX0_fewestFelled_r5)))) ++ wsX00 ++ wsX20 ++ wsX50 ++ wsX10 ++ wsX70)
def wsX0_numberOfNew_r1 : List Cond := [Cond.fieldLink RX0 15 "SeenNumbers$Finder" "sight" "LSeenNumbers$Sight;", Cond.fieldLink RX0 9 "SeenNumbers$Finder" "land" "LSeenNumbers$Land;", Cond.fieldLink RX0 43 "SeenNumbers$Land" "ground" "[I", Cond.methodLink RX0 19 yX5_lookNow, Cond.instanceMethod yX5_lookNow, Cond.selects RX5 yX5_lookNow yX5_lookNow, Cond.initialized RX5, Cond.code yX5_lookNow cX5_lookNow 2 none, Cond.fieldLink RX5 18 "SeenNumbers$Sight" "land" "LSeenNumbers$Land;", Cond.fieldLink RX5 22 "SeenNumbers$Land" "fog" "I", Cond.fieldLink RX5 28 "SeenNumbers$Sight" "fog" "I", Cond.fieldLink RX5 29 "SeenNumbers$Land" "cells" "I", Cond.fieldLink RX5 9 "SeenNumbers$Sight" "tops" "[I", Cond.methodLink RX5 32 yX2_topOf, Cond.instanceMethod yX2_topOf, Cond.selects RX2 yX2_topOf yX2_topOf, Cond.initialized RX2, Cond.code yX2_topOf cX2_topOf 2 (some .int), Cond.fieldLink RX2 9 "SeenNumbers$Land" "ground" "[I", Cond.methodLink RX2 103 yX2_tallOn, Cond.instanceMethod yX2_tallOn, Cond.selects RX2 yX2_tallOn yX2_tallOn, Cond.code yX2_tallOn cX2_tallOn 4 (some .int), Cond.fieldLink RX2 18 "SeenNumbers$Land" "thing" "[I"]
def wsX0_numberOfNew_r2 : List Cond := [Cond.fieldLink RX2 65 "SeenNumbers$Land" "year" "I", Cond.fieldLink RX2 62 "SeenNumbers$Land" "felled" "I", Cond.fieldLink RX2 23 "SeenNumbers$Land" "houses" "[LSeenNumbers$House;", Cond.fieldLink RX2 96 "SeenNumbers$House" "floorsOn" "I", Cond.fieldLink RX2 71 "SeenNumbers$Land" "law" "I", Cond.fieldLink RX2 15 "SeenNumbers$Land" "walls" "[I", Cond.methodLink RX2 107 yX2_treeTall, Cond.instanceMethod yX2_treeTall, Cond.selects RX2 yX2_treeTall yX2_treeTall, Cond.code yX2_treeTall cX2_treeTall 4 (some .int), Cond.fieldLink RX2 29 "SeenNumbers$Land" "trees" "[LSeenNumbers$Tree;", Cond.fieldLink RX2 88 "SeenNumbers$Tree" "tallAtFirst" "I", Cond.static yX8_isIn, Cond.initialized RX8, Cond.code yX8_isIn cX8_isIn 2 (some .boolean), Cond.methodLink RX2 110 yX1_tallWith, Cond.instanceMethod yX1_tallWith, Cond.selects RX1 yX1_tallWith yX1_tallWith, Cond.initialized RX1, Cond.code yX1_tallWith cX1_tallWith 4 (some .int), Cond.fieldLink RX1 15 "SeenNumbers$House" "tallAtFirst" "I", Cond.methodLink RX1 18 yX1_isA, Cond.instanceMethod yX1_isA, Cond.selects RX1 yX1_isA yX1_isA]
def wsX0_numberOfNew_r3 : List Cond := [Cond.code yX1_isA cX1_isA 2 (some .boolean), Cond.fieldLink RX1 9 "SeenNumbers$House" "kind" "I", Cond.methodLink RX0 47 yX5_numberIf, Cond.instanceMethod yX5_numberIf, Cond.selects RX5 yX5_numberIf yX5_numberIf, Cond.code yX5_numberIf cX5_numberIf 6 (some .int), Cond.methodLink RX5 84 yX5_numberFrom, Cond.instanceMethod yX5_numberFrom, Cond.selects RX5 yX5_numberFrom yX5_numberFrom, Cond.code yX5_numberFrom cX5_numberFrom 5 (some .int), Cond.fieldLink RX5 70 "SeenNumbers$Land" "houseCount" "I", Cond.fieldLink RX5 73 "SeenNumbers$Land" "houses" "[LSeenNumbers$House;", Cond.fieldLink RX5 77 "SeenNumbers$House" "place" "I", Cond.methodLink RX5 80 yX5_isClear, Cond.instanceMethod yX5_isClear, Cond.selects RX5 yX5_isClear yX5_isClear, Cond.code yX5_isClear cX5_isClear 9 (some .boolean), Cond.fieldLink RX5 55 "SeenNumbers$Land" "wide" "I", Cond.methodLink RX5 58 Lib.Math.abs.name, Cond.static Lib.Math.abs.name, Cond.initialized "java/lang/Math", Cond.code Lib.Math.abs.name Lib.Math.abs.code 1 (some .int), Cond.methodLink RX5 63 Lib.Math.max.name, Cond.static Lib.Math.max.name]
def wsX0_numberOfNew_r4 : List Cond := [Cond.code Lib.Math.max.name Lib.Math.max.code 2 (some .int), Cond.static yX8_greatestCommon, Cond.code yX8_greatestCommon cX8_greatestCommon 3 (some .int), Cond.methodLink RX8 304 Lib.Math.max.name]
def wsX0_numberOfNew : List Cond := .code yX0_numberOfNew cX0_numberOfNew 3 (some .int) :: ((wsX0_numberOfNew_r1 ++ (wsX0_numberOfNew_r2 ++ (wsX0_numberOfNew_r3 ++ wsX0_numberOfNew_r4))) ++ wsX00 ++ wsX20 ++ wsX50 ++ wsX10 ++ wsX70)
def wsX5_countAll_r1 : List Cond := [Cond.fieldLink RX5 18 "SeenNumbers$Sight" "land" "LSeenNumbers$Land;", Cond.fieldLink RX5 70 "SeenNumbers$Land" "houseCount" "I", Cond.fieldLink RX5 15 "SeenNumbers$Sight" "numbers" "[I", Cond.methodLink RX5 87 yX5_lookNow, Cond.instanceMethod yX5_lookNow, Cond.selects RX5 yX5_lookNow yX5_lookNow, Cond.initialized RX5, Cond.code yX5_lookNow cX5_lookNow 2 none, Cond.fieldLink RX5 22 "SeenNumbers$Land" "fog" "I", Cond.fieldLink RX5 28 "SeenNumbers$Sight" "fog" "I", Cond.fieldLink RX5 29 "SeenNumbers$Land" "cells" "I", Cond.fieldLink RX5 9 "SeenNumbers$Sight" "tops" "[I", Cond.methodLink RX5 32 yX2_topOf, Cond.instanceMethod yX2_topOf, Cond.selects RX2 yX2_topOf yX2_topOf, Cond.initialized RX2, Cond.code yX2_topOf cX2_topOf 2 (some .int), Cond.fieldLink RX2 9 "SeenNumbers$Land" "ground" "[I", Cond.methodLink RX2 103 yX2_tallOn, Cond.instanceMethod yX2_tallOn, Cond.selects RX2 yX2_tallOn yX2_tallOn, Cond.code yX2_tallOn cX2_tallOn 4 (some .int), Cond.fieldLink RX2 18 "SeenNumbers$Land" "thing" "[I", Cond.fieldLink RX2 65 "SeenNumbers$Land" "year" "I"]
def wsX5_countAll_r2 : List Cond := [Cond.fieldLink RX2 62 "SeenNumbers$Land" "felled" "I", Cond.fieldLink RX2 23 "SeenNumbers$Land" "houses" "[LSeenNumbers$House;", Cond.fieldLink RX2 96 "SeenNumbers$House" "floorsOn" "I", Cond.fieldLink RX2 71 "SeenNumbers$Land" "law" "I", Cond.fieldLink RX2 15 "SeenNumbers$Land" "walls" "[I", Cond.methodLink RX2 107 yX2_treeTall, Cond.instanceMethod yX2_treeTall, Cond.selects RX2 yX2_treeTall yX2_treeTall, Cond.code yX2_treeTall cX2_treeTall 4 (some .int), Cond.fieldLink RX2 29 "SeenNumbers$Land" "trees" "[LSeenNumbers$Tree;", Cond.fieldLink RX2 88 "SeenNumbers$Tree" "tallAtFirst" "I", Cond.static yX8_isIn, Cond.initialized RX8, Cond.code yX8_isIn cX8_isIn 2 (some .boolean), Cond.methodLink RX2 110 yX1_tallWith, Cond.instanceMethod yX1_tallWith, Cond.selects RX1 yX1_tallWith yX1_tallWith, Cond.initialized RX1, Cond.code yX1_tallWith cX1_tallWith 4 (some .int), Cond.fieldLink RX1 15 "SeenNumbers$House" "tallAtFirst" "I", Cond.methodLink RX1 18 yX1_isA, Cond.instanceMethod yX1_isA, Cond.selects RX1 yX1_isA yX1_isA, Cond.code yX1_isA cX1_isA 2 (some .boolean)]
def wsX5_countAll_r3 : List Cond := [Cond.fieldLink RX1 9 "SeenNumbers$House" "kind" "I", Cond.methodLink RX5 90 yX5_numberOf, Cond.instanceMethod yX5_numberOf, Cond.selects RX5 yX5_numberOf yX5_numberOf, Cond.code yX5_numberOf cX5_numberOf 2 (some .int), Cond.fieldLink RX5 73 "SeenNumbers$Land" "houses" "[LSeenNumbers$House;", Cond.fieldLink RX5 77 "SeenNumbers$House" "place" "I", Cond.methodLink RX5 84 yX5_numberFrom, Cond.instanceMethod yX5_numberFrom, Cond.selects RX5 yX5_numberFrom yX5_numberFrom, Cond.code yX5_numberFrom cX5_numberFrom 5 (some .int), Cond.methodLink RX5 80 yX5_isClear, Cond.instanceMethod yX5_isClear, Cond.selects RX5 yX5_isClear yX5_isClear, Cond.code yX5_isClear cX5_isClear 9 (some .boolean), Cond.fieldLink RX5 55 "SeenNumbers$Land" "wide" "I", Cond.methodLink RX5 58 Lib.Math.abs.name, Cond.static Lib.Math.abs.name, Cond.initialized "java/lang/Math", Cond.code Lib.Math.abs.name Lib.Math.abs.code 1 (some .int), Cond.methodLink RX5 63 Lib.Math.max.name, Cond.static Lib.Math.max.name, Cond.code Lib.Math.max.name Lib.Math.max.code 2 (some .int), Cond.static yX8_greatestCommon]
def wsX5_countAll_r4 : List Cond := [Cond.code yX8_greatestCommon cX8_greatestCommon 3 (some .int), Cond.methodLink RX8 304 Lib.Math.max.name]
def wsX5_countAll : List Cond := .code yX5_countAll cX5_countAll 2 none :: ((wsX5_countAll_r1 ++ (wsX5_countAll_r2 ++ (wsX5_countAll_r3 ++ wsX5_countAll_r4))) ++ wsX50 ++ wsX20 ++ wsX10 ++ wsX70)
def wsX0_changedByNew_r1 : List Cond := [Cond.fieldLink RX0 15 "SeenNumbers$Finder" "sight" "LSeenNumbers$Sight;", Cond.fieldLink RX0 86 "SeenNumbers$Sight" "tops" "[I", Cond.fieldLink RX0 9 "SeenNumbers$Finder" "land" "LSeenNumbers$Land;", Cond.fieldLink RX0 43 "SeenNumbers$Land" "ground" "[I", Cond.fieldLink RX0 89 "SeenNumbers$Land" "houseCount" "I", Cond.fieldLink RX0 24 "SeenNumbers$Land" "houses" "[LSeenNumbers$House;", Cond.fieldLink RX0 30 "SeenNumbers$House" "place" "I", Cond.fieldLink RX0 96 "SeenNumbers$Sight" "numbers" "[I", Cond.methodLink RX0 83 yX5_countAll, Cond.instanceMethod yX5_countAll, Cond.selects RX5 yX5_countAll yX5_countAll, Cond.initialized RX5, Cond.code yX5_countAll cX5_countAll 2 none, Cond.fieldLink RX5 18 "SeenNumbers$Sight" "land" "LSeenNumbers$Land;", Cond.fieldLink RX5 70 "SeenNumbers$Land" "houseCount" "I", Cond.fieldLink RX5 15 "SeenNumbers$Sight" "numbers" "[I", Cond.methodLink RX5 87 yX5_lookNow, Cond.instanceMethod yX5_lookNow, Cond.selects RX5 yX5_lookNow yX5_lookNow, Cond.code yX5_lookNow cX5_lookNow 2 none, Cond.fieldLink RX5 22 "SeenNumbers$Land" "fog" "I", Cond.fieldLink RX5 28 "SeenNumbers$Sight" "fog" "I", Cond.fieldLink RX5 29 "SeenNumbers$Land" "cells" "I", Cond.fieldLink RX5 9 "SeenNumbers$Sight" "tops" "[I"]
def wsX0_changedByNew_r2 : List Cond := [Cond.methodLink RX5 32 yX2_topOf, Cond.instanceMethod yX2_topOf, Cond.selects RX2 yX2_topOf yX2_topOf, Cond.initialized RX2, Cond.code yX2_topOf cX2_topOf 2 (some .int), Cond.fieldLink RX2 9 "SeenNumbers$Land" "ground" "[I", Cond.methodLink RX2 103 yX2_tallOn, Cond.instanceMethod yX2_tallOn, Cond.selects RX2 yX2_tallOn yX2_tallOn, Cond.code yX2_tallOn cX2_tallOn 4 (some .int), Cond.fieldLink RX2 18 "SeenNumbers$Land" "thing" "[I", Cond.fieldLink RX2 65 "SeenNumbers$Land" "year" "I", Cond.fieldLink RX2 62 "SeenNumbers$Land" "felled" "I", Cond.fieldLink RX2 23 "SeenNumbers$Land" "houses" "[LSeenNumbers$House;", Cond.fieldLink RX2 96 "SeenNumbers$House" "floorsOn" "I", Cond.fieldLink RX2 71 "SeenNumbers$Land" "law" "I", Cond.fieldLink RX2 15 "SeenNumbers$Land" "walls" "[I", Cond.methodLink RX2 107 yX2_treeTall, Cond.instanceMethod yX2_treeTall, Cond.selects RX2 yX2_treeTall yX2_treeTall, Cond.code yX2_treeTall cX2_treeTall 4 (some .int), Cond.fieldLink RX2 29 "SeenNumbers$Land" "trees" "[LSeenNumbers$Tree;", Cond.fieldLink RX2 88 "SeenNumbers$Tree" "tallAtFirst" "I", Cond.static yX8_isIn]
def wsX0_changedByNew_r3 : List Cond := [Cond.initialized RX8, Cond.code yX8_isIn cX8_isIn 2 (some .boolean), Cond.methodLink RX2 110 yX1_tallWith, Cond.instanceMethod yX1_tallWith, Cond.selects RX1 yX1_tallWith yX1_tallWith, Cond.initialized RX1, Cond.code yX1_tallWith cX1_tallWith 4 (some .int), Cond.fieldLink RX1 15 "SeenNumbers$House" "tallAtFirst" "I", Cond.methodLink RX1 18 yX1_isA, Cond.instanceMethod yX1_isA, Cond.selects RX1 yX1_isA yX1_isA, Cond.code yX1_isA cX1_isA 2 (some .boolean), Cond.fieldLink RX1 9 "SeenNumbers$House" "kind" "I", Cond.methodLink RX5 90 yX5_numberOf, Cond.instanceMethod yX5_numberOf, Cond.selects RX5 yX5_numberOf yX5_numberOf, Cond.code yX5_numberOf cX5_numberOf 2 (some .int), Cond.fieldLink RX5 73 "SeenNumbers$Land" "houses" "[LSeenNumbers$House;", Cond.fieldLink RX5 77 "SeenNumbers$House" "place" "I", Cond.methodLink RX5 84 yX5_numberFrom, Cond.instanceMethod yX5_numberFrom, Cond.selects RX5 yX5_numberFrom yX5_numberFrom, Cond.code yX5_numberFrom cX5_numberFrom 5 (some .int), Cond.methodLink RX5 80 yX5_isClear]
def wsX0_changedByNew_r4 : List Cond := [Cond.instanceMethod yX5_isClear, Cond.selects RX5 yX5_isClear yX5_isClear, Cond.code yX5_isClear cX5_isClear 9 (some .boolean), Cond.fieldLink RX5 55 "SeenNumbers$Land" "wide" "I", Cond.methodLink RX5 58 Lib.Math.abs.name, Cond.static Lib.Math.abs.name, Cond.initialized "java/lang/Math", Cond.code Lib.Math.abs.name Lib.Math.abs.code 1 (some .int), Cond.methodLink RX5 63 Lib.Math.max.name, Cond.static Lib.Math.max.name, Cond.code Lib.Math.max.name Lib.Math.max.code 2 (some .int), Cond.static yX8_greatestCommon, Cond.code yX8_greatestCommon cX8_greatestCommon 3 (some .int), Cond.methodLink RX8 304 Lib.Math.max.name, Cond.methodLink RX0 80 yX5_numberOf, Cond.methodLink RX0 92 yX5_isClear]
def wsX0_changedByNew : List Cond := .code yX0_changedByNew cX0_changedByNew 6 (some .int) :: ((wsX0_changedByNew_r1 ++ (wsX0_changedByNew_r2 ++ (wsX0_changedByNew_r3 ++ wsX0_changedByNew_r4))) ++ wsX00 ++ wsX50 ++ wsX20 ++ wsX10 ++ wsX70)
def wsX2_canTakeNew : List Cond := .code yX2_canTakeNew cX2_canTakeNew 2 (some .boolean) :: ([.fieldLink RX2 15 "SeenNumbers$Land" "walls" "[I", .methodLink RX2 49 yX2_hasNothing, .instanceMethod yX2_hasNothing, .selects RX2 yX2_hasNothing yX2_hasNothing, .initialized RX2, .code yX2_hasNothing cX2_hasNothing 2 (some .boolean), .fieldLink RX2 18 "SeenNumbers$Land" "thing" "[I"] ++ wsX20)
def wsX0_cellsForNew_r1 : List Cond := [Cond.fieldLink RX0 15 "SeenNumbers$Finder" "sight" "LSeenNumbers$Sight;", Cond.fieldLink RX0 9 "SeenNumbers$Finder" "land" "LSeenNumbers$Land;", Cond.fieldLink RX0 36 "SeenNumbers$Land" "cells" "I", Cond.fieldLink RX0 43 "SeenNumbers$Land" "ground" "[I", Cond.methodLink RX0 19 yX5_lookNow, Cond.instanceMethod yX5_lookNow, Cond.selects RX5 yX5_lookNow yX5_lookNow, Cond.initialized RX5, Cond.code yX5_lookNow cX5_lookNow 2 none, Cond.fieldLink RX5 18 "SeenNumbers$Sight" "land" "LSeenNumbers$Land;", Cond.fieldLink RX5 22 "SeenNumbers$Land" "fog" "I", Cond.fieldLink RX5 28 "SeenNumbers$Sight" "fog" "I", Cond.fieldLink RX5 29 "SeenNumbers$Land" "cells" "I", Cond.fieldLink RX5 9 "SeenNumbers$Sight" "tops" "[I", Cond.methodLink RX5 32 yX2_topOf, Cond.instanceMethod yX2_topOf, Cond.selects RX2 yX2_topOf yX2_topOf, Cond.initialized RX2, Cond.code yX2_topOf cX2_topOf 2 (some .int), Cond.fieldLink RX2 9 "SeenNumbers$Land" "ground" "[I", Cond.methodLink RX2 103 yX2_tallOn, Cond.instanceMethod yX2_tallOn, Cond.selects RX2 yX2_tallOn yX2_tallOn, Cond.code yX2_tallOn cX2_tallOn 4 (some .int)]
def wsX0_cellsForNew_r2 : List Cond := [Cond.fieldLink RX2 18 "SeenNumbers$Land" "thing" "[I", Cond.fieldLink RX2 65 "SeenNumbers$Land" "year" "I", Cond.fieldLink RX2 62 "SeenNumbers$Land" "felled" "I", Cond.fieldLink RX2 23 "SeenNumbers$Land" "houses" "[LSeenNumbers$House;", Cond.fieldLink RX2 96 "SeenNumbers$House" "floorsOn" "I", Cond.fieldLink RX2 71 "SeenNumbers$Land" "law" "I", Cond.fieldLink RX2 15 "SeenNumbers$Land" "walls" "[I", Cond.methodLink RX2 107 yX2_treeTall, Cond.instanceMethod yX2_treeTall, Cond.selects RX2 yX2_treeTall yX2_treeTall, Cond.code yX2_treeTall cX2_treeTall 4 (some .int), Cond.fieldLink RX2 29 "SeenNumbers$Land" "trees" "[LSeenNumbers$Tree;", Cond.fieldLink RX2 88 "SeenNumbers$Tree" "tallAtFirst" "I", Cond.static yX8_isIn, Cond.initialized RX8, Cond.code yX8_isIn cX8_isIn 2 (some .boolean), Cond.methodLink RX2 110 yX1_tallWith, Cond.instanceMethod yX1_tallWith, Cond.selects RX1 yX1_tallWith yX1_tallWith, Cond.initialized RX1, Cond.code yX1_tallWith cX1_tallWith 4 (some .int), Cond.fieldLink RX1 15 "SeenNumbers$House" "tallAtFirst" "I", Cond.methodLink RX1 18 yX1_isA, Cond.instanceMethod yX1_isA]
def wsX0_cellsForNew_r3 : List Cond := [Cond.selects RX1 yX1_isA yX1_isA, Cond.code yX1_isA cX1_isA 2 (some .boolean), Cond.fieldLink RX1 9 "SeenNumbers$House" "kind" "I", Cond.methodLink RX0 99 yX2_canTakeNew, Cond.instanceMethod yX2_canTakeNew, Cond.selects RX2 yX2_canTakeNew yX2_canTakeNew, Cond.code yX2_canTakeNew cX2_canTakeNew 2 (some .boolean), Cond.methodLink RX2 49 yX2_hasNothing, Cond.instanceMethod yX2_hasNothing, Cond.selects RX2 yX2_hasNothing yX2_hasNothing, Cond.code yX2_hasNothing cX2_hasNothing 2 (some .boolean), Cond.methodLink RX0 47 yX5_numberIf, Cond.instanceMethod yX5_numberIf, Cond.selects RX5 yX5_numberIf yX5_numberIf, Cond.code yX5_numberIf cX5_numberIf 6 (some .int), Cond.methodLink RX5 84 yX5_numberFrom, Cond.instanceMethod yX5_numberFrom, Cond.selects RX5 yX5_numberFrom yX5_numberFrom, Cond.code yX5_numberFrom cX5_numberFrom 5 (some .int), Cond.fieldLink RX5 70 "SeenNumbers$Land" "houseCount" "I", Cond.fieldLink RX5 73 "SeenNumbers$Land" "houses" "[LSeenNumbers$House;", Cond.fieldLink RX5 77 "SeenNumbers$House" "place" "I", Cond.methodLink RX5 80 yX5_isClear, Cond.instanceMethod yX5_isClear]
def wsX0_cellsForNew_r4 : List Cond := [Cond.selects RX5 yX5_isClear yX5_isClear, Cond.code yX5_isClear cX5_isClear 9 (some .boolean), Cond.fieldLink RX5 55 "SeenNumbers$Land" "wide" "I", Cond.methodLink RX5 58 Lib.Math.abs.name, Cond.static Lib.Math.abs.name, Cond.initialized "java/lang/Math", Cond.code Lib.Math.abs.name Lib.Math.abs.code 1 (some .int), Cond.methodLink RX5 63 Lib.Math.max.name, Cond.static Lib.Math.max.name, Cond.code Lib.Math.max.name Lib.Math.max.code 2 (some .int), Cond.static yX8_greatestCommon, Cond.code yX8_greatestCommon cX8_greatestCommon 3 (some .int), Cond.methodLink RX8 304 Lib.Math.max.name]
def wsX0_cellsForNew : List Cond := .code yX0_cellsForNew cX0_cellsForNew 6 (some .long) :: ((wsX0_cellsForNew_r1 ++ (wsX0_cellsForNew_r2 ++ (wsX0_cellsForNew_r3 ++ wsX0_cellsForNew_r4))) ++ wsX00 ++ wsX20 ++ wsX50 ++ wsX10 ++ wsX70)
def wsX0_yearOfChange_r1 : List Cond := [Cond.fieldLink RX0 15 "SeenNumbers$Finder" "sight" "LSeenNumbers$Sight;", Cond.fieldLink RX0 9 "SeenNumbers$Finder" "land" "LSeenNumbers$Land;", Cond.fieldLink RX0 73 "SeenNumbers$Land" "year" "I", Cond.fieldLink RX0 67 "SeenNumbers$Land" "felled" "I", Cond.methodLink RX0 19 yX5_lookNow, Cond.instanceMethod yX5_lookNow, Cond.selects RX5 yX5_lookNow yX5_lookNow, Cond.initialized RX5, Cond.code yX5_lookNow cX5_lookNow 2 none, Cond.fieldLink RX5 18 "SeenNumbers$Sight" "land" "LSeenNumbers$Land;", Cond.fieldLink RX5 22 "SeenNumbers$Land" "fog" "I", Cond.fieldLink RX5 28 "SeenNumbers$Sight" "fog" "I", Cond.fieldLink RX5 29 "SeenNumbers$Land" "cells" "I", Cond.fieldLink RX5 9 "SeenNumbers$Sight" "tops" "[I", Cond.methodLink RX5 32 yX2_topOf, Cond.instanceMethod yX2_topOf, Cond.selects RX2 yX2_topOf yX2_topOf, Cond.initialized RX2, Cond.code yX2_topOf cX2_topOf 2 (some .int), Cond.fieldLink RX2 9 "SeenNumbers$Land" "ground" "[I", Cond.methodLink RX2 103 yX2_tallOn, Cond.instanceMethod yX2_tallOn, Cond.selects RX2 yX2_tallOn yX2_tallOn, Cond.code yX2_tallOn cX2_tallOn 4 (some .int)]
def wsX0_yearOfChange_r2 : List Cond := [Cond.fieldLink RX2 18 "SeenNumbers$Land" "thing" "[I", Cond.fieldLink RX2 65 "SeenNumbers$Land" "year" "I", Cond.fieldLink RX2 62 "SeenNumbers$Land" "felled" "I", Cond.fieldLink RX2 23 "SeenNumbers$Land" "houses" "[LSeenNumbers$House;", Cond.fieldLink RX2 96 "SeenNumbers$House" "floorsOn" "I", Cond.fieldLink RX2 71 "SeenNumbers$Land" "law" "I", Cond.fieldLink RX2 15 "SeenNumbers$Land" "walls" "[I", Cond.methodLink RX2 107 yX2_treeTall, Cond.instanceMethod yX2_treeTall, Cond.selects RX2 yX2_treeTall yX2_treeTall, Cond.code yX2_treeTall cX2_treeTall 4 (some .int), Cond.fieldLink RX2 29 "SeenNumbers$Land" "trees" "[LSeenNumbers$Tree;", Cond.fieldLink RX2 88 "SeenNumbers$Tree" "tallAtFirst" "I", Cond.static yX8_isIn, Cond.initialized RX8, Cond.code yX8_isIn cX8_isIn 2 (some .boolean), Cond.methodLink RX2 110 yX1_tallWith, Cond.instanceMethod yX1_tallWith, Cond.selects RX1 yX1_tallWith yX1_tallWith, Cond.initialized RX1, Cond.code yX1_tallWith cX1_tallWith 4 (some .int), Cond.fieldLink RX1 15 "SeenNumbers$House" "tallAtFirst" "I", Cond.methodLink RX1 18 yX1_isA, Cond.instanceMethod yX1_isA]
def wsX0_yearOfChange_r3 : List Cond := [Cond.selects RX1 yX1_isA yX1_isA, Cond.code yX1_isA cX1_isA 2 (some .boolean), Cond.fieldLink RX1 9 "SeenNumbers$House" "kind" "I", Cond.methodLink RX0 80 yX5_numberOf, Cond.instanceMethod yX5_numberOf, Cond.selects RX5 yX5_numberOf yX5_numberOf, Cond.code yX5_numberOf cX5_numberOf 2 (some .int), Cond.fieldLink RX5 73 "SeenNumbers$Land" "houses" "[LSeenNumbers$House;", Cond.fieldLink RX5 77 "SeenNumbers$House" "place" "I", Cond.methodLink RX5 84 yX5_numberFrom, Cond.instanceMethod yX5_numberFrom, Cond.selects RX5 yX5_numberFrom yX5_numberFrom, Cond.code yX5_numberFrom cX5_numberFrom 5 (some .int), Cond.fieldLink RX5 70 "SeenNumbers$Land" "houseCount" "I", Cond.methodLink RX5 80 yX5_isClear, Cond.instanceMethod yX5_isClear, Cond.selects RX5 yX5_isClear yX5_isClear, Cond.code yX5_isClear cX5_isClear 9 (some .boolean), Cond.fieldLink RX5 55 "SeenNumbers$Land" "wide" "I", Cond.methodLink RX5 58 Lib.Math.abs.name, Cond.static Lib.Math.abs.name, Cond.initialized "java/lang/Math", Cond.code Lib.Math.abs.name Lib.Math.abs.code 1 (some .int), Cond.methodLink RX5 63 Lib.Math.max.name]
def wsX0_yearOfChange_r4 : List Cond := [Cond.static Lib.Math.max.name, Cond.code Lib.Math.max.name Lib.Math.max.code 2 (some .int), Cond.static yX8_greatestCommon, Cond.code yX8_greatestCommon cX8_greatestCommon 3 (some .int), Cond.methodLink RX8 304 Lib.Math.max.name, Cond.methodLink RX0 76 yX5_lookWithTrees, Cond.instanceMethod yX5_lookWithTrees, Cond.selects RX5 yX5_lookWithTrees yX5_lookWithTrees, Cond.code yX5_lookWithTrees cX5_lookWithTrees 5 none, Cond.fieldLink RX5 36 "SeenNumbers$Land" "treeCount" "I", Cond.fieldLink RX5 39 "SeenNumbers$Land" "trees" "[LSeenNumbers$Tree;", Cond.fieldLink RX5 43 "SeenNumbers$Tree" "place" "I", Cond.fieldLink RX5 48 "SeenNumbers$Land" "ground" "[I", Cond.methodLink RX5 51 yX2_treeTall]
def wsX0_yearOfChange : List Cond := .code yX0_yearOfChange cX0_yearOfChange 4 (some .int) :: ((wsX0_yearOfChange_r1 ++ (wsX0_yearOfChange_r2 ++ (wsX0_yearOfChange_r3 ++ wsX0_yearOfChange_r4))) ++ wsX00 ++ wsX20 ++ wsX50 ++ wsX10 ++ wsX70)
def wsX1_init : List Cond := .code yX1_init cX1_init 1 none :: ([.methodLink RX1 3 objectInit, .instanceMethod objectInit, .code objectInit ⟨#[0xb1]⟩ 1 none])
def wsX7_init : List Cond := .code yX7_init cX7_init 1 none :: ([.methodLink RX7 1 objectInit, .instanceMethod objectInit, .code objectInit ⟨#[0xb1]⟩ 1 none])
def wsX2_init : List Cond := .code yX2_init cX2_init 2 none :: ([.methodLink RX2 3 objectInit, .instanceMethod objectInit, .code objectInit ⟨#[0xb1]⟩ 1 none, .arrayClass .int, .fieldLink RX2 9 "SeenNumbers$Land" "ground" "[I", .fieldLink RX2 15 "SeenNumbers$Land" "walls" "[I", .fieldLink RX2 18 "SeenNumbers$Land" "thing" "[I", .classLink RX2 21 RX1, .fieldLink RX2 23 "SeenNumbers$Land" "houses" "[LSeenNumbers$House;", .classLink RX2 27 RX7, .fieldLink RX2 29 "SeenNumbers$Land" "trees" "[LSeenNumbers$Tree;", .instantiable RX1 4, .initialized RX1, .instantiable RX7 2, .initialized RX7, .instanceMethod yX1_init, .code yX1_init cX1_init 1 none, .methodLink RX1 3 objectInit, .instanceMethod yX7_init, .code yX7_init cX7_init 1 none, .methodLink RX7 1 objectInit] ++ wsX20 ++ wsX10 ++ wsX70)
def wsX2_isThere : List Cond := .code yX2_isThere cX2_isThere 1 (some .boolean) :: ([.fieldLink RX2 35 "SeenNumbers$Land" "cells" "I"] ++ wsX20)
def wsX8_isWithin : List Cond := .code yX8_isWithin cX8_isWithin 3 (some .boolean) :: ([])
def wsX2_hasCell : List Cond := .code yX2_hasCell cX2_hasCell 2 (some .boolean) :: ([.fieldLink RX2 35 "SeenNumbers$Land" "cells" "I", .static yX8_isWithin, .initialized RX8, .code yX8_isWithin cX8_isWithin 3 (some .boolean)] ++ wsX20)
def wsX2_hasHouse : List Cond := .code yX2_hasHouse cX2_hasHouse 2 (some .boolean) :: ([.fieldLink RX2 43 "SeenNumbers$Land" "houseCount" "I", .static yX8_isWithin, .initialized RX8, .code yX8_isWithin cX8_isWithin 3 (some .boolean)] ++ wsX20)
def wsX2_hasTree : List Cond := .code yX2_hasTree cX2_hasTree 2 (some .boolean) :: ([.fieldLink RX2 46 "SeenNumbers$Land" "treeCount" "I", .static yX8_isWithin, .initialized RX8, .code yX8_isWithin cX8_isWithin 3 (some .boolean)] ++ wsX20)
def wsX2_settle : List Cond := .code yX2_settle cX2_settle 5 (some .int) :: ([.fieldLink RX2 29 "SeenNumbers$Land" "trees" "[LSeenNumbers$Tree;", .fieldLink RX2 46 "SeenNumbers$Land" "treeCount" "I", .fieldLink RX2 85 "SeenNumbers$Tree" "place" "I", .fieldLink RX2 88 "SeenNumbers$Tree" "tallAtFirst" "I", .fieldLink RX2 23 "SeenNumbers$Land" "houses" "[LSeenNumbers$House;", .fieldLink RX2 43 "SeenNumbers$Land" "houseCount" "I", .fieldLink RX2 91 "SeenNumbers$House" "kind" "I", .fieldLink RX2 94 "SeenNumbers$House" "place" "I", .fieldLink RX2 95 "SeenNumbers$House" "tallAtFirst" "I", .fieldLink RX2 96 "SeenNumbers$House" "floorsOn" "I"] ++ wsX20 ++ wsX70 ++ wsX10)
def wsX2_makeAnew_r1 : List Cond := [Cond.fieldLink RX2 53 "SeenNumbers$Text" "wide" "I", Cond.fieldLink RX2 58 "SeenNumbers$Land" "wide" "I", Cond.fieldLink RX2 59 "SeenNumbers$Text" "high" "I", Cond.fieldLink RX2 35 "SeenNumbers$Land" "cells" "I", Cond.fieldLink RX2 43 "SeenNumbers$Land" "houseCount" "I", Cond.fieldLink RX2 46 "SeenNumbers$Land" "treeCount" "I", Cond.fieldLink RX2 62 "SeenNumbers$Land" "felled" "I", Cond.fieldLink RX2 65 "SeenNumbers$Land" "year" "I", Cond.fieldLink RX2 68 "SeenNumbers$Land" "fog" "I", Cond.fieldLink RX2 71 "SeenNumbers$Land" "law" "I", Cond.fieldLink RX2 9 "SeenNumbers$Land" "ground" "[I", Cond.fieldLink RX2 74 "SeenNumbers$Text" "ground" "[I", Cond.fieldLink RX2 15 "SeenNumbers$Land" "walls" "[I", Cond.fieldLink RX2 18 "SeenNumbers$Land" "thing" "[I", Cond.fieldLink RX2 75 "SeenNumbers$Text" "kinds" "[I", Cond.fieldLink RX2 78 "SeenNumbers$Text" "tall" "[I", Cond.methodLink RX2 81 yX2_settle, Cond.instanceMethod yX2_settle, Cond.selects RX2 yX2_settle yX2_settle, Cond.initialized RX2, Cond.code yX2_settle cX2_settle 5 (some .int), Cond.fieldLink RX2 29 "SeenNumbers$Land" "trees" "[LSeenNumbers$Tree;", Cond.fieldLink RX2 85 "SeenNumbers$Tree" "place" "I", Cond.fieldLink RX2 88 "SeenNumbers$Tree" "tallAtFirst" "I"]
def wsX2_makeAnew_r2 : List Cond := [Cond.fieldLink RX2 23 "SeenNumbers$Land" "houses" "[LSeenNumbers$House;", Cond.fieldLink RX2 91 "SeenNumbers$House" "kind" "I", Cond.fieldLink RX2 94 "SeenNumbers$House" "place" "I", Cond.fieldLink RX2 95 "SeenNumbers$House" "tallAtFirst" "I", Cond.fieldLink RX2 96 "SeenNumbers$House" "floorsOn" "I"]
def wsX2_makeAnew : List Cond := .code yX2_makeAnew cX2_makeAnew 3 none :: ((wsX2_makeAnew_r1 ++ wsX2_makeAnew_r2) ++ wsX60 ++ wsX20 ++ wsX70 ++ wsX10)
def wsX3_init : List Cond := .code yX3_init cX3_init 3 none :: ([.methodLink RX3 3 objectInit, .instanceMethod objectInit, .code objectInit ⟨#[0xb1]⟩ 1 none, .arrayClass .int, .fieldLink RX3 9 "SeenNumbers$Readings" "houses" "[I", .fieldLink RX3 15 "SeenNumbers$Readings" "years" "[I", .fieldLink RX3 18 "SeenNumbers$Readings" "numbers" "[I", .fieldLink RX3 21 "SeenNumbers$Readings" "land" "LSeenNumbers$Land;", .fieldLink RX3 25 "SeenNumbers$Readings" "sight" "LSeenNumbers$Sight;"] ++ wsX30)
def wsX3_isFull : List Cond := .code yX3_isFull cX3_isFull 1 (some .boolean) :: ([.fieldLink RX3 29 "SeenNumbers$Readings" "count" "I"] ++ wsX30)
def wsX3_keep : List Cond := .code yX3_keep cX3_keep 4 (some .int) :: ([.fieldLink RX3 9 "SeenNumbers$Readings" "houses" "[I", .fieldLink RX3 29 "SeenNumbers$Readings" "count" "I", .fieldLink RX3 15 "SeenNumbers$Readings" "years" "[I", .fieldLink RX3 18 "SeenNumbers$Readings" "numbers" "[I"] ++ wsX30)
def wsX3_allAreSo_r1 : List Cond := [Cond.fieldLink RX3 29 "SeenNumbers$Readings" "count" "I", Cond.fieldLink RX3 25 "SeenNumbers$Readings" "sight" "LSeenNumbers$Sight;", Cond.fieldLink RX3 15 "SeenNumbers$Readings" "years" "[I", Cond.fieldLink RX3 9 "SeenNumbers$Readings" "houses" "[I", Cond.fieldLink RX3 18 "SeenNumbers$Readings" "numbers" "[I", Cond.methodLink RX3 53 yX5_lookWithTrees, Cond.instanceMethod yX5_lookWithTrees, Cond.selects RX5 yX5_lookWithTrees yX5_lookWithTrees, Cond.initialized RX5, Cond.code yX5_lookWithTrees cX5_lookWithTrees 5 none, Cond.fieldLink RX5 18 "SeenNumbers$Sight" "land" "LSeenNumbers$Land;", Cond.fieldLink RX5 36 "SeenNumbers$Land" "treeCount" "I", Cond.fieldLink RX5 39 "SeenNumbers$Land" "trees" "[LSeenNumbers$Tree;", Cond.fieldLink RX5 43 "SeenNumbers$Tree" "place" "I", Cond.fieldLink RX5 9 "SeenNumbers$Sight" "tops" "[I", Cond.fieldLink RX5 48 "SeenNumbers$Land" "ground" "[I", Cond.methodLink RX5 51 yX2_treeTall, Cond.instanceMethod yX2_treeTall, Cond.selects RX2 yX2_treeTall yX2_treeTall, Cond.initialized RX2, Cond.code yX2_treeTall cX2_treeTall 4 (some .int), Cond.fieldLink RX2 29 "SeenNumbers$Land" "trees" "[LSeenNumbers$Tree;", Cond.fieldLink RX2 88 "SeenNumbers$Tree" "tallAtFirst" "I", Cond.static yX8_isIn]
def wsX3_allAreSo_r2 : List Cond := [Cond.initialized RX8, Cond.code yX8_isIn cX8_isIn 2 (some .boolean), Cond.methodLink RX3 57 yX5_numberOf, Cond.instanceMethod yX5_numberOf, Cond.selects RX5 yX5_numberOf yX5_numberOf, Cond.code yX5_numberOf cX5_numberOf 2 (some .int), Cond.fieldLink RX5 73 "SeenNumbers$Land" "houses" "[LSeenNumbers$House;", Cond.fieldLink RX5 77 "SeenNumbers$House" "place" "I", Cond.methodLink RX5 84 yX5_numberFrom, Cond.instanceMethod yX5_numberFrom, Cond.selects RX5 yX5_numberFrom yX5_numberFrom, Cond.code yX5_numberFrom cX5_numberFrom 5 (some .int), Cond.fieldLink RX5 70 "SeenNumbers$Land" "houseCount" "I", Cond.methodLink RX5 80 yX5_isClear, Cond.instanceMethod yX5_isClear, Cond.selects RX5 yX5_isClear yX5_isClear, Cond.code yX5_isClear cX5_isClear 9 (some .boolean), Cond.fieldLink RX5 55 "SeenNumbers$Land" "wide" "I", Cond.methodLink RX5 58 Lib.Math.abs.name, Cond.static Lib.Math.abs.name, Cond.initialized "java/lang/Math", Cond.code Lib.Math.abs.name Lib.Math.abs.code 1 (some .int), Cond.methodLink RX5 63 Lib.Math.max.name, Cond.static Lib.Math.max.name]
def wsX3_allAreSo_r3 : List Cond := [Cond.code Lib.Math.max.name Lib.Math.max.code 2 (some .int), Cond.fieldLink RX5 28 "SeenNumbers$Sight" "fog" "I", Cond.static yX8_greatestCommon, Cond.code yX8_greatestCommon cX8_greatestCommon 3 (some .int), Cond.methodLink RX8 304 Lib.Math.max.name]
def wsX3_allAreSo : List Cond := .code yX3_allAreSo cX3_allAreSo 3 (some .boolean) :: ((wsX3_allAreSo_r1 ++ (wsX3_allAreSo_r2 ++ wsX3_allAreSo_r3)) ++ wsX30 ++ wsX50 ++ wsX20 ++ wsX70 ++ wsX10)
def wsX3_possibleFogs_r1 : List Cond := [Cond.fieldLink RX3 25 "SeenNumbers$Readings" "sight" "LSeenNumbers$Sight;", Cond.fieldLink RX3 38 "SeenNumbers$Sight" "fog" "I", Cond.fieldLink RX3 21 "SeenNumbers$Readings" "land" "LSeenNumbers$Land;", Cond.fieldLink RX3 41 "SeenNumbers$Land" "felled" "I", Cond.methodLink RX3 33 yX5_lookNow, Cond.instanceMethod yX5_lookNow, Cond.selects RX5 yX5_lookNow yX5_lookNow, Cond.initialized RX5, Cond.code yX5_lookNow cX5_lookNow 2 none, Cond.fieldLink RX5 18 "SeenNumbers$Sight" "land" "LSeenNumbers$Land;", Cond.fieldLink RX5 22 "SeenNumbers$Land" "fog" "I", Cond.fieldLink RX5 28 "SeenNumbers$Sight" "fog" "I", Cond.fieldLink RX5 29 "SeenNumbers$Land" "cells" "I", Cond.fieldLink RX5 9 "SeenNumbers$Sight" "tops" "[I", Cond.methodLink RX5 32 yX2_topOf, Cond.instanceMethod yX2_topOf, Cond.selects RX2 yX2_topOf yX2_topOf, Cond.initialized RX2, Cond.code yX2_topOf cX2_topOf 2 (some .int), Cond.fieldLink RX2 9 "SeenNumbers$Land" "ground" "[I", Cond.methodLink RX2 103 yX2_tallOn, Cond.instanceMethod yX2_tallOn, Cond.selects RX2 yX2_tallOn yX2_tallOn, Cond.code yX2_tallOn cX2_tallOn 4 (some .int)]
def wsX3_possibleFogs_r2 : List Cond := [Cond.fieldLink RX2 18 "SeenNumbers$Land" "thing" "[I", Cond.fieldLink RX2 65 "SeenNumbers$Land" "year" "I", Cond.fieldLink RX2 62 "SeenNumbers$Land" "felled" "I", Cond.fieldLink RX2 23 "SeenNumbers$Land" "houses" "[LSeenNumbers$House;", Cond.fieldLink RX2 96 "SeenNumbers$House" "floorsOn" "I", Cond.fieldLink RX2 71 "SeenNumbers$Land" "law" "I", Cond.fieldLink RX2 15 "SeenNumbers$Land" "walls" "[I", Cond.methodLink RX2 107 yX2_treeTall, Cond.instanceMethod yX2_treeTall, Cond.selects RX2 yX2_treeTall yX2_treeTall, Cond.code yX2_treeTall cX2_treeTall 4 (some .int), Cond.fieldLink RX2 29 "SeenNumbers$Land" "trees" "[LSeenNumbers$Tree;", Cond.fieldLink RX2 88 "SeenNumbers$Tree" "tallAtFirst" "I", Cond.static yX8_isIn, Cond.initialized RX8, Cond.code yX8_isIn cX8_isIn 2 (some .boolean), Cond.methodLink RX2 110 yX1_tallWith, Cond.instanceMethod yX1_tallWith, Cond.selects RX1 yX1_tallWith yX1_tallWith, Cond.initialized RX1, Cond.code yX1_tallWith cX1_tallWith 4 (some .int), Cond.fieldLink RX1 15 "SeenNumbers$House" "tallAtFirst" "I", Cond.methodLink RX1 18 yX1_isA, Cond.instanceMethod yX1_isA]
def wsX3_possibleFogs_r3 : List Cond := [Cond.selects RX1 yX1_isA yX1_isA, Cond.code yX1_isA cX1_isA 2 (some .boolean), Cond.fieldLink RX1 9 "SeenNumbers$House" "kind" "I", Cond.methodLink RX3 46 yX3_allAreSo, Cond.instanceMethod yX3_allAreSo, Cond.selects RX3 yX3_allAreSo yX3_allAreSo, Cond.initialized RX3, Cond.code yX3_allAreSo cX3_allAreSo 3 (some .boolean), Cond.fieldLink RX3 29 "SeenNumbers$Readings" "count" "I", Cond.fieldLink RX3 15 "SeenNumbers$Readings" "years" "[I", Cond.fieldLink RX3 9 "SeenNumbers$Readings" "houses" "[I", Cond.fieldLink RX3 18 "SeenNumbers$Readings" "numbers" "[I", Cond.methodLink RX3 53 yX5_lookWithTrees, Cond.instanceMethod yX5_lookWithTrees, Cond.selects RX5 yX5_lookWithTrees yX5_lookWithTrees, Cond.code yX5_lookWithTrees cX5_lookWithTrees 5 none, Cond.fieldLink RX5 36 "SeenNumbers$Land" "treeCount" "I", Cond.fieldLink RX5 39 "SeenNumbers$Land" "trees" "[LSeenNumbers$Tree;", Cond.fieldLink RX5 43 "SeenNumbers$Tree" "place" "I", Cond.fieldLink RX5 48 "SeenNumbers$Land" "ground" "[I", Cond.methodLink RX5 51 yX2_treeTall, Cond.methodLink RX3 57 yX5_numberOf, Cond.instanceMethod yX5_numberOf, Cond.selects RX5 yX5_numberOf yX5_numberOf]
def wsX3_possibleFogs_r4 : List Cond := [Cond.code yX5_numberOf cX5_numberOf 2 (some .int), Cond.fieldLink RX5 73 "SeenNumbers$Land" "houses" "[LSeenNumbers$House;", Cond.fieldLink RX5 77 "SeenNumbers$House" "place" "I", Cond.methodLink RX5 84 yX5_numberFrom, Cond.instanceMethod yX5_numberFrom, Cond.selects RX5 yX5_numberFrom yX5_numberFrom, Cond.code yX5_numberFrom cX5_numberFrom 5 (some .int), Cond.fieldLink RX5 70 "SeenNumbers$Land" "houseCount" "I", Cond.methodLink RX5 80 yX5_isClear, Cond.instanceMethod yX5_isClear, Cond.selects RX5 yX5_isClear yX5_isClear, Cond.code yX5_isClear cX5_isClear 9 (some .boolean), Cond.fieldLink RX5 55 "SeenNumbers$Land" "wide" "I", Cond.methodLink RX5 58 Lib.Math.abs.name, Cond.static Lib.Math.abs.name, Cond.initialized "java/lang/Math", Cond.code Lib.Math.abs.name Lib.Math.abs.code 1 (some .int), Cond.methodLink RX5 63 Lib.Math.max.name, Cond.static Lib.Math.max.name, Cond.code Lib.Math.max.name Lib.Math.max.code 2 (some .int), Cond.static yX8_greatestCommon, Cond.code yX8_greatestCommon cX8_greatestCommon 3 (some .int), Cond.methodLink RX8 304 Lib.Math.max.name]
def wsX3_possibleFogs : List Cond := .code yX3_possibleFogs cX3_possibleFogs 3 (some .int) :: ((wsX3_possibleFogs_r1 ++ (wsX3_possibleFogs_r2 ++ (wsX3_possibleFogs_r3 ++ wsX3_possibleFogs_r4))) ++ wsX30 ++ wsX50 ++ wsX20 ++ wsX10 ++ wsX70)
def wsX3_howManyStood_r1 : List Cond := [Cond.fieldLink RX3 25 "SeenNumbers$Readings" "sight" "LSeenNumbers$Sight;", Cond.fieldLink RX3 21 "SeenNumbers$Readings" "land" "LSeenNumbers$Land;", Cond.fieldLink RX3 50 "SeenNumbers$Land" "treeCount" "I", Cond.methodLink RX3 33 yX5_lookNow, Cond.instanceMethod yX5_lookNow, Cond.selects RX5 yX5_lookNow yX5_lookNow, Cond.initialized RX5, Cond.code yX5_lookNow cX5_lookNow 2 none, Cond.fieldLink RX5 18 "SeenNumbers$Sight" "land" "LSeenNumbers$Land;", Cond.fieldLink RX5 22 "SeenNumbers$Land" "fog" "I", Cond.fieldLink RX5 28 "SeenNumbers$Sight" "fog" "I", Cond.fieldLink RX5 29 "SeenNumbers$Land" "cells" "I", Cond.fieldLink RX5 9 "SeenNumbers$Sight" "tops" "[I", Cond.methodLink RX5 32 yX2_topOf, Cond.instanceMethod yX2_topOf, Cond.selects RX2 yX2_topOf yX2_topOf, Cond.initialized RX2, Cond.code yX2_topOf cX2_topOf 2 (some .int), Cond.fieldLink RX2 9 "SeenNumbers$Land" "ground" "[I", Cond.methodLink RX2 103 yX2_tallOn, Cond.instanceMethod yX2_tallOn, Cond.selects RX2 yX2_tallOn yX2_tallOn, Cond.code yX2_tallOn cX2_tallOn 4 (some .int), Cond.fieldLink RX2 18 "SeenNumbers$Land" "thing" "[I"]
def wsX3_howManyStood_r2 : List Cond := [Cond.fieldLink RX2 65 "SeenNumbers$Land" "year" "I", Cond.fieldLink RX2 62 "SeenNumbers$Land" "felled" "I", Cond.fieldLink RX2 23 "SeenNumbers$Land" "houses" "[LSeenNumbers$House;", Cond.fieldLink RX2 96 "SeenNumbers$House" "floorsOn" "I", Cond.fieldLink RX2 71 "SeenNumbers$Land" "law" "I", Cond.fieldLink RX2 15 "SeenNumbers$Land" "walls" "[I", Cond.methodLink RX2 107 yX2_treeTall, Cond.instanceMethod yX2_treeTall, Cond.selects RX2 yX2_treeTall yX2_treeTall, Cond.code yX2_treeTall cX2_treeTall 4 (some .int), Cond.fieldLink RX2 29 "SeenNumbers$Land" "trees" "[LSeenNumbers$Tree;", Cond.fieldLink RX2 88 "SeenNumbers$Tree" "tallAtFirst" "I", Cond.static yX8_isIn, Cond.initialized RX8, Cond.code yX8_isIn cX8_isIn 2 (some .boolean), Cond.methodLink RX2 110 yX1_tallWith, Cond.instanceMethod yX1_tallWith, Cond.selects RX1 yX1_tallWith yX1_tallWith, Cond.initialized RX1, Cond.code yX1_tallWith cX1_tallWith 4 (some .int), Cond.fieldLink RX1 15 "SeenNumbers$House" "tallAtFirst" "I", Cond.methodLink RX1 18 yX1_isA, Cond.instanceMethod yX1_isA, Cond.selects RX1 yX1_isA yX1_isA]
def wsX3_howManyStood_r3 : List Cond := [Cond.code yX1_isA cX1_isA 2 (some .boolean), Cond.fieldLink RX1 9 "SeenNumbers$House" "kind" "I", Cond.methodLink RX3 46 yX3_allAreSo, Cond.instanceMethod yX3_allAreSo, Cond.selects RX3 yX3_allAreSo yX3_allAreSo, Cond.initialized RX3, Cond.code yX3_allAreSo cX3_allAreSo 3 (some .boolean), Cond.fieldLink RX3 29 "SeenNumbers$Readings" "count" "I", Cond.fieldLink RX3 15 "SeenNumbers$Readings" "years" "[I", Cond.fieldLink RX3 9 "SeenNumbers$Readings" "houses" "[I", Cond.fieldLink RX3 18 "SeenNumbers$Readings" "numbers" "[I", Cond.methodLink RX3 53 yX5_lookWithTrees, Cond.instanceMethod yX5_lookWithTrees, Cond.selects RX5 yX5_lookWithTrees yX5_lookWithTrees, Cond.code yX5_lookWithTrees cX5_lookWithTrees 5 none, Cond.fieldLink RX5 36 "SeenNumbers$Land" "treeCount" "I", Cond.fieldLink RX5 39 "SeenNumbers$Land" "trees" "[LSeenNumbers$Tree;", Cond.fieldLink RX5 43 "SeenNumbers$Tree" "place" "I", Cond.fieldLink RX5 48 "SeenNumbers$Land" "ground" "[I", Cond.methodLink RX5 51 yX2_treeTall, Cond.methodLink RX3 57 yX5_numberOf, Cond.instanceMethod yX5_numberOf, Cond.selects RX5 yX5_numberOf yX5_numberOf, Cond.code yX5_numberOf cX5_numberOf 2 (some .int)]
def wsX3_howManyStood_r4 : List Cond := [Cond.fieldLink RX5 73 "SeenNumbers$Land" "houses" "[LSeenNumbers$House;", Cond.fieldLink RX5 77 "SeenNumbers$House" "place" "I", Cond.methodLink RX5 84 yX5_numberFrom, Cond.instanceMethod yX5_numberFrom, Cond.selects RX5 yX5_numberFrom yX5_numberFrom, Cond.code yX5_numberFrom cX5_numberFrom 5 (some .int), Cond.fieldLink RX5 70 "SeenNumbers$Land" "houseCount" "I", Cond.methodLink RX5 80 yX5_isClear, Cond.instanceMethod yX5_isClear, Cond.selects RX5 yX5_isClear yX5_isClear, Cond.code yX5_isClear cX5_isClear 9 (some .boolean), Cond.fieldLink RX5 55 "SeenNumbers$Land" "wide" "I", Cond.methodLink RX5 58 Lib.Math.abs.name, Cond.static Lib.Math.abs.name, Cond.initialized "java/lang/Math", Cond.code Lib.Math.abs.name Lib.Math.abs.code 1 (some .int), Cond.methodLink RX5 63 Lib.Math.max.name, Cond.static Lib.Math.max.name, Cond.code Lib.Math.max.name Lib.Math.max.code 2 (some .int), Cond.static yX8_greatestCommon, Cond.code yX8_greatestCommon cX8_greatestCommon 3 (some .int), Cond.methodLink RX8 304 Lib.Math.max.name]
def wsX3_howManyStood : List Cond := .code yX3_howManyStood cX3_howManyStood 4 (some .int) :: ((wsX3_howManyStood_r1 ++ (wsX3_howManyStood_r2 ++ (wsX3_howManyStood_r3 ++ wsX3_howManyStood_r4))) ++ wsX30 ++ wsX20 ++ wsX50 ++ wsX10 ++ wsX70)
def wsX3_firstThatStood_r1 : List Cond := [Cond.fieldLink RX3 25 "SeenNumbers$Readings" "sight" "LSeenNumbers$Sight;", Cond.fieldLink RX3 21 "SeenNumbers$Readings" "land" "LSeenNumbers$Land;", Cond.fieldLink RX3 50 "SeenNumbers$Land" "treeCount" "I", Cond.methodLink RX3 33 yX5_lookNow, Cond.instanceMethod yX5_lookNow, Cond.selects RX5 yX5_lookNow yX5_lookNow, Cond.initialized RX5, Cond.code yX5_lookNow cX5_lookNow 2 none, Cond.fieldLink RX5 18 "SeenNumbers$Sight" "land" "LSeenNumbers$Land;", Cond.fieldLink RX5 22 "SeenNumbers$Land" "fog" "I", Cond.fieldLink RX5 28 "SeenNumbers$Sight" "fog" "I", Cond.fieldLink RX5 29 "SeenNumbers$Land" "cells" "I", Cond.fieldLink RX5 9 "SeenNumbers$Sight" "tops" "[I", Cond.methodLink RX5 32 yX2_topOf, Cond.instanceMethod yX2_topOf, Cond.selects RX2 yX2_topOf yX2_topOf, Cond.initialized RX2, Cond.code yX2_topOf cX2_topOf 2 (some .int), Cond.fieldLink RX2 9 "SeenNumbers$Land" "ground" "[I", Cond.methodLink RX2 103 yX2_tallOn, Cond.instanceMethod yX2_tallOn, Cond.selects RX2 yX2_tallOn yX2_tallOn, Cond.code yX2_tallOn cX2_tallOn 4 (some .int), Cond.fieldLink RX2 18 "SeenNumbers$Land" "thing" "[I"]
def wsX3_firstThatStood_r2 : List Cond := [Cond.fieldLink RX2 65 "SeenNumbers$Land" "year" "I", Cond.fieldLink RX2 62 "SeenNumbers$Land" "felled" "I", Cond.fieldLink RX2 23 "SeenNumbers$Land" "houses" "[LSeenNumbers$House;", Cond.fieldLink RX2 96 "SeenNumbers$House" "floorsOn" "I", Cond.fieldLink RX2 71 "SeenNumbers$Land" "law" "I", Cond.fieldLink RX2 15 "SeenNumbers$Land" "walls" "[I", Cond.methodLink RX2 107 yX2_treeTall, Cond.instanceMethod yX2_treeTall, Cond.selects RX2 yX2_treeTall yX2_treeTall, Cond.code yX2_treeTall cX2_treeTall 4 (some .int), Cond.fieldLink RX2 29 "SeenNumbers$Land" "trees" "[LSeenNumbers$Tree;", Cond.fieldLink RX2 88 "SeenNumbers$Tree" "tallAtFirst" "I", Cond.static yX8_isIn, Cond.initialized RX8, Cond.code yX8_isIn cX8_isIn 2 (some .boolean), Cond.methodLink RX2 110 yX1_tallWith, Cond.instanceMethod yX1_tallWith, Cond.selects RX1 yX1_tallWith yX1_tallWith, Cond.initialized RX1, Cond.code yX1_tallWith cX1_tallWith 4 (some .int), Cond.fieldLink RX1 15 "SeenNumbers$House" "tallAtFirst" "I", Cond.methodLink RX1 18 yX1_isA, Cond.instanceMethod yX1_isA, Cond.selects RX1 yX1_isA yX1_isA]
def wsX3_firstThatStood_r3 : List Cond := [Cond.code yX1_isA cX1_isA 2 (some .boolean), Cond.fieldLink RX1 9 "SeenNumbers$House" "kind" "I", Cond.methodLink RX3 46 yX3_allAreSo, Cond.instanceMethod yX3_allAreSo, Cond.selects RX3 yX3_allAreSo yX3_allAreSo, Cond.initialized RX3, Cond.code yX3_allAreSo cX3_allAreSo 3 (some .boolean), Cond.fieldLink RX3 29 "SeenNumbers$Readings" "count" "I", Cond.fieldLink RX3 15 "SeenNumbers$Readings" "years" "[I", Cond.fieldLink RX3 9 "SeenNumbers$Readings" "houses" "[I", Cond.fieldLink RX3 18 "SeenNumbers$Readings" "numbers" "[I", Cond.methodLink RX3 53 yX5_lookWithTrees, Cond.instanceMethod yX5_lookWithTrees, Cond.selects RX5 yX5_lookWithTrees yX5_lookWithTrees, Cond.code yX5_lookWithTrees cX5_lookWithTrees 5 none, Cond.fieldLink RX5 36 "SeenNumbers$Land" "treeCount" "I", Cond.fieldLink RX5 39 "SeenNumbers$Land" "trees" "[LSeenNumbers$Tree;", Cond.fieldLink RX5 43 "SeenNumbers$Tree" "place" "I", Cond.fieldLink RX5 48 "SeenNumbers$Land" "ground" "[I", Cond.methodLink RX5 51 yX2_treeTall, Cond.methodLink RX3 57 yX5_numberOf, Cond.instanceMethod yX5_numberOf, Cond.selects RX5 yX5_numberOf yX5_numberOf, Cond.code yX5_numberOf cX5_numberOf 2 (some .int)]
def wsX3_firstThatStood_r4 : List Cond := [Cond.fieldLink RX5 73 "SeenNumbers$Land" "houses" "[LSeenNumbers$House;", Cond.fieldLink RX5 77 "SeenNumbers$House" "place" "I", Cond.methodLink RX5 84 yX5_numberFrom, Cond.instanceMethod yX5_numberFrom, Cond.selects RX5 yX5_numberFrom yX5_numberFrom, Cond.code yX5_numberFrom cX5_numberFrom 5 (some .int), Cond.fieldLink RX5 70 "SeenNumbers$Land" "houseCount" "I", Cond.methodLink RX5 80 yX5_isClear, Cond.instanceMethod yX5_isClear, Cond.selects RX5 yX5_isClear yX5_isClear, Cond.code yX5_isClear cX5_isClear 9 (some .boolean), Cond.fieldLink RX5 55 "SeenNumbers$Land" "wide" "I", Cond.methodLink RX5 58 Lib.Math.abs.name, Cond.static Lib.Math.abs.name, Cond.initialized "java/lang/Math", Cond.code Lib.Math.abs.name Lib.Math.abs.code 1 (some .int), Cond.methodLink RX5 63 Lib.Math.max.name, Cond.static Lib.Math.max.name, Cond.code Lib.Math.max.name Lib.Math.max.code 2 (some .int), Cond.static yX8_greatestCommon, Cond.code yX8_greatestCommon cX8_greatestCommon 3 (some .int), Cond.methodLink RX8 304 Lib.Math.max.name]
def wsX3_firstThatStood : List Cond := .code yX3_firstThatStood cX3_firstThatStood 3 (some .int) :: ((wsX3_firstThatStood_r1 ++ (wsX3_firstThatStood_r2 ++ (wsX3_firstThatStood_r3 ++ wsX3_firstThatStood_r4))) ++ wsX30 ++ wsX20 ++ wsX50 ++ wsX10 ++ wsX70)
def wsX4_init : List Cond := .code yX4_init cX4_init 1 none :: ([.methodLink RX4 3 objectInit, .instanceMethod objectInit, .code objectInit ⟨#[0xb1]⟩ 1 none, .arrayClass .int, .fieldLink RX4 9 "SeenNumbers$Sheet" "cells" "[I", .fieldLink RX4 15 "SeenNumbers$Sheet" "size" "I"] ++ wsX40)
def wsX4_hasRow : List Cond := .code yX4_hasRow cX4_hasRow 1 (some .boolean) :: ([.fieldLink RX4 15 "SeenNumbers$Sheet" "size" "I"] ++ wsX40)
def wsX4_makeRow : List Cond := .code yX4_makeRow cX4_makeRow 4 none :: ([.fieldLink RX4 19 "SeenNumbers$Sheet" "lane" "I", .fieldLink RX4 15 "SeenNumbers$Sheet" "size" "I", .fieldLink RX4 9 "SeenNumbers$Sheet" "cells" "[I"] ++ wsX40)
def wsX4_dropRow : List Cond := .code yX4_dropRow cX4_dropRow 1 none :: ([.fieldLink RX4 15 "SeenNumbers$Sheet" "size" "I"] ++ wsX40)
def wsX4_faultAs : List Cond := .code yX4_faultAs cX4_faultAs 2 (some .int) :: ([.fieldLink RX4 19 "SeenNumbers$Sheet" "lane" "I", .methodLink RX4 22 yX4_hasRow, .instanceMethod yX4_hasRow, .selects RX4 yX4_hasRow yX4_hasRow, .initialized RX4, .code yX4_hasRow cX4_hasRow 1 (some .boolean), .fieldLink RX4 15 "SeenNumbers$Sheet" "size" "I"] ++ wsX40)
def wsX4_holds : List Cond := .code yX4_holds cX4_holds 2 (some .boolean) :: ([.fieldLink RX4 15 "SeenNumbers$Sheet" "size" "I"] ++ wsX40)
def wsX4_holdsRun : List Cond := .code yX4_holdsRun cX4_holdsRun 3 (some .boolean) :: ([.fieldLink RX4 15 "SeenNumbers$Sheet" "size" "I"] ++ wsX40)
def wsX4_write : List Cond := .code yX4_write cX4_write 3 none :: ([.fieldLink RX4 19 "SeenNumbers$Sheet" "lane" "I", .fieldLink RX4 9 "SeenNumbers$Sheet" "cells" "[I"] ++ wsX40)
def wsX5_init : List Cond := .code yX5_init cX5_init 2 none :: ([.methodLink RX5 3 objectInit, .instanceMethod objectInit, .code objectInit ⟨#[0xb1]⟩ 1 none, .arrayClass .int, .fieldLink RX5 9 "SeenNumbers$Sight" "tops" "[I", .fieldLink RX5 15 "SeenNumbers$Sight" "numbers" "[I", .fieldLink RX5 18 "SeenNumbers$Sight" "land" "LSeenNumbers$Land;"] ++ wsX50)
def wsX5_sumOfNumbers : List Cond := .code yX5_sumOfNumbers cX5_sumOfNumbers 3 (some .int) :: ([.fieldLink RX5 18 "SeenNumbers$Sight" "land" "LSeenNumbers$Land;", .fieldLink RX5 70 "SeenNumbers$Land" "houseCount" "I", .fieldLink RX5 15 "SeenNumbers$Sight" "numbers" "[I"] ++ wsX50 ++ wsX20)
def wsX5_housesWith : List Cond := .code yX5_housesWith cX5_housesWith 4 (some .int) :: ([.fieldLink RX5 18 "SeenNumbers$Sight" "land" "LSeenNumbers$Land;", .fieldLink RX5 70 "SeenNumbers$Land" "houseCount" "I", .fieldLink RX5 15 "SeenNumbers$Sight" "numbers" "[I"] ++ wsX50 ++ wsX20)
def wsX5_isSeenByOne_r1 : List Cond := [Cond.fieldLink RX5 18 "SeenNumbers$Sight" "land" "LSeenNumbers$Land;", Cond.fieldLink RX5 70 "SeenNumbers$Land" "houseCount" "I", Cond.fieldLink RX5 73 "SeenNumbers$Land" "houses" "[LSeenNumbers$House;", Cond.fieldLink RX5 77 "SeenNumbers$House" "place" "I", Cond.static yX8_isIn, Cond.initialized RX8, Cond.code yX8_isIn cX8_isIn 2 (some .boolean), Cond.methodLink RX5 80 yX5_isClear, Cond.instanceMethod yX5_isClear, Cond.selects RX5 yX5_isClear yX5_isClear, Cond.initialized RX5, Cond.code yX5_isClear cX5_isClear 9 (some .boolean), Cond.fieldLink RX5 55 "SeenNumbers$Land" "wide" "I", Cond.methodLink RX5 58 Lib.Math.abs.name, Cond.static Lib.Math.abs.name, Cond.initialized "java/lang/Math", Cond.code Lib.Math.abs.name Lib.Math.abs.code 1 (some .int), Cond.methodLink RX5 63 Lib.Math.max.name, Cond.static Lib.Math.max.name, Cond.code Lib.Math.max.name Lib.Math.max.code 2 (some .int), Cond.fieldLink RX5 28 "SeenNumbers$Sight" "fog" "I", Cond.fieldLink RX5 9 "SeenNumbers$Sight" "tops" "[I", Cond.static yX8_greatestCommon, Cond.code yX8_greatestCommon cX8_greatestCommon 3 (some .int)]
def wsX5_isSeenByOne_r2 : List Cond := [Cond.methodLink RX8 304 Lib.Math.max.name]
def wsX5_isSeenByOne : List Cond := .code yX5_isSeenByOne cX5_isSeenByOne 4 (some .boolean) :: ((wsX5_isSeenByOne_r1 ++ wsX5_isSeenByOne_r2) ++ wsX50 ++ wsX20 ++ wsX10)
def wsX5_seenAmong_r1 : List Cond := [Cond.fieldLink RX5 18 "SeenNumbers$Sight" "land" "LSeenNumbers$Land;", Cond.fieldLink RX5 70 "SeenNumbers$Land" "houseCount" "I", Cond.static yX8_isIn, Cond.initialized RX8, Cond.code yX8_isIn cX8_isIn 2 (some .boolean), Cond.methodLink RX5 96 yX5_isSeenByOne, Cond.instanceMethod yX5_isSeenByOne, Cond.selects RX5 yX5_isSeenByOne yX5_isSeenByOne, Cond.initialized RX5, Cond.code yX5_isSeenByOne cX5_isSeenByOne 4 (some .boolean), Cond.fieldLink RX5 73 "SeenNumbers$Land" "houses" "[LSeenNumbers$House;", Cond.fieldLink RX5 77 "SeenNumbers$House" "place" "I", Cond.methodLink RX5 80 yX5_isClear, Cond.instanceMethod yX5_isClear, Cond.selects RX5 yX5_isClear yX5_isClear, Cond.code yX5_isClear cX5_isClear 9 (some .boolean), Cond.fieldLink RX5 55 "SeenNumbers$Land" "wide" "I", Cond.methodLink RX5 58 Lib.Math.abs.name, Cond.static Lib.Math.abs.name, Cond.initialized "java/lang/Math", Cond.code Lib.Math.abs.name Lib.Math.abs.code 1 (some .int), Cond.methodLink RX5 63 Lib.Math.max.name, Cond.static Lib.Math.max.name, Cond.code Lib.Math.max.name Lib.Math.max.code 2 (some .int)]
def wsX5_seenAmong_r2 : List Cond := [Cond.fieldLink RX5 28 "SeenNumbers$Sight" "fog" "I", Cond.fieldLink RX5 9 "SeenNumbers$Sight" "tops" "[I", Cond.static yX8_greatestCommon, Cond.code yX8_greatestCommon cX8_greatestCommon 3 (some .int), Cond.methodLink RX8 304 Lib.Math.max.name]
def wsX5_seenAmong : List Cond := .code yX5_seenAmong cX5_seenAmong 5 (some .int) :: ((wsX5_seenAmong_r1 ++ wsX5_seenAmong_r2) ++ wsX50 ++ wsX20 ++ wsX10)
def wsX6_init : List Cond := .code yX6_init cX6_init 1 none :: ([.methodLink RX6 3 objectInit, .instanceMethod objectInit, .code objectInit ⟨#[0xb1]⟩ 1 none, .arrayClass .int, .fieldLink RX6 9 "SeenNumbers$Text" "ground" "[I", .fieldLink RX6 15 "SeenNumbers$Text" "kinds" "[I", .fieldLink RX6 18 "SeenNumbers$Text" "tall" "[I"] ++ wsX60)
def wsX6_take : List Cond := .code yX6_take cX6_take 2 (some .boolean) :: ([.fieldLink RX6 32 "SeenNumbers$Text" "place" "I", .fieldLink RX6 29 "SeenNumbers$Text" "length" "I", .fieldLink RX6 21 "SeenNumbers$Text" "row" "LSeenNumbers$Sheet;", .fieldLink RX6 72 "SeenNumbers$Sheet" "cells" "[I", .fieldLink RX6 25 "SeenNumbers$Text" "start" "I"] ++ wsX60 ++ wsX40)
def wsX6_takeDigit : List Cond := .code yX6_takeDigit cX6_takeDigit 4 (some .int) :: ([.fieldLink RX6 32 "SeenNumbers$Text" "place" "I", .fieldLink RX6 29 "SeenNumbers$Text" "length" "I", .fieldLink RX6 21 "SeenNumbers$Text" "row" "LSeenNumbers$Sheet;", .fieldLink RX6 72 "SeenNumbers$Sheet" "cells" "[I", .fieldLink RX6 25 "SeenNumbers$Text" "start" "I", .static yX8_isWithin, .initialized RX8, .code yX8_isWithin cX8_isWithin 3 (some .boolean)] ++ wsX60 ++ wsX40)
def wsX6_takeHead : List Cond := .code yX6_takeHead cX6_takeHead 1 (some .boolean) :: ([.fieldLink RX6 56 "SeenNumbers$Text" "high" "I", .fieldLink RX6 59 "SeenNumbers$Text" "wide" "I", .methodLink RX6 48 yX6_take, .instanceMethod yX6_take, .selects RX6 yX6_take yX6_take, .initialized RX6, .code yX6_take cX6_take 2 (some .boolean), .fieldLink RX6 32 "SeenNumbers$Text" "place" "I", .fieldLink RX6 29 "SeenNumbers$Text" "length" "I", .fieldLink RX6 21 "SeenNumbers$Text" "row" "LSeenNumbers$Sheet;", .fieldLink RX6 72 "SeenNumbers$Sheet" "cells" "[I", .fieldLink RX6 25 "SeenNumbers$Text" "start" "I", .methodLink RX6 52 yX6_takeDigit, .instanceMethod yX6_takeDigit, .selects RX6 yX6_takeDigit yX6_takeDigit, .code yX6_takeDigit cX6_takeDigit 4 (some .int), .static yX8_isWithin, .initialized RX8, .code yX8_isWithin cX8_isWithin 3 (some .boolean)] ++ wsX60 ++ wsX40)
def wsX6_takeKind : List Cond := .code yX6_takeKind cX6_takeKind 1 (some .int) :: ([.methodLink RX6 48 yX6_take, .instanceMethod yX6_take, .selects RX6 yX6_take yX6_take, .initialized RX6, .code yX6_take cX6_take 2 (some .boolean), .fieldLink RX6 32 "SeenNumbers$Text" "place" "I", .fieldLink RX6 29 "SeenNumbers$Text" "length" "I", .fieldLink RX6 21 "SeenNumbers$Text" "row" "LSeenNumbers$Sheet;", .fieldLink RX6 72 "SeenNumbers$Sheet" "cells" "[I", .fieldLink RX6 25 "SeenNumbers$Text" "start" "I"] ++ wsX60 ++ wsX40)
def wsX6_takeLetter : List Cond := .code yX6_takeLetter cX6_takeLetter 2 (some .int) :: ([.fieldLink RX6 38 "SeenNumbers$Text" "trees" "I", .fieldLink RX6 35 "SeenNumbers$Text" "houses" "I", .methodLink RX6 48 yX6_take, .instanceMethod yX6_take, .selects RX6 yX6_take yX6_take, .initialized RX6, .code yX6_take cX6_take 2 (some .boolean), .fieldLink RX6 32 "SeenNumbers$Text" "place" "I", .fieldLink RX6 29 "SeenNumbers$Text" "length" "I", .fieldLink RX6 21 "SeenNumbers$Text" "row" "LSeenNumbers$Sheet;", .fieldLink RX6 72 "SeenNumbers$Sheet" "cells" "[I", .fieldLink RX6 25 "SeenNumbers$Text" "start" "I", .methodLink RX6 69 yX6_takeKind, .instanceMethod yX6_takeKind, .selects RX6 yX6_takeKind yX6_takeKind, .code yX6_takeKind cX6_takeKind 1 (some .int)] ++ wsX60 ++ wsX40)
def wsX6_takeCell_r1 : List Cond := [Cond.fieldLink RX6 9 "SeenNumbers$Text" "ground" "[I", Cond.fieldLink RX6 15 "SeenNumbers$Text" "kinds" "[I", Cond.fieldLink RX6 18 "SeenNumbers$Text" "tall" "[I", Cond.methodLink RX6 52 yX6_takeDigit, Cond.instanceMethod yX6_takeDigit, Cond.selects RX6 yX6_takeDigit yX6_takeDigit, Cond.initialized RX6, Cond.code yX6_takeDigit cX6_takeDigit 4 (some .int), Cond.fieldLink RX6 32 "SeenNumbers$Text" "place" "I", Cond.fieldLink RX6 29 "SeenNumbers$Text" "length" "I", Cond.fieldLink RX6 21 "SeenNumbers$Text" "row" "LSeenNumbers$Sheet;", Cond.fieldLink RX6 72 "SeenNumbers$Sheet" "cells" "[I", Cond.fieldLink RX6 25 "SeenNumbers$Text" "start" "I", Cond.static yX8_isWithin, Cond.initialized RX8, Cond.code yX8_isWithin cX8_isWithin 3 (some .boolean), Cond.methodLink RX6 48 yX6_take, Cond.instanceMethod yX6_take, Cond.selects RX6 yX6_take yX6_take, Cond.code yX6_take cX6_take 2 (some .boolean), Cond.methodLink RX6 65 yX6_takeLetter, Cond.instanceMethod yX6_takeLetter, Cond.selects RX6 yX6_takeLetter yX6_takeLetter, Cond.code yX6_takeLetter cX6_takeLetter 2 (some .int)]
def wsX6_takeCell_r2 : List Cond := [Cond.fieldLink RX6 38 "SeenNumbers$Text" "trees" "I", Cond.fieldLink RX6 35 "SeenNumbers$Text" "houses" "I", Cond.methodLink RX6 69 yX6_takeKind, Cond.instanceMethod yX6_takeKind, Cond.selects RX6 yX6_takeKind yX6_takeKind, Cond.code yX6_takeKind cX6_takeKind 1 (some .int)]
def wsX6_takeCell : List Cond := .code yX6_takeCell cX6_takeCell 2 (some .boolean) :: ((wsX6_takeCell_r1 ++ wsX6_takeCell_r2) ++ wsX60 ++ wsX40)
def wsX6_takeRows_r1 : List Cond := [Cond.fieldLink RX6 56 "SeenNumbers$Text" "high" "I", Cond.fieldLink RX6 59 "SeenNumbers$Text" "wide" "I", Cond.methodLink RX6 48 yX6_take, Cond.instanceMethod yX6_take, Cond.selects RX6 yX6_take yX6_take, Cond.initialized RX6, Cond.code yX6_take cX6_take 2 (some .boolean), Cond.fieldLink RX6 32 "SeenNumbers$Text" "place" "I", Cond.fieldLink RX6 29 "SeenNumbers$Text" "length" "I", Cond.fieldLink RX6 21 "SeenNumbers$Text" "row" "LSeenNumbers$Sheet;", Cond.fieldLink RX6 72 "SeenNumbers$Sheet" "cells" "[I", Cond.fieldLink RX6 25 "SeenNumbers$Text" "start" "I", Cond.methodLink RX6 62 yX6_takeCell, Cond.instanceMethod yX6_takeCell, Cond.selects RX6 yX6_takeCell yX6_takeCell, Cond.code yX6_takeCell cX6_takeCell 2 (some .boolean), Cond.fieldLink RX6 9 "SeenNumbers$Text" "ground" "[I", Cond.fieldLink RX6 15 "SeenNumbers$Text" "kinds" "[I", Cond.fieldLink RX6 18 "SeenNumbers$Text" "tall" "[I", Cond.methodLink RX6 52 yX6_takeDigit, Cond.instanceMethod yX6_takeDigit, Cond.selects RX6 yX6_takeDigit yX6_takeDigit, Cond.code yX6_takeDigit cX6_takeDigit 4 (some .int), Cond.static yX8_isWithin]
def wsX6_takeRows_r2 : List Cond := [Cond.initialized RX8, Cond.code yX8_isWithin cX8_isWithin 3 (some .boolean), Cond.methodLink RX6 65 yX6_takeLetter, Cond.instanceMethod yX6_takeLetter, Cond.selects RX6 yX6_takeLetter yX6_takeLetter, Cond.code yX6_takeLetter cX6_takeLetter 2 (some .int), Cond.fieldLink RX6 38 "SeenNumbers$Text" "trees" "I", Cond.fieldLink RX6 35 "SeenNumbers$Text" "houses" "I", Cond.methodLink RX6 69 yX6_takeKind, Cond.instanceMethod yX6_takeKind, Cond.selects RX6 yX6_takeKind yX6_takeKind, Cond.code yX6_takeKind cX6_takeKind 1 (some .int)]
def wsX6_takeRows : List Cond := .code yX6_takeRows cX6_takeRows 3 (some .boolean) :: ((wsX6_takeRows_r1 ++ wsX6_takeRows_r2) ++ wsX60 ++ wsX40)
def wsX6_isTaken_r1 : List Cond := [Cond.fieldLink RX6 21 "SeenNumbers$Text" "row" "LSeenNumbers$Sheet;", Cond.fieldLink RX6 25 "SeenNumbers$Text" "start" "I", Cond.fieldLink RX6 29 "SeenNumbers$Text" "length" "I", Cond.fieldLink RX6 32 "SeenNumbers$Text" "place" "I", Cond.fieldLink RX6 35 "SeenNumbers$Text" "houses" "I", Cond.fieldLink RX6 38 "SeenNumbers$Text" "trees" "I", Cond.methodLink RX6 41 yX6_takeHead, Cond.instanceMethod yX6_takeHead, Cond.selects RX6 yX6_takeHead yX6_takeHead, Cond.initialized RX6, Cond.code yX6_takeHead cX6_takeHead 1 (some .boolean), Cond.fieldLink RX6 56 "SeenNumbers$Text" "high" "I", Cond.fieldLink RX6 59 "SeenNumbers$Text" "wide" "I", Cond.methodLink RX6 48 yX6_take, Cond.instanceMethod yX6_take, Cond.selects RX6 yX6_take yX6_take, Cond.code yX6_take cX6_take 2 (some .boolean), Cond.fieldLink RX6 72 "SeenNumbers$Sheet" "cells" "[I", Cond.methodLink RX6 52 yX6_takeDigit, Cond.instanceMethod yX6_takeDigit, Cond.selects RX6 yX6_takeDigit yX6_takeDigit, Cond.code yX6_takeDigit cX6_takeDigit 4 (some .int), Cond.static yX8_isWithin, Cond.initialized RX8]
def wsX6_isTaken_r2 : List Cond := [Cond.code yX8_isWithin cX8_isWithin 3 (some .boolean), Cond.methodLink RX6 45 yX6_takeRows, Cond.instanceMethod yX6_takeRows, Cond.selects RX6 yX6_takeRows yX6_takeRows, Cond.code yX6_takeRows cX6_takeRows 3 (some .boolean), Cond.methodLink RX6 62 yX6_takeCell, Cond.instanceMethod yX6_takeCell, Cond.selects RX6 yX6_takeCell yX6_takeCell, Cond.code yX6_takeCell cX6_takeCell 2 (some .boolean), Cond.fieldLink RX6 9 "SeenNumbers$Text" "ground" "[I", Cond.fieldLink RX6 15 "SeenNumbers$Text" "kinds" "[I", Cond.fieldLink RX6 18 "SeenNumbers$Text" "tall" "[I", Cond.methodLink RX6 65 yX6_takeLetter, Cond.instanceMethod yX6_takeLetter, Cond.selects RX6 yX6_takeLetter yX6_takeLetter, Cond.code yX6_takeLetter cX6_takeLetter 2 (some .int), Cond.methodLink RX6 69 yX6_takeKind, Cond.instanceMethod yX6_takeKind, Cond.selects RX6 yX6_takeKind yX6_takeKind, Cond.code yX6_takeKind cX6_takeKind 1 (some .int)]
def wsX6_isTaken : List Cond := .code yX6_isTaken cX6_isTaken 4 (some .boolean) :: ((wsX6_isTaken_r1 ++ wsX6_isTaken_r2) ++ wsX60 ++ wsX40)
def wsX8_init_r1 : List Cond := [Cond.methodLink RX8 5 objectInit, Cond.instanceMethod objectInit, Cond.code objectInit ⟨#[0xb1]⟩ 1 none, Cond.classLink RX8 11 RX4, Cond.fieldLink RX8 13 "SeenNumbers" "sheets" "[LSeenNumbers$Sheet;", Cond.instantiable RX4 3, Cond.initialized RX4, Cond.classLink RX8 18 RX6, Cond.instantiable RX6 11, Cond.initialized RX6, Cond.fieldLink RX8 21 "SeenNumbers" "text" "LSeenNumbers$Text;", Cond.classLink RX8 25 RX2, Cond.instantiable RX2 13, Cond.initialized RX2, Cond.fieldLink RX8 28 "SeenNumbers" "plot" "LSeenNumbers$Land;", Cond.classLink RX8 32 RX5, Cond.instantiable RX5 4, Cond.initialized RX5, Cond.fieldLink RX8 37 "SeenNumbers" "sight" "LSeenNumbers$Sight;", Cond.classLink RX8 41 RX0, Cond.instantiable RX0 2, Cond.initialized RX0, Cond.fieldLink RX8 46 "SeenNumbers" "finder" "LSeenNumbers$Finder;", Cond.classLink RX8 50 RX3]
def wsX8_init_r2 : List Cond := [Cond.instantiable RX3 6, Cond.initialized RX3, Cond.fieldLink RX8 53 "SeenNumbers" "readings" "LSeenNumbers$Readings;", Cond.instanceMethod yX4_init, Cond.code yX4_init cX4_init 1 none, Cond.methodLink RX4 3 objectInit, Cond.arrayClass .int, Cond.fieldLink RX4 9 "SeenNumbers$Sheet" "cells" "[I", Cond.fieldLink RX4 15 "SeenNumbers$Sheet" "size" "I", Cond.instanceMethod yX6_init, Cond.code yX6_init cX6_init 1 none, Cond.methodLink RX6 3 objectInit, Cond.fieldLink RX6 9 "SeenNumbers$Text" "ground" "[I", Cond.fieldLink RX6 15 "SeenNumbers$Text" "kinds" "[I", Cond.fieldLink RX6 18 "SeenNumbers$Text" "tall" "[I", Cond.methodLink RX8 27 yX2_init, Cond.instanceMethod yX2_init, Cond.code yX2_init cX2_init 2 none, Cond.methodLink RX2 3 objectInit, Cond.fieldLink RX2 9 "SeenNumbers$Land" "ground" "[I", Cond.fieldLink RX2 15 "SeenNumbers$Land" "walls" "[I", Cond.fieldLink RX2 18 "SeenNumbers$Land" "thing" "[I", Cond.classLink RX2 21 RX1, Cond.fieldLink RX2 23 "SeenNumbers$Land" "houses" "[LSeenNumbers$House;"]
def wsX8_init_r3 : List Cond := [Cond.classLink RX2 27 RX7, Cond.fieldLink RX2 29 "SeenNumbers$Land" "trees" "[LSeenNumbers$Tree;", Cond.instantiable RX1 4, Cond.initialized RX1, Cond.instantiable RX7 2, Cond.initialized RX7, Cond.instanceMethod yX1_init, Cond.code yX1_init cX1_init 1 none, Cond.methodLink RX1 3 objectInit, Cond.instanceMethod yX7_init, Cond.code yX7_init cX7_init 1 none, Cond.methodLink RX7 1 objectInit, Cond.methodLink RX8 34 yX5_init, Cond.instanceMethod yX5_init, Cond.code yX5_init cX5_init 2 none, Cond.methodLink RX5 3 objectInit, Cond.fieldLink RX5 9 "SeenNumbers$Sight" "tops" "[I", Cond.fieldLink RX5 15 "SeenNumbers$Sight" "numbers" "[I", Cond.fieldLink RX5 18 "SeenNumbers$Sight" "land" "LSeenNumbers$Land;", Cond.methodLink RX8 43 yX0_init, Cond.instanceMethod yX0_init, Cond.code yX0_init cX0_init 3 none, Cond.methodLink RX0 3 objectInit, Cond.fieldLink RX0 9 "SeenNumbers$Finder" "land" "LSeenNumbers$Land;"]
def wsX8_init_r4 : List Cond := [Cond.fieldLink RX0 15 "SeenNumbers$Finder" "sight" "LSeenNumbers$Sight;", Cond.methodLink RX8 52 yX3_init, Cond.instanceMethod yX3_init, Cond.code yX3_init cX3_init 3 none, Cond.methodLink RX3 3 objectInit, Cond.fieldLink RX3 9 "SeenNumbers$Readings" "houses" "[I", Cond.fieldLink RX3 15 "SeenNumbers$Readings" "years" "[I", Cond.fieldLink RX3 18 "SeenNumbers$Readings" "numbers" "[I", Cond.fieldLink RX3 21 "SeenNumbers$Readings" "land" "LSeenNumbers$Land;", Cond.fieldLink RX3 25 "SeenNumbers$Readings" "sight" "LSeenNumbers$Sight;"]
def wsX8_init : List Cond := .code yX8_init cX8_init 2 none :: ((wsX8_init_r1 ++ (wsX8_init_r2 ++ (wsX8_init_r3 ++ wsX8_init_r4))) ++ wsX80 ++ wsX40 ++ wsX60 ++ wsX20 ++ wsX50 ++ wsX00 ++ wsX30 ++ wsX10 ++ wsX70)
def wsX8_isSheet : List Cond := .code yX8_isSheet cX8_isSheet 1 (some .boolean) :: ([.methodLink RX8 65 yX8_isWithin, .static yX8_isWithin, .initialized RX8, .code yX8_isWithin cX8_isWithin 3 (some .boolean)])
def wsX8_answerFault : List Cond := .code yX8_answerFault cX8_answerFault 2 (some .int) :: ([.fieldLink RX8 57 "SeenNumbers" "latestFault" "I"] ++ wsX80)
def wsX8_land_r1 : List Cond := [Cond.fieldLink RX8 57 "SeenNumbers" "latestFault" "I", Cond.fieldLink RX8 13 "SeenNumbers" "sheets" "[LSeenNumbers$Sheet;", Cond.fieldLink RX8 21 "SeenNumbers" "text" "LSeenNumbers$Text;", Cond.fieldLink RX8 84 "SeenNumbers$Text" "place" "I", Cond.fieldLink RX8 28 "SeenNumbers" "plot" "LSeenNumbers$Land;", Cond.fieldLink RX8 53 "SeenNumbers" "readings" "LSeenNumbers$Readings;", Cond.fieldLink RX8 91 "SeenNumbers$Readings" "count" "I", Cond.fieldLink RX8 94 "SeenNumbers$Land" "cells" "I", Cond.methodLink RX8 61 yX8_isSheet, Cond.static yX8_isSheet, Cond.initialized RX8, Cond.code yX8_isSheet cX8_isSheet 1 (some .boolean), Cond.methodLink RX8 65 yX8_isWithin, Cond.static yX8_isWithin, Cond.code yX8_isWithin cX8_isWithin 3 (some .boolean), Cond.methodLink RX8 69 yX4_faultAs, Cond.instanceMethod yX4_faultAs, Cond.selects RX4 yX4_faultAs yX4_faultAs, Cond.initialized RX4, Cond.code yX4_faultAs cX4_faultAs 2 (some .int), Cond.fieldLink RX4 19 "SeenNumbers$Sheet" "lane" "I", Cond.methodLink RX4 22 yX4_hasRow, Cond.instanceMethod yX4_hasRow, Cond.selects RX4 yX4_hasRow yX4_hasRow]
def wsX8_land_r2 : List Cond := [Cond.code yX4_hasRow cX4_hasRow 1 (some .boolean), Cond.fieldLink RX4 15 "SeenNumbers$Sheet" "size" "I", Cond.methodLink RX8 73 yX4_holdsRun, Cond.instanceMethod yX4_holdsRun, Cond.selects RX4 yX4_holdsRun yX4_holdsRun, Cond.code yX4_holdsRun cX4_holdsRun 3 (some .boolean), Cond.methodLink RX8 77 yX8_answerFault, Cond.instanceMethod yX8_answerFault, Cond.selects RX8 yX8_answerFault yX8_answerFault, Cond.code yX8_answerFault cX8_answerFault 2 (some .int), Cond.methodLink RX8 80 yX6_isTaken, Cond.instanceMethod yX6_isTaken, Cond.selects RX6 yX6_isTaken yX6_isTaken, Cond.initialized RX6, Cond.code yX6_isTaken cX6_isTaken 4 (some .boolean), Cond.fieldLink RX6 21 "SeenNumbers$Text" "row" "LSeenNumbers$Sheet;", Cond.fieldLink RX6 25 "SeenNumbers$Text" "start" "I", Cond.fieldLink RX6 29 "SeenNumbers$Text" "length" "I", Cond.fieldLink RX6 32 "SeenNumbers$Text" "place" "I", Cond.fieldLink RX6 35 "SeenNumbers$Text" "houses" "I", Cond.fieldLink RX6 38 "SeenNumbers$Text" "trees" "I", Cond.methodLink RX6 41 yX6_takeHead, Cond.instanceMethod yX6_takeHead, Cond.selects RX6 yX6_takeHead yX6_takeHead]
def wsX8_land_r3 : List Cond := [Cond.code yX6_takeHead cX6_takeHead 1 (some .boolean), Cond.fieldLink RX6 56 "SeenNumbers$Text" "high" "I", Cond.fieldLink RX6 59 "SeenNumbers$Text" "wide" "I", Cond.methodLink RX6 48 yX6_take, Cond.instanceMethod yX6_take, Cond.selects RX6 yX6_take yX6_take, Cond.code yX6_take cX6_take 2 (some .boolean), Cond.fieldLink RX6 72 "SeenNumbers$Sheet" "cells" "[I", Cond.methodLink RX6 52 yX6_takeDigit, Cond.instanceMethod yX6_takeDigit, Cond.selects RX6 yX6_takeDigit yX6_takeDigit, Cond.code yX6_takeDigit cX6_takeDigit 4 (some .int), Cond.methodLink RX6 45 yX6_takeRows, Cond.instanceMethod yX6_takeRows, Cond.selects RX6 yX6_takeRows yX6_takeRows, Cond.code yX6_takeRows cX6_takeRows 3 (some .boolean), Cond.methodLink RX6 62 yX6_takeCell, Cond.instanceMethod yX6_takeCell, Cond.selects RX6 yX6_takeCell yX6_takeCell, Cond.code yX6_takeCell cX6_takeCell 2 (some .boolean), Cond.fieldLink RX6 9 "SeenNumbers$Text" "ground" "[I", Cond.fieldLink RX6 15 "SeenNumbers$Text" "kinds" "[I", Cond.fieldLink RX6 18 "SeenNumbers$Text" "tall" "[I", Cond.methodLink RX6 65 yX6_takeLetter]
def wsX8_land_r4 : List Cond := [Cond.instanceMethod yX6_takeLetter, Cond.selects RX6 yX6_takeLetter yX6_takeLetter, Cond.code yX6_takeLetter cX6_takeLetter 2 (some .int), Cond.methodLink RX6 69 yX6_takeKind, Cond.instanceMethod yX6_takeKind, Cond.selects RX6 yX6_takeKind yX6_takeKind, Cond.code yX6_takeKind cX6_takeKind 1 (some .int), Cond.methodLink RX8 87 yX2_makeAnew, Cond.instanceMethod yX2_makeAnew, Cond.selects RX2 yX2_makeAnew yX2_makeAnew, Cond.initialized RX2, Cond.code yX2_makeAnew cX2_makeAnew 3 none, Cond.fieldLink RX2 53 "SeenNumbers$Text" "wide" "I", Cond.fieldLink RX2 58 "SeenNumbers$Land" "wide" "I", Cond.fieldLink RX2 59 "SeenNumbers$Text" "high" "I", Cond.fieldLink RX2 35 "SeenNumbers$Land" "cells" "I", Cond.fieldLink RX2 43 "SeenNumbers$Land" "houseCount" "I", Cond.fieldLink RX2 46 "SeenNumbers$Land" "treeCount" "I", Cond.fieldLink RX2 62 "SeenNumbers$Land" "felled" "I", Cond.fieldLink RX2 65 "SeenNumbers$Land" "year" "I", Cond.fieldLink RX2 68 "SeenNumbers$Land" "fog" "I", Cond.fieldLink RX2 71 "SeenNumbers$Land" "law" "I", Cond.fieldLink RX2 9 "SeenNumbers$Land" "ground" "[I", Cond.fieldLink RX2 74 "SeenNumbers$Text" "ground" "[I"]
def wsX8_land_r5 : List Cond := [Cond.fieldLink RX2 15 "SeenNumbers$Land" "walls" "[I", Cond.fieldLink RX2 18 "SeenNumbers$Land" "thing" "[I", Cond.fieldLink RX2 75 "SeenNumbers$Text" "kinds" "[I", Cond.fieldLink RX2 78 "SeenNumbers$Text" "tall" "[I", Cond.methodLink RX2 81 yX2_settle, Cond.instanceMethod yX2_settle, Cond.selects RX2 yX2_settle yX2_settle, Cond.code yX2_settle cX2_settle 5 (some .int), Cond.fieldLink RX2 29 "SeenNumbers$Land" "trees" "[LSeenNumbers$Tree;", Cond.fieldLink RX2 85 "SeenNumbers$Tree" "place" "I", Cond.fieldLink RX2 88 "SeenNumbers$Tree" "tallAtFirst" "I", Cond.fieldLink RX2 23 "SeenNumbers$Land" "houses" "[LSeenNumbers$House;", Cond.fieldLink RX2 91 "SeenNumbers$House" "kind" "I", Cond.fieldLink RX2 94 "SeenNumbers$House" "place" "I", Cond.fieldLink RX2 95 "SeenNumbers$House" "tallAtFirst" "I", Cond.fieldLink RX2 96 "SeenNumbers$House" "floorsOn" "I"]
def wsX8_land : List Cond := .code yX8_land cX8_land 7 (some .int) :: ((wsX8_land_r1 ++ (wsX8_land_r2 ++ (wsX8_land_r3 ++ (wsX8_land_r4 ++ wsX8_land_r5)))) ++ wsX80 ++ wsX60 ++ wsX30 ++ wsX20 ++ wsX40 ++ wsX70 ++ wsX10)
def wsX8_ofCell_r1 : List Cond := [Cond.fieldLink RX8 28 "SeenNumbers" "plot" "LSeenNumbers$Land;", Cond.fieldLink RX8 100 "SeenNumbers$Land" "ground" "[I", Cond.fieldLink RX8 107 "SeenNumbers$Land" "thing" "[I", Cond.methodLink RX8 97 yX2_hasCell, Cond.instanceMethod yX2_hasCell, Cond.selects RX2 yX2_hasCell yX2_hasCell, Cond.initialized RX2, Cond.code yX2_hasCell cX2_hasCell 2 (some .boolean), Cond.fieldLink RX2 35 "SeenNumbers$Land" "cells" "I", Cond.static yX8_isWithin, Cond.initialized RX8, Cond.code yX8_isWithin cX8_isWithin 3 (some .boolean), Cond.methodLink RX8 104 yX2_topOf, Cond.instanceMethod yX2_topOf, Cond.selects RX2 yX2_topOf yX2_topOf, Cond.code yX2_topOf cX2_topOf 2 (some .int), Cond.fieldLink RX2 9 "SeenNumbers$Land" "ground" "[I", Cond.methodLink RX2 103 yX2_tallOn, Cond.instanceMethod yX2_tallOn, Cond.selects RX2 yX2_tallOn yX2_tallOn, Cond.code yX2_tallOn cX2_tallOn 4 (some .int), Cond.fieldLink RX2 18 "SeenNumbers$Land" "thing" "[I", Cond.fieldLink RX2 65 "SeenNumbers$Land" "year" "I", Cond.fieldLink RX2 62 "SeenNumbers$Land" "felled" "I"]
def wsX8_ofCell_r2 : List Cond := [Cond.fieldLink RX2 23 "SeenNumbers$Land" "houses" "[LSeenNumbers$House;", Cond.fieldLink RX2 96 "SeenNumbers$House" "floorsOn" "I", Cond.fieldLink RX2 71 "SeenNumbers$Land" "law" "I", Cond.fieldLink RX2 15 "SeenNumbers$Land" "walls" "[I", Cond.methodLink RX2 107 yX2_treeTall, Cond.instanceMethod yX2_treeTall, Cond.selects RX2 yX2_treeTall yX2_treeTall, Cond.code yX2_treeTall cX2_treeTall 4 (some .int), Cond.fieldLink RX2 29 "SeenNumbers$Land" "trees" "[LSeenNumbers$Tree;", Cond.fieldLink RX2 88 "SeenNumbers$Tree" "tallAtFirst" "I", Cond.static yX8_isIn, Cond.code yX8_isIn cX8_isIn 2 (some .boolean), Cond.methodLink RX2 110 yX1_tallWith, Cond.instanceMethod yX1_tallWith, Cond.selects RX1 yX1_tallWith yX1_tallWith, Cond.initialized RX1, Cond.code yX1_tallWith cX1_tallWith 4 (some .int), Cond.fieldLink RX1 15 "SeenNumbers$House" "tallAtFirst" "I", Cond.methodLink RX1 18 yX1_isA, Cond.instanceMethod yX1_isA, Cond.selects RX1 yX1_isA yX1_isA, Cond.code yX1_isA cX1_isA 2 (some .boolean), Cond.fieldLink RX1 9 "SeenNumbers$House" "kind" "I"]
def wsX8_ofCell : List Cond := .code yX8_ofCell cX8_ofCell 3 (some .int) :: ((wsX8_ofCell_r1 ++ wsX8_ofCell_r2) ++ wsX80 ++ wsX20 ++ wsX10 ++ wsX70)
def wsX8_ofHouse_r1 : List Cond := [Cond.fieldLink RX8 28 "SeenNumbers" "plot" "LSeenNumbers$Land;", Cond.fieldLink RX8 113 "SeenNumbers$Land" "houses" "[LSeenNumbers$House;", Cond.fieldLink RX8 117 "SeenNumbers$House" "kind" "I", Cond.fieldLink RX8 122 "SeenNumbers$House" "place" "I", Cond.fieldLink RX8 123 "SeenNumbers$House" "tallAtFirst" "I", Cond.fieldLink RX8 126 "SeenNumbers$House" "floorsOn" "I", Cond.fieldLink RX8 129 "SeenNumbers$Land" "law" "I", Cond.methodLink RX8 110 yX2_hasHouse, Cond.instanceMethod yX2_hasHouse, Cond.selects RX2 yX2_hasHouse yX2_hasHouse, Cond.initialized RX2, Cond.code yX2_hasHouse cX2_hasHouse 2 (some .boolean), Cond.fieldLink RX2 43 "SeenNumbers$Land" "houseCount" "I", Cond.static yX8_isWithin, Cond.initialized RX8, Cond.code yX8_isWithin cX8_isWithin 3 (some .boolean), Cond.methodLink RX8 132 yX1_tallWith, Cond.instanceMethod yX1_tallWith, Cond.selects RX1 yX1_tallWith yX1_tallWith, Cond.initialized RX1, Cond.code yX1_tallWith cX1_tallWith 4 (some .int), Cond.fieldLink RX1 15 "SeenNumbers$House" "tallAtFirst" "I", Cond.methodLink RX1 18 yX1_isA, Cond.instanceMethod yX1_isA]
def wsX8_ofHouse_r2 : List Cond := [Cond.selects RX1 yX1_isA yX1_isA, Cond.code yX1_isA cX1_isA 2 (some .boolean), Cond.fieldLink RX1 9 "SeenNumbers$House" "kind" "I"]
def wsX8_ofHouse : List Cond := .code yX8_ofHouse cX8_ofHouse 4 (some .int) :: ((wsX8_ofHouse_r1 ++ wsX8_ofHouse_r2) ++ wsX80 ++ wsX20 ++ wsX10)
def wsX8_ofTree : List Cond := .code yX8_ofTree cX8_ofTree 3 (some .int) :: ([.fieldLink RX8 28 "SeenNumbers" "plot" "LSeenNumbers$Land;", .fieldLink RX8 139 "SeenNumbers$Land" "trees" "[LSeenNumbers$Tree;", .fieldLink RX8 143 "SeenNumbers$Tree" "place" "I", .fieldLink RX8 146 "SeenNumbers$Tree" "tallAtFirst" "I", .fieldLink RX8 147 "SeenNumbers$Land" "year" "I", .fieldLink RX8 150 "SeenNumbers$Land" "felled" "I", .methodLink RX8 136 yX2_hasTree, .instanceMethod yX2_hasTree, .selects RX2 yX2_hasTree yX2_hasTree, .initialized RX2, .code yX2_hasTree cX2_hasTree 2 (some .boolean), .fieldLink RX2 46 "SeenNumbers$Land" "treeCount" "I", .static yX8_isWithin, .initialized RX8, .code yX8_isWithin cX8_isWithin 3 (some .boolean), .methodLink RX8 153 yX2_treeTall, .instanceMethod yX2_treeTall, .selects RX2 yX2_treeTall yX2_treeTall, .code yX2_treeTall cX2_treeTall 4 (some .int), .fieldLink RX2 29 "SeenNumbers$Land" "trees" "[LSeenNumbers$Tree;", .fieldLink RX2 88 "SeenNumbers$Tree" "tallAtFirst" "I", .static yX8_isIn, .code yX8_isIn cX8_isIn 2 (some .boolean), .methodLink RX8 157 yX8_isIn] ++ wsX80 ++ wsX20 ++ wsX70)
def wsX8_times : List Cond := .code yX8_times cX8_times 4 (some .int) :: ([.fieldLink RX8 28 "SeenNumbers" "plot" "LSeenNumbers$Land;", .fieldLink RX8 147 "SeenNumbers$Land" "year" "I", .fieldLink RX8 164 "SeenNumbers$Land" "fog" "I", .fieldLink RX8 129 "SeenNumbers$Land" "law" "I", .methodLink RX8 65 yX8_isWithin, .static yX8_isWithin, .initialized RX8, .code yX8_isWithin cX8_isWithin 3 (some .boolean), .methodLink RX8 160 yX2_isThere, .instanceMethod yX2_isThere, .selects RX2 yX2_isThere yX2_isThere, .initialized RX2, .code yX2_isThere cX2_isThere 1 (some .boolean), .fieldLink RX2 35 "SeenNumbers$Land" "cells" "I"] ++ wsX80 ++ wsX20)
def wsX8_wall : List Cond := .code yX8_wall cX8_wall 4 (some .int) :: ([.fieldLink RX8 28 "SeenNumbers" "plot" "LSeenNumbers$Land;", .fieldLink RX8 170 "SeenNumbers$Land" "walls" "[I", .methodLink RX8 97 yX2_hasCell, .instanceMethod yX2_hasCell, .selects RX2 yX2_hasCell yX2_hasCell, .initialized RX2, .code yX2_hasCell cX2_hasCell 2 (some .boolean), .fieldLink RX2 35 "SeenNumbers$Land" "cells" "I", .static yX8_isWithin, .initialized RX8, .code yX8_isWithin cX8_isWithin 3 (some .boolean), .methodLink RX8 65 yX8_isWithin, .methodLink RX8 167 yX2_hasNothing, .instanceMethod yX2_hasNothing, .selects RX2 yX2_hasNothing yX2_hasNothing, .code yX2_hasNothing cX2_hasNothing 2 (some .boolean), .fieldLink RX2 18 "SeenNumbers$Land" "thing" "[I"] ++ wsX80 ++ wsX20)
def wsX8_floors : List Cond := .code yX8_floors cX8_floors 4 (some .int) :: ([.fieldLink RX8 28 "SeenNumbers" "plot" "LSeenNumbers$Land;", .fieldLink RX8 113 "SeenNumbers$Land" "houses" "[LSeenNumbers$House;", .fieldLink RX8 126 "SeenNumbers$House" "floorsOn" "I", .methodLink RX8 110 yX2_hasHouse, .instanceMethod yX2_hasHouse, .selects RX2 yX2_hasHouse yX2_hasHouse, .initialized RX2, .code yX2_hasHouse cX2_hasHouse 2 (some .boolean), .fieldLink RX2 43 "SeenNumbers$Land" "houseCount" "I", .static yX8_isWithin, .initialized RX8, .code yX8_isWithin cX8_isWithin 3 (some .boolean), .methodLink RX8 65 yX8_isWithin] ++ wsX80 ++ wsX20 ++ wsX10)
def wsX8_fell : List Cond := .code yX8_fell cX8_fell 3 (some .int) :: ([.fieldLink RX8 28 "SeenNumbers" "plot" "LSeenNumbers$Land;", .fieldLink RX8 150 "SeenNumbers$Land" "felled" "I", .methodLink RX8 136 yX2_hasTree, .instanceMethod yX2_hasTree, .selects RX2 yX2_hasTree yX2_hasTree, .initialized RX2, .code yX2_hasTree cX2_hasTree 2 (some .boolean), .fieldLink RX2 46 "SeenNumbers$Land" "treeCount" "I", .static yX8_isWithin, .initialized RX8, .code yX8_isWithin cX8_isWithin 3 (some .boolean), .methodLink RX8 157 yX8_isIn, .static yX8_isIn, .code yX8_isIn cX8_isIn 2 (some .boolean)] ++ wsX80 ++ wsX20)
def wsX8_see_r1 : List Cond := [Cond.fieldLink RX8 28 "SeenNumbers" "plot" "LSeenNumbers$Land;", Cond.fieldLink RX8 37 "SeenNumbers" "sight" "LSeenNumbers$Sight;", Cond.fieldLink RX8 113 "SeenNumbers$Land" "houses" "[LSeenNumbers$House;", Cond.fieldLink RX8 122 "SeenNumbers$House" "place" "I", Cond.methodLink RX8 110 yX2_hasHouse, Cond.instanceMethod yX2_hasHouse, Cond.selects RX2 yX2_hasHouse yX2_hasHouse, Cond.initialized RX2, Cond.code yX2_hasHouse cX2_hasHouse 2 (some .boolean), Cond.fieldLink RX2 43 "SeenNumbers$Land" "houseCount" "I", Cond.static yX8_isWithin, Cond.initialized RX8, Cond.code yX8_isWithin cX8_isWithin 3 (some .boolean), Cond.methodLink RX8 173 yX5_lookNow, Cond.instanceMethod yX5_lookNow, Cond.selects RX5 yX5_lookNow yX5_lookNow, Cond.initialized RX5, Cond.code yX5_lookNow cX5_lookNow 2 none, Cond.fieldLink RX5 18 "SeenNumbers$Sight" "land" "LSeenNumbers$Land;", Cond.fieldLink RX5 22 "SeenNumbers$Land" "fog" "I", Cond.fieldLink RX5 28 "SeenNumbers$Sight" "fog" "I", Cond.fieldLink RX5 29 "SeenNumbers$Land" "cells" "I", Cond.fieldLink RX5 9 "SeenNumbers$Sight" "tops" "[I", Cond.methodLink RX5 32 yX2_topOf]
def wsX8_see_r2 : List Cond := [Cond.instanceMethod yX2_topOf, Cond.selects RX2 yX2_topOf yX2_topOf, Cond.code yX2_topOf cX2_topOf 2 (some .int), Cond.fieldLink RX2 9 "SeenNumbers$Land" "ground" "[I", Cond.methodLink RX2 103 yX2_tallOn, Cond.instanceMethod yX2_tallOn, Cond.selects RX2 yX2_tallOn yX2_tallOn, Cond.code yX2_tallOn cX2_tallOn 4 (some .int), Cond.fieldLink RX2 18 "SeenNumbers$Land" "thing" "[I", Cond.fieldLink RX2 65 "SeenNumbers$Land" "year" "I", Cond.fieldLink RX2 62 "SeenNumbers$Land" "felled" "I", Cond.fieldLink RX2 23 "SeenNumbers$Land" "houses" "[LSeenNumbers$House;", Cond.fieldLink RX2 96 "SeenNumbers$House" "floorsOn" "I", Cond.fieldLink RX2 71 "SeenNumbers$Land" "law" "I", Cond.fieldLink RX2 15 "SeenNumbers$Land" "walls" "[I", Cond.methodLink RX2 107 yX2_treeTall, Cond.instanceMethod yX2_treeTall, Cond.selects RX2 yX2_treeTall yX2_treeTall, Cond.code yX2_treeTall cX2_treeTall 4 (some .int), Cond.fieldLink RX2 29 "SeenNumbers$Land" "trees" "[LSeenNumbers$Tree;", Cond.fieldLink RX2 88 "SeenNumbers$Tree" "tallAtFirst" "I", Cond.static yX8_isIn, Cond.code yX8_isIn cX8_isIn 2 (some .boolean), Cond.methodLink RX2 110 yX1_tallWith]
def wsX8_see_r3 : List Cond := [Cond.instanceMethod yX1_tallWith, Cond.selects RX1 yX1_tallWith yX1_tallWith, Cond.initialized RX1, Cond.code yX1_tallWith cX1_tallWith 4 (some .int), Cond.fieldLink RX1 15 "SeenNumbers$House" "tallAtFirst" "I", Cond.methodLink RX1 18 yX1_isA, Cond.instanceMethod yX1_isA, Cond.selects RX1 yX1_isA yX1_isA, Cond.code yX1_isA cX1_isA 2 (some .boolean), Cond.fieldLink RX1 9 "SeenNumbers$House" "kind" "I", Cond.methodLink RX8 176 yX5_isClear, Cond.instanceMethod yX5_isClear, Cond.selects RX5 yX5_isClear yX5_isClear, Cond.code yX5_isClear cX5_isClear 9 (some .boolean), Cond.fieldLink RX5 55 "SeenNumbers$Land" "wide" "I", Cond.methodLink RX5 58 Lib.Math.abs.name, Cond.static Lib.Math.abs.name, Cond.initialized "java/lang/Math", Cond.code Lib.Math.abs.name Lib.Math.abs.code 1 (some .int), Cond.methodLink RX5 63 Lib.Math.max.name, Cond.static Lib.Math.max.name, Cond.code Lib.Math.max.name Lib.Math.max.code 2 (some .int), Cond.static yX8_greatestCommon, Cond.code yX8_greatestCommon cX8_greatestCommon 3 (some .int)]
def wsX8_see_r4 : List Cond := [Cond.methodLink RX8 304 Lib.Math.max.name]
def wsX8_see : List Cond := .code yX8_see cX8_see 3 (some .int) :: ((wsX8_see_r1 ++ (wsX8_see_r2 ++ (wsX8_see_r3 ++ wsX8_see_r4))) ++ wsX80 ++ wsX20 ++ wsX10 ++ wsX50 ++ wsX70)
def wsX8_number_r1 : List Cond := [Cond.fieldLink RX8 28 "SeenNumbers" "plot" "LSeenNumbers$Land;", Cond.fieldLink RX8 37 "SeenNumbers" "sight" "LSeenNumbers$Sight;", Cond.methodLink RX8 110 yX2_hasHouse, Cond.instanceMethod yX2_hasHouse, Cond.selects RX2 yX2_hasHouse yX2_hasHouse, Cond.initialized RX2, Cond.code yX2_hasHouse cX2_hasHouse 2 (some .boolean), Cond.fieldLink RX2 43 "SeenNumbers$Land" "houseCount" "I", Cond.static yX8_isWithin, Cond.initialized RX8, Cond.code yX8_isWithin cX8_isWithin 3 (some .boolean), Cond.methodLink RX8 173 yX5_lookNow, Cond.instanceMethod yX5_lookNow, Cond.selects RX5 yX5_lookNow yX5_lookNow, Cond.initialized RX5, Cond.code yX5_lookNow cX5_lookNow 2 none, Cond.fieldLink RX5 18 "SeenNumbers$Sight" "land" "LSeenNumbers$Land;", Cond.fieldLink RX5 22 "SeenNumbers$Land" "fog" "I", Cond.fieldLink RX5 28 "SeenNumbers$Sight" "fog" "I", Cond.fieldLink RX5 29 "SeenNumbers$Land" "cells" "I", Cond.fieldLink RX5 9 "SeenNumbers$Sight" "tops" "[I", Cond.methodLink RX5 32 yX2_topOf, Cond.instanceMethod yX2_topOf, Cond.selects RX2 yX2_topOf yX2_topOf]
def wsX8_number_r2 : List Cond := [Cond.code yX2_topOf cX2_topOf 2 (some .int), Cond.fieldLink RX2 9 "SeenNumbers$Land" "ground" "[I", Cond.methodLink RX2 103 yX2_tallOn, Cond.instanceMethod yX2_tallOn, Cond.selects RX2 yX2_tallOn yX2_tallOn, Cond.code yX2_tallOn cX2_tallOn 4 (some .int), Cond.fieldLink RX2 18 "SeenNumbers$Land" "thing" "[I", Cond.fieldLink RX2 65 "SeenNumbers$Land" "year" "I", Cond.fieldLink RX2 62 "SeenNumbers$Land" "felled" "I", Cond.fieldLink RX2 23 "SeenNumbers$Land" "houses" "[LSeenNumbers$House;", Cond.fieldLink RX2 96 "SeenNumbers$House" "floorsOn" "I", Cond.fieldLink RX2 71 "SeenNumbers$Land" "law" "I", Cond.fieldLink RX2 15 "SeenNumbers$Land" "walls" "[I", Cond.methodLink RX2 107 yX2_treeTall, Cond.instanceMethod yX2_treeTall, Cond.selects RX2 yX2_treeTall yX2_treeTall, Cond.code yX2_treeTall cX2_treeTall 4 (some .int), Cond.fieldLink RX2 29 "SeenNumbers$Land" "trees" "[LSeenNumbers$Tree;", Cond.fieldLink RX2 88 "SeenNumbers$Tree" "tallAtFirst" "I", Cond.static yX8_isIn, Cond.code yX8_isIn cX8_isIn 2 (some .boolean), Cond.methodLink RX2 110 yX1_tallWith, Cond.instanceMethod yX1_tallWith, Cond.selects RX1 yX1_tallWith yX1_tallWith]
def wsX8_number_r3 : List Cond := [Cond.initialized RX1, Cond.code yX1_tallWith cX1_tallWith 4 (some .int), Cond.fieldLink RX1 15 "SeenNumbers$House" "tallAtFirst" "I", Cond.methodLink RX1 18 yX1_isA, Cond.instanceMethod yX1_isA, Cond.selects RX1 yX1_isA yX1_isA, Cond.code yX1_isA cX1_isA 2 (some .boolean), Cond.fieldLink RX1 9 "SeenNumbers$House" "kind" "I", Cond.methodLink RX8 179 yX5_numberOf, Cond.instanceMethod yX5_numberOf, Cond.selects RX5 yX5_numberOf yX5_numberOf, Cond.code yX5_numberOf cX5_numberOf 2 (some .int), Cond.fieldLink RX5 73 "SeenNumbers$Land" "houses" "[LSeenNumbers$House;", Cond.fieldLink RX5 77 "SeenNumbers$House" "place" "I", Cond.methodLink RX5 84 yX5_numberFrom, Cond.instanceMethod yX5_numberFrom, Cond.selects RX5 yX5_numberFrom yX5_numberFrom, Cond.code yX5_numberFrom cX5_numberFrom 5 (some .int), Cond.fieldLink RX5 70 "SeenNumbers$Land" "houseCount" "I", Cond.methodLink RX5 80 yX5_isClear, Cond.instanceMethod yX5_isClear, Cond.selects RX5 yX5_isClear yX5_isClear, Cond.code yX5_isClear cX5_isClear 9 (some .boolean), Cond.fieldLink RX5 55 "SeenNumbers$Land" "wide" "I"]
def wsX8_number_r4 : List Cond := [Cond.methodLink RX5 58 Lib.Math.abs.name, Cond.static Lib.Math.abs.name, Cond.initialized "java/lang/Math", Cond.code Lib.Math.abs.name Lib.Math.abs.code 1 (some .int), Cond.methodLink RX5 63 Lib.Math.max.name, Cond.static Lib.Math.max.name, Cond.code Lib.Math.max.name Lib.Math.max.code 2 (some .int), Cond.static yX8_greatestCommon, Cond.code yX8_greatestCommon cX8_greatestCommon 3 (some .int), Cond.methodLink RX8 304 Lib.Math.max.name]
def wsX8_number : List Cond := .code yX8_number cX8_number 2 (some .int) :: ((wsX8_number_r1 ++ (wsX8_number_r2 ++ (wsX8_number_r3 ++ wsX8_number_r4))) ++ wsX80 ++ wsX20 ++ wsX50 ++ wsX10 ++ wsX70)
def wsX8_having_r1 : List Cond := [Cond.fieldLink RX8 28 "SeenNumbers" "plot" "LSeenNumbers$Land;", Cond.fieldLink RX8 37 "SeenNumbers" "sight" "LSeenNumbers$Sight;", Cond.methodLink RX8 65 yX8_isWithin, Cond.static yX8_isWithin, Cond.initialized RX8, Cond.code yX8_isWithin cX8_isWithin 3 (some .boolean), Cond.methodLink RX8 160 yX2_isThere, Cond.instanceMethod yX2_isThere, Cond.selects RX2 yX2_isThere yX2_isThere, Cond.initialized RX2, Cond.code yX2_isThere cX2_isThere 1 (some .boolean), Cond.fieldLink RX2 35 "SeenNumbers$Land" "cells" "I", Cond.methodLink RX8 182 yX5_countAll, Cond.instanceMethod yX5_countAll, Cond.selects RX5 yX5_countAll yX5_countAll, Cond.initialized RX5, Cond.code yX5_countAll cX5_countAll 2 none, Cond.fieldLink RX5 18 "SeenNumbers$Sight" "land" "LSeenNumbers$Land;", Cond.fieldLink RX5 70 "SeenNumbers$Land" "houseCount" "I", Cond.fieldLink RX5 15 "SeenNumbers$Sight" "numbers" "[I", Cond.methodLink RX5 87 yX5_lookNow, Cond.instanceMethod yX5_lookNow, Cond.selects RX5 yX5_lookNow yX5_lookNow, Cond.code yX5_lookNow cX5_lookNow 2 none]
def wsX8_having_r2 : List Cond := [Cond.fieldLink RX5 22 "SeenNumbers$Land" "fog" "I", Cond.fieldLink RX5 28 "SeenNumbers$Sight" "fog" "I", Cond.fieldLink RX5 29 "SeenNumbers$Land" "cells" "I", Cond.fieldLink RX5 9 "SeenNumbers$Sight" "tops" "[I", Cond.methodLink RX5 32 yX2_topOf, Cond.instanceMethod yX2_topOf, Cond.selects RX2 yX2_topOf yX2_topOf, Cond.code yX2_topOf cX2_topOf 2 (some .int), Cond.fieldLink RX2 9 "SeenNumbers$Land" "ground" "[I", Cond.methodLink RX2 103 yX2_tallOn, Cond.instanceMethod yX2_tallOn, Cond.selects RX2 yX2_tallOn yX2_tallOn, Cond.code yX2_tallOn cX2_tallOn 4 (some .int), Cond.fieldLink RX2 18 "SeenNumbers$Land" "thing" "[I", Cond.fieldLink RX2 65 "SeenNumbers$Land" "year" "I", Cond.fieldLink RX2 62 "SeenNumbers$Land" "felled" "I", Cond.fieldLink RX2 23 "SeenNumbers$Land" "houses" "[LSeenNumbers$House;", Cond.fieldLink RX2 96 "SeenNumbers$House" "floorsOn" "I", Cond.fieldLink RX2 71 "SeenNumbers$Land" "law" "I", Cond.fieldLink RX2 15 "SeenNumbers$Land" "walls" "[I", Cond.methodLink RX2 107 yX2_treeTall, Cond.instanceMethod yX2_treeTall, Cond.selects RX2 yX2_treeTall yX2_treeTall, Cond.code yX2_treeTall cX2_treeTall 4 (some .int)]
def wsX8_having_r3 : List Cond := [Cond.fieldLink RX2 29 "SeenNumbers$Land" "trees" "[LSeenNumbers$Tree;", Cond.fieldLink RX2 88 "SeenNumbers$Tree" "tallAtFirst" "I", Cond.static yX8_isIn, Cond.code yX8_isIn cX8_isIn 2 (some .boolean), Cond.methodLink RX2 110 yX1_tallWith, Cond.instanceMethod yX1_tallWith, Cond.selects RX1 yX1_tallWith yX1_tallWith, Cond.initialized RX1, Cond.code yX1_tallWith cX1_tallWith 4 (some .int), Cond.fieldLink RX1 15 "SeenNumbers$House" "tallAtFirst" "I", Cond.methodLink RX1 18 yX1_isA, Cond.instanceMethod yX1_isA, Cond.selects RX1 yX1_isA yX1_isA, Cond.code yX1_isA cX1_isA 2 (some .boolean), Cond.fieldLink RX1 9 "SeenNumbers$House" "kind" "I", Cond.methodLink RX5 90 yX5_numberOf, Cond.instanceMethod yX5_numberOf, Cond.selects RX5 yX5_numberOf yX5_numberOf, Cond.code yX5_numberOf cX5_numberOf 2 (some .int), Cond.fieldLink RX5 73 "SeenNumbers$Land" "houses" "[LSeenNumbers$House;", Cond.fieldLink RX5 77 "SeenNumbers$House" "place" "I", Cond.methodLink RX5 84 yX5_numberFrom, Cond.instanceMethod yX5_numberFrom, Cond.selects RX5 yX5_numberFrom yX5_numberFrom]
def wsX8_having_r4 : List Cond := [Cond.code yX5_numberFrom cX5_numberFrom 5 (some .int), Cond.methodLink RX5 80 yX5_isClear, Cond.instanceMethod yX5_isClear, Cond.selects RX5 yX5_isClear yX5_isClear, Cond.code yX5_isClear cX5_isClear 9 (some .boolean), Cond.fieldLink RX5 55 "SeenNumbers$Land" "wide" "I", Cond.methodLink RX5 58 Lib.Math.abs.name, Cond.static Lib.Math.abs.name, Cond.initialized "java/lang/Math", Cond.code Lib.Math.abs.name Lib.Math.abs.code 1 (some .int), Cond.methodLink RX5 63 Lib.Math.max.name, Cond.static Lib.Math.max.name, Cond.code Lib.Math.max.name Lib.Math.max.code 2 (some .int), Cond.static yX8_greatestCommon, Cond.code yX8_greatestCommon cX8_greatestCommon 3 (some .int), Cond.methodLink RX8 304 Lib.Math.max.name, Cond.methodLink RX8 185 yX5_housesWith, Cond.instanceMethod yX5_housesWith, Cond.selects RX5 yX5_housesWith yX5_housesWith, Cond.code yX5_housesWith cX5_housesWith 4 (some .int)]
def wsX8_having : List Cond := .code yX8_having cX8_having 2 (some .int) :: ((wsX8_having_r1 ++ (wsX8_having_r2 ++ (wsX8_having_r3 ++ wsX8_having_r4))) ++ wsX80 ++ wsX20 ++ wsX50 ++ wsX10 ++ wsX70)
def wsX8_alone_r1 : List Cond := [Cond.fieldLink RX8 28 "SeenNumbers" "plot" "LSeenNumbers$Land;", Cond.fieldLink RX8 37 "SeenNumbers" "sight" "LSeenNumbers$Sight;", Cond.methodLink RX8 160 yX2_isThere, Cond.instanceMethod yX2_isThere, Cond.selects RX2 yX2_isThere yX2_isThere, Cond.initialized RX2, Cond.code yX2_isThere cX2_isThere 1 (some .boolean), Cond.fieldLink RX2 35 "SeenNumbers$Land" "cells" "I", Cond.methodLink RX8 182 yX5_countAll, Cond.instanceMethod yX5_countAll, Cond.selects RX5 yX5_countAll yX5_countAll, Cond.initialized RX5, Cond.code yX5_countAll cX5_countAll 2 none, Cond.fieldLink RX5 18 "SeenNumbers$Sight" "land" "LSeenNumbers$Land;", Cond.fieldLink RX5 70 "SeenNumbers$Land" "houseCount" "I", Cond.fieldLink RX5 15 "SeenNumbers$Sight" "numbers" "[I", Cond.methodLink RX5 87 yX5_lookNow, Cond.instanceMethod yX5_lookNow, Cond.selects RX5 yX5_lookNow yX5_lookNow, Cond.code yX5_lookNow cX5_lookNow 2 none, Cond.fieldLink RX5 22 "SeenNumbers$Land" "fog" "I", Cond.fieldLink RX5 28 "SeenNumbers$Sight" "fog" "I", Cond.fieldLink RX5 29 "SeenNumbers$Land" "cells" "I", Cond.fieldLink RX5 9 "SeenNumbers$Sight" "tops" "[I"]
def wsX8_alone_r2 : List Cond := [Cond.methodLink RX5 32 yX2_topOf, Cond.instanceMethod yX2_topOf, Cond.selects RX2 yX2_topOf yX2_topOf, Cond.code yX2_topOf cX2_topOf 2 (some .int), Cond.fieldLink RX2 9 "SeenNumbers$Land" "ground" "[I", Cond.methodLink RX2 103 yX2_tallOn, Cond.instanceMethod yX2_tallOn, Cond.selects RX2 yX2_tallOn yX2_tallOn, Cond.code yX2_tallOn cX2_tallOn 4 (some .int), Cond.fieldLink RX2 18 "SeenNumbers$Land" "thing" "[I", Cond.fieldLink RX2 65 "SeenNumbers$Land" "year" "I", Cond.fieldLink RX2 62 "SeenNumbers$Land" "felled" "I", Cond.fieldLink RX2 23 "SeenNumbers$Land" "houses" "[LSeenNumbers$House;", Cond.fieldLink RX2 96 "SeenNumbers$House" "floorsOn" "I", Cond.fieldLink RX2 71 "SeenNumbers$Land" "law" "I", Cond.fieldLink RX2 15 "SeenNumbers$Land" "walls" "[I", Cond.methodLink RX2 107 yX2_treeTall, Cond.instanceMethod yX2_treeTall, Cond.selects RX2 yX2_treeTall yX2_treeTall, Cond.code yX2_treeTall cX2_treeTall 4 (some .int), Cond.fieldLink RX2 29 "SeenNumbers$Land" "trees" "[LSeenNumbers$Tree;", Cond.fieldLink RX2 88 "SeenNumbers$Tree" "tallAtFirst" "I", Cond.static yX8_isIn, Cond.initialized RX8]
def wsX8_alone_r3 : List Cond := [Cond.code yX8_isIn cX8_isIn 2 (some .boolean), Cond.methodLink RX2 110 yX1_tallWith, Cond.instanceMethod yX1_tallWith, Cond.selects RX1 yX1_tallWith yX1_tallWith, Cond.initialized RX1, Cond.code yX1_tallWith cX1_tallWith 4 (some .int), Cond.fieldLink RX1 15 "SeenNumbers$House" "tallAtFirst" "I", Cond.methodLink RX1 18 yX1_isA, Cond.instanceMethod yX1_isA, Cond.selects RX1 yX1_isA yX1_isA, Cond.code yX1_isA cX1_isA 2 (some .boolean), Cond.fieldLink RX1 9 "SeenNumbers$House" "kind" "I", Cond.methodLink RX5 90 yX5_numberOf, Cond.instanceMethod yX5_numberOf, Cond.selects RX5 yX5_numberOf yX5_numberOf, Cond.code yX5_numberOf cX5_numberOf 2 (some .int), Cond.fieldLink RX5 73 "SeenNumbers$Land" "houses" "[LSeenNumbers$House;", Cond.fieldLink RX5 77 "SeenNumbers$House" "place" "I", Cond.methodLink RX5 84 yX5_numberFrom, Cond.instanceMethod yX5_numberFrom, Cond.selects RX5 yX5_numberFrom yX5_numberFrom, Cond.code yX5_numberFrom cX5_numberFrom 5 (some .int), Cond.methodLink RX5 80 yX5_isClear, Cond.instanceMethod yX5_isClear]
def wsX8_alone_r4 : List Cond := [Cond.selects RX5 yX5_isClear yX5_isClear, Cond.code yX5_isClear cX5_isClear 9 (some .boolean), Cond.fieldLink RX5 55 "SeenNumbers$Land" "wide" "I", Cond.methodLink RX5 58 Lib.Math.abs.name, Cond.static Lib.Math.abs.name, Cond.initialized "java/lang/Math", Cond.code Lib.Math.abs.name Lib.Math.abs.code 1 (some .int), Cond.methodLink RX5 63 Lib.Math.max.name, Cond.static Lib.Math.max.name, Cond.code Lib.Math.max.name Lib.Math.max.code 2 (some .int), Cond.static yX8_greatestCommon, Cond.code yX8_greatestCommon cX8_greatestCommon 3 (some .int), Cond.methodLink RX8 304 Lib.Math.max.name, Cond.methodLink RX8 185 yX5_housesWith, Cond.instanceMethod yX5_housesWith, Cond.selects RX5 yX5_housesWith yX5_housesWith, Cond.code yX5_housesWith cX5_housesWith 4 (some .int), Cond.methodLink RX8 188 yJ6_bitCount_0f7a4, Cond.static yJ6_bitCount_0f7a4, Cond.initialized RJ6, Cond.code yJ6_bitCount_0f7a4 cJ6_bitCount_0f7a4 1 (some .int), Cond.constant RJ6 265 (1431655765), Cond.constant RJ6 266 (858993459), Cond.constant RJ6 267 (252645135)]
def wsX8_alone : List Cond := .code yX8_alone cX8_alone 4 (some .int) :: ((wsX8_alone_r1 ++ (wsX8_alone_r2 ++ (wsX8_alone_r3 ++ wsX8_alone_r4))) ++ wsX80 ++ wsX20 ++ wsX50 ++ wsX10 ++ wsX70)
def wsX8_letter_r1 : List Cond := [Cond.fieldLink RX8 28 "SeenNumbers" "plot" "LSeenNumbers$Land;", Cond.fieldLink RX8 37 "SeenNumbers" "sight" "LSeenNumbers$Sight;", Cond.methodLink RX8 65 yX8_isWithin, Cond.static yX8_isWithin, Cond.initialized RX8, Cond.code yX8_isWithin cX8_isWithin 3 (some .boolean), Cond.methodLink RX8 160 yX2_isThere, Cond.instanceMethod yX2_isThere, Cond.selects RX2 yX2_isThere yX2_isThere, Cond.initialized RX2, Cond.code yX2_isThere cX2_isThere 1 (some .boolean), Cond.fieldLink RX2 35 "SeenNumbers$Land" "cells" "I", Cond.methodLink RX8 182 yX5_countAll, Cond.instanceMethod yX5_countAll, Cond.selects RX5 yX5_countAll yX5_countAll, Cond.initialized RX5, Cond.code yX5_countAll cX5_countAll 2 none, Cond.fieldLink RX5 18 "SeenNumbers$Sight" "land" "LSeenNumbers$Land;", Cond.fieldLink RX5 70 "SeenNumbers$Land" "houseCount" "I", Cond.fieldLink RX5 15 "SeenNumbers$Sight" "numbers" "[I", Cond.methodLink RX5 87 yX5_lookNow, Cond.instanceMethod yX5_lookNow, Cond.selects RX5 yX5_lookNow yX5_lookNow, Cond.code yX5_lookNow cX5_lookNow 2 none]
def wsX8_letter_r2 : List Cond := [Cond.fieldLink RX5 22 "SeenNumbers$Land" "fog" "I", Cond.fieldLink RX5 28 "SeenNumbers$Sight" "fog" "I", Cond.fieldLink RX5 29 "SeenNumbers$Land" "cells" "I", Cond.fieldLink RX5 9 "SeenNumbers$Sight" "tops" "[I", Cond.methodLink RX5 32 yX2_topOf, Cond.instanceMethod yX2_topOf, Cond.selects RX2 yX2_topOf yX2_topOf, Cond.code yX2_topOf cX2_topOf 2 (some .int), Cond.fieldLink RX2 9 "SeenNumbers$Land" "ground" "[I", Cond.methodLink RX2 103 yX2_tallOn, Cond.instanceMethod yX2_tallOn, Cond.selects RX2 yX2_tallOn yX2_tallOn, Cond.code yX2_tallOn cX2_tallOn 4 (some .int), Cond.fieldLink RX2 18 "SeenNumbers$Land" "thing" "[I", Cond.fieldLink RX2 65 "SeenNumbers$Land" "year" "I", Cond.fieldLink RX2 62 "SeenNumbers$Land" "felled" "I", Cond.fieldLink RX2 23 "SeenNumbers$Land" "houses" "[LSeenNumbers$House;", Cond.fieldLink RX2 96 "SeenNumbers$House" "floorsOn" "I", Cond.fieldLink RX2 71 "SeenNumbers$Land" "law" "I", Cond.fieldLink RX2 15 "SeenNumbers$Land" "walls" "[I", Cond.methodLink RX2 107 yX2_treeTall, Cond.instanceMethod yX2_treeTall, Cond.selects RX2 yX2_treeTall yX2_treeTall, Cond.code yX2_treeTall cX2_treeTall 4 (some .int)]
def wsX8_letter_r3 : List Cond := [Cond.fieldLink RX2 29 "SeenNumbers$Land" "trees" "[LSeenNumbers$Tree;", Cond.fieldLink RX2 88 "SeenNumbers$Tree" "tallAtFirst" "I", Cond.static yX8_isIn, Cond.code yX8_isIn cX8_isIn 2 (some .boolean), Cond.methodLink RX2 110 yX1_tallWith, Cond.instanceMethod yX1_tallWith, Cond.selects RX1 yX1_tallWith yX1_tallWith, Cond.initialized RX1, Cond.code yX1_tallWith cX1_tallWith 4 (some .int), Cond.fieldLink RX1 15 "SeenNumbers$House" "tallAtFirst" "I", Cond.methodLink RX1 18 yX1_isA, Cond.instanceMethod yX1_isA, Cond.selects RX1 yX1_isA yX1_isA, Cond.code yX1_isA cX1_isA 2 (some .boolean), Cond.fieldLink RX1 9 "SeenNumbers$House" "kind" "I", Cond.methodLink RX5 90 yX5_numberOf, Cond.instanceMethod yX5_numberOf, Cond.selects RX5 yX5_numberOf yX5_numberOf, Cond.code yX5_numberOf cX5_numberOf 2 (some .int), Cond.fieldLink RX5 73 "SeenNumbers$Land" "houses" "[LSeenNumbers$House;", Cond.fieldLink RX5 77 "SeenNumbers$House" "place" "I", Cond.methodLink RX5 84 yX5_numberFrom, Cond.instanceMethod yX5_numberFrom, Cond.selects RX5 yX5_numberFrom yX5_numberFrom]
def wsX8_letter_r4 : List Cond := [Cond.code yX5_numberFrom cX5_numberFrom 5 (some .int), Cond.methodLink RX5 80 yX5_isClear, Cond.instanceMethod yX5_isClear, Cond.selects RX5 yX5_isClear yX5_isClear, Cond.code yX5_isClear cX5_isClear 9 (some .boolean), Cond.fieldLink RX5 55 "SeenNumbers$Land" "wide" "I", Cond.methodLink RX5 58 Lib.Math.abs.name, Cond.static Lib.Math.abs.name, Cond.initialized "java/lang/Math", Cond.code Lib.Math.abs.name Lib.Math.abs.code 1 (some .int), Cond.methodLink RX5 63 Lib.Math.max.name, Cond.static Lib.Math.max.name, Cond.code Lib.Math.max.name Lib.Math.max.code 2 (some .int), Cond.static yX8_greatestCommon, Cond.code yX8_greatestCommon cX8_greatestCommon 3 (some .int), Cond.methodLink RX8 304 Lib.Math.max.name, Cond.methodLink RX8 185 yX5_housesWith, Cond.instanceMethod yX5_housesWith, Cond.selects RX5 yX5_housesWith yX5_housesWith, Cond.code yX5_housesWith cX5_housesWith 4 (some .int), Cond.methodLink RX8 193 yX5_seenAmong, Cond.instanceMethod yX5_seenAmong, Cond.selects RX5 yX5_seenAmong yX5_seenAmong, Cond.code yX5_seenAmong cX5_seenAmong 5 (some .int)]
def wsX8_letter_r5 : List Cond := [Cond.methodLink RX5 96 yX5_isSeenByOne, Cond.instanceMethod yX5_isSeenByOne, Cond.selects RX5 yX5_isSeenByOne yX5_isSeenByOne, Cond.code yX5_isSeenByOne cX5_isSeenByOne 4 (some .boolean)]
def wsX8_letter : List Cond := .code yX8_letter cX8_letter 3 (some .int) :: ((wsX8_letter_r1 ++ (wsX8_letter_r2 ++ (wsX8_letter_r3 ++ (wsX8_letter_r4 ++ wsX8_letter_r5)))) ++ wsX80 ++ wsX20 ++ wsX50 ++ wsX10 ++ wsX70)
def wsX8_mean_r1 : List Cond := [Cond.fieldLink RX8 28 "SeenNumbers" "plot" "LSeenNumbers$Land;", Cond.constantLong RX8 196 (-9223372036854775808), Cond.fieldLink RX8 198 "SeenNumbers$Land" "houseCount" "I", Cond.fieldLink RX8 37 "SeenNumbers" "sight" "LSeenNumbers$Sight;", Cond.methodLink RX8 65 yX8_isWithin, Cond.static yX8_isWithin, Cond.initialized RX8, Cond.code yX8_isWithin cX8_isWithin 3 (some .boolean), Cond.methodLink RX8 160 yX2_isThere, Cond.instanceMethod yX2_isThere, Cond.selects RX2 yX2_isThere yX2_isThere, Cond.initialized RX2, Cond.code yX2_isThere cX2_isThere 1 (some .boolean), Cond.fieldLink RX2 35 "SeenNumbers$Land" "cells" "I", Cond.methodLink RX8 182 yX5_countAll, Cond.instanceMethod yX5_countAll, Cond.selects RX5 yX5_countAll yX5_countAll, Cond.initialized RX5, Cond.code yX5_countAll cX5_countAll 2 none, Cond.fieldLink RX5 18 "SeenNumbers$Sight" "land" "LSeenNumbers$Land;", Cond.fieldLink RX5 70 "SeenNumbers$Land" "houseCount" "I", Cond.fieldLink RX5 15 "SeenNumbers$Sight" "numbers" "[I", Cond.methodLink RX5 87 yX5_lookNow, Cond.instanceMethod yX5_lookNow]
def wsX8_mean_r2 : List Cond := [Cond.selects RX5 yX5_lookNow yX5_lookNow, Cond.code yX5_lookNow cX5_lookNow 2 none, Cond.fieldLink RX5 22 "SeenNumbers$Land" "fog" "I", Cond.fieldLink RX5 28 "SeenNumbers$Sight" "fog" "I", Cond.fieldLink RX5 29 "SeenNumbers$Land" "cells" "I", Cond.fieldLink RX5 9 "SeenNumbers$Sight" "tops" "[I", Cond.methodLink RX5 32 yX2_topOf, Cond.instanceMethod yX2_topOf, Cond.selects RX2 yX2_topOf yX2_topOf, Cond.code yX2_topOf cX2_topOf 2 (some .int), Cond.fieldLink RX2 9 "SeenNumbers$Land" "ground" "[I", Cond.methodLink RX2 103 yX2_tallOn, Cond.instanceMethod yX2_tallOn, Cond.selects RX2 yX2_tallOn yX2_tallOn, Cond.code yX2_tallOn cX2_tallOn 4 (some .int), Cond.fieldLink RX2 18 "SeenNumbers$Land" "thing" "[I", Cond.fieldLink RX2 65 "SeenNumbers$Land" "year" "I", Cond.fieldLink RX2 62 "SeenNumbers$Land" "felled" "I", Cond.fieldLink RX2 23 "SeenNumbers$Land" "houses" "[LSeenNumbers$House;", Cond.fieldLink RX2 96 "SeenNumbers$House" "floorsOn" "I", Cond.fieldLink RX2 71 "SeenNumbers$Land" "law" "I", Cond.fieldLink RX2 15 "SeenNumbers$Land" "walls" "[I", Cond.methodLink RX2 107 yX2_treeTall, Cond.instanceMethod yX2_treeTall]
def wsX8_mean_r3 : List Cond := [Cond.selects RX2 yX2_treeTall yX2_treeTall, Cond.code yX2_treeTall cX2_treeTall 4 (some .int), Cond.fieldLink RX2 29 "SeenNumbers$Land" "trees" "[LSeenNumbers$Tree;", Cond.fieldLink RX2 88 "SeenNumbers$Tree" "tallAtFirst" "I", Cond.static yX8_isIn, Cond.code yX8_isIn cX8_isIn 2 (some .boolean), Cond.methodLink RX2 110 yX1_tallWith, Cond.instanceMethod yX1_tallWith, Cond.selects RX1 yX1_tallWith yX1_tallWith, Cond.initialized RX1, Cond.code yX1_tallWith cX1_tallWith 4 (some .int), Cond.fieldLink RX1 15 "SeenNumbers$House" "tallAtFirst" "I", Cond.methodLink RX1 18 yX1_isA, Cond.instanceMethod yX1_isA, Cond.selects RX1 yX1_isA yX1_isA, Cond.code yX1_isA cX1_isA 2 (some .boolean), Cond.fieldLink RX1 9 "SeenNumbers$House" "kind" "I", Cond.methodLink RX5 90 yX5_numberOf, Cond.instanceMethod yX5_numberOf, Cond.selects RX5 yX5_numberOf yX5_numberOf, Cond.code yX5_numberOf cX5_numberOf 2 (some .int), Cond.fieldLink RX5 73 "SeenNumbers$Land" "houses" "[LSeenNumbers$House;", Cond.fieldLink RX5 77 "SeenNumbers$House" "place" "I", Cond.methodLink RX5 84 yX5_numberFrom]
def wsX8_mean_r4 : List Cond := [Cond.instanceMethod yX5_numberFrom, Cond.selects RX5 yX5_numberFrom yX5_numberFrom, Cond.code yX5_numberFrom cX5_numberFrom 5 (some .int), Cond.methodLink RX5 80 yX5_isClear, Cond.instanceMethod yX5_isClear, Cond.selects RX5 yX5_isClear yX5_isClear, Cond.code yX5_isClear cX5_isClear 9 (some .boolean), Cond.fieldLink RX5 55 "SeenNumbers$Land" "wide" "I", Cond.methodLink RX5 58 Lib.Math.abs.name, Cond.static Lib.Math.abs.name, Cond.initialized "java/lang/Math", Cond.code Lib.Math.abs.name Lib.Math.abs.code 1 (some .int), Cond.methodLink RX5 63 Lib.Math.max.name, Cond.static Lib.Math.max.name, Cond.code Lib.Math.max.name Lib.Math.max.code 2 (some .int), Cond.static yX8_greatestCommon, Cond.code yX8_greatestCommon cX8_greatestCommon 3 (some .int), Cond.methodLink RX8 304 Lib.Math.max.name, Cond.methodLink RX8 201 yX5_sumOfNumbers, Cond.instanceMethod yX5_sumOfNumbers, Cond.selects RX5 yX5_sumOfNumbers yX5_sumOfNumbers, Cond.code yX5_sumOfNumbers cX5_sumOfNumbers 3 (some .int), Cond.methodLink RX8 205 yX8_greatestCommon]
def wsX8_mean : List Cond := .code yX8_mean cX8_mean 4 (some .long) :: ((wsX8_mean_r1 ++ (wsX8_mean_r2 ++ (wsX8_mean_r3 ++ wsX8_mean_r4))) ++ wsX80 ++ wsX20 ++ wsX50 ++ wsX10 ++ wsX70)
def wsX8_refusedFor : List Cond := .code yX8_refusedFor cX8_refusedFor 3 (some .int) :: ([.fieldLink RX8 28 "SeenNumbers" "plot" "LSeenNumbers$Land;", .methodLink RX8 110 yX2_hasHouse, .instanceMethod yX2_hasHouse, .selects RX2 yX2_hasHouse yX2_hasHouse, .initialized RX2, .code yX2_hasHouse cX2_hasHouse 2 (some .boolean), .fieldLink RX2 43 "SeenNumbers$Land" "houseCount" "I", .static yX8_isWithin, .initialized RX8, .code yX8_isWithin cX8_isWithin 3 (some .boolean), .methodLink RX8 65 yX8_isWithin] ++ wsX80 ++ wsX20)
def wsX8_walled_r1 : List Cond := [Cond.fieldLink RX8 46 "SeenNumbers" "finder" "LSeenNumbers$Finder;", Cond.methodLink RX8 208 yX8_refusedFor, Cond.instanceMethod yX8_refusedFor, Cond.selects RX8 yX8_refusedFor yX8_refusedFor, Cond.initialized RX8, Cond.code yX8_refusedFor cX8_refusedFor 3 (some .int), Cond.fieldLink RX8 28 "SeenNumbers" "plot" "LSeenNumbers$Land;", Cond.methodLink RX8 110 yX2_hasHouse, Cond.instanceMethod yX2_hasHouse, Cond.selects RX2 yX2_hasHouse yX2_hasHouse, Cond.initialized RX2, Cond.code yX2_hasHouse cX2_hasHouse 2 (some .boolean), Cond.fieldLink RX2 43 "SeenNumbers$Land" "houseCount" "I", Cond.static yX8_isWithin, Cond.code yX8_isWithin cX8_isWithin 3 (some .boolean), Cond.methodLink RX8 65 yX8_isWithin, Cond.methodLink RX8 211 yX0_lowestWall, Cond.instanceMethod yX0_lowestWall, Cond.selects RX0 yX0_lowestWall yX0_lowestWall, Cond.initialized RX0, Cond.code yX0_lowestWall cX0_lowestWall 6 (some .int), Cond.fieldLink RX0 15 "SeenNumbers$Finder" "sight" "LSeenNumbers$Sight;", Cond.fieldLink RX0 9 "SeenNumbers$Finder" "land" "LSeenNumbers$Land;", Cond.fieldLink RX0 24 "SeenNumbers$Land" "houses" "[LSeenNumbers$House;"]
def wsX8_walled_r2 : List Cond := [Cond.fieldLink RX0 30 "SeenNumbers$House" "place" "I", Cond.fieldLink RX0 36 "SeenNumbers$Land" "cells" "I", Cond.fieldLink RX0 43 "SeenNumbers$Land" "ground" "[I", Cond.methodLink RX0 19 yX5_lookNow, Cond.instanceMethod yX5_lookNow, Cond.selects RX5 yX5_lookNow yX5_lookNow, Cond.initialized RX5, Cond.code yX5_lookNow cX5_lookNow 2 none, Cond.fieldLink RX5 18 "SeenNumbers$Sight" "land" "LSeenNumbers$Land;", Cond.fieldLink RX5 22 "SeenNumbers$Land" "fog" "I", Cond.fieldLink RX5 28 "SeenNumbers$Sight" "fog" "I", Cond.fieldLink RX5 29 "SeenNumbers$Land" "cells" "I", Cond.fieldLink RX5 9 "SeenNumbers$Sight" "tops" "[I", Cond.methodLink RX5 32 yX2_topOf, Cond.instanceMethod yX2_topOf, Cond.selects RX2 yX2_topOf yX2_topOf, Cond.code yX2_topOf cX2_topOf 2 (some .int), Cond.fieldLink RX2 9 "SeenNumbers$Land" "ground" "[I", Cond.methodLink RX2 103 yX2_tallOn, Cond.instanceMethod yX2_tallOn, Cond.selects RX2 yX2_tallOn yX2_tallOn, Cond.code yX2_tallOn cX2_tallOn 4 (some .int), Cond.fieldLink RX2 18 "SeenNumbers$Land" "thing" "[I", Cond.fieldLink RX2 65 "SeenNumbers$Land" "year" "I"]
def wsX8_walled_r3 : List Cond := [Cond.fieldLink RX2 62 "SeenNumbers$Land" "felled" "I", Cond.fieldLink RX2 23 "SeenNumbers$Land" "houses" "[LSeenNumbers$House;", Cond.fieldLink RX2 96 "SeenNumbers$House" "floorsOn" "I", Cond.fieldLink RX2 71 "SeenNumbers$Land" "law" "I", Cond.fieldLink RX2 15 "SeenNumbers$Land" "walls" "[I", Cond.methodLink RX2 107 yX2_treeTall, Cond.instanceMethod yX2_treeTall, Cond.selects RX2 yX2_treeTall yX2_treeTall, Cond.code yX2_treeTall cX2_treeTall 4 (some .int), Cond.fieldLink RX2 29 "SeenNumbers$Land" "trees" "[LSeenNumbers$Tree;", Cond.fieldLink RX2 88 "SeenNumbers$Tree" "tallAtFirst" "I", Cond.static yX8_isIn, Cond.code yX8_isIn cX8_isIn 2 (some .boolean), Cond.methodLink RX2 110 yX1_tallWith, Cond.instanceMethod yX1_tallWith, Cond.selects RX1 yX1_tallWith yX1_tallWith, Cond.initialized RX1, Cond.code yX1_tallWith cX1_tallWith 4 (some .int), Cond.fieldLink RX1 15 "SeenNumbers$House" "tallAtFirst" "I", Cond.methodLink RX1 18 yX1_isA, Cond.instanceMethod yX1_isA, Cond.selects RX1 yX1_isA yX1_isA, Cond.code yX1_isA cX1_isA 2 (some .boolean), Cond.fieldLink RX1 9 "SeenNumbers$House" "kind" "I"]
def wsX8_walled_r4 : List Cond := [Cond.methodLink RX0 39 yX2_hasNothing, Cond.instanceMethod yX2_hasNothing, Cond.selects RX2 yX2_hasNothing yX2_hasNothing, Cond.code yX2_hasNothing cX2_hasNothing 2 (some .boolean), Cond.methodLink RX0 47 yX5_numberIf, Cond.instanceMethod yX5_numberIf, Cond.selects RX5 yX5_numberIf yX5_numberIf, Cond.code yX5_numberIf cX5_numberIf 6 (some .int), Cond.methodLink RX5 84 yX5_numberFrom, Cond.instanceMethod yX5_numberFrom, Cond.selects RX5 yX5_numberFrom yX5_numberFrom, Cond.code yX5_numberFrom cX5_numberFrom 5 (some .int), Cond.fieldLink RX5 70 "SeenNumbers$Land" "houseCount" "I", Cond.fieldLink RX5 73 "SeenNumbers$Land" "houses" "[LSeenNumbers$House;", Cond.fieldLink RX5 77 "SeenNumbers$House" "place" "I", Cond.methodLink RX5 80 yX5_isClear, Cond.instanceMethod yX5_isClear, Cond.selects RX5 yX5_isClear yX5_isClear, Cond.code yX5_isClear cX5_isClear 9 (some .boolean), Cond.fieldLink RX5 55 "SeenNumbers$Land" "wide" "I", Cond.methodLink RX5 58 Lib.Math.abs.name, Cond.static Lib.Math.abs.name, Cond.initialized "java/lang/Math", Cond.code Lib.Math.abs.name Lib.Math.abs.code 1 (some .int)]
def wsX8_walled_r5 : List Cond := [Cond.methodLink RX5 63 Lib.Math.max.name, Cond.static Lib.Math.max.name, Cond.code Lib.Math.max.name Lib.Math.max.code 2 (some .int), Cond.static yX8_greatestCommon, Cond.code yX8_greatestCommon cX8_greatestCommon 3 (some .int), Cond.methodLink RX8 304 Lib.Math.max.name]
def wsX8_walled : List Cond := .code yX8_walled cX8_walled 4 (some .int) :: ((wsX8_walled_r1 ++ (wsX8_walled_r2 ++ (wsX8_walled_r3 ++ (wsX8_walled_r4 ++ wsX8_walled_r5)))) ++ wsX80 ++ wsX20 ++ wsX00 ++ wsX10 ++ wsX50 ++ wsX70)
def wsX8_raised_r1 : List Cond := [Cond.fieldLink RX8 46 "SeenNumbers" "finder" "LSeenNumbers$Finder;", Cond.methodLink RX8 208 yX8_refusedFor, Cond.instanceMethod yX8_refusedFor, Cond.selects RX8 yX8_refusedFor yX8_refusedFor, Cond.initialized RX8, Cond.code yX8_refusedFor cX8_refusedFor 3 (some .int), Cond.fieldLink RX8 28 "SeenNumbers" "plot" "LSeenNumbers$Land;", Cond.methodLink RX8 110 yX2_hasHouse, Cond.instanceMethod yX2_hasHouse, Cond.selects RX2 yX2_hasHouse yX2_hasHouse, Cond.initialized RX2, Cond.code yX2_hasHouse cX2_hasHouse 2 (some .boolean), Cond.fieldLink RX2 43 "SeenNumbers$Land" "houseCount" "I", Cond.static yX8_isWithin, Cond.code yX8_isWithin cX8_isWithin 3 (some .boolean), Cond.methodLink RX8 65 yX8_isWithin, Cond.methodLink RX8 214 yX0_leastFloors, Cond.instanceMethod yX0_leastFloors, Cond.selects RX0 yX0_leastFloors yX0_leastFloors, Cond.initialized RX0, Cond.code yX0_leastFloors cX0_leastFloors 6 (some .int), Cond.fieldLink RX0 15 "SeenNumbers$Finder" "sight" "LSeenNumbers$Sight;", Cond.fieldLink RX0 9 "SeenNumbers$Finder" "land" "LSeenNumbers$Land;", Cond.fieldLink RX0 24 "SeenNumbers$Land" "houses" "[LSeenNumbers$House;"]
def wsX8_raised_r2 : List Cond := [Cond.fieldLink RX0 43 "SeenNumbers$Land" "ground" "[I", Cond.fieldLink RX0 30 "SeenNumbers$House" "place" "I", Cond.fieldLink RX0 51 "SeenNumbers$Land" "law" "I", Cond.methodLink RX0 19 yX5_lookNow, Cond.instanceMethod yX5_lookNow, Cond.selects RX5 yX5_lookNow yX5_lookNow, Cond.initialized RX5, Cond.code yX5_lookNow cX5_lookNow 2 none, Cond.fieldLink RX5 18 "SeenNumbers$Sight" "land" "LSeenNumbers$Land;", Cond.fieldLink RX5 22 "SeenNumbers$Land" "fog" "I", Cond.fieldLink RX5 28 "SeenNumbers$Sight" "fog" "I", Cond.fieldLink RX5 29 "SeenNumbers$Land" "cells" "I", Cond.fieldLink RX5 9 "SeenNumbers$Sight" "tops" "[I", Cond.methodLink RX5 32 yX2_topOf, Cond.instanceMethod yX2_topOf, Cond.selects RX2 yX2_topOf yX2_topOf, Cond.code yX2_topOf cX2_topOf 2 (some .int), Cond.fieldLink RX2 9 "SeenNumbers$Land" "ground" "[I", Cond.methodLink RX2 103 yX2_tallOn, Cond.instanceMethod yX2_tallOn, Cond.selects RX2 yX2_tallOn yX2_tallOn, Cond.code yX2_tallOn cX2_tallOn 4 (some .int), Cond.fieldLink RX2 18 "SeenNumbers$Land" "thing" "[I", Cond.fieldLink RX2 65 "SeenNumbers$Land" "year" "I"]
def wsX8_raised_r3 : List Cond := [Cond.fieldLink RX2 62 "SeenNumbers$Land" "felled" "I", Cond.fieldLink RX2 23 "SeenNumbers$Land" "houses" "[LSeenNumbers$House;", Cond.fieldLink RX2 96 "SeenNumbers$House" "floorsOn" "I", Cond.fieldLink RX2 71 "SeenNumbers$Land" "law" "I", Cond.fieldLink RX2 15 "SeenNumbers$Land" "walls" "[I", Cond.methodLink RX2 107 yX2_treeTall, Cond.instanceMethod yX2_treeTall, Cond.selects RX2 yX2_treeTall yX2_treeTall, Cond.code yX2_treeTall cX2_treeTall 4 (some .int), Cond.fieldLink RX2 29 "SeenNumbers$Land" "trees" "[LSeenNumbers$Tree;", Cond.fieldLink RX2 88 "SeenNumbers$Tree" "tallAtFirst" "I", Cond.static yX8_isIn, Cond.code yX8_isIn cX8_isIn 2 (some .boolean), Cond.methodLink RX2 110 yX1_tallWith, Cond.instanceMethod yX1_tallWith, Cond.selects RX1 yX1_tallWith yX1_tallWith, Cond.initialized RX1, Cond.code yX1_tallWith cX1_tallWith 4 (some .int), Cond.fieldLink RX1 15 "SeenNumbers$House" "tallAtFirst" "I", Cond.methodLink RX1 18 yX1_isA, Cond.instanceMethod yX1_isA, Cond.selects RX1 yX1_isA yX1_isA, Cond.code yX1_isA cX1_isA 2 (some .boolean), Cond.fieldLink RX1 9 "SeenNumbers$House" "kind" "I"]
def wsX8_raised_r4 : List Cond := [Cond.methodLink RX0 54 yX1_tallWith, Cond.methodLink RX0 47 yX5_numberIf, Cond.instanceMethod yX5_numberIf, Cond.selects RX5 yX5_numberIf yX5_numberIf, Cond.code yX5_numberIf cX5_numberIf 6 (some .int), Cond.methodLink RX5 84 yX5_numberFrom, Cond.instanceMethod yX5_numberFrom, Cond.selects RX5 yX5_numberFrom yX5_numberFrom, Cond.code yX5_numberFrom cX5_numberFrom 5 (some .int), Cond.fieldLink RX5 70 "SeenNumbers$Land" "houseCount" "I", Cond.fieldLink RX5 73 "SeenNumbers$Land" "houses" "[LSeenNumbers$House;", Cond.fieldLink RX5 77 "SeenNumbers$House" "place" "I", Cond.methodLink RX5 80 yX5_isClear, Cond.instanceMethod yX5_isClear, Cond.selects RX5 yX5_isClear yX5_isClear, Cond.code yX5_isClear cX5_isClear 9 (some .boolean), Cond.fieldLink RX5 55 "SeenNumbers$Land" "wide" "I", Cond.methodLink RX5 58 Lib.Math.abs.name, Cond.static Lib.Math.abs.name, Cond.initialized "java/lang/Math", Cond.code Lib.Math.abs.name Lib.Math.abs.code 1 (some .int), Cond.methodLink RX5 63 Lib.Math.max.name, Cond.static Lib.Math.max.name, Cond.code Lib.Math.max.name Lib.Math.max.code 2 (some .int)]
def wsX8_raised_r5 : List Cond := [Cond.static yX8_greatestCommon, Cond.code yX8_greatestCommon cX8_greatestCommon 3 (some .int), Cond.methodLink RX8 304 Lib.Math.max.name]
def wsX8_raised : List Cond := .code yX8_raised cX8_raised 4 (some .int) :: ((wsX8_raised_r1 ++ (wsX8_raised_r2 ++ (wsX8_raised_r3 ++ (wsX8_raised_r4 ++ wsX8_raised_r5)))) ++ wsX80 ++ wsX20 ++ wsX00 ++ wsX10 ++ wsX50 ++ wsX70)
def wsX8_felling_r1 : List Cond := [Cond.fieldLink RX8 46 "SeenNumbers" "finder" "LSeenNumbers$Finder;", Cond.methodLink RX8 208 yX8_refusedFor, Cond.instanceMethod yX8_refusedFor, Cond.selects RX8 yX8_refusedFor yX8_refusedFor, Cond.initialized RX8, Cond.code yX8_refusedFor cX8_refusedFor 3 (some .int), Cond.fieldLink RX8 28 "SeenNumbers" "plot" "LSeenNumbers$Land;", Cond.methodLink RX8 110 yX2_hasHouse, Cond.instanceMethod yX2_hasHouse, Cond.selects RX2 yX2_hasHouse yX2_hasHouse, Cond.initialized RX2, Cond.code yX2_hasHouse cX2_hasHouse 2 (some .boolean), Cond.fieldLink RX2 43 "SeenNumbers$Land" "houseCount" "I", Cond.static yX8_isWithin, Cond.code yX8_isWithin cX8_isWithin 3 (some .boolean), Cond.methodLink RX8 65 yX8_isWithin, Cond.methodLink RX8 217 yX0_fewestFelled, Cond.instanceMethod yX0_fewestFelled, Cond.selects RX0 yX0_fewestFelled yX0_fewestFelled, Cond.initialized RX0, Cond.code yX0_fewestFelled cX0_fewestFelled 7 (some .int), Cond.fieldLink RX0 15 "SeenNumbers$Finder" "sight" "LSeenNumbers$Sight;", Cond.fieldLink RX0 9 "SeenNumbers$Finder" "land" "LSeenNumbers$Land;", Cond.fieldLink RX0 58 "SeenNumbers$Land" "treeCount" "I"]
def wsX8_felling_r2 : List Cond := [Cond.fieldLink RX0 67 "SeenNumbers$Land" "felled" "I", Cond.methodLink RX0 19 yX5_lookNow, Cond.instanceMethod yX5_lookNow, Cond.selects RX5 yX5_lookNow yX5_lookNow, Cond.initialized RX5, Cond.code yX5_lookNow cX5_lookNow 2 none, Cond.fieldLink RX5 18 "SeenNumbers$Sight" "land" "LSeenNumbers$Land;", Cond.fieldLink RX5 22 "SeenNumbers$Land" "fog" "I", Cond.fieldLink RX5 28 "SeenNumbers$Sight" "fog" "I", Cond.fieldLink RX5 29 "SeenNumbers$Land" "cells" "I", Cond.fieldLink RX5 9 "SeenNumbers$Sight" "tops" "[I", Cond.methodLink RX5 32 yX2_topOf, Cond.instanceMethod yX2_topOf, Cond.selects RX2 yX2_topOf yX2_topOf, Cond.code yX2_topOf cX2_topOf 2 (some .int), Cond.fieldLink RX2 9 "SeenNumbers$Land" "ground" "[I", Cond.methodLink RX2 103 yX2_tallOn, Cond.instanceMethod yX2_tallOn, Cond.selects RX2 yX2_tallOn yX2_tallOn, Cond.code yX2_tallOn cX2_tallOn 4 (some .int), Cond.fieldLink RX2 18 "SeenNumbers$Land" "thing" "[I", Cond.fieldLink RX2 65 "SeenNumbers$Land" "year" "I", Cond.fieldLink RX2 62 "SeenNumbers$Land" "felled" "I", Cond.fieldLink RX2 23 "SeenNumbers$Land" "houses" "[LSeenNumbers$House;"]
def wsX8_felling_r3 : List Cond := [Cond.fieldLink RX2 96 "SeenNumbers$House" "floorsOn" "I", Cond.fieldLink RX2 71 "SeenNumbers$Land" "law" "I", Cond.fieldLink RX2 15 "SeenNumbers$Land" "walls" "[I", Cond.methodLink RX2 107 yX2_treeTall, Cond.instanceMethod yX2_treeTall, Cond.selects RX2 yX2_treeTall yX2_treeTall, Cond.code yX2_treeTall cX2_treeTall 4 (some .int), Cond.fieldLink RX2 29 "SeenNumbers$Land" "trees" "[LSeenNumbers$Tree;", Cond.fieldLink RX2 88 "SeenNumbers$Tree" "tallAtFirst" "I", Cond.static yX8_isIn, Cond.code yX8_isIn cX8_isIn 2 (some .boolean), Cond.methodLink RX2 110 yX1_tallWith, Cond.instanceMethod yX1_tallWith, Cond.selects RX1 yX1_tallWith yX1_tallWith, Cond.initialized RX1, Cond.code yX1_tallWith cX1_tallWith 4 (some .int), Cond.fieldLink RX1 15 "SeenNumbers$House" "tallAtFirst" "I", Cond.methodLink RX1 18 yX1_isA, Cond.instanceMethod yX1_isA, Cond.selects RX1 yX1_isA yX1_isA, Cond.code yX1_isA cX1_isA 2 (some .boolean), Cond.fieldLink RX1 9 "SeenNumbers$House" "kind" "I", Cond.methodLink RX0 61 yJ6_bitCount_0f7a4, Cond.static yJ6_bitCount_0f7a4]
def wsX8_felling_r4 : List Cond := [Cond.initialized RJ6, Cond.code yJ6_bitCount_0f7a4 cJ6_bitCount_0f7a4 1 (some .int), Cond.constant RJ6 265 (1431655765), Cond.constant RJ6 266 (858993459), Cond.constant RJ6 267 (252645135), Cond.methodLink RX0 70 yX0_numberFelling, Cond.instanceMethod yX0_numberFelling, Cond.selects RX0 yX0_numberFelling yX0_numberFelling, Cond.code yX0_numberFelling cX0_numberFelling 3 (some .int), Cond.fieldLink RX0 73 "SeenNumbers$Land" "year" "I", Cond.methodLink RX0 76 yX5_lookWithTrees, Cond.instanceMethod yX5_lookWithTrees, Cond.selects RX5 yX5_lookWithTrees yX5_lookWithTrees, Cond.code yX5_lookWithTrees cX5_lookWithTrees 5 none, Cond.fieldLink RX5 36 "SeenNumbers$Land" "treeCount" "I", Cond.fieldLink RX5 39 "SeenNumbers$Land" "trees" "[LSeenNumbers$Tree;", Cond.fieldLink RX5 43 "SeenNumbers$Tree" "place" "I", Cond.fieldLink RX5 48 "SeenNumbers$Land" "ground" "[I", Cond.methodLink RX5 51 yX2_treeTall, Cond.methodLink RX0 80 yX5_numberOf, Cond.instanceMethod yX5_numberOf, Cond.selects RX5 yX5_numberOf yX5_numberOf, Cond.code yX5_numberOf cX5_numberOf 2 (some .int), Cond.fieldLink RX5 73 "SeenNumbers$Land" "houses" "[LSeenNumbers$House;"]
def wsX8_felling_r5 : List Cond := [Cond.fieldLink RX5 77 "SeenNumbers$House" "place" "I", Cond.methodLink RX5 84 yX5_numberFrom, Cond.instanceMethod yX5_numberFrom, Cond.selects RX5 yX5_numberFrom yX5_numberFrom, Cond.code yX5_numberFrom cX5_numberFrom 5 (some .int), Cond.fieldLink RX5 70 "SeenNumbers$Land" "houseCount" "I", Cond.methodLink RX5 80 yX5_isClear, Cond.instanceMethod yX5_isClear, Cond.selects RX5 yX5_isClear yX5_isClear, Cond.code yX5_isClear cX5_isClear 9 (some .boolean), Cond.fieldLink RX5 55 "SeenNumbers$Land" "wide" "I", Cond.methodLink RX5 58 Lib.Math.abs.name, Cond.static Lib.Math.abs.name, Cond.initialized "java/lang/Math", Cond.code Lib.Math.abs.name Lib.Math.abs.code 1 (some .int), Cond.methodLink RX5 63 Lib.Math.max.name, Cond.static Lib.Math.max.name, Cond.code Lib.Math.max.name Lib.Math.max.code 2 (some .int), Cond.static yX8_greatestCommon, Cond.code yX8_greatestCommon cX8_greatestCommon 3 (some .int), Cond.methodLink RX8 304 Lib.Math.max.name]
def wsX8_felling : List Cond := .code yX8_felling cX8_felling 4 (some .int) :: ((wsX8_felling_r1 ++ (wsX8_felling_r2 ++ (wsX8_felling_r3 ++ (wsX8_felling_r4 ++ wsX8_felling_r5)))) ++ wsX80 ++ wsX20 ++ wsX00 ++ wsX50 ++ wsX10 ++ wsX70)
def wsX8_fresh_r1 : List Cond := [Cond.fieldLink RX8 28 "SeenNumbers" "plot" "LSeenNumbers$Land;", Cond.fieldLink RX8 46 "SeenNumbers" "finder" "LSeenNumbers$Finder;", Cond.methodLink RX8 97 yX2_hasCell, Cond.instanceMethod yX2_hasCell, Cond.selects RX2 yX2_hasCell yX2_hasCell, Cond.initialized RX2, Cond.code yX2_hasCell cX2_hasCell 2 (some .boolean), Cond.fieldLink RX2 35 "SeenNumbers$Land" "cells" "I", Cond.static yX8_isWithin, Cond.initialized RX8, Cond.code yX8_isWithin cX8_isWithin 3 (some .boolean), Cond.methodLink RX8 65 yX8_isWithin, Cond.methodLink RX8 220 yX2_canTakeNew, Cond.instanceMethod yX2_canTakeNew, Cond.selects RX2 yX2_canTakeNew yX2_canTakeNew, Cond.code yX2_canTakeNew cX2_canTakeNew 2 (some .boolean), Cond.fieldLink RX2 15 "SeenNumbers$Land" "walls" "[I", Cond.methodLink RX2 49 yX2_hasNothing, Cond.instanceMethod yX2_hasNothing, Cond.selects RX2 yX2_hasNothing yX2_hasNothing, Cond.code yX2_hasNothing cX2_hasNothing 2 (some .boolean), Cond.fieldLink RX2 18 "SeenNumbers$Land" "thing" "[I", Cond.methodLink RX8 223 yX0_numberOfNew, Cond.instanceMethod yX0_numberOfNew]
def wsX8_fresh_r2 : List Cond := [Cond.selects RX0 yX0_numberOfNew yX0_numberOfNew, Cond.initialized RX0, Cond.code yX0_numberOfNew cX0_numberOfNew 3 (some .int), Cond.fieldLink RX0 15 "SeenNumbers$Finder" "sight" "LSeenNumbers$Sight;", Cond.fieldLink RX0 9 "SeenNumbers$Finder" "land" "LSeenNumbers$Land;", Cond.fieldLink RX0 43 "SeenNumbers$Land" "ground" "[I", Cond.methodLink RX0 19 yX5_lookNow, Cond.instanceMethod yX5_lookNow, Cond.selects RX5 yX5_lookNow yX5_lookNow, Cond.initialized RX5, Cond.code yX5_lookNow cX5_lookNow 2 none, Cond.fieldLink RX5 18 "SeenNumbers$Sight" "land" "LSeenNumbers$Land;", Cond.fieldLink RX5 22 "SeenNumbers$Land" "fog" "I", Cond.fieldLink RX5 28 "SeenNumbers$Sight" "fog" "I", Cond.fieldLink RX5 29 "SeenNumbers$Land" "cells" "I", Cond.fieldLink RX5 9 "SeenNumbers$Sight" "tops" "[I", Cond.methodLink RX5 32 yX2_topOf, Cond.instanceMethod yX2_topOf, Cond.selects RX2 yX2_topOf yX2_topOf, Cond.code yX2_topOf cX2_topOf 2 (some .int), Cond.fieldLink RX2 9 "SeenNumbers$Land" "ground" "[I", Cond.methodLink RX2 103 yX2_tallOn, Cond.instanceMethod yX2_tallOn, Cond.selects RX2 yX2_tallOn yX2_tallOn]
def wsX8_fresh_r3 : List Cond := [Cond.code yX2_tallOn cX2_tallOn 4 (some .int), Cond.fieldLink RX2 65 "SeenNumbers$Land" "year" "I", Cond.fieldLink RX2 62 "SeenNumbers$Land" "felled" "I", Cond.fieldLink RX2 23 "SeenNumbers$Land" "houses" "[LSeenNumbers$House;", Cond.fieldLink RX2 96 "SeenNumbers$House" "floorsOn" "I", Cond.fieldLink RX2 71 "SeenNumbers$Land" "law" "I", Cond.methodLink RX2 107 yX2_treeTall, Cond.instanceMethod yX2_treeTall, Cond.selects RX2 yX2_treeTall yX2_treeTall, Cond.code yX2_treeTall cX2_treeTall 4 (some .int), Cond.fieldLink RX2 29 "SeenNumbers$Land" "trees" "[LSeenNumbers$Tree;", Cond.fieldLink RX2 88 "SeenNumbers$Tree" "tallAtFirst" "I", Cond.static yX8_isIn, Cond.code yX8_isIn cX8_isIn 2 (some .boolean), Cond.methodLink RX2 110 yX1_tallWith, Cond.instanceMethod yX1_tallWith, Cond.selects RX1 yX1_tallWith yX1_tallWith, Cond.initialized RX1, Cond.code yX1_tallWith cX1_tallWith 4 (some .int), Cond.fieldLink RX1 15 "SeenNumbers$House" "tallAtFirst" "I", Cond.methodLink RX1 18 yX1_isA, Cond.instanceMethod yX1_isA, Cond.selects RX1 yX1_isA yX1_isA, Cond.code yX1_isA cX1_isA 2 (some .boolean)]
def wsX8_fresh_r4 : List Cond := [Cond.fieldLink RX1 9 "SeenNumbers$House" "kind" "I", Cond.methodLink RX0 47 yX5_numberIf, Cond.instanceMethod yX5_numberIf, Cond.selects RX5 yX5_numberIf yX5_numberIf, Cond.code yX5_numberIf cX5_numberIf 6 (some .int), Cond.methodLink RX5 84 yX5_numberFrom, Cond.instanceMethod yX5_numberFrom, Cond.selects RX5 yX5_numberFrom yX5_numberFrom, Cond.code yX5_numberFrom cX5_numberFrom 5 (some .int), Cond.fieldLink RX5 70 "SeenNumbers$Land" "houseCount" "I", Cond.fieldLink RX5 73 "SeenNumbers$Land" "houses" "[LSeenNumbers$House;", Cond.fieldLink RX5 77 "SeenNumbers$House" "place" "I", Cond.methodLink RX5 80 yX5_isClear, Cond.instanceMethod yX5_isClear, Cond.selects RX5 yX5_isClear yX5_isClear, Cond.code yX5_isClear cX5_isClear 9 (some .boolean), Cond.fieldLink RX5 55 "SeenNumbers$Land" "wide" "I", Cond.methodLink RX5 58 Lib.Math.abs.name, Cond.static Lib.Math.abs.name, Cond.initialized "java/lang/Math", Cond.code Lib.Math.abs.name Lib.Math.abs.code 1 (some .int), Cond.methodLink RX5 63 Lib.Math.max.name, Cond.static Lib.Math.max.name, Cond.code Lib.Math.max.name Lib.Math.max.code 2 (some .int)]
def wsX8_fresh_r5 : List Cond := [Cond.static yX8_greatestCommon, Cond.code yX8_greatestCommon cX8_greatestCommon 3 (some .int), Cond.methodLink RX8 304 Lib.Math.max.name, Cond.methodLink RX8 226 yX0_changedByNew, Cond.instanceMethod yX0_changedByNew, Cond.selects RX0 yX0_changedByNew yX0_changedByNew, Cond.code yX0_changedByNew cX0_changedByNew 6 (some .int), Cond.fieldLink RX0 86 "SeenNumbers$Sight" "tops" "[I", Cond.fieldLink RX0 89 "SeenNumbers$Land" "houseCount" "I", Cond.fieldLink RX0 24 "SeenNumbers$Land" "houses" "[LSeenNumbers$House;", Cond.fieldLink RX0 30 "SeenNumbers$House" "place" "I", Cond.fieldLink RX0 96 "SeenNumbers$Sight" "numbers" "[I", Cond.methodLink RX0 83 yX5_countAll, Cond.instanceMethod yX5_countAll, Cond.selects RX5 yX5_countAll yX5_countAll, Cond.code yX5_countAll cX5_countAll 2 none, Cond.fieldLink RX5 15 "SeenNumbers$Sight" "numbers" "[I", Cond.methodLink RX5 87 yX5_lookNow, Cond.methodLink RX5 90 yX5_numberOf, Cond.instanceMethod yX5_numberOf, Cond.selects RX5 yX5_numberOf yX5_numberOf, Cond.code yX5_numberOf cX5_numberOf 2 (some .int), Cond.methodLink RX0 80 yX5_numberOf, Cond.methodLink RX0 92 yX5_isClear]
def wsX8_fresh : List Cond := .code yX8_fresh cX8_fresh 4 (some .int) :: ((wsX8_fresh_r1 ++ (wsX8_fresh_r2 ++ (wsX8_fresh_r3 ++ (wsX8_fresh_r4 ++ wsX8_fresh_r5)))) ++ wsX80 ++ wsX20 ++ wsX00 ++ wsX50 ++ wsX10 ++ wsX70)
def wsX8_free_r1 : List Cond := [Cond.fieldLink RX8 28 "SeenNumbers" "plot" "LSeenNumbers$Land;", Cond.constantLong RX8 196 (-9223372036854775808), Cond.fieldLink RX8 46 "SeenNumbers" "finder" "LSeenNumbers$Finder;", Cond.methodLink RX8 65 yX8_isWithin, Cond.static yX8_isWithin, Cond.initialized RX8, Cond.code yX8_isWithin cX8_isWithin 3 (some .boolean), Cond.methodLink RX8 160 yX2_isThere, Cond.instanceMethod yX2_isThere, Cond.selects RX2 yX2_isThere yX2_isThere, Cond.initialized RX2, Cond.code yX2_isThere cX2_isThere 1 (some .boolean), Cond.fieldLink RX2 35 "SeenNumbers$Land" "cells" "I", Cond.methodLink RX8 229 yX0_cellsForNew, Cond.instanceMethod yX0_cellsForNew, Cond.selects RX0 yX0_cellsForNew yX0_cellsForNew, Cond.initialized RX0, Cond.code yX0_cellsForNew cX0_cellsForNew 6 (some .long), Cond.fieldLink RX0 15 "SeenNumbers$Finder" "sight" "LSeenNumbers$Sight;", Cond.fieldLink RX0 9 "SeenNumbers$Finder" "land" "LSeenNumbers$Land;", Cond.fieldLink RX0 36 "SeenNumbers$Land" "cells" "I", Cond.fieldLink RX0 43 "SeenNumbers$Land" "ground" "[I", Cond.methodLink RX0 19 yX5_lookNow, Cond.instanceMethod yX5_lookNow]
def wsX8_free_r2 : List Cond := [Cond.selects RX5 yX5_lookNow yX5_lookNow, Cond.initialized RX5, Cond.code yX5_lookNow cX5_lookNow 2 none, Cond.fieldLink RX5 18 "SeenNumbers$Sight" "land" "LSeenNumbers$Land;", Cond.fieldLink RX5 22 "SeenNumbers$Land" "fog" "I", Cond.fieldLink RX5 28 "SeenNumbers$Sight" "fog" "I", Cond.fieldLink RX5 29 "SeenNumbers$Land" "cells" "I", Cond.fieldLink RX5 9 "SeenNumbers$Sight" "tops" "[I", Cond.methodLink RX5 32 yX2_topOf, Cond.instanceMethod yX2_topOf, Cond.selects RX2 yX2_topOf yX2_topOf, Cond.code yX2_topOf cX2_topOf 2 (some .int), Cond.fieldLink RX2 9 "SeenNumbers$Land" "ground" "[I", Cond.methodLink RX2 103 yX2_tallOn, Cond.instanceMethod yX2_tallOn, Cond.selects RX2 yX2_tallOn yX2_tallOn, Cond.code yX2_tallOn cX2_tallOn 4 (some .int), Cond.fieldLink RX2 18 "SeenNumbers$Land" "thing" "[I", Cond.fieldLink RX2 65 "SeenNumbers$Land" "year" "I", Cond.fieldLink RX2 62 "SeenNumbers$Land" "felled" "I", Cond.fieldLink RX2 23 "SeenNumbers$Land" "houses" "[LSeenNumbers$House;", Cond.fieldLink RX2 96 "SeenNumbers$House" "floorsOn" "I", Cond.fieldLink RX2 71 "SeenNumbers$Land" "law" "I", Cond.fieldLink RX2 15 "SeenNumbers$Land" "walls" "[I"]
def wsX8_free_r3 : List Cond := [Cond.methodLink RX2 107 yX2_treeTall, Cond.instanceMethod yX2_treeTall, Cond.selects RX2 yX2_treeTall yX2_treeTall, Cond.code yX2_treeTall cX2_treeTall 4 (some .int), Cond.fieldLink RX2 29 "SeenNumbers$Land" "trees" "[LSeenNumbers$Tree;", Cond.fieldLink RX2 88 "SeenNumbers$Tree" "tallAtFirst" "I", Cond.static yX8_isIn, Cond.code yX8_isIn cX8_isIn 2 (some .boolean), Cond.methodLink RX2 110 yX1_tallWith, Cond.instanceMethod yX1_tallWith, Cond.selects RX1 yX1_tallWith yX1_tallWith, Cond.initialized RX1, Cond.code yX1_tallWith cX1_tallWith 4 (some .int), Cond.fieldLink RX1 15 "SeenNumbers$House" "tallAtFirst" "I", Cond.methodLink RX1 18 yX1_isA, Cond.instanceMethod yX1_isA, Cond.selects RX1 yX1_isA yX1_isA, Cond.code yX1_isA cX1_isA 2 (some .boolean), Cond.fieldLink RX1 9 "SeenNumbers$House" "kind" "I", Cond.methodLink RX0 99 yX2_canTakeNew, Cond.instanceMethod yX2_canTakeNew, Cond.selects RX2 yX2_canTakeNew yX2_canTakeNew, Cond.code yX2_canTakeNew cX2_canTakeNew 2 (some .boolean), Cond.methodLink RX2 49 yX2_hasNothing]
def wsX8_free_r4 : List Cond := [Cond.instanceMethod yX2_hasNothing, Cond.selects RX2 yX2_hasNothing yX2_hasNothing, Cond.code yX2_hasNothing cX2_hasNothing 2 (some .boolean), Cond.methodLink RX0 47 yX5_numberIf, Cond.instanceMethod yX5_numberIf, Cond.selects RX5 yX5_numberIf yX5_numberIf, Cond.code yX5_numberIf cX5_numberIf 6 (some .int), Cond.methodLink RX5 84 yX5_numberFrom, Cond.instanceMethod yX5_numberFrom, Cond.selects RX5 yX5_numberFrom yX5_numberFrom, Cond.code yX5_numberFrom cX5_numberFrom 5 (some .int), Cond.fieldLink RX5 70 "SeenNumbers$Land" "houseCount" "I", Cond.fieldLink RX5 73 "SeenNumbers$Land" "houses" "[LSeenNumbers$House;", Cond.fieldLink RX5 77 "SeenNumbers$House" "place" "I", Cond.methodLink RX5 80 yX5_isClear, Cond.instanceMethod yX5_isClear, Cond.selects RX5 yX5_isClear yX5_isClear, Cond.code yX5_isClear cX5_isClear 9 (some .boolean), Cond.fieldLink RX5 55 "SeenNumbers$Land" "wide" "I", Cond.methodLink RX5 58 Lib.Math.abs.name, Cond.static Lib.Math.abs.name, Cond.initialized "java/lang/Math", Cond.code Lib.Math.abs.name Lib.Math.abs.code 1 (some .int), Cond.methodLink RX5 63 Lib.Math.max.name]
def wsX8_free_r5 : List Cond := [Cond.static Lib.Math.max.name, Cond.code Lib.Math.max.name Lib.Math.max.code 2 (some .int), Cond.static yX8_greatestCommon, Cond.code yX8_greatestCommon cX8_greatestCommon 3 (some .int), Cond.methodLink RX8 304 Lib.Math.max.name]
def wsX8_free : List Cond := .code yX8_free cX8_free 3 (some .long) :: ((wsX8_free_r1 ++ (wsX8_free_r2 ++ (wsX8_free_r3 ++ (wsX8_free_r4 ++ wsX8_free_r5)))) ++ wsX80 ++ wsX20 ++ wsX00 ++ wsX50 ++ wsX10 ++ wsX70)
def wsX8_change_r1 : List Cond := [Cond.fieldLink RX8 28 "SeenNumbers" "plot" "LSeenNumbers$Land;", Cond.fieldLink RX8 46 "SeenNumbers" "finder" "LSeenNumbers$Finder;", Cond.methodLink RX8 110 yX2_hasHouse, Cond.instanceMethod yX2_hasHouse, Cond.selects RX2 yX2_hasHouse yX2_hasHouse, Cond.initialized RX2, Cond.code yX2_hasHouse cX2_hasHouse 2 (some .boolean), Cond.fieldLink RX2 43 "SeenNumbers$Land" "houseCount" "I", Cond.static yX8_isWithin, Cond.initialized RX8, Cond.code yX8_isWithin cX8_isWithin 3 (some .boolean), Cond.methodLink RX8 233 yX0_yearOfChange, Cond.instanceMethod yX0_yearOfChange, Cond.selects RX0 yX0_yearOfChange yX0_yearOfChange, Cond.initialized RX0, Cond.code yX0_yearOfChange cX0_yearOfChange 4 (some .int), Cond.fieldLink RX0 15 "SeenNumbers$Finder" "sight" "LSeenNumbers$Sight;", Cond.fieldLink RX0 9 "SeenNumbers$Finder" "land" "LSeenNumbers$Land;", Cond.fieldLink RX0 73 "SeenNumbers$Land" "year" "I", Cond.fieldLink RX0 67 "SeenNumbers$Land" "felled" "I", Cond.methodLink RX0 19 yX5_lookNow, Cond.instanceMethod yX5_lookNow, Cond.selects RX5 yX5_lookNow yX5_lookNow, Cond.initialized RX5]
def wsX8_change_r2 : List Cond := [Cond.code yX5_lookNow cX5_lookNow 2 none, Cond.fieldLink RX5 18 "SeenNumbers$Sight" "land" "LSeenNumbers$Land;", Cond.fieldLink RX5 22 "SeenNumbers$Land" "fog" "I", Cond.fieldLink RX5 28 "SeenNumbers$Sight" "fog" "I", Cond.fieldLink RX5 29 "SeenNumbers$Land" "cells" "I", Cond.fieldLink RX5 9 "SeenNumbers$Sight" "tops" "[I", Cond.methodLink RX5 32 yX2_topOf, Cond.instanceMethod yX2_topOf, Cond.selects RX2 yX2_topOf yX2_topOf, Cond.code yX2_topOf cX2_topOf 2 (some .int), Cond.fieldLink RX2 9 "SeenNumbers$Land" "ground" "[I", Cond.methodLink RX2 103 yX2_tallOn, Cond.instanceMethod yX2_tallOn, Cond.selects RX2 yX2_tallOn yX2_tallOn, Cond.code yX2_tallOn cX2_tallOn 4 (some .int), Cond.fieldLink RX2 18 "SeenNumbers$Land" "thing" "[I", Cond.fieldLink RX2 65 "SeenNumbers$Land" "year" "I", Cond.fieldLink RX2 62 "SeenNumbers$Land" "felled" "I", Cond.fieldLink RX2 23 "SeenNumbers$Land" "houses" "[LSeenNumbers$House;", Cond.fieldLink RX2 96 "SeenNumbers$House" "floorsOn" "I", Cond.fieldLink RX2 71 "SeenNumbers$Land" "law" "I", Cond.fieldLink RX2 15 "SeenNumbers$Land" "walls" "[I", Cond.methodLink RX2 107 yX2_treeTall, Cond.instanceMethod yX2_treeTall]
def wsX8_change_r3 : List Cond := [Cond.selects RX2 yX2_treeTall yX2_treeTall, Cond.code yX2_treeTall cX2_treeTall 4 (some .int), Cond.fieldLink RX2 29 "SeenNumbers$Land" "trees" "[LSeenNumbers$Tree;", Cond.fieldLink RX2 88 "SeenNumbers$Tree" "tallAtFirst" "I", Cond.static yX8_isIn, Cond.code yX8_isIn cX8_isIn 2 (some .boolean), Cond.methodLink RX2 110 yX1_tallWith, Cond.instanceMethod yX1_tallWith, Cond.selects RX1 yX1_tallWith yX1_tallWith, Cond.initialized RX1, Cond.code yX1_tallWith cX1_tallWith 4 (some .int), Cond.fieldLink RX1 15 "SeenNumbers$House" "tallAtFirst" "I", Cond.methodLink RX1 18 yX1_isA, Cond.instanceMethod yX1_isA, Cond.selects RX1 yX1_isA yX1_isA, Cond.code yX1_isA cX1_isA 2 (some .boolean), Cond.fieldLink RX1 9 "SeenNumbers$House" "kind" "I", Cond.methodLink RX0 80 yX5_numberOf, Cond.instanceMethod yX5_numberOf, Cond.selects RX5 yX5_numberOf yX5_numberOf, Cond.code yX5_numberOf cX5_numberOf 2 (some .int), Cond.fieldLink RX5 73 "SeenNumbers$Land" "houses" "[LSeenNumbers$House;", Cond.fieldLink RX5 77 "SeenNumbers$House" "place" "I", Cond.methodLink RX5 84 yX5_numberFrom]
def wsX8_change_r4 : List Cond := [Cond.instanceMethod yX5_numberFrom, Cond.selects RX5 yX5_numberFrom yX5_numberFrom, Cond.code yX5_numberFrom cX5_numberFrom 5 (some .int), Cond.fieldLink RX5 70 "SeenNumbers$Land" "houseCount" "I", Cond.methodLink RX5 80 yX5_isClear, Cond.instanceMethod yX5_isClear, Cond.selects RX5 yX5_isClear yX5_isClear, Cond.code yX5_isClear cX5_isClear 9 (some .boolean), Cond.fieldLink RX5 55 "SeenNumbers$Land" "wide" "I", Cond.methodLink RX5 58 Lib.Math.abs.name, Cond.static Lib.Math.abs.name, Cond.initialized "java/lang/Math", Cond.code Lib.Math.abs.name Lib.Math.abs.code 1 (some .int), Cond.methodLink RX5 63 Lib.Math.max.name, Cond.static Lib.Math.max.name, Cond.code Lib.Math.max.name Lib.Math.max.code 2 (some .int), Cond.static yX8_greatestCommon, Cond.code yX8_greatestCommon cX8_greatestCommon 3 (some .int), Cond.methodLink RX8 304 Lib.Math.max.name, Cond.methodLink RX0 76 yX5_lookWithTrees, Cond.instanceMethod yX5_lookWithTrees, Cond.selects RX5 yX5_lookWithTrees yX5_lookWithTrees, Cond.code yX5_lookWithTrees cX5_lookWithTrees 5 none, Cond.fieldLink RX5 36 "SeenNumbers$Land" "treeCount" "I"]
def wsX8_change_r5 : List Cond := [Cond.fieldLink RX5 39 "SeenNumbers$Land" "trees" "[LSeenNumbers$Tree;", Cond.fieldLink RX5 43 "SeenNumbers$Tree" "place" "I", Cond.fieldLink RX5 48 "SeenNumbers$Land" "ground" "[I", Cond.methodLink RX5 51 yX2_treeTall]
def wsX8_change : List Cond := .code yX8_change cX8_change 2 (some .int) :: ((wsX8_change_r1 ++ (wsX8_change_r2 ++ (wsX8_change_r3 ++ (wsX8_change_r4 ++ wsX8_change_r5)))) ++ wsX80 ++ wsX20 ++ wsX00 ++ wsX50 ++ wsX10 ++ wsX70)
def wsX8_reading_r1 : List Cond := [Cond.fieldLink RX8 28 "SeenNumbers" "plot" "LSeenNumbers$Land;", Cond.fieldLink RX8 53 "SeenNumbers" "readings" "LSeenNumbers$Readings;", Cond.methodLink RX8 110 yX2_hasHouse, Cond.instanceMethod yX2_hasHouse, Cond.selects RX2 yX2_hasHouse yX2_hasHouse, Cond.initialized RX2, Cond.code yX2_hasHouse cX2_hasHouse 2 (some .boolean), Cond.fieldLink RX2 43 "SeenNumbers$Land" "houseCount" "I", Cond.static yX8_isWithin, Cond.initialized RX8, Cond.code yX8_isWithin cX8_isWithin 3 (some .boolean), Cond.methodLink RX8 65 yX8_isWithin, Cond.methodLink RX8 236 yX3_isFull, Cond.instanceMethod yX3_isFull, Cond.selects RX3 yX3_isFull yX3_isFull, Cond.initialized RX3, Cond.code yX3_isFull cX3_isFull 1 (some .boolean), Cond.fieldLink RX3 29 "SeenNumbers$Readings" "count" "I", Cond.methodLink RX8 239 yX3_keep, Cond.instanceMethod yX3_keep, Cond.selects RX3 yX3_keep yX3_keep, Cond.code yX3_keep cX3_keep 4 (some .int), Cond.fieldLink RX3 9 "SeenNumbers$Readings" "houses" "[I", Cond.fieldLink RX3 15 "SeenNumbers$Readings" "years" "[I"]
def wsX8_reading_r2 : List Cond := [Cond.fieldLink RX3 18 "SeenNumbers$Readings" "numbers" "[I"]
def wsX8_reading : List Cond := .code yX8_reading cX8_reading 4 (some .int) :: ((wsX8_reading_r1 ++ wsX8_reading_r2) ++ wsX80 ++ wsX20 ++ wsX30)
def wsX8_back : List Cond := .code yX8_back cX8_back 2 (some .int) :: ([.fieldLink RX8 53 "SeenNumbers" "readings" "LSeenNumbers$Readings;", .fieldLink RX8 91 "SeenNumbers$Readings" "count" "I", .methodLink RX8 65 yX8_isWithin, .static yX8_isWithin, .initialized RX8, .code yX8_isWithin cX8_isWithin 3 (some .boolean)] ++ wsX80 ++ wsX30)
def wsX8_fogs_r1 : List Cond := [Cond.fieldLink RX8 28 "SeenNumbers" "plot" "LSeenNumbers$Land;", Cond.fieldLink RX8 53 "SeenNumbers" "readings" "LSeenNumbers$Readings;", Cond.methodLink RX8 160 yX2_isThere, Cond.instanceMethod yX2_isThere, Cond.selects RX2 yX2_isThere yX2_isThere, Cond.initialized RX2, Cond.code yX2_isThere cX2_isThere 1 (some .boolean), Cond.fieldLink RX2 35 "SeenNumbers$Land" "cells" "I", Cond.methodLink RX8 242 yX3_possibleFogs, Cond.instanceMethod yX3_possibleFogs, Cond.selects RX3 yX3_possibleFogs yX3_possibleFogs, Cond.initialized RX3, Cond.code yX3_possibleFogs cX3_possibleFogs 3 (some .int), Cond.fieldLink RX3 25 "SeenNumbers$Readings" "sight" "LSeenNumbers$Sight;", Cond.fieldLink RX3 38 "SeenNumbers$Sight" "fog" "I", Cond.fieldLink RX3 21 "SeenNumbers$Readings" "land" "LSeenNumbers$Land;", Cond.fieldLink RX3 41 "SeenNumbers$Land" "felled" "I", Cond.methodLink RX3 33 yX5_lookNow, Cond.instanceMethod yX5_lookNow, Cond.selects RX5 yX5_lookNow yX5_lookNow, Cond.initialized RX5, Cond.code yX5_lookNow cX5_lookNow 2 none, Cond.fieldLink RX5 18 "SeenNumbers$Sight" "land" "LSeenNumbers$Land;", Cond.fieldLink RX5 22 "SeenNumbers$Land" "fog" "I"]
def wsX8_fogs_r2 : List Cond := [Cond.fieldLink RX5 28 "SeenNumbers$Sight" "fog" "I", Cond.fieldLink RX5 29 "SeenNumbers$Land" "cells" "I", Cond.fieldLink RX5 9 "SeenNumbers$Sight" "tops" "[I", Cond.methodLink RX5 32 yX2_topOf, Cond.instanceMethod yX2_topOf, Cond.selects RX2 yX2_topOf yX2_topOf, Cond.code yX2_topOf cX2_topOf 2 (some .int), Cond.fieldLink RX2 9 "SeenNumbers$Land" "ground" "[I", Cond.methodLink RX2 103 yX2_tallOn, Cond.instanceMethod yX2_tallOn, Cond.selects RX2 yX2_tallOn yX2_tallOn, Cond.code yX2_tallOn cX2_tallOn 4 (some .int), Cond.fieldLink RX2 18 "SeenNumbers$Land" "thing" "[I", Cond.fieldLink RX2 65 "SeenNumbers$Land" "year" "I", Cond.fieldLink RX2 62 "SeenNumbers$Land" "felled" "I", Cond.fieldLink RX2 23 "SeenNumbers$Land" "houses" "[LSeenNumbers$House;", Cond.fieldLink RX2 96 "SeenNumbers$House" "floorsOn" "I", Cond.fieldLink RX2 71 "SeenNumbers$Land" "law" "I", Cond.fieldLink RX2 15 "SeenNumbers$Land" "walls" "[I", Cond.methodLink RX2 107 yX2_treeTall, Cond.instanceMethod yX2_treeTall, Cond.selects RX2 yX2_treeTall yX2_treeTall, Cond.code yX2_treeTall cX2_treeTall 4 (some .int), Cond.fieldLink RX2 29 "SeenNumbers$Land" "trees" "[LSeenNumbers$Tree;"]
def wsX8_fogs_r3 : List Cond := [Cond.fieldLink RX2 88 "SeenNumbers$Tree" "tallAtFirst" "I", Cond.static yX8_isIn, Cond.initialized RX8, Cond.code yX8_isIn cX8_isIn 2 (some .boolean), Cond.methodLink RX2 110 yX1_tallWith, Cond.instanceMethod yX1_tallWith, Cond.selects RX1 yX1_tallWith yX1_tallWith, Cond.initialized RX1, Cond.code yX1_tallWith cX1_tallWith 4 (some .int), Cond.fieldLink RX1 15 "SeenNumbers$House" "tallAtFirst" "I", Cond.methodLink RX1 18 yX1_isA, Cond.instanceMethod yX1_isA, Cond.selects RX1 yX1_isA yX1_isA, Cond.code yX1_isA cX1_isA 2 (some .boolean), Cond.fieldLink RX1 9 "SeenNumbers$House" "kind" "I", Cond.methodLink RX3 46 yX3_allAreSo, Cond.instanceMethod yX3_allAreSo, Cond.selects RX3 yX3_allAreSo yX3_allAreSo, Cond.code yX3_allAreSo cX3_allAreSo 3 (some .boolean), Cond.fieldLink RX3 29 "SeenNumbers$Readings" "count" "I", Cond.fieldLink RX3 15 "SeenNumbers$Readings" "years" "[I", Cond.fieldLink RX3 9 "SeenNumbers$Readings" "houses" "[I", Cond.fieldLink RX3 18 "SeenNumbers$Readings" "numbers" "[I", Cond.methodLink RX3 53 yX5_lookWithTrees]
def wsX8_fogs_r4 : List Cond := [Cond.instanceMethod yX5_lookWithTrees, Cond.selects RX5 yX5_lookWithTrees yX5_lookWithTrees, Cond.code yX5_lookWithTrees cX5_lookWithTrees 5 none, Cond.fieldLink RX5 36 "SeenNumbers$Land" "treeCount" "I", Cond.fieldLink RX5 39 "SeenNumbers$Land" "trees" "[LSeenNumbers$Tree;", Cond.fieldLink RX5 43 "SeenNumbers$Tree" "place" "I", Cond.fieldLink RX5 48 "SeenNumbers$Land" "ground" "[I", Cond.methodLink RX5 51 yX2_treeTall, Cond.methodLink RX3 57 yX5_numberOf, Cond.instanceMethod yX5_numberOf, Cond.selects RX5 yX5_numberOf yX5_numberOf, Cond.code yX5_numberOf cX5_numberOf 2 (some .int), Cond.fieldLink RX5 73 "SeenNumbers$Land" "houses" "[LSeenNumbers$House;", Cond.fieldLink RX5 77 "SeenNumbers$House" "place" "I", Cond.methodLink RX5 84 yX5_numberFrom, Cond.instanceMethod yX5_numberFrom, Cond.selects RX5 yX5_numberFrom yX5_numberFrom, Cond.code yX5_numberFrom cX5_numberFrom 5 (some .int), Cond.fieldLink RX5 70 "SeenNumbers$Land" "houseCount" "I", Cond.methodLink RX5 80 yX5_isClear, Cond.instanceMethod yX5_isClear, Cond.selects RX5 yX5_isClear yX5_isClear, Cond.code yX5_isClear cX5_isClear 9 (some .boolean), Cond.fieldLink RX5 55 "SeenNumbers$Land" "wide" "I"]
def wsX8_fogs_r5 : List Cond := [Cond.methodLink RX5 58 Lib.Math.abs.name, Cond.static Lib.Math.abs.name, Cond.initialized "java/lang/Math", Cond.code Lib.Math.abs.name Lib.Math.abs.code 1 (some .int), Cond.methodLink RX5 63 Lib.Math.max.name, Cond.static Lib.Math.max.name, Cond.code Lib.Math.max.name Lib.Math.max.code 2 (some .int), Cond.static yX8_greatestCommon, Cond.code yX8_greatestCommon cX8_greatestCommon 3 (some .int), Cond.methodLink RX8 304 Lib.Math.max.name]
def wsX8_fogs : List Cond := .code yX8_fogs cX8_fogs 1 (some .int) :: ((wsX8_fogs_r1 ++ (wsX8_fogs_r2 ++ (wsX8_fogs_r3 ++ (wsX8_fogs_r4 ++ wsX8_fogs_r5)))) ++ wsX80 ++ wsX20 ++ wsX30 ++ wsX50 ++ wsX10 ++ wsX70)
def wsX8_stood_r1 : List Cond := [Cond.fieldLink RX8 28 "SeenNumbers" "plot" "LSeenNumbers$Land;", Cond.fieldLink RX8 53 "SeenNumbers" "readings" "LSeenNumbers$Readings;", Cond.methodLink RX8 65 yX8_isWithin, Cond.static yX8_isWithin, Cond.initialized RX8, Cond.code yX8_isWithin cX8_isWithin 3 (some .boolean), Cond.methodLink RX8 160 yX2_isThere, Cond.instanceMethod yX2_isThere, Cond.selects RX2 yX2_isThere yX2_isThere, Cond.initialized RX2, Cond.code yX2_isThere cX2_isThere 1 (some .boolean), Cond.fieldLink RX2 35 "SeenNumbers$Land" "cells" "I", Cond.methodLink RX8 245 yX3_howManyStood, Cond.instanceMethod yX3_howManyStood, Cond.selects RX3 yX3_howManyStood yX3_howManyStood, Cond.initialized RX3, Cond.code yX3_howManyStood cX3_howManyStood 4 (some .int), Cond.fieldLink RX3 25 "SeenNumbers$Readings" "sight" "LSeenNumbers$Sight;", Cond.fieldLink RX3 21 "SeenNumbers$Readings" "land" "LSeenNumbers$Land;", Cond.fieldLink RX3 50 "SeenNumbers$Land" "treeCount" "I", Cond.methodLink RX3 33 yX5_lookNow, Cond.instanceMethod yX5_lookNow, Cond.selects RX5 yX5_lookNow yX5_lookNow, Cond.initialized RX5]
def wsX8_stood_r2 : List Cond := [Cond.code yX5_lookNow cX5_lookNow 2 none, Cond.fieldLink RX5 18 "SeenNumbers$Sight" "land" "LSeenNumbers$Land;", Cond.fieldLink RX5 22 "SeenNumbers$Land" "fog" "I", Cond.fieldLink RX5 28 "SeenNumbers$Sight" "fog" "I", Cond.fieldLink RX5 29 "SeenNumbers$Land" "cells" "I", Cond.fieldLink RX5 9 "SeenNumbers$Sight" "tops" "[I", Cond.methodLink RX5 32 yX2_topOf, Cond.instanceMethod yX2_topOf, Cond.selects RX2 yX2_topOf yX2_topOf, Cond.code yX2_topOf cX2_topOf 2 (some .int), Cond.fieldLink RX2 9 "SeenNumbers$Land" "ground" "[I", Cond.methodLink RX2 103 yX2_tallOn, Cond.instanceMethod yX2_tallOn, Cond.selects RX2 yX2_tallOn yX2_tallOn, Cond.code yX2_tallOn cX2_tallOn 4 (some .int), Cond.fieldLink RX2 18 "SeenNumbers$Land" "thing" "[I", Cond.fieldLink RX2 65 "SeenNumbers$Land" "year" "I", Cond.fieldLink RX2 62 "SeenNumbers$Land" "felled" "I", Cond.fieldLink RX2 23 "SeenNumbers$Land" "houses" "[LSeenNumbers$House;", Cond.fieldLink RX2 96 "SeenNumbers$House" "floorsOn" "I", Cond.fieldLink RX2 71 "SeenNumbers$Land" "law" "I", Cond.fieldLink RX2 15 "SeenNumbers$Land" "walls" "[I", Cond.methodLink RX2 107 yX2_treeTall, Cond.instanceMethod yX2_treeTall]
def wsX8_stood_r3 : List Cond := [Cond.selects RX2 yX2_treeTall yX2_treeTall, Cond.code yX2_treeTall cX2_treeTall 4 (some .int), Cond.fieldLink RX2 29 "SeenNumbers$Land" "trees" "[LSeenNumbers$Tree;", Cond.fieldLink RX2 88 "SeenNumbers$Tree" "tallAtFirst" "I", Cond.static yX8_isIn, Cond.code yX8_isIn cX8_isIn 2 (some .boolean), Cond.methodLink RX2 110 yX1_tallWith, Cond.instanceMethod yX1_tallWith, Cond.selects RX1 yX1_tallWith yX1_tallWith, Cond.initialized RX1, Cond.code yX1_tallWith cX1_tallWith 4 (some .int), Cond.fieldLink RX1 15 "SeenNumbers$House" "tallAtFirst" "I", Cond.methodLink RX1 18 yX1_isA, Cond.instanceMethod yX1_isA, Cond.selects RX1 yX1_isA yX1_isA, Cond.code yX1_isA cX1_isA 2 (some .boolean), Cond.fieldLink RX1 9 "SeenNumbers$House" "kind" "I", Cond.methodLink RX3 46 yX3_allAreSo, Cond.instanceMethod yX3_allAreSo, Cond.selects RX3 yX3_allAreSo yX3_allAreSo, Cond.code yX3_allAreSo cX3_allAreSo 3 (some .boolean), Cond.fieldLink RX3 29 "SeenNumbers$Readings" "count" "I", Cond.fieldLink RX3 15 "SeenNumbers$Readings" "years" "[I", Cond.fieldLink RX3 9 "SeenNumbers$Readings" "houses" "[I"]
def wsX8_stood_r4 : List Cond := [Cond.fieldLink RX3 18 "SeenNumbers$Readings" "numbers" "[I", Cond.methodLink RX3 53 yX5_lookWithTrees, Cond.instanceMethod yX5_lookWithTrees, Cond.selects RX5 yX5_lookWithTrees yX5_lookWithTrees, Cond.code yX5_lookWithTrees cX5_lookWithTrees 5 none, Cond.fieldLink RX5 36 "SeenNumbers$Land" "treeCount" "I", Cond.fieldLink RX5 39 "SeenNumbers$Land" "trees" "[LSeenNumbers$Tree;", Cond.fieldLink RX5 43 "SeenNumbers$Tree" "place" "I", Cond.fieldLink RX5 48 "SeenNumbers$Land" "ground" "[I", Cond.methodLink RX5 51 yX2_treeTall, Cond.methodLink RX3 57 yX5_numberOf, Cond.instanceMethod yX5_numberOf, Cond.selects RX5 yX5_numberOf yX5_numberOf, Cond.code yX5_numberOf cX5_numberOf 2 (some .int), Cond.fieldLink RX5 73 "SeenNumbers$Land" "houses" "[LSeenNumbers$House;", Cond.fieldLink RX5 77 "SeenNumbers$House" "place" "I", Cond.methodLink RX5 84 yX5_numberFrom, Cond.instanceMethod yX5_numberFrom, Cond.selects RX5 yX5_numberFrom yX5_numberFrom, Cond.code yX5_numberFrom cX5_numberFrom 5 (some .int), Cond.fieldLink RX5 70 "SeenNumbers$Land" "houseCount" "I", Cond.methodLink RX5 80 yX5_isClear, Cond.instanceMethod yX5_isClear, Cond.selects RX5 yX5_isClear yX5_isClear]
def wsX8_stood_r5 : List Cond := [Cond.code yX5_isClear cX5_isClear 9 (some .boolean), Cond.fieldLink RX5 55 "SeenNumbers$Land" "wide" "I", Cond.methodLink RX5 58 Lib.Math.abs.name, Cond.static Lib.Math.abs.name, Cond.initialized "java/lang/Math", Cond.code Lib.Math.abs.name Lib.Math.abs.code 1 (some .int), Cond.methodLink RX5 63 Lib.Math.max.name, Cond.static Lib.Math.max.name, Cond.code Lib.Math.max.name Lib.Math.max.code 2 (some .int), Cond.static yX8_greatestCommon, Cond.code yX8_greatestCommon cX8_greatestCommon 3 (some .int), Cond.methodLink RX8 304 Lib.Math.max.name, Cond.methodLink RX8 248 yX3_firstThatStood, Cond.instanceMethod yX3_firstThatStood, Cond.selects RX3 yX3_firstThatStood yX3_firstThatStood, Cond.code yX3_firstThatStood cX3_firstThatStood 3 (some .int)]
def wsX8_stood : List Cond := .code yX8_stood cX8_stood 2 (some .int) :: ((wsX8_stood_r1 ++ (wsX8_stood_r2 ++ (wsX8_stood_r3 ++ (wsX8_stood_r4 ++ wsX8_stood_r5)))) ++ wsX80 ++ wsX20 ++ wsX30 ++ wsX50 ++ wsX10 ++ wsX70)
def wsX8_sheet : List Cond := .code yX8_sheet cX8_sheet 4 (some .int) :: ([.fieldLink RX8 57 "SeenNumbers" "latestFault" "I", .fieldLink RX8 13 "SeenNumbers" "sheets" "[LSeenNumbers$Sheet;", .methodLink RX8 61 yX8_isSheet, .static yX8_isSheet, .initialized RX8, .code yX8_isSheet cX8_isSheet 1 (some .boolean), .methodLink RX8 65 yX8_isWithin, .static yX8_isWithin, .code yX8_isWithin cX8_isWithin 3 (some .boolean), .methodLink RX8 77 yX8_answerFault, .instanceMethod yX8_answerFault, .selects RX8 yX8_answerFault yX8_answerFault, .code yX8_answerFault cX8_answerFault 2 (some .int), .methodLink RX8 251 yX4_makeRow, .instanceMethod yX4_makeRow, .selects RX4 yX4_makeRow yX4_makeRow, .initialized RX4, .code yX4_makeRow cX4_makeRow 4 none, .fieldLink RX4 19 "SeenNumbers$Sheet" "lane" "I", .fieldLink RX4 15 "SeenNumbers$Sheet" "size" "I", .fieldLink RX4 9 "SeenNumbers$Sheet" "cells" "[I"] ++ wsX80 ++ wsX40)
def wsX8_lose : List Cond := .code yX8_lose cX8_lose 2 (some .int) :: ([.fieldLink RX8 13 "SeenNumbers" "sheets" "[LSeenNumbers$Sheet;", .methodLink RX8 61 yX8_isSheet, .static yX8_isSheet, .initialized RX8, .code yX8_isSheet cX8_isSheet 1 (some .boolean), .methodLink RX8 65 yX8_isWithin, .static yX8_isWithin, .code yX8_isWithin cX8_isWithin 3 (some .boolean), .methodLink RX8 255 yX4_hasRow, .instanceMethod yX4_hasRow, .selects RX4 yX4_hasRow yX4_hasRow, .initialized RX4, .code yX4_hasRow cX4_hasRow 1 (some .boolean), .fieldLink RX4 15 "SeenNumbers$Sheet" "size" "I", .methodLink RX8 258 yX4_dropRow, .instanceMethod yX4_dropRow, .selects RX4 yX4_dropRow yX4_dropRow, .code yX4_dropRow cX4_dropRow 1 none] ++ wsX80 ++ wsX40)
def wsX8_put_r1 : List Cond := [Cond.fieldLink RX8 57 "SeenNumbers" "latestFault" "I", Cond.fieldLink RX8 13 "SeenNumbers" "sheets" "[LSeenNumbers$Sheet;", Cond.methodLink RX8 61 yX8_isSheet, Cond.static yX8_isSheet, Cond.initialized RX8, Cond.code yX8_isSheet cX8_isSheet 1 (some .boolean), Cond.methodLink RX8 65 yX8_isWithin, Cond.static yX8_isWithin, Cond.code yX8_isWithin cX8_isWithin 3 (some .boolean), Cond.methodLink RX8 255 yX4_hasRow, Cond.instanceMethod yX4_hasRow, Cond.selects RX4 yX4_hasRow yX4_hasRow, Cond.initialized RX4, Cond.code yX4_hasRow cX4_hasRow 1 (some .boolean), Cond.fieldLink RX4 15 "SeenNumbers$Sheet" "size" "I", Cond.methodLink RX8 77 yX8_answerFault, Cond.instanceMethod yX8_answerFault, Cond.selects RX8 yX8_answerFault yX8_answerFault, Cond.code yX8_answerFault cX8_answerFault 2 (some .int), Cond.methodLink RX8 261 yX4_holds, Cond.instanceMethod yX4_holds, Cond.selects RX4 yX4_holds yX4_holds, Cond.code yX4_holds cX4_holds 2 (some .boolean), Cond.methodLink RX8 264 yX4_write]
def wsX8_put_r2 : List Cond := [Cond.instanceMethod yX4_write, Cond.selects RX4 yX4_write yX4_write, Cond.code yX4_write cX4_write 3 none, Cond.fieldLink RX4 19 "SeenNumbers$Sheet" "lane" "I", Cond.fieldLink RX4 9 "SeenNumbers$Sheet" "cells" "[I"]
def wsX8_put : List Cond := .code yX8_put cX8_put 5 (some .int) :: ((wsX8_put_r1 ++ wsX8_put_r2) ++ wsX80 ++ wsX40)
def wsX8_cell_r1 : List Cond := [Cond.fieldLink RX8 57 "SeenNumbers" "latestFault" "I", Cond.constantLong RX8 196 (-9223372036854775808), Cond.fieldLink RX8 13 "SeenNumbers" "sheets" "[LSeenNumbers$Sheet;", Cond.fieldLink RX8 267 "SeenNumbers$Sheet" "cells" "[I", Cond.methodLink RX8 61 yX8_isSheet, Cond.static yX8_isSheet, Cond.initialized RX8, Cond.code yX8_isSheet cX8_isSheet 1 (some .boolean), Cond.methodLink RX8 65 yX8_isWithin, Cond.static yX8_isWithin, Cond.code yX8_isWithin cX8_isWithin 3 (some .boolean), Cond.methodLink RX8 69 yX4_faultAs, Cond.instanceMethod yX4_faultAs, Cond.selects RX4 yX4_faultAs yX4_faultAs, Cond.initialized RX4, Cond.code yX4_faultAs cX4_faultAs 2 (some .int), Cond.fieldLink RX4 19 "SeenNumbers$Sheet" "lane" "I", Cond.methodLink RX4 22 yX4_hasRow, Cond.instanceMethod yX4_hasRow, Cond.selects RX4 yX4_hasRow yX4_hasRow, Cond.code yX4_hasRow cX4_hasRow 1 (some .boolean), Cond.fieldLink RX4 15 "SeenNumbers$Sheet" "size" "I", Cond.methodLink RX8 261 yX4_holds, Cond.instanceMethod yX4_holds]
def wsX8_cell_r2 : List Cond := [Cond.selects RX4 yX4_holds yX4_holds, Cond.code yX4_holds cX4_holds 2 (some .boolean)]
def wsX8_cell : List Cond := .code yX8_cell cX8_cell 5 (some .long) :: ((wsX8_cell_r1 ++ wsX8_cell_r2) ++ wsX80 ++ wsX40)
def wsX8_copy_r1 : List Cond := [Cond.fieldLink RX8 57 "SeenNumbers" "latestFault" "I", Cond.fieldLink RX8 13 "SeenNumbers" "sheets" "[LSeenNumbers$Sheet;", Cond.fieldLink RX8 269 "SeenNumbers$Sheet" "lane" "I", Cond.fieldLink RX8 267 "SeenNumbers$Sheet" "cells" "[I", Cond.methodLink RX8 272 arraycopyName, Cond.native arraycopyName, Cond.static arraycopyName, Cond.initialized "java/lang/System", Cond.methodLink RX8 61 yX8_isSheet, Cond.static yX8_isSheet, Cond.initialized RX8, Cond.code yX8_isSheet cX8_isSheet 1 (some .boolean), Cond.methodLink RX8 65 yX8_isWithin, Cond.static yX8_isWithin, Cond.code yX8_isWithin cX8_isWithin 3 (some .boolean), Cond.methodLink RX8 255 yX4_hasRow, Cond.instanceMethod yX4_hasRow, Cond.selects RX4 yX4_hasRow yX4_hasRow, Cond.initialized RX4, Cond.code yX4_hasRow cX4_hasRow 1 (some .boolean), Cond.fieldLink RX4 15 "SeenNumbers$Sheet" "size" "I", Cond.methodLink RX8 77 yX8_answerFault, Cond.instanceMethod yX8_answerFault, Cond.selects RX8 yX8_answerFault yX8_answerFault]
def wsX8_copy_r2 : List Cond := [Cond.code yX8_answerFault cX8_answerFault 2 (some .int), Cond.methodLink RX8 73 yX4_holdsRun, Cond.instanceMethod yX4_holdsRun, Cond.selects RX4 yX4_holdsRun yX4_holdsRun, Cond.code yX4_holdsRun cX4_holdsRun 3 (some .boolean)]
def wsX8_copy : List Cond := .code yX8_copy cX8_copy 8 (some .int) :: ((wsX8_copy_r1 ++ wsX8_copy_r2) ++ wsX80 ++ wsX40)
def wsX8_leaveTrace : List Cond := .code yX8_leaveTrace cX8_leaveTrace 2 none :: ([.fieldLink RX8 295 "SeenNumbers" "traceLeft" "I"] ++ wsX80)
def wsX8_houseTells : List Cond := .code yX8_houseTells cX8_houseTells 2 (some .int) :: ([.fieldLink RX8 123 "SeenNumbers$House" "tallAtFirst" "I", .methodLink RX8 288 yX8_leaveTrace, .instanceMethod yX8_leaveTrace, .selects RX8 yX8_leaveTrace yX8_leaveTrace, .initialized RX8, .code yX8_leaveTrace cX8_leaveTrace 2 none, .fieldLink RX8 295 "SeenNumbers" "traceLeft" "I"] ++ wsX10 ++ wsX80)
def wsX8_chimneyTells : List Cond := .code yX8_chimneyTells cX8_chimneyTells 2 (some .int) :: ([.methodLink RX8 288 yX8_leaveTrace, .instanceMethod yX8_leaveTrace, .selects RX8 yX8_leaveTrace yX8_leaveTrace, .initialized RX8, .code yX8_leaveTrace cX8_leaveTrace 2 none, .fieldLink RX8 295 "SeenNumbers" "traceLeft" "I", .methodLink RX8 285 yX8_houseTells, .instanceMethod yX8_houseTells, .selects RX8 yX8_houseTells yX8_houseTells, .code yX8_houseTells cX8_houseTells 2 (some .int), .fieldLink RX8 123 "SeenNumbers$House" "tallAtFirst" "I"] ++ wsX80 ++ wsX10)
def wsX8_towerTells : List Cond := .code yX8_towerTells cX8_towerTells 3 (some .int) :: ([.methodLink RX8 288 yX8_leaveTrace, .instanceMethod yX8_leaveTrace, .selects RX8 yX8_leaveTrace yX8_leaveTrace, .initialized RX8, .code yX8_leaveTrace cX8_leaveTrace 2 none, .fieldLink RX8 295 "SeenNumbers" "traceLeft" "I", .methodLink RX8 282 yX8_chimneyTells, .instanceMethod yX8_chimneyTells, .selects RX8 yX8_chimneyTells yX8_chimneyTells, .code yX8_chimneyTells cX8_chimneyTells 2 (some .int), .methodLink RX8 285 yX8_houseTells, .instanceMethod yX8_houseTells, .selects RX8 yX8_houseTells yX8_houseTells, .code yX8_houseTells cX8_houseTells 2 (some .int), .fieldLink RX8 123 "SeenNumbers$House" "tallAtFirst" "I"] ++ wsX80 ++ wsX10)
def wsX8_tell_r1 : List Cond := [Cond.fieldLink RX8 28 "SeenNumbers" "plot" "LSeenNumbers$Land;", Cond.fieldLink RX8 113 "SeenNumbers$Land" "houses" "[LSeenNumbers$House;", Cond.fieldLink RX8 117 "SeenNumbers$House" "kind" "I", Cond.methodLink RX8 110 yX2_hasHouse, Cond.instanceMethod yX2_hasHouse, Cond.selects RX2 yX2_hasHouse yX2_hasHouse, Cond.initialized RX2, Cond.code yX2_hasHouse cX2_hasHouse 2 (some .boolean), Cond.fieldLink RX2 43 "SeenNumbers$Land" "houseCount" "I", Cond.static yX8_isWithin, Cond.initialized RX8, Cond.code yX8_isWithin cX8_isWithin 3 (some .boolean), Cond.methodLink RX8 278 yX8_towerTells, Cond.instanceMethod yX8_towerTells, Cond.selects RX8 yX8_towerTells yX8_towerTells, Cond.code yX8_towerTells cX8_towerTells 3 (some .int), Cond.methodLink RX8 288 yX8_leaveTrace, Cond.instanceMethod yX8_leaveTrace, Cond.selects RX8 yX8_leaveTrace yX8_leaveTrace, Cond.code yX8_leaveTrace cX8_leaveTrace 2 none, Cond.fieldLink RX8 295 "SeenNumbers" "traceLeft" "I", Cond.methodLink RX8 282 yX8_chimneyTells, Cond.instanceMethod yX8_chimneyTells, Cond.selects RX8 yX8_chimneyTells yX8_chimneyTells]
def wsX8_tell_r2 : List Cond := [Cond.code yX8_chimneyTells cX8_chimneyTells 2 (some .int), Cond.methodLink RX8 285 yX8_houseTells, Cond.instanceMethod yX8_houseTells, Cond.selects RX8 yX8_houseTells yX8_houseTells, Cond.code yX8_houseTells cX8_houseTells 2 (some .int), Cond.fieldLink RX8 123 "SeenNumbers$House" "tallAtFirst" "I"]
def wsX8_tell : List Cond := .code yX8_tell cX8_tell 3 (some .int) :: ((wsX8_tell_r1 ++ wsX8_tell_r2) ++ wsX80 ++ wsX20 ++ wsX10)
def wsX8_rent : List Cond := .code yX8_rent cX8_rent 2 (some .int) :: ([.fieldLink RX8 28 "SeenNumbers" "plot" "LSeenNumbers$Land;", .fieldLink RX8 113 "SeenNumbers$Land" "houses" "[LSeenNumbers$House;", .fieldLink RX8 117 "SeenNumbers$House" "kind" "I", .methodLink RX8 110 yX2_hasHouse, .instanceMethod yX2_hasHouse, .selects RX2 yX2_hasHouse yX2_hasHouse, .initialized RX2, .code yX2_hasHouse cX2_hasHouse 2 (some .boolean), .fieldLink RX2 43 "SeenNumbers$Land" "houseCount" "I", .static yX8_isWithin, .initialized RX8, .code yX8_isWithin cX8_isWithin 3 (some .boolean), .methodLink RX8 288 yX8_leaveTrace, .instanceMethod yX8_leaveTrace, .selects RX8 yX8_leaveTrace yX8_leaveTrace, .code yX8_leaveTrace cX8_leaveTrace 2 none, .fieldLink RX8 295 "SeenNumbers" "traceLeft" "I"] ++ wsX80 ++ wsX20 ++ wsX10)
def wsX8_as : List Cond := .code yX8_as cX8_as 3 (some .int) :: ([.fieldLink RX8 57 "SeenNumbers" "latestFault" "I", .fieldLink RX8 28 "SeenNumbers" "plot" "LSeenNumbers$Land;", .fieldLink RX8 113 "SeenNumbers$Land" "houses" "[LSeenNumbers$House;", .methodLink RX8 110 yX2_hasHouse, .instanceMethod yX2_hasHouse, .selects RX2 yX2_hasHouse yX2_hasHouse, .initialized RX2, .code yX2_hasHouse cX2_hasHouse 2 (some .boolean), .fieldLink RX2 43 "SeenNumbers$Land" "houseCount" "I", .static yX8_isWithin, .initialized RX8, .code yX8_isWithin cX8_isWithin 3 (some .boolean), .methodLink RX8 65 yX8_isWithin, .methodLink RX8 292 yX1_isA, .instanceMethod yX1_isA, .selects RX1 yX1_isA yX1_isA, .initialized RX1, .code yX1_isA cX1_isA 2 (some .boolean), .fieldLink RX1 9 "SeenNumbers$House" "kind" "I", .methodLink RX8 77 yX8_answerFault, .instanceMethod yX8_answerFault, .selects RX8 yX8_answerFault yX8_answerFault, .code yX8_answerFault cX8_answerFault 2 (some .int)] ++ wsX80 ++ wsX20 ++ wsX10)
def wsX8_trace : List Cond := .code yX8_trace cX8_trace 1 (some .int) :: ([.fieldLink RX8 295 "SeenNumbers" "traceLeft" "I"] ++ wsX80)
def wsX8_fault : List Cond := .code yX8_fault cX8_fault 1 (some .int) :: ([.fieldLink RX8 57 "SeenNumbers" "latestFault" "I"] ++ wsX80)
def wsX8_many : List Cond := .code yX8_many cX8_many 2 (some .int) :: ([.fieldLink RX8 28 "SeenNumbers" "plot" "LSeenNumbers$Land;", .fieldLink RX8 94 "SeenNumbers$Land" "cells" "I", .fieldLink RX8 298 "SeenNumbers$Land" "wide" "I", .fieldLink RX8 198 "SeenNumbers$Land" "houseCount" "I", .fieldLink RX8 301 "SeenNumbers$Land" "treeCount" "I", .fieldLink RX8 53 "SeenNumbers" "readings" "LSeenNumbers$Readings;", .fieldLink RX8 91 "SeenNumbers$Readings" "count" "I", .fieldLink RX8 147 "SeenNumbers$Land" "year" "I", .fieldLink RX8 164 "SeenNumbers$Land" "fog" "I"] ++ wsX80 ++ wsX20 ++ wsX30)
def wsX9_init_r1 : List Cond := [Cond.methodLink RX9 1 objectInit, Cond.instanceMethod objectInit, Cond.code objectInit ⟨#[0xb1]⟩ 1 none, Cond.arrayClass .int, Cond.fieldLink RX9 7 "SeenNumbersModel" "groundOf" "[I", Cond.fieldLink RX9 13 "SeenNumbersModel" "has" "[I", Cond.fieldLink RX9 16 "SeenNumbersModel" "wallOf" "[I", Cond.fieldLink RX9 19 "SeenNumbersModel" "kindOf" "[I", Cond.fieldLink RX9 22 "SeenNumbersModel" "houseAt" "[I", Cond.fieldLink RX9 25 "SeenNumbersModel" "tallOf" "[I", Cond.fieldLink RX9 28 "SeenNumbersModel" "floorsOf" "[I", Cond.fieldLink RX9 31 "SeenNumbersModel" "treeAt" "[I", Cond.fieldLink RX9 34 "SeenNumbersModel" "treeTall" "[I", Cond.arrayClass .boolean, Cond.fieldLink RX9 37 "SeenNumbersModel" "isFelled" "[Z", Cond.fieldLink RX9 41 "SeenNumbersModel" "readGround" "[I", Cond.fieldLink RX9 44 "SeenNumbersModel" "readHas" "[I", Cond.fieldLink RX9 47 "SeenNumbersModel" "readKind" "[I", Cond.fieldLink RX9 50 "SeenNumbersModel" "readHouse" "[I", Cond.fieldLink RX9 53 "SeenNumbersModel" "readTall" "[I", Cond.fieldLink RX9 56 "SeenNumbersModel" "readTree" "[I", Cond.fieldLink RX9 59 "SeenNumbersModel" "readGrown" "[I", Cond.fieldLink RX9 62 "SeenNumbersModel" "numberWas" "[I", Cond.fieldLink RX9 65 "SeenNumbersModel" "readingOf" "[I"]
def wsX9_init_r2 : List Cond := [Cond.fieldLink RX9 68 "SeenNumbersModel" "readingIn" "[I", Cond.fieldLink RX9 71 "SeenNumbersModel" "readingTo" "[I", Cond.fieldLink RX9 74 "SeenNumbersModel" "sheetSize" "[I", Cond.fieldLink RX9 77 "SeenNumbersModel" "sheetLane" "[I", Cond.fieldLink RX9 80 "SeenNumbersModel" "sheet" "[I", Cond.fieldLink RX9 83 "SeenNumbersModel" "hands" "[I"]
def wsX9_init : List Cond := .code yX9_init cX9_init 2 none :: ((wsX9_init_r1 ++ wsX9_init_r2) ++ wsX90)
def wsX9_in : List Cond := .code yX9_in cX9_in 6 (some .boolean) :: ([])
def wsX9_lost : List Cond := .code yX9_lost cX9_lost 0 (some .long) :: ([.constantLong RX9 86 (-9223372036854775808)])
def wsX9_far : List Cond := .code yX9_far cX9_far 2 (some .int) :: ([])
def wsX9_common : List Cond := .code yX9_common cX9_common 5 (some .int) :: ([])
def wsX9_isIn : List Cond := .code yX9_isIn cX9_isIn 2 (some .boolean) :: ([])
def wsX9_bits : List Cond := .code yX9_bits cX9_bits 3 (some .int) :: ([])
def wsX9_refused : List Cond := .code yX9_refused cX9_refused 2 (some .int) :: ([.fieldLink RX9 88 "SeenNumbersModel" "fault" "I"] ++ wsX90)
def wsX9_failed : List Cond := .code yX9_failed cX9_failed 2 (some .int) :: ([.fieldLink RX9 88 "SeenNumbersModel" "fault" "I"] ++ wsX90)
def wsX9_failedLong : List Cond := .code yX9_failedLong cX9_failedLong 2 (some .long) :: ([.fieldLink RX9 88 "SeenNumbersModel" "fault" "I", .methodLink RX9 92 yX9_lost, .static yX9_lost, .initialized RX9, .code yX9_lost cX9_lost 0 (some .long), .constantLong RX9 86 (-9223372036854775808)] ++ wsX90)
def wsX9_cells : List Cond := .code yX9_cells cX9_cells 1 (some .int) :: ([.fieldLink RX9 96 "SeenNumbersModel" "high" "I", .fieldLink RX9 99 "SeenNumbersModel" "wide" "I"] ++ wsX90)
def wsX9_noCell : List Cond := .code yX9_noCell cX9_noCell 2 (some .boolean) :: ([.methodLink RX9 102 yX9_cells, .instanceMethod yX9_cells, .selects RX9 yX9_cells yX9_cells, .initialized RX9, .code yX9_cells cX9_cells 1 (some .int), .fieldLink RX9 96 "SeenNumbersModel" "high" "I", .fieldLink RX9 99 "SeenNumbersModel" "wide" "I", .methodLink RX9 106 yX9_in, .static yX9_in, .code yX9_in cX9_in 6 (some .boolean)] ++ wsX90)
def wsX9_noHouse : List Cond := .code yX9_noHouse cX9_noHouse 2 (some .boolean) :: ([.fieldLink RX9 110 "SeenNumbersModel" "houses" "I", .methodLink RX9 106 yX9_in, .static yX9_in, .initialized RX9, .code yX9_in cX9_in 6 (some .boolean)] ++ wsX90)
def wsX9_noTree : List Cond := .code yX9_noTree cX9_noTree 2 (some .boolean) :: ([.fieldLink RX9 113 "SeenNumbersModel" "trees" "I", .methodLink RX9 106 yX9_in, .static yX9_in, .initialized RX9, .code yX9_in cX9_in 6 (some .boolean)] ++ wsX90)
def wsX9_codeAt : List Cond := .code yX9_codeAt cX9_codeAt 3 (some .int) :: ([.fieldLink RX9 116 "SeenNumbersModel" "readAt" "I", .fieldLink RX9 80 "SeenNumbersModel" "sheet" "[I"] ++ wsX90)
def wsX9_figure : List Cond := .code yX9_figure cX9_figure 7 (some .int) :: ([.fieldLink RX9 116 "SeenNumbersModel" "readAt" "I", .methodLink RX9 119 yX9_codeAt, .instanceMethod yX9_codeAt, .selects RX9 yX9_codeAt yX9_codeAt, .initialized RX9, .code yX9_codeAt cX9_codeAt 3 (some .int), .fieldLink RX9 80 "SeenNumbersModel" "sheet" "[I", .methodLink RX9 106 yX9_in, .static yX9_in, .code yX9_in cX9_in 6 (some .boolean)] ++ wsX90)
def wsX9_readsCell : List Cond := .code yX9_readsCell cX9_readsCell 7 (some .boolean) :: ([.fieldLink RX9 41 "SeenNumbersModel" "readGround" "[I", .fieldLink RX9 44 "SeenNumbersModel" "readHas" "[I", .fieldLink RX9 116 "SeenNumbersModel" "readAt" "I", .fieldLink RX9 127 "SeenNumbersModel" "readHouses" "I", .fieldLink RX9 130 "SeenNumbersModel" "readTrees" "I", .fieldLink RX9 47 "SeenNumbersModel" "readKind" "[I", .fieldLink RX9 50 "SeenNumbersModel" "readHouse" "[I", .fieldLink RX9 53 "SeenNumbersModel" "readTall" "[I", .fieldLink RX9 56 "SeenNumbersModel" "readTree" "[I", .fieldLink RX9 59 "SeenNumbersModel" "readGrown" "[I", .methodLink RX9 123 yX9_figure, .instanceMethod yX9_figure, .selects RX9 yX9_figure yX9_figure, .initialized RX9, .code yX9_figure cX9_figure 7 (some .int), .methodLink RX9 119 yX9_codeAt, .instanceMethod yX9_codeAt, .selects RX9 yX9_codeAt yX9_codeAt, .code yX9_codeAt cX9_codeAt 3 (some .int), .fieldLink RX9 80 "SeenNumbersModel" "sheet" "[I", .methodLink RX9 106 yX9_in, .static yX9_in, .code yX9_in cX9_in 6 (some .boolean)] ++ wsX90)
def wsX9_readsLand_r1 : List Cond := [Cond.fieldLink RX9 116 "SeenNumbersModel" "readAt" "I", Cond.fieldLink RX9 127 "SeenNumbersModel" "readHouses" "I", Cond.fieldLink RX9 130 "SeenNumbersModel" "readTrees" "I", Cond.fieldLink RX9 133 "SeenNumbersModel" "readHigh" "I", Cond.fieldLink RX9 136 "SeenNumbersModel" "readWide" "I", Cond.methodLink RX9 119 yX9_codeAt, Cond.instanceMethod yX9_codeAt, Cond.selects RX9 yX9_codeAt yX9_codeAt, Cond.initialized RX9, Cond.code yX9_codeAt cX9_codeAt 3 (some .int), Cond.fieldLink RX9 80 "SeenNumbersModel" "sheet" "[I", Cond.methodLink RX9 123 yX9_figure, Cond.instanceMethod yX9_figure, Cond.selects RX9 yX9_figure yX9_figure, Cond.code yX9_figure cX9_figure 7 (some .int), Cond.methodLink RX9 106 yX9_in, Cond.static yX9_in, Cond.code yX9_in cX9_in 6 (some .boolean), Cond.methodLink RX9 139 yX9_readsCell, Cond.instanceMethod yX9_readsCell, Cond.selects RX9 yX9_readsCell yX9_readsCell, Cond.code yX9_readsCell cX9_readsCell 7 (some .boolean), Cond.fieldLink RX9 41 "SeenNumbersModel" "readGround" "[I", Cond.fieldLink RX9 44 "SeenNumbersModel" "readHas" "[I"]
def wsX9_readsLand_r2 : List Cond := [Cond.fieldLink RX9 47 "SeenNumbersModel" "readKind" "[I", Cond.fieldLink RX9 50 "SeenNumbersModel" "readHouse" "[I", Cond.fieldLink RX9 53 "SeenNumbersModel" "readTall" "[I", Cond.fieldLink RX9 56 "SeenNumbersModel" "readTree" "[I", Cond.fieldLink RX9 59 "SeenNumbersModel" "readGrown" "[I"]
def wsX9_readsLand : List Cond := .code yX9_readsLand cX9_readsLand 5 (some .boolean) :: ((wsX9_readsLand_r1 ++ wsX9_readsLand_r2) ++ wsX90)
def wsX9_noSheet : List Cond := .code yX9_noSheet cX9_noSheet 1 (some .boolean) :: ([.constantLong RX9 243 (3), .methodLink RX9 106 yX9_in, .static yX9_in, .initialized RX9, .code yX9_in cX9_in 6 (some .boolean)])
def wsX9_isBeyond : List Cond := .code yX9_isBeyond cX9_isBeyond 4 (some .boolean) :: ([])
def wsX9_land_r1 : List Cond := [Cond.constantLong RX9 151 (2), Cond.fieldLink RX9 74 "SeenNumbersModel" "sheetSize" "[I", Cond.fieldLink RX9 77 "SeenNumbersModel" "sheetLane" "[I", Cond.fieldLink RX9 116 "SeenNumbersModel" "readAt" "I", Cond.fieldLink RX9 133 "SeenNumbersModel" "readHigh" "I", Cond.fieldLink RX9 96 "SeenNumbersModel" "high" "I", Cond.fieldLink RX9 136 "SeenNumbersModel" "readWide" "I", Cond.fieldLink RX9 99 "SeenNumbersModel" "wide" "I", Cond.fieldLink RX9 127 "SeenNumbersModel" "readHouses" "I", Cond.fieldLink RX9 110 "SeenNumbersModel" "houses" "I", Cond.fieldLink RX9 130 "SeenNumbersModel" "readTrees" "I", Cond.fieldLink RX9 113 "SeenNumbersModel" "trees" "I", Cond.fieldLink RX9 7 "SeenNumbersModel" "groundOf" "[I", Cond.fieldLink RX9 41 "SeenNumbersModel" "readGround" "[I", Cond.fieldLink RX9 13 "SeenNumbersModel" "has" "[I", Cond.fieldLink RX9 44 "SeenNumbersModel" "readHas" "[I", Cond.fieldLink RX9 16 "SeenNumbersModel" "wallOf" "[I", Cond.fieldLink RX9 19 "SeenNumbersModel" "kindOf" "[I", Cond.fieldLink RX9 47 "SeenNumbersModel" "readKind" "[I", Cond.fieldLink RX9 22 "SeenNumbersModel" "houseAt" "[I", Cond.fieldLink RX9 50 "SeenNumbersModel" "readHouse" "[I", Cond.fieldLink RX9 25 "SeenNumbersModel" "tallOf" "[I", Cond.fieldLink RX9 53 "SeenNumbersModel" "readTall" "[I", Cond.fieldLink RX9 28 "SeenNumbersModel" "floorsOf" "[I"]
def wsX9_land_r2 : List Cond := [Cond.fieldLink RX9 31 "SeenNumbersModel" "treeAt" "[I", Cond.fieldLink RX9 56 "SeenNumbersModel" "readTree" "[I", Cond.fieldLink RX9 34 "SeenNumbersModel" "treeTall" "[I", Cond.fieldLink RX9 59 "SeenNumbersModel" "readGrown" "[I", Cond.fieldLink RX9 37 "SeenNumbersModel" "isFelled" "[Z", Cond.fieldLink RX9 164 "SeenNumbersModel" "yearNow" "I", Cond.fieldLink RX9 167 "SeenNumbersModel" "fogNow" "I", Cond.fieldLink RX9 170 "SeenNumbersModel" "lawNow" "I", Cond.fieldLink RX9 173 "SeenNumbersModel" "readings" "I", Cond.methodLink RX9 143 yX9_noSheet, Cond.static yX9_noSheet, Cond.initialized RX9, Cond.code yX9_noSheet cX9_noSheet 1 (some .boolean), Cond.constantLong RX9 243 (3), Cond.methodLink RX9 106 yX9_in, Cond.static yX9_in, Cond.code yX9_in cX9_in 6 (some .boolean), Cond.methodLink RX9 147 yX9_refused, Cond.instanceMethod yX9_refused, Cond.selects RX9 yX9_refused yX9_refused, Cond.code yX9_refused cX9_refused 2 (some .int), Cond.fieldLink RX9 88 "SeenNumbersModel" "fault" "I", Cond.methodLink RX9 153 yX9_failed, Cond.instanceMethod yX9_failed]
def wsX9_land_r3 : List Cond := [Cond.selects RX9 yX9_failed yX9_failed, Cond.code yX9_failed cX9_failed 2 (some .int), Cond.methodLink RX9 156 yX9_isBeyond, Cond.static yX9_isBeyond, Cond.code yX9_isBeyond cX9_isBeyond 4 (some .boolean), Cond.methodLink RX9 160 yX9_readsLand, Cond.instanceMethod yX9_readsLand, Cond.selects RX9 yX9_readsLand yX9_readsLand, Cond.code yX9_readsLand cX9_readsLand 5 (some .boolean), Cond.methodLink RX9 119 yX9_codeAt, Cond.instanceMethod yX9_codeAt, Cond.selects RX9 yX9_codeAt yX9_codeAt, Cond.code yX9_codeAt cX9_codeAt 3 (some .int), Cond.fieldLink RX9 80 "SeenNumbersModel" "sheet" "[I", Cond.methodLink RX9 123 yX9_figure, Cond.instanceMethod yX9_figure, Cond.selects RX9 yX9_figure yX9_figure, Cond.code yX9_figure cX9_figure 7 (some .int), Cond.methodLink RX9 139 yX9_readsCell, Cond.instanceMethod yX9_readsCell, Cond.selects RX9 yX9_readsCell yX9_readsCell, Cond.code yX9_readsCell cX9_readsCell 7 (some .boolean), Cond.methodLink RX9 102 yX9_cells, Cond.instanceMethod yX9_cells]
def wsX9_land_r4 : List Cond := [Cond.selects RX9 yX9_cells yX9_cells, Cond.code yX9_cells cX9_cells 1 (some .int)]
def wsX9_land : List Cond := .code yX9_land cX9_land 6 (some .int) :: ((wsX9_land_r1 ++ (wsX9_land_r2 ++ (wsX9_land_r3 ++ wsX9_land_r4))) ++ wsX90)
def wsX9_houseTall : List Cond := .code yX9_houseTall cX9_houseTall 3 (some .int) :: ([.fieldLink RX9 25 "SeenNumbersModel" "tallOf" "[I", .fieldLink RX9 28 "SeenNumbersModel" "floorsOf" "[I", .fieldLink RX9 19 "SeenNumbersModel" "kindOf" "[I", .fieldLink RX9 170 "SeenNumbersModel" "lawNow" "I"] ++ wsX90)
def wsX9_treeNow : List Cond := .code yX9_treeNow cX9_treeNow 2 (some .int) :: ([.fieldLink RX9 37 "SeenNumbersModel" "isFelled" "[Z", .fieldLink RX9 34 "SeenNumbersModel" "treeTall" "[I", .fieldLink RX9 164 "SeenNumbersModel" "yearNow" "I"] ++ wsX90)
def wsX9_topOf : List Cond := .code yX9_topOf cX9_topOf 3 (some .int) :: ([.fieldLink RX9 13 "SeenNumbersModel" "has" "[I", .fieldLink RX9 16 "SeenNumbersModel" "wallOf" "[I", .fieldLink RX9 7 "SeenNumbersModel" "groundOf" "[I", .methodLink RX9 176 yX9_houseTall, .instanceMethod yX9_houseTall, .selects RX9 yX9_houseTall yX9_houseTall, .initialized RX9, .code yX9_houseTall cX9_houseTall 3 (some .int), .fieldLink RX9 25 "SeenNumbersModel" "tallOf" "[I", .fieldLink RX9 28 "SeenNumbersModel" "floorsOf" "[I", .fieldLink RX9 19 "SeenNumbersModel" "kindOf" "[I", .fieldLink RX9 170 "SeenNumbersModel" "lawNow" "I", .methodLink RX9 179 yX9_treeNow, .instanceMethod yX9_treeNow, .selects RX9 yX9_treeNow yX9_treeNow, .code yX9_treeNow cX9_treeNow 2 (some .int), .fieldLink RX9 37 "SeenNumbersModel" "isFelled" "[Z", .fieldLink RX9 34 "SeenNumbersModel" "treeTall" "[I", .fieldLink RX9 164 "SeenNumbersModel" "yearNow" "I"] ++ wsX90)
def wsX9_ofCell_r1 : List Cond := [Cond.fieldLink RX9 7 "SeenNumbersModel" "groundOf" "[I", Cond.fieldLink RX9 13 "SeenNumbersModel" "has" "[I", Cond.methodLink RX9 182 yX9_noCell, Cond.instanceMethod yX9_noCell, Cond.selects RX9 yX9_noCell yX9_noCell, Cond.initialized RX9, Cond.code yX9_noCell cX9_noCell 2 (some .boolean), Cond.methodLink RX9 102 yX9_cells, Cond.instanceMethod yX9_cells, Cond.selects RX9 yX9_cells yX9_cells, Cond.code yX9_cells cX9_cells 1 (some .int), Cond.fieldLink RX9 96 "SeenNumbersModel" "high" "I", Cond.fieldLink RX9 99 "SeenNumbersModel" "wide" "I", Cond.methodLink RX9 106 yX9_in, Cond.static yX9_in, Cond.code yX9_in cX9_in 6 (some .boolean), Cond.methodLink RX9 185 yX9_topOf, Cond.instanceMethod yX9_topOf, Cond.selects RX9 yX9_topOf yX9_topOf, Cond.code yX9_topOf cX9_topOf 3 (some .int), Cond.fieldLink RX9 16 "SeenNumbersModel" "wallOf" "[I", Cond.methodLink RX9 176 yX9_houseTall, Cond.instanceMethod yX9_houseTall, Cond.selects RX9 yX9_houseTall yX9_houseTall]
def wsX9_ofCell_r2 : List Cond := [Cond.code yX9_houseTall cX9_houseTall 3 (some .int), Cond.fieldLink RX9 25 "SeenNumbersModel" "tallOf" "[I", Cond.fieldLink RX9 28 "SeenNumbersModel" "floorsOf" "[I", Cond.fieldLink RX9 19 "SeenNumbersModel" "kindOf" "[I", Cond.fieldLink RX9 170 "SeenNumbersModel" "lawNow" "I", Cond.methodLink RX9 179 yX9_treeNow, Cond.instanceMethod yX9_treeNow, Cond.selects RX9 yX9_treeNow yX9_treeNow, Cond.code yX9_treeNow cX9_treeNow 2 (some .int), Cond.fieldLink RX9 37 "SeenNumbersModel" "isFelled" "[Z", Cond.fieldLink RX9 34 "SeenNumbersModel" "treeTall" "[I", Cond.fieldLink RX9 164 "SeenNumbersModel" "yearNow" "I"]
def wsX9_ofCell : List Cond := .code yX9_ofCell cX9_ofCell 3 (some .int) :: ((wsX9_ofCell_r1 ++ wsX9_ofCell_r2) ++ wsX90)
def wsX9_ofHouse : List Cond := .code yX9_ofHouse cX9_ofHouse 3 (some .int) :: ([.fieldLink RX9 19 "SeenNumbersModel" "kindOf" "[I", .fieldLink RX9 22 "SeenNumbersModel" "houseAt" "[I", .fieldLink RX9 25 "SeenNumbersModel" "tallOf" "[I", .fieldLink RX9 28 "SeenNumbersModel" "floorsOf" "[I", .methodLink RX9 188 yX9_noHouse, .instanceMethod yX9_noHouse, .selects RX9 yX9_noHouse yX9_noHouse, .initialized RX9, .code yX9_noHouse cX9_noHouse 2 (some .boolean), .fieldLink RX9 110 "SeenNumbersModel" "houses" "I", .methodLink RX9 106 yX9_in, .static yX9_in, .code yX9_in cX9_in 6 (some .boolean), .methodLink RX9 176 yX9_houseTall, .instanceMethod yX9_houseTall, .selects RX9 yX9_houseTall yX9_houseTall, .code yX9_houseTall cX9_houseTall 3 (some .int), .fieldLink RX9 170 "SeenNumbersModel" "lawNow" "I"] ++ wsX90)
def wsX9_ofTree : List Cond := .code yX9_ofTree cX9_ofTree 3 (some .int) :: ([.fieldLink RX9 31 "SeenNumbersModel" "treeAt" "[I", .fieldLink RX9 34 "SeenNumbersModel" "treeTall" "[I", .fieldLink RX9 37 "SeenNumbersModel" "isFelled" "[Z", .methodLink RX9 191 yX9_noTree, .instanceMethod yX9_noTree, .selects RX9 yX9_noTree yX9_noTree, .initialized RX9, .code yX9_noTree cX9_noTree 2 (some .boolean), .fieldLink RX9 113 "SeenNumbersModel" "trees" "I", .methodLink RX9 106 yX9_in, .static yX9_in, .code yX9_in cX9_in 6 (some .boolean), .methodLink RX9 179 yX9_treeNow, .instanceMethod yX9_treeNow, .selects RX9 yX9_treeNow yX9_treeNow, .code yX9_treeNow cX9_treeNow 2 (some .int), .fieldLink RX9 164 "SeenNumbersModel" "yearNow" "I"] ++ wsX90)
def wsX9_times : List Cond := .code yX9_times cX9_times 5 (some .int) :: ([.constantLong RX9 194 (30), .constantLong RX9 196 (9), .fieldLink RX9 96 "SeenNumbersModel" "high" "I", .fieldLink RX9 164 "SeenNumbersModel" "yearNow" "I", .fieldLink RX9 167 "SeenNumbersModel" "fogNow" "I", .fieldLink RX9 170 "SeenNumbersModel" "lawNow" "I", .methodLink RX9 106 yX9_in, .static yX9_in, .initialized RX9, .code yX9_in cX9_in 6 (some .boolean)] ++ wsX90)
def wsX9_wall : List Cond := .code yX9_wall cX9_wall 4 (some .int) :: ([.constantLong RX9 196 (9), .fieldLink RX9 13 "SeenNumbersModel" "has" "[I", .fieldLink RX9 16 "SeenNumbersModel" "wallOf" "[I", .methodLink RX9 182 yX9_noCell, .instanceMethod yX9_noCell, .selects RX9 yX9_noCell yX9_noCell, .initialized RX9, .code yX9_noCell cX9_noCell 2 (some .boolean), .methodLink RX9 102 yX9_cells, .instanceMethod yX9_cells, .selects RX9 yX9_cells yX9_cells, .code yX9_cells cX9_cells 1 (some .int), .fieldLink RX9 96 "SeenNumbersModel" "high" "I", .fieldLink RX9 99 "SeenNumbersModel" "wide" "I", .methodLink RX9 106 yX9_in, .static yX9_in, .code yX9_in cX9_in 6 (some .boolean)] ++ wsX90)
def wsX9_floors : List Cond := .code yX9_floors cX9_floors 4 (some .int) :: ([.constantLong RX9 196 (9), .fieldLink RX9 28 "SeenNumbersModel" "floorsOf" "[I", .methodLink RX9 188 yX9_noHouse, .instanceMethod yX9_noHouse, .selects RX9 yX9_noHouse yX9_noHouse, .initialized RX9, .code yX9_noHouse cX9_noHouse 2 (some .boolean), .fieldLink RX9 110 "SeenNumbersModel" "houses" "I", .methodLink RX9 106 yX9_in, .static yX9_in, .code yX9_in cX9_in 6 (some .boolean)] ++ wsX90)
def wsX9_fell : List Cond := .code yX9_fell cX9_fell 4 (some .int) :: ([.fieldLink RX9 37 "SeenNumbersModel" "isFelled" "[Z", .methodLink RX9 191 yX9_noTree, .instanceMethod yX9_noTree, .selects RX9 yX9_noTree yX9_noTree, .initialized RX9, .code yX9_noTree cX9_noTree 2 (some .boolean), .fieldLink RX9 113 "SeenNumbersModel" "trees" "I", .methodLink RX9 106 yX9_in, .static yX9_in, .code yX9_in cX9_in 6 (some .boolean)] ++ wsX90)
def wsX9_doSee_r1 : List Cond := [Cond.fieldLink RX9 22 "SeenNumbersModel" "houseAt" "[I", Cond.fieldLink RX9 99 "SeenNumbersModel" "wide" "I", Cond.fieldLink RX9 167 "SeenNumbersModel" "fogNow" "I", Cond.methodLink RX9 198 yX9_far, Cond.static yX9_far, Cond.initialized RX9, Cond.code yX9_far cX9_far 2 (some .int), Cond.methodLink RX9 201 yX9_common, Cond.static yX9_common, Cond.code yX9_common cX9_common 5 (some .int), Cond.methodLink RX9 185 yX9_topOf, Cond.instanceMethod yX9_topOf, Cond.selects RX9 yX9_topOf yX9_topOf, Cond.code yX9_topOf cX9_topOf 3 (some .int), Cond.fieldLink RX9 13 "SeenNumbersModel" "has" "[I", Cond.fieldLink RX9 16 "SeenNumbersModel" "wallOf" "[I", Cond.fieldLink RX9 7 "SeenNumbersModel" "groundOf" "[I", Cond.methodLink RX9 176 yX9_houseTall, Cond.instanceMethod yX9_houseTall, Cond.selects RX9 yX9_houseTall yX9_houseTall, Cond.code yX9_houseTall cX9_houseTall 3 (some .int), Cond.fieldLink RX9 25 "SeenNumbersModel" "tallOf" "[I", Cond.fieldLink RX9 28 "SeenNumbersModel" "floorsOf" "[I", Cond.fieldLink RX9 19 "SeenNumbersModel" "kindOf" "[I"]
def wsX9_doSee_r2 : List Cond := [Cond.fieldLink RX9 170 "SeenNumbersModel" "lawNow" "I", Cond.methodLink RX9 179 yX9_treeNow, Cond.instanceMethod yX9_treeNow, Cond.selects RX9 yX9_treeNow yX9_treeNow, Cond.code yX9_treeNow cX9_treeNow 2 (some .int), Cond.fieldLink RX9 37 "SeenNumbersModel" "isFelled" "[Z", Cond.fieldLink RX9 34 "SeenNumbersModel" "treeTall" "[I", Cond.fieldLink RX9 164 "SeenNumbersModel" "yearNow" "I"]
def wsX9_doSee : List Cond := .code yX9_doSee cX9_doSee 12 (some .boolean) :: ((wsX9_doSee_r1 ++ wsX9_doSee_r2) ++ wsX90)
def wsX9_see_r1 : List Cond := [Cond.methodLink RX9 188 yX9_noHouse, Cond.instanceMethod yX9_noHouse, Cond.selects RX9 yX9_noHouse yX9_noHouse, Cond.initialized RX9, Cond.code yX9_noHouse cX9_noHouse 2 (some .boolean), Cond.fieldLink RX9 110 "SeenNumbersModel" "houses" "I", Cond.methodLink RX9 106 yX9_in, Cond.static yX9_in, Cond.code yX9_in cX9_in 6 (some .boolean), Cond.methodLink RX9 204 yX9_doSee, Cond.instanceMethod yX9_doSee, Cond.selects RX9 yX9_doSee yX9_doSee, Cond.code yX9_doSee cX9_doSee 12 (some .boolean), Cond.fieldLink RX9 22 "SeenNumbersModel" "houseAt" "[I", Cond.fieldLink RX9 99 "SeenNumbersModel" "wide" "I", Cond.fieldLink RX9 167 "SeenNumbersModel" "fogNow" "I", Cond.methodLink RX9 198 yX9_far, Cond.static yX9_far, Cond.code yX9_far cX9_far 2 (some .int), Cond.methodLink RX9 201 yX9_common, Cond.static yX9_common, Cond.code yX9_common cX9_common 5 (some .int), Cond.methodLink RX9 185 yX9_topOf, Cond.instanceMethod yX9_topOf]
def wsX9_see_r2 : List Cond := [Cond.selects RX9 yX9_topOf yX9_topOf, Cond.code yX9_topOf cX9_topOf 3 (some .int), Cond.fieldLink RX9 13 "SeenNumbersModel" "has" "[I", Cond.fieldLink RX9 16 "SeenNumbersModel" "wallOf" "[I", Cond.fieldLink RX9 7 "SeenNumbersModel" "groundOf" "[I", Cond.methodLink RX9 176 yX9_houseTall, Cond.instanceMethod yX9_houseTall, Cond.selects RX9 yX9_houseTall yX9_houseTall, Cond.code yX9_houseTall cX9_houseTall 3 (some .int), Cond.fieldLink RX9 25 "SeenNumbersModel" "tallOf" "[I", Cond.fieldLink RX9 28 "SeenNumbersModel" "floorsOf" "[I", Cond.fieldLink RX9 19 "SeenNumbersModel" "kindOf" "[I", Cond.fieldLink RX9 170 "SeenNumbersModel" "lawNow" "I", Cond.methodLink RX9 179 yX9_treeNow, Cond.instanceMethod yX9_treeNow, Cond.selects RX9 yX9_treeNow yX9_treeNow, Cond.code yX9_treeNow cX9_treeNow 2 (some .int), Cond.fieldLink RX9 37 "SeenNumbersModel" "isFelled" "[Z", Cond.fieldLink RX9 34 "SeenNumbersModel" "treeTall" "[I", Cond.fieldLink RX9 164 "SeenNumbersModel" "yearNow" "I"]
def wsX9_see : List Cond := .code yX9_see cX9_see 3 (some .int) :: ((wsX9_see_r1 ++ wsX9_see_r2) ++ wsX90)
def wsX9_numberOf_r1 : List Cond := [Cond.fieldLink RX9 110 "SeenNumbersModel" "houses" "I", Cond.methodLink RX9 204 yX9_doSee, Cond.instanceMethod yX9_doSee, Cond.selects RX9 yX9_doSee yX9_doSee, Cond.initialized RX9, Cond.code yX9_doSee cX9_doSee 12 (some .boolean), Cond.fieldLink RX9 22 "SeenNumbersModel" "houseAt" "[I", Cond.fieldLink RX9 99 "SeenNumbersModel" "wide" "I", Cond.fieldLink RX9 167 "SeenNumbersModel" "fogNow" "I", Cond.methodLink RX9 198 yX9_far, Cond.static yX9_far, Cond.code yX9_far cX9_far 2 (some .int), Cond.methodLink RX9 201 yX9_common, Cond.static yX9_common, Cond.code yX9_common cX9_common 5 (some .int), Cond.methodLink RX9 185 yX9_topOf, Cond.instanceMethod yX9_topOf, Cond.selects RX9 yX9_topOf yX9_topOf, Cond.code yX9_topOf cX9_topOf 3 (some .int), Cond.fieldLink RX9 13 "SeenNumbersModel" "has" "[I", Cond.fieldLink RX9 16 "SeenNumbersModel" "wallOf" "[I", Cond.fieldLink RX9 7 "SeenNumbersModel" "groundOf" "[I", Cond.methodLink RX9 176 yX9_houseTall, Cond.instanceMethod yX9_houseTall]
def wsX9_numberOf_r2 : List Cond := [Cond.selects RX9 yX9_houseTall yX9_houseTall, Cond.code yX9_houseTall cX9_houseTall 3 (some .int), Cond.fieldLink RX9 25 "SeenNumbersModel" "tallOf" "[I", Cond.fieldLink RX9 28 "SeenNumbersModel" "floorsOf" "[I", Cond.fieldLink RX9 19 "SeenNumbersModel" "kindOf" "[I", Cond.fieldLink RX9 170 "SeenNumbersModel" "lawNow" "I", Cond.methodLink RX9 179 yX9_treeNow, Cond.instanceMethod yX9_treeNow, Cond.selects RX9 yX9_treeNow yX9_treeNow, Cond.code yX9_treeNow cX9_treeNow 2 (some .int), Cond.fieldLink RX9 37 "SeenNumbersModel" "isFelled" "[Z", Cond.fieldLink RX9 34 "SeenNumbersModel" "treeTall" "[I", Cond.fieldLink RX9 164 "SeenNumbersModel" "yearNow" "I"]
def wsX9_numberOf : List Cond := .code yX9_numberOf cX9_numberOf 4 (some .int) :: ((wsX9_numberOf_r1 ++ wsX9_numberOf_r2) ++ wsX90)
def wsX9_number_r1 : List Cond := [Cond.methodLink RX9 188 yX9_noHouse, Cond.instanceMethod yX9_noHouse, Cond.selects RX9 yX9_noHouse yX9_noHouse, Cond.initialized RX9, Cond.code yX9_noHouse cX9_noHouse 2 (some .boolean), Cond.fieldLink RX9 110 "SeenNumbersModel" "houses" "I", Cond.methodLink RX9 106 yX9_in, Cond.static yX9_in, Cond.code yX9_in cX9_in 6 (some .boolean), Cond.methodLink RX9 207 yX9_numberOf, Cond.instanceMethod yX9_numberOf, Cond.selects RX9 yX9_numberOf yX9_numberOf, Cond.code yX9_numberOf cX9_numberOf 4 (some .int), Cond.methodLink RX9 204 yX9_doSee, Cond.instanceMethod yX9_doSee, Cond.selects RX9 yX9_doSee yX9_doSee, Cond.code yX9_doSee cX9_doSee 12 (some .boolean), Cond.fieldLink RX9 22 "SeenNumbersModel" "houseAt" "[I", Cond.fieldLink RX9 99 "SeenNumbersModel" "wide" "I", Cond.fieldLink RX9 167 "SeenNumbersModel" "fogNow" "I", Cond.methodLink RX9 198 yX9_far, Cond.static yX9_far, Cond.code yX9_far cX9_far 2 (some .int), Cond.methodLink RX9 201 yX9_common]
def wsX9_number_r2 : List Cond := [Cond.static yX9_common, Cond.code yX9_common cX9_common 5 (some .int), Cond.methodLink RX9 185 yX9_topOf, Cond.instanceMethod yX9_topOf, Cond.selects RX9 yX9_topOf yX9_topOf, Cond.code yX9_topOf cX9_topOf 3 (some .int), Cond.fieldLink RX9 13 "SeenNumbersModel" "has" "[I", Cond.fieldLink RX9 16 "SeenNumbersModel" "wallOf" "[I", Cond.fieldLink RX9 7 "SeenNumbersModel" "groundOf" "[I", Cond.methodLink RX9 176 yX9_houseTall, Cond.instanceMethod yX9_houseTall, Cond.selects RX9 yX9_houseTall yX9_houseTall, Cond.code yX9_houseTall cX9_houseTall 3 (some .int), Cond.fieldLink RX9 25 "SeenNumbersModel" "tallOf" "[I", Cond.fieldLink RX9 28 "SeenNumbersModel" "floorsOf" "[I", Cond.fieldLink RX9 19 "SeenNumbersModel" "kindOf" "[I", Cond.fieldLink RX9 170 "SeenNumbersModel" "lawNow" "I", Cond.methodLink RX9 179 yX9_treeNow, Cond.instanceMethod yX9_treeNow, Cond.selects RX9 yX9_treeNow yX9_treeNow, Cond.code yX9_treeNow cX9_treeNow 2 (some .int), Cond.fieldLink RX9 37 "SeenNumbersModel" "isFelled" "[Z", Cond.fieldLink RX9 34 "SeenNumbersModel" "treeTall" "[I", Cond.fieldLink RX9 164 "SeenNumbersModel" "yearNow" "I"]
def wsX9_number : List Cond := .code yX9_number cX9_number 2 (some .int) :: ((wsX9_number_r1 ++ wsX9_number_r2) ++ wsX90)
def wsX9_isNumber : List Cond := .code yX9_isNumber cX9_isNumber 1 (some .boolean) :: ([.constantLong RX9 210 (7), .methodLink RX9 106 yX9_in, .static yX9_in, .initialized RX9, .code yX9_in cX9_in 6 (some .boolean)])
def wsX9_havingNow_r1 : List Cond := [Cond.fieldLink RX9 110 "SeenNumbersModel" "houses" "I", Cond.methodLink RX9 207 yX9_numberOf, Cond.instanceMethod yX9_numberOf, Cond.selects RX9 yX9_numberOf yX9_numberOf, Cond.initialized RX9, Cond.code yX9_numberOf cX9_numberOf 4 (some .int), Cond.methodLink RX9 204 yX9_doSee, Cond.instanceMethod yX9_doSee, Cond.selects RX9 yX9_doSee yX9_doSee, Cond.code yX9_doSee cX9_doSee 12 (some .boolean), Cond.fieldLink RX9 22 "SeenNumbersModel" "houseAt" "[I", Cond.fieldLink RX9 99 "SeenNumbersModel" "wide" "I", Cond.fieldLink RX9 167 "SeenNumbersModel" "fogNow" "I", Cond.methodLink RX9 198 yX9_far, Cond.static yX9_far, Cond.code yX9_far cX9_far 2 (some .int), Cond.methodLink RX9 201 yX9_common, Cond.static yX9_common, Cond.code yX9_common cX9_common 5 (some .int), Cond.methodLink RX9 185 yX9_topOf, Cond.instanceMethod yX9_topOf, Cond.selects RX9 yX9_topOf yX9_topOf, Cond.code yX9_topOf cX9_topOf 3 (some .int), Cond.fieldLink RX9 13 "SeenNumbersModel" "has" "[I"]
def wsX9_havingNow_r2 : List Cond := [Cond.fieldLink RX9 16 "SeenNumbersModel" "wallOf" "[I", Cond.fieldLink RX9 7 "SeenNumbersModel" "groundOf" "[I", Cond.methodLink RX9 176 yX9_houseTall, Cond.instanceMethod yX9_houseTall, Cond.selects RX9 yX9_houseTall yX9_houseTall, Cond.code yX9_houseTall cX9_houseTall 3 (some .int), Cond.fieldLink RX9 25 "SeenNumbersModel" "tallOf" "[I", Cond.fieldLink RX9 28 "SeenNumbersModel" "floorsOf" "[I", Cond.fieldLink RX9 19 "SeenNumbersModel" "kindOf" "[I", Cond.fieldLink RX9 170 "SeenNumbersModel" "lawNow" "I", Cond.methodLink RX9 179 yX9_treeNow, Cond.instanceMethod yX9_treeNow, Cond.selects RX9 yX9_treeNow yX9_treeNow, Cond.code yX9_treeNow cX9_treeNow 2 (some .int), Cond.fieldLink RX9 37 "SeenNumbersModel" "isFelled" "[Z", Cond.fieldLink RX9 34 "SeenNumbersModel" "treeTall" "[I", Cond.fieldLink RX9 164 "SeenNumbersModel" "yearNow" "I"]
def wsX9_havingNow : List Cond := .code yX9_havingNow cX9_havingNow 4 (some .int) :: ((wsX9_havingNow_r1 ++ wsX9_havingNow_r2) ++ wsX90)
def wsX9_having_r1 : List Cond := [Cond.fieldLink RX9 96 "SeenNumbersModel" "high" "I", Cond.methodLink RX9 212 yX9_isNumber, Cond.static yX9_isNumber, Cond.initialized RX9, Cond.code yX9_isNumber cX9_isNumber 1 (some .boolean), Cond.constantLong RX9 210 (7), Cond.methodLink RX9 106 yX9_in, Cond.static yX9_in, Cond.code yX9_in cX9_in 6 (some .boolean), Cond.methodLink RX9 215 yX9_havingNow, Cond.instanceMethod yX9_havingNow, Cond.selects RX9 yX9_havingNow yX9_havingNow, Cond.code yX9_havingNow cX9_havingNow 4 (some .int), Cond.fieldLink RX9 110 "SeenNumbersModel" "houses" "I", Cond.methodLink RX9 207 yX9_numberOf, Cond.instanceMethod yX9_numberOf, Cond.selects RX9 yX9_numberOf yX9_numberOf, Cond.code yX9_numberOf cX9_numberOf 4 (some .int), Cond.methodLink RX9 204 yX9_doSee, Cond.instanceMethod yX9_doSee, Cond.selects RX9 yX9_doSee yX9_doSee, Cond.code yX9_doSee cX9_doSee 12 (some .boolean), Cond.fieldLink RX9 22 "SeenNumbersModel" "houseAt" "[I", Cond.fieldLink RX9 99 "SeenNumbersModel" "wide" "I"]
def wsX9_having_r2 : List Cond := [Cond.fieldLink RX9 167 "SeenNumbersModel" "fogNow" "I", Cond.methodLink RX9 198 yX9_far, Cond.static yX9_far, Cond.code yX9_far cX9_far 2 (some .int), Cond.methodLink RX9 201 yX9_common, Cond.static yX9_common, Cond.code yX9_common cX9_common 5 (some .int), Cond.methodLink RX9 185 yX9_topOf, Cond.instanceMethod yX9_topOf, Cond.selects RX9 yX9_topOf yX9_topOf, Cond.code yX9_topOf cX9_topOf 3 (some .int), Cond.fieldLink RX9 13 "SeenNumbersModel" "has" "[I", Cond.fieldLink RX9 16 "SeenNumbersModel" "wallOf" "[I", Cond.fieldLink RX9 7 "SeenNumbersModel" "groundOf" "[I", Cond.methodLink RX9 176 yX9_houseTall, Cond.instanceMethod yX9_houseTall, Cond.selects RX9 yX9_houseTall yX9_houseTall, Cond.code yX9_houseTall cX9_houseTall 3 (some .int), Cond.fieldLink RX9 25 "SeenNumbersModel" "tallOf" "[I", Cond.fieldLink RX9 28 "SeenNumbersModel" "floorsOf" "[I", Cond.fieldLink RX9 19 "SeenNumbersModel" "kindOf" "[I", Cond.fieldLink RX9 170 "SeenNumbersModel" "lawNow" "I", Cond.methodLink RX9 179 yX9_treeNow, Cond.instanceMethod yX9_treeNow]
def wsX9_having_r3 : List Cond := [Cond.selects RX9 yX9_treeNow yX9_treeNow, Cond.code yX9_treeNow cX9_treeNow 2 (some .int), Cond.fieldLink RX9 37 "SeenNumbersModel" "isFelled" "[Z", Cond.fieldLink RX9 34 "SeenNumbersModel" "treeTall" "[I", Cond.fieldLink RX9 164 "SeenNumbersModel" "yearNow" "I"]
def wsX9_having : List Cond := .code yX9_having cX9_having 2 (some .int) :: ((wsX9_having_r1 ++ (wsX9_having_r2 ++ wsX9_having_r3)) ++ wsX90)
def wsX9_alone_r1 : List Cond := [Cond.fieldLink RX9 96 "SeenNumbersModel" "high" "I", Cond.methodLink RX9 215 yX9_havingNow, Cond.instanceMethod yX9_havingNow, Cond.selects RX9 yX9_havingNow yX9_havingNow, Cond.initialized RX9, Cond.code yX9_havingNow cX9_havingNow 4 (some .int), Cond.fieldLink RX9 110 "SeenNumbersModel" "houses" "I", Cond.methodLink RX9 207 yX9_numberOf, Cond.instanceMethod yX9_numberOf, Cond.selects RX9 yX9_numberOf yX9_numberOf, Cond.code yX9_numberOf cX9_numberOf 4 (some .int), Cond.methodLink RX9 204 yX9_doSee, Cond.instanceMethod yX9_doSee, Cond.selects RX9 yX9_doSee yX9_doSee, Cond.code yX9_doSee cX9_doSee 12 (some .boolean), Cond.fieldLink RX9 22 "SeenNumbersModel" "houseAt" "[I", Cond.fieldLink RX9 99 "SeenNumbersModel" "wide" "I", Cond.fieldLink RX9 167 "SeenNumbersModel" "fogNow" "I", Cond.methodLink RX9 198 yX9_far, Cond.static yX9_far, Cond.code yX9_far cX9_far 2 (some .int), Cond.methodLink RX9 201 yX9_common, Cond.static yX9_common, Cond.code yX9_common cX9_common 5 (some .int)]
def wsX9_alone_r2 : List Cond := [Cond.methodLink RX9 185 yX9_topOf, Cond.instanceMethod yX9_topOf, Cond.selects RX9 yX9_topOf yX9_topOf, Cond.code yX9_topOf cX9_topOf 3 (some .int), Cond.fieldLink RX9 13 "SeenNumbersModel" "has" "[I", Cond.fieldLink RX9 16 "SeenNumbersModel" "wallOf" "[I", Cond.fieldLink RX9 7 "SeenNumbersModel" "groundOf" "[I", Cond.methodLink RX9 176 yX9_houseTall, Cond.instanceMethod yX9_houseTall, Cond.selects RX9 yX9_houseTall yX9_houseTall, Cond.code yX9_houseTall cX9_houseTall 3 (some .int), Cond.fieldLink RX9 25 "SeenNumbersModel" "tallOf" "[I", Cond.fieldLink RX9 28 "SeenNumbersModel" "floorsOf" "[I", Cond.fieldLink RX9 19 "SeenNumbersModel" "kindOf" "[I", Cond.fieldLink RX9 170 "SeenNumbersModel" "lawNow" "I", Cond.methodLink RX9 179 yX9_treeNow, Cond.instanceMethod yX9_treeNow, Cond.selects RX9 yX9_treeNow yX9_treeNow, Cond.code yX9_treeNow cX9_treeNow 2 (some .int), Cond.fieldLink RX9 37 "SeenNumbersModel" "isFelled" "[Z", Cond.fieldLink RX9 34 "SeenNumbersModel" "treeTall" "[I", Cond.fieldLink RX9 164 "SeenNumbersModel" "yearNow" "I", Cond.methodLink RX9 218 yX9_bits, Cond.static yX9_bits]
def wsX9_alone_r3 : List Cond := [Cond.code yX9_bits cX9_bits 3 (some .int)]
def wsX9_alone : List Cond := .code yX9_alone cX9_alone 4 (some .int) :: ((wsX9_alone_r1 ++ (wsX9_alone_r2 ++ wsX9_alone_r3)) ++ wsX90)
def wsX9_letter_r1 : List Cond := [Cond.fieldLink RX9 96 "SeenNumbersModel" "high" "I", Cond.fieldLink RX9 110 "SeenNumbersModel" "houses" "I", Cond.methodLink RX9 212 yX9_isNumber, Cond.static yX9_isNumber, Cond.initialized RX9, Cond.code yX9_isNumber cX9_isNumber 1 (some .boolean), Cond.constantLong RX9 210 (7), Cond.methodLink RX9 106 yX9_in, Cond.static yX9_in, Cond.code yX9_in cX9_in 6 (some .boolean), Cond.methodLink RX9 215 yX9_havingNow, Cond.instanceMethod yX9_havingNow, Cond.selects RX9 yX9_havingNow yX9_havingNow, Cond.code yX9_havingNow cX9_havingNow 4 (some .int), Cond.methodLink RX9 207 yX9_numberOf, Cond.instanceMethod yX9_numberOf, Cond.selects RX9 yX9_numberOf yX9_numberOf, Cond.code yX9_numberOf cX9_numberOf 4 (some .int), Cond.methodLink RX9 204 yX9_doSee, Cond.instanceMethod yX9_doSee, Cond.selects RX9 yX9_doSee yX9_doSee, Cond.code yX9_doSee cX9_doSee 12 (some .boolean), Cond.fieldLink RX9 22 "SeenNumbersModel" "houseAt" "[I", Cond.fieldLink RX9 99 "SeenNumbersModel" "wide" "I"]
def wsX9_letter_r2 : List Cond := [Cond.fieldLink RX9 167 "SeenNumbersModel" "fogNow" "I", Cond.methodLink RX9 198 yX9_far, Cond.static yX9_far, Cond.code yX9_far cX9_far 2 (some .int), Cond.methodLink RX9 201 yX9_common, Cond.static yX9_common, Cond.code yX9_common cX9_common 5 (some .int), Cond.methodLink RX9 185 yX9_topOf, Cond.instanceMethod yX9_topOf, Cond.selects RX9 yX9_topOf yX9_topOf, Cond.code yX9_topOf cX9_topOf 3 (some .int), Cond.fieldLink RX9 13 "SeenNumbersModel" "has" "[I", Cond.fieldLink RX9 16 "SeenNumbersModel" "wallOf" "[I", Cond.fieldLink RX9 7 "SeenNumbersModel" "groundOf" "[I", Cond.methodLink RX9 176 yX9_houseTall, Cond.instanceMethod yX9_houseTall, Cond.selects RX9 yX9_houseTall yX9_houseTall, Cond.code yX9_houseTall cX9_houseTall 3 (some .int), Cond.fieldLink RX9 25 "SeenNumbersModel" "tallOf" "[I", Cond.fieldLink RX9 28 "SeenNumbersModel" "floorsOf" "[I", Cond.fieldLink RX9 19 "SeenNumbersModel" "kindOf" "[I", Cond.fieldLink RX9 170 "SeenNumbersModel" "lawNow" "I", Cond.methodLink RX9 179 yX9_treeNow, Cond.instanceMethod yX9_treeNow]
def wsX9_letter_r3 : List Cond := [Cond.selects RX9 yX9_treeNow yX9_treeNow, Cond.code yX9_treeNow cX9_treeNow 2 (some .int), Cond.fieldLink RX9 37 "SeenNumbersModel" "isFelled" "[Z", Cond.fieldLink RX9 34 "SeenNumbersModel" "treeTall" "[I", Cond.fieldLink RX9 164 "SeenNumbersModel" "yearNow" "I", Cond.methodLink RX9 221 yX9_isIn, Cond.static yX9_isIn, Cond.code yX9_isIn cX9_isIn 2 (some .boolean)]
def wsX9_letter : List Cond := .code yX9_letter cX9_letter 9 (some .int) :: ((wsX9_letter_r1 ++ (wsX9_letter_r2 ++ wsX9_letter_r3)) ++ wsX90)
def wsX9_mean_r1 : List Cond := [Cond.fieldLink RX9 96 "SeenNumbersModel" "high" "I", Cond.fieldLink RX9 110 "SeenNumbersModel" "houses" "I", Cond.methodLink RX9 106 yX9_in, Cond.static yX9_in, Cond.initialized RX9, Cond.code yX9_in cX9_in 6 (some .boolean), Cond.methodLink RX9 92 yX9_lost, Cond.static yX9_lost, Cond.code yX9_lost cX9_lost 0 (some .long), Cond.constantLong RX9 86 (-9223372036854775808), Cond.methodLink RX9 207 yX9_numberOf, Cond.instanceMethod yX9_numberOf, Cond.selects RX9 yX9_numberOf yX9_numberOf, Cond.code yX9_numberOf cX9_numberOf 4 (some .int), Cond.methodLink RX9 204 yX9_doSee, Cond.instanceMethod yX9_doSee, Cond.selects RX9 yX9_doSee yX9_doSee, Cond.code yX9_doSee cX9_doSee 12 (some .boolean), Cond.fieldLink RX9 22 "SeenNumbersModel" "houseAt" "[I", Cond.fieldLink RX9 99 "SeenNumbersModel" "wide" "I", Cond.fieldLink RX9 167 "SeenNumbersModel" "fogNow" "I", Cond.methodLink RX9 198 yX9_far, Cond.static yX9_far, Cond.code yX9_far cX9_far 2 (some .int)]
def wsX9_mean_r2 : List Cond := [Cond.methodLink RX9 201 yX9_common, Cond.static yX9_common, Cond.code yX9_common cX9_common 5 (some .int), Cond.methodLink RX9 185 yX9_topOf, Cond.instanceMethod yX9_topOf, Cond.selects RX9 yX9_topOf yX9_topOf, Cond.code yX9_topOf cX9_topOf 3 (some .int), Cond.fieldLink RX9 13 "SeenNumbersModel" "has" "[I", Cond.fieldLink RX9 16 "SeenNumbersModel" "wallOf" "[I", Cond.fieldLink RX9 7 "SeenNumbersModel" "groundOf" "[I", Cond.methodLink RX9 176 yX9_houseTall, Cond.instanceMethod yX9_houseTall, Cond.selects RX9 yX9_houseTall yX9_houseTall, Cond.code yX9_houseTall cX9_houseTall 3 (some .int), Cond.fieldLink RX9 25 "SeenNumbersModel" "tallOf" "[I", Cond.fieldLink RX9 28 "SeenNumbersModel" "floorsOf" "[I", Cond.fieldLink RX9 19 "SeenNumbersModel" "kindOf" "[I", Cond.fieldLink RX9 170 "SeenNumbersModel" "lawNow" "I", Cond.methodLink RX9 179 yX9_treeNow, Cond.instanceMethod yX9_treeNow, Cond.selects RX9 yX9_treeNow yX9_treeNow, Cond.code yX9_treeNow cX9_treeNow 2 (some .int), Cond.fieldLink RX9 37 "SeenNumbersModel" "isFelled" "[Z", Cond.fieldLink RX9 34 "SeenNumbersModel" "treeTall" "[I"]
def wsX9_mean_r3 : List Cond := [Cond.fieldLink RX9 164 "SeenNumbersModel" "yearNow" "I"]
def wsX9_mean : List Cond := .code yX9_mean cX9_mean 4 (some .long) :: ((wsX9_mean_r1 ++ (wsX9_mean_r2 ++ wsX9_mean_r3)) ++ wsX90)
def wsX9_walled_r1 : List Cond := [Cond.fieldLink RX9 13 "SeenNumbersModel" "has" "[I", Cond.fieldLink RX9 16 "SeenNumbersModel" "wallOf" "[I", Cond.methodLink RX9 188 yX9_noHouse, Cond.instanceMethod yX9_noHouse, Cond.selects RX9 yX9_noHouse yX9_noHouse, Cond.initialized RX9, Cond.code yX9_noHouse cX9_noHouse 2 (some .boolean), Cond.fieldLink RX9 110 "SeenNumbersModel" "houses" "I", Cond.methodLink RX9 106 yX9_in, Cond.static yX9_in, Cond.code yX9_in cX9_in 6 (some .boolean), Cond.methodLink RX9 212 yX9_isNumber, Cond.static yX9_isNumber, Cond.code yX9_isNumber cX9_isNumber 1 (some .boolean), Cond.constantLong RX9 210 (7), Cond.methodLink RX9 102 yX9_cells, Cond.instanceMethod yX9_cells, Cond.selects RX9 yX9_cells yX9_cells, Cond.code yX9_cells cX9_cells 1 (some .int), Cond.fieldLink RX9 96 "SeenNumbersModel" "high" "I", Cond.fieldLink RX9 99 "SeenNumbersModel" "wide" "I", Cond.methodLink RX9 207 yX9_numberOf, Cond.instanceMethod yX9_numberOf, Cond.selects RX9 yX9_numberOf yX9_numberOf]
def wsX9_walled_r2 : List Cond := [Cond.code yX9_numberOf cX9_numberOf 4 (some .int), Cond.methodLink RX9 204 yX9_doSee, Cond.instanceMethod yX9_doSee, Cond.selects RX9 yX9_doSee yX9_doSee, Cond.code yX9_doSee cX9_doSee 12 (some .boolean), Cond.fieldLink RX9 22 "SeenNumbersModel" "houseAt" "[I", Cond.fieldLink RX9 167 "SeenNumbersModel" "fogNow" "I", Cond.methodLink RX9 198 yX9_far, Cond.static yX9_far, Cond.code yX9_far cX9_far 2 (some .int), Cond.methodLink RX9 201 yX9_common, Cond.static yX9_common, Cond.code yX9_common cX9_common 5 (some .int), Cond.methodLink RX9 185 yX9_topOf, Cond.instanceMethod yX9_topOf, Cond.selects RX9 yX9_topOf yX9_topOf, Cond.code yX9_topOf cX9_topOf 3 (some .int), Cond.fieldLink RX9 7 "SeenNumbersModel" "groundOf" "[I", Cond.methodLink RX9 176 yX9_houseTall, Cond.instanceMethod yX9_houseTall, Cond.selects RX9 yX9_houseTall yX9_houseTall, Cond.code yX9_houseTall cX9_houseTall 3 (some .int), Cond.fieldLink RX9 25 "SeenNumbersModel" "tallOf" "[I", Cond.fieldLink RX9 28 "SeenNumbersModel" "floorsOf" "[I"]
def wsX9_walled_r3 : List Cond := [Cond.fieldLink RX9 19 "SeenNumbersModel" "kindOf" "[I", Cond.fieldLink RX9 170 "SeenNumbersModel" "lawNow" "I", Cond.methodLink RX9 179 yX9_treeNow, Cond.instanceMethod yX9_treeNow, Cond.selects RX9 yX9_treeNow yX9_treeNow, Cond.code yX9_treeNow cX9_treeNow 2 (some .int), Cond.fieldLink RX9 37 "SeenNumbersModel" "isFelled" "[Z", Cond.fieldLink RX9 34 "SeenNumbersModel" "treeTall" "[I", Cond.fieldLink RX9 164 "SeenNumbersModel" "yearNow" "I"]
def wsX9_walled : List Cond := .code yX9_walled cX9_walled 7 (some .int) :: ((wsX9_walled_r1 ++ (wsX9_walled_r2 ++ wsX9_walled_r3)) ++ wsX90)
def wsX9_raised_r1 : List Cond := [Cond.fieldLink RX9 28 "SeenNumbersModel" "floorsOf" "[I", Cond.methodLink RX9 188 yX9_noHouse, Cond.instanceMethod yX9_noHouse, Cond.selects RX9 yX9_noHouse yX9_noHouse, Cond.initialized RX9, Cond.code yX9_noHouse cX9_noHouse 2 (some .boolean), Cond.fieldLink RX9 110 "SeenNumbersModel" "houses" "I", Cond.methodLink RX9 106 yX9_in, Cond.static yX9_in, Cond.code yX9_in cX9_in 6 (some .boolean), Cond.methodLink RX9 212 yX9_isNumber, Cond.static yX9_isNumber, Cond.code yX9_isNumber cX9_isNumber 1 (some .boolean), Cond.constantLong RX9 210 (7), Cond.methodLink RX9 207 yX9_numberOf, Cond.instanceMethod yX9_numberOf, Cond.selects RX9 yX9_numberOf yX9_numberOf, Cond.code yX9_numberOf cX9_numberOf 4 (some .int), Cond.methodLink RX9 204 yX9_doSee, Cond.instanceMethod yX9_doSee, Cond.selects RX9 yX9_doSee yX9_doSee, Cond.code yX9_doSee cX9_doSee 12 (some .boolean), Cond.fieldLink RX9 22 "SeenNumbersModel" "houseAt" "[I", Cond.fieldLink RX9 99 "SeenNumbersModel" "wide" "I"]
def wsX9_raised_r2 : List Cond := [Cond.fieldLink RX9 167 "SeenNumbersModel" "fogNow" "I", Cond.methodLink RX9 198 yX9_far, Cond.static yX9_far, Cond.code yX9_far cX9_far 2 (some .int), Cond.methodLink RX9 201 yX9_common, Cond.static yX9_common, Cond.code yX9_common cX9_common 5 (some .int), Cond.methodLink RX9 185 yX9_topOf, Cond.instanceMethod yX9_topOf, Cond.selects RX9 yX9_topOf yX9_topOf, Cond.code yX9_topOf cX9_topOf 3 (some .int), Cond.fieldLink RX9 13 "SeenNumbersModel" "has" "[I", Cond.fieldLink RX9 16 "SeenNumbersModel" "wallOf" "[I", Cond.fieldLink RX9 7 "SeenNumbersModel" "groundOf" "[I", Cond.methodLink RX9 176 yX9_houseTall, Cond.instanceMethod yX9_houseTall, Cond.selects RX9 yX9_houseTall yX9_houseTall, Cond.code yX9_houseTall cX9_houseTall 3 (some .int), Cond.fieldLink RX9 25 "SeenNumbersModel" "tallOf" "[I", Cond.fieldLink RX9 19 "SeenNumbersModel" "kindOf" "[I", Cond.fieldLink RX9 170 "SeenNumbersModel" "lawNow" "I", Cond.methodLink RX9 179 yX9_treeNow, Cond.instanceMethod yX9_treeNow, Cond.selects RX9 yX9_treeNow yX9_treeNow]
def wsX9_raised_r3 : List Cond := [Cond.code yX9_treeNow cX9_treeNow 2 (some .int), Cond.fieldLink RX9 37 "SeenNumbersModel" "isFelled" "[Z", Cond.fieldLink RX9 34 "SeenNumbersModel" "treeTall" "[I", Cond.fieldLink RX9 164 "SeenNumbersModel" "yearNow" "I"]
def wsX9_raised : List Cond := .code yX9_raised cX9_raised 6 (some .int) :: ((wsX9_raised_r1 ++ (wsX9_raised_r2 ++ wsX9_raised_r3)) ++ wsX90)
def wsX9_fellAll : List Cond := .code yX9_fellAll cX9_fellAll 4 none :: ([.fieldLink RX9 113 "SeenNumbersModel" "trees" "I", .fieldLink RX9 37 "SeenNumbersModel" "isFelled" "[Z", .methodLink RX9 221 yX9_isIn, .static yX9_isIn, .initialized RX9, .code yX9_isIn cX9_isIn 2 (some .boolean)] ++ wsX90)
def wsX9_felledNow : List Cond := .code yX9_felledNow cX9_felledNow 3 (some .int) :: ([.fieldLink RX9 113 "SeenNumbersModel" "trees" "I", .fieldLink RX9 37 "SeenNumbersModel" "isFelled" "[Z"] ++ wsX90)
def wsX9_felling_r1 : List Cond := [Cond.fieldLink RX9 113 "SeenNumbersModel" "trees" "I", Cond.methodLink RX9 188 yX9_noHouse, Cond.instanceMethod yX9_noHouse, Cond.selects RX9 yX9_noHouse yX9_noHouse, Cond.initialized RX9, Cond.code yX9_noHouse cX9_noHouse 2 (some .boolean), Cond.fieldLink RX9 110 "SeenNumbersModel" "houses" "I", Cond.methodLink RX9 106 yX9_in, Cond.static yX9_in, Cond.code yX9_in cX9_in 6 (some .boolean), Cond.methodLink RX9 212 yX9_isNumber, Cond.static yX9_isNumber, Cond.code yX9_isNumber cX9_isNumber 1 (some .boolean), Cond.constantLong RX9 210 (7), Cond.methodLink RX9 224 yX9_felledNow, Cond.instanceMethod yX9_felledNow, Cond.selects RX9 yX9_felledNow yX9_felledNow, Cond.code yX9_felledNow cX9_felledNow 3 (some .int), Cond.fieldLink RX9 37 "SeenNumbersModel" "isFelled" "[Z", Cond.methodLink RX9 218 yX9_bits, Cond.static yX9_bits, Cond.code yX9_bits cX9_bits 3 (some .int), Cond.methodLink RX9 227 yX9_fellAll, Cond.instanceMethod yX9_fellAll]
def wsX9_felling_r2 : List Cond := [Cond.selects RX9 yX9_fellAll yX9_fellAll, Cond.code yX9_fellAll cX9_fellAll 4 none, Cond.methodLink RX9 221 yX9_isIn, Cond.static yX9_isIn, Cond.code yX9_isIn cX9_isIn 2 (some .boolean), Cond.methodLink RX9 207 yX9_numberOf, Cond.instanceMethod yX9_numberOf, Cond.selects RX9 yX9_numberOf yX9_numberOf, Cond.code yX9_numberOf cX9_numberOf 4 (some .int), Cond.methodLink RX9 204 yX9_doSee, Cond.instanceMethod yX9_doSee, Cond.selects RX9 yX9_doSee yX9_doSee, Cond.code yX9_doSee cX9_doSee 12 (some .boolean), Cond.fieldLink RX9 22 "SeenNumbersModel" "houseAt" "[I", Cond.fieldLink RX9 99 "SeenNumbersModel" "wide" "I", Cond.fieldLink RX9 167 "SeenNumbersModel" "fogNow" "I", Cond.methodLink RX9 198 yX9_far, Cond.static yX9_far, Cond.code yX9_far cX9_far 2 (some .int), Cond.methodLink RX9 201 yX9_common, Cond.static yX9_common, Cond.code yX9_common cX9_common 5 (some .int), Cond.methodLink RX9 185 yX9_topOf, Cond.instanceMethod yX9_topOf]
def wsX9_felling_r3 : List Cond := [Cond.selects RX9 yX9_topOf yX9_topOf, Cond.code yX9_topOf cX9_topOf 3 (some .int), Cond.fieldLink RX9 13 "SeenNumbersModel" "has" "[I", Cond.fieldLink RX9 16 "SeenNumbersModel" "wallOf" "[I", Cond.fieldLink RX9 7 "SeenNumbersModel" "groundOf" "[I", Cond.methodLink RX9 176 yX9_houseTall, Cond.instanceMethod yX9_houseTall, Cond.selects RX9 yX9_houseTall yX9_houseTall, Cond.code yX9_houseTall cX9_houseTall 3 (some .int), Cond.fieldLink RX9 25 "SeenNumbersModel" "tallOf" "[I", Cond.fieldLink RX9 28 "SeenNumbersModel" "floorsOf" "[I", Cond.fieldLink RX9 19 "SeenNumbersModel" "kindOf" "[I", Cond.fieldLink RX9 170 "SeenNumbersModel" "lawNow" "I", Cond.methodLink RX9 179 yX9_treeNow, Cond.instanceMethod yX9_treeNow, Cond.selects RX9 yX9_treeNow yX9_treeNow, Cond.code yX9_treeNow cX9_treeNow 2 (some .int), Cond.fieldLink RX9 34 "SeenNumbersModel" "treeTall" "[I", Cond.fieldLink RX9 164 "SeenNumbersModel" "yearNow" "I"]
def wsX9_felling : List Cond := .code yX9_felling cX9_felling 7 (some .int) :: ((wsX9_felling_r1 ++ (wsX9_felling_r2 ++ wsX9_felling_r3)) ++ wsX90)
def wsX9_triedOn_r1 : List Cond := [Cond.fieldLink RX9 110 "SeenNumbersModel" "houses" "I", Cond.fieldLink RX9 62 "SeenNumbersModel" "numberWas" "[I", Cond.fieldLink RX9 19 "SeenNumbersModel" "kindOf" "[I", Cond.fieldLink RX9 22 "SeenNumbersModel" "houseAt" "[I", Cond.fieldLink RX9 25 "SeenNumbersModel" "tallOf" "[I", Cond.fieldLink RX9 28 "SeenNumbersModel" "floorsOf" "[I", Cond.fieldLink RX9 13 "SeenNumbersModel" "has" "[I", Cond.fieldLink RX9 231 "SeenNumbersModel" "othersThen" "I", Cond.methodLink RX9 207 yX9_numberOf, Cond.instanceMethod yX9_numberOf, Cond.selects RX9 yX9_numberOf yX9_numberOf, Cond.initialized RX9, Cond.code yX9_numberOf cX9_numberOf 4 (some .int), Cond.methodLink RX9 204 yX9_doSee, Cond.instanceMethod yX9_doSee, Cond.selects RX9 yX9_doSee yX9_doSee, Cond.code yX9_doSee cX9_doSee 12 (some .boolean), Cond.fieldLink RX9 99 "SeenNumbersModel" "wide" "I", Cond.fieldLink RX9 167 "SeenNumbersModel" "fogNow" "I", Cond.methodLink RX9 198 yX9_far, Cond.static yX9_far, Cond.code yX9_far cX9_far 2 (some .int), Cond.methodLink RX9 201 yX9_common, Cond.static yX9_common]
def wsX9_triedOn_r2 : List Cond := [Cond.code yX9_common cX9_common 5 (some .int), Cond.methodLink RX9 185 yX9_topOf, Cond.instanceMethod yX9_topOf, Cond.selects RX9 yX9_topOf yX9_topOf, Cond.code yX9_topOf cX9_topOf 3 (some .int), Cond.fieldLink RX9 16 "SeenNumbersModel" "wallOf" "[I", Cond.fieldLink RX9 7 "SeenNumbersModel" "groundOf" "[I", Cond.methodLink RX9 176 yX9_houseTall, Cond.instanceMethod yX9_houseTall, Cond.selects RX9 yX9_houseTall yX9_houseTall, Cond.code yX9_houseTall cX9_houseTall 3 (some .int), Cond.fieldLink RX9 170 "SeenNumbersModel" "lawNow" "I", Cond.methodLink RX9 179 yX9_treeNow, Cond.instanceMethod yX9_treeNow, Cond.selects RX9 yX9_treeNow yX9_treeNow, Cond.code yX9_treeNow cX9_treeNow 2 (some .int), Cond.fieldLink RX9 37 "SeenNumbersModel" "isFelled" "[Z", Cond.fieldLink RX9 34 "SeenNumbersModel" "treeTall" "[I", Cond.fieldLink RX9 164 "SeenNumbersModel" "yearNow" "I"]
def wsX9_triedOn : List Cond := .code yX9_triedOn cX9_triedOn 5 (some .int) :: ((wsX9_triedOn_r1 ++ wsX9_triedOn_r2) ++ wsX90)
def wsX9_fresh_r1 : List Cond := [Cond.constantLong RX9 196 (9), Cond.fieldLink RX9 13 "SeenNumbersModel" "has" "[I", Cond.fieldLink RX9 16 "SeenNumbersModel" "wallOf" "[I", Cond.fieldLink RX9 231 "SeenNumbersModel" "othersThen" "I", Cond.methodLink RX9 182 yX9_noCell, Cond.instanceMethod yX9_noCell, Cond.selects RX9 yX9_noCell yX9_noCell, Cond.initialized RX9, Cond.code yX9_noCell cX9_noCell 2 (some .boolean), Cond.methodLink RX9 102 yX9_cells, Cond.instanceMethod yX9_cells, Cond.selects RX9 yX9_cells yX9_cells, Cond.code yX9_cells cX9_cells 1 (some .int), Cond.fieldLink RX9 96 "SeenNumbersModel" "high" "I", Cond.fieldLink RX9 99 "SeenNumbersModel" "wide" "I", Cond.methodLink RX9 106 yX9_in, Cond.static yX9_in, Cond.code yX9_in cX9_in 6 (some .boolean), Cond.methodLink RX9 234 yX9_triedOn, Cond.instanceMethod yX9_triedOn, Cond.selects RX9 yX9_triedOn yX9_triedOn, Cond.code yX9_triedOn cX9_triedOn 5 (some .int), Cond.fieldLink RX9 110 "SeenNumbersModel" "houses" "I", Cond.fieldLink RX9 62 "SeenNumbersModel" "numberWas" "[I"]
def wsX9_fresh_r2 : List Cond := [Cond.fieldLink RX9 19 "SeenNumbersModel" "kindOf" "[I", Cond.fieldLink RX9 22 "SeenNumbersModel" "houseAt" "[I", Cond.fieldLink RX9 25 "SeenNumbersModel" "tallOf" "[I", Cond.fieldLink RX9 28 "SeenNumbersModel" "floorsOf" "[I", Cond.methodLink RX9 207 yX9_numberOf, Cond.instanceMethod yX9_numberOf, Cond.selects RX9 yX9_numberOf yX9_numberOf, Cond.code yX9_numberOf cX9_numberOf 4 (some .int), Cond.methodLink RX9 204 yX9_doSee, Cond.instanceMethod yX9_doSee, Cond.selects RX9 yX9_doSee yX9_doSee, Cond.code yX9_doSee cX9_doSee 12 (some .boolean), Cond.fieldLink RX9 167 "SeenNumbersModel" "fogNow" "I", Cond.methodLink RX9 198 yX9_far, Cond.static yX9_far, Cond.code yX9_far cX9_far 2 (some .int), Cond.methodLink RX9 201 yX9_common, Cond.static yX9_common, Cond.code yX9_common cX9_common 5 (some .int), Cond.methodLink RX9 185 yX9_topOf, Cond.instanceMethod yX9_topOf, Cond.selects RX9 yX9_topOf yX9_topOf, Cond.code yX9_topOf cX9_topOf 3 (some .int), Cond.fieldLink RX9 7 "SeenNumbersModel" "groundOf" "[I"]
def wsX9_fresh_r3 : List Cond := [Cond.methodLink RX9 176 yX9_houseTall, Cond.instanceMethod yX9_houseTall, Cond.selects RX9 yX9_houseTall yX9_houseTall, Cond.code yX9_houseTall cX9_houseTall 3 (some .int), Cond.fieldLink RX9 170 "SeenNumbersModel" "lawNow" "I", Cond.methodLink RX9 179 yX9_treeNow, Cond.instanceMethod yX9_treeNow, Cond.selects RX9 yX9_treeNow yX9_treeNow, Cond.code yX9_treeNow cX9_treeNow 2 (some .int), Cond.fieldLink RX9 37 "SeenNumbersModel" "isFelled" "[Z", Cond.fieldLink RX9 34 "SeenNumbersModel" "treeTall" "[I", Cond.fieldLink RX9 164 "SeenNumbersModel" "yearNow" "I"]
def wsX9_fresh : List Cond := .code yX9_fresh cX9_fresh 5 (some .int) :: ((wsX9_fresh_r1 ++ (wsX9_fresh_r2 ++ wsX9_fresh_r3)) ++ wsX90)
def wsX9_free_r1 : List Cond := [Cond.constantLong RX9 196 (9), Cond.constantLong RX9 237 (8), Cond.fieldLink RX9 96 "SeenNumbersModel" "high" "I", Cond.fieldLink RX9 13 "SeenNumbersModel" "has" "[I", Cond.fieldLink RX9 16 "SeenNumbersModel" "wallOf" "[I", Cond.methodLink RX9 106 yX9_in, Cond.static yX9_in, Cond.initialized RX9, Cond.code yX9_in cX9_in 6 (some .boolean), Cond.methodLink RX9 92 yX9_lost, Cond.static yX9_lost, Cond.code yX9_lost cX9_lost 0 (some .long), Cond.constantLong RX9 86 (-9223372036854775808), Cond.methodLink RX9 102 yX9_cells, Cond.instanceMethod yX9_cells, Cond.selects RX9 yX9_cells yX9_cells, Cond.code yX9_cells cX9_cells 1 (some .int), Cond.fieldLink RX9 99 "SeenNumbersModel" "wide" "I", Cond.methodLink RX9 234 yX9_triedOn, Cond.instanceMethod yX9_triedOn, Cond.selects RX9 yX9_triedOn yX9_triedOn, Cond.code yX9_triedOn cX9_triedOn 5 (some .int), Cond.fieldLink RX9 110 "SeenNumbersModel" "houses" "I", Cond.fieldLink RX9 62 "SeenNumbersModel" "numberWas" "[I"]
def wsX9_free_r2 : List Cond := [Cond.fieldLink RX9 19 "SeenNumbersModel" "kindOf" "[I", Cond.fieldLink RX9 22 "SeenNumbersModel" "houseAt" "[I", Cond.fieldLink RX9 25 "SeenNumbersModel" "tallOf" "[I", Cond.fieldLink RX9 28 "SeenNumbersModel" "floorsOf" "[I", Cond.fieldLink RX9 231 "SeenNumbersModel" "othersThen" "I", Cond.methodLink RX9 207 yX9_numberOf, Cond.instanceMethod yX9_numberOf, Cond.selects RX9 yX9_numberOf yX9_numberOf, Cond.code yX9_numberOf cX9_numberOf 4 (some .int), Cond.methodLink RX9 204 yX9_doSee, Cond.instanceMethod yX9_doSee, Cond.selects RX9 yX9_doSee yX9_doSee, Cond.code yX9_doSee cX9_doSee 12 (some .boolean), Cond.fieldLink RX9 167 "SeenNumbersModel" "fogNow" "I", Cond.methodLink RX9 198 yX9_far, Cond.static yX9_far, Cond.code yX9_far cX9_far 2 (some .int), Cond.methodLink RX9 201 yX9_common, Cond.static yX9_common, Cond.code yX9_common cX9_common 5 (some .int), Cond.methodLink RX9 185 yX9_topOf, Cond.instanceMethod yX9_topOf, Cond.selects RX9 yX9_topOf yX9_topOf, Cond.code yX9_topOf cX9_topOf 3 (some .int)]
def wsX9_free_r3 : List Cond := [Cond.fieldLink RX9 7 "SeenNumbersModel" "groundOf" "[I", Cond.methodLink RX9 176 yX9_houseTall, Cond.instanceMethod yX9_houseTall, Cond.selects RX9 yX9_houseTall yX9_houseTall, Cond.code yX9_houseTall cX9_houseTall 3 (some .int), Cond.fieldLink RX9 170 "SeenNumbersModel" "lawNow" "I", Cond.methodLink RX9 179 yX9_treeNow, Cond.instanceMethod yX9_treeNow, Cond.selects RX9 yX9_treeNow yX9_treeNow, Cond.code yX9_treeNow cX9_treeNow 2 (some .int), Cond.fieldLink RX9 37 "SeenNumbersModel" "isFelled" "[Z", Cond.fieldLink RX9 34 "SeenNumbersModel" "treeTall" "[I", Cond.fieldLink RX9 164 "SeenNumbersModel" "yearNow" "I"]
def wsX9_free : List Cond := .code yX9_free cX9_free 6 (some .long) :: ((wsX9_free_r1 ++ (wsX9_free_r2 ++ wsX9_free_r3)) ++ wsX90)
def wsX9_change_r1 : List Cond := [Cond.fieldLink RX9 164 "SeenNumbersModel" "yearNow" "I", Cond.methodLink RX9 188 yX9_noHouse, Cond.instanceMethod yX9_noHouse, Cond.selects RX9 yX9_noHouse yX9_noHouse, Cond.initialized RX9, Cond.code yX9_noHouse cX9_noHouse 2 (some .boolean), Cond.fieldLink RX9 110 "SeenNumbersModel" "houses" "I", Cond.methodLink RX9 106 yX9_in, Cond.static yX9_in, Cond.code yX9_in cX9_in 6 (some .boolean), Cond.methodLink RX9 207 yX9_numberOf, Cond.instanceMethod yX9_numberOf, Cond.selects RX9 yX9_numberOf yX9_numberOf, Cond.code yX9_numberOf cX9_numberOf 4 (some .int), Cond.methodLink RX9 204 yX9_doSee, Cond.instanceMethod yX9_doSee, Cond.selects RX9 yX9_doSee yX9_doSee, Cond.code yX9_doSee cX9_doSee 12 (some .boolean), Cond.fieldLink RX9 22 "SeenNumbersModel" "houseAt" "[I", Cond.fieldLink RX9 99 "SeenNumbersModel" "wide" "I", Cond.fieldLink RX9 167 "SeenNumbersModel" "fogNow" "I", Cond.methodLink RX9 198 yX9_far, Cond.static yX9_far, Cond.code yX9_far cX9_far 2 (some .int)]
def wsX9_change_r2 : List Cond := [Cond.methodLink RX9 201 yX9_common, Cond.static yX9_common, Cond.code yX9_common cX9_common 5 (some .int), Cond.methodLink RX9 185 yX9_topOf, Cond.instanceMethod yX9_topOf, Cond.selects RX9 yX9_topOf yX9_topOf, Cond.code yX9_topOf cX9_topOf 3 (some .int), Cond.fieldLink RX9 13 "SeenNumbersModel" "has" "[I", Cond.fieldLink RX9 16 "SeenNumbersModel" "wallOf" "[I", Cond.fieldLink RX9 7 "SeenNumbersModel" "groundOf" "[I", Cond.methodLink RX9 176 yX9_houseTall, Cond.instanceMethod yX9_houseTall, Cond.selects RX9 yX9_houseTall yX9_houseTall, Cond.code yX9_houseTall cX9_houseTall 3 (some .int), Cond.fieldLink RX9 25 "SeenNumbersModel" "tallOf" "[I", Cond.fieldLink RX9 28 "SeenNumbersModel" "floorsOf" "[I", Cond.fieldLink RX9 19 "SeenNumbersModel" "kindOf" "[I", Cond.fieldLink RX9 170 "SeenNumbersModel" "lawNow" "I", Cond.methodLink RX9 179 yX9_treeNow, Cond.instanceMethod yX9_treeNow, Cond.selects RX9 yX9_treeNow yX9_treeNow, Cond.code yX9_treeNow cX9_treeNow 2 (some .int), Cond.fieldLink RX9 37 "SeenNumbersModel" "isFelled" "[Z", Cond.fieldLink RX9 34 "SeenNumbersModel" "treeTall" "[I"]
def wsX9_change : List Cond := .code yX9_change cX9_change 6 (some .int) :: ((wsX9_change_r1 ++ wsX9_change_r2) ++ wsX90)
def wsX9_reading : List Cond := .code yX9_reading cX9_reading 4 (some .int) :: ([.constantLong RX9 194 (30), .fieldLink RX9 173 "SeenNumbersModel" "readings" "I", .fieldLink RX9 65 "SeenNumbersModel" "readingOf" "[I", .fieldLink RX9 68 "SeenNumbersModel" "readingIn" "[I", .fieldLink RX9 71 "SeenNumbersModel" "readingTo" "[I", .methodLink RX9 188 yX9_noHouse, .instanceMethod yX9_noHouse, .selects RX9 yX9_noHouse yX9_noHouse, .initialized RX9, .code yX9_noHouse cX9_noHouse 2 (some .boolean), .fieldLink RX9 110 "SeenNumbersModel" "houses" "I", .methodLink RX9 106 yX9_in, .static yX9_in, .code yX9_in cX9_in 6 (some .boolean), .methodLink RX9 212 yX9_isNumber, .static yX9_isNumber, .code yX9_isNumber cX9_isNumber 1 (some .boolean), .constantLong RX9 210 (7)] ++ wsX90)
def wsX9_back : List Cond := .code yX9_back cX9_back 2 (some .int) :: ([.fieldLink RX9 173 "SeenNumbersModel" "readings" "I", .methodLink RX9 106 yX9_in, .static yX9_in, .initialized RX9, .code yX9_in cX9_in 6 (some .boolean)] ++ wsX90)
def wsX9_areSo_r1 : List Cond := [Cond.fieldLink RX9 164 "SeenNumbersModel" "yearNow" "I", Cond.fieldLink RX9 173 "SeenNumbersModel" "readings" "I", Cond.fieldLink RX9 68 "SeenNumbersModel" "readingIn" "[I", Cond.fieldLink RX9 65 "SeenNumbersModel" "readingOf" "[I", Cond.fieldLink RX9 71 "SeenNumbersModel" "readingTo" "[I", Cond.methodLink RX9 207 yX9_numberOf, Cond.instanceMethod yX9_numberOf, Cond.selects RX9 yX9_numberOf yX9_numberOf, Cond.initialized RX9, Cond.code yX9_numberOf cX9_numberOf 4 (some .int), Cond.fieldLink RX9 110 "SeenNumbersModel" "houses" "I", Cond.methodLink RX9 204 yX9_doSee, Cond.instanceMethod yX9_doSee, Cond.selects RX9 yX9_doSee yX9_doSee, Cond.code yX9_doSee cX9_doSee 12 (some .boolean), Cond.fieldLink RX9 22 "SeenNumbersModel" "houseAt" "[I", Cond.fieldLink RX9 99 "SeenNumbersModel" "wide" "I", Cond.fieldLink RX9 167 "SeenNumbersModel" "fogNow" "I", Cond.methodLink RX9 198 yX9_far, Cond.static yX9_far, Cond.code yX9_far cX9_far 2 (some .int), Cond.methodLink RX9 201 yX9_common, Cond.static yX9_common, Cond.code yX9_common cX9_common 5 (some .int)]
def wsX9_areSo_r2 : List Cond := [Cond.methodLink RX9 185 yX9_topOf, Cond.instanceMethod yX9_topOf, Cond.selects RX9 yX9_topOf yX9_topOf, Cond.code yX9_topOf cX9_topOf 3 (some .int), Cond.fieldLink RX9 13 "SeenNumbersModel" "has" "[I", Cond.fieldLink RX9 16 "SeenNumbersModel" "wallOf" "[I", Cond.fieldLink RX9 7 "SeenNumbersModel" "groundOf" "[I", Cond.methodLink RX9 176 yX9_houseTall, Cond.instanceMethod yX9_houseTall, Cond.selects RX9 yX9_houseTall yX9_houseTall, Cond.code yX9_houseTall cX9_houseTall 3 (some .int), Cond.fieldLink RX9 25 "SeenNumbersModel" "tallOf" "[I", Cond.fieldLink RX9 28 "SeenNumbersModel" "floorsOf" "[I", Cond.fieldLink RX9 19 "SeenNumbersModel" "kindOf" "[I", Cond.fieldLink RX9 170 "SeenNumbersModel" "lawNow" "I", Cond.methodLink RX9 179 yX9_treeNow, Cond.instanceMethod yX9_treeNow, Cond.selects RX9 yX9_treeNow yX9_treeNow, Cond.code yX9_treeNow cX9_treeNow 2 (some .int), Cond.fieldLink RX9 37 "SeenNumbersModel" "isFelled" "[Z", Cond.fieldLink RX9 34 "SeenNumbersModel" "treeTall" "[I"]
def wsX9_areSo : List Cond := .code yX9_areSo cX9_areSo 4 (some .boolean) :: ((wsX9_areSo_r1 ++ wsX9_areSo_r2) ++ wsX90)
def wsX9_fogs_r1 : List Cond := [Cond.fieldLink RX9 96 "SeenNumbersModel" "high" "I", Cond.fieldLink RX9 167 "SeenNumbersModel" "fogNow" "I", Cond.methodLink RX9 239 yX9_areSo, Cond.instanceMethod yX9_areSo, Cond.selects RX9 yX9_areSo yX9_areSo, Cond.initialized RX9, Cond.code yX9_areSo cX9_areSo 4 (some .boolean), Cond.fieldLink RX9 164 "SeenNumbersModel" "yearNow" "I", Cond.fieldLink RX9 173 "SeenNumbersModel" "readings" "I", Cond.fieldLink RX9 68 "SeenNumbersModel" "readingIn" "[I", Cond.fieldLink RX9 65 "SeenNumbersModel" "readingOf" "[I", Cond.fieldLink RX9 71 "SeenNumbersModel" "readingTo" "[I", Cond.methodLink RX9 207 yX9_numberOf, Cond.instanceMethod yX9_numberOf, Cond.selects RX9 yX9_numberOf yX9_numberOf, Cond.code yX9_numberOf cX9_numberOf 4 (some .int), Cond.fieldLink RX9 110 "SeenNumbersModel" "houses" "I", Cond.methodLink RX9 204 yX9_doSee, Cond.instanceMethod yX9_doSee, Cond.selects RX9 yX9_doSee yX9_doSee, Cond.code yX9_doSee cX9_doSee 12 (some .boolean), Cond.fieldLink RX9 22 "SeenNumbersModel" "houseAt" "[I", Cond.fieldLink RX9 99 "SeenNumbersModel" "wide" "I", Cond.methodLink RX9 198 yX9_far]
def wsX9_fogs_r2 : List Cond := [Cond.static yX9_far, Cond.code yX9_far cX9_far 2 (some .int), Cond.methodLink RX9 201 yX9_common, Cond.static yX9_common, Cond.code yX9_common cX9_common 5 (some .int), Cond.methodLink RX9 185 yX9_topOf, Cond.instanceMethod yX9_topOf, Cond.selects RX9 yX9_topOf yX9_topOf, Cond.code yX9_topOf cX9_topOf 3 (some .int), Cond.fieldLink RX9 13 "SeenNumbersModel" "has" "[I", Cond.fieldLink RX9 16 "SeenNumbersModel" "wallOf" "[I", Cond.fieldLink RX9 7 "SeenNumbersModel" "groundOf" "[I", Cond.methodLink RX9 176 yX9_houseTall, Cond.instanceMethod yX9_houseTall, Cond.selects RX9 yX9_houseTall yX9_houseTall, Cond.code yX9_houseTall cX9_houseTall 3 (some .int), Cond.fieldLink RX9 25 "SeenNumbersModel" "tallOf" "[I", Cond.fieldLink RX9 28 "SeenNumbersModel" "floorsOf" "[I", Cond.fieldLink RX9 19 "SeenNumbersModel" "kindOf" "[I", Cond.fieldLink RX9 170 "SeenNumbersModel" "lawNow" "I", Cond.methodLink RX9 179 yX9_treeNow, Cond.instanceMethod yX9_treeNow, Cond.selects RX9 yX9_treeNow yX9_treeNow, Cond.code yX9_treeNow cX9_treeNow 2 (some .int)]
def wsX9_fogs_r3 : List Cond := [Cond.fieldLink RX9 37 "SeenNumbersModel" "isFelled" "[Z", Cond.fieldLink RX9 34 "SeenNumbersModel" "treeTall" "[I"]
def wsX9_fogs : List Cond := .code yX9_fogs cX9_fogs 4 (some .int) :: ((wsX9_fogs_r1 ++ (wsX9_fogs_r2 ++ wsX9_fogs_r3)) ++ wsX90)
def wsX9_stood_r1 : List Cond := [Cond.fieldLink RX9 96 "SeenNumbersModel" "high" "I", Cond.fieldLink RX9 113 "SeenNumbersModel" "trees" "I", Cond.methodLink RX9 106 yX9_in, Cond.static yX9_in, Cond.initialized RX9, Cond.code yX9_in cX9_in 6 (some .boolean), Cond.methodLink RX9 224 yX9_felledNow, Cond.instanceMethod yX9_felledNow, Cond.selects RX9 yX9_felledNow yX9_felledNow, Cond.code yX9_felledNow cX9_felledNow 3 (some .int), Cond.fieldLink RX9 37 "SeenNumbersModel" "isFelled" "[Z", Cond.methodLink RX9 227 yX9_fellAll, Cond.instanceMethod yX9_fellAll, Cond.selects RX9 yX9_fellAll yX9_fellAll, Cond.code yX9_fellAll cX9_fellAll 4 none, Cond.methodLink RX9 221 yX9_isIn, Cond.static yX9_isIn, Cond.code yX9_isIn cX9_isIn 2 (some .boolean), Cond.methodLink RX9 239 yX9_areSo, Cond.instanceMethod yX9_areSo, Cond.selects RX9 yX9_areSo yX9_areSo, Cond.code yX9_areSo cX9_areSo 4 (some .boolean), Cond.fieldLink RX9 164 "SeenNumbersModel" "yearNow" "I", Cond.fieldLink RX9 173 "SeenNumbersModel" "readings" "I"]
def wsX9_stood_r2 : List Cond := [Cond.fieldLink RX9 68 "SeenNumbersModel" "readingIn" "[I", Cond.fieldLink RX9 65 "SeenNumbersModel" "readingOf" "[I", Cond.fieldLink RX9 71 "SeenNumbersModel" "readingTo" "[I", Cond.methodLink RX9 207 yX9_numberOf, Cond.instanceMethod yX9_numberOf, Cond.selects RX9 yX9_numberOf yX9_numberOf, Cond.code yX9_numberOf cX9_numberOf 4 (some .int), Cond.fieldLink RX9 110 "SeenNumbersModel" "houses" "I", Cond.methodLink RX9 204 yX9_doSee, Cond.instanceMethod yX9_doSee, Cond.selects RX9 yX9_doSee yX9_doSee, Cond.code yX9_doSee cX9_doSee 12 (some .boolean), Cond.fieldLink RX9 22 "SeenNumbersModel" "houseAt" "[I", Cond.fieldLink RX9 99 "SeenNumbersModel" "wide" "I", Cond.fieldLink RX9 167 "SeenNumbersModel" "fogNow" "I", Cond.methodLink RX9 198 yX9_far, Cond.static yX9_far, Cond.code yX9_far cX9_far 2 (some .int), Cond.methodLink RX9 201 yX9_common, Cond.static yX9_common, Cond.code yX9_common cX9_common 5 (some .int), Cond.methodLink RX9 185 yX9_topOf, Cond.instanceMethod yX9_topOf, Cond.selects RX9 yX9_topOf yX9_topOf]
def wsX9_stood_r3 : List Cond := [Cond.code yX9_topOf cX9_topOf 3 (some .int), Cond.fieldLink RX9 13 "SeenNumbersModel" "has" "[I", Cond.fieldLink RX9 16 "SeenNumbersModel" "wallOf" "[I", Cond.fieldLink RX9 7 "SeenNumbersModel" "groundOf" "[I", Cond.methodLink RX9 176 yX9_houseTall, Cond.instanceMethod yX9_houseTall, Cond.selects RX9 yX9_houseTall yX9_houseTall, Cond.code yX9_houseTall cX9_houseTall 3 (some .int), Cond.fieldLink RX9 25 "SeenNumbersModel" "tallOf" "[I", Cond.fieldLink RX9 28 "SeenNumbersModel" "floorsOf" "[I", Cond.fieldLink RX9 19 "SeenNumbersModel" "kindOf" "[I", Cond.fieldLink RX9 170 "SeenNumbersModel" "lawNow" "I", Cond.methodLink RX9 179 yX9_treeNow, Cond.instanceMethod yX9_treeNow, Cond.selects RX9 yX9_treeNow yX9_treeNow, Cond.code yX9_treeNow cX9_treeNow 2 (some .int), Cond.fieldLink RX9 34 "SeenNumbersModel" "treeTall" "[I"]
def wsX9_stood : List Cond := .code yX9_stood cX9_stood 7 (some .int) :: ((wsX9_stood_r1 ++ (wsX9_stood_r2 ++ wsX9_stood_r3)) ++ wsX90)
def wsX9_sheet : List Cond := .code yX9_sheet cX9_sheet 5 (some .int) :: ([.constantLong RX9 151 (2), .fieldLink RX9 74 "SeenNumbersModel" "sheetSize" "[I", .fieldLink RX9 77 "SeenNumbersModel" "sheetLane" "[I", .fieldLink RX9 80 "SeenNumbersModel" "sheet" "[I", .methodLink RX9 143 yX9_noSheet, .static yX9_noSheet, .initialized RX9, .code yX9_noSheet cX9_noSheet 1 (some .boolean), .constantLong RX9 243 (3), .methodLink RX9 106 yX9_in, .static yX9_in, .code yX9_in cX9_in 6 (some .boolean), .methodLink RX9 147 yX9_refused, .instanceMethod yX9_refused, .selects RX9 yX9_refused yX9_refused, .code yX9_refused cX9_refused 2 (some .int), .fieldLink RX9 88 "SeenNumbersModel" "fault" "I", .methodLink RX9 153 yX9_failed, .instanceMethod yX9_failed, .selects RX9 yX9_failed yX9_failed, .code yX9_failed cX9_failed 2 (some .int)] ++ wsX90)
def wsX9_lose : List Cond := .code yX9_lose cX9_lose 3 (some .int) :: ([.fieldLink RX9 74 "SeenNumbersModel" "sheetSize" "[I", .methodLink RX9 143 yX9_noSheet, .static yX9_noSheet, .initialized RX9, .code yX9_noSheet cX9_noSheet 1 (some .boolean), .constantLong RX9 243 (3), .methodLink RX9 106 yX9_in, .static yX9_in, .code yX9_in cX9_in 6 (some .boolean)] ++ wsX90)
def wsX9_noCell_ : List Cond := .code yX9_noCell_ cX9_noCell_ 3 (some .int) :: ([.fieldLink RX9 74 "SeenNumbersModel" "sheetSize" "[I", .methodLink RX9 106 yX9_in, .static yX9_in, .initialized RX9, .code yX9_in cX9_in 6 (some .boolean)] ++ wsX90)
def wsX9_put : List Cond := .code yX9_put cX9_put 4 (some .int) :: ([.fieldLink RX9 80 "SeenNumbersModel" "sheet" "[I", .fieldLink RX9 77 "SeenNumbersModel" "sheetLane" "[I", .methodLink RX9 143 yX9_noSheet, .static yX9_noSheet, .initialized RX9, .code yX9_noSheet cX9_noSheet 1 (some .boolean), .constantLong RX9 243 (3), .methodLink RX9 106 yX9_in, .static yX9_in, .code yX9_in cX9_in 6 (some .boolean), .methodLink RX9 147 yX9_refused, .instanceMethod yX9_refused, .selects RX9 yX9_refused yX9_refused, .code yX9_refused cX9_refused 2 (some .int), .fieldLink RX9 88 "SeenNumbersModel" "fault" "I", .methodLink RX9 245 yX9_noCell_, .instanceMethod yX9_noCell_, .selects RX9 yX9_noCell_ yX9_noCell_, .code yX9_noCell_ cX9_noCell_ 3 (some .int), .fieldLink RX9 74 "SeenNumbersModel" "sheetSize" "[I", .methodLink RX9 153 yX9_failed, .instanceMethod yX9_failed, .selects RX9 yX9_failed yX9_failed, .code yX9_failed cX9_failed 2 (some .int)] ++ wsX90)
def wsX9_cell_r1 : List Cond := [Cond.fieldLink RX9 88 "SeenNumbersModel" "fault" "I", Cond.constantLong RX9 151 (2), Cond.fieldLink RX9 74 "SeenNumbersModel" "sheetSize" "[I", Cond.fieldLink RX9 77 "SeenNumbersModel" "sheetLane" "[I", Cond.fieldLink RX9 80 "SeenNumbersModel" "sheet" "[I", Cond.methodLink RX9 143 yX9_noSheet, Cond.static yX9_noSheet, Cond.initialized RX9, Cond.code yX9_noSheet cX9_noSheet 1 (some .boolean), Cond.constantLong RX9 243 (3), Cond.methodLink RX9 106 yX9_in, Cond.static yX9_in, Cond.code yX9_in cX9_in 6 (some .boolean), Cond.methodLink RX9 92 yX9_lost, Cond.static yX9_lost, Cond.code yX9_lost cX9_lost 0 (some .long), Cond.constantLong RX9 86 (-9223372036854775808), Cond.methodLink RX9 247 yX9_failedLong, Cond.instanceMethod yX9_failedLong, Cond.selects RX9 yX9_failedLong yX9_failedLong, Cond.code yX9_failedLong cX9_failedLong 2 (some .long), Cond.methodLink RX9 245 yX9_noCell_, Cond.instanceMethod yX9_noCell_, Cond.selects RX9 yX9_noCell_ yX9_noCell_]
def wsX9_cell_r2 : List Cond := [Cond.code yX9_noCell_ cX9_noCell_ 3 (some .int)]
def wsX9_cell : List Cond := .code yX9_cell cX9_cell 4 (some .long) :: ((wsX9_cell_r1 ++ wsX9_cell_r2) ++ wsX90)
def wsX9_copy : List Cond := .code yX9_copy cX9_copy 7 (some .int) :: ([.fieldLink RX9 74 "SeenNumbersModel" "sheetSize" "[I", .fieldLink RX9 77 "SeenNumbersModel" "sheetLane" "[I", .fieldLink RX9 83 "SeenNumbersModel" "hands" "[I", .fieldLink RX9 80 "SeenNumbersModel" "sheet" "[I", .methodLink RX9 143 yX9_noSheet, .static yX9_noSheet, .initialized RX9, .code yX9_noSheet cX9_noSheet 1 (some .boolean), .constantLong RX9 243 (3), .methodLink RX9 106 yX9_in, .static yX9_in, .code yX9_in cX9_in 6 (some .boolean), .methodLink RX9 147 yX9_refused, .instanceMethod yX9_refused, .selects RX9 yX9_refused yX9_refused, .code yX9_refused cX9_refused 2 (some .int), .fieldLink RX9 88 "SeenNumbersModel" "fault" "I", .methodLink RX9 153 yX9_failed, .instanceMethod yX9_failed, .selects RX9 yX9_failed yX9_failed, .code yX9_failed cX9_failed 2 (some .int), .methodLink RX9 156 yX9_isBeyond, .static yX9_isBeyond, .code yX9_isBeyond cX9_isBeyond 4 (some .boolean)] ++ wsX90)
def wsX9_traced : List Cond := .code yX9_traced cX9_traced 2 none :: ([.fieldLink RX9 251 "SeenNumbersModel" "traceNow" "I"] ++ wsX90)
def wsX9_tell : List Cond := .code yX9_tell cX9_tell 4 (some .int) :: ([.fieldLink RX9 19 "SeenNumbersModel" "kindOf" "[I", .fieldLink RX9 25 "SeenNumbersModel" "tallOf" "[I", .methodLink RX9 188 yX9_noHouse, .instanceMethod yX9_noHouse, .selects RX9 yX9_noHouse yX9_noHouse, .initialized RX9, .code yX9_noHouse cX9_noHouse 2 (some .boolean), .fieldLink RX9 110 "SeenNumbersModel" "houses" "I", .methodLink RX9 106 yX9_in, .static yX9_in, .code yX9_in cX9_in 6 (some .boolean), .methodLink RX9 254 yX9_traced, .instanceMethod yX9_traced, .selects RX9 yX9_traced yX9_traced, .code yX9_traced cX9_traced 2 none, .fieldLink RX9 251 "SeenNumbersModel" "traceNow" "I"] ++ wsX90)
def wsX9_rent : List Cond := .code yX9_rent cX9_rent 2 (some .int) :: ([.fieldLink RX9 19 "SeenNumbersModel" "kindOf" "[I", .methodLink RX9 188 yX9_noHouse, .instanceMethod yX9_noHouse, .selects RX9 yX9_noHouse yX9_noHouse, .initialized RX9, .code yX9_noHouse cX9_noHouse 2 (some .boolean), .fieldLink RX9 110 "SeenNumbersModel" "houses" "I", .methodLink RX9 106 yX9_in, .static yX9_in, .code yX9_in cX9_in 6 (some .boolean), .methodLink RX9 254 yX9_traced, .instanceMethod yX9_traced, .selects RX9 yX9_traced yX9_traced, .code yX9_traced cX9_traced 2 none, .fieldLink RX9 251 "SeenNumbersModel" "traceNow" "I"] ++ wsX90)
def wsX9_as : List Cond := .code yX9_as cX9_as 3 (some .int) :: ([.constantLong RX9 151 (2), .fieldLink RX9 19 "SeenNumbersModel" "kindOf" "[I", .methodLink RX9 188 yX9_noHouse, .instanceMethod yX9_noHouse, .selects RX9 yX9_noHouse yX9_noHouse, .initialized RX9, .code yX9_noHouse cX9_noHouse 2 (some .boolean), .fieldLink RX9 110 "SeenNumbersModel" "houses" "I", .methodLink RX9 106 yX9_in, .static yX9_in, .code yX9_in cX9_in 6 (some .boolean), .methodLink RX9 147 yX9_refused, .instanceMethod yX9_refused, .selects RX9 yX9_refused yX9_refused, .code yX9_refused cX9_refused 2 (some .int), .fieldLink RX9 88 "SeenNumbersModel" "fault" "I", .methodLink RX9 153 yX9_failed, .instanceMethod yX9_failed, .selects RX9 yX9_failed yX9_failed, .code yX9_failed cX9_failed 2 (some .int)] ++ wsX90)
def wsX9_trace : List Cond := .code yX9_trace cX9_trace 1 (some .int) :: ([.fieldLink RX9 251 "SeenNumbersModel" "traceNow" "I"] ++ wsX90)
def wsX9_fault : List Cond := .code yX9_fault cX9_fault 1 (some .int) :: ([.fieldLink RX9 88 "SeenNumbersModel" "fault" "I"] ++ wsX90)
def wsX9_many : List Cond := .code yX9_many cX9_many 2 (some .int) :: ([.fieldLink RX9 99 "SeenNumbersModel" "wide" "I", .fieldLink RX9 110 "SeenNumbersModel" "houses" "I", .fieldLink RX9 113 "SeenNumbersModel" "trees" "I", .fieldLink RX9 173 "SeenNumbersModel" "readings" "I", .fieldLink RX9 164 "SeenNumbersModel" "yearNow" "I", .fieldLink RX9 167 "SeenNumbersModel" "fogNow" "I", .methodLink RX9 102 yX9_cells, .instanceMethod yX9_cells, .selects RX9 yX9_cells yX9_cells, .initialized RX9, .code yX9_cells cX9_cells 1 (some .int), .fieldLink RX9 96 "SeenNumbersModel" "high" "I"] ++ wsX90)
def wsJ9_abs_0f7a4 : List Cond := .code yJ9_abs_0f7a4 cJ9_abs_0f7a4 1 (some .int) :: ([])
def wsJ9_max_7cf53 : List Cond := .code yJ9_max_7cf53 cJ9_max_7cf53 2 (some .int) :: ([])
def wsL_law_r1 : List Cond := [Cond.classLink RL 7 RX8, Cond.instantiable RX8 8, Cond.initialized RX8, Cond.classLink RL 10 RX9, Cond.instantiable RX9 41, Cond.initialized RX9, Cond.methodLink RL 9 yX8_init, Cond.instanceMethod yX8_init, Cond.code yX8_init cX8_init 2 none, Cond.methodLink RX8 5 objectInit, Cond.instanceMethod objectInit, Cond.code objectInit ⟨#[0xb1]⟩ 1 none, Cond.classLink RX8 11 RX4, Cond.fieldLink RX8 13 "SeenNumbers" "sheets" "[LSeenNumbers$Sheet;", Cond.instantiable RX4 3, Cond.initialized RX4, Cond.classLink RX8 18 RX6, Cond.instantiable RX6 11, Cond.initialized RX6, Cond.fieldLink RX8 21 "SeenNumbers" "text" "LSeenNumbers$Text;", Cond.classLink RX8 25 RX2, Cond.instantiable RX2 13, Cond.initialized RX2, Cond.fieldLink RX8 28 "SeenNumbers" "plot" "LSeenNumbers$Land;"]
def wsL_law_r2 : List Cond := [Cond.classLink RX8 32 RX5, Cond.instantiable RX5 4, Cond.initialized RX5, Cond.fieldLink RX8 37 "SeenNumbers" "sight" "LSeenNumbers$Sight;", Cond.classLink RX8 41 RX0, Cond.instantiable RX0 2, Cond.initialized RX0, Cond.fieldLink RX8 46 "SeenNumbers" "finder" "LSeenNumbers$Finder;", Cond.classLink RX8 50 RX3, Cond.instantiable RX3 6, Cond.initialized RX3, Cond.fieldLink RX8 53 "SeenNumbers" "readings" "LSeenNumbers$Readings;", Cond.instanceMethod yX4_init, Cond.code yX4_init cX4_init 1 none, Cond.methodLink RX4 3 objectInit, Cond.arrayClass .int, Cond.fieldLink RX4 9 "SeenNumbers$Sheet" "cells" "[I", Cond.fieldLink RX4 15 "SeenNumbers$Sheet" "size" "I", Cond.instanceMethod yX6_init, Cond.code yX6_init cX6_init 1 none, Cond.methodLink RX6 3 objectInit, Cond.fieldLink RX6 9 "SeenNumbers$Text" "ground" "[I", Cond.fieldLink RX6 15 "SeenNumbers$Text" "kinds" "[I", Cond.fieldLink RX6 18 "SeenNumbers$Text" "tall" "[I"]
def wsL_law_r3 : List Cond := [Cond.methodLink RX8 27 yX2_init, Cond.instanceMethod yX2_init, Cond.code yX2_init cX2_init 2 none, Cond.methodLink RX2 3 objectInit, Cond.fieldLink RX2 9 "SeenNumbers$Land" "ground" "[I", Cond.fieldLink RX2 15 "SeenNumbers$Land" "walls" "[I", Cond.fieldLink RX2 18 "SeenNumbers$Land" "thing" "[I", Cond.classLink RX2 21 RX1, Cond.fieldLink RX2 23 "SeenNumbers$Land" "houses" "[LSeenNumbers$House;", Cond.classLink RX2 27 RX7, Cond.fieldLink RX2 29 "SeenNumbers$Land" "trees" "[LSeenNumbers$Tree;", Cond.instantiable RX1 4, Cond.initialized RX1, Cond.instantiable RX7 2, Cond.initialized RX7, Cond.instanceMethod yX1_init, Cond.code yX1_init cX1_init 1 none, Cond.methodLink RX1 3 objectInit, Cond.instanceMethod yX7_init, Cond.code yX7_init cX7_init 1 none, Cond.methodLink RX7 1 objectInit, Cond.methodLink RX8 34 yX5_init, Cond.instanceMethod yX5_init, Cond.code yX5_init cX5_init 2 none]
def wsL_law_r4 : List Cond := [Cond.methodLink RX5 3 objectInit, Cond.fieldLink RX5 9 "SeenNumbers$Sight" "tops" "[I", Cond.fieldLink RX5 15 "SeenNumbers$Sight" "numbers" "[I", Cond.fieldLink RX5 18 "SeenNumbers$Sight" "land" "LSeenNumbers$Land;", Cond.methodLink RX8 43 yX0_init, Cond.instanceMethod yX0_init, Cond.code yX0_init cX0_init 3 none, Cond.methodLink RX0 3 objectInit, Cond.fieldLink RX0 9 "SeenNumbers$Finder" "land" "LSeenNumbers$Land;", Cond.fieldLink RX0 15 "SeenNumbers$Finder" "sight" "LSeenNumbers$Sight;", Cond.methodLink RX8 52 yX3_init, Cond.instanceMethod yX3_init, Cond.code yX3_init cX3_init 3 none, Cond.methodLink RX3 3 objectInit, Cond.fieldLink RX3 9 "SeenNumbers$Readings" "houses" "[I", Cond.fieldLink RX3 15 "SeenNumbers$Readings" "years" "[I", Cond.fieldLink RX3 18 "SeenNumbers$Readings" "numbers" "[I", Cond.fieldLink RX3 21 "SeenNumbers$Readings" "land" "LSeenNumbers$Land;", Cond.fieldLink RX3 25 "SeenNumbers$Readings" "sight" "LSeenNumbers$Sight;", Cond.methodLink RL 12 yX9_init, Cond.instanceMethod yX9_init, Cond.code yX9_init cX9_init 2 none, Cond.methodLink RX9 1 objectInit, Cond.fieldLink RX9 7 "SeenNumbersModel" "groundOf" "[I"]
def wsL_law_r5 : List Cond := [Cond.fieldLink RX9 13 "SeenNumbersModel" "has" "[I", Cond.fieldLink RX9 16 "SeenNumbersModel" "wallOf" "[I", Cond.fieldLink RX9 19 "SeenNumbersModel" "kindOf" "[I", Cond.fieldLink RX9 22 "SeenNumbersModel" "houseAt" "[I", Cond.fieldLink RX9 25 "SeenNumbersModel" "tallOf" "[I", Cond.fieldLink RX9 28 "SeenNumbersModel" "floorsOf" "[I", Cond.fieldLink RX9 31 "SeenNumbersModel" "treeAt" "[I", Cond.fieldLink RX9 34 "SeenNumbersModel" "treeTall" "[I", Cond.arrayClass .boolean, Cond.fieldLink RX9 37 "SeenNumbersModel" "isFelled" "[Z", Cond.fieldLink RX9 41 "SeenNumbersModel" "readGround" "[I", Cond.fieldLink RX9 44 "SeenNumbersModel" "readHas" "[I", Cond.fieldLink RX9 47 "SeenNumbersModel" "readKind" "[I", Cond.fieldLink RX9 50 "SeenNumbersModel" "readHouse" "[I", Cond.fieldLink RX9 53 "SeenNumbersModel" "readTall" "[I", Cond.fieldLink RX9 56 "SeenNumbersModel" "readTree" "[I", Cond.fieldLink RX9 59 "SeenNumbersModel" "readGrown" "[I", Cond.fieldLink RX9 62 "SeenNumbersModel" "numberWas" "[I", Cond.fieldLink RX9 65 "SeenNumbersModel" "readingOf" "[I", Cond.fieldLink RX9 68 "SeenNumbersModel" "readingIn" "[I", Cond.fieldLink RX9 71 "SeenNumbersModel" "readingTo" "[I", Cond.fieldLink RX9 74 "SeenNumbersModel" "sheetSize" "[I", Cond.fieldLink RX9 77 "SeenNumbersModel" "sheetLane" "[I", Cond.fieldLink RX9 80 "SeenNumbersModel" "sheet" "[I"]
def wsL_law_r6 : List Cond := [Cond.fieldLink RX9 83 "SeenNumbersModel" "hands" "[I", Cond.methodLink RL 13 yX8_land, Cond.instanceMethod yX8_land, Cond.selects RX8 yX8_land yX8_land, Cond.code yX8_land cX8_land 7 (some .int), Cond.fieldLink RX8 57 "SeenNumbers" "latestFault" "I", Cond.fieldLink RX8 84 "SeenNumbers$Text" "place" "I", Cond.fieldLink RX8 91 "SeenNumbers$Readings" "count" "I", Cond.fieldLink RX8 94 "SeenNumbers$Land" "cells" "I", Cond.methodLink RX8 61 yX8_isSheet, Cond.static yX8_isSheet, Cond.code yX8_isSheet cX8_isSheet 1 (some .boolean), Cond.methodLink RX8 65 yX8_isWithin, Cond.static yX8_isWithin, Cond.code yX8_isWithin cX8_isWithin 3 (some .boolean), Cond.methodLink RX8 69 yX4_faultAs, Cond.instanceMethod yX4_faultAs, Cond.selects RX4 yX4_faultAs yX4_faultAs, Cond.code yX4_faultAs cX4_faultAs 2 (some .int), Cond.fieldLink RX4 19 "SeenNumbers$Sheet" "lane" "I", Cond.methodLink RX4 22 yX4_hasRow, Cond.instanceMethod yX4_hasRow, Cond.selects RX4 yX4_hasRow yX4_hasRow, Cond.code yX4_hasRow cX4_hasRow 1 (some .boolean)]
def wsL_law_r7 : List Cond := [Cond.methodLink RX8 73 yX4_holdsRun, Cond.instanceMethod yX4_holdsRun, Cond.selects RX4 yX4_holdsRun yX4_holdsRun, Cond.code yX4_holdsRun cX4_holdsRun 3 (some .boolean), Cond.methodLink RX8 77 yX8_answerFault, Cond.instanceMethod yX8_answerFault, Cond.selects RX8 yX8_answerFault yX8_answerFault, Cond.code yX8_answerFault cX8_answerFault 2 (some .int), Cond.methodLink RX8 80 yX6_isTaken, Cond.instanceMethod yX6_isTaken, Cond.selects RX6 yX6_isTaken yX6_isTaken, Cond.code yX6_isTaken cX6_isTaken 4 (some .boolean), Cond.fieldLink RX6 21 "SeenNumbers$Text" "row" "LSeenNumbers$Sheet;", Cond.fieldLink RX6 25 "SeenNumbers$Text" "start" "I", Cond.fieldLink RX6 29 "SeenNumbers$Text" "length" "I", Cond.fieldLink RX6 32 "SeenNumbers$Text" "place" "I", Cond.fieldLink RX6 35 "SeenNumbers$Text" "houses" "I", Cond.fieldLink RX6 38 "SeenNumbers$Text" "trees" "I", Cond.methodLink RX6 41 yX6_takeHead, Cond.instanceMethod yX6_takeHead, Cond.selects RX6 yX6_takeHead yX6_takeHead, Cond.code yX6_takeHead cX6_takeHead 1 (some .boolean), Cond.fieldLink RX6 56 "SeenNumbers$Text" "high" "I", Cond.fieldLink RX6 59 "SeenNumbers$Text" "wide" "I"]
def wsL_law_r8 : List Cond := [Cond.methodLink RX6 48 yX6_take, Cond.instanceMethod yX6_take, Cond.selects RX6 yX6_take yX6_take, Cond.code yX6_take cX6_take 2 (some .boolean), Cond.fieldLink RX6 72 "SeenNumbers$Sheet" "cells" "[I", Cond.methodLink RX6 52 yX6_takeDigit, Cond.instanceMethod yX6_takeDigit, Cond.selects RX6 yX6_takeDigit yX6_takeDigit, Cond.code yX6_takeDigit cX6_takeDigit 4 (some .int), Cond.methodLink RX6 45 yX6_takeRows, Cond.instanceMethod yX6_takeRows, Cond.selects RX6 yX6_takeRows yX6_takeRows, Cond.code yX6_takeRows cX6_takeRows 3 (some .boolean), Cond.methodLink RX6 62 yX6_takeCell, Cond.instanceMethod yX6_takeCell, Cond.selects RX6 yX6_takeCell yX6_takeCell, Cond.code yX6_takeCell cX6_takeCell 2 (some .boolean), Cond.methodLink RX6 65 yX6_takeLetter, Cond.instanceMethod yX6_takeLetter, Cond.selects RX6 yX6_takeLetter yX6_takeLetter, Cond.code yX6_takeLetter cX6_takeLetter 2 (some .int), Cond.methodLink RX6 69 yX6_takeKind, Cond.instanceMethod yX6_takeKind, Cond.selects RX6 yX6_takeKind yX6_takeKind]
def wsL_law_r9 : List Cond := [Cond.code yX6_takeKind cX6_takeKind 1 (some .int), Cond.methodLink RX8 87 yX2_makeAnew, Cond.instanceMethod yX2_makeAnew, Cond.selects RX2 yX2_makeAnew yX2_makeAnew, Cond.code yX2_makeAnew cX2_makeAnew 3 none, Cond.fieldLink RX2 53 "SeenNumbers$Text" "wide" "I", Cond.fieldLink RX2 58 "SeenNumbers$Land" "wide" "I", Cond.fieldLink RX2 59 "SeenNumbers$Text" "high" "I", Cond.fieldLink RX2 35 "SeenNumbers$Land" "cells" "I", Cond.fieldLink RX2 43 "SeenNumbers$Land" "houseCount" "I", Cond.fieldLink RX2 46 "SeenNumbers$Land" "treeCount" "I", Cond.fieldLink RX2 62 "SeenNumbers$Land" "felled" "I", Cond.fieldLink RX2 65 "SeenNumbers$Land" "year" "I", Cond.fieldLink RX2 68 "SeenNumbers$Land" "fog" "I", Cond.fieldLink RX2 71 "SeenNumbers$Land" "law" "I", Cond.fieldLink RX2 74 "SeenNumbers$Text" "ground" "[I", Cond.fieldLink RX2 75 "SeenNumbers$Text" "kinds" "[I", Cond.fieldLink RX2 78 "SeenNumbers$Text" "tall" "[I", Cond.methodLink RX2 81 yX2_settle, Cond.instanceMethod yX2_settle, Cond.selects RX2 yX2_settle yX2_settle, Cond.code yX2_settle cX2_settle 5 (some .int), Cond.fieldLink RX2 85 "SeenNumbers$Tree" "place" "I", Cond.fieldLink RX2 88 "SeenNumbers$Tree" "tallAtFirst" "I"]
def wsL_law_r10 : List Cond := [Cond.fieldLink RX2 91 "SeenNumbers$House" "kind" "I", Cond.fieldLink RX2 94 "SeenNumbers$House" "place" "I", Cond.fieldLink RX2 95 "SeenNumbers$House" "tallAtFirst" "I", Cond.fieldLink RX2 96 "SeenNumbers$House" "floorsOn" "I", Cond.methodLink RL 17 yX9_land, Cond.instanceMethod yX9_land, Cond.selects RX9 yX9_land yX9_land, Cond.code yX9_land cX9_land 6 (some .int), Cond.constantLong RX9 151 (2), Cond.fieldLink RX9 116 "SeenNumbersModel" "readAt" "I", Cond.fieldLink RX9 133 "SeenNumbersModel" "readHigh" "I", Cond.fieldLink RX9 96 "SeenNumbersModel" "high" "I", Cond.fieldLink RX9 136 "SeenNumbersModel" "readWide" "I", Cond.fieldLink RX9 99 "SeenNumbersModel" "wide" "I", Cond.fieldLink RX9 127 "SeenNumbersModel" "readHouses" "I", Cond.fieldLink RX9 110 "SeenNumbersModel" "houses" "I", Cond.fieldLink RX9 130 "SeenNumbersModel" "readTrees" "I", Cond.fieldLink RX9 113 "SeenNumbersModel" "trees" "I", Cond.fieldLink RX9 164 "SeenNumbersModel" "yearNow" "I", Cond.fieldLink RX9 167 "SeenNumbersModel" "fogNow" "I", Cond.fieldLink RX9 170 "SeenNumbersModel" "lawNow" "I", Cond.fieldLink RX9 173 "SeenNumbersModel" "readings" "I", Cond.methodLink RX9 143 yX9_noSheet, Cond.static yX9_noSheet]
def wsL_law_r11 : List Cond := [Cond.code yX9_noSheet cX9_noSheet 1 (some .boolean), Cond.constantLong RX9 243 (3), Cond.methodLink RX9 106 yX9_in, Cond.static yX9_in, Cond.code yX9_in cX9_in 6 (some .boolean), Cond.methodLink RX9 147 yX9_refused, Cond.instanceMethod yX9_refused, Cond.selects RX9 yX9_refused yX9_refused, Cond.code yX9_refused cX9_refused 2 (some .int), Cond.fieldLink RX9 88 "SeenNumbersModel" "fault" "I", Cond.methodLink RX9 153 yX9_failed, Cond.instanceMethod yX9_failed, Cond.selects RX9 yX9_failed yX9_failed, Cond.code yX9_failed cX9_failed 2 (some .int), Cond.methodLink RX9 156 yX9_isBeyond, Cond.static yX9_isBeyond, Cond.code yX9_isBeyond cX9_isBeyond 4 (some .boolean), Cond.methodLink RX9 160 yX9_readsLand, Cond.instanceMethod yX9_readsLand, Cond.selects RX9 yX9_readsLand yX9_readsLand, Cond.code yX9_readsLand cX9_readsLand 5 (some .boolean), Cond.methodLink RX9 119 yX9_codeAt, Cond.instanceMethod yX9_codeAt, Cond.selects RX9 yX9_codeAt yX9_codeAt]
def wsL_law_r12 : List Cond := [Cond.code yX9_codeAt cX9_codeAt 3 (some .int), Cond.methodLink RX9 123 yX9_figure, Cond.instanceMethod yX9_figure, Cond.selects RX9 yX9_figure yX9_figure, Cond.code yX9_figure cX9_figure 7 (some .int), Cond.methodLink RX9 139 yX9_readsCell, Cond.instanceMethod yX9_readsCell, Cond.selects RX9 yX9_readsCell yX9_readsCell, Cond.code yX9_readsCell cX9_readsCell 7 (some .boolean), Cond.methodLink RX9 102 yX9_cells, Cond.instanceMethod yX9_cells, Cond.selects RX9 yX9_cells yX9_cells, Cond.code yX9_cells cX9_cells 1 (some .int), Cond.methodLink RL 18 yX8_ofCell, Cond.instanceMethod yX8_ofCell, Cond.selects RX8 yX8_ofCell yX8_ofCell, Cond.code yX8_ofCell cX8_ofCell 3 (some .int), Cond.fieldLink RX8 100 "SeenNumbers$Land" "ground" "[I", Cond.fieldLink RX8 107 "SeenNumbers$Land" "thing" "[I", Cond.methodLink RX8 97 yX2_hasCell, Cond.instanceMethod yX2_hasCell, Cond.selects RX2 yX2_hasCell yX2_hasCell, Cond.code yX2_hasCell cX2_hasCell 2 (some .boolean), Cond.methodLink RX8 104 yX2_topOf]
def wsL_law_r13 : List Cond := [Cond.instanceMethod yX2_topOf, Cond.selects RX2 yX2_topOf yX2_topOf, Cond.code yX2_topOf cX2_topOf 2 (some .int), Cond.methodLink RX2 103 yX2_tallOn, Cond.instanceMethod yX2_tallOn, Cond.selects RX2 yX2_tallOn yX2_tallOn, Cond.code yX2_tallOn cX2_tallOn 4 (some .int), Cond.methodLink RX2 107 yX2_treeTall, Cond.instanceMethod yX2_treeTall, Cond.selects RX2 yX2_treeTall yX2_treeTall, Cond.code yX2_treeTall cX2_treeTall 4 (some .int), Cond.static yX8_isIn, Cond.code yX8_isIn cX8_isIn 2 (some .boolean), Cond.methodLink RX2 110 yX1_tallWith, Cond.instanceMethod yX1_tallWith, Cond.selects RX1 yX1_tallWith yX1_tallWith, Cond.code yX1_tallWith cX1_tallWith 4 (some .int), Cond.fieldLink RX1 15 "SeenNumbers$House" "tallAtFirst" "I", Cond.methodLink RX1 18 yX1_isA, Cond.instanceMethod yX1_isA, Cond.selects RX1 yX1_isA yX1_isA, Cond.code yX1_isA cX1_isA 2 (some .boolean), Cond.fieldLink RX1 9 "SeenNumbers$House" "kind" "I", Cond.methodLink RL 22 yX9_ofCell]
def wsL_law_r14 : List Cond := [Cond.instanceMethod yX9_ofCell, Cond.selects RX9 yX9_ofCell yX9_ofCell, Cond.code yX9_ofCell cX9_ofCell 3 (some .int), Cond.methodLink RX9 182 yX9_noCell, Cond.instanceMethod yX9_noCell, Cond.selects RX9 yX9_noCell yX9_noCell, Cond.code yX9_noCell cX9_noCell 2 (some .boolean), Cond.methodLink RX9 185 yX9_topOf, Cond.instanceMethod yX9_topOf, Cond.selects RX9 yX9_topOf yX9_topOf, Cond.code yX9_topOf cX9_topOf 3 (some .int), Cond.methodLink RX9 176 yX9_houseTall, Cond.instanceMethod yX9_houseTall, Cond.selects RX9 yX9_houseTall yX9_houseTall, Cond.code yX9_houseTall cX9_houseTall 3 (some .int), Cond.methodLink RX9 179 yX9_treeNow, Cond.instanceMethod yX9_treeNow, Cond.selects RX9 yX9_treeNow yX9_treeNow, Cond.code yX9_treeNow cX9_treeNow 2 (some .int), Cond.methodLink RL 23 yX8_ofHouse, Cond.instanceMethod yX8_ofHouse, Cond.selects RX8 yX8_ofHouse yX8_ofHouse, Cond.code yX8_ofHouse cX8_ofHouse 4 (some .int), Cond.fieldLink RX8 113 "SeenNumbers$Land" "houses" "[LSeenNumbers$House;"]
def wsL_law_r15 : List Cond := [Cond.fieldLink RX8 117 "SeenNumbers$House" "kind" "I", Cond.fieldLink RX8 122 "SeenNumbers$House" "place" "I", Cond.fieldLink RX8 123 "SeenNumbers$House" "tallAtFirst" "I", Cond.fieldLink RX8 126 "SeenNumbers$House" "floorsOn" "I", Cond.fieldLink RX8 129 "SeenNumbers$Land" "law" "I", Cond.methodLink RX8 110 yX2_hasHouse, Cond.instanceMethod yX2_hasHouse, Cond.selects RX2 yX2_hasHouse yX2_hasHouse, Cond.code yX2_hasHouse cX2_hasHouse 2 (some .boolean), Cond.methodLink RX8 132 yX1_tallWith, Cond.methodLink RL 26 yX9_ofHouse, Cond.instanceMethod yX9_ofHouse, Cond.selects RX9 yX9_ofHouse yX9_ofHouse, Cond.code yX9_ofHouse cX9_ofHouse 3 (some .int), Cond.methodLink RX9 188 yX9_noHouse, Cond.instanceMethod yX9_noHouse, Cond.selects RX9 yX9_noHouse yX9_noHouse, Cond.code yX9_noHouse cX9_noHouse 2 (some .boolean), Cond.methodLink RL 27 yX8_ofTree, Cond.instanceMethod yX8_ofTree, Cond.selects RX8 yX8_ofTree yX8_ofTree, Cond.code yX8_ofTree cX8_ofTree 3 (some .int), Cond.fieldLink RX8 139 "SeenNumbers$Land" "trees" "[LSeenNumbers$Tree;", Cond.fieldLink RX8 143 "SeenNumbers$Tree" "place" "I"]
def wsL_law_r16 : List Cond := [Cond.fieldLink RX8 146 "SeenNumbers$Tree" "tallAtFirst" "I", Cond.fieldLink RX8 147 "SeenNumbers$Land" "year" "I", Cond.fieldLink RX8 150 "SeenNumbers$Land" "felled" "I", Cond.methodLink RX8 136 yX2_hasTree, Cond.instanceMethod yX2_hasTree, Cond.selects RX2 yX2_hasTree yX2_hasTree, Cond.code yX2_hasTree cX2_hasTree 2 (some .boolean), Cond.methodLink RX8 153 yX2_treeTall, Cond.methodLink RX8 157 yX8_isIn, Cond.methodLink RL 30 yX9_ofTree, Cond.instanceMethod yX9_ofTree, Cond.selects RX9 yX9_ofTree yX9_ofTree, Cond.code yX9_ofTree cX9_ofTree 3 (some .int), Cond.methodLink RX9 191 yX9_noTree, Cond.instanceMethod yX9_noTree, Cond.selects RX9 yX9_noTree yX9_noTree, Cond.code yX9_noTree cX9_noTree 2 (some .boolean), Cond.methodLink RL 31 yX8_times, Cond.instanceMethod yX8_times, Cond.selects RX8 yX8_times yX8_times, Cond.code yX8_times cX8_times 4 (some .int), Cond.fieldLink RX8 164 "SeenNumbers$Land" "fog" "I", Cond.methodLink RX8 160 yX2_isThere, Cond.instanceMethod yX2_isThere]
def wsL_law_r17 : List Cond := [Cond.selects RX2 yX2_isThere yX2_isThere, Cond.code yX2_isThere cX2_isThere 1 (some .boolean), Cond.methodLink RL 35 yX9_times, Cond.instanceMethod yX9_times, Cond.selects RX9 yX9_times yX9_times, Cond.code yX9_times cX9_times 5 (some .int), Cond.constantLong RX9 194 (30), Cond.constantLong RX9 196 (9), Cond.methodLink RL 36 yX8_wall, Cond.instanceMethod yX8_wall, Cond.selects RX8 yX8_wall yX8_wall, Cond.code yX8_wall cX8_wall 4 (some .int), Cond.fieldLink RX8 170 "SeenNumbers$Land" "walls" "[I", Cond.methodLink RX8 167 yX2_hasNothing, Cond.instanceMethod yX2_hasNothing, Cond.selects RX2 yX2_hasNothing yX2_hasNothing, Cond.code yX2_hasNothing cX2_hasNothing 2 (some .boolean), Cond.methodLink RL 39 yX9_wall, Cond.instanceMethod yX9_wall, Cond.selects RX9 yX9_wall yX9_wall, Cond.code yX9_wall cX9_wall 4 (some .int), Cond.methodLink RL 40 yX8_floors, Cond.instanceMethod yX8_floors, Cond.selects RX8 yX8_floors yX8_floors]
def wsL_law_r18 : List Cond := [Cond.code yX8_floors cX8_floors 4 (some .int), Cond.methodLink RL 43 yX9_floors, Cond.instanceMethod yX9_floors, Cond.selects RX9 yX9_floors yX9_floors, Cond.code yX9_floors cX9_floors 4 (some .int), Cond.methodLink RL 44 yX8_fell, Cond.instanceMethod yX8_fell, Cond.selects RX8 yX8_fell yX8_fell, Cond.code yX8_fell cX8_fell 3 (some .int), Cond.methodLink RL 48 yX9_fell, Cond.instanceMethod yX9_fell, Cond.selects RX9 yX9_fell yX9_fell, Cond.code yX9_fell cX9_fell 4 (some .int), Cond.methodLink RL 49 yX8_see, Cond.instanceMethod yX8_see, Cond.selects RX8 yX8_see yX8_see, Cond.code yX8_see cX8_see 3 (some .int), Cond.methodLink RX8 173 yX5_lookNow, Cond.instanceMethod yX5_lookNow, Cond.selects RX5 yX5_lookNow yX5_lookNow, Cond.code yX5_lookNow cX5_lookNow 2 none, Cond.fieldLink RX5 22 "SeenNumbers$Land" "fog" "I", Cond.fieldLink RX5 28 "SeenNumbers$Sight" "fog" "I", Cond.fieldLink RX5 29 "SeenNumbers$Land" "cells" "I"]
def wsL_law_r19 : List Cond := [Cond.methodLink RX5 32 yX2_topOf, Cond.methodLink RX8 176 yX5_isClear, Cond.instanceMethod yX5_isClear, Cond.selects RX5 yX5_isClear yX5_isClear, Cond.code yX5_isClear cX5_isClear 9 (some .boolean), Cond.fieldLink RX5 55 "SeenNumbers$Land" "wide" "I", Cond.methodLink RX5 58 Lib.Math.abs.name, Cond.static Lib.Math.abs.name, Cond.initialized "java/lang/Math", Cond.code Lib.Math.abs.name Lib.Math.abs.code 1 (some .int), Cond.methodLink RX5 63 Lib.Math.max.name, Cond.static Lib.Math.max.name, Cond.code Lib.Math.max.name Lib.Math.max.code 2 (some .int), Cond.static yX8_greatestCommon, Cond.code yX8_greatestCommon cX8_greatestCommon 3 (some .int), Cond.methodLink RX8 304 Lib.Math.max.name, Cond.methodLink RL 52 yX9_see, Cond.instanceMethod yX9_see, Cond.selects RX9 yX9_see yX9_see, Cond.code yX9_see cX9_see 3 (some .int), Cond.methodLink RX9 204 yX9_doSee, Cond.instanceMethod yX9_doSee, Cond.selects RX9 yX9_doSee yX9_doSee, Cond.code yX9_doSee cX9_doSee 12 (some .boolean)]
def wsL_law_r20 : List Cond := [Cond.methodLink RX9 198 yX9_far, Cond.static yX9_far, Cond.code yX9_far cX9_far 2 (some .int), Cond.methodLink RX9 201 yX9_common, Cond.static yX9_common, Cond.code yX9_common cX9_common 5 (some .int), Cond.methodLink RL 53 yX8_number, Cond.instanceMethod yX8_number, Cond.selects RX8 yX8_number yX8_number, Cond.code yX8_number cX8_number 2 (some .int), Cond.methodLink RX8 179 yX5_numberOf, Cond.instanceMethod yX5_numberOf, Cond.selects RX5 yX5_numberOf yX5_numberOf, Cond.code yX5_numberOf cX5_numberOf 2 (some .int), Cond.fieldLink RX5 73 "SeenNumbers$Land" "houses" "[LSeenNumbers$House;", Cond.fieldLink RX5 77 "SeenNumbers$House" "place" "I", Cond.methodLink RX5 84 yX5_numberFrom, Cond.instanceMethod yX5_numberFrom, Cond.selects RX5 yX5_numberFrom yX5_numberFrom, Cond.code yX5_numberFrom cX5_numberFrom 5 (some .int), Cond.fieldLink RX5 70 "SeenNumbers$Land" "houseCount" "I", Cond.methodLink RX5 80 yX5_isClear, Cond.methodLink RL 57 yX9_number, Cond.instanceMethod yX9_number]
def wsL_law_r21 : List Cond := [Cond.selects RX9 yX9_number yX9_number, Cond.code yX9_number cX9_number 2 (some .int), Cond.methodLink RX9 207 yX9_numberOf, Cond.instanceMethod yX9_numberOf, Cond.selects RX9 yX9_numberOf yX9_numberOf, Cond.code yX9_numberOf cX9_numberOf 4 (some .int), Cond.methodLink RL 58 yX8_having, Cond.instanceMethod yX8_having, Cond.selects RX8 yX8_having yX8_having, Cond.code yX8_having cX8_having 2 (some .int), Cond.methodLink RX8 182 yX5_countAll, Cond.instanceMethod yX5_countAll, Cond.selects RX5 yX5_countAll yX5_countAll, Cond.code yX5_countAll cX5_countAll 2 none, Cond.methodLink RX5 87 yX5_lookNow, Cond.methodLink RX5 90 yX5_numberOf, Cond.methodLink RX8 185 yX5_housesWith, Cond.instanceMethod yX5_housesWith, Cond.selects RX5 yX5_housesWith yX5_housesWith, Cond.code yX5_housesWith cX5_housesWith 4 (some .int), Cond.methodLink RL 61 yX9_having, Cond.instanceMethod yX9_having, Cond.selects RX9 yX9_having yX9_having, Cond.code yX9_having cX9_having 2 (some .int)]
def wsL_law_r22 : List Cond := [Cond.methodLink RX9 212 yX9_isNumber, Cond.static yX9_isNumber, Cond.code yX9_isNumber cX9_isNumber 1 (some .boolean), Cond.constantLong RX9 210 (7), Cond.methodLink RX9 215 yX9_havingNow, Cond.instanceMethod yX9_havingNow, Cond.selects RX9 yX9_havingNow yX9_havingNow, Cond.code yX9_havingNow cX9_havingNow 4 (some .int), Cond.methodLink RL 62 yX8_alone, Cond.instanceMethod yX8_alone, Cond.selects RX8 yX8_alone yX8_alone, Cond.code yX8_alone cX8_alone 4 (some .int), Cond.methodLink RX8 188 yJ6_bitCount_0f7a4, Cond.static yJ6_bitCount_0f7a4, Cond.initialized RJ6, Cond.code yJ6_bitCount_0f7a4 cJ6_bitCount_0f7a4 1 (some .int), Cond.constant RJ6 265 (1431655765), Cond.constant RJ6 266 (858993459), Cond.constant RJ6 267 (252645135), Cond.methodLink RL 66 yX9_alone, Cond.instanceMethod yX9_alone, Cond.selects RX9 yX9_alone yX9_alone, Cond.code yX9_alone cX9_alone 4 (some .int), Cond.methodLink RX9 218 yX9_bits]
def wsL_law_r23 : List Cond := [Cond.static yX9_bits, Cond.code yX9_bits cX9_bits 3 (some .int), Cond.methodLink RL 67 yX8_letter, Cond.instanceMethod yX8_letter, Cond.selects RX8 yX8_letter yX8_letter, Cond.code yX8_letter cX8_letter 3 (some .int), Cond.methodLink RX8 193 yX5_seenAmong, Cond.instanceMethod yX5_seenAmong, Cond.selects RX5 yX5_seenAmong yX5_seenAmong, Cond.code yX5_seenAmong cX5_seenAmong 5 (some .int), Cond.methodLink RX5 96 yX5_isSeenByOne, Cond.instanceMethod yX5_isSeenByOne, Cond.selects RX5 yX5_isSeenByOne yX5_isSeenByOne, Cond.code yX5_isSeenByOne cX5_isSeenByOne 4 (some .boolean), Cond.methodLink RL 70 yX9_letter, Cond.instanceMethod yX9_letter, Cond.selects RX9 yX9_letter yX9_letter, Cond.code yX9_letter cX9_letter 9 (some .int), Cond.methodLink RX9 221 yX9_isIn, Cond.static yX9_isIn, Cond.code yX9_isIn cX9_isIn 2 (some .boolean), Cond.methodLink RL 71 yX8_mean, Cond.instanceMethod yX8_mean, Cond.selects RX8 yX8_mean yX8_mean]
def wsL_law_r24 : List Cond := [Cond.code yX8_mean cX8_mean 4 (some .long), Cond.constantLong RX8 196 (-9223372036854775808), Cond.fieldLink RX8 198 "SeenNumbers$Land" "houseCount" "I", Cond.methodLink RX8 201 yX5_sumOfNumbers, Cond.instanceMethod yX5_sumOfNumbers, Cond.selects RX5 yX5_sumOfNumbers yX5_sumOfNumbers, Cond.code yX5_sumOfNumbers cX5_sumOfNumbers 3 (some .int), Cond.methodLink RX8 205 yX8_greatestCommon, Cond.methodLink RL 75 yX9_mean, Cond.instanceMethod yX9_mean, Cond.selects RX9 yX9_mean yX9_mean, Cond.code yX9_mean cX9_mean 4 (some .long), Cond.methodLink RX9 92 yX9_lost, Cond.static yX9_lost, Cond.code yX9_lost cX9_lost 0 (some .long), Cond.constantLong RX9 86 (-9223372036854775808), Cond.methodLink RL 76 yX8_walled, Cond.instanceMethod yX8_walled, Cond.selects RX8 yX8_walled yX8_walled, Cond.code yX8_walled cX8_walled 4 (some .int), Cond.methodLink RX8 208 yX8_refusedFor, Cond.instanceMethod yX8_refusedFor, Cond.selects RX8 yX8_refusedFor yX8_refusedFor, Cond.code yX8_refusedFor cX8_refusedFor 3 (some .int)]
def wsL_law_r25 : List Cond := [Cond.methodLink RX8 211 yX0_lowestWall, Cond.instanceMethod yX0_lowestWall, Cond.selects RX0 yX0_lowestWall yX0_lowestWall, Cond.code yX0_lowestWall cX0_lowestWall 6 (some .int), Cond.fieldLink RX0 24 "SeenNumbers$Land" "houses" "[LSeenNumbers$House;", Cond.fieldLink RX0 30 "SeenNumbers$House" "place" "I", Cond.fieldLink RX0 36 "SeenNumbers$Land" "cells" "I", Cond.fieldLink RX0 43 "SeenNumbers$Land" "ground" "[I", Cond.methodLink RX0 19 yX5_lookNow, Cond.methodLink RX0 39 yX2_hasNothing, Cond.methodLink RX0 47 yX5_numberIf, Cond.instanceMethod yX5_numberIf, Cond.selects RX5 yX5_numberIf yX5_numberIf, Cond.code yX5_numberIf cX5_numberIf 6 (some .int), Cond.methodLink RL 79 yX9_walled, Cond.instanceMethod yX9_walled, Cond.selects RX9 yX9_walled yX9_walled, Cond.code yX9_walled cX9_walled 7 (some .int), Cond.methodLink RL 80 yX8_raised, Cond.instanceMethod yX8_raised, Cond.selects RX8 yX8_raised yX8_raised, Cond.code yX8_raised cX8_raised 4 (some .int), Cond.methodLink RX8 214 yX0_leastFloors, Cond.instanceMethod yX0_leastFloors]
def wsL_law_r26 : List Cond := [Cond.selects RX0 yX0_leastFloors yX0_leastFloors, Cond.code yX0_leastFloors cX0_leastFloors 6 (some .int), Cond.fieldLink RX0 51 "SeenNumbers$Land" "law" "I", Cond.methodLink RX0 54 yX1_tallWith, Cond.methodLink RL 83 yX9_raised, Cond.instanceMethod yX9_raised, Cond.selects RX9 yX9_raised yX9_raised, Cond.code yX9_raised cX9_raised 6 (some .int), Cond.methodLink RL 84 yX8_felling, Cond.instanceMethod yX8_felling, Cond.selects RX8 yX8_felling yX8_felling, Cond.code yX8_felling cX8_felling 4 (some .int), Cond.methodLink RX8 217 yX0_fewestFelled, Cond.instanceMethod yX0_fewestFelled, Cond.selects RX0 yX0_fewestFelled yX0_fewestFelled, Cond.code yX0_fewestFelled cX0_fewestFelled 7 (some .int), Cond.fieldLink RX0 58 "SeenNumbers$Land" "treeCount" "I", Cond.fieldLink RX0 67 "SeenNumbers$Land" "felled" "I", Cond.methodLink RX0 61 yJ6_bitCount_0f7a4, Cond.methodLink RX0 70 yX0_numberFelling, Cond.instanceMethod yX0_numberFelling, Cond.selects RX0 yX0_numberFelling yX0_numberFelling, Cond.code yX0_numberFelling cX0_numberFelling 3 (some .int), Cond.fieldLink RX0 73 "SeenNumbers$Land" "year" "I"]
def wsL_law_r27 : List Cond := [Cond.methodLink RX0 76 yX5_lookWithTrees, Cond.instanceMethod yX5_lookWithTrees, Cond.selects RX5 yX5_lookWithTrees yX5_lookWithTrees, Cond.code yX5_lookWithTrees cX5_lookWithTrees 5 none, Cond.fieldLink RX5 36 "SeenNumbers$Land" "treeCount" "I", Cond.fieldLink RX5 39 "SeenNumbers$Land" "trees" "[LSeenNumbers$Tree;", Cond.fieldLink RX5 43 "SeenNumbers$Tree" "place" "I", Cond.fieldLink RX5 48 "SeenNumbers$Land" "ground" "[I", Cond.methodLink RX5 51 yX2_treeTall, Cond.methodLink RX0 80 yX5_numberOf, Cond.methodLink RL 87 yX9_felling, Cond.instanceMethod yX9_felling, Cond.selects RX9 yX9_felling yX9_felling, Cond.code yX9_felling cX9_felling 7 (some .int), Cond.methodLink RX9 224 yX9_felledNow, Cond.instanceMethod yX9_felledNow, Cond.selects RX9 yX9_felledNow yX9_felledNow, Cond.code yX9_felledNow cX9_felledNow 3 (some .int), Cond.methodLink RX9 227 yX9_fellAll, Cond.instanceMethod yX9_fellAll, Cond.selects RX9 yX9_fellAll yX9_fellAll, Cond.code yX9_fellAll cX9_fellAll 4 none, Cond.methodLink RL 88 yX8_fresh, Cond.instanceMethod yX8_fresh]
def wsL_law_r28 : List Cond := [Cond.selects RX8 yX8_fresh yX8_fresh, Cond.code yX8_fresh cX8_fresh 4 (some .int), Cond.methodLink RX8 220 yX2_canTakeNew, Cond.instanceMethod yX2_canTakeNew, Cond.selects RX2 yX2_canTakeNew yX2_canTakeNew, Cond.code yX2_canTakeNew cX2_canTakeNew 2 (some .boolean), Cond.methodLink RX2 49 yX2_hasNothing, Cond.methodLink RX8 223 yX0_numberOfNew, Cond.instanceMethod yX0_numberOfNew, Cond.selects RX0 yX0_numberOfNew yX0_numberOfNew, Cond.code yX0_numberOfNew cX0_numberOfNew 3 (some .int), Cond.methodLink RX8 226 yX0_changedByNew, Cond.instanceMethod yX0_changedByNew, Cond.selects RX0 yX0_changedByNew yX0_changedByNew, Cond.code yX0_changedByNew cX0_changedByNew 6 (some .int), Cond.fieldLink RX0 86 "SeenNumbers$Sight" "tops" "[I", Cond.fieldLink RX0 89 "SeenNumbers$Land" "houseCount" "I", Cond.fieldLink RX0 96 "SeenNumbers$Sight" "numbers" "[I", Cond.methodLink RX0 83 yX5_countAll, Cond.methodLink RX0 92 yX5_isClear, Cond.methodLink RL 91 yX9_fresh, Cond.instanceMethod yX9_fresh, Cond.selects RX9 yX9_fresh yX9_fresh, Cond.code yX9_fresh cX9_fresh 5 (some .int)]
def wsL_law_r29 : List Cond := [Cond.fieldLink RX9 231 "SeenNumbersModel" "othersThen" "I", Cond.methodLink RX9 234 yX9_triedOn, Cond.instanceMethod yX9_triedOn, Cond.selects RX9 yX9_triedOn yX9_triedOn, Cond.code yX9_triedOn cX9_triedOn 5 (some .int), Cond.methodLink RL 92 yX8_free, Cond.instanceMethod yX8_free, Cond.selects RX8 yX8_free yX8_free, Cond.code yX8_free cX8_free 3 (some .long), Cond.methodLink RX8 229 yX0_cellsForNew, Cond.instanceMethod yX0_cellsForNew, Cond.selects RX0 yX0_cellsForNew yX0_cellsForNew, Cond.code yX0_cellsForNew cX0_cellsForNew 6 (some .long), Cond.methodLink RX0 99 yX2_canTakeNew, Cond.methodLink RL 96 yX9_free, Cond.instanceMethod yX9_free, Cond.selects RX9 yX9_free yX9_free, Cond.code yX9_free cX9_free 6 (some .long), Cond.constantLong RX9 237 (8), Cond.methodLink RL 97 yX8_change, Cond.instanceMethod yX8_change, Cond.selects RX8 yX8_change yX8_change, Cond.code yX8_change cX8_change 2 (some .int), Cond.methodLink RX8 233 yX0_yearOfChange]
def wsL_law_r30 : List Cond := [Cond.instanceMethod yX0_yearOfChange, Cond.selects RX0 yX0_yearOfChange yX0_yearOfChange, Cond.code yX0_yearOfChange cX0_yearOfChange 4 (some .int), Cond.methodLink RL 100 yX9_change, Cond.instanceMethod yX9_change, Cond.selects RX9 yX9_change yX9_change, Cond.code yX9_change cX9_change 6 (some .int), Cond.methodLink RL 101 yX8_reading, Cond.instanceMethod yX8_reading, Cond.selects RX8 yX8_reading yX8_reading, Cond.code yX8_reading cX8_reading 4 (some .int), Cond.methodLink RX8 236 yX3_isFull, Cond.instanceMethod yX3_isFull, Cond.selects RX3 yX3_isFull yX3_isFull, Cond.code yX3_isFull cX3_isFull 1 (some .boolean), Cond.fieldLink RX3 29 "SeenNumbers$Readings" "count" "I", Cond.methodLink RX8 239 yX3_keep, Cond.instanceMethod yX3_keep, Cond.selects RX3 yX3_keep yX3_keep, Cond.code yX3_keep cX3_keep 4 (some .int), Cond.methodLink RL 104 yX9_reading, Cond.instanceMethod yX9_reading, Cond.selects RX9 yX9_reading yX9_reading, Cond.code yX9_reading cX9_reading 4 (some .int)]
def wsL_law_r31 : List Cond := [Cond.methodLink RL 105 yX8_back, Cond.instanceMethod yX8_back, Cond.selects RX8 yX8_back yX8_back, Cond.code yX8_back cX8_back 2 (some .int), Cond.methodLink RL 108 yX9_back, Cond.instanceMethod yX9_back, Cond.selects RX9 yX9_back yX9_back, Cond.code yX9_back cX9_back 2 (some .int), Cond.methodLink RL 109 yX8_fogs, Cond.instanceMethod yX8_fogs, Cond.selects RX8 yX8_fogs yX8_fogs, Cond.code yX8_fogs cX8_fogs 1 (some .int), Cond.methodLink RX8 242 yX3_possibleFogs, Cond.instanceMethod yX3_possibleFogs, Cond.selects RX3 yX3_possibleFogs yX3_possibleFogs, Cond.code yX3_possibleFogs cX3_possibleFogs 3 (some .int), Cond.fieldLink RX3 38 "SeenNumbers$Sight" "fog" "I", Cond.fieldLink RX3 41 "SeenNumbers$Land" "felled" "I", Cond.methodLink RX3 33 yX5_lookNow, Cond.methodLink RX3 46 yX3_allAreSo, Cond.instanceMethod yX3_allAreSo, Cond.selects RX3 yX3_allAreSo yX3_allAreSo, Cond.code yX3_allAreSo cX3_allAreSo 3 (some .boolean), Cond.methodLink RX3 53 yX5_lookWithTrees]
def wsL_law_r32 : List Cond := [Cond.methodLink RX3 57 yX5_numberOf, Cond.methodLink RL 112 yX9_fogs, Cond.instanceMethod yX9_fogs, Cond.selects RX9 yX9_fogs yX9_fogs, Cond.code yX9_fogs cX9_fogs 4 (some .int), Cond.methodLink RX9 239 yX9_areSo, Cond.instanceMethod yX9_areSo, Cond.selects RX9 yX9_areSo yX9_areSo, Cond.code yX9_areSo cX9_areSo 4 (some .boolean), Cond.methodLink RL 113 yX8_stood, Cond.instanceMethod yX8_stood, Cond.selects RX8 yX8_stood yX8_stood, Cond.code yX8_stood cX8_stood 2 (some .int), Cond.methodLink RX8 245 yX3_howManyStood, Cond.instanceMethod yX3_howManyStood, Cond.selects RX3 yX3_howManyStood yX3_howManyStood, Cond.code yX3_howManyStood cX3_howManyStood 4 (some .int), Cond.fieldLink RX3 50 "SeenNumbers$Land" "treeCount" "I", Cond.methodLink RX8 248 yX3_firstThatStood, Cond.instanceMethod yX3_firstThatStood, Cond.selects RX3 yX3_firstThatStood yX3_firstThatStood, Cond.code yX3_firstThatStood cX3_firstThatStood 3 (some .int), Cond.methodLink RL 116 yX9_stood, Cond.instanceMethod yX9_stood]
def wsL_law_r33 : List Cond := [Cond.selects RX9 yX9_stood yX9_stood, Cond.code yX9_stood cX9_stood 7 (some .int), Cond.methodLink RL 117 yX8_sheet, Cond.instanceMethod yX8_sheet, Cond.selects RX8 yX8_sheet yX8_sheet, Cond.code yX8_sheet cX8_sheet 4 (some .int), Cond.methodLink RX8 251 yX4_makeRow, Cond.instanceMethod yX4_makeRow, Cond.selects RX4 yX4_makeRow yX4_makeRow, Cond.code yX4_makeRow cX4_makeRow 4 none, Cond.methodLink RL 120 yX9_sheet, Cond.instanceMethod yX9_sheet, Cond.selects RX9 yX9_sheet yX9_sheet, Cond.code yX9_sheet cX9_sheet 5 (some .int), Cond.methodLink RL 121 yX8_lose, Cond.instanceMethod yX8_lose, Cond.selects RX8 yX8_lose yX8_lose, Cond.code yX8_lose cX8_lose 2 (some .int), Cond.methodLink RX8 255 yX4_hasRow, Cond.methodLink RX8 258 yX4_dropRow, Cond.instanceMethod yX4_dropRow, Cond.selects RX4 yX4_dropRow yX4_dropRow, Cond.code yX4_dropRow cX4_dropRow 1 none, Cond.methodLink RL 124 yX9_lose]
def wsL_law_r34 : List Cond := [Cond.instanceMethod yX9_lose, Cond.selects RX9 yX9_lose yX9_lose, Cond.code yX9_lose cX9_lose 3 (some .int), Cond.methodLink RL 125 yX8_put, Cond.instanceMethod yX8_put, Cond.selects RX8 yX8_put yX8_put, Cond.code yX8_put cX8_put 5 (some .int), Cond.methodLink RX8 261 yX4_holds, Cond.instanceMethod yX4_holds, Cond.selects RX4 yX4_holds yX4_holds, Cond.code yX4_holds cX4_holds 2 (some .boolean), Cond.methodLink RX8 264 yX4_write, Cond.instanceMethod yX4_write, Cond.selects RX4 yX4_write yX4_write, Cond.code yX4_write cX4_write 3 none, Cond.methodLink RL 128 yX9_put, Cond.instanceMethod yX9_put, Cond.selects RX9 yX9_put yX9_put, Cond.code yX9_put cX9_put 4 (some .int), Cond.methodLink RX9 245 yX9_noCell_, Cond.instanceMethod yX9_noCell_, Cond.selects RX9 yX9_noCell_ yX9_noCell_, Cond.code yX9_noCell_ cX9_noCell_ 3 (some .int), Cond.methodLink RL 129 yX8_cell]
def wsL_law_r35 : List Cond := [Cond.instanceMethod yX8_cell, Cond.selects RX8 yX8_cell yX8_cell, Cond.code yX8_cell cX8_cell 5 (some .long), Cond.fieldLink RX8 267 "SeenNumbers$Sheet" "cells" "[I", Cond.methodLink RL 133 yX9_cell, Cond.instanceMethod yX9_cell, Cond.selects RX9 yX9_cell yX9_cell, Cond.code yX9_cell cX9_cell 4 (some .long), Cond.methodLink RX9 247 yX9_failedLong, Cond.instanceMethod yX9_failedLong, Cond.selects RX9 yX9_failedLong yX9_failedLong, Cond.code yX9_failedLong cX9_failedLong 2 (some .long), Cond.methodLink RL 134 yX8_copy, Cond.instanceMethod yX8_copy, Cond.selects RX8 yX8_copy yX8_copy, Cond.code yX8_copy cX8_copy 8 (some .int), Cond.fieldLink RX8 269 "SeenNumbers$Sheet" "lane" "I", Cond.methodLink RX8 272 arraycopyName, Cond.native arraycopyName, Cond.static arraycopyName, Cond.initialized "java/lang/System", Cond.methodLink RL 138 yX9_copy, Cond.instanceMethod yX9_copy, Cond.selects RX9 yX9_copy yX9_copy]
def wsL_law_r36 : List Cond := [Cond.code yX9_copy cX9_copy 7 (some .int), Cond.methodLink RL 139 yX8_tell, Cond.instanceMethod yX8_tell, Cond.selects RX8 yX8_tell yX8_tell, Cond.code yX8_tell cX8_tell 3 (some .int), Cond.methodLink RX8 278 yX8_towerTells, Cond.instanceMethod yX8_towerTells, Cond.selects RX8 yX8_towerTells yX8_towerTells, Cond.code yX8_towerTells cX8_towerTells 3 (some .int), Cond.methodLink RX8 288 yX8_leaveTrace, Cond.instanceMethod yX8_leaveTrace, Cond.selects RX8 yX8_leaveTrace yX8_leaveTrace, Cond.code yX8_leaveTrace cX8_leaveTrace 2 none, Cond.fieldLink RX8 295 "SeenNumbers" "traceLeft" "I", Cond.methodLink RX8 282 yX8_chimneyTells, Cond.instanceMethod yX8_chimneyTells, Cond.selects RX8 yX8_chimneyTells yX8_chimneyTells, Cond.code yX8_chimneyTells cX8_chimneyTells 2 (some .int), Cond.methodLink RX8 285 yX8_houseTells, Cond.instanceMethod yX8_houseTells, Cond.selects RX8 yX8_houseTells yX8_houseTells, Cond.code yX8_houseTells cX8_houseTells 2 (some .int), Cond.methodLink RL 142 yX9_tell, Cond.instanceMethod yX9_tell]
def wsL_law_r37 : List Cond := [Cond.selects RX9 yX9_tell yX9_tell, Cond.code yX9_tell cX9_tell 4 (some .int), Cond.methodLink RX9 254 yX9_traced, Cond.instanceMethod yX9_traced, Cond.selects RX9 yX9_traced yX9_traced, Cond.code yX9_traced cX9_traced 2 none, Cond.fieldLink RX9 251 "SeenNumbersModel" "traceNow" "I", Cond.methodLink RL 143 yX8_rent, Cond.instanceMethod yX8_rent, Cond.selects RX8 yX8_rent yX8_rent, Cond.code yX8_rent cX8_rent 2 (some .int), Cond.methodLink RL 146 yX9_rent, Cond.instanceMethod yX9_rent, Cond.selects RX9 yX9_rent yX9_rent, Cond.code yX9_rent cX9_rent 2 (some .int), Cond.methodLink RL 147 yX8_as, Cond.instanceMethod yX8_as, Cond.selects RX8 yX8_as yX8_as, Cond.code yX8_as cX8_as 3 (some .int), Cond.methodLink RX8 292 yX1_isA, Cond.methodLink RL 150 yX9_as, Cond.instanceMethod yX9_as, Cond.selects RX9 yX9_as yX9_as, Cond.code yX9_as cX9_as 3 (some .int)]
def wsL_law_r38 : List Cond := [Cond.methodLink RL 151 yX8_trace, Cond.instanceMethod yX8_trace, Cond.selects RX8 yX8_trace yX8_trace, Cond.code yX8_trace cX8_trace 1 (some .int), Cond.methodLink RL 154 yX9_trace, Cond.instanceMethod yX9_trace, Cond.selects RX9 yX9_trace yX9_trace, Cond.code yX9_trace cX9_trace 1 (some .int), Cond.methodLink RL 155 yX8_fault, Cond.instanceMethod yX8_fault, Cond.selects RX8 yX8_fault yX8_fault, Cond.code yX8_fault cX8_fault 1 (some .int), Cond.methodLink RL 158 yX9_fault, Cond.instanceMethod yX9_fault, Cond.selects RX9 yX9_fault yX9_fault, Cond.code yX9_fault cX9_fault 1 (some .int), Cond.methodLink RL 159 yX8_many, Cond.instanceMethod yX8_many, Cond.selects RX8 yX8_many yX8_many, Cond.code yX8_many cX8_many 2 (some .int), Cond.fieldLink RX8 298 "SeenNumbers$Land" "wide" "I", Cond.fieldLink RX8 301 "SeenNumbers$Land" "treeCount" "I", Cond.methodLink RL 162 yX9_many, Cond.instanceMethod yX9_many]
def wsL_law_r39 : List Cond := [Cond.selects RX9 yX9_many yX9_many, Cond.code yX9_many cX9_many 2 (some .int)]
def wsL_law : List Cond := (wsL_law_r1 ++ (wsL_law_r2 ++ (wsL_law_r3 ++ (wsL_law_r4 ++ (wsL_law_r5 ++ (wsL_law_r6 ++ (wsL_law_r7 ++ (wsL_law_r8 ++ (wsL_law_r9 ++ (wsL_law_r10 ++ (wsL_law_r11 ++ (wsL_law_r12 ++ (wsL_law_r13 ++ (wsL_law_r14 ++ (wsL_law_r15 ++ (wsL_law_r16 ++ (wsL_law_r17 ++ (wsL_law_r18 ++ (wsL_law_r19 ++ (wsL_law_r20 ++ (wsL_law_r21 ++ (wsL_law_r22 ++ (wsL_law_r23 ++ (wsL_law_r24 ++ (wsL_law_r25 ++ (wsL_law_r26 ++ (wsL_law_r27 ++ (wsL_law_r28 ++ (wsL_law_r29 ++ (wsL_law_r30 ++ (wsL_law_r31 ++ (wsL_law_r32 ++ (wsL_law_r33 ++ (wsL_law_r34 ++ (wsL_law_r35 ++ (wsL_law_r36 ++ (wsL_law_r37 ++ (wsL_law_r38 ++ wsL_law_r39)))))))))))))))))))))))))))))))))))))) ++ wsX80 ++ wsX90 ++ wsX40 ++ wsX60 ++ wsX20 ++ wsX50 ++ wsX00 ++ wsX30 ++ wsX10 ++ wsX70 ++ ([] : List Cond)
abbrev vwCl : List vw_C := [(RX0, TX0, 2), (RX1, TX1, 4), (RX2, TX2, 13), (RX3, TX3, 6), (RX4, TX4, 3), (RX5, TX5, 4), (RX6, TX6, 11), (RX7, TX7, 2), (RX8, TX8, 8), (RX9, TX9, 41)]
end
section
theorem dX0_init_0 : decode cX0_init 0 = .ok (.aload_n 0, 1) := by decide +kernel
theorem dX0_init_1 : decode cX0_init 1 = .ok (.invokespecial 3, 3) := by decide +kernel
theorem dX0_init_4 : decode cX0_init 4 = .ok (.aload_n 0, 1) := by decide +kernel
theorem dX0_init_5 : decode cX0_init 5 = .ok (.aload_n 1, 1) := by decide +kernel
theorem dX0_init_6 : decode cX0_init 6 = .ok (.putfield 9, 3) := by decide +kernel
theorem dX0_init_9 : decode cX0_init 9 = .ok (.aload_n 0, 1) := by decide +kernel
theorem dX0_init_10 : decode cX0_init 10 = .ok (.aload_n 2, 1) := by decide +kernel
theorem dX0_init_11 : decode cX0_init 11 = .ok (.putfield 15, 3) := by decide +kernel
theorem dX0_init_14 : decode cX0_init 14 = .ok (.return_, 1) := by decide +kernel
set_option maxRecDepth 20000 in
theorem ggX0_lowestWall_X5_lookNow : GoodIn wsX0_lowestWall wsX5_lookNow := goodIn_r _ [11, 12, 13, 14, 15, 16, 17, 18, 19, 20, 21, 22, 23, 24, 25, 26, 27, 28, 29, 30, 31, 32, 33, 34, 35, 36, 37, 38, 39, 40, 41, 42, 43, 44, 45, 46, 47, 48, 49, 50, 51, 52, 53, 103, 104, 105, 106, 86, 87, 88, 89, 90, 91, 92, 93, 94, 95, 96, 97, 98, 99, 100, 101, 102, 107, 108] (by decide +kernel) (by decide +kernel)
set_option maxRecDepth 20000 in
theorem gX0_lowestWall_X5_lookNow : GoodIn wsX0_lowestWall (wsV RX0 19 RX5 yX5_lookNow wsX5_lookNow) := goodIn_app (goodIn_of _ (by decide +kernel)) ggX0_lowestWall_X5_lookNow
set_option maxRecDepth 20000 in
theorem ggX0_lowestWall_X2_hasNothing : GoodIn wsX0_lowestWall wsX2_hasNothing := goodIn_r _ [57, 27, 86, 87, 88, 89, 90, 91, 92, 93, 94, 95, 96, 97, 98] (by decide +kernel) (by decide +kernel)
set_option maxRecDepth 20000 in
theorem gX0_lowestWall_X2_hasNothing : GoodIn wsX0_lowestWall (wsV RX0 39 RX2 yX2_hasNothing wsX2_hasNothing) := goodIn_app (goodIn_of _ (by decide +kernel)) ggX0_lowestWall_X2_hasNothing
set_option maxRecDepth 20000 in
theorem ggX0_lowestWall_X5_numberIf : GoodIn wsX0_lowestWall wsX5_numberIf := goodIn_r _ [61, 16, 62, 63, 64, 10, 65, 12, 66, 67, 68, 69, 70, 71, 72, 73, 74, 75, 76, 77, 78, 79, 80, 14, 81, 41, 82, 83, 103, 104, 105, 106, 86, 87, 88, 89, 90, 91, 92, 93, 94, 95, 96, 97, 98, 99, 100, 101, 102] (by decide +kernel) (by decide +kernel)
set_option maxRecDepth 20000 in
theorem gX0_lowestWall_X5_numberIf : GoodIn wsX0_lowestWall (wsV RX0 47 RX5 yX5_numberIf wsX5_numberIf) := goodIn_app (goodIn_of _ (by decide +kernel)) ggX0_lowestWall_X5_numberIf
theorem dX0_lowestWall_0 : decode cX0_lowestWall 0 = .ok (.aload_n 0, 1) := by decide +kernel
theorem dX0_lowestWall_1 : decode cX0_lowestWall 1 = .ok (.getfield 15, 3) := by decide +kernel
theorem dX0_lowestWall_4 : decode cX0_lowestWall 4 = .ok (.invokevirtual 19, 3) := by decide +kernel
theorem dX0_lowestWall_7 : decode cX0_lowestWall 7 = .ok (.aload_n 0, 1) := by decide +kernel
theorem dX0_lowestWall_8 : decode cX0_lowestWall 8 = .ok (.getfield 9, 3) := by decide +kernel
theorem dX0_lowestWall_11 : decode cX0_lowestWall 11 = .ok (.getfield 24, 3) := by decide +kernel
theorem dX0_lowestWall_14 : decode cX0_lowestWall 14 = .ok (.iload_n 1, 1) := by decide +kernel
theorem dX0_lowestWall_15 : decode cX0_lowestWall 15 = .ok (.aaload, 1) := by decide +kernel
theorem dX0_lowestWall_16 : decode cX0_lowestWall 16 = .ok (.getfield 30, 3) := by decide +kernel
theorem dX0_lowestWall_19 : decode cX0_lowestWall 19 = .ok (.istore_n 3, 1) := by decide +kernel
theorem dX0_lowestWall_20 : decode cX0_lowestWall 20 = .ok (.iconst 1, 1) := by decide +kernel
theorem dX0_lowestWall_21 : decode cX0_lowestWall 21 = .ok (.istore 4, 2) := by decide +kernel
theorem dX0_lowestWall_23 : decode cX0_lowestWall 23 = .ok (.iload 4, 2) := by decide +kernel
theorem dX0_lowestWall_25 : decode cX0_lowestWall 25 = .ok (.bipush 9, 2) := by decide +kernel
theorem dX0_lowestWall_27 : decode cX0_lowestWall 27 = .ok (.if_icmp .gt 78, 3) := by decide +kernel
theorem dX0_lowestWall_30 : decode cX0_lowestWall 30 = .ok (.iconst 0, 1) := by decide +kernel
theorem dX0_lowestWall_31 : decode cX0_lowestWall 31 = .ok (.istore 5, 2) := by decide +kernel
theorem dX0_lowestWall_33 : decode cX0_lowestWall 33 = .ok (.iload 5, 2) := by decide +kernel
theorem dX0_lowestWall_35 : decode cX0_lowestWall 35 = .ok (.aload_n 0, 1) := by decide +kernel
theorem dX0_lowestWall_36 : decode cX0_lowestWall 36 = .ok (.getfield 9, 3) := by decide +kernel
theorem dX0_lowestWall_39 : decode cX0_lowestWall 39 = .ok (.getfield 36, 3) := by decide +kernel
theorem dX0_lowestWall_42 : decode cX0_lowestWall 42 = .ok (.if_icmp .ge 57, 3) := by decide +kernel
theorem dX0_lowestWall_45 : decode cX0_lowestWall 45 = .ok (.aload_n 0, 1) := by decide +kernel
theorem dX0_lowestWall_46 : decode cX0_lowestWall 46 = .ok (.getfield 9, 3) := by decide +kernel
theorem dX0_lowestWall_49 : decode cX0_lowestWall 49 = .ok (.iload 5, 2) := by decide +kernel
theorem dX0_lowestWall_51 : decode cX0_lowestWall 51 = .ok (.invokevirtual 39, 3) := by decide +kernel
theorem dX0_lowestWall_54 : decode cX0_lowestWall 54 = .ok (.ifCond .eq 39, 3) := by decide +kernel
theorem dX0_lowestWall_57 : decode cX0_lowestWall 57 = .ok (.aload_n 0, 1) := by decide +kernel
theorem dX0_lowestWall_58 : decode cX0_lowestWall 58 = .ok (.getfield 15, 3) := by decide +kernel
theorem dX0_lowestWall_61 : decode cX0_lowestWall 61 = .ok (.iload_n 3, 1) := by decide +kernel
theorem dX0_lowestWall_62 : decode cX0_lowestWall 62 = .ok (.iload 5, 2) := by decide +kernel
theorem dX0_lowestWall_64 : decode cX0_lowestWall 64 = .ok (.aload_n 0, 1) := by decide +kernel
theorem dX0_lowestWall_65 : decode cX0_lowestWall 65 = .ok (.getfield 9, 3) := by decide +kernel
theorem dX0_lowestWall_68 : decode cX0_lowestWall 68 = .ok (.getfield 43, 3) := by decide +kernel
theorem dX0_lowestWall_71 : decode cX0_lowestWall 71 = .ok (.iload 5, 2) := by decide +kernel
theorem dX0_lowestWall_73 : decode cX0_lowestWall 73 = .ok (.iaload, 1) := by decide +kernel
theorem dX0_lowestWall_74 : decode cX0_lowestWall 74 = .ok (.iload 4, 2) := by decide +kernel
theorem dX0_lowestWall_76 : decode cX0_lowestWall 76 = .ok (.iadd, 1) := by decide +kernel
theorem dX0_lowestWall_77 : decode cX0_lowestWall 77 = .ok (.invokevirtual 47, 3) := by decide +kernel
theorem dX0_lowestWall_80 : decode cX0_lowestWall 80 = .ok (.iload_n 2, 1) := by decide +kernel
theorem dX0_lowestWall_81 : decode cX0_lowestWall 81 = .ok (.if_icmp .ne 12, 3) := by decide +kernel
theorem dX0_lowestWall_84 : decode cX0_lowestWall 84 = .ok (.bipush 100, 2) := by decide +kernel
theorem dX0_lowestWall_86 : decode cX0_lowestWall 86 = .ok (.iload 4, 2) := by decide +kernel
theorem dX0_lowestWall_88 : decode cX0_lowestWall 88 = .ok (.imul, 1) := by decide +kernel
theorem dX0_lowestWall_89 : decode cX0_lowestWall 89 = .ok (.iload 5, 2) := by decide +kernel
theorem dX0_lowestWall_91 : decode cX0_lowestWall 91 = .ok (.iadd, 1) := by decide +kernel
theorem dX0_lowestWall_92 : decode cX0_lowestWall 92 = .ok (.ireturn, 1) := by decide +kernel
theorem dX0_lowestWall_93 : decode cX0_lowestWall 93 = .ok (.iinc 5 1, 3) := by decide +kernel
theorem dX0_lowestWall_96 : decode cX0_lowestWall 96 = .ok (.goto (-63), 3) := by decide +kernel
theorem dX0_lowestWall_99 : decode cX0_lowestWall 99 = .ok (.iinc 4 1, 3) := by decide +kernel
theorem dX0_lowestWall_102 : decode cX0_lowestWall 102 = .ok (.goto (-79), 3) := by decide +kernel
theorem dX0_lowestWall_105 : decode cX0_lowestWall 105 = .ok (.bipush (-9), 2) := by decide +kernel
theorem dX0_lowestWall_107 : decode cX0_lowestWall 107 = .ok (.ireturn, 1) := by decide +kernel
set_option maxRecDepth 20000 in
theorem ggX0_leastFloors_X5_lookNow : GoodIn wsX0_leastFloors wsX5_lookNow := goodIn_r _ [11, 12, 13, 14, 15, 16, 17, 18, 19, 20, 21, 22, 23, 24, 25, 26, 27, 28, 29, 30, 31, 32, 33, 34, 35, 36, 37, 38, 39, 40, 41, 42, 43, 44, 45, 46, 47, 48, 49, 50, 51, 52, 53, 100, 101, 102, 103, 83, 84, 85, 86, 87, 88, 89, 90, 91, 92, 93, 94, 95, 96, 97, 98, 99, 104, 105] (by decide +kernel) (by decide +kernel)
set_option maxRecDepth 20000 in
theorem gX0_leastFloors_X5_lookNow : GoodIn wsX0_leastFloors (wsV RX0 19 RX5 yX5_lookNow wsX5_lookNow) := goodIn_app (goodIn_of _ (by decide +kernel)) ggX0_leastFloors_X5_lookNow
set_option maxRecDepth 20000 in
theorem ggX0_leastFloors_X1_tallWith : GoodIn wsX0_leastFloors wsX1_tallWith := goodIn_r _ [47, 48, 49, 50, 51, 46, 52, 53, 96, 97, 98, 99] (by decide +kernel) (by decide +kernel)
set_option maxRecDepth 20000 in
theorem gX0_leastFloors_X1_tallWith : GoodIn wsX0_leastFloors (wsV RX0 54 RX1 yX1_tallWith wsX1_tallWith) := goodIn_app (goodIn_of _ (by decide +kernel)) ggX0_leastFloors_X1_tallWith
set_option maxRecDepth 20000 in
theorem ggX0_leastFloors_X5_numberIf : GoodIn wsX0_leastFloors wsX5_numberIf := goodIn_r _ [58, 16, 59, 60, 61, 10, 62, 12, 63, 64, 65, 66, 67, 68, 69, 70, 71, 72, 73, 74, 75, 76, 77, 14, 78, 41, 79, 80, 100, 101, 102, 103, 83, 84, 85, 86, 87, 88, 89, 90, 91, 92, 93, 94, 95, 96, 97, 98, 99] (by decide +kernel) (by decide +kernel)
set_option maxRecDepth 20000 in
theorem gX0_leastFloors_X5_numberIf : GoodIn wsX0_leastFloors (wsV RX0 47 RX5 yX5_numberIf wsX5_numberIf) := goodIn_app (goodIn_of _ (by decide +kernel)) ggX0_leastFloors_X5_numberIf
theorem dX0_leastFloors_0 : decode cX0_leastFloors 0 = .ok (.aload_n 0, 1) := by decide +kernel
theorem dX0_leastFloors_1 : decode cX0_leastFloors 1 = .ok (.getfield 15, 3) := by decide +kernel
theorem dX0_leastFloors_4 : decode cX0_leastFloors 4 = .ok (.invokevirtual 19, 3) := by decide +kernel
theorem dX0_leastFloors_7 : decode cX0_leastFloors 7 = .ok (.aload_n 0, 1) := by decide +kernel
theorem dX0_leastFloors_8 : decode cX0_leastFloors 8 = .ok (.getfield 9, 3) := by decide +kernel
theorem dX0_leastFloors_11 : decode cX0_leastFloors 11 = .ok (.getfield 24, 3) := by decide +kernel
theorem dX0_leastFloors_14 : decode cX0_leastFloors 14 = .ok (.iload_n 1, 1) := by decide +kernel
theorem dX0_leastFloors_15 : decode cX0_leastFloors 15 = .ok (.aaload, 1) := by decide +kernel
theorem dX0_leastFloors_16 : decode cX0_leastFloors 16 = .ok (.astore_n 3, 1) := by decide +kernel
theorem dX0_leastFloors_17 : decode cX0_leastFloors 17 = .ok (.iconst 0, 1) := by decide +kernel
theorem dX0_leastFloors_18 : decode cX0_leastFloors 18 = .ok (.istore 4, 2) := by decide +kernel
theorem dX0_leastFloors_20 : decode cX0_leastFloors 20 = .ok (.iload 4, 2) := by decide +kernel
theorem dX0_leastFloors_22 : decode cX0_leastFloors 22 = .ok (.bipush 9, 2) := by decide +kernel
theorem dX0_leastFloors_24 : decode cX0_leastFloors 24 = .ok (.if_icmp .gt 61, 3) := by decide +kernel
theorem dX0_leastFloors_27 : decode cX0_leastFloors 27 = .ok (.aload_n 0, 1) := by decide +kernel
theorem dX0_leastFloors_28 : decode cX0_leastFloors 28 = .ok (.getfield 9, 3) := by decide +kernel
theorem dX0_leastFloors_31 : decode cX0_leastFloors 31 = .ok (.getfield 43, 3) := by decide +kernel
theorem dX0_leastFloors_34 : decode cX0_leastFloors 34 = .ok (.aload_n 3, 1) := by decide +kernel
theorem dX0_leastFloors_35 : decode cX0_leastFloors 35 = .ok (.getfield 30, 3) := by decide +kernel
theorem dX0_leastFloors_38 : decode cX0_leastFloors 38 = .ok (.iaload, 1) := by decide +kernel
theorem dX0_leastFloors_39 : decode cX0_leastFloors 39 = .ok (.aload_n 3, 1) := by decide +kernel
theorem dX0_leastFloors_40 : decode cX0_leastFloors 40 = .ok (.iload 4, 2) := by decide +kernel
theorem dX0_leastFloors_42 : decode cX0_leastFloors 42 = .ok (.aload_n 0, 1) := by decide +kernel
theorem dX0_leastFloors_43 : decode cX0_leastFloors 43 = .ok (.getfield 9, 3) := by decide +kernel
theorem dX0_leastFloors_46 : decode cX0_leastFloors 46 = .ok (.getfield 51, 3) := by decide +kernel
theorem dX0_leastFloors_49 : decode cX0_leastFloors 49 = .ok (.invokevirtual 54, 3) := by decide +kernel
theorem dX0_leastFloors_52 : decode cX0_leastFloors 52 = .ok (.iadd, 1) := by decide +kernel
theorem dX0_leastFloors_53 : decode cX0_leastFloors 53 = .ok (.istore 5, 2) := by decide +kernel
theorem dX0_leastFloors_55 : decode cX0_leastFloors 55 = .ok (.aload_n 0, 1) := by decide +kernel
theorem dX0_leastFloors_56 : decode cX0_leastFloors 56 = .ok (.getfield 15, 3) := by decide +kernel
theorem dX0_leastFloors_59 : decode cX0_leastFloors 59 = .ok (.aload_n 3, 1) := by decide +kernel
theorem dX0_leastFloors_60 : decode cX0_leastFloors 60 = .ok (.getfield 30, 3) := by decide +kernel
theorem dX0_leastFloors_63 : decode cX0_leastFloors 63 = .ok (.aload_n 3, 1) := by decide +kernel
theorem dX0_leastFloors_64 : decode cX0_leastFloors 64 = .ok (.getfield 30, 3) := by decide +kernel
theorem dX0_leastFloors_67 : decode cX0_leastFloors 67 = .ok (.iload 5, 2) := by decide +kernel
theorem dX0_leastFloors_69 : decode cX0_leastFloors 69 = .ok (.invokevirtual 47, 3) := by decide +kernel
theorem dX0_leastFloors_72 : decode cX0_leastFloors 72 = .ok (.iload_n 2, 1) := by decide +kernel
theorem dX0_leastFloors_73 : decode cX0_leastFloors 73 = .ok (.if_icmp .ne 6, 3) := by decide +kernel
theorem dX0_leastFloors_76 : decode cX0_leastFloors 76 = .ok (.iload 4, 2) := by decide +kernel
theorem dX0_leastFloors_78 : decode cX0_leastFloors 78 = .ok (.ireturn, 1) := by decide +kernel
theorem dX0_leastFloors_79 : decode cX0_leastFloors 79 = .ok (.iinc 4 1, 3) := by decide +kernel
theorem dX0_leastFloors_82 : decode cX0_leastFloors 82 = .ok (.goto (-62), 3) := by decide +kernel
theorem dX0_leastFloors_85 : decode cX0_leastFloors 85 = .ok (.bipush (-9), 2) := by decide +kernel
theorem dX0_leastFloors_87 : decode cX0_leastFloors 87 = .ok (.ireturn, 1) := by decide +kernel
set_option maxRecDepth 20000 in
theorem ggX0_fewestFelled_X5_lookNow : GoodIn wsX0_fewestFelled wsX5_lookNow := goodIn_r _ [9, 10, 11, 12, 13, 14, 15, 16, 17, 18, 19, 20, 21, 22, 23, 24, 25, 26, 27, 28, 29, 30, 31, 32, 33, 34, 35, 36, 37, 38, 39, 40, 41, 42, 43, 44, 45, 46, 47, 48, 49, 50, 51, 115, 116, 117, 118, 102, 103, 104, 105, 106, 107, 108, 109, 110, 111, 112, 113, 114, 119, 120, 121, 122, 123, 124] (by decide +kernel) (by decide +kernel)
set_option maxRecDepth 20000 in
theorem gX0_fewestFelled_X5_lookNow : GoodIn wsX0_fewestFelled (wsV RX0 19 RX5 yX5_lookNow wsX5_lookNow) := goodIn_app (goodIn_of _ (by decide +kernel)) ggX0_fewestFelled_X5_lookNow
set_option maxRecDepth 20000 in
theorem ggX0_fewestFelled_J6_bitCount_0f7a4 : GoodIn wsX0_fewestFelled wsJ6_bitCount_0f7a4 := goodIn_r _ [55, 56, 57, 58] (by decide +kernel) (by decide +kernel)
set_option maxRecDepth 20000 in
theorem gX0_fewestFelled_J6_bitCount_0f7a4 : GoodIn wsX0_fewestFelled (va_wsS RX0 61 yJ6_bitCount_0f7a4 wsJ6_bitCount_0f7a4) := goodIn_app (goodIn_of _ (by decide +kernel)) ggX0_fewestFelled_J6_bitCount_0f7a4
set_option maxRecDepth 20000 in
theorem ggX0_fewestFelled_X0_numberFelling : GoodIn wsX0_fewestFelled wsX0_numberFelling := goodIn_r _ [63, 1, 2, 64, 4, 65, 66, 67, 8, 68, 10, 69, 70, 71, 14, 72, 73, 33, 34, 18, 35, 36, 37, 38, 39, 40, 74, 75, 76, 77, 78, 79, 80, 81, 82, 83, 84, 85, 86, 87, 88, 89, 90, 91, 92, 93, 94, 95, 96, 12, 97, 98, 99, 100, 101, 102, 103, 104, 105, 106, 107, 108, 109, 110, 111, 112, 113, 114, 115, 116, 117, 118, 123, 124, 119, 120, 121, 122] (by decide +kernel) (by decide +kernel)
set_option maxRecDepth 20000 in
theorem gX0_fewestFelled_X0_numberFelling : GoodIn wsX0_fewestFelled (wsV RX0 70 RX0 yX0_numberFelling wsX0_numberFelling) := goodIn_app (goodIn_of _ (by decide +kernel)) ggX0_fewestFelled_X0_numberFelling
theorem dX0_fewestFelled_0 : decode cX0_fewestFelled 0 = .ok (.aload_n 0, 1) := by decide +kernel
theorem dX0_fewestFelled_1 : decode cX0_fewestFelled 1 = .ok (.getfield 15, 3) := by decide +kernel
theorem dX0_fewestFelled_4 : decode cX0_fewestFelled 4 = .ok (.invokevirtual 19, 3) := by decide +kernel
theorem dX0_fewestFelled_7 : decode cX0_fewestFelled 7 = .ok (.iconst 1, 1) := by decide +kernel
theorem dX0_fewestFelled_8 : decode cX0_fewestFelled 8 = .ok (.aload_n 0, 1) := by decide +kernel
theorem dX0_fewestFelled_9 : decode cX0_fewestFelled 9 = .ok (.getfield 9, 3) := by decide +kernel
theorem dX0_fewestFelled_12 : decode cX0_fewestFelled 12 = .ok (.getfield 58, 3) := by decide +kernel
theorem dX0_fewestFelled_15 : decode cX0_fewestFelled 15 = .ok (.ishl, 1) := by decide +kernel
theorem dX0_fewestFelled_16 : decode cX0_fewestFelled 16 = .ok (.istore_n 3, 1) := by decide +kernel
theorem dX0_fewestFelled_17 : decode cX0_fewestFelled 17 = .ok (.bipush (-9), 2) := by decide +kernel
theorem dX0_fewestFelled_19 : decode cX0_fewestFelled 19 = .ok (.istore 4, 2) := by decide +kernel
theorem dX0_fewestFelled_21 : decode cX0_fewestFelled 21 = .ok (.iconst 0, 1) := by decide +kernel
theorem dX0_fewestFelled_22 : decode cX0_fewestFelled 22 = .ok (.istore 5, 2) := by decide +kernel
theorem dX0_fewestFelled_24 : decode cX0_fewestFelled 24 = .ok (.iload 5, 2) := by decide +kernel
theorem dX0_fewestFelled_26 : decode cX0_fewestFelled 26 = .ok (.iload_n 3, 1) := by decide +kernel
theorem dX0_fewestFelled_27 : decode cX0_fewestFelled 27 = .ok (.if_icmp .ge 69, 3) := by decide +kernel
theorem dX0_fewestFelled_30 : decode cX0_fewestFelled 30 = .ok (.iload 4, 2) := by decide +kernel
theorem dX0_fewestFelled_32 : decode cX0_fewestFelled 32 = .ok (.bipush (-9), 2) := by decide +kernel
theorem dX0_fewestFelled_34 : decode cX0_fewestFelled 34 = .ok (.if_icmp .eq 16, 3) := by decide +kernel
theorem dX0_fewestFelled_37 : decode cX0_fewestFelled 37 = .ok (.iload 5, 2) := by decide +kernel
theorem dX0_fewestFelled_39 : decode cX0_fewestFelled 39 = .ok (.invokestatic 61, 3) := by decide +kernel
theorem dX0_fewestFelled_42 : decode cX0_fewestFelled 42 = .ok (.iload 4, 2) := by decide +kernel
theorem dX0_fewestFelled_44 : decode cX0_fewestFelled 44 = .ok (.invokestatic 61, 3) := by decide +kernel
theorem dX0_fewestFelled_47 : decode cX0_fewestFelled 47 = .ok (.if_icmp .ge 7, 3) := by decide +kernel
theorem dX0_fewestFelled_50 : decode cX0_fewestFelled 50 = .ok (.iconst 1, 1) := by decide +kernel
theorem dX0_fewestFelled_51 : decode cX0_fewestFelled 51 = .ok (.goto 4, 3) := by decide +kernel
theorem dX0_fewestFelled_54 : decode cX0_fewestFelled 54 = .ok (.iconst 0, 1) := by decide +kernel
theorem dX0_fewestFelled_55 : decode cX0_fewestFelled 55 = .ok (.istore 6, 2) := by decide +kernel
theorem dX0_fewestFelled_57 : decode cX0_fewestFelled 57 = .ok (.iload 6, 2) := by decide +kernel
theorem dX0_fewestFelled_59 : decode cX0_fewestFelled 59 = .ok (.ifCond .eq 31, 3) := by decide +kernel
theorem dX0_fewestFelled_62 : decode cX0_fewestFelled 62 = .ok (.iload 5, 2) := by decide +kernel
theorem dX0_fewestFelled_64 : decode cX0_fewestFelled 64 = .ok (.aload_n 0, 1) := by decide +kernel
theorem dX0_fewestFelled_65 : decode cX0_fewestFelled 65 = .ok (.getfield 9, 3) := by decide +kernel
theorem dX0_fewestFelled_68 : decode cX0_fewestFelled 68 = .ok (.getfield 67, 3) := by decide +kernel
theorem dX0_fewestFelled_71 : decode cX0_fewestFelled 71 = .ok (.iand, 1) := by decide +kernel
theorem dX0_fewestFelled_72 : decode cX0_fewestFelled 72 = .ok (.ifCond .ne 18, 3) := by decide +kernel
theorem dX0_fewestFelled_75 : decode cX0_fewestFelled 75 = .ok (.aload_n 0, 1) := by decide +kernel
theorem dX0_fewestFelled_76 : decode cX0_fewestFelled 76 = .ok (.iload_n 1, 1) := by decide +kernel
theorem dX0_fewestFelled_77 : decode cX0_fewestFelled 77 = .ok (.iload 5, 2) := by decide +kernel
theorem dX0_fewestFelled_79 : decode cX0_fewestFelled 79 = .ok (.invokevirtual 70, 3) := by decide +kernel
theorem dX0_fewestFelled_82 : decode cX0_fewestFelled 82 = .ok (.iload_n 2, 1) := by decide +kernel
theorem dX0_fewestFelled_83 : decode cX0_fewestFelled 83 = .ok (.if_icmp .ne 7, 3) := by decide +kernel
theorem dX0_fewestFelled_86 : decode cX0_fewestFelled 86 = .ok (.iload 5, 2) := by decide +kernel
theorem dX0_fewestFelled_88 : decode cX0_fewestFelled 88 = .ok (.istore 4, 2) := by decide +kernel
theorem dX0_fewestFelled_90 : decode cX0_fewestFelled 90 = .ok (.iinc 5 1, 3) := by decide +kernel
theorem dX0_fewestFelled_93 : decode cX0_fewestFelled 93 = .ok (.goto (-69), 3) := by decide +kernel
theorem dX0_fewestFelled_96 : decode cX0_fewestFelled 96 = .ok (.iload 4, 2) := by decide +kernel
theorem dX0_fewestFelled_98 : decode cX0_fewestFelled 98 = .ok (.ireturn, 1) := by decide +kernel
set_option maxRecDepth 20000 in
theorem ggX0_numberFelling_X5_lookWithTrees : GoodIn wsX0_numberFelling wsX5_lookWithTrees := goodIn_r _ [9, 10, 11, 12, 13, 14, 15, 16, 17, 18, 19, 20, 21, 22, 23, 24, 25, 68, 69, 70, 71, 55, 56, 57, 58, 59, 60, 61, 62, 63, 64, 65, 66, 67, 72, 73] (by decide +kernel) (by decide +kernel)
set_option maxRecDepth 20000 in
theorem gX0_numberFelling_X5_lookWithTrees : GoodIn wsX0_numberFelling (wsV RX0 76 RX5 yX5_lookWithTrees wsX5_lookWithTrees) := goodIn_app (goodIn_of _ (by decide +kernel)) ggX0_numberFelling_X5_lookWithTrees
set_option maxRecDepth 20000 in
theorem ggX0_numberFelling_X5_numberOf : GoodIn wsX0_numberFelling wsX5_numberOf := goodIn_r _ [29, 10, 30, 31, 32, 33, 34, 8, 35, 36, 37, 38, 39, 40, 41, 42, 43, 44, 45, 46, 47, 48, 49, 14, 50, 24, 51, 52, 68, 69, 70, 71, 55, 56, 57, 58, 59, 60, 61, 62, 63, 64, 65, 66, 67, 74, 75, 76, 77] (by decide +kernel) (by decide +kernel)
set_option maxRecDepth 20000 in
theorem gX0_numberFelling_X5_numberOf : GoodIn wsX0_numberFelling (wsV RX0 80 RX5 yX5_numberOf wsX5_numberOf) := goodIn_app (goodIn_of _ (by decide +kernel)) ggX0_numberFelling_X5_numberOf
theorem dX0_numberFelling_0 : decode cX0_numberFelling 0 = .ok (.aload_n 0, 1) := by decide +kernel
theorem dX0_numberFelling_1 : decode cX0_numberFelling 1 = .ok (.getfield 15, 3) := by decide +kernel
theorem dX0_numberFelling_4 : decode cX0_numberFelling 4 = .ok (.aload_n 0, 1) := by decide +kernel
theorem dX0_numberFelling_5 : decode cX0_numberFelling 5 = .ok (.getfield 9, 3) := by decide +kernel
theorem dX0_numberFelling_8 : decode cX0_numberFelling 8 = .ok (.getfield 73, 3) := by decide +kernel
theorem dX0_numberFelling_11 : decode cX0_numberFelling 11 = .ok (.aload_n 0, 1) := by decide +kernel
theorem dX0_numberFelling_12 : decode cX0_numberFelling 12 = .ok (.getfield 9, 3) := by decide +kernel
theorem dX0_numberFelling_15 : decode cX0_numberFelling 15 = .ok (.getfield 67, 3) := by decide +kernel
theorem dX0_numberFelling_18 : decode cX0_numberFelling 18 = .ok (.iload_n 2, 1) := by decide +kernel
theorem dX0_numberFelling_19 : decode cX0_numberFelling 19 = .ok (.ior, 1) := by decide +kernel
theorem dX0_numberFelling_20 : decode cX0_numberFelling 20 = .ok (.invokevirtual 76, 3) := by decide +kernel
theorem dX0_numberFelling_23 : decode cX0_numberFelling 23 = .ok (.aload_n 0, 1) := by decide +kernel
theorem dX0_numberFelling_24 : decode cX0_numberFelling 24 = .ok (.getfield 15, 3) := by decide +kernel
theorem dX0_numberFelling_27 : decode cX0_numberFelling 27 = .ok (.iload_n 1, 1) := by decide +kernel
theorem dX0_numberFelling_28 : decode cX0_numberFelling 28 = .ok (.invokevirtual 80, 3) := by decide +kernel
theorem dX0_numberFelling_31 : decode cX0_numberFelling 31 = .ok (.ireturn, 1) := by decide +kernel
set_option maxRecDepth 20000 in
theorem ggX0_numberOfNew_X5_lookNow : GoodIn wsX0_numberOfNew wsX5_lookNow := goodIn_r _ [8, 9, 10, 11, 12, 13, 14, 15, 16, 17, 18, 19, 20, 21, 22, 23, 24, 25, 26, 27, 28, 29, 30, 31, 32, 33, 34, 35, 36, 37, 38, 39, 40, 41, 42, 43, 44, 45, 46, 47, 48, 49, 50, 92, 93, 94, 95, 79, 80, 81, 82, 83, 84, 85, 86, 87, 88, 89, 90, 91, 96, 97, 98, 99, 100, 101] (by decide +kernel) (by decide +kernel)
set_option maxRecDepth 20000 in
theorem gX0_numberOfNew_X5_lookNow : GoodIn wsX0_numberOfNew (wsV RX0 19 RX5 yX5_lookNow wsX5_lookNow) := goodIn_app (goodIn_of _ (by decide +kernel)) ggX0_numberOfNew_X5_lookNow
set_option maxRecDepth 20000 in
theorem ggX0_numberOfNew_X5_numberIf : GoodIn wsX0_numberOfNew wsX5_numberIf := goodIn_r _ [54, 13, 55, 56, 57, 7, 58, 9, 59, 60, 61, 62, 63, 64, 65, 66, 67, 68, 69, 70, 71, 72, 73, 11, 74, 38, 75, 76, 92, 93, 94, 95, 79, 80, 81, 82, 83, 84, 85, 86, 87, 88, 89, 90, 91, 96, 97, 98, 99] (by decide +kernel) (by decide +kernel)
set_option maxRecDepth 20000 in
theorem gX0_numberOfNew_X5_numberIf : GoodIn wsX0_numberOfNew (wsV RX0 47 RX5 yX5_numberIf wsX5_numberIf) := goodIn_app (goodIn_of _ (by decide +kernel)) ggX0_numberOfNew_X5_numberIf
theorem dX0_numberOfNew_0 : decode cX0_numberOfNew 0 = .ok (.aload_n 0, 1) := by decide +kernel
theorem dX0_numberOfNew_1 : decode cX0_numberOfNew 1 = .ok (.getfield 15, 3) := by decide +kernel
theorem dX0_numberOfNew_4 : decode cX0_numberOfNew 4 = .ok (.invokevirtual 19, 3) := by decide +kernel
theorem dX0_numberOfNew_7 : decode cX0_numberOfNew 7 = .ok (.aload_n 0, 1) := by decide +kernel
theorem dX0_numberOfNew_8 : decode cX0_numberOfNew 8 = .ok (.getfield 15, 3) := by decide +kernel
theorem dX0_numberOfNew_11 : decode cX0_numberOfNew 11 = .ok (.iload_n 1, 1) := by decide +kernel
theorem dX0_numberOfNew_12 : decode cX0_numberOfNew 12 = .ok (.iload_n 1, 1) := by decide +kernel
theorem dX0_numberOfNew_13 : decode cX0_numberOfNew 13 = .ok (.aload_n 0, 1) := by decide +kernel
theorem dX0_numberOfNew_14 : decode cX0_numberOfNew 14 = .ok (.getfield 9, 3) := by decide +kernel
theorem dX0_numberOfNew_17 : decode cX0_numberOfNew 17 = .ok (.getfield 43, 3) := by decide +kernel
theorem dX0_numberOfNew_20 : decode cX0_numberOfNew 20 = .ok (.iload_n 1, 1) := by decide +kernel
theorem dX0_numberOfNew_21 : decode cX0_numberOfNew 21 = .ok (.iaload, 1) := by decide +kernel
theorem dX0_numberOfNew_22 : decode cX0_numberOfNew 22 = .ok (.iload_n 2, 1) := by decide +kernel
theorem dX0_numberOfNew_23 : decode cX0_numberOfNew 23 = .ok (.iadd, 1) := by decide +kernel
theorem dX0_numberOfNew_24 : decode cX0_numberOfNew 24 = .ok (.invokevirtual 47, 3) := by decide +kernel
theorem dX0_numberOfNew_27 : decode cX0_numberOfNew 27 = .ok (.ireturn, 1) := by decide +kernel
set_option maxRecDepth 20000 in
theorem ggX0_changedByNew_X5_countAll : GoodIn wsX0_changedByNew wsX5_countAll := goodIn_r _ [13, 14, 15, 16, 17, 18, 19, 12, 20, 21, 22, 23, 24, 25, 26, 27, 28, 29, 30, 31, 32, 33, 34, 35, 36, 37, 38, 39, 40, 41, 42, 43, 44, 45, 46, 47, 48, 49, 50, 51, 52, 53, 54, 55, 56, 57, 58, 59, 60, 61, 62, 63, 64, 65, 66, 67, 68, 69, 70, 71, 72, 73, 74, 75, 76, 77, 78, 79, 80, 81, 82, 83, 84, 85, 86, 91, 92, 93, 94, 95, 96, 97, 98, 99, 100, 101, 102, 103, 104, 105, 106, 107, 108, 109, 110, 111, 112, 113] (by decide +kernel) (by decide +kernel)
set_option maxRecDepth 20000 in
theorem gX0_changedByNew_X5_countAll : GoodIn wsX0_changedByNew (wsV RX0 83 RX5 yX5_countAll wsX5_countAll) := goodIn_app (goodIn_of _ (by decide +kernel)) ggX0_changedByNew_X5_countAll
set_option maxRecDepth 20000 in
theorem ggX0_changedByNew_X5_numberOf : GoodIn wsX0_changedByNew wsX5_numberOf := goodIn_r _ [65, 14, 66, 67, 68, 69, 70, 12, 71, 15, 72, 73, 74, 75, 76, 77, 78, 79, 80, 81, 82, 83, 22, 24, 84, 49, 85, 86, 91, 92, 93, 94, 95, 96, 97, 98, 99, 100, 101, 102, 103, 104, 105, 106, 107, 108, 109, 110, 111] (by decide +kernel) (by decide +kernel)
set_option maxRecDepth 20000 in
theorem gX0_changedByNew_X5_numberOf : GoodIn wsX0_changedByNew (wsV RX0 80 RX5 yX5_numberOf wsX5_numberOf) := goodIn_app (goodIn_of _ (by decide +kernel)) ggX0_changedByNew_X5_numberOf
set_option maxRecDepth 20000 in
theorem ggX0_changedByNew_X5_isClear : GoodIn wsX0_changedByNew wsX5_isClear := goodIn_r _ [75, 14, 76, 77, 78, 79, 80, 81, 82, 83, 22, 24, 84, 49, 85, 86, 91, 92, 93, 94, 95, 96, 97, 98, 99, 100, 101, 102, 103, 104, 105, 106, 107] (by decide +kernel) (by decide +kernel)
set_option maxRecDepth 20000 in
theorem gX0_changedByNew_X5_isClear : GoodIn wsX0_changedByNew (wsV RX0 92 RX5 yX5_isClear wsX5_isClear) := goodIn_app (goodIn_of _ (by decide +kernel)) ggX0_changedByNew_X5_isClear
theorem dX0_changedByNew_0 : decode cX0_changedByNew 0 = .ok (.aload_n 0, 1) := by decide +kernel
theorem dX0_changedByNew_1 : decode cX0_changedByNew 1 = .ok (.getfield 15, 3) := by decide +kernel
theorem dX0_changedByNew_4 : decode cX0_changedByNew 4 = .ok (.invokevirtual 83, 3) := by decide +kernel
theorem dX0_changedByNew_7 : decode cX0_changedByNew 7 = .ok (.aload_n 0, 1) := by decide +kernel
theorem dX0_changedByNew_8 : decode cX0_changedByNew 8 = .ok (.getfield 15, 3) := by decide +kernel
theorem dX0_changedByNew_11 : decode cX0_changedByNew 11 = .ok (.getfield 86, 3) := by decide +kernel
theorem dX0_changedByNew_14 : decode cX0_changedByNew 14 = .ok (.iload_n 1, 1) := by decide +kernel
theorem dX0_changedByNew_15 : decode cX0_changedByNew 15 = .ok (.aload_n 0, 1) := by decide +kernel
theorem dX0_changedByNew_16 : decode cX0_changedByNew 16 = .ok (.getfield 9, 3) := by decide +kernel
theorem dX0_changedByNew_19 : decode cX0_changedByNew 19 = .ok (.getfield 43, 3) := by decide +kernel
theorem dX0_changedByNew_22 : decode cX0_changedByNew 22 = .ok (.iload_n 1, 1) := by decide +kernel
theorem dX0_changedByNew_23 : decode cX0_changedByNew 23 = .ok (.iaload, 1) := by decide +kernel
theorem dX0_changedByNew_24 : decode cX0_changedByNew 24 = .ok (.iload_n 2, 1) := by decide +kernel
theorem dX0_changedByNew_25 : decode cX0_changedByNew 25 = .ok (.iadd, 1) := by decide +kernel
theorem dX0_changedByNew_26 : decode cX0_changedByNew 26 = .ok (.iastore, 1) := by decide +kernel
theorem dX0_changedByNew_27 : decode cX0_changedByNew 27 = .ok (.iconst 0, 1) := by decide +kernel
theorem dX0_changedByNew_28 : decode cX0_changedByNew 28 = .ok (.istore_n 3, 1) := by decide +kernel
theorem dX0_changedByNew_29 : decode cX0_changedByNew 29 = .ok (.iconst 0, 1) := by decide +kernel
theorem dX0_changedByNew_30 : decode cX0_changedByNew 30 = .ok (.istore 4, 2) := by decide +kernel
theorem dX0_changedByNew_32 : decode cX0_changedByNew 32 = .ok (.iload 4, 2) := by decide +kernel
theorem dX0_changedByNew_34 : decode cX0_changedByNew 34 = .ok (.aload_n 0, 1) := by decide +kernel
theorem dX0_changedByNew_35 : decode cX0_changedByNew 35 = .ok (.getfield 9, 3) := by decide +kernel
theorem dX0_changedByNew_38 : decode cX0_changedByNew 38 = .ok (.getfield 89, 3) := by decide +kernel
theorem dX0_changedByNew_41 : decode cX0_changedByNew 41 = .ok (.if_icmp .ge 69, 3) := by decide +kernel
theorem dX0_changedByNew_44 : decode cX0_changedByNew 44 = .ok (.aload_n 0, 1) := by decide +kernel
theorem dX0_changedByNew_45 : decode cX0_changedByNew 45 = .ok (.getfield 15, 3) := by decide +kernel
theorem dX0_changedByNew_48 : decode cX0_changedByNew 48 = .ok (.iload 4, 2) := by decide +kernel
theorem dX0_changedByNew_50 : decode cX0_changedByNew 50 = .ok (.invokevirtual 80, 3) := by decide +kernel
theorem dX0_changedByNew_53 : decode cX0_changedByNew 53 = .ok (.istore 5, 2) := by decide +kernel
theorem dX0_changedByNew_55 : decode cX0_changedByNew 55 = .ok (.aload_n 0, 1) := by decide +kernel
theorem dX0_changedByNew_56 : decode cX0_changedByNew 56 = .ok (.getfield 15, 3) := by decide +kernel
theorem dX0_changedByNew_59 : decode cX0_changedByNew 59 = .ok (.aload_n 0, 1) := by decide +kernel
theorem dX0_changedByNew_60 : decode cX0_changedByNew 60 = .ok (.getfield 9, 3) := by decide +kernel
theorem dX0_changedByNew_63 : decode cX0_changedByNew 63 = .ok (.getfield 24, 3) := by decide +kernel
theorem dX0_changedByNew_66 : decode cX0_changedByNew 66 = .ok (.iload 4, 2) := by decide +kernel
theorem dX0_changedByNew_68 : decode cX0_changedByNew 68 = .ok (.aaload, 1) := by decide +kernel
theorem dX0_changedByNew_69 : decode cX0_changedByNew 69 = .ok (.getfield 30, 3) := by decide +kernel
theorem dX0_changedByNew_72 : decode cX0_changedByNew 72 = .ok (.iload_n 1, 1) := by decide +kernel
theorem dX0_changedByNew_73 : decode cX0_changedByNew 73 = .ok (.invokevirtual 92, 3) := by decide +kernel
theorem dX0_changedByNew_76 : decode cX0_changedByNew 76 = .ok (.ifCond .eq 6, 3) := by decide +kernel
theorem dX0_changedByNew_79 : decode cX0_changedByNew 79 = .ok (.iinc 5 1, 3) := by decide +kernel
theorem dX0_changedByNew_82 : decode cX0_changedByNew 82 = .ok (.iload 5, 2) := by decide +kernel
theorem dX0_changedByNew_84 : decode cX0_changedByNew 84 = .ok (.aload_n 0, 1) := by decide +kernel
theorem dX0_changedByNew_85 : decode cX0_changedByNew 85 = .ok (.getfield 15, 3) := by decide +kernel
theorem dX0_changedByNew_88 : decode cX0_changedByNew 88 = .ok (.getfield 96, 3) := by decide +kernel
theorem dX0_changedByNew_91 : decode cX0_changedByNew 91 = .ok (.iload 4, 2) := by decide +kernel
theorem dX0_changedByNew_93 : decode cX0_changedByNew 93 = .ok (.iaload, 1) := by decide +kernel
theorem dX0_changedByNew_94 : decode cX0_changedByNew 94 = .ok (.if_icmp .eq 10, 3) := by decide +kernel
theorem dX0_changedByNew_97 : decode cX0_changedByNew 97 = .ok (.iload_n 3, 1) := by decide +kernel
theorem dX0_changedByNew_98 : decode cX0_changedByNew 98 = .ok (.iconst 1, 1) := by decide +kernel
theorem dX0_changedByNew_99 : decode cX0_changedByNew 99 = .ok (.iload 4, 2) := by decide +kernel
theorem dX0_changedByNew_101 : decode cX0_changedByNew 101 = .ok (.ishl, 1) := by decide +kernel
theorem dX0_changedByNew_102 : decode cX0_changedByNew 102 = .ok (.ior, 1) := by decide +kernel
theorem dX0_changedByNew_103 : decode cX0_changedByNew 103 = .ok (.istore_n 3, 1) := by decide +kernel
theorem dX0_changedByNew_104 : decode cX0_changedByNew 104 = .ok (.iinc 4 1, 3) := by decide +kernel
theorem dX0_changedByNew_107 : decode cX0_changedByNew 107 = .ok (.goto (-75), 3) := by decide +kernel
theorem dX0_changedByNew_110 : decode cX0_changedByNew 110 = .ok (.iload_n 3, 1) := by decide +kernel
theorem dX0_changedByNew_111 : decode cX0_changedByNew 111 = .ok (.ireturn, 1) := by decide +kernel
set_option maxRecDepth 20000 in
theorem ggX0_cellsForNew_X5_lookNow : GoodIn wsX0_cellsForNew wsX5_lookNow := goodIn_r _ [9, 10, 11, 12, 13, 14, 15, 16, 17, 18, 19, 20, 21, 22, 23, 24, 25, 26, 27, 28, 29, 30, 31, 32, 33, 34, 35, 36, 37, 38, 39, 40, 41, 42, 43, 44, 45, 46, 47, 48, 49, 50, 51, 101, 102, 103, 104, 88, 89, 90, 91, 92, 93, 94, 95, 96, 97, 98, 99, 100, 105, 106, 107, 108, 109, 110] (by decide +kernel) (by decide +kernel)
set_option maxRecDepth 20000 in
theorem gX0_cellsForNew_X5_lookNow : GoodIn wsX0_cellsForNew (wsV RX0 19 RX5 yX5_lookNow wsX5_lookNow) := goodIn_app (goodIn_of _ (by decide +kernel)) ggX0_cellsForNew_X5_lookNow
set_option maxRecDepth 20000 in
theorem ggX0_cellsForNew_X2_canTakeNew : GoodIn wsX0_cellsForNew wsX2_canTakeNew := goodIn_r _ [55, 31, 56, 57, 58, 18, 59, 25, 88, 89, 90, 91, 92, 93, 94, 95, 96, 97, 98, 99, 100] (by decide +kernel) (by decide +kernel)
set_option maxRecDepth 20000 in
theorem gX0_cellsForNew_X2_canTakeNew : GoodIn wsX0_cellsForNew (wsV RX0 99 RX2 yX2_canTakeNew wsX2_canTakeNew) := goodIn_app (goodIn_of _ (by decide +kernel)) ggX0_cellsForNew_X2_canTakeNew
set_option maxRecDepth 20000 in
theorem ggX0_cellsForNew_X5_numberIf : GoodIn wsX0_cellsForNew wsX5_numberIf := goodIn_r _ [63, 14, 64, 65, 66, 8, 67, 10, 68, 69, 70, 71, 72, 73, 74, 75, 76, 77, 78, 79, 80, 81, 82, 12, 83, 39, 84, 85, 101, 102, 103, 104, 88, 89, 90, 91, 92, 93, 94, 95, 96, 97, 98, 99, 100, 105, 106, 107, 108] (by decide +kernel) (by decide +kernel)
set_option maxRecDepth 20000 in
theorem gX0_cellsForNew_X5_numberIf : GoodIn wsX0_cellsForNew (wsV RX0 47 RX5 yX5_numberIf wsX5_numberIf) := goodIn_app (goodIn_of _ (by decide +kernel)) ggX0_cellsForNew_X5_numberIf
theorem dX0_cellsForNew_0 : decode cX0_cellsForNew 0 = .ok (.aload_n 0, 1) := by decide +kernel
theorem dX0_cellsForNew_1 : decode cX0_cellsForNew 1 = .ok (.getfield 15, 3) := by decide +kernel
theorem dX0_cellsForNew_4 : decode cX0_cellsForNew 4 = .ok (.invokevirtual 19, 3) := by decide +kernel
theorem dX0_cellsForNew_7 : decode cX0_cellsForNew 7 = .ok (.lconst 0, 1) := by decide +kernel
theorem dX0_cellsForNew_8 : decode cX0_cellsForNew 8 = .ok (.lstore_n 3, 1) := by decide +kernel
theorem dX0_cellsForNew_9 : decode cX0_cellsForNew 9 = .ok (.iconst 0, 1) := by decide +kernel
theorem dX0_cellsForNew_10 : decode cX0_cellsForNew 10 = .ok (.istore 5, 2) := by decide +kernel
theorem dX0_cellsForNew_12 : decode cX0_cellsForNew 12 = .ok (.iload 5, 2) := by decide +kernel
theorem dX0_cellsForNew_14 : decode cX0_cellsForNew 14 = .ok (.aload_n 0, 1) := by decide +kernel
theorem dX0_cellsForNew_15 : decode cX0_cellsForNew 15 = .ok (.getfield 9, 3) := by decide +kernel
theorem dX0_cellsForNew_18 : decode cX0_cellsForNew 18 = .ok (.getfield 36, 3) := by decide +kernel
theorem dX0_cellsForNew_21 : decode cX0_cellsForNew 21 = .ok (.if_icmp .ge 55, 3) := by decide +kernel
theorem dX0_cellsForNew_24 : decode cX0_cellsForNew 24 = .ok (.aload_n 0, 1) := by decide +kernel
theorem dX0_cellsForNew_25 : decode cX0_cellsForNew 25 = .ok (.getfield 9, 3) := by decide +kernel
theorem dX0_cellsForNew_28 : decode cX0_cellsForNew 28 = .ok (.iload 5, 2) := by decide +kernel
theorem dX0_cellsForNew_30 : decode cX0_cellsForNew 30 = .ok (.invokevirtual 99, 3) := by decide +kernel
theorem dX0_cellsForNew_33 : decode cX0_cellsForNew 33 = .ok (.ifCond .eq 37, 3) := by decide +kernel
theorem dX0_cellsForNew_36 : decode cX0_cellsForNew 36 = .ok (.aload_n 0, 1) := by decide +kernel
theorem dX0_cellsForNew_37 : decode cX0_cellsForNew 37 = .ok (.getfield 15, 3) := by decide +kernel
theorem dX0_cellsForNew_40 : decode cX0_cellsForNew 40 = .ok (.iload 5, 2) := by decide +kernel
theorem dX0_cellsForNew_42 : decode cX0_cellsForNew 42 = .ok (.iload 5, 2) := by decide +kernel
theorem dX0_cellsForNew_44 : decode cX0_cellsForNew 44 = .ok (.aload_n 0, 1) := by decide +kernel
theorem dX0_cellsForNew_45 : decode cX0_cellsForNew 45 = .ok (.getfield 9, 3) := by decide +kernel
theorem dX0_cellsForNew_48 : decode cX0_cellsForNew 48 = .ok (.getfield 43, 3) := by decide +kernel
theorem dX0_cellsForNew_51 : decode cX0_cellsForNew 51 = .ok (.iload 5, 2) := by decide +kernel
theorem dX0_cellsForNew_53 : decode cX0_cellsForNew 53 = .ok (.iaload, 1) := by decide +kernel
theorem dX0_cellsForNew_54 : decode cX0_cellsForNew 54 = .ok (.iload_n 1, 1) := by decide +kernel
theorem dX0_cellsForNew_55 : decode cX0_cellsForNew 55 = .ok (.iadd, 1) := by decide +kernel
theorem dX0_cellsForNew_56 : decode cX0_cellsForNew 56 = .ok (.invokevirtual 47, 3) := by decide +kernel
theorem dX0_cellsForNew_59 : decode cX0_cellsForNew 59 = .ok (.iload_n 2, 1) := by decide +kernel
theorem dX0_cellsForNew_60 : decode cX0_cellsForNew 60 = .ok (.if_icmp .ne 10, 3) := by decide +kernel
theorem dX0_cellsForNew_63 : decode cX0_cellsForNew 63 = .ok (.lload_n 3, 1) := by decide +kernel
theorem dX0_cellsForNew_64 : decode cX0_cellsForNew 64 = .ok (.lconst 1, 1) := by decide +kernel
theorem dX0_cellsForNew_65 : decode cX0_cellsForNew 65 = .ok (.iload 5, 2) := by decide +kernel
theorem dX0_cellsForNew_67 : decode cX0_cellsForNew 67 = .ok (.lshl, 1) := by decide +kernel
theorem dX0_cellsForNew_68 : decode cX0_cellsForNew 68 = .ok (.lor, 1) := by decide +kernel
theorem dX0_cellsForNew_69 : decode cX0_cellsForNew 69 = .ok (.lstore_n 3, 1) := by decide +kernel
theorem dX0_cellsForNew_70 : decode cX0_cellsForNew 70 = .ok (.iinc 5 1, 3) := by decide +kernel
theorem dX0_cellsForNew_73 : decode cX0_cellsForNew 73 = .ok (.goto (-61), 3) := by decide +kernel
theorem dX0_cellsForNew_76 : decode cX0_cellsForNew 76 = .ok (.lload_n 3, 1) := by decide +kernel
theorem dX0_cellsForNew_77 : decode cX0_cellsForNew 77 = .ok (.lreturn, 1) := by decide +kernel
set_option maxRecDepth 20000 in
theorem ggX0_yearOfChange_X5_lookNow : GoodIn wsX0_yearOfChange wsX5_lookNow := goodIn_r _ [9, 10, 11, 12, 13, 14, 15, 16, 17, 18, 19, 20, 21, 22, 23, 24, 25, 26, 27, 28, 29, 30, 31, 32, 33, 34, 35, 36, 37, 38, 39, 40, 41, 42, 43, 44, 45, 46, 47, 48, 49, 50, 51, 102, 103, 104, 105, 89, 90, 91, 92, 93, 94, 95, 96, 97, 98, 99, 100, 101, 106, 107, 108, 109, 110, 111] (by decide +kernel) (by decide +kernel)
set_option maxRecDepth 20000 in
theorem gX0_yearOfChange_X5_lookNow : GoodIn wsX0_yearOfChange (wsV RX0 19 RX5 yX5_lookNow wsX5_lookNow) := goodIn_app (goodIn_of _ (by decide +kernel)) ggX0_yearOfChange_X5_lookNow
set_option maxRecDepth 20000 in
theorem ggX0_yearOfChange_X5_numberOf : GoodIn wsX0_yearOfChange wsX5_numberOf := goodIn_r _ [55, 10, 56, 57, 58, 59, 60, 8, 61, 62, 63, 64, 65, 66, 67, 68, 69, 70, 71, 72, 73, 74, 12, 14, 75, 39, 76, 77, 102, 103, 104, 105, 89, 90, 91, 92, 93, 94, 95, 96, 97, 98, 99, 100, 101, 106, 107, 108, 109] (by decide +kernel) (by decide +kernel)
set_option maxRecDepth 20000 in
theorem gX0_yearOfChange_X5_numberOf : GoodIn wsX0_yearOfChange (wsV RX0 80 RX5 yX5_numberOf wsX5_numberOf) := goodIn_app (goodIn_of _ (by decide +kernel)) ggX0_yearOfChange_X5_numberOf
set_option maxRecDepth 20000 in
theorem ggX0_yearOfChange_X5_lookWithTrees : GoodIn wsX0_yearOfChange wsX5_lookWithTrees := goodIn_r _ [81, 10, 82, 83, 84, 14, 85, 86, 33, 34, 18, 35, 36, 37, 38, 39, 40, 102, 103, 104, 105, 89, 90, 91, 92, 93, 94, 95, 96, 97, 98, 99, 100, 101, 110, 111] (by decide +kernel) (by decide +kernel)
set_option maxRecDepth 20000 in
theorem gX0_yearOfChange_X5_lookWithTrees : GoodIn wsX0_yearOfChange (wsV RX0 76 RX5 yX5_lookWithTrees wsX5_lookWithTrees) := goodIn_app (goodIn_of _ (by decide +kernel)) ggX0_yearOfChange_X5_lookWithTrees
theorem dX0_yearOfChange_0 : decode cX0_yearOfChange 0 = .ok (.aload_n 0, 1) := by decide +kernel
theorem dX0_yearOfChange_1 : decode cX0_yearOfChange 1 = .ok (.getfield 15, 3) := by decide +kernel
theorem dX0_yearOfChange_4 : decode cX0_yearOfChange 4 = .ok (.invokevirtual 19, 3) := by decide +kernel
theorem dX0_yearOfChange_7 : decode cX0_yearOfChange 7 = .ok (.aload_n 0, 1) := by decide +kernel
theorem dX0_yearOfChange_8 : decode cX0_yearOfChange 8 = .ok (.getfield 15, 3) := by decide +kernel
theorem dX0_yearOfChange_11 : decode cX0_yearOfChange 11 = .ok (.iload_n 1, 1) := by decide +kernel
theorem dX0_yearOfChange_12 : decode cX0_yearOfChange 12 = .ok (.invokevirtual 80, 3) := by decide +kernel
theorem dX0_yearOfChange_15 : decode cX0_yearOfChange 15 = .ok (.istore_n 2, 1) := by decide +kernel
theorem dX0_yearOfChange_16 : decode cX0_yearOfChange 16 = .ok (.aload_n 0, 1) := by decide +kernel
theorem dX0_yearOfChange_17 : decode cX0_yearOfChange 17 = .ok (.getfield 9, 3) := by decide +kernel
theorem dX0_yearOfChange_20 : decode cX0_yearOfChange 20 = .ok (.getfield 73, 3) := by decide +kernel
theorem dX0_yearOfChange_23 : decode cX0_yearOfChange 23 = .ok (.iconst 1, 1) := by decide +kernel
theorem dX0_yearOfChange_24 : decode cX0_yearOfChange 24 = .ok (.iadd, 1) := by decide +kernel
theorem dX0_yearOfChange_25 : decode cX0_yearOfChange 25 = .ok (.istore_n 3, 1) := by decide +kernel
theorem dX0_yearOfChange_26 : decode cX0_yearOfChange 26 = .ok (.iload_n 3, 1) := by decide +kernel
theorem dX0_yearOfChange_27 : decode cX0_yearOfChange 27 = .ok (.bipush 30, 2) := by decide +kernel
theorem dX0_yearOfChange_29 : decode cX0_yearOfChange 29 = .ok (.if_icmp .gt 38, 3) := by decide +kernel
theorem dX0_yearOfChange_32 : decode cX0_yearOfChange 32 = .ok (.aload_n 0, 1) := by decide +kernel
theorem dX0_yearOfChange_33 : decode cX0_yearOfChange 33 = .ok (.getfield 15, 3) := by decide +kernel
theorem dX0_yearOfChange_36 : decode cX0_yearOfChange 36 = .ok (.iload_n 3, 1) := by decide +kernel
theorem dX0_yearOfChange_37 : decode cX0_yearOfChange 37 = .ok (.aload_n 0, 1) := by decide +kernel
theorem dX0_yearOfChange_38 : decode cX0_yearOfChange 38 = .ok (.getfield 9, 3) := by decide +kernel
theorem dX0_yearOfChange_41 : decode cX0_yearOfChange 41 = .ok (.getfield 67, 3) := by decide +kernel
theorem dX0_yearOfChange_44 : decode cX0_yearOfChange 44 = .ok (.invokevirtual 76, 3) := by decide +kernel
theorem dX0_yearOfChange_47 : decode cX0_yearOfChange 47 = .ok (.aload_n 0, 1) := by decide +kernel
theorem dX0_yearOfChange_48 : decode cX0_yearOfChange 48 = .ok (.getfield 15, 3) := by decide +kernel
theorem dX0_yearOfChange_51 : decode cX0_yearOfChange 51 = .ok (.iload_n 1, 1) := by decide +kernel
theorem dX0_yearOfChange_52 : decode cX0_yearOfChange 52 = .ok (.invokevirtual 80, 3) := by decide +kernel
theorem dX0_yearOfChange_55 : decode cX0_yearOfChange 55 = .ok (.iload_n 2, 1) := by decide +kernel
theorem dX0_yearOfChange_56 : decode cX0_yearOfChange 56 = .ok (.if_icmp .eq 5, 3) := by decide +kernel
theorem dX0_yearOfChange_59 : decode cX0_yearOfChange 59 = .ok (.iload_n 3, 1) := by decide +kernel
theorem dX0_yearOfChange_60 : decode cX0_yearOfChange 60 = .ok (.ireturn, 1) := by decide +kernel
theorem dX0_yearOfChange_61 : decode cX0_yearOfChange 61 = .ok (.iinc 3 1, 3) := by decide +kernel
theorem dX0_yearOfChange_64 : decode cX0_yearOfChange 64 = .ok (.goto (-38), 3) := by decide +kernel
theorem dX0_yearOfChange_67 : decode cX0_yearOfChange 67 = .ok (.bipush (-9), 2) := by decide +kernel
theorem dX0_yearOfChange_69 : decode cX0_yearOfChange 69 = .ok (.ireturn, 1) := by decide +kernel
theorem dX1_init_0 : decode cX1_init 0 = .ok (.aload_n 0, 1) := by decide +kernel
theorem dX1_init_1 : decode cX1_init 1 = .ok (.invokespecial 3, 3) := by decide +kernel
theorem dX1_init_4 : decode cX1_init 4 = .ok (.return_, 1) := by decide +kernel
theorem dX1_isA_0 : decode cX1_isA 0 = .ok (.aload_n 0, 1) := by decide +kernel
theorem dX1_isA_1 : decode cX1_isA 1 = .ok (.getfield 9, 3) := by decide +kernel
theorem dX1_isA_4 : decode cX1_isA 4 = .ok (.iload_n 1, 1) := by decide +kernel
theorem dX1_isA_5 : decode cX1_isA 5 = .ok (.if_icmp .lt 7, 3) := by decide +kernel
theorem dX1_isA_8 : decode cX1_isA 8 = .ok (.iconst 1, 1) := by decide +kernel
theorem dX1_isA_9 : decode cX1_isA 9 = .ok (.goto 4, 3) := by decide +kernel
theorem dX1_isA_12 : decode cX1_isA 12 = .ok (.iconst 0, 1) := by decide +kernel
theorem dX1_isA_13 : decode cX1_isA 13 = .ok (.ireturn, 1) := by decide +kernel
set_option maxRecDepth 20000 in
theorem ggX1_tallWith_X1_isA : GoodIn wsX1_tallWith wsX1_isA := goodIn_r _ [6, 7, 8, 9, 10, 11] (by decide +kernel) (by decide +kernel)
set_option maxRecDepth 20000 in
theorem gX1_tallWith_X1_isA : GoodIn wsX1_tallWith (wsV RX1 18 RX1 yX1_isA wsX1_isA) := goodIn_app (goodIn_of _ (by decide +kernel)) ggX1_tallWith_X1_isA
theorem dX1_tallWith_0 : decode cX1_tallWith 0 = .ok (.aload_n 0, 1) := by decide +kernel
theorem dX1_tallWith_1 : decode cX1_tallWith 1 = .ok (.getfield 15, 3) := by decide +kernel
theorem dX1_tallWith_4 : decode cX1_tallWith 4 = .ok (.iload_n 1, 1) := by decide +kernel
theorem dX1_tallWith_5 : decode cX1_tallWith 5 = .ok (.iadd, 1) := by decide +kernel
theorem dX1_tallWith_6 : decode cX1_tallWith 6 = .ok (.istore_n 3, 1) := by decide +kernel
theorem dX1_tallWith_7 : decode cX1_tallWith 7 = .ok (.aload_n 0, 1) := by decide +kernel
theorem dX1_tallWith_8 : decode cX1_tallWith 8 = .ok (.iconst 1, 1) := by decide +kernel
theorem dX1_tallWith_9 : decode cX1_tallWith 9 = .ok (.invokevirtual 18, 3) := by decide +kernel
theorem dX1_tallWith_12 : decode cX1_tallWith 12 = .ok (.ifCond .eq 7, 3) := by decide +kernel
theorem dX1_tallWith_15 : decode cX1_tallWith 15 = .ok (.iload_n 3, 1) := by decide +kernel
theorem dX1_tallWith_16 : decode cX1_tallWith 16 = .ok (.iload_n 2, 1) := by decide +kernel
theorem dX1_tallWith_17 : decode cX1_tallWith 17 = .ok (.iadd, 1) := by decide +kernel
theorem dX1_tallWith_18 : decode cX1_tallWith 18 = .ok (.istore_n 3, 1) := by decide +kernel
theorem dX1_tallWith_19 : decode cX1_tallWith 19 = .ok (.aload_n 0, 1) := by decide +kernel
theorem dX1_tallWith_20 : decode cX1_tallWith 20 = .ok (.iconst 2, 1) := by decide +kernel
theorem dX1_tallWith_21 : decode cX1_tallWith 21 = .ok (.invokevirtual 18, 3) := by decide +kernel
theorem dX1_tallWith_24 : decode cX1_tallWith 24 = .ok (.ifCond .eq 9, 3) := by decide +kernel
theorem dX1_tallWith_27 : decode cX1_tallWith 27 = .ok (.iload_n 3, 1) := by decide +kernel
theorem dX1_tallWith_28 : decode cX1_tallWith 28 = .ok (.iconst 3, 1) := by decide +kernel
theorem dX1_tallWith_29 : decode cX1_tallWith 29 = .ok (.iadd, 1) := by decide +kernel
theorem dX1_tallWith_30 : decode cX1_tallWith 30 = .ok (.goto 4, 3) := by decide +kernel
theorem dX1_tallWith_33 : decode cX1_tallWith 33 = .ok (.iload_n 3, 1) := by decide +kernel
theorem dX1_tallWith_34 : decode cX1_tallWith 34 = .ok (.ireturn, 1) := by decide +kernel
set_option maxRecDepth 20000 in
theorem ggX2_init_X1_init : GoodIn wsX2_init wsX1_init := goodIn_r _ [17, 18, 2, 3] (by decide +kernel) (by decide +kernel)
set_option maxRecDepth 20000 in
theorem gX2_init_X1_init_n33 : GoodIn wsX2_init (wsX1_init) := ggX2_init_X1_init
set_option maxRecDepth 20000 in
theorem ggX2_init_X7_init : GoodIn wsX2_init wsX7_init := goodIn_r _ [20, 21, 2, 3] (by decide +kernel) (by decide +kernel)
set_option maxRecDepth 20000 in
theorem gX2_init_X7_init_n34 : GoodIn wsX2_init (wsX7_init) := ggX2_init_X7_init
theorem dX2_init_0 : decode cX2_init 0 = .ok (.aload_n 0, 1) := by decide +kernel
theorem dX2_init_1 : decode cX2_init 1 = .ok (.invokespecial 3, 3) := by decide +kernel
theorem dX2_init_4 : decode cX2_init 4 = .ok (.aload_n 0, 1) := by decide +kernel
theorem dX2_init_5 : decode cX2_init 5 = .ok (.bipush 30, 2) := by decide +kernel
theorem dX2_init_7 : decode cX2_init 7 = .ok (.newarray .int, 2) := by decide +kernel
theorem dX2_init_9 : decode cX2_init 9 = .ok (.putfield 9, 3) := by decide +kernel
theorem dX2_init_12 : decode cX2_init 12 = .ok (.aload_n 0, 1) := by decide +kernel
theorem dX2_init_13 : decode cX2_init 13 = .ok (.bipush 30, 2) := by decide +kernel
theorem dX2_init_15 : decode cX2_init 15 = .ok (.newarray .int, 2) := by decide +kernel
theorem dX2_init_17 : decode cX2_init 17 = .ok (.putfield 15, 3) := by decide +kernel
theorem dX2_init_20 : decode cX2_init 20 = .ok (.aload_n 0, 1) := by decide +kernel
theorem dX2_init_21 : decode cX2_init 21 = .ok (.bipush 30, 2) := by decide +kernel
theorem dX2_init_23 : decode cX2_init 23 = .ok (.newarray .int, 2) := by decide +kernel
theorem dX2_init_25 : decode cX2_init 25 = .ok (.putfield 18, 3) := by decide +kernel
theorem dX2_init_28 : decode cX2_init 28 = .ok (.aload_n 0, 1) := by decide +kernel
theorem dX2_init_29 : decode cX2_init 29 = .ok (.bipush 8, 2) := by decide +kernel
theorem dX2_init_31 : decode cX2_init 31 = .ok (.anewarray 21, 3) := by decide +kernel
theorem dX2_init_34 : decode cX2_init 34 = .ok (.putfield 23, 3) := by decide +kernel
theorem dX2_init_37 : decode cX2_init 37 = .ok (.aload_n 0, 1) := by decide +kernel
theorem dX2_init_38 : decode cX2_init 38 = .ok (.bipush 8, 2) := by decide +kernel
theorem dX2_init_40 : decode cX2_init 40 = .ok (.anewarray 27, 3) := by decide +kernel
theorem dX2_init_43 : decode cX2_init 43 = .ok (.putfield 29, 3) := by decide +kernel
theorem dX2_init_46 : decode cX2_init 46 = .ok (.iconst 0, 1) := by decide +kernel
theorem dX2_init_47 : decode cX2_init 47 = .ok (.istore_n 1, 1) := by decide +kernel
theorem dX2_init_48 : decode cX2_init 48 = .ok (.iload_n 1, 1) := by decide +kernel
theorem dX2_init_49 : decode cX2_init 49 = .ok (.bipush 8, 2) := by decide +kernel
theorem dX2_init_51 : decode cX2_init 51 = .ok (.if_icmp .ge 22, 3) := by decide +kernel
theorem dX2_init_54 : decode cX2_init 54 = .ok (.aload_n 0, 1) := by decide +kernel
theorem dX2_init_55 : decode cX2_init 55 = .ok (.getfield 23, 3) := by decide +kernel
theorem dX2_init_58 : decode cX2_init 58 = .ok (.iload_n 1, 1) := by decide +kernel
theorem dX2_init_59 : decode cX2_init 59 = .ok (.new 21, 3) := by decide +kernel
theorem dX2_init_62 : decode cX2_init 62 = .ok (.dup, 1) := by decide +kernel
theorem dX2_init_63 : decode cX2_init 63 = .ok (.invokespecial 33, 3) := by decide +kernel
theorem dX2_init_66 : decode cX2_init 66 = .ok (.aastore, 1) := by decide +kernel
theorem dX2_init_67 : decode cX2_init 67 = .ok (.iinc 1 1, 3) := by decide +kernel
theorem dX2_init_70 : decode cX2_init 70 = .ok (.goto (-22), 3) := by decide +kernel
theorem dX2_init_73 : decode cX2_init 73 = .ok (.iconst 0, 1) := by decide +kernel
theorem dX2_init_74 : decode cX2_init 74 = .ok (.istore_n 1, 1) := by decide +kernel
theorem dX2_init_75 : decode cX2_init 75 = .ok (.iload_n 1, 1) := by decide +kernel
theorem dX2_init_76 : decode cX2_init 76 = .ok (.bipush 8, 2) := by decide +kernel
theorem dX2_init_78 : decode cX2_init 78 = .ok (.if_icmp .ge 22, 3) := by decide +kernel
theorem dX2_init_81 : decode cX2_init 81 = .ok (.aload_n 0, 1) := by decide +kernel
theorem dX2_init_82 : decode cX2_init 82 = .ok (.getfield 29, 3) := by decide +kernel
theorem dX2_init_85 : decode cX2_init 85 = .ok (.iload_n 1, 1) := by decide +kernel
theorem dX2_init_86 : decode cX2_init 86 = .ok (.new 27, 3) := by decide +kernel
theorem dX2_init_89 : decode cX2_init 89 = .ok (.dup, 1) := by decide +kernel
theorem dX2_init_90 : decode cX2_init 90 = .ok (.invokespecial 34, 3) := by decide +kernel
theorem dX2_init_93 : decode cX2_init 93 = .ok (.aastore, 1) := by decide +kernel
theorem dX2_init_94 : decode cX2_init 94 = .ok (.iinc 1 1, 3) := by decide +kernel
theorem dX2_init_97 : decode cX2_init 97 = .ok (.goto (-22), 3) := by decide +kernel
theorem dX2_init_100 : decode cX2_init 100 = .ok (.return_, 1) := by decide +kernel
theorem dX2_isThere_0 : decode cX2_isThere 0 = .ok (.aload_n 0, 1) := by decide +kernel
theorem dX2_isThere_1 : decode cX2_isThere 1 = .ok (.getfield 35, 3) := by decide +kernel
theorem dX2_isThere_4 : decode cX2_isThere 4 = .ok (.ifCond .le 7, 3) := by decide +kernel
theorem dX2_isThere_7 : decode cX2_isThere 7 = .ok (.iconst 1, 1) := by decide +kernel
theorem dX2_isThere_8 : decode cX2_isThere 8 = .ok (.goto 4, 3) := by decide +kernel
theorem dX2_isThere_11 : decode cX2_isThere 11 = .ok (.iconst 0, 1) := by decide +kernel
theorem dX2_isThere_12 : decode cX2_isThere 12 = .ok (.ireturn, 1) := by decide +kernel
set_option maxRecDepth 20000 in
theorem ggX2_hasCell_X8_isWithin : GoodIn wsX2_hasCell wsX8_isWithin := goodIn_r _ [4] (by decide +kernel) (by decide +kernel)
set_option maxRecDepth 20000 in
theorem gX2_hasCell_X8_isWithin_n39 : GoodIn wsX2_hasCell (wsX8_isWithin) := ggX2_hasCell_X8_isWithin
theorem dX2_hasCell_0 : decode cX2_hasCell 0 = .ok (.iload_n 1, 1) := by decide +kernel
theorem dX2_hasCell_1 : decode cX2_hasCell 1 = .ok (.iconst 0, 1) := by decide +kernel
theorem dX2_hasCell_2 : decode cX2_hasCell 2 = .ok (.aload_n 0, 1) := by decide +kernel
theorem dX2_hasCell_3 : decode cX2_hasCell 3 = .ok (.getfield 35, 3) := by decide +kernel
theorem dX2_hasCell_6 : decode cX2_hasCell 6 = .ok (.iconst 1, 1) := by decide +kernel
theorem dX2_hasCell_7 : decode cX2_hasCell 7 = .ok (.isub, 1) := by decide +kernel
theorem dX2_hasCell_8 : decode cX2_hasCell 8 = .ok (.invokestatic 39, 3) := by decide +kernel
theorem dX2_hasCell_11 : decode cX2_hasCell 11 = .ok (.ireturn, 1) := by decide +kernel
set_option maxRecDepth 20000 in
theorem ggX2_hasHouse_X8_isWithin : GoodIn wsX2_hasHouse wsX8_isWithin := goodIn_r _ [4] (by decide +kernel) (by decide +kernel)
set_option maxRecDepth 20000 in
theorem gX2_hasHouse_X8_isWithin_n39 : GoodIn wsX2_hasHouse (wsX8_isWithin) := ggX2_hasHouse_X8_isWithin
theorem dX2_hasHouse_0 : decode cX2_hasHouse 0 = .ok (.iload_n 1, 1) := by decide +kernel
theorem dX2_hasHouse_1 : decode cX2_hasHouse 1 = .ok (.iconst 0, 1) := by decide +kernel
theorem dX2_hasHouse_2 : decode cX2_hasHouse 2 = .ok (.aload_n 0, 1) := by decide +kernel
theorem dX2_hasHouse_3 : decode cX2_hasHouse 3 = .ok (.getfield 43, 3) := by decide +kernel
theorem dX2_hasHouse_6 : decode cX2_hasHouse 6 = .ok (.iconst 1, 1) := by decide +kernel
theorem dX2_hasHouse_7 : decode cX2_hasHouse 7 = .ok (.isub, 1) := by decide +kernel
theorem dX2_hasHouse_8 : decode cX2_hasHouse 8 = .ok (.invokestatic 39, 3) := by decide +kernel
theorem dX2_hasHouse_11 : decode cX2_hasHouse 11 = .ok (.ireturn, 1) := by decide +kernel
set_option maxRecDepth 20000 in
theorem ggX2_hasTree_X8_isWithin : GoodIn wsX2_hasTree wsX8_isWithin := goodIn_r _ [4] (by decide +kernel) (by decide +kernel)
set_option maxRecDepth 20000 in
theorem gX2_hasTree_X8_isWithin_n39 : GoodIn wsX2_hasTree (wsX8_isWithin) := ggX2_hasTree_X8_isWithin
theorem dX2_hasTree_0 : decode cX2_hasTree 0 = .ok (.iload_n 1, 1) := by decide +kernel
theorem dX2_hasTree_1 : decode cX2_hasTree 1 = .ok (.iconst 0, 1) := by decide +kernel
theorem dX2_hasTree_2 : decode cX2_hasTree 2 = .ok (.aload_n 0, 1) := by decide +kernel
theorem dX2_hasTree_3 : decode cX2_hasTree 3 = .ok (.getfield 46, 3) := by decide +kernel
theorem dX2_hasTree_6 : decode cX2_hasTree 6 = .ok (.iconst 1, 1) := by decide +kernel
theorem dX2_hasTree_7 : decode cX2_hasTree 7 = .ok (.isub, 1) := by decide +kernel
theorem dX2_hasTree_8 : decode cX2_hasTree 8 = .ok (.invokestatic 39, 3) := by decide +kernel
theorem dX2_hasTree_11 : decode cX2_hasTree 11 = .ok (.ireturn, 1) := by decide +kernel
theorem dX2_hasNothing_0 : decode cX2_hasNothing 0 = .ok (.aload_n 0, 1) := by decide +kernel
theorem dX2_hasNothing_1 : decode cX2_hasNothing 1 = .ok (.getfield 18, 3) := by decide +kernel
theorem dX2_hasNothing_4 : decode cX2_hasNothing 4 = .ok (.iload_n 1, 1) := by decide +kernel
theorem dX2_hasNothing_5 : decode cX2_hasNothing 5 = .ok (.iaload, 1) := by decide +kernel
theorem dX2_hasNothing_6 : decode cX2_hasNothing 6 = .ok (.ifCond .ne 7, 3) := by decide +kernel
theorem dX2_hasNothing_9 : decode cX2_hasNothing 9 = .ok (.iconst 1, 1) := by decide +kernel
theorem dX2_hasNothing_10 : decode cX2_hasNothing 10 = .ok (.goto 4, 3) := by decide +kernel
theorem dX2_hasNothing_13 : decode cX2_hasNothing 13 = .ok (.iconst 0, 1) := by decide +kernel
theorem dX2_hasNothing_14 : decode cX2_hasNothing 14 = .ok (.ireturn, 1) := by decide +kernel
set_option maxRecDepth 20000 in
theorem ggX2_canTakeNew_X2_hasNothing : GoodIn wsX2_canTakeNew wsX2_hasNothing := goodIn_r _ [6, 7, 8, 9, 10, 11, 12, 13, 14, 15, 16, 17, 18, 19, 20] (by decide +kernel) (by decide +kernel)
set_option maxRecDepth 20000 in
theorem gX2_canTakeNew_X2_hasNothing : GoodIn wsX2_canTakeNew (wsV RX2 49 RX2 yX2_hasNothing wsX2_hasNothing) := goodIn_app (goodIn_of _ (by decide +kernel)) ggX2_canTakeNew_X2_hasNothing
theorem dX2_canTakeNew_0 : decode cX2_canTakeNew 0 = .ok (.aload_n 0, 1) := by decide +kernel
theorem dX2_canTakeNew_1 : decode cX2_canTakeNew 1 = .ok (.iload_n 1, 1) := by decide +kernel
theorem dX2_canTakeNew_2 : decode cX2_canTakeNew 2 = .ok (.invokevirtual 49, 3) := by decide +kernel
theorem dX2_canTakeNew_5 : decode cX2_canTakeNew 5 = .ok (.ifCond .eq 16, 3) := by decide +kernel
theorem dX2_canTakeNew_8 : decode cX2_canTakeNew 8 = .ok (.aload_n 0, 1) := by decide +kernel
theorem dX2_canTakeNew_9 : decode cX2_canTakeNew 9 = .ok (.getfield 15, 3) := by decide +kernel
theorem dX2_canTakeNew_12 : decode cX2_canTakeNew 12 = .ok (.iload_n 1, 1) := by decide +kernel
theorem dX2_canTakeNew_13 : decode cX2_canTakeNew 13 = .ok (.iaload, 1) := by decide +kernel
theorem dX2_canTakeNew_14 : decode cX2_canTakeNew 14 = .ok (.ifCond .ne 7, 3) := by decide +kernel
theorem dX2_canTakeNew_17 : decode cX2_canTakeNew 17 = .ok (.iconst 1, 1) := by decide +kernel
theorem dX2_canTakeNew_18 : decode cX2_canTakeNew 18 = .ok (.goto 4, 3) := by decide +kernel
theorem dX2_canTakeNew_21 : decode cX2_canTakeNew 21 = .ok (.iconst 0, 1) := by decide +kernel
theorem dX2_canTakeNew_22 : decode cX2_canTakeNew 22 = .ok (.ireturn, 1) := by decide +kernel
set_option maxRecDepth 20000 in
theorem ggX2_makeAnew_X2_settle : GoodIn wsX2_makeAnew wsX2_settle := goodIn_r _ [21, 22, 6, 23, 24, 25, 5, 26, 27, 28, 29, 41, 42, 43, 44, 45, 46, 47, 48, 49, 50, 51, 52, 53, 54, 55, 56, 57, 58, 59] (by decide +kernel) (by decide +kernel)
set_option maxRecDepth 20000 in
theorem gX2_makeAnew_X2_settle : GoodIn wsX2_makeAnew (wsV RX2 81 RX2 yX2_settle wsX2_settle) := goodIn_app (goodIn_of _ (by decide +kernel)) ggX2_makeAnew_X2_settle
theorem dX2_makeAnew_0 : decode cX2_makeAnew 0 = .ok (.aload_n 0, 1) := by decide +kernel
theorem dX2_makeAnew_1 : decode cX2_makeAnew 1 = .ok (.aload_n 1, 1) := by decide +kernel
theorem dX2_makeAnew_2 : decode cX2_makeAnew 2 = .ok (.getfield 53, 3) := by decide +kernel
theorem dX2_makeAnew_5 : decode cX2_makeAnew 5 = .ok (.putfield 58, 3) := by decide +kernel
theorem dX2_makeAnew_8 : decode cX2_makeAnew 8 = .ok (.aload_n 0, 1) := by decide +kernel
theorem dX2_makeAnew_9 : decode cX2_makeAnew 9 = .ok (.aload_n 1, 1) := by decide +kernel
theorem dX2_makeAnew_10 : decode cX2_makeAnew 10 = .ok (.getfield 59, 3) := by decide +kernel
theorem dX2_makeAnew_13 : decode cX2_makeAnew 13 = .ok (.aload_n 1, 1) := by decide +kernel
theorem dX2_makeAnew_14 : decode cX2_makeAnew 14 = .ok (.getfield 53, 3) := by decide +kernel
theorem dX2_makeAnew_17 : decode cX2_makeAnew 17 = .ok (.imul, 1) := by decide +kernel
theorem dX2_makeAnew_18 : decode cX2_makeAnew 18 = .ok (.putfield 35, 3) := by decide +kernel
theorem dX2_makeAnew_21 : decode cX2_makeAnew 21 = .ok (.aload_n 0, 1) := by decide +kernel
theorem dX2_makeAnew_22 : decode cX2_makeAnew 22 = .ok (.iconst 0, 1) := by decide +kernel
theorem dX2_makeAnew_23 : decode cX2_makeAnew 23 = .ok (.putfield 43, 3) := by decide +kernel
theorem dX2_makeAnew_26 : decode cX2_makeAnew 26 = .ok (.aload_n 0, 1) := by decide +kernel
theorem dX2_makeAnew_27 : decode cX2_makeAnew 27 = .ok (.iconst 0, 1) := by decide +kernel
theorem dX2_makeAnew_28 : decode cX2_makeAnew 28 = .ok (.putfield 46, 3) := by decide +kernel
theorem dX2_makeAnew_31 : decode cX2_makeAnew 31 = .ok (.aload_n 0, 1) := by decide +kernel
theorem dX2_makeAnew_32 : decode cX2_makeAnew 32 = .ok (.iconst 0, 1) := by decide +kernel
theorem dX2_makeAnew_33 : decode cX2_makeAnew 33 = .ok (.putfield 62, 3) := by decide +kernel
theorem dX2_makeAnew_36 : decode cX2_makeAnew 36 = .ok (.aload_n 0, 1) := by decide +kernel
theorem dX2_makeAnew_37 : decode cX2_makeAnew 37 = .ok (.iconst 0, 1) := by decide +kernel
theorem dX2_makeAnew_38 : decode cX2_makeAnew 38 = .ok (.putfield 65, 3) := by decide +kernel
theorem dX2_makeAnew_41 : decode cX2_makeAnew 41 = .ok (.aload_n 0, 1) := by decide +kernel
theorem dX2_makeAnew_42 : decode cX2_makeAnew 42 = .ok (.bipush 9, 2) := by decide +kernel
theorem dX2_makeAnew_44 : decode cX2_makeAnew 44 = .ok (.putfield 68, 3) := by decide +kernel
theorem dX2_makeAnew_47 : decode cX2_makeAnew 47 = .ok (.aload_n 0, 1) := by decide +kernel
theorem dX2_makeAnew_48 : decode cX2_makeAnew 48 = .ok (.iconst 0, 1) := by decide +kernel
theorem dX2_makeAnew_49 : decode cX2_makeAnew 49 = .ok (.putfield 71, 3) := by decide +kernel
theorem dX2_makeAnew_52 : decode cX2_makeAnew 52 = .ok (.iconst 0, 1) := by decide +kernel
theorem dX2_makeAnew_53 : decode cX2_makeAnew 53 = .ok (.istore_n 2, 1) := by decide +kernel
theorem dX2_makeAnew_54 : decode cX2_makeAnew 54 = .ok (.iload_n 2, 1) := by decide +kernel
theorem dX2_makeAnew_55 : decode cX2_makeAnew 55 = .ok (.aload_n 0, 1) := by decide +kernel
theorem dX2_makeAnew_56 : decode cX2_makeAnew 56 = .ok (.getfield 35, 3) := by decide +kernel
theorem dX2_makeAnew_59 : decode cX2_makeAnew 59 = .ok (.if_icmp .ge 51, 3) := by decide +kernel
theorem dX2_makeAnew_62 : decode cX2_makeAnew 62 = .ok (.aload_n 0, 1) := by decide +kernel
theorem dX2_makeAnew_63 : decode cX2_makeAnew 63 = .ok (.getfield 9, 3) := by decide +kernel
theorem dX2_makeAnew_66 : decode cX2_makeAnew 66 = .ok (.iload_n 2, 1) := by decide +kernel
theorem dX2_makeAnew_67 : decode cX2_makeAnew 67 = .ok (.aload_n 1, 1) := by decide +kernel
theorem dX2_makeAnew_68 : decode cX2_makeAnew 68 = .ok (.getfield 74, 3) := by decide +kernel
theorem dX2_makeAnew_71 : decode cX2_makeAnew 71 = .ok (.iload_n 2, 1) := by decide +kernel
theorem dX2_makeAnew_72 : decode cX2_makeAnew 72 = .ok (.iaload, 1) := by decide +kernel
theorem dX2_makeAnew_73 : decode cX2_makeAnew 73 = .ok (.iastore, 1) := by decide +kernel
theorem dX2_makeAnew_74 : decode cX2_makeAnew 74 = .ok (.aload_n 0, 1) := by decide +kernel
theorem dX2_makeAnew_75 : decode cX2_makeAnew 75 = .ok (.getfield 15, 3) := by decide +kernel
theorem dX2_makeAnew_78 : decode cX2_makeAnew 78 = .ok (.iload_n 2, 1) := by decide +kernel
theorem dX2_makeAnew_79 : decode cX2_makeAnew 79 = .ok (.iconst 0, 1) := by decide +kernel
theorem dX2_makeAnew_80 : decode cX2_makeAnew 80 = .ok (.iastore, 1) := by decide +kernel
theorem dX2_makeAnew_81 : decode cX2_makeAnew 81 = .ok (.aload_n 0, 1) := by decide +kernel
theorem dX2_makeAnew_82 : decode cX2_makeAnew 82 = .ok (.getfield 18, 3) := by decide +kernel
theorem dX2_makeAnew_85 : decode cX2_makeAnew 85 = .ok (.iload_n 2, 1) := by decide +kernel
theorem dX2_makeAnew_86 : decode cX2_makeAnew 86 = .ok (.aload_n 0, 1) := by decide +kernel
theorem dX2_makeAnew_87 : decode cX2_makeAnew 87 = .ok (.iload_n 2, 1) := by decide +kernel
theorem dX2_makeAnew_88 : decode cX2_makeAnew 88 = .ok (.aload_n 1, 1) := by decide +kernel
theorem dX2_makeAnew_89 : decode cX2_makeAnew 89 = .ok (.getfield 75, 3) := by decide +kernel
theorem dX2_makeAnew_92 : decode cX2_makeAnew 92 = .ok (.iload_n 2, 1) := by decide +kernel
theorem dX2_makeAnew_93 : decode cX2_makeAnew 93 = .ok (.iaload, 1) := by decide +kernel
theorem dX2_makeAnew_94 : decode cX2_makeAnew 94 = .ok (.aload_n 1, 1) := by decide +kernel
theorem dX2_makeAnew_95 : decode cX2_makeAnew 95 = .ok (.getfield 78, 3) := by decide +kernel
theorem dX2_makeAnew_98 : decode cX2_makeAnew 98 = .ok (.iload_n 2, 1) := by decide +kernel
theorem dX2_makeAnew_99 : decode cX2_makeAnew 99 = .ok (.iaload, 1) := by decide +kernel
theorem dX2_makeAnew_100 : decode cX2_makeAnew 100 = .ok (.invokevirtual 81, 3) := by decide +kernel
theorem dX2_makeAnew_103 : decode cX2_makeAnew 103 = .ok (.iastore, 1) := by decide +kernel
theorem dX2_makeAnew_104 : decode cX2_makeAnew 104 = .ok (.iinc 2 1, 3) := by decide +kernel
theorem dX2_makeAnew_107 : decode cX2_makeAnew 107 = .ok (.goto (-53), 3) := by decide +kernel
theorem dX2_makeAnew_110 : decode cX2_makeAnew 110 = .ok (.return_, 1) := by decide +kernel
theorem dX2_settle_0 : decode cX2_settle 0 = .ok (.iload_n 2, 1) := by decide +kernel
theorem dX2_settle_1 : decode cX2_settle 1 = .ok (.iconst (-1), 1) := by decide +kernel
theorem dX2_settle_2 : decode cX2_settle 2 = .ok (.if_icmp .ne 5, 3) := by decide +kernel
theorem dX2_settle_5 : decode cX2_settle 5 = .ok (.iconst 0, 1) := by decide +kernel
theorem dX2_settle_6 : decode cX2_settle 6 = .ok (.ireturn, 1) := by decide +kernel
theorem dX2_settle_7 : decode cX2_settle 7 = .ok (.iload_n 2, 1) := by decide +kernel
theorem dX2_settle_8 : decode cX2_settle 8 = .ok (.iconst 3, 1) := by decide +kernel
theorem dX2_settle_9 : decode cX2_settle 9 = .ok (.if_icmp .ne 41, 3) := by decide +kernel
theorem dX2_settle_12 : decode cX2_settle 12 = .ok (.aload_n 0, 1) := by decide +kernel
theorem dX2_settle_13 : decode cX2_settle 13 = .ok (.getfield 29, 3) := by decide +kernel
theorem dX2_settle_16 : decode cX2_settle 16 = .ok (.aload_n 0, 1) := by decide +kernel
theorem dX2_settle_17 : decode cX2_settle 17 = .ok (.getfield 46, 3) := by decide +kernel
theorem dX2_settle_20 : decode cX2_settle 20 = .ok (.aaload, 1) := by decide +kernel
theorem dX2_settle_21 : decode cX2_settle 21 = .ok (.astore 4, 2) := by decide +kernel
theorem dX2_settle_23 : decode cX2_settle 23 = .ok (.aload 4, 2) := by decide +kernel
theorem dX2_settle_25 : decode cX2_settle 25 = .ok (.iload_n 1, 1) := by decide +kernel
theorem dX2_settle_26 : decode cX2_settle 26 = .ok (.putfield 85, 3) := by decide +kernel
theorem dX2_settle_29 : decode cX2_settle 29 = .ok (.aload 4, 2) := by decide +kernel
theorem dX2_settle_31 : decode cX2_settle 31 = .ok (.iload_n 3, 1) := by decide +kernel
theorem dX2_settle_32 : decode cX2_settle 32 = .ok (.putfield 88, 3) := by decide +kernel
theorem dX2_settle_35 : decode cX2_settle 35 = .ok (.bipush 20, 2) := by decide +kernel
theorem dX2_settle_37 : decode cX2_settle 37 = .ok (.aload_n 0, 1) := by decide +kernel
theorem dX2_settle_38 : decode cX2_settle 38 = .ok (.dup, 1) := by decide +kernel
theorem dX2_settle_39 : decode cX2_settle 39 = .ok (.getfield 46, 3) := by decide +kernel
theorem dX2_settle_42 : decode cX2_settle 42 = .ok (.dup_x1, 1) := by decide +kernel
theorem dX2_settle_43 : decode cX2_settle 43 = .ok (.iconst 1, 1) := by decide +kernel
theorem dX2_settle_44 : decode cX2_settle 44 = .ok (.iadd, 1) := by decide +kernel
theorem dX2_settle_45 : decode cX2_settle 45 = .ok (.putfield 46, 3) := by decide +kernel
theorem dX2_settle_48 : decode cX2_settle 48 = .ok (.iadd, 1) := by decide +kernel
theorem dX2_settle_49 : decode cX2_settle 49 = .ok (.ireturn, 1) := by decide +kernel
theorem dX2_settle_50 : decode cX2_settle 50 = .ok (.aload_n 0, 1) := by decide +kernel
theorem dX2_settle_51 : decode cX2_settle 51 = .ok (.getfield 23, 3) := by decide +kernel
theorem dX2_settle_54 : decode cX2_settle 54 = .ok (.aload_n 0, 1) := by decide +kernel
theorem dX2_settle_55 : decode cX2_settle 55 = .ok (.getfield 43, 3) := by decide +kernel
theorem dX2_settle_58 : decode cX2_settle 58 = .ok (.aaload, 1) := by decide +kernel
theorem dX2_settle_59 : decode cX2_settle 59 = .ok (.astore 4, 2) := by decide +kernel
theorem dX2_settle_61 : decode cX2_settle 61 = .ok (.aload 4, 2) := by decide +kernel
theorem dX2_settle_63 : decode cX2_settle 63 = .ok (.iload_n 2, 1) := by decide +kernel
theorem dX2_settle_64 : decode cX2_settle 64 = .ok (.putfield 91, 3) := by decide +kernel
theorem dX2_settle_67 : decode cX2_settle 67 = .ok (.aload 4, 2) := by decide +kernel
theorem dX2_settle_69 : decode cX2_settle 69 = .ok (.iload_n 1, 1) := by decide +kernel
theorem dX2_settle_70 : decode cX2_settle 70 = .ok (.putfield 94, 3) := by decide +kernel
theorem dX2_settle_73 : decode cX2_settle 73 = .ok (.aload 4, 2) := by decide +kernel
theorem dX2_settle_75 : decode cX2_settle 75 = .ok (.iload_n 3, 1) := by decide +kernel
theorem dX2_settle_76 : decode cX2_settle 76 = .ok (.putfield 95, 3) := by decide +kernel
theorem dX2_settle_79 : decode cX2_settle 79 = .ok (.aload 4, 2) := by decide +kernel
theorem dX2_settle_81 : decode cX2_settle 81 = .ok (.iconst 0, 1) := by decide +kernel
theorem dX2_settle_82 : decode cX2_settle 82 = .ok (.putfield 96, 3) := by decide +kernel
theorem dX2_settle_85 : decode cX2_settle 85 = .ok (.bipush 10, 2) := by decide +kernel
theorem dX2_settle_87 : decode cX2_settle 87 = .ok (.aload_n 0, 1) := by decide +kernel
theorem dX2_settle_88 : decode cX2_settle 88 = .ok (.dup, 1) := by decide +kernel
theorem dX2_settle_89 : decode cX2_settle 89 = .ok (.getfield 43, 3) := by decide +kernel
theorem dX2_settle_92 : decode cX2_settle 92 = .ok (.dup_x1, 1) := by decide +kernel
theorem dX2_settle_93 : decode cX2_settle 93 = .ok (.iconst 1, 1) := by decide +kernel
theorem dX2_settle_94 : decode cX2_settle 94 = .ok (.iadd, 1) := by decide +kernel
theorem dX2_settle_95 : decode cX2_settle 95 = .ok (.putfield 43, 3) := by decide +kernel
theorem dX2_settle_98 : decode cX2_settle 98 = .ok (.iadd, 1) := by decide +kernel
theorem dX2_settle_99 : decode cX2_settle 99 = .ok (.ireturn, 1) := by decide +kernel
set_option maxRecDepth 20000 in
theorem ggX2_treeTall_X8_isIn : GoodIn wsX2_treeTall wsX8_isIn := goodIn_r _ [5] (by decide +kernel) (by decide +kernel)
set_option maxRecDepth 20000 in
theorem gX2_treeTall_X8_isIn_n99 : GoodIn wsX2_treeTall (wsX8_isIn) := ggX2_treeTall_X8_isIn
theorem dX2_treeTall_0 : decode cX2_treeTall 0 = .ok (.iload_n 1, 1) := by decide +kernel
theorem dX2_treeTall_1 : decode cX2_treeTall 1 = .ok (.iload_n 3, 1) := by decide +kernel
theorem dX2_treeTall_2 : decode cX2_treeTall 2 = .ok (.invokestatic 99, 3) := by decide +kernel
theorem dX2_treeTall_5 : decode cX2_treeTall 5 = .ok (.ifCond .eq 7, 3) := by decide +kernel
theorem dX2_treeTall_8 : decode cX2_treeTall 8 = .ok (.iconst 0, 1) := by decide +kernel
theorem dX2_treeTall_9 : decode cX2_treeTall 9 = .ok (.goto 16, 3) := by decide +kernel
theorem dX2_treeTall_12 : decode cX2_treeTall 12 = .ok (.aload_n 0, 1) := by decide +kernel
theorem dX2_treeTall_13 : decode cX2_treeTall 13 = .ok (.getfield 29, 3) := by decide +kernel
theorem dX2_treeTall_16 : decode cX2_treeTall 16 = .ok (.iload_n 1, 1) := by decide +kernel
theorem dX2_treeTall_17 : decode cX2_treeTall 17 = .ok (.aaload, 1) := by decide +kernel
theorem dX2_treeTall_18 : decode cX2_treeTall 18 = .ok (.getfield 88, 3) := by decide +kernel
theorem dX2_treeTall_21 : decode cX2_treeTall 21 = .ok (.iload_n 2, 1) := by decide +kernel
theorem dX2_treeTall_22 : decode cX2_treeTall 22 = .ok (.iconst 2, 1) := by decide +kernel
theorem dX2_treeTall_23 : decode cX2_treeTall 23 = .ok (.idiv, 1) := by decide +kernel
theorem dX2_treeTall_24 : decode cX2_treeTall 24 = .ok (.iadd, 1) := by decide +kernel
theorem dX2_treeTall_25 : decode cX2_treeTall 25 = .ok (.ireturn, 1) := by decide +kernel
set_option maxRecDepth 20000 in
theorem ggX2_topOf_X2_tallOn : GoodIn wsX2_topOf wsX2_tallOn := goodIn_r _ [6, 7, 8, 9, 10, 11, 12, 13, 14, 15, 16, 5, 17, 18, 19, 20, 21, 22, 23, 24, 25, 26, 27, 28, 29, 30, 31, 32, 33, 34, 35, 36, 37, 38, 39, 40, 41, 42, 43, 44, 45, 46, 47, 48, 49, 50, 51, 52] (by decide +kernel) (by decide +kernel)
set_option maxRecDepth 20000 in
theorem gX2_topOf_X2_tallOn : GoodIn wsX2_topOf (wsV RX2 103 RX2 yX2_tallOn wsX2_tallOn) := goodIn_app (goodIn_of _ (by decide +kernel)) ggX2_topOf_X2_tallOn
theorem dX2_topOf_0 : decode cX2_topOf 0 = .ok (.aload_n 0, 1) := by decide +kernel
theorem dX2_topOf_1 : decode cX2_topOf 1 = .ok (.getfield 9, 3) := by decide +kernel
theorem dX2_topOf_4 : decode cX2_topOf 4 = .ok (.iload_n 1, 1) := by decide +kernel
theorem dX2_topOf_5 : decode cX2_topOf 5 = .ok (.iaload, 1) := by decide +kernel
theorem dX2_topOf_6 : decode cX2_topOf 6 = .ok (.aload_n 0, 1) := by decide +kernel
theorem dX2_topOf_7 : decode cX2_topOf 7 = .ok (.iload_n 1, 1) := by decide +kernel
theorem dX2_topOf_8 : decode cX2_topOf 8 = .ok (.invokevirtual 103, 3) := by decide +kernel
theorem dX2_topOf_11 : decode cX2_topOf 11 = .ok (.iadd, 1) := by decide +kernel
theorem dX2_topOf_12 : decode cX2_topOf 12 = .ok (.ireturn, 1) := by decide +kernel
set_option maxRecDepth 20000 in
theorem ggX2_tallOn_X2_treeTall : GoodIn wsX2_tallOn wsX2_treeTall := goodIn_r _ [12, 13, 14, 15, 16, 17, 29, 30, 31, 32, 33, 34, 35, 36, 37, 38, 39, 40, 41, 46, 47] (by decide +kernel) (by decide +kernel)
set_option maxRecDepth 20000 in
theorem gX2_tallOn_X2_treeTall : GoodIn wsX2_tallOn (wsV RX2 107 RX2 yX2_treeTall wsX2_treeTall) := goodIn_app (goodIn_of _ (by decide +kernel)) ggX2_tallOn_X2_treeTall
set_option maxRecDepth 20000 in
theorem ggX2_tallOn_X1_tallWith : GoodIn wsX2_tallOn wsX1_tallWith := goodIn_r _ [22, 23, 24, 25, 26, 21, 27, 28, 42, 43, 44, 45] (by decide +kernel) (by decide +kernel)
set_option maxRecDepth 20000 in
theorem gX2_tallOn_X1_tallWith : GoodIn wsX2_tallOn (wsV RX2 110 RX1 yX1_tallWith wsX1_tallWith) := goodIn_app (goodIn_of _ (by decide +kernel)) ggX2_tallOn_X1_tallWith
theorem dX2_tallOn_0 : decode cX2_tallOn 0 = .ok (.aload_n 0, 1) := by decide +kernel
theorem dX2_tallOn_1 : decode cX2_tallOn 1 = .ok (.getfield 18, 3) := by decide +kernel
theorem dX2_tallOn_4 : decode cX2_tallOn 4 = .ok (.iload_n 1, 1) := by decide +kernel
theorem dX2_tallOn_5 : decode cX2_tallOn 5 = .ok (.iaload, 1) := by decide +kernel
theorem dX2_tallOn_6 : decode cX2_tallOn 6 = .ok (.istore_n 2, 1) := by decide +kernel
theorem dX2_tallOn_7 : decode cX2_tallOn 7 = .ok (.iload_n 2, 1) := by decide +kernel
theorem dX2_tallOn_8 : decode cX2_tallOn 8 = .ok (.bipush 20, 2) := by decide +kernel
theorem dX2_tallOn_10 : decode cX2_tallOn 10 = .ok (.if_icmp .lt 20, 3) := by decide +kernel
theorem dX2_tallOn_13 : decode cX2_tallOn 13 = .ok (.aload_n 0, 1) := by decide +kernel
theorem dX2_tallOn_14 : decode cX2_tallOn 14 = .ok (.iload_n 2, 1) := by decide +kernel
theorem dX2_tallOn_15 : decode cX2_tallOn 15 = .ok (.bipush 20, 2) := by decide +kernel
theorem dX2_tallOn_17 : decode cX2_tallOn 17 = .ok (.isub, 1) := by decide +kernel
theorem dX2_tallOn_18 : decode cX2_tallOn 18 = .ok (.aload_n 0, 1) := by decide +kernel
theorem dX2_tallOn_19 : decode cX2_tallOn 19 = .ok (.getfield 65, 3) := by decide +kernel
theorem dX2_tallOn_22 : decode cX2_tallOn 22 = .ok (.aload_n 0, 1) := by decide +kernel
theorem dX2_tallOn_23 : decode cX2_tallOn 23 = .ok (.getfield 62, 3) := by decide +kernel
theorem dX2_tallOn_26 : decode cX2_tallOn 26 = .ok (.invokevirtual 107, 3) := by decide +kernel
theorem dX2_tallOn_29 : decode cX2_tallOn 29 = .ok (.ireturn, 1) := by decide +kernel
theorem dX2_tallOn_30 : decode cX2_tallOn 30 = .ok (.iload_n 2, 1) := by decide +kernel
theorem dX2_tallOn_31 : decode cX2_tallOn 31 = .ok (.bipush 10, 2) := by decide +kernel
theorem dX2_tallOn_33 : decode cX2_tallOn 33 = .ok (.if_icmp .lt 26, 3) := by decide +kernel
theorem dX2_tallOn_36 : decode cX2_tallOn 36 = .ok (.aload_n 0, 1) := by decide +kernel
theorem dX2_tallOn_37 : decode cX2_tallOn 37 = .ok (.getfield 23, 3) := by decide +kernel
theorem dX2_tallOn_40 : decode cX2_tallOn 40 = .ok (.iload_n 2, 1) := by decide +kernel
theorem dX2_tallOn_41 : decode cX2_tallOn 41 = .ok (.bipush 10, 2) := by decide +kernel
theorem dX2_tallOn_43 : decode cX2_tallOn 43 = .ok (.isub, 1) := by decide +kernel
theorem dX2_tallOn_44 : decode cX2_tallOn 44 = .ok (.aaload, 1) := by decide +kernel
theorem dX2_tallOn_45 : decode cX2_tallOn 45 = .ok (.astore_n 3, 1) := by decide +kernel
theorem dX2_tallOn_46 : decode cX2_tallOn 46 = .ok (.aload_n 3, 1) := by decide +kernel
theorem dX2_tallOn_47 : decode cX2_tallOn 47 = .ok (.aload_n 3, 1) := by decide +kernel
theorem dX2_tallOn_48 : decode cX2_tallOn 48 = .ok (.getfield 96, 3) := by decide +kernel
theorem dX2_tallOn_51 : decode cX2_tallOn 51 = .ok (.aload_n 0, 1) := by decide +kernel
theorem dX2_tallOn_52 : decode cX2_tallOn 52 = .ok (.getfield 71, 3) := by decide +kernel
theorem dX2_tallOn_55 : decode cX2_tallOn 55 = .ok (.invokevirtual 110, 3) := by decide +kernel
theorem dX2_tallOn_58 : decode cX2_tallOn 58 = .ok (.ireturn, 1) := by decide +kernel
theorem dX2_tallOn_59 : decode cX2_tallOn 59 = .ok (.aload_n 0, 1) := by decide +kernel
theorem dX2_tallOn_60 : decode cX2_tallOn 60 = .ok (.getfield 15, 3) := by decide +kernel
theorem dX2_tallOn_63 : decode cX2_tallOn 63 = .ok (.iload_n 1, 1) := by decide +kernel
theorem dX2_tallOn_64 : decode cX2_tallOn 64 = .ok (.iaload, 1) := by decide +kernel
theorem dX2_tallOn_65 : decode cX2_tallOn 65 = .ok (.ireturn, 1) := by decide +kernel
theorem dX3_init_0 : decode cX3_init 0 = .ok (.aload_n 0, 1) := by decide +kernel
theorem dX3_init_1 : decode cX3_init 1 = .ok (.invokespecial 3, 3) := by decide +kernel
theorem dX3_init_4 : decode cX3_init 4 = .ok (.aload_n 0, 1) := by decide +kernel
theorem dX3_init_5 : decode cX3_init 5 = .ok (.bipush 8, 2) := by decide +kernel
theorem dX3_init_7 : decode cX3_init 7 = .ok (.newarray .int, 2) := by decide +kernel
theorem dX3_init_9 : decode cX3_init 9 = .ok (.putfield 9, 3) := by decide +kernel
theorem dX3_init_12 : decode cX3_init 12 = .ok (.aload_n 0, 1) := by decide +kernel
theorem dX3_init_13 : decode cX3_init 13 = .ok (.bipush 8, 2) := by decide +kernel
theorem dX3_init_15 : decode cX3_init 15 = .ok (.newarray .int, 2) := by decide +kernel
theorem dX3_init_17 : decode cX3_init 17 = .ok (.putfield 15, 3) := by decide +kernel
theorem dX3_init_20 : decode cX3_init 20 = .ok (.aload_n 0, 1) := by decide +kernel
theorem dX3_init_21 : decode cX3_init 21 = .ok (.bipush 8, 2) := by decide +kernel
theorem dX3_init_23 : decode cX3_init 23 = .ok (.newarray .int, 2) := by decide +kernel
theorem dX3_init_25 : decode cX3_init 25 = .ok (.putfield 18, 3) := by decide +kernel
theorem dX3_init_28 : decode cX3_init 28 = .ok (.aload_n 0, 1) := by decide +kernel
theorem dX3_init_29 : decode cX3_init 29 = .ok (.aload_n 1, 1) := by decide +kernel
theorem dX3_init_30 : decode cX3_init 30 = .ok (.putfield 21, 3) := by decide +kernel
theorem dX3_init_33 : decode cX3_init 33 = .ok (.aload_n 0, 1) := by decide +kernel
theorem dX3_init_34 : decode cX3_init 34 = .ok (.aload_n 2, 1) := by decide +kernel
theorem dX3_init_35 : decode cX3_init 35 = .ok (.putfield 25, 3) := by decide +kernel
theorem dX3_init_38 : decode cX3_init 38 = .ok (.return_, 1) := by decide +kernel
theorem dX3_isFull_0 : decode cX3_isFull 0 = .ok (.aload_n 0, 1) := by decide +kernel
theorem dX3_isFull_1 : decode cX3_isFull 1 = .ok (.getfield 29, 3) := by decide +kernel
theorem dX3_isFull_4 : decode cX3_isFull 4 = .ok (.bipush 8, 2) := by decide +kernel
theorem dX3_isFull_6 : decode cX3_isFull 6 = .ok (.if_icmp .lt 7, 3) := by decide +kernel
theorem dX3_isFull_9 : decode cX3_isFull 9 = .ok (.iconst 1, 1) := by decide +kernel
theorem dX3_isFull_10 : decode cX3_isFull 10 = .ok (.goto 4, 3) := by decide +kernel
theorem dX3_isFull_13 : decode cX3_isFull 13 = .ok (.iconst 0, 1) := by decide +kernel
theorem dX3_isFull_14 : decode cX3_isFull 14 = .ok (.ireturn, 1) := by decide +kernel
theorem dX3_keep_0 : decode cX3_keep 0 = .ok (.aload_n 0, 1) := by decide +kernel
theorem dX3_keep_1 : decode cX3_keep 1 = .ok (.getfield 9, 3) := by decide +kernel
theorem dX3_keep_4 : decode cX3_keep 4 = .ok (.aload_n 0, 1) := by decide +kernel
theorem dX3_keep_5 : decode cX3_keep 5 = .ok (.getfield 29, 3) := by decide +kernel
theorem dX3_keep_8 : decode cX3_keep 8 = .ok (.iload_n 1, 1) := by decide +kernel
theorem dX3_keep_9 : decode cX3_keep 9 = .ok (.iastore, 1) := by decide +kernel
theorem dX3_keep_10 : decode cX3_keep 10 = .ok (.aload_n 0, 1) := by decide +kernel
theorem dX3_keep_11 : decode cX3_keep 11 = .ok (.getfield 15, 3) := by decide +kernel
theorem dX3_keep_14 : decode cX3_keep 14 = .ok (.aload_n 0, 1) := by decide +kernel
theorem dX3_keep_15 : decode cX3_keep 15 = .ok (.getfield 29, 3) := by decide +kernel
theorem dX3_keep_18 : decode cX3_keep 18 = .ok (.iload_n 2, 1) := by decide +kernel
theorem dX3_keep_19 : decode cX3_keep 19 = .ok (.iastore, 1) := by decide +kernel
theorem dX3_keep_20 : decode cX3_keep 20 = .ok (.aload_n 0, 1) := by decide +kernel
theorem dX3_keep_21 : decode cX3_keep 21 = .ok (.getfield 18, 3) := by decide +kernel
theorem dX3_keep_24 : decode cX3_keep 24 = .ok (.aload_n 0, 1) := by decide +kernel
theorem dX3_keep_25 : decode cX3_keep 25 = .ok (.getfield 29, 3) := by decide +kernel
theorem dX3_keep_28 : decode cX3_keep 28 = .ok (.iload_n 3, 1) := by decide +kernel
theorem dX3_keep_29 : decode cX3_keep 29 = .ok (.iastore, 1) := by decide +kernel
theorem dX3_keep_30 : decode cX3_keep 30 = .ok (.aload_n 0, 1) := by decide +kernel
theorem dX3_keep_31 : decode cX3_keep 31 = .ok (.dup, 1) := by decide +kernel
theorem dX3_keep_32 : decode cX3_keep 32 = .ok (.getfield 29, 3) := by decide +kernel
theorem dX3_keep_35 : decode cX3_keep 35 = .ok (.dup_x1, 1) := by decide +kernel
theorem dX3_keep_36 : decode cX3_keep 36 = .ok (.iconst 1, 1) := by decide +kernel
theorem dX3_keep_37 : decode cX3_keep 37 = .ok (.iadd, 1) := by decide +kernel
theorem dX3_keep_38 : decode cX3_keep 38 = .ok (.putfield 29, 3) := by decide +kernel
theorem dX3_keep_41 : decode cX3_keep 41 = .ok (.ireturn, 1) := by decide +kernel
set_option maxRecDepth 20000 in
theorem ggX3_possibleFogs_X5_lookNow : GoodIn wsX3_possibleFogs wsX5_lookNow := goodIn_r _ [9, 10, 11, 12, 13, 14, 15, 16, 17, 18, 19, 20, 21, 22, 23, 24, 25, 26, 27, 28, 29, 30, 31, 32, 33, 34, 35, 36, 37, 38, 39, 40, 41, 42, 43, 44, 45, 46, 47, 48, 49, 50, 51, 102, 103, 104, 105, 106, 107, 108, 109, 110, 111, 112, 113, 114, 115, 116, 117, 118, 119, 120, 121, 122, 123, 124] (by decide +kernel) (by decide +kernel)
set_option maxRecDepth 20000 in
theorem gX3_possibleFogs_X5_lookNow : GoodIn wsX3_possibleFogs (wsV RX3 33 RX5 yX5_lookNow wsX5_lookNow) := goodIn_app (goodIn_of _ (by decide +kernel)) ggX3_possibleFogs_X5_lookNow
set_option maxRecDepth 20000 in
theorem ggX3_possibleFogs_X3_allAreSo : GoodIn wsX3_possibleFogs wsX3_allAreSo := goodIn_r _ [56, 57, 1, 58, 59, 60, 61, 62, 63, 8, 64, 10, 65, 66, 67, 14, 68, 69, 33, 34, 18, 35, 36, 37, 38, 39, 40, 70, 71, 72, 73, 74, 75, 76, 77, 78, 79, 80, 81, 82, 83, 84, 85, 86, 87, 88, 89, 90, 91, 92, 12, 93, 94, 95, 96, 97, 98, 99, 100, 101, 102, 103, 104, 105, 106, 107, 108, 109, 110, 111, 112, 113, 114, 115, 116, 117, 118, 123, 124, 119, 120, 121, 122] (by decide +kernel) (by decide +kernel)
set_option maxRecDepth 20000 in
theorem gX3_possibleFogs_X3_allAreSo : GoodIn wsX3_possibleFogs (wsV RX3 46 RX3 yX3_allAreSo wsX3_allAreSo) := goodIn_app (goodIn_of _ (by decide +kernel)) ggX3_possibleFogs_X3_allAreSo
theorem dX3_possibleFogs_0 : decode cX3_possibleFogs 0 = .ok (.aload_n 0, 1) := by decide +kernel
theorem dX3_possibleFogs_1 : decode cX3_possibleFogs 1 = .ok (.getfield 25, 3) := by decide +kernel
theorem dX3_possibleFogs_4 : decode cX3_possibleFogs 4 = .ok (.invokevirtual 33, 3) := by decide +kernel
theorem dX3_possibleFogs_7 : decode cX3_possibleFogs 7 = .ok (.iconst 0, 1) := by decide +kernel
theorem dX3_possibleFogs_8 : decode cX3_possibleFogs 8 = .ok (.istore_n 1, 1) := by decide +kernel
theorem dX3_possibleFogs_9 : decode cX3_possibleFogs 9 = .ok (.iconst 1, 1) := by decide +kernel
theorem dX3_possibleFogs_10 : decode cX3_possibleFogs 10 = .ok (.istore_n 2, 1) := by decide +kernel
theorem dX3_possibleFogs_11 : decode cX3_possibleFogs 11 = .ok (.iload_n 2, 1) := by decide +kernel
theorem dX3_possibleFogs_12 : decode cX3_possibleFogs 12 = .ok (.bipush 9, 2) := by decide +kernel
theorem dX3_possibleFogs_14 : decode cX3_possibleFogs 14 = .ok (.if_icmp .gt 37, 3) := by decide +kernel
theorem dX3_possibleFogs_17 : decode cX3_possibleFogs 17 = .ok (.aload_n 0, 1) := by decide +kernel
theorem dX3_possibleFogs_18 : decode cX3_possibleFogs 18 = .ok (.getfield 25, 3) := by decide +kernel
theorem dX3_possibleFogs_21 : decode cX3_possibleFogs 21 = .ok (.iload_n 2, 1) := by decide +kernel
theorem dX3_possibleFogs_22 : decode cX3_possibleFogs 22 = .ok (.putfield 38, 3) := by decide +kernel
theorem dX3_possibleFogs_25 : decode cX3_possibleFogs 25 = .ok (.aload_n 0, 1) := by decide +kernel
theorem dX3_possibleFogs_26 : decode cX3_possibleFogs 26 = .ok (.aload_n 0, 1) := by decide +kernel
theorem dX3_possibleFogs_27 : decode cX3_possibleFogs 27 = .ok (.getfield 21, 3) := by decide +kernel
theorem dX3_possibleFogs_30 : decode cX3_possibleFogs 30 = .ok (.getfield 41, 3) := by decide +kernel
theorem dX3_possibleFogs_33 : decode cX3_possibleFogs 33 = .ok (.invokevirtual 46, 3) := by decide +kernel
theorem dX3_possibleFogs_36 : decode cX3_possibleFogs 36 = .ok (.ifCond .eq 9, 3) := by decide +kernel
theorem dX3_possibleFogs_39 : decode cX3_possibleFogs 39 = .ok (.iload_n 1, 1) := by decide +kernel
theorem dX3_possibleFogs_40 : decode cX3_possibleFogs 40 = .ok (.iconst 1, 1) := by decide +kernel
theorem dX3_possibleFogs_41 : decode cX3_possibleFogs 41 = .ok (.iload_n 2, 1) := by decide +kernel
theorem dX3_possibleFogs_42 : decode cX3_possibleFogs 42 = .ok (.ishl, 1) := by decide +kernel
theorem dX3_possibleFogs_43 : decode cX3_possibleFogs 43 = .ok (.ior, 1) := by decide +kernel
theorem dX3_possibleFogs_44 : decode cX3_possibleFogs 44 = .ok (.istore_n 1, 1) := by decide +kernel
theorem dX3_possibleFogs_45 : decode cX3_possibleFogs 45 = .ok (.iinc 2 1, 3) := by decide +kernel
theorem dX3_possibleFogs_48 : decode cX3_possibleFogs 48 = .ok (.goto (-37), 3) := by decide +kernel
theorem dX3_possibleFogs_51 : decode cX3_possibleFogs 51 = .ok (.iload_n 1, 1) := by decide +kernel
theorem dX3_possibleFogs_52 : decode cX3_possibleFogs 52 = .ok (.ireturn, 1) := by decide +kernel
set_option maxRecDepth 20000 in
theorem ggX3_howManyStood_X5_lookNow : GoodIn wsX3_howManyStood wsX5_lookNow := goodIn_r _ [8, 9, 10, 11, 12, 13, 14, 15, 16, 17, 18, 19, 20, 21, 22, 23, 24, 25, 26, 27, 28, 29, 30, 31, 32, 33, 34, 35, 36, 37, 38, 39, 40, 41, 42, 43, 44, 45, 46, 47, 48, 49, 50, 114, 115, 116, 117, 101, 102, 103, 104, 105, 106, 107, 108, 109, 110, 111, 112, 113, 118, 119, 120, 121, 122, 123] (by decide +kernel) (by decide +kernel)
set_option maxRecDepth 20000 in
theorem gX3_howManyStood_X5_lookNow : GoodIn wsX3_howManyStood (wsV RX3 33 RX5 yX5_lookNow wsX5_lookNow) := goodIn_app (goodIn_of _ (by decide +kernel)) ggX3_howManyStood_X5_lookNow
set_option maxRecDepth 20000 in
theorem ggX3_howManyStood_X3_allAreSo : GoodIn wsX3_howManyStood wsX3_allAreSo := goodIn_r _ [55, 56, 1, 57, 58, 59, 60, 61, 62, 7, 63, 9, 64, 65, 66, 13, 67, 68, 32, 33, 17, 34, 35, 36, 37, 38, 39, 69, 70, 71, 72, 73, 74, 75, 76, 77, 78, 79, 80, 81, 82, 83, 84, 85, 86, 87, 88, 89, 90, 91, 11, 92, 93, 94, 95, 96, 97, 98, 99, 100, 114, 115, 116, 117, 101, 102, 103, 104, 105, 106, 107, 108, 109, 110, 111, 112, 113, 122, 123, 118, 119, 120, 121] (by decide +kernel) (by decide +kernel)
set_option maxRecDepth 20000 in
theorem gX3_howManyStood_X3_allAreSo : GoodIn wsX3_howManyStood (wsV RX3 46 RX3 yX3_allAreSo wsX3_allAreSo) := goodIn_app (goodIn_of _ (by decide +kernel)) ggX3_howManyStood_X3_allAreSo
theorem dX3_howManyStood_0 : decode cX3_howManyStood 0 = .ok (.aload_n 0, 1) := by decide +kernel
theorem dX3_howManyStood_1 : decode cX3_howManyStood 1 = .ok (.getfield 25, 3) := by decide +kernel
theorem dX3_howManyStood_4 : decode cX3_howManyStood 4 = .ok (.invokevirtual 33, 3) := by decide +kernel
theorem dX3_howManyStood_7 : decode cX3_howManyStood 7 = .ok (.iconst 1, 1) := by decide +kernel
theorem dX3_howManyStood_8 : decode cX3_howManyStood 8 = .ok (.aload_n 0, 1) := by decide +kernel
theorem dX3_howManyStood_9 : decode cX3_howManyStood 9 = .ok (.getfield 21, 3) := by decide +kernel
theorem dX3_howManyStood_12 : decode cX3_howManyStood 12 = .ok (.getfield 50, 3) := by decide +kernel
theorem dX3_howManyStood_15 : decode cX3_howManyStood 15 = .ok (.ishl, 1) := by decide +kernel
theorem dX3_howManyStood_16 : decode cX3_howManyStood 16 = .ok (.istore_n 1, 1) := by decide +kernel
theorem dX3_howManyStood_17 : decode cX3_howManyStood 17 = .ok (.iconst 0, 1) := by decide +kernel
theorem dX3_howManyStood_18 : decode cX3_howManyStood 18 = .ok (.istore_n 2, 1) := by decide +kernel
theorem dX3_howManyStood_19 : decode cX3_howManyStood 19 = .ok (.iconst 0, 1) := by decide +kernel
theorem dX3_howManyStood_20 : decode cX3_howManyStood 20 = .ok (.istore_n 3, 1) := by decide +kernel
theorem dX3_howManyStood_21 : decode cX3_howManyStood 21 = .ok (.iload_n 3, 1) := by decide +kernel
theorem dX3_howManyStood_22 : decode cX3_howManyStood 22 = .ok (.iload_n 1, 1) := by decide +kernel
theorem dX3_howManyStood_23 : decode cX3_howManyStood 23 = .ok (.if_icmp .ge 24, 3) := by decide +kernel
theorem dX3_howManyStood_26 : decode cX3_howManyStood 26 = .ok (.aload_n 0, 1) := by decide +kernel
theorem dX3_howManyStood_27 : decode cX3_howManyStood 27 = .ok (.iload_n 1, 1) := by decide +kernel
theorem dX3_howManyStood_28 : decode cX3_howManyStood 28 = .ok (.iconst 1, 1) := by decide +kernel
theorem dX3_howManyStood_29 : decode cX3_howManyStood 29 = .ok (.isub, 1) := by decide +kernel
theorem dX3_howManyStood_30 : decode cX3_howManyStood 30 = .ok (.iload_n 3, 1) := by decide +kernel
theorem dX3_howManyStood_31 : decode cX3_howManyStood 31 = .ok (.isub, 1) := by decide +kernel
theorem dX3_howManyStood_32 : decode cX3_howManyStood 32 = .ok (.invokevirtual 46, 3) := by decide +kernel
theorem dX3_howManyStood_35 : decode cX3_howManyStood 35 = .ok (.ifCond .eq 6, 3) := by decide +kernel
theorem dX3_howManyStood_38 : decode cX3_howManyStood 38 = .ok (.iinc 2 1, 3) := by decide +kernel
theorem dX3_howManyStood_41 : decode cX3_howManyStood 41 = .ok (.iinc 3 1, 3) := by decide +kernel
theorem dX3_howManyStood_44 : decode cX3_howManyStood 44 = .ok (.goto (-23), 3) := by decide +kernel
theorem dX3_howManyStood_47 : decode cX3_howManyStood 47 = .ok (.iload_n 2, 1) := by decide +kernel
theorem dX3_howManyStood_48 : decode cX3_howManyStood 48 = .ok (.ireturn, 1) := by decide +kernel
set_option maxRecDepth 20000 in
theorem ggX3_firstThatStood_X5_lookNow : GoodIn wsX3_firstThatStood wsX5_lookNow := goodIn_r _ [8, 9, 10, 11, 12, 13, 14, 15, 16, 17, 18, 19, 20, 21, 22, 23, 24, 25, 26, 27, 28, 29, 30, 31, 32, 33, 34, 35, 36, 37, 38, 39, 40, 41, 42, 43, 44, 45, 46, 47, 48, 49, 50, 114, 115, 116, 117, 101, 102, 103, 104, 105, 106, 107, 108, 109, 110, 111, 112, 113, 118, 119, 120, 121, 122, 123] (by decide +kernel) (by decide +kernel)
set_option maxRecDepth 20000 in
theorem gX3_firstThatStood_X5_lookNow : GoodIn wsX3_firstThatStood (wsV RX3 33 RX5 yX5_lookNow wsX5_lookNow) := goodIn_app (goodIn_of _ (by decide +kernel)) ggX3_firstThatStood_X5_lookNow
set_option maxRecDepth 20000 in
theorem ggX3_firstThatStood_X3_allAreSo : GoodIn wsX3_firstThatStood wsX3_allAreSo := goodIn_r _ [55, 56, 1, 57, 58, 59, 60, 61, 62, 7, 63, 9, 64, 65, 66, 13, 67, 68, 32, 33, 17, 34, 35, 36, 37, 38, 39, 69, 70, 71, 72, 73, 74, 75, 76, 77, 78, 79, 80, 81, 82, 83, 84, 85, 86, 87, 88, 89, 90, 91, 11, 92, 93, 94, 95, 96, 97, 98, 99, 100, 114, 115, 116, 117, 101, 102, 103, 104, 105, 106, 107, 108, 109, 110, 111, 112, 113, 122, 123, 118, 119, 120, 121] (by decide +kernel) (by decide +kernel)
set_option maxRecDepth 20000 in
theorem gX3_firstThatStood_X3_allAreSo : GoodIn wsX3_firstThatStood (wsV RX3 46 RX3 yX3_allAreSo wsX3_allAreSo) := goodIn_app (goodIn_of _ (by decide +kernel)) ggX3_firstThatStood_X3_allAreSo
theorem dX3_firstThatStood_0 : decode cX3_firstThatStood 0 = .ok (.aload_n 0, 1) := by decide +kernel
theorem dX3_firstThatStood_1 : decode cX3_firstThatStood 1 = .ok (.getfield 25, 3) := by decide +kernel
theorem dX3_firstThatStood_4 : decode cX3_firstThatStood 4 = .ok (.invokevirtual 33, 3) := by decide +kernel
theorem dX3_firstThatStood_7 : decode cX3_firstThatStood 7 = .ok (.iconst 1, 1) := by decide +kernel
theorem dX3_firstThatStood_8 : decode cX3_firstThatStood 8 = .ok (.aload_n 0, 1) := by decide +kernel
theorem dX3_firstThatStood_9 : decode cX3_firstThatStood 9 = .ok (.getfield 21, 3) := by decide +kernel
theorem dX3_firstThatStood_12 : decode cX3_firstThatStood 12 = .ok (.getfield 50, 3) := by decide +kernel
theorem dX3_firstThatStood_15 : decode cX3_firstThatStood 15 = .ok (.ishl, 1) := by decide +kernel
theorem dX3_firstThatStood_16 : decode cX3_firstThatStood 16 = .ok (.istore_n 1, 1) := by decide +kernel
theorem dX3_firstThatStood_17 : decode cX3_firstThatStood 17 = .ok (.iconst 0, 1) := by decide +kernel
theorem dX3_firstThatStood_18 : decode cX3_firstThatStood 18 = .ok (.istore_n 2, 1) := by decide +kernel
theorem dX3_firstThatStood_19 : decode cX3_firstThatStood 19 = .ok (.iload_n 2, 1) := by decide +kernel
theorem dX3_firstThatStood_20 : decode cX3_firstThatStood 20 = .ok (.iload_n 1, 1) := by decide +kernel
theorem dX3_firstThatStood_21 : decode cX3_firstThatStood 21 = .ok (.if_icmp .ge 23, 3) := by decide +kernel
theorem dX3_firstThatStood_24 : decode cX3_firstThatStood 24 = .ok (.aload_n 0, 1) := by decide +kernel
theorem dX3_firstThatStood_25 : decode cX3_firstThatStood 25 = .ok (.iload_n 1, 1) := by decide +kernel
theorem dX3_firstThatStood_26 : decode cX3_firstThatStood 26 = .ok (.iconst 1, 1) := by decide +kernel
theorem dX3_firstThatStood_27 : decode cX3_firstThatStood 27 = .ok (.isub, 1) := by decide +kernel
theorem dX3_firstThatStood_28 : decode cX3_firstThatStood 28 = .ok (.iload_n 2, 1) := by decide +kernel
theorem dX3_firstThatStood_29 : decode cX3_firstThatStood 29 = .ok (.isub, 1) := by decide +kernel
theorem dX3_firstThatStood_30 : decode cX3_firstThatStood 30 = .ok (.invokevirtual 46, 3) := by decide +kernel
theorem dX3_firstThatStood_33 : decode cX3_firstThatStood 33 = .ok (.ifCond .eq 5, 3) := by decide +kernel
theorem dX3_firstThatStood_36 : decode cX3_firstThatStood 36 = .ok (.iload_n 2, 1) := by decide +kernel
theorem dX3_firstThatStood_37 : decode cX3_firstThatStood 37 = .ok (.ireturn, 1) := by decide +kernel
theorem dX3_firstThatStood_38 : decode cX3_firstThatStood 38 = .ok (.iinc 2 1, 3) := by decide +kernel
theorem dX3_firstThatStood_41 : decode cX3_firstThatStood 41 = .ok (.goto (-22), 3) := by decide +kernel
theorem dX3_firstThatStood_44 : decode cX3_firstThatStood 44 = .ok (.bipush (-9), 2) := by decide +kernel
theorem dX3_firstThatStood_46 : decode cX3_firstThatStood 46 = .ok (.ireturn, 1) := by decide +kernel
set_option maxRecDepth 20000 in
theorem ggX3_allAreSo_X5_lookWithTrees : GoodIn wsX3_allAreSo wsX5_lookWithTrees := goodIn_r _ [10, 11, 12, 13, 14, 15, 16, 17, 18, 19, 20, 21, 22, 23, 24, 25, 26, 60, 61, 62, 63, 64, 65, 66, 67, 68, 69, 70, 71, 72, 73, 74, 75, 76, 77, 78] (by decide +kernel) (by decide +kernel)
set_option maxRecDepth 20000 in
theorem gX3_allAreSo_X5_lookWithTrees : GoodIn wsX3_allAreSo (wsV RX3 53 RX5 yX5_lookWithTrees wsX5_lookWithTrees) := goodIn_app (goodIn_of _ (by decide +kernel)) ggX3_allAreSo_X5_lookWithTrees
set_option maxRecDepth 20000 in
theorem ggX3_allAreSo_X5_numberOf : GoodIn wsX3_allAreSo wsX5_numberOf := goodIn_r _ [30, 11, 31, 32, 33, 34, 35, 9, 36, 37, 38, 39, 40, 41, 42, 43, 44, 45, 46, 47, 48, 49, 50, 15, 51, 25, 52, 53, 60, 61, 62, 63, 64, 65, 66, 67, 68, 69, 70, 71, 72, 73, 74, 75, 76, 79, 80, 81, 82] (by decide +kernel) (by decide +kernel)
set_option maxRecDepth 20000 in
theorem gX3_allAreSo_X5_numberOf : GoodIn wsX3_allAreSo (wsV RX3 57 RX5 yX5_numberOf wsX5_numberOf) := goodIn_app (goodIn_of _ (by decide +kernel)) ggX3_allAreSo_X5_numberOf
theorem dX3_allAreSo_0 : decode cX3_allAreSo 0 = .ok (.iconst 0, 1) := by decide +kernel
theorem dX3_allAreSo_1 : decode cX3_allAreSo 1 = .ok (.istore_n 2, 1) := by decide +kernel
theorem dX3_allAreSo_2 : decode cX3_allAreSo 2 = .ok (.iload_n 2, 1) := by decide +kernel
theorem dX3_allAreSo_3 : decode cX3_allAreSo 3 = .ok (.aload_n 0, 1) := by decide +kernel
theorem dX3_allAreSo_4 : decode cX3_allAreSo 4 = .ok (.getfield 29, 3) := by decide +kernel
theorem dX3_allAreSo_7 : decode cX3_allAreSo 7 = .ok (.if_icmp .ge 47, 3) := by decide +kernel
theorem dX3_allAreSo_10 : decode cX3_allAreSo 10 = .ok (.aload_n 0, 1) := by decide +kernel
theorem dX3_allAreSo_11 : decode cX3_allAreSo 11 = .ok (.getfield 25, 3) := by decide +kernel
theorem dX3_allAreSo_14 : decode cX3_allAreSo 14 = .ok (.aload_n 0, 1) := by decide +kernel
theorem dX3_allAreSo_15 : decode cX3_allAreSo 15 = .ok (.getfield 15, 3) := by decide +kernel
theorem dX3_allAreSo_18 : decode cX3_allAreSo 18 = .ok (.iload_n 2, 1) := by decide +kernel
theorem dX3_allAreSo_19 : decode cX3_allAreSo 19 = .ok (.iaload, 1) := by decide +kernel
theorem dX3_allAreSo_20 : decode cX3_allAreSo 20 = .ok (.iload_n 1, 1) := by decide +kernel
theorem dX3_allAreSo_21 : decode cX3_allAreSo 21 = .ok (.invokevirtual 53, 3) := by decide +kernel
theorem dX3_allAreSo_24 : decode cX3_allAreSo 24 = .ok (.aload_n 0, 1) := by decide +kernel
theorem dX3_allAreSo_25 : decode cX3_allAreSo 25 = .ok (.getfield 25, 3) := by decide +kernel
theorem dX3_allAreSo_28 : decode cX3_allAreSo 28 = .ok (.aload_n 0, 1) := by decide +kernel
theorem dX3_allAreSo_29 : decode cX3_allAreSo 29 = .ok (.getfield 9, 3) := by decide +kernel
theorem dX3_allAreSo_32 : decode cX3_allAreSo 32 = .ok (.iload_n 2, 1) := by decide +kernel
theorem dX3_allAreSo_33 : decode cX3_allAreSo 33 = .ok (.iaload, 1) := by decide +kernel
theorem dX3_allAreSo_34 : decode cX3_allAreSo 34 = .ok (.invokevirtual 57, 3) := by decide +kernel
theorem dX3_allAreSo_37 : decode cX3_allAreSo 37 = .ok (.aload_n 0, 1) := by decide +kernel
theorem dX3_allAreSo_38 : decode cX3_allAreSo 38 = .ok (.getfield 18, 3) := by decide +kernel
theorem dX3_allAreSo_41 : decode cX3_allAreSo 41 = .ok (.iload_n 2, 1) := by decide +kernel
theorem dX3_allAreSo_42 : decode cX3_allAreSo 42 = .ok (.iaload, 1) := by decide +kernel
theorem dX3_allAreSo_43 : decode cX3_allAreSo 43 = .ok (.if_icmp .eq 5, 3) := by decide +kernel
theorem dX3_allAreSo_46 : decode cX3_allAreSo 46 = .ok (.iconst 0, 1) := by decide +kernel
theorem dX3_allAreSo_47 : decode cX3_allAreSo 47 = .ok (.ireturn, 1) := by decide +kernel
theorem dX3_allAreSo_48 : decode cX3_allAreSo 48 = .ok (.iinc 2 1, 3) := by decide +kernel
theorem dX3_allAreSo_51 : decode cX3_allAreSo 51 = .ok (.goto (-49), 3) := by decide +kernel
theorem dX3_allAreSo_54 : decode cX3_allAreSo 54 = .ok (.iconst 1, 1) := by decide +kernel
theorem dX3_allAreSo_55 : decode cX3_allAreSo 55 = .ok (.ireturn, 1) := by decide +kernel
theorem dX4_init_0 : decode cX4_init 0 = .ok (.aload_n 0, 1) := by decide +kernel
theorem dX4_init_1 : decode cX4_init 1 = .ok (.invokespecial 3, 3) := by decide +kernel
theorem dX4_init_4 : decode cX4_init 4 = .ok (.aload_n 0, 1) := by decide +kernel
theorem dX4_init_5 : decode cX4_init 5 = .ok (.bipush 100, 2) := by decide +kernel
theorem dX4_init_7 : decode cX4_init 7 = .ok (.newarray .int, 2) := by decide +kernel
theorem dX4_init_9 : decode cX4_init 9 = .ok (.putfield 9, 3) := by decide +kernel
theorem dX4_init_12 : decode cX4_init 12 = .ok (.aload_n 0, 1) := by decide +kernel
theorem dX4_init_13 : decode cX4_init 13 = .ok (.iconst (-1), 1) := by decide +kernel
theorem dX4_init_14 : decode cX4_init 14 = .ok (.putfield 15, 3) := by decide +kernel
theorem dX4_init_17 : decode cX4_init 17 = .ok (.return_, 1) := by decide +kernel
theorem dX4_hasRow_0 : decode cX4_hasRow 0 = .ok (.aload_n 0, 1) := by decide +kernel
theorem dX4_hasRow_1 : decode cX4_hasRow 1 = .ok (.getfield 15, 3) := by decide +kernel
theorem dX4_hasRow_4 : decode cX4_hasRow 4 = .ok (.iconst (-1), 1) := by decide +kernel
theorem dX4_hasRow_5 : decode cX4_hasRow 5 = .ok (.if_icmp .eq 7, 3) := by decide +kernel
theorem dX4_hasRow_8 : decode cX4_hasRow 8 = .ok (.iconst 1, 1) := by decide +kernel
theorem dX4_hasRow_9 : decode cX4_hasRow 9 = .ok (.goto 4, 3) := by decide +kernel
theorem dX4_hasRow_12 : decode cX4_hasRow 12 = .ok (.iconst 0, 1) := by decide +kernel
theorem dX4_hasRow_13 : decode cX4_hasRow 13 = .ok (.ireturn, 1) := by decide +kernel
theorem dX4_makeRow_0 : decode cX4_makeRow 0 = .ok (.aload_n 0, 1) := by decide +kernel
theorem dX4_makeRow_1 : decode cX4_makeRow 1 = .ok (.iload_n 1, 1) := by decide +kernel
theorem dX4_makeRow_2 : decode cX4_makeRow 2 = .ok (.putfield 19, 3) := by decide +kernel
theorem dX4_makeRow_5 : decode cX4_makeRow 5 = .ok (.aload_n 0, 1) := by decide +kernel
theorem dX4_makeRow_6 : decode cX4_makeRow 6 = .ok (.iload_n 2, 1) := by decide +kernel
theorem dX4_makeRow_7 : decode cX4_makeRow 7 = .ok (.putfield 15, 3) := by decide +kernel
theorem dX4_makeRow_10 : decode cX4_makeRow 10 = .ok (.iconst 0, 1) := by decide +kernel
theorem dX4_makeRow_11 : decode cX4_makeRow 11 = .ok (.istore_n 3, 1) := by decide +kernel
theorem dX4_makeRow_12 : decode cX4_makeRow 12 = .ok (.iload_n 3, 1) := by decide +kernel
theorem dX4_makeRow_13 : decode cX4_makeRow 13 = .ok (.iload_n 2, 1) := by decide +kernel
theorem dX4_makeRow_14 : decode cX4_makeRow 14 = .ok (.if_icmp .ge 16, 3) := by decide +kernel
theorem dX4_makeRow_17 : decode cX4_makeRow 17 = .ok (.aload_n 0, 1) := by decide +kernel
theorem dX4_makeRow_18 : decode cX4_makeRow 18 = .ok (.getfield 9, 3) := by decide +kernel
theorem dX4_makeRow_21 : decode cX4_makeRow 21 = .ok (.iload_n 3, 1) := by decide +kernel
theorem dX4_makeRow_22 : decode cX4_makeRow 22 = .ok (.iconst 0, 1) := by decide +kernel
theorem dX4_makeRow_23 : decode cX4_makeRow 23 = .ok (.iastore, 1) := by decide +kernel
theorem dX4_makeRow_24 : decode cX4_makeRow 24 = .ok (.iinc 3 1, 3) := by decide +kernel
theorem dX4_makeRow_27 : decode cX4_makeRow 27 = .ok (.goto (-15), 3) := by decide +kernel
theorem dX4_makeRow_30 : decode cX4_makeRow 30 = .ok (.return_, 1) := by decide +kernel
theorem dX4_dropRow_0 : decode cX4_dropRow 0 = .ok (.aload_n 0, 1) := by decide +kernel
theorem dX4_dropRow_1 : decode cX4_dropRow 1 = .ok (.iconst (-1), 1) := by decide +kernel
theorem dX4_dropRow_2 : decode cX4_dropRow 2 = .ok (.putfield 15, 3) := by decide +kernel
theorem dX4_dropRow_5 : decode cX4_dropRow 5 = .ok (.return_, 1) := by decide +kernel
set_option maxRecDepth 20000 in
theorem ggX4_faultAs_X4_hasRow : GoodIn wsX4_faultAs wsX4_hasRow := goodIn_r _ [6, 7, 8, 9, 10] (by decide +kernel) (by decide +kernel)
set_option maxRecDepth 20000 in
theorem gX4_faultAs_X4_hasRow : GoodIn wsX4_faultAs (wsV RX4 22 RX4 yX4_hasRow wsX4_hasRow) := goodIn_app (goodIn_of _ (by decide +kernel)) ggX4_faultAs_X4_hasRow
theorem dX4_faultAs_0 : decode cX4_faultAs 0 = .ok (.aload_n 0, 1) := by decide +kernel
theorem dX4_faultAs_1 : decode cX4_faultAs 1 = .ok (.invokevirtual 22, 3) := by decide +kernel
theorem dX4_faultAs_4 : decode cX4_faultAs 4 = .ok (.ifCond .ne 5, 3) := by decide +kernel
theorem dX4_faultAs_7 : decode cX4_faultAs 7 = .ok (.iconst 1, 1) := by decide +kernel
theorem dX4_faultAs_8 : decode cX4_faultAs 8 = .ok (.ireturn, 1) := by decide +kernel
theorem dX4_faultAs_9 : decode cX4_faultAs 9 = .ok (.aload_n 0, 1) := by decide +kernel
theorem dX4_faultAs_10 : decode cX4_faultAs 10 = .ok (.getfield 19, 3) := by decide +kernel
theorem dX4_faultAs_13 : decode cX4_faultAs 13 = .ok (.iload_n 1, 1) := by decide +kernel
theorem dX4_faultAs_14 : decode cX4_faultAs 14 = .ok (.if_icmp .ne 7, 3) := by decide +kernel
theorem dX4_faultAs_17 : decode cX4_faultAs 17 = .ok (.iconst 0, 1) := by decide +kernel
theorem dX4_faultAs_18 : decode cX4_faultAs 18 = .ok (.goto 4, 3) := by decide +kernel
theorem dX4_faultAs_21 : decode cX4_faultAs 21 = .ok (.iconst 2, 1) := by decide +kernel
theorem dX4_faultAs_22 : decode cX4_faultAs 22 = .ok (.ireturn, 1) := by decide +kernel
theorem dX4_holds_0 : decode cX4_holds 0 = .ok (.iconst 0, 1) := by decide +kernel
theorem dX4_holds_1 : decode cX4_holds 1 = .ok (.iload_n 1, 1) := by decide +kernel
theorem dX4_holds_2 : decode cX4_holds 2 = .ok (.if_icmp .gt 15, 3) := by decide +kernel
theorem dX4_holds_5 : decode cX4_holds 5 = .ok (.iload_n 1, 1) := by decide +kernel
theorem dX4_holds_6 : decode cX4_holds 6 = .ok (.aload_n 0, 1) := by decide +kernel
theorem dX4_holds_7 : decode cX4_holds 7 = .ok (.getfield 15, 3) := by decide +kernel
theorem dX4_holds_10 : decode cX4_holds 10 = .ok (.if_icmp .ge 7, 3) := by decide +kernel
theorem dX4_holds_13 : decode cX4_holds 13 = .ok (.iconst 1, 1) := by decide +kernel
theorem dX4_holds_14 : decode cX4_holds 14 = .ok (.goto 4, 3) := by decide +kernel
theorem dX4_holds_17 : decode cX4_holds 17 = .ok (.iconst 0, 1) := by decide +kernel
theorem dX4_holds_18 : decode cX4_holds 18 = .ok (.ireturn, 1) := by decide +kernel
theorem dX4_holdsRun_0 : decode cX4_holdsRun 0 = .ok (.iload_n 1, 1) := by decide +kernel
theorem dX4_holdsRun_1 : decode cX4_holdsRun 1 = .ok (.ifCond .lt 21, 3) := by decide +kernel
theorem dX4_holdsRun_4 : decode cX4_holdsRun 4 = .ok (.iload_n 2, 1) := by decide +kernel
theorem dX4_holdsRun_5 : decode cX4_holdsRun 5 = .ok (.ifCond .lt 17, 3) := by decide +kernel
theorem dX4_holdsRun_8 : decode cX4_holdsRun 8 = .ok (.iload_n 2, 1) := by decide +kernel
theorem dX4_holdsRun_9 : decode cX4_holdsRun 9 = .ok (.aload_n 0, 1) := by decide +kernel
theorem dX4_holdsRun_10 : decode cX4_holdsRun 10 = .ok (.getfield 15, 3) := by decide +kernel
theorem dX4_holdsRun_13 : decode cX4_holdsRun 13 = .ok (.iload_n 1, 1) := by decide +kernel
theorem dX4_holdsRun_14 : decode cX4_holdsRun 14 = .ok (.isub, 1) := by decide +kernel
theorem dX4_holdsRun_15 : decode cX4_holdsRun 15 = .ok (.if_icmp .gt 7, 3) := by decide +kernel
theorem dX4_holdsRun_18 : decode cX4_holdsRun 18 = .ok (.iconst 1, 1) := by decide +kernel
theorem dX4_holdsRun_19 : decode cX4_holdsRun 19 = .ok (.goto 4, 3) := by decide +kernel
theorem dX4_holdsRun_22 : decode cX4_holdsRun 22 = .ok (.iconst 0, 1) := by decide +kernel
theorem dX4_holdsRun_23 : decode cX4_holdsRun 23 = .ok (.ireturn, 1) := by decide +kernel
theorem dX4_write_0 : decode cX4_write 0 = .ok (.aload_n 0, 1) := by decide +kernel
theorem dX4_write_1 : decode cX4_write 1 = .ok (.getfield 19, 3) := by decide +kernel
theorem dX4_write_4 : decode cX4_write 4 = .ok (.lookupswitch 50 #[(0, 28), (1, 39)], 28) := by decide +kernel
theorem dX4_write_32 : decode cX4_write 32 = .ok (.aload_n 0, 1) := by decide +kernel
theorem dX4_write_33 : decode cX4_write 33 = .ok (.getfield 9, 3) := by decide +kernel
theorem dX4_write_36 : decode cX4_write 36 = .ok (.iload_n 1, 1) := by decide +kernel
theorem dX4_write_37 : decode cX4_write 37 = .ok (.iload_n 2, 1) := by decide +kernel
theorem dX4_write_38 : decode cX4_write 38 = .ok (.i2b, 1) := by decide +kernel
theorem dX4_write_39 : decode cX4_write 39 = .ok (.iastore, 1) := by decide +kernel
theorem dX4_write_40 : decode cX4_write 40 = .ok (.goto 21, 3) := by decide +kernel
theorem dX4_write_43 : decode cX4_write 43 = .ok (.aload_n 0, 1) := by decide +kernel
theorem dX4_write_44 : decode cX4_write 44 = .ok (.getfield 9, 3) := by decide +kernel
theorem dX4_write_47 : decode cX4_write 47 = .ok (.iload_n 1, 1) := by decide +kernel
theorem dX4_write_48 : decode cX4_write 48 = .ok (.iload_n 2, 1) := by decide +kernel
theorem dX4_write_49 : decode cX4_write 49 = .ok (.i2s, 1) := by decide +kernel
theorem dX4_write_50 : decode cX4_write 50 = .ok (.iastore, 1) := by decide +kernel
theorem dX4_write_51 : decode cX4_write 51 = .ok (.goto 10, 3) := by decide +kernel
theorem dX4_write_54 : decode cX4_write 54 = .ok (.aload_n 0, 1) := by decide +kernel
theorem dX4_write_55 : decode cX4_write 55 = .ok (.getfield 9, 3) := by decide +kernel
theorem dX4_write_58 : decode cX4_write 58 = .ok (.iload_n 1, 1) := by decide +kernel
theorem dX4_write_59 : decode cX4_write 59 = .ok (.iload_n 2, 1) := by decide +kernel
theorem dX4_write_60 : decode cX4_write 60 = .ok (.iastore, 1) := by decide +kernel
theorem dX4_write_61 : decode cX4_write 61 = .ok (.return_, 1) := by decide +kernel
theorem dX5_init_0 : decode cX5_init 0 = .ok (.aload_n 0, 1) := by decide +kernel
theorem dX5_init_1 : decode cX5_init 1 = .ok (.invokespecial 3, 3) := by decide +kernel
theorem dX5_init_4 : decode cX5_init 4 = .ok (.aload_n 0, 1) := by decide +kernel
theorem dX5_init_5 : decode cX5_init 5 = .ok (.bipush 30, 2) := by decide +kernel
theorem dX5_init_7 : decode cX5_init 7 = .ok (.newarray .int, 2) := by decide +kernel
theorem dX5_init_9 : decode cX5_init 9 = .ok (.putfield 9, 3) := by decide +kernel
theorem dX5_init_12 : decode cX5_init 12 = .ok (.aload_n 0, 1) := by decide +kernel
theorem dX5_init_13 : decode cX5_init 13 = .ok (.bipush 8, 2) := by decide +kernel
theorem dX5_init_15 : decode cX5_init 15 = .ok (.newarray .int, 2) := by decide +kernel
theorem dX5_init_17 : decode cX5_init 17 = .ok (.putfield 15, 3) := by decide +kernel
theorem dX5_init_20 : decode cX5_init 20 = .ok (.aload_n 0, 1) := by decide +kernel
theorem dX5_init_21 : decode cX5_init 21 = .ok (.aload_n 1, 1) := by decide +kernel
theorem dX5_init_22 : decode cX5_init 22 = .ok (.putfield 18, 3) := by decide +kernel
theorem dX5_init_25 : decode cX5_init 25 = .ok (.return_, 1) := by decide +kernel
set_option maxRecDepth 20000 in
theorem ggX5_lookNow_X2_topOf : GoodIn wsX5_lookNow wsX2_topOf := goodIn_r _ [10, 11, 12, 13, 14, 9, 15, 16, 17, 18, 19, 20, 21, 22, 23, 24, 25, 26, 27, 28, 29, 30, 31, 32, 33, 34, 35, 36, 37, 38, 39, 40, 41, 42, 47, 48, 49, 50, 51, 52, 53, 54, 55, 56, 57, 58, 59, 60, 61, 62, 63, 64, 65] (by decide +kernel) (by decide +kernel)
set_option maxRecDepth 20000 in
theorem gX5_lookNow_X2_topOf : GoodIn wsX5_lookNow (wsV RX5 32 RX2 yX2_topOf wsX2_topOf) := goodIn_app (goodIn_of _ (by decide +kernel)) ggX5_lookNow_X2_topOf
theorem dX5_lookNow_0 : decode cX5_lookNow 0 = .ok (.aload_n 0, 1) := by decide +kernel
theorem dX5_lookNow_1 : decode cX5_lookNow 1 = .ok (.aload_n 0, 1) := by decide +kernel
theorem dX5_lookNow_2 : decode cX5_lookNow 2 = .ok (.getfield 18, 3) := by decide +kernel
theorem dX5_lookNow_5 : decode cX5_lookNow 5 = .ok (.getfield 22, 3) := by decide +kernel
theorem dX5_lookNow_8 : decode cX5_lookNow 8 = .ok (.putfield 28, 3) := by decide +kernel
theorem dX5_lookNow_11 : decode cX5_lookNow 11 = .ok (.iconst 0, 1) := by decide +kernel
theorem dX5_lookNow_12 : decode cX5_lookNow 12 = .ok (.istore_n 1, 1) := by decide +kernel
theorem dX5_lookNow_13 : decode cX5_lookNow 13 = .ok (.iload_n 1, 1) := by decide +kernel
theorem dX5_lookNow_14 : decode cX5_lookNow 14 = .ok (.aload_n 0, 1) := by decide +kernel
theorem dX5_lookNow_15 : decode cX5_lookNow 15 = .ok (.getfield 18, 3) := by decide +kernel
theorem dX5_lookNow_18 : decode cX5_lookNow 18 = .ok (.getfield 29, 3) := by decide +kernel
theorem dX5_lookNow_21 : decode cX5_lookNow 21 = .ok (.if_icmp .ge 23, 3) := by decide +kernel
theorem dX5_lookNow_24 : decode cX5_lookNow 24 = .ok (.aload_n 0, 1) := by decide +kernel
theorem dX5_lookNow_25 : decode cX5_lookNow 25 = .ok (.getfield 9, 3) := by decide +kernel
theorem dX5_lookNow_28 : decode cX5_lookNow 28 = .ok (.iload_n 1, 1) := by decide +kernel
theorem dX5_lookNow_29 : decode cX5_lookNow 29 = .ok (.aload_n 0, 1) := by decide +kernel
theorem dX5_lookNow_30 : decode cX5_lookNow 30 = .ok (.getfield 18, 3) := by decide +kernel
theorem dX5_lookNow_33 : decode cX5_lookNow 33 = .ok (.iload_n 1, 1) := by decide +kernel
theorem dX5_lookNow_34 : decode cX5_lookNow 34 = .ok (.invokevirtual 32, 3) := by decide +kernel
theorem dX5_lookNow_37 : decode cX5_lookNow 37 = .ok (.iastore, 1) := by decide +kernel
theorem dX5_lookNow_38 : decode cX5_lookNow 38 = .ok (.iinc 1 1, 3) := by decide +kernel
theorem dX5_lookNow_41 : decode cX5_lookNow 41 = .ok (.goto (-28), 3) := by decide +kernel
theorem dX5_lookNow_44 : decode cX5_lookNow 44 = .ok (.return_, 1) := by decide +kernel
set_option maxRecDepth 20000 in
theorem ggX5_lookWithTrees_X2_treeTall : GoodIn wsX5_lookWithTrees wsX2_treeTall := goodIn_r _ [11, 12, 13, 14, 15, 16, 21, 22, 23, 24, 25, 26, 27, 28, 29, 30, 31, 32, 33, 34, 35] (by decide +kernel) (by decide +kernel)
set_option maxRecDepth 20000 in
theorem gX5_lookWithTrees_X2_treeTall : GoodIn wsX5_lookWithTrees (wsV RX5 51 RX2 yX2_treeTall wsX2_treeTall) := goodIn_app (goodIn_of _ (by decide +kernel)) ggX5_lookWithTrees_X2_treeTall
theorem dX5_lookWithTrees_0 : decode cX5_lookWithTrees 0 = .ok (.iconst 0, 1) := by decide +kernel
theorem dX5_lookWithTrees_1 : decode cX5_lookWithTrees 1 = .ok (.istore_n 3, 1) := by decide +kernel
theorem dX5_lookWithTrees_2 : decode cX5_lookWithTrees 2 = .ok (.iload_n 3, 1) := by decide +kernel
theorem dX5_lookWithTrees_3 : decode cX5_lookWithTrees 3 = .ok (.aload_n 0, 1) := by decide +kernel
theorem dX5_lookWithTrees_4 : decode cX5_lookWithTrees 4 = .ok (.getfield 18, 3) := by decide +kernel
theorem dX5_lookWithTrees_7 : decode cX5_lookWithTrees 7 = .ok (.getfield 36, 3) := by decide +kernel
theorem dX5_lookWithTrees_10 : decode cX5_lookWithTrees 10 = .ok (.if_icmp .ge 51, 3) := by decide +kernel
theorem dX5_lookWithTrees_13 : decode cX5_lookWithTrees 13 = .ok (.aload_n 0, 1) := by decide +kernel
theorem dX5_lookWithTrees_14 : decode cX5_lookWithTrees 14 = .ok (.getfield 18, 3) := by decide +kernel
theorem dX5_lookWithTrees_17 : decode cX5_lookWithTrees 17 = .ok (.getfield 39, 3) := by decide +kernel
theorem dX5_lookWithTrees_20 : decode cX5_lookWithTrees 20 = .ok (.iload_n 3, 1) := by decide +kernel
theorem dX5_lookWithTrees_21 : decode cX5_lookWithTrees 21 = .ok (.aaload, 1) := by decide +kernel
theorem dX5_lookWithTrees_22 : decode cX5_lookWithTrees 22 = .ok (.getfield 43, 3) := by decide +kernel
theorem dX5_lookWithTrees_25 : decode cX5_lookWithTrees 25 = .ok (.istore 4, 2) := by decide +kernel
theorem dX5_lookWithTrees_27 : decode cX5_lookWithTrees 27 = .ok (.aload_n 0, 1) := by decide +kernel
theorem dX5_lookWithTrees_28 : decode cX5_lookWithTrees 28 = .ok (.getfield 9, 3) := by decide +kernel
theorem dX5_lookWithTrees_31 : decode cX5_lookWithTrees 31 = .ok (.iload 4, 2) := by decide +kernel
theorem dX5_lookWithTrees_33 : decode cX5_lookWithTrees 33 = .ok (.aload_n 0, 1) := by decide +kernel
theorem dX5_lookWithTrees_34 : decode cX5_lookWithTrees 34 = .ok (.getfield 18, 3) := by decide +kernel
theorem dX5_lookWithTrees_37 : decode cX5_lookWithTrees 37 = .ok (.getfield 48, 3) := by decide +kernel
theorem dX5_lookWithTrees_40 : decode cX5_lookWithTrees 40 = .ok (.iload 4, 2) := by decide +kernel
theorem dX5_lookWithTrees_42 : decode cX5_lookWithTrees 42 = .ok (.iaload, 1) := by decide +kernel
theorem dX5_lookWithTrees_43 : decode cX5_lookWithTrees 43 = .ok (.aload_n 0, 1) := by decide +kernel
theorem dX5_lookWithTrees_44 : decode cX5_lookWithTrees 44 = .ok (.getfield 18, 3) := by decide +kernel
theorem dX5_lookWithTrees_47 : decode cX5_lookWithTrees 47 = .ok (.iload_n 3, 1) := by decide +kernel
theorem dX5_lookWithTrees_48 : decode cX5_lookWithTrees 48 = .ok (.iload_n 1, 1) := by decide +kernel
theorem dX5_lookWithTrees_49 : decode cX5_lookWithTrees 49 = .ok (.iload_n 2, 1) := by decide +kernel
theorem dX5_lookWithTrees_50 : decode cX5_lookWithTrees 50 = .ok (.invokevirtual 51, 3) := by decide +kernel
theorem dX5_lookWithTrees_53 : decode cX5_lookWithTrees 53 = .ok (.iadd, 1) := by decide +kernel
theorem dX5_lookWithTrees_54 : decode cX5_lookWithTrees 54 = .ok (.iastore, 1) := by decide +kernel
theorem dX5_lookWithTrees_55 : decode cX5_lookWithTrees 55 = .ok (.iinc 3 1, 3) := by decide +kernel
theorem dX5_lookWithTrees_58 : decode cX5_lookWithTrees 58 = .ok (.goto (-56), 3) := by decide +kernel
theorem dX5_lookWithTrees_61 : decode cX5_lookWithTrees 61 = .ok (.return_, 1) := by decide +kernel
set_option maxRecDepth 20000 in
theorem ggX5_isClear_X8_greatestCommon : GoodIn wsX5_isClear wsX8_greatestCommon := goodIn_r _ [14, 15, 8, 5, 9] (by decide +kernel) (by decide +kernel)
set_option maxRecDepth 20000 in
theorem gX5_isClear_X8_greatestCommon_n67 : GoodIn wsX5_isClear (wsX8_greatestCommon) := ggX5_isClear_X8_greatestCommon
theorem dX5_isClear_0 : decode cX5_isClear 0 = .ok (.aload_n 0, 1) := by decide +kernel
theorem dX5_isClear_1 : decode cX5_isClear 1 = .ok (.getfield 18, 3) := by decide +kernel
theorem dX5_isClear_4 : decode cX5_isClear 4 = .ok (.getfield 55, 3) := by decide +kernel
theorem dX5_isClear_7 : decode cX5_isClear 7 = .ok (.istore_n 3, 1) := by decide +kernel
theorem dX5_isClear_8 : decode cX5_isClear 8 = .ok (.iload_n 3, 1) := by decide +kernel
theorem dX5_isClear_9 : decode cX5_isClear 9 = .ok (.iconst 1, 1) := by decide +kernel
theorem dX5_isClear_10 : decode cX5_isClear 10 = .ok (.if_icmp .ge 5, 3) := by decide +kernel
theorem dX5_isClear_13 : decode cX5_isClear 13 = .ok (.iconst 0, 1) := by decide +kernel
theorem dX5_isClear_14 : decode cX5_isClear 14 = .ok (.ireturn, 1) := by decide +kernel
theorem dX5_isClear_15 : decode cX5_isClear 15 = .ok (.iload_n 2, 1) := by decide +kernel
theorem dX5_isClear_16 : decode cX5_isClear 16 = .ok (.iload_n 3, 1) := by decide +kernel
theorem dX5_isClear_17 : decode cX5_isClear 17 = .ok (.idiv, 1) := by decide +kernel
theorem dX5_isClear_18 : decode cX5_isClear 18 = .ok (.iload_n 1, 1) := by decide +kernel
theorem dX5_isClear_19 : decode cX5_isClear 19 = .ok (.iload_n 3, 1) := by decide +kernel
theorem dX5_isClear_20 : decode cX5_isClear 20 = .ok (.idiv, 1) := by decide +kernel
theorem dX5_isClear_21 : decode cX5_isClear 21 = .ok (.isub, 1) := by decide +kernel
theorem dX5_isClear_22 : decode cX5_isClear 22 = .ok (.invokestatic 58, 3) := by decide +kernel
theorem dX5_isClear_25 : decode cX5_isClear 25 = .ok (.istore 4, 2) := by decide +kernel
theorem dX5_isClear_27 : decode cX5_isClear 27 = .ok (.iload_n 2, 1) := by decide +kernel
theorem dX5_isClear_28 : decode cX5_isClear 28 = .ok (.iload_n 3, 1) := by decide +kernel
theorem dX5_isClear_29 : decode cX5_isClear 29 = .ok (.irem, 1) := by decide +kernel
theorem dX5_isClear_30 : decode cX5_isClear 30 = .ok (.iload_n 1, 1) := by decide +kernel
theorem dX5_isClear_31 : decode cX5_isClear 31 = .ok (.iload_n 3, 1) := by decide +kernel
theorem dX5_isClear_32 : decode cX5_isClear 32 = .ok (.irem, 1) := by decide +kernel
theorem dX5_isClear_33 : decode cX5_isClear 33 = .ok (.isub, 1) := by decide +kernel
theorem dX5_isClear_34 : decode cX5_isClear 34 = .ok (.invokestatic 58, 3) := by decide +kernel
theorem dX5_isClear_37 : decode cX5_isClear 37 = .ok (.istore 5, 2) := by decide +kernel
theorem dX5_isClear_39 : decode cX5_isClear 39 = .ok (.iload 4, 2) := by decide +kernel
theorem dX5_isClear_41 : decode cX5_isClear 41 = .ok (.iload 5, 2) := by decide +kernel
theorem dX5_isClear_43 : decode cX5_isClear 43 = .ok (.invokestatic 63, 3) := by decide +kernel
theorem dX5_isClear_46 : decode cX5_isClear 46 = .ok (.aload_n 0, 1) := by decide +kernel
theorem dX5_isClear_47 : decode cX5_isClear 47 = .ok (.getfield 28, 3) := by decide +kernel
theorem dX5_isClear_50 : decode cX5_isClear 50 = .ok (.if_icmp .le 5, 3) := by decide +kernel
theorem dX5_isClear_53 : decode cX5_isClear 53 = .ok (.iconst 0, 1) := by decide +kernel
theorem dX5_isClear_54 : decode cX5_isClear 54 = .ok (.ireturn, 1) := by decide +kernel
theorem dX5_isClear_55 : decode cX5_isClear 55 = .ok (.iload 4, 2) := by decide +kernel
theorem dX5_isClear_57 : decode cX5_isClear 57 = .ok (.iload 5, 2) := by decide +kernel
theorem dX5_isClear_59 : decode cX5_isClear 59 = .ok (.invokestatic 67, 3) := by decide +kernel
theorem dX5_isClear_62 : decode cX5_isClear 62 = .ok (.istore 6, 2) := by decide +kernel
theorem dX5_isClear_64 : decode cX5_isClear 64 = .ok (.iload_n 2, 1) := by decide +kernel
theorem dX5_isClear_65 : decode cX5_isClear 65 = .ok (.iload_n 1, 1) := by decide +kernel
theorem dX5_isClear_66 : decode cX5_isClear 66 = .ok (.isub, 1) := by decide +kernel
theorem dX5_isClear_67 : decode cX5_isClear 67 = .ok (.iload 6, 2) := by decide +kernel
theorem dX5_isClear_69 : decode cX5_isClear 69 = .ok (.idiv, 1) := by decide +kernel
theorem dX5_isClear_70 : decode cX5_isClear 70 = .ok (.istore 7, 2) := by decide +kernel
theorem dX5_isClear_72 : decode cX5_isClear 72 = .ok (.iconst 1, 1) := by decide +kernel
theorem dX5_isClear_73 : decode cX5_isClear 73 = .ok (.istore 8, 2) := by decide +kernel
theorem dX5_isClear_75 : decode cX5_isClear 75 = .ok (.iload 8, 2) := by decide +kernel
theorem dX5_isClear_77 : decode cX5_isClear 77 = .ok (.iload 6, 2) := by decide +kernel
theorem dX5_isClear_79 : decode cX5_isClear 79 = .ok (.if_icmp .ge 55, 3) := by decide +kernel
theorem dX5_isClear_82 : decode cX5_isClear 82 = .ok (.aload_n 0, 1) := by decide +kernel
theorem dX5_isClear_83 : decode cX5_isClear 83 = .ok (.getfield 9, 3) := by decide +kernel
theorem dX5_isClear_86 : decode cX5_isClear 86 = .ok (.iload_n 1, 1) := by decide +kernel
theorem dX5_isClear_87 : decode cX5_isClear 87 = .ok (.iload 8, 2) := by decide +kernel
theorem dX5_isClear_89 : decode cX5_isClear 89 = .ok (.iload 7, 2) := by decide +kernel
theorem dX5_isClear_91 : decode cX5_isClear 91 = .ok (.imul, 1) := by decide +kernel
theorem dX5_isClear_92 : decode cX5_isClear 92 = .ok (.iadd, 1) := by decide +kernel
theorem dX5_isClear_93 : decode cX5_isClear 93 = .ok (.iaload, 1) := by decide +kernel
theorem dX5_isClear_94 : decode cX5_isClear 94 = .ok (.iload 6, 2) := by decide +kernel
theorem dX5_isClear_96 : decode cX5_isClear 96 = .ok (.imul, 1) := by decide +kernel
theorem dX5_isClear_97 : decode cX5_isClear 97 = .ok (.aload_n 0, 1) := by decide +kernel
theorem dX5_isClear_98 : decode cX5_isClear 98 = .ok (.getfield 9, 3) := by decide +kernel
theorem dX5_isClear_101 : decode cX5_isClear 101 = .ok (.iload_n 1, 1) := by decide +kernel
theorem dX5_isClear_102 : decode cX5_isClear 102 = .ok (.iaload, 1) := by decide +kernel
theorem dX5_isClear_103 : decode cX5_isClear 103 = .ok (.iload 6, 2) := by decide +kernel
theorem dX5_isClear_105 : decode cX5_isClear 105 = .ok (.imul, 1) := by decide +kernel
theorem dX5_isClear_106 : decode cX5_isClear 106 = .ok (.iload 8, 2) := by decide +kernel
theorem dX5_isClear_108 : decode cX5_isClear 108 = .ok (.aload_n 0, 1) := by decide +kernel
theorem dX5_isClear_109 : decode cX5_isClear 109 = .ok (.getfield 9, 3) := by decide +kernel
theorem dX5_isClear_112 : decode cX5_isClear 112 = .ok (.iload_n 2, 1) := by decide +kernel
theorem dX5_isClear_113 : decode cX5_isClear 113 = .ok (.iaload, 1) := by decide +kernel
theorem dX5_isClear_114 : decode cX5_isClear 114 = .ok (.aload_n 0, 1) := by decide +kernel
theorem dX5_isClear_115 : decode cX5_isClear 115 = .ok (.getfield 9, 3) := by decide +kernel
theorem dX5_isClear_118 : decode cX5_isClear 118 = .ok (.iload_n 1, 1) := by decide +kernel
theorem dX5_isClear_119 : decode cX5_isClear 119 = .ok (.iaload, 1) := by decide +kernel
theorem dX5_isClear_120 : decode cX5_isClear 120 = .ok (.isub, 1) := by decide +kernel
theorem dX5_isClear_121 : decode cX5_isClear 121 = .ok (.imul, 1) := by decide +kernel
theorem dX5_isClear_122 : decode cX5_isClear 122 = .ok (.iadd, 1) := by decide +kernel
theorem dX5_isClear_123 : decode cX5_isClear 123 = .ok (.if_icmp .lt 5, 3) := by decide +kernel
theorem dX5_isClear_126 : decode cX5_isClear 126 = .ok (.iconst 0, 1) := by decide +kernel
theorem dX5_isClear_127 : decode cX5_isClear 127 = .ok (.ireturn, 1) := by decide +kernel
theorem dX5_isClear_128 : decode cX5_isClear 128 = .ok (.iinc 8 1, 3) := by decide +kernel
theorem dX5_isClear_131 : decode cX5_isClear 131 = .ok (.goto (-56), 3) := by decide +kernel
theorem dX5_isClear_134 : decode cX5_isClear 134 = .ok (.iconst 1, 1) := by decide +kernel
theorem dX5_isClear_135 : decode cX5_isClear 135 = .ok (.ireturn, 1) := by decide +kernel
set_option maxRecDepth 20000 in
theorem ggX5_numberFrom_X5_isClear : GoodIn wsX5_numberFrom wsX5_isClear := goodIn_r _ [9, 1, 10, 11, 12, 13, 14, 15, 16, 17, 18, 19, 20, 21, 22, 23, 24, 25, 26, 27, 28, 29, 30, 31, 32, 33, 34, 35, 36, 37, 38, 39, 40] (by decide +kernel) (by decide +kernel)
set_option maxRecDepth 20000 in
theorem gX5_numberFrom_X5_isClear : GoodIn wsX5_numberFrom (wsV RX5 80 RX5 yX5_isClear wsX5_isClear) := goodIn_app (goodIn_of _ (by decide +kernel)) ggX5_numberFrom_X5_isClear
theorem dX5_numberFrom_0 : decode cX5_numberFrom 0 = .ok (.iconst 0, 1) := by decide +kernel
theorem dX5_numberFrom_1 : decode cX5_numberFrom 1 = .ok (.istore_n 2, 1) := by decide +kernel
theorem dX5_numberFrom_2 : decode cX5_numberFrom 2 = .ok (.iconst 0, 1) := by decide +kernel
theorem dX5_numberFrom_3 : decode cX5_numberFrom 3 = .ok (.istore_n 3, 1) := by decide +kernel
theorem dX5_numberFrom_4 : decode cX5_numberFrom 4 = .ok (.iload_n 3, 1) := by decide +kernel
theorem dX5_numberFrom_5 : decode cX5_numberFrom 5 = .ok (.aload_n 0, 1) := by decide +kernel
theorem dX5_numberFrom_6 : decode cX5_numberFrom 6 = .ok (.getfield 18, 3) := by decide +kernel
theorem dX5_numberFrom_9 : decode cX5_numberFrom 9 = .ok (.getfield 70, 3) := by decide +kernel
theorem dX5_numberFrom_12 : decode cX5_numberFrom 12 = .ok (.if_icmp .ge 42, 3) := by decide +kernel
theorem dX5_numberFrom_15 : decode cX5_numberFrom 15 = .ok (.aload_n 0, 1) := by decide +kernel
theorem dX5_numberFrom_16 : decode cX5_numberFrom 16 = .ok (.getfield 18, 3) := by decide +kernel
theorem dX5_numberFrom_19 : decode cX5_numberFrom 19 = .ok (.getfield 73, 3) := by decide +kernel
theorem dX5_numberFrom_22 : decode cX5_numberFrom 22 = .ok (.iload_n 3, 1) := by decide +kernel
theorem dX5_numberFrom_23 : decode cX5_numberFrom 23 = .ok (.aaload, 1) := by decide +kernel
theorem dX5_numberFrom_24 : decode cX5_numberFrom 24 = .ok (.getfield 77, 3) := by decide +kernel
theorem dX5_numberFrom_27 : decode cX5_numberFrom 27 = .ok (.istore 4, 2) := by decide +kernel
theorem dX5_numberFrom_29 : decode cX5_numberFrom 29 = .ok (.iload 4, 2) := by decide +kernel
theorem dX5_numberFrom_31 : decode cX5_numberFrom 31 = .ok (.iload_n 1, 1) := by decide +kernel
theorem dX5_numberFrom_32 : decode cX5_numberFrom 32 = .ok (.if_icmp .eq 16, 3) := by decide +kernel
theorem dX5_numberFrom_35 : decode cX5_numberFrom 35 = .ok (.aload_n 0, 1) := by decide +kernel
theorem dX5_numberFrom_36 : decode cX5_numberFrom 36 = .ok (.iload_n 1, 1) := by decide +kernel
theorem dX5_numberFrom_37 : decode cX5_numberFrom 37 = .ok (.iload 4, 2) := by decide +kernel
theorem dX5_numberFrom_39 : decode cX5_numberFrom 39 = .ok (.invokevirtual 80, 3) := by decide +kernel
theorem dX5_numberFrom_42 : decode cX5_numberFrom 42 = .ok (.ifCond .eq 6, 3) := by decide +kernel
theorem dX5_numberFrom_45 : decode cX5_numberFrom 45 = .ok (.iinc 2 1, 3) := by decide +kernel
theorem dX5_numberFrom_48 : decode cX5_numberFrom 48 = .ok (.iinc 3 1, 3) := by decide +kernel
theorem dX5_numberFrom_51 : decode cX5_numberFrom 51 = .ok (.goto (-47), 3) := by decide +kernel
theorem dX5_numberFrom_54 : decode cX5_numberFrom 54 = .ok (.iload_n 2, 1) := by decide +kernel
theorem dX5_numberFrom_55 : decode cX5_numberFrom 55 = .ok (.ireturn, 1) := by decide +kernel
set_option maxRecDepth 20000 in
theorem ggX5_numberOf_X5_numberFrom : GoodIn wsX5_numberOf wsX5_numberFrom := goodIn_r _ [8, 1, 9, 2, 3, 10, 11, 12, 7, 13, 14, 15, 16, 17, 18, 19, 20, 21, 22, 23, 24, 25, 26, 27, 28, 29, 30, 31, 32, 33, 34, 35, 36, 37, 38, 39, 40, 41, 42, 43, 44, 45, 46, 47, 48] (by decide +kernel) (by decide +kernel)
set_option maxRecDepth 20000 in
theorem gX5_numberOf_X5_numberFrom : GoodIn wsX5_numberOf (wsV RX5 84 RX5 yX5_numberFrom wsX5_numberFrom) := goodIn_app (goodIn_of _ (by decide +kernel)) ggX5_numberOf_X5_numberFrom
theorem dX5_numberOf_0 : decode cX5_numberOf 0 = .ok (.aload_n 0, 1) := by decide +kernel
theorem dX5_numberOf_1 : decode cX5_numberOf 1 = .ok (.aload_n 0, 1) := by decide +kernel
theorem dX5_numberOf_2 : decode cX5_numberOf 2 = .ok (.getfield 18, 3) := by decide +kernel
theorem dX5_numberOf_5 : decode cX5_numberOf 5 = .ok (.getfield 73, 3) := by decide +kernel
theorem dX5_numberOf_8 : decode cX5_numberOf 8 = .ok (.iload_n 1, 1) := by decide +kernel
theorem dX5_numberOf_9 : decode cX5_numberOf 9 = .ok (.aaload, 1) := by decide +kernel
theorem dX5_numberOf_10 : decode cX5_numberOf 10 = .ok (.getfield 77, 3) := by decide +kernel
theorem dX5_numberOf_13 : decode cX5_numberOf 13 = .ok (.invokevirtual 84, 3) := by decide +kernel
theorem dX5_numberOf_16 : decode cX5_numberOf 16 = .ok (.ireturn, 1) := by decide +kernel
set_option maxRecDepth 20000 in
theorem ggX5_numberIf_X5_numberFrom : GoodIn wsX5_numberIf wsX5_numberFrom := goodIn_r _ [6, 7, 8, 9, 10, 11, 12, 13, 5, 14, 15, 16, 17, 18, 19, 20, 21, 22, 23, 1, 24, 25, 26, 27, 28, 29, 30, 31, 32, 33, 34, 35, 36, 37, 38, 39, 40, 41, 42, 43, 44, 45, 46, 47, 48] (by decide +kernel) (by decide +kernel)
set_option maxRecDepth 20000 in
theorem gX5_numberIf_X5_numberFrom : GoodIn wsX5_numberIf (wsV RX5 84 RX5 yX5_numberFrom wsX5_numberFrom) := goodIn_app (goodIn_of _ (by decide +kernel)) ggX5_numberIf_X5_numberFrom
theorem dX5_numberIf_0 : decode cX5_numberIf 0 = .ok (.aload_n 0, 1) := by decide +kernel
theorem dX5_numberIf_1 : decode cX5_numberIf 1 = .ok (.getfield 9, 3) := by decide +kernel
theorem dX5_numberIf_4 : decode cX5_numberIf 4 = .ok (.iload_n 2, 1) := by decide +kernel
theorem dX5_numberIf_5 : decode cX5_numberIf 5 = .ok (.iaload, 1) := by decide +kernel
theorem dX5_numberIf_6 : decode cX5_numberIf 6 = .ok (.istore 4, 2) := by decide +kernel
theorem dX5_numberIf_8 : decode cX5_numberIf 8 = .ok (.aload_n 0, 1) := by decide +kernel
theorem dX5_numberIf_9 : decode cX5_numberIf 9 = .ok (.getfield 9, 3) := by decide +kernel
theorem dX5_numberIf_12 : decode cX5_numberIf 12 = .ok (.iload_n 2, 1) := by decide +kernel
theorem dX5_numberIf_13 : decode cX5_numberIf 13 = .ok (.iload_n 3, 1) := by decide +kernel
theorem dX5_numberIf_14 : decode cX5_numberIf 14 = .ok (.iastore, 1) := by decide +kernel
theorem dX5_numberIf_15 : decode cX5_numberIf 15 = .ok (.aload_n 0, 1) := by decide +kernel
theorem dX5_numberIf_16 : decode cX5_numberIf 16 = .ok (.iload_n 1, 1) := by decide +kernel
theorem dX5_numberIf_17 : decode cX5_numberIf 17 = .ok (.invokevirtual 84, 3) := by decide +kernel
theorem dX5_numberIf_20 : decode cX5_numberIf 20 = .ok (.istore 5, 2) := by decide +kernel
theorem dX5_numberIf_22 : decode cX5_numberIf 22 = .ok (.aload_n 0, 1) := by decide +kernel
theorem dX5_numberIf_23 : decode cX5_numberIf 23 = .ok (.getfield 9, 3) := by decide +kernel
theorem dX5_numberIf_26 : decode cX5_numberIf 26 = .ok (.iload_n 2, 1) := by decide +kernel
theorem dX5_numberIf_27 : decode cX5_numberIf 27 = .ok (.iload 4, 2) := by decide +kernel
theorem dX5_numberIf_29 : decode cX5_numberIf 29 = .ok (.iastore, 1) := by decide +kernel
theorem dX5_numberIf_30 : decode cX5_numberIf 30 = .ok (.iload 5, 2) := by decide +kernel
theorem dX5_numberIf_32 : decode cX5_numberIf 32 = .ok (.ireturn, 1) := by decide +kernel
set_option maxRecDepth 20000 in
theorem ggX5_countAll_X5_lookNow : GoodIn wsX5_countAll wsX5_lookNow := goodIn_r _ [8, 1, 9, 10, 11, 12, 13, 14, 15, 16, 17, 18, 19, 20, 21, 22, 23, 24, 25, 26, 27, 28, 29, 30, 31, 32, 33, 34, 35, 36, 37, 38, 39, 40, 41, 42, 43, 44, 45, 46, 47, 48, 49, 75, 76, 77, 78, 79, 80, 81, 82, 83, 84, 85, 86, 87, 88, 89, 90, 91, 92, 93, 94, 95, 96, 97] (by decide +kernel) (by decide +kernel)
set_option maxRecDepth 20000 in
theorem gX5_countAll_X5_lookNow : GoodIn wsX5_countAll (wsV RX5 87 RX5 yX5_lookNow wsX5_lookNow) := goodIn_app (goodIn_of _ (by decide +kernel)) ggX5_countAll_X5_lookNow
set_option maxRecDepth 20000 in
theorem ggX5_countAll_X5_numberOf : GoodIn wsX5_countAll wsX5_numberOf := goodIn_r _ [53, 1, 54, 55, 56, 57, 58, 7, 59, 2, 60, 61, 62, 63, 64, 65, 66, 67, 68, 69, 70, 71, 10, 12, 72, 37, 73, 74, 75, 76, 77, 78, 79, 80, 81, 82, 83, 84, 85, 86, 87, 88, 89, 90, 91, 92, 93, 94, 95] (by decide +kernel) (by decide +kernel)
set_option maxRecDepth 20000 in
theorem gX5_countAll_X5_numberOf : GoodIn wsX5_countAll (wsV RX5 90 RX5 yX5_numberOf wsX5_numberOf) := goodIn_app (goodIn_of _ (by decide +kernel)) ggX5_countAll_X5_numberOf
theorem dX5_countAll_0 : decode cX5_countAll 0 = .ok (.aload_n 0, 1) := by decide +kernel
theorem dX5_countAll_1 : decode cX5_countAll 1 = .ok (.invokevirtual 87, 3) := by decide +kernel
theorem dX5_countAll_4 : decode cX5_countAll 4 = .ok (.iconst 0, 1) := by decide +kernel
theorem dX5_countAll_5 : decode cX5_countAll 5 = .ok (.istore_n 1, 1) := by decide +kernel
theorem dX5_countAll_6 : decode cX5_countAll 6 = .ok (.iload_n 1, 1) := by decide +kernel
theorem dX5_countAll_7 : decode cX5_countAll 7 = .ok (.aload_n 0, 1) := by decide +kernel
theorem dX5_countAll_8 : decode cX5_countAll 8 = .ok (.getfield 18, 3) := by decide +kernel
theorem dX5_countAll_11 : decode cX5_countAll 11 = .ok (.getfield 70, 3) := by decide +kernel
theorem dX5_countAll_14 : decode cX5_countAll 14 = .ok (.if_icmp .ge 20, 3) := by decide +kernel
theorem dX5_countAll_17 : decode cX5_countAll 17 = .ok (.aload_n 0, 1) := by decide +kernel
theorem dX5_countAll_18 : decode cX5_countAll 18 = .ok (.getfield 15, 3) := by decide +kernel
theorem dX5_countAll_21 : decode cX5_countAll 21 = .ok (.iload_n 1, 1) := by decide +kernel
theorem dX5_countAll_22 : decode cX5_countAll 22 = .ok (.aload_n 0, 1) := by decide +kernel
theorem dX5_countAll_23 : decode cX5_countAll 23 = .ok (.iload_n 1, 1) := by decide +kernel
theorem dX5_countAll_24 : decode cX5_countAll 24 = .ok (.invokevirtual 90, 3) := by decide +kernel
theorem dX5_countAll_27 : decode cX5_countAll 27 = .ok (.iastore, 1) := by decide +kernel
theorem dX5_countAll_28 : decode cX5_countAll 28 = .ok (.iinc 1 1, 3) := by decide +kernel
theorem dX5_countAll_31 : decode cX5_countAll 31 = .ok (.goto (-25), 3) := by decide +kernel
theorem dX5_countAll_34 : decode cX5_countAll 34 = .ok (.return_, 1) := by decide +kernel
theorem dX5_sumOfNumbers_0 : decode cX5_sumOfNumbers 0 = .ok (.iconst 0, 1) := by decide +kernel
theorem dX5_sumOfNumbers_1 : decode cX5_sumOfNumbers 1 = .ok (.istore_n 1, 1) := by decide +kernel
theorem dX5_sumOfNumbers_2 : decode cX5_sumOfNumbers 2 = .ok (.iconst 0, 1) := by decide +kernel
theorem dX5_sumOfNumbers_3 : decode cX5_sumOfNumbers 3 = .ok (.istore_n 2, 1) := by decide +kernel
theorem dX5_sumOfNumbers_4 : decode cX5_sumOfNumbers 4 = .ok (.iload_n 2, 1) := by decide +kernel
theorem dX5_sumOfNumbers_5 : decode cX5_sumOfNumbers 5 = .ok (.aload_n 0, 1) := by decide +kernel
theorem dX5_sumOfNumbers_6 : decode cX5_sumOfNumbers 6 = .ok (.getfield 18, 3) := by decide +kernel
theorem dX5_sumOfNumbers_9 : decode cX5_sumOfNumbers 9 = .ok (.getfield 70, 3) := by decide +kernel
theorem dX5_sumOfNumbers_12 : decode cX5_sumOfNumbers 12 = .ok (.if_icmp .ge 18, 3) := by decide +kernel
theorem dX5_sumOfNumbers_15 : decode cX5_sumOfNumbers 15 = .ok (.iload_n 1, 1) := by decide +kernel
theorem dX5_sumOfNumbers_16 : decode cX5_sumOfNumbers 16 = .ok (.aload_n 0, 1) := by decide +kernel
theorem dX5_sumOfNumbers_17 : decode cX5_sumOfNumbers 17 = .ok (.getfield 15, 3) := by decide +kernel
theorem dX5_sumOfNumbers_20 : decode cX5_sumOfNumbers 20 = .ok (.iload_n 2, 1) := by decide +kernel
theorem dX5_sumOfNumbers_21 : decode cX5_sumOfNumbers 21 = .ok (.iaload, 1) := by decide +kernel
theorem dX5_sumOfNumbers_22 : decode cX5_sumOfNumbers 22 = .ok (.iadd, 1) := by decide +kernel
theorem dX5_sumOfNumbers_23 : decode cX5_sumOfNumbers 23 = .ok (.istore_n 1, 1) := by decide +kernel
theorem dX5_sumOfNumbers_24 : decode cX5_sumOfNumbers 24 = .ok (.iinc 2 1, 3) := by decide +kernel
theorem dX5_sumOfNumbers_27 : decode cX5_sumOfNumbers 27 = .ok (.goto (-23), 3) := by decide +kernel
theorem dX5_sumOfNumbers_30 : decode cX5_sumOfNumbers 30 = .ok (.iload_n 1, 1) := by decide +kernel
theorem dX5_sumOfNumbers_31 : decode cX5_sumOfNumbers 31 = .ok (.ireturn, 1) := by decide +kernel
theorem dX5_housesWith_0 : decode cX5_housesWith 0 = .ok (.iconst 0, 1) := by decide +kernel
theorem dX5_housesWith_1 : decode cX5_housesWith 1 = .ok (.istore_n 2, 1) := by decide +kernel
theorem dX5_housesWith_2 : decode cX5_housesWith 2 = .ok (.iconst 0, 1) := by decide +kernel
theorem dX5_housesWith_3 : decode cX5_housesWith 3 = .ok (.istore_n 3, 1) := by decide +kernel
theorem dX5_housesWith_4 : decode cX5_housesWith 4 = .ok (.iload_n 3, 1) := by decide +kernel
theorem dX5_housesWith_5 : decode cX5_housesWith 5 = .ok (.aload_n 0, 1) := by decide +kernel
theorem dX5_housesWith_6 : decode cX5_housesWith 6 = .ok (.getfield 18, 3) := by decide +kernel
theorem dX5_housesWith_9 : decode cX5_housesWith 9 = .ok (.getfield 70, 3) := by decide +kernel
theorem dX5_housesWith_12 : decode cX5_housesWith 12 = .ok (.if_icmp .ge 25, 3) := by decide +kernel
theorem dX5_housesWith_15 : decode cX5_housesWith 15 = .ok (.aload_n 0, 1) := by decide +kernel
theorem dX5_housesWith_16 : decode cX5_housesWith 16 = .ok (.getfield 15, 3) := by decide +kernel
theorem dX5_housesWith_19 : decode cX5_housesWith 19 = .ok (.iload_n 3, 1) := by decide +kernel
theorem dX5_housesWith_20 : decode cX5_housesWith 20 = .ok (.iaload, 1) := by decide +kernel
theorem dX5_housesWith_21 : decode cX5_housesWith 21 = .ok (.iload_n 1, 1) := by decide +kernel
theorem dX5_housesWith_22 : decode cX5_housesWith 22 = .ok (.if_icmp .ne 9, 3) := by decide +kernel
theorem dX5_housesWith_25 : decode cX5_housesWith 25 = .ok (.iload_n 2, 1) := by decide +kernel
theorem dX5_housesWith_26 : decode cX5_housesWith 26 = .ok (.iconst 1, 1) := by decide +kernel
theorem dX5_housesWith_27 : decode cX5_housesWith 27 = .ok (.iload_n 3, 1) := by decide +kernel
theorem dX5_housesWith_28 : decode cX5_housesWith 28 = .ok (.ishl, 1) := by decide +kernel
theorem dX5_housesWith_29 : decode cX5_housesWith 29 = .ok (.ior, 1) := by decide +kernel
theorem dX5_housesWith_30 : decode cX5_housesWith 30 = .ok (.istore_n 2, 1) := by decide +kernel
theorem dX5_housesWith_31 : decode cX5_housesWith 31 = .ok (.iinc 3 1, 3) := by decide +kernel
theorem dX5_housesWith_34 : decode cX5_housesWith 34 = .ok (.goto (-30), 3) := by decide +kernel
theorem dX5_housesWith_37 : decode cX5_housesWith 37 = .ok (.iload_n 2, 1) := by decide +kernel
theorem dX5_housesWith_38 : decode cX5_housesWith 38 = .ok (.ireturn, 1) := by decide +kernel
set_option maxRecDepth 20000 in
theorem ggX5_seenAmong_X8_isIn : GoodIn wsX5_seenAmong wsX8_isIn := goodIn_r _ [5] (by decide +kernel) (by decide +kernel)
set_option maxRecDepth 20000 in
theorem gX5_seenAmong_X8_isIn_n93 : GoodIn wsX5_seenAmong (wsX8_isIn) := ggX5_seenAmong_X8_isIn
set_option maxRecDepth 20000 in
theorem ggX5_seenAmong_X5_isSeenByOne : GoodIn wsX5_seenAmong wsX5_isSeenByOne := goodIn_r _ [10, 1, 2, 11, 12, 3, 4, 5, 13, 14, 15, 9, 16, 17, 18, 19, 20, 21, 22, 23, 24, 25, 26, 27, 28, 29, 30, 31, 32, 33, 34, 35, 36, 37, 38, 39, 40, 41, 42, 43, 44, 45, 46, 47, 48, 49, 50] (by decide +kernel) (by decide +kernel)
set_option maxRecDepth 20000 in
theorem gX5_seenAmong_X5_isSeenByOne : GoodIn wsX5_seenAmong (wsV RX5 96 RX5 yX5_isSeenByOne wsX5_isSeenByOne) := goodIn_app (goodIn_of _ (by decide +kernel)) ggX5_seenAmong_X5_isSeenByOne
theorem dX5_seenAmong_0 : decode cX5_seenAmong 0 = .ok (.iconst 0, 1) := by decide +kernel
theorem dX5_seenAmong_1 : decode cX5_seenAmong 1 = .ok (.istore_n 3, 1) := by decide +kernel
theorem dX5_seenAmong_2 : decode cX5_seenAmong 2 = .ok (.iconst 0, 1) := by decide +kernel
theorem dX5_seenAmong_3 : decode cX5_seenAmong 3 = .ok (.istore 4, 2) := by decide +kernel
theorem dX5_seenAmong_5 : decode cX5_seenAmong 5 = .ok (.iload 4, 2) := by decide +kernel
theorem dX5_seenAmong_7 : decode cX5_seenAmong 7 = .ok (.aload_n 0, 1) := by decide +kernel
theorem dX5_seenAmong_8 : decode cX5_seenAmong 8 = .ok (.getfield 18, 3) := by decide +kernel
theorem dX5_seenAmong_11 : decode cX5_seenAmong 11 = .ok (.getfield 70, 3) := by decide +kernel
theorem dX5_seenAmong_14 : decode cX5_seenAmong 14 = .ok (.if_icmp .ge 35, 3) := by decide +kernel
theorem dX5_seenAmong_17 : decode cX5_seenAmong 17 = .ok (.iload 4, 2) := by decide +kernel
theorem dX5_seenAmong_19 : decode cX5_seenAmong 19 = .ok (.iload_n 1, 1) := by decide +kernel
theorem dX5_seenAmong_20 : decode cX5_seenAmong 20 = .ok (.invokestatic 93, 3) := by decide +kernel
theorem dX5_seenAmong_23 : decode cX5_seenAmong 23 = .ok (.ifCond .eq 20, 3) := by decide +kernel
theorem dX5_seenAmong_26 : decode cX5_seenAmong 26 = .ok (.aload_n 0, 1) := by decide +kernel
theorem dX5_seenAmong_27 : decode cX5_seenAmong 27 = .ok (.iload 4, 2) := by decide +kernel
theorem dX5_seenAmong_29 : decode cX5_seenAmong 29 = .ok (.iload_n 2, 1) := by decide +kernel
theorem dX5_seenAmong_30 : decode cX5_seenAmong 30 = .ok (.invokevirtual 96, 3) := by decide +kernel
theorem dX5_seenAmong_33 : decode cX5_seenAmong 33 = .ok (.ifCond .eq 10, 3) := by decide +kernel
theorem dX5_seenAmong_36 : decode cX5_seenAmong 36 = .ok (.iload_n 3, 1) := by decide +kernel
theorem dX5_seenAmong_37 : decode cX5_seenAmong 37 = .ok (.iconst 1, 1) := by decide +kernel
theorem dX5_seenAmong_38 : decode cX5_seenAmong 38 = .ok (.iload 4, 2) := by decide +kernel
theorem dX5_seenAmong_40 : decode cX5_seenAmong 40 = .ok (.ishl, 1) := by decide +kernel
theorem dX5_seenAmong_41 : decode cX5_seenAmong 41 = .ok (.ior, 1) := by decide +kernel
theorem dX5_seenAmong_42 : decode cX5_seenAmong 42 = .ok (.istore_n 3, 1) := by decide +kernel
theorem dX5_seenAmong_43 : decode cX5_seenAmong 43 = .ok (.iinc 4 1, 3) := by decide +kernel
theorem dX5_seenAmong_46 : decode cX5_seenAmong 46 = .ok (.goto (-41), 3) := by decide +kernel
theorem dX5_seenAmong_49 : decode cX5_seenAmong 49 = .ok (.iload_n 3, 1) := by decide +kernel
theorem dX5_seenAmong_50 : decode cX5_seenAmong 50 = .ok (.ireturn, 1) := by decide +kernel
set_option maxRecDepth 20000 in
theorem ggX5_isSeenByOne_X8_isIn : GoodIn wsX5_isSeenByOne wsX8_isIn := goodIn_r _ [7] (by decide +kernel) (by decide +kernel)
set_option maxRecDepth 20000 in
theorem gX5_isSeenByOne_X8_isIn_n93 : GoodIn wsX5_isSeenByOne (wsX8_isIn) := ggX5_isSeenByOne_X8_isIn
set_option maxRecDepth 20000 in
theorem ggX5_isSeenByOne_X5_isClear : GoodIn wsX5_isSeenByOne wsX5_isClear := goodIn_r _ [12, 1, 13, 14, 15, 16, 17, 18, 19, 20, 21, 22, 23, 6, 24, 25, 26, 27, 28, 29, 30, 31, 32, 33, 34, 35, 36, 37, 38, 39, 40, 41, 42] (by decide +kernel) (by decide +kernel)
set_option maxRecDepth 20000 in
theorem gX5_isSeenByOne_X5_isClear : GoodIn wsX5_isSeenByOne (wsV RX5 80 RX5 yX5_isClear wsX5_isClear) := goodIn_app (goodIn_of _ (by decide +kernel)) ggX5_isSeenByOne_X5_isClear
theorem dX5_isSeenByOne_0 : decode cX5_isSeenByOne 0 = .ok (.iconst 0, 1) := by decide +kernel
theorem dX5_isSeenByOne_1 : decode cX5_isSeenByOne 1 = .ok (.istore_n 3, 1) := by decide +kernel
theorem dX5_isSeenByOne_2 : decode cX5_isSeenByOne 2 = .ok (.iload_n 3, 1) := by decide +kernel
theorem dX5_isSeenByOne_3 : decode cX5_isSeenByOne 3 = .ok (.aload_n 0, 1) := by decide +kernel
theorem dX5_isSeenByOne_4 : decode cX5_isSeenByOne 4 = .ok (.getfield 18, 3) := by decide +kernel
theorem dX5_isSeenByOne_7 : decode cX5_isSeenByOne 7 = .ok (.getfield 70, 3) := by decide +kernel
theorem dX5_isSeenByOne_10 : decode cX5_isSeenByOne 10 = .ok (.if_icmp .ge 55, 3) := by decide +kernel
theorem dX5_isSeenByOne_13 : decode cX5_isSeenByOne 13 = .ok (.iload_n 3, 1) := by decide +kernel
theorem dX5_isSeenByOne_14 : decode cX5_isSeenByOne 14 = .ok (.iload_n 1, 1) := by decide +kernel
theorem dX5_isSeenByOne_15 : decode cX5_isSeenByOne 15 = .ok (.if_icmp .eq 44, 3) := by decide +kernel
theorem dX5_isSeenByOne_18 : decode cX5_isSeenByOne 18 = .ok (.iload_n 3, 1) := by decide +kernel
theorem dX5_isSeenByOne_19 : decode cX5_isSeenByOne 19 = .ok (.iload_n 2, 1) := by decide +kernel
theorem dX5_isSeenByOne_20 : decode cX5_isSeenByOne 20 = .ok (.invokestatic 93, 3) := by decide +kernel
theorem dX5_isSeenByOne_23 : decode cX5_isSeenByOne 23 = .ok (.ifCond .eq 36, 3) := by decide +kernel
theorem dX5_isSeenByOne_26 : decode cX5_isSeenByOne 26 = .ok (.aload_n 0, 1) := by decide +kernel
theorem dX5_isSeenByOne_27 : decode cX5_isSeenByOne 27 = .ok (.aload_n 0, 1) := by decide +kernel
theorem dX5_isSeenByOne_28 : decode cX5_isSeenByOne 28 = .ok (.getfield 18, 3) := by decide +kernel
theorem dX5_isSeenByOne_31 : decode cX5_isSeenByOne 31 = .ok (.getfield 73, 3) := by decide +kernel
theorem dX5_isSeenByOne_34 : decode cX5_isSeenByOne 34 = .ok (.iload_n 3, 1) := by decide +kernel
theorem dX5_isSeenByOne_35 : decode cX5_isSeenByOne 35 = .ok (.aaload, 1) := by decide +kernel
theorem dX5_isSeenByOne_36 : decode cX5_isSeenByOne 36 = .ok (.getfield 77, 3) := by decide +kernel
theorem dX5_isSeenByOne_39 : decode cX5_isSeenByOne 39 = .ok (.aload_n 0, 1) := by decide +kernel
theorem dX5_isSeenByOne_40 : decode cX5_isSeenByOne 40 = .ok (.getfield 18, 3) := by decide +kernel
theorem dX5_isSeenByOne_43 : decode cX5_isSeenByOne 43 = .ok (.getfield 73, 3) := by decide +kernel
theorem dX5_isSeenByOne_46 : decode cX5_isSeenByOne 46 = .ok (.iload_n 1, 1) := by decide +kernel
theorem dX5_isSeenByOne_47 : decode cX5_isSeenByOne 47 = .ok (.aaload, 1) := by decide +kernel
theorem dX5_isSeenByOne_48 : decode cX5_isSeenByOne 48 = .ok (.getfield 77, 3) := by decide +kernel
theorem dX5_isSeenByOne_51 : decode cX5_isSeenByOne 51 = .ok (.invokevirtual 80, 3) := by decide +kernel
theorem dX5_isSeenByOne_54 : decode cX5_isSeenByOne 54 = .ok (.ifCond .eq 5, 3) := by decide +kernel
theorem dX5_isSeenByOne_57 : decode cX5_isSeenByOne 57 = .ok (.iconst 1, 1) := by decide +kernel
theorem dX5_isSeenByOne_58 : decode cX5_isSeenByOne 58 = .ok (.ireturn, 1) := by decide +kernel
theorem dX5_isSeenByOne_59 : decode cX5_isSeenByOne 59 = .ok (.iinc 3 1, 3) := by decide +kernel
theorem dX5_isSeenByOne_62 : decode cX5_isSeenByOne 62 = .ok (.goto (-60), 3) := by decide +kernel
theorem dX5_isSeenByOne_65 : decode cX5_isSeenByOne 65 = .ok (.iconst 0, 1) := by decide +kernel
theorem dX5_isSeenByOne_66 : decode cX5_isSeenByOne 66 = .ok (.ireturn, 1) := by decide +kernel
theorem dX6_init_0 : decode cX6_init 0 = .ok (.aload_n 0, 1) := by decide +kernel
theorem dX6_init_1 : decode cX6_init 1 = .ok (.invokespecial 3, 3) := by decide +kernel
theorem dX6_init_4 : decode cX6_init 4 = .ok (.aload_n 0, 1) := by decide +kernel
theorem dX6_init_5 : decode cX6_init 5 = .ok (.bipush 30, 2) := by decide +kernel
theorem dX6_init_7 : decode cX6_init 7 = .ok (.newarray .int, 2) := by decide +kernel
theorem dX6_init_9 : decode cX6_init 9 = .ok (.putfield 9, 3) := by decide +kernel
theorem dX6_init_12 : decode cX6_init 12 = .ok (.aload_n 0, 1) := by decide +kernel
theorem dX6_init_13 : decode cX6_init 13 = .ok (.bipush 30, 2) := by decide +kernel
theorem dX6_init_15 : decode cX6_init 15 = .ok (.newarray .int, 2) := by decide +kernel
theorem dX6_init_17 : decode cX6_init 17 = .ok (.putfield 15, 3) := by decide +kernel
theorem dX6_init_20 : decode cX6_init 20 = .ok (.aload_n 0, 1) := by decide +kernel
theorem dX6_init_21 : decode cX6_init 21 = .ok (.bipush 30, 2) := by decide +kernel
theorem dX6_init_23 : decode cX6_init 23 = .ok (.newarray .int, 2) := by decide +kernel
theorem dX6_init_25 : decode cX6_init 25 = .ok (.putfield 18, 3) := by decide +kernel
theorem dX6_init_28 : decode cX6_init 28 = .ok (.return_, 1) := by decide +kernel
set_option maxRecDepth 20000 in
theorem ggX6_isTaken_X6_takeHead : GoodIn wsX6_isTaken wsX6_takeHead := goodIn_r _ [11, 12, 13, 14, 15, 16, 10, 17, 4, 3, 1, 18, 2, 19, 20, 21, 22, 23, 24, 25, 45, 46, 47, 48, 49, 50, 51, 52, 53, 54, 55, 56, 57, 58] (by decide +kernel) (by decide +kernel)
set_option maxRecDepth 20000 in
theorem gX6_isTaken_X6_takeHead : GoodIn wsX6_isTaken (wsV RX6 41 RX6 yX6_takeHead wsX6_takeHead) := goodIn_app (goodIn_of _ (by decide +kernel)) ggX6_isTaken_X6_takeHead
set_option maxRecDepth 20000 in
theorem ggX6_isTaken_X6_takeRows : GoodIn wsX6_isTaken wsX6_takeRows := goodIn_r _ [29, 12, 13, 14, 15, 16, 10, 17, 4, 3, 1, 18, 2, 30, 31, 32, 33, 34, 35, 36, 19, 20, 21, 22, 23, 24, 25, 37, 38, 39, 40, 6, 5, 41, 42, 43, 44, 45, 46, 47, 48, 49, 50, 51, 52, 53, 54, 55, 56, 57, 58] (by decide +kernel) (by decide +kernel)
set_option maxRecDepth 20000 in
theorem gX6_isTaken_X6_takeRows : GoodIn wsX6_isTaken (wsV RX6 45 RX6 yX6_takeRows wsX6_takeRows) := goodIn_app (goodIn_of _ (by decide +kernel)) ggX6_isTaken_X6_takeRows
theorem dX6_isTaken_0 : decode cX6_isTaken 0 = .ok (.aload_n 0, 1) := by decide +kernel
theorem dX6_isTaken_1 : decode cX6_isTaken 1 = .ok (.aload_n 1, 1) := by decide +kernel
theorem dX6_isTaken_2 : decode cX6_isTaken 2 = .ok (.putfield 21, 3) := by decide +kernel
theorem dX6_isTaken_5 : decode cX6_isTaken 5 = .ok (.aload_n 0, 1) := by decide +kernel
theorem dX6_isTaken_6 : decode cX6_isTaken 6 = .ok (.iload_n 2, 1) := by decide +kernel
theorem dX6_isTaken_7 : decode cX6_isTaken 7 = .ok (.putfield 25, 3) := by decide +kernel
theorem dX6_isTaken_10 : decode cX6_isTaken 10 = .ok (.aload_n 0, 1) := by decide +kernel
theorem dX6_isTaken_11 : decode cX6_isTaken 11 = .ok (.iload_n 3, 1) := by decide +kernel
theorem dX6_isTaken_12 : decode cX6_isTaken 12 = .ok (.putfield 29, 3) := by decide +kernel
theorem dX6_isTaken_15 : decode cX6_isTaken 15 = .ok (.aload_n 0, 1) := by decide +kernel
theorem dX6_isTaken_16 : decode cX6_isTaken 16 = .ok (.iconst 0, 1) := by decide +kernel
theorem dX6_isTaken_17 : decode cX6_isTaken 17 = .ok (.putfield 32, 3) := by decide +kernel
theorem dX6_isTaken_20 : decode cX6_isTaken 20 = .ok (.aload_n 0, 1) := by decide +kernel
theorem dX6_isTaken_21 : decode cX6_isTaken 21 = .ok (.iconst 0, 1) := by decide +kernel
theorem dX6_isTaken_22 : decode cX6_isTaken 22 = .ok (.putfield 35, 3) := by decide +kernel
theorem dX6_isTaken_25 : decode cX6_isTaken 25 = .ok (.aload_n 0, 1) := by decide +kernel
theorem dX6_isTaken_26 : decode cX6_isTaken 26 = .ok (.iconst 0, 1) := by decide +kernel
theorem dX6_isTaken_27 : decode cX6_isTaken 27 = .ok (.putfield 38, 3) := by decide +kernel
theorem dX6_isTaken_30 : decode cX6_isTaken 30 = .ok (.aload_n 0, 1) := by decide +kernel
theorem dX6_isTaken_31 : decode cX6_isTaken 31 = .ok (.invokevirtual 41, 3) := by decide +kernel
theorem dX6_isTaken_34 : decode cX6_isTaken 34 = .ok (.ifCond .eq 25, 3) := by decide +kernel
theorem dX6_isTaken_37 : decode cX6_isTaken 37 = .ok (.aload_n 0, 1) := by decide +kernel
theorem dX6_isTaken_38 : decode cX6_isTaken 38 = .ok (.invokevirtual 45, 3) := by decide +kernel
theorem dX6_isTaken_41 : decode cX6_isTaken 41 = .ok (.ifCond .eq 18, 3) := by decide +kernel
theorem dX6_isTaken_44 : decode cX6_isTaken 44 = .ok (.aload_n 0, 1) := by decide +kernel
theorem dX6_isTaken_45 : decode cX6_isTaken 45 = .ok (.getfield 32, 3) := by decide +kernel
theorem dX6_isTaken_48 : decode cX6_isTaken 48 = .ok (.aload_n 0, 1) := by decide +kernel
theorem dX6_isTaken_49 : decode cX6_isTaken 49 = .ok (.getfield 29, 3) := by decide +kernel
theorem dX6_isTaken_52 : decode cX6_isTaken 52 = .ok (.if_icmp .ne 7, 3) := by decide +kernel
theorem dX6_isTaken_55 : decode cX6_isTaken 55 = .ok (.iconst 1, 1) := by decide +kernel
theorem dX6_isTaken_56 : decode cX6_isTaken 56 = .ok (.goto 4, 3) := by decide +kernel
theorem dX6_isTaken_59 : decode cX6_isTaken 59 = .ok (.iconst 0, 1) := by decide +kernel
theorem dX6_isTaken_60 : decode cX6_isTaken 60 = .ok (.ireturn, 1) := by decide +kernel
set_option maxRecDepth 20000 in
theorem ggX6_takeHead_X6_take : GoodIn wsX6_takeHead wsX6_take := goodIn_r _ [7, 8, 9, 10, 11, 12, 20, 21, 22, 23, 24, 25, 26, 27, 28, 29, 30, 31, 32, 33] (by decide +kernel) (by decide +kernel)
set_option maxRecDepth 20000 in
theorem gX6_takeHead_X6_take : GoodIn wsX6_takeHead (wsV RX6 48 RX6 yX6_take wsX6_take) := goodIn_app (goodIn_of _ (by decide +kernel)) ggX6_takeHead_X6_take
set_option maxRecDepth 20000 in
theorem ggX6_takeHead_X6_takeDigit : GoodIn wsX6_takeHead wsX6_takeDigit := goodIn_r _ [16, 8, 9, 10, 11, 12, 17, 18, 19, 20, 21, 22, 23, 24, 25, 26, 27, 28, 29, 30, 31, 32, 33] (by decide +kernel) (by decide +kernel)
set_option maxRecDepth 20000 in
theorem gX6_takeHead_X6_takeDigit : GoodIn wsX6_takeHead (wsV RX6 52 RX6 yX6_takeDigit wsX6_takeDigit) := goodIn_app (goodIn_of _ (by decide +kernel)) ggX6_takeHead_X6_takeDigit
theorem dX6_takeHead_0 : decode cX6_takeHead 0 = .ok (.aload_n 0, 1) := by decide +kernel
theorem dX6_takeHead_1 : decode cX6_takeHead 1 = .ok (.bipush 110, 2) := by decide +kernel
theorem dX6_takeHead_3 : decode cX6_takeHead 3 = .ok (.invokevirtual 48, 3) := by decide +kernel
theorem dX6_takeHead_6 : decode cX6_takeHead 6 = .ok (.ifCond .ne 5, 3) := by decide +kernel
theorem dX6_takeHead_9 : decode cX6_takeHead 9 = .ok (.iconst 0, 1) := by decide +kernel
theorem dX6_takeHead_10 : decode cX6_takeHead 10 = .ok (.ireturn, 1) := by decide +kernel
theorem dX6_takeHead_11 : decode cX6_takeHead 11 = .ok (.aload_n 0, 1) := by decide +kernel
theorem dX6_takeHead_12 : decode cX6_takeHead 12 = .ok (.aload_n 0, 1) := by decide +kernel
theorem dX6_takeHead_13 : decode cX6_takeHead 13 = .ok (.iconst 1, 1) := by decide +kernel
theorem dX6_takeHead_14 : decode cX6_takeHead 14 = .ok (.iconst 5, 1) := by decide +kernel
theorem dX6_takeHead_15 : decode cX6_takeHead 15 = .ok (.invokevirtual 52, 3) := by decide +kernel
theorem dX6_takeHead_18 : decode cX6_takeHead 18 = .ok (.putfield 56, 3) := by decide +kernel
theorem dX6_takeHead_21 : decode cX6_takeHead 21 = .ok (.aload_n 0, 1) := by decide +kernel
theorem dX6_takeHead_22 : decode cX6_takeHead 22 = .ok (.getfield 56, 3) := by decide +kernel
theorem dX6_takeHead_25 : decode cX6_takeHead 25 = .ok (.iconst (-1), 1) := by decide +kernel
theorem dX6_takeHead_26 : decode cX6_takeHead 26 = .ok (.if_icmp .ne 5, 3) := by decide +kernel
theorem dX6_takeHead_29 : decode cX6_takeHead 29 = .ok (.iconst 0, 1) := by decide +kernel
theorem dX6_takeHead_30 : decode cX6_takeHead 30 = .ok (.ireturn, 1) := by decide +kernel
theorem dX6_takeHead_31 : decode cX6_takeHead 31 = .ok (.aload_n 0, 1) := by decide +kernel
theorem dX6_takeHead_32 : decode cX6_takeHead 32 = .ok (.aload_n 0, 1) := by decide +kernel
theorem dX6_takeHead_33 : decode cX6_takeHead 33 = .ok (.iconst 2, 1) := by decide +kernel
theorem dX6_takeHead_34 : decode cX6_takeHead 34 = .ok (.bipush 6, 2) := by decide +kernel
theorem dX6_takeHead_36 : decode cX6_takeHead 36 = .ok (.invokevirtual 52, 3) := by decide +kernel
theorem dX6_takeHead_39 : decode cX6_takeHead 39 = .ok (.putfield 59, 3) := by decide +kernel
theorem dX6_takeHead_42 : decode cX6_takeHead 42 = .ok (.aload_n 0, 1) := by decide +kernel
theorem dX6_takeHead_43 : decode cX6_takeHead 43 = .ok (.getfield 59, 3) := by decide +kernel
theorem dX6_takeHead_46 : decode cX6_takeHead 46 = .ok (.iconst (-1), 1) := by decide +kernel
theorem dX6_takeHead_47 : decode cX6_takeHead 47 = .ok (.if_icmp .eq 7, 3) := by decide +kernel
theorem dX6_takeHead_50 : decode cX6_takeHead 50 = .ok (.iconst 1, 1) := by decide +kernel
theorem dX6_takeHead_51 : decode cX6_takeHead 51 = .ok (.goto 4, 3) := by decide +kernel
theorem dX6_takeHead_54 : decode cX6_takeHead 54 = .ok (.iconst 0, 1) := by decide +kernel
theorem dX6_takeHead_55 : decode cX6_takeHead 55 = .ok (.ireturn, 1) := by decide +kernel
set_option maxRecDepth 20000 in
theorem ggX6_takeRows_X6_take : GoodIn wsX6_takeRows wsX6_take := goodIn_r _ [7, 8, 9, 10, 11, 12, 37, 38, 39, 40, 41, 42, 43, 44, 45, 46, 47, 48, 49, 50] (by decide +kernel) (by decide +kernel)
set_option maxRecDepth 20000 in
theorem gX6_takeRows_X6_take : GoodIn wsX6_takeRows (wsV RX6 48 RX6 yX6_take wsX6_take) := goodIn_app (goodIn_of _ (by decide +kernel)) ggX6_takeRows_X6_take
set_option maxRecDepth 20000 in
theorem ggX6_takeRows_X6_takeCell : GoodIn wsX6_takeRows wsX6_takeCell := goodIn_r _ [16, 17, 18, 19, 20, 21, 22, 6, 23, 8, 9, 10, 11, 12, 24, 25, 26, 3, 4, 5, 7, 27, 28, 29, 30, 31, 32, 33, 34, 35, 36, 37, 38, 39, 40, 41, 42, 43, 44, 45, 46, 47, 48, 49, 50] (by decide +kernel) (by decide +kernel)
set_option maxRecDepth 20000 in
theorem gX6_takeRows_X6_takeCell : GoodIn wsX6_takeRows (wsV RX6 62 RX6 yX6_takeCell wsX6_takeCell) := goodIn_app (goodIn_of _ (by decide +kernel)) ggX6_takeRows_X6_takeCell
theorem dX6_takeRows_0 : decode cX6_takeRows 0 = .ok (.iconst 0, 1) := by decide +kernel
theorem dX6_takeRows_1 : decode cX6_takeRows 1 = .ok (.istore_n 1, 1) := by decide +kernel
theorem dX6_takeRows_2 : decode cX6_takeRows 2 = .ok (.iload_n 1, 1) := by decide +kernel
theorem dX6_takeRows_3 : decode cX6_takeRows 3 = .ok (.aload_n 0, 1) := by decide +kernel
theorem dX6_takeRows_4 : decode cX6_takeRows 4 = .ok (.getfield 56, 3) := by decide +kernel
theorem dX6_takeRows_7 : decode cX6_takeRows 7 = .ok (.if_icmp .ge 53, 3) := by decide +kernel
theorem dX6_takeRows_10 : decode cX6_takeRows 10 = .ok (.aload_n 0, 1) := by decide +kernel
theorem dX6_takeRows_11 : decode cX6_takeRows 11 = .ok (.bipush 59, 2) := by decide +kernel
theorem dX6_takeRows_13 : decode cX6_takeRows 13 = .ok (.invokevirtual 48, 3) := by decide +kernel
theorem dX6_takeRows_16 : decode cX6_takeRows 16 = .ok (.ifCond .ne 5, 3) := by decide +kernel
theorem dX6_takeRows_19 : decode cX6_takeRows 19 = .ok (.iconst 0, 1) := by decide +kernel
theorem dX6_takeRows_20 : decode cX6_takeRows 20 = .ok (.ireturn, 1) := by decide +kernel
theorem dX6_takeRows_21 : decode cX6_takeRows 21 = .ok (.iconst 0, 1) := by decide +kernel
theorem dX6_takeRows_22 : decode cX6_takeRows 22 = .ok (.istore_n 2, 1) := by decide +kernel
theorem dX6_takeRows_23 : decode cX6_takeRows 23 = .ok (.iload_n 2, 1) := by decide +kernel
theorem dX6_takeRows_24 : decode cX6_takeRows 24 = .ok (.aload_n 0, 1) := by decide +kernel
theorem dX6_takeRows_25 : decode cX6_takeRows 25 = .ok (.getfield 59, 3) := by decide +kernel
theorem dX6_takeRows_28 : decode cX6_takeRows 28 = .ok (.if_icmp .ge 26, 3) := by decide +kernel
theorem dX6_takeRows_31 : decode cX6_takeRows 31 = .ok (.aload_n 0, 1) := by decide +kernel
theorem dX6_takeRows_32 : decode cX6_takeRows 32 = .ok (.iload_n 1, 1) := by decide +kernel
theorem dX6_takeRows_33 : decode cX6_takeRows 33 = .ok (.aload_n 0, 1) := by decide +kernel
theorem dX6_takeRows_34 : decode cX6_takeRows 34 = .ok (.getfield 59, 3) := by decide +kernel
theorem dX6_takeRows_37 : decode cX6_takeRows 37 = .ok (.imul, 1) := by decide +kernel
theorem dX6_takeRows_38 : decode cX6_takeRows 38 = .ok (.iload_n 2, 1) := by decide +kernel
theorem dX6_takeRows_39 : decode cX6_takeRows 39 = .ok (.iadd, 1) := by decide +kernel
theorem dX6_takeRows_40 : decode cX6_takeRows 40 = .ok (.invokevirtual 62, 3) := by decide +kernel
theorem dX6_takeRows_43 : decode cX6_takeRows 43 = .ok (.ifCond .ne 5, 3) := by decide +kernel
theorem dX6_takeRows_46 : decode cX6_takeRows 46 = .ok (.iconst 0, 1) := by decide +kernel
theorem dX6_takeRows_47 : decode cX6_takeRows 47 = .ok (.ireturn, 1) := by decide +kernel
theorem dX6_takeRows_48 : decode cX6_takeRows 48 = .ok (.iinc 2 1, 3) := by decide +kernel
theorem dX6_takeRows_51 : decode cX6_takeRows 51 = .ok (.goto (-28), 3) := by decide +kernel
theorem dX6_takeRows_54 : decode cX6_takeRows 54 = .ok (.iinc 1 1, 3) := by decide +kernel
theorem dX6_takeRows_57 : decode cX6_takeRows 57 = .ok (.goto (-55), 3) := by decide +kernel
theorem dX6_takeRows_60 : decode cX6_takeRows 60 = .ok (.iconst 1, 1) := by decide +kernel
theorem dX6_takeRows_61 : decode cX6_takeRows 61 = .ok (.ireturn, 1) := by decide +kernel
set_option maxRecDepth 20000 in
theorem ggX6_takeCell_X6_takeDigit : GoodIn wsX6_takeCell wsX6_takeDigit := goodIn_r _ [8, 9, 10, 11, 12, 13, 14, 15, 16, 31, 32, 33, 34, 35, 36, 37, 38, 39, 40, 41, 42, 43, 44] (by decide +kernel) (by decide +kernel)
set_option maxRecDepth 20000 in
theorem gX6_takeCell_X6_takeDigit : GoodIn wsX6_takeCell (wsV RX6 52 RX6 yX6_takeDigit wsX6_takeDigit) := goodIn_app (goodIn_of _ (by decide +kernel)) ggX6_takeCell_X6_takeDigit
set_option maxRecDepth 20000 in
theorem ggX6_takeCell_X6_take : GoodIn wsX6_takeCell wsX6_take := goodIn_r _ [20, 9, 10, 11, 12, 13, 31, 32, 33, 34, 35, 36, 37, 38, 39, 40, 41, 42, 43, 44] (by decide +kernel) (by decide +kernel)
set_option maxRecDepth 20000 in
theorem gX6_takeCell_X6_take : GoodIn wsX6_takeCell (wsV RX6 48 RX6 yX6_take wsX6_take) := goodIn_app (goodIn_of _ (by decide +kernel)) ggX6_takeCell_X6_take
set_option maxRecDepth 20000 in
theorem ggX6_takeCell_X6_takeLetter : GoodIn wsX6_takeCell wsX6_takeLetter := goodIn_r _ [24, 25, 26, 17, 18, 19, 7, 20, 9, 10, 11, 12, 13, 27, 28, 29, 30, 31, 32, 33, 34, 35, 36, 37, 38, 39, 40, 41, 42, 43, 44] (by decide +kernel) (by decide +kernel)
set_option maxRecDepth 20000 in
theorem gX6_takeCell_X6_takeLetter : GoodIn wsX6_takeCell (wsV RX6 65 RX6 yX6_takeLetter wsX6_takeLetter) := goodIn_app (goodIn_of _ (by decide +kernel)) ggX6_takeCell_X6_takeLetter
theorem dX6_takeCell_0 : decode cX6_takeCell 0 = .ok (.aload_n 0, 1) := by decide +kernel
theorem dX6_takeCell_1 : decode cX6_takeCell 1 = .ok (.getfield 9, 3) := by decide +kernel
theorem dX6_takeCell_4 : decode cX6_takeCell 4 = .ok (.iload_n 1, 1) := by decide +kernel
theorem dX6_takeCell_5 : decode cX6_takeCell 5 = .ok (.aload_n 0, 1) := by decide +kernel
theorem dX6_takeCell_6 : decode cX6_takeCell 6 = .ok (.iconst 0, 1) := by decide +kernel
theorem dX6_takeCell_7 : decode cX6_takeCell 7 = .ok (.bipush 9, 2) := by decide +kernel
theorem dX6_takeCell_9 : decode cX6_takeCell 9 = .ok (.invokevirtual 52, 3) := by decide +kernel
theorem dX6_takeCell_12 : decode cX6_takeCell 12 = .ok (.iastore, 1) := by decide +kernel
theorem dX6_takeCell_13 : decode cX6_takeCell 13 = .ok (.aload_n 0, 1) := by decide +kernel
theorem dX6_takeCell_14 : decode cX6_takeCell 14 = .ok (.getfield 9, 3) := by decide +kernel
theorem dX6_takeCell_17 : decode cX6_takeCell 17 = .ok (.iload_n 1, 1) := by decide +kernel
theorem dX6_takeCell_18 : decode cX6_takeCell 18 = .ok (.iaload, 1) := by decide +kernel
theorem dX6_takeCell_19 : decode cX6_takeCell 19 = .ok (.iconst (-1), 1) := by decide +kernel
theorem dX6_takeCell_20 : decode cX6_takeCell 20 = .ok (.if_icmp .ne 5, 3) := by decide +kernel
theorem dX6_takeCell_23 : decode cX6_takeCell 23 = .ok (.iconst 0, 1) := by decide +kernel
theorem dX6_takeCell_24 : decode cX6_takeCell 24 = .ok (.ireturn, 1) := by decide +kernel
theorem dX6_takeCell_25 : decode cX6_takeCell 25 = .ok (.aload_n 0, 1) := by decide +kernel
theorem dX6_takeCell_26 : decode cX6_takeCell 26 = .ok (.getfield 15, 3) := by decide +kernel
theorem dX6_takeCell_29 : decode cX6_takeCell 29 = .ok (.iload_n 1, 1) := by decide +kernel
theorem dX6_takeCell_30 : decode cX6_takeCell 30 = .ok (.iconst (-1), 1) := by decide +kernel
theorem dX6_takeCell_31 : decode cX6_takeCell 31 = .ok (.iastore, 1) := by decide +kernel
theorem dX6_takeCell_32 : decode cX6_takeCell 32 = .ok (.aload_n 0, 1) := by decide +kernel
theorem dX6_takeCell_33 : decode cX6_takeCell 33 = .ok (.bipush 46, 2) := by decide +kernel
theorem dX6_takeCell_35 : decode cX6_takeCell 35 = .ok (.invokevirtual 48, 3) := by decide +kernel
theorem dX6_takeCell_38 : decode cX6_takeCell 38 = .ok (.ifCond .eq 5, 3) := by decide +kernel
theorem dX6_takeCell_41 : decode cX6_takeCell 41 = .ok (.iconst 1, 1) := by decide +kernel
theorem dX6_takeCell_42 : decode cX6_takeCell 42 = .ok (.ireturn, 1) := by decide +kernel
theorem dX6_takeCell_43 : decode cX6_takeCell 43 = .ok (.aload_n 0, 1) := by decide +kernel
theorem dX6_takeCell_44 : decode cX6_takeCell 44 = .ok (.getfield 15, 3) := by decide +kernel
theorem dX6_takeCell_47 : decode cX6_takeCell 47 = .ok (.iload_n 1, 1) := by decide +kernel
theorem dX6_takeCell_48 : decode cX6_takeCell 48 = .ok (.aload_n 0, 1) := by decide +kernel
theorem dX6_takeCell_49 : decode cX6_takeCell 49 = .ok (.invokevirtual 65, 3) := by decide +kernel
theorem dX6_takeCell_52 : decode cX6_takeCell 52 = .ok (.iastore, 1) := by decide +kernel
theorem dX6_takeCell_53 : decode cX6_takeCell 53 = .ok (.aload_n 0, 1) := by decide +kernel
theorem dX6_takeCell_54 : decode cX6_takeCell 54 = .ok (.getfield 15, 3) := by decide +kernel
theorem dX6_takeCell_57 : decode cX6_takeCell 57 = .ok (.iload_n 1, 1) := by decide +kernel
theorem dX6_takeCell_58 : decode cX6_takeCell 58 = .ok (.iaload, 1) := by decide +kernel
theorem dX6_takeCell_59 : decode cX6_takeCell 59 = .ok (.iconst (-1), 1) := by decide +kernel
theorem dX6_takeCell_60 : decode cX6_takeCell 60 = .ok (.if_icmp .ne 5, 3) := by decide +kernel
theorem dX6_takeCell_63 : decode cX6_takeCell 63 = .ok (.iconst 0, 1) := by decide +kernel
theorem dX6_takeCell_64 : decode cX6_takeCell 64 = .ok (.ireturn, 1) := by decide +kernel
theorem dX6_takeCell_65 : decode cX6_takeCell 65 = .ok (.aload_n 0, 1) := by decide +kernel
theorem dX6_takeCell_66 : decode cX6_takeCell 66 = .ok (.getfield 18, 3) := by decide +kernel
theorem dX6_takeCell_69 : decode cX6_takeCell 69 = .ok (.iload_n 1, 1) := by decide +kernel
theorem dX6_takeCell_70 : decode cX6_takeCell 70 = .ok (.aload_n 0, 1) := by decide +kernel
theorem dX6_takeCell_71 : decode cX6_takeCell 71 = .ok (.iconst 1, 1) := by decide +kernel
theorem dX6_takeCell_72 : decode cX6_takeCell 72 = .ok (.bipush 9, 2) := by decide +kernel
theorem dX6_takeCell_74 : decode cX6_takeCell 74 = .ok (.invokevirtual 52, 3) := by decide +kernel
theorem dX6_takeCell_77 : decode cX6_takeCell 77 = .ok (.iastore, 1) := by decide +kernel
theorem dX6_takeCell_78 : decode cX6_takeCell 78 = .ok (.aload_n 0, 1) := by decide +kernel
theorem dX6_takeCell_79 : decode cX6_takeCell 79 = .ok (.getfield 18, 3) := by decide +kernel
theorem dX6_takeCell_82 : decode cX6_takeCell 82 = .ok (.iload_n 1, 1) := by decide +kernel
theorem dX6_takeCell_83 : decode cX6_takeCell 83 = .ok (.iaload, 1) := by decide +kernel
theorem dX6_takeCell_84 : decode cX6_takeCell 84 = .ok (.iconst (-1), 1) := by decide +kernel
theorem dX6_takeCell_85 : decode cX6_takeCell 85 = .ok (.if_icmp .eq 7, 3) := by decide +kernel
theorem dX6_takeCell_88 : decode cX6_takeCell 88 = .ok (.iconst 1, 1) := by decide +kernel
theorem dX6_takeCell_89 : decode cX6_takeCell 89 = .ok (.goto 4, 3) := by decide +kernel
theorem dX6_takeCell_92 : decode cX6_takeCell 92 = .ok (.iconst 0, 1) := by decide +kernel
theorem dX6_takeCell_93 : decode cX6_takeCell 93 = .ok (.ireturn, 1) := by decide +kernel
set_option maxRecDepth 20000 in
theorem ggX6_takeLetter_X6_take : GoodIn wsX6_takeLetter wsX6_take := goodIn_r _ [7, 8, 9, 10, 11, 12, 17, 18, 19, 20, 21, 22, 23, 24, 25, 26, 27, 28, 29, 30] (by decide +kernel) (by decide +kernel)
set_option maxRecDepth 20000 in
theorem gX6_takeLetter_X6_take : GoodIn wsX6_takeLetter (wsV RX6 48 RX6 yX6_take wsX6_take) := goodIn_app (goodIn_of _ (by decide +kernel)) ggX6_takeLetter_X6_take
set_option maxRecDepth 20000 in
theorem ggX6_takeLetter_X6_takeKind : GoodIn wsX6_takeLetter wsX6_takeKind := goodIn_r _ [16, 3, 4, 5, 6, 7, 8, 9, 10, 11, 12, 17, 18, 19, 20, 21, 22, 23, 24, 25, 26, 27, 28, 29, 30] (by decide +kernel) (by decide +kernel)
set_option maxRecDepth 20000 in
theorem gX6_takeLetter_X6_takeKind : GoodIn wsX6_takeLetter (wsV RX6 69 RX6 yX6_takeKind wsX6_takeKind) := goodIn_app (goodIn_of _ (by decide +kernel)) ggX6_takeLetter_X6_takeKind
theorem dX6_takeLetter_0 : decode cX6_takeLetter 0 = .ok (.aload_n 0, 1) := by decide +kernel
theorem dX6_takeLetter_1 : decode cX6_takeLetter 1 = .ok (.getfield 38, 3) := by decide +kernel
theorem dX6_takeLetter_4 : decode cX6_takeLetter 4 = .ok (.bipush 8, 2) := by decide +kernel
theorem dX6_takeLetter_6 : decode cX6_takeLetter 6 = .ok (.if_icmp .ge 24, 3) := by decide +kernel
theorem dX6_takeLetter_9 : decode cX6_takeLetter 9 = .ok (.aload_n 0, 1) := by decide +kernel
theorem dX6_takeLetter_10 : decode cX6_takeLetter 10 = .ok (.bipush 116, 2) := by decide +kernel
theorem dX6_takeLetter_12 : decode cX6_takeLetter 12 = .ok (.invokevirtual 48, 3) := by decide +kernel
theorem dX6_takeLetter_15 : decode cX6_takeLetter 15 = .ok (.ifCond .eq 15, 3) := by decide +kernel
theorem dX6_takeLetter_18 : decode cX6_takeLetter 18 = .ok (.aload_n 0, 1) := by decide +kernel
theorem dX6_takeLetter_19 : decode cX6_takeLetter 19 = .ok (.dup, 1) := by decide +kernel
theorem dX6_takeLetter_20 : decode cX6_takeLetter 20 = .ok (.getfield 38, 3) := by decide +kernel
theorem dX6_takeLetter_23 : decode cX6_takeLetter 23 = .ok (.iconst 1, 1) := by decide +kernel
theorem dX6_takeLetter_24 : decode cX6_takeLetter 24 = .ok (.iadd, 1) := by decide +kernel
theorem dX6_takeLetter_25 : decode cX6_takeLetter 25 = .ok (.putfield 38, 3) := by decide +kernel
theorem dX6_takeLetter_28 : decode cX6_takeLetter 28 = .ok (.iconst 3, 1) := by decide +kernel
theorem dX6_takeLetter_29 : decode cX6_takeLetter 29 = .ok (.ireturn, 1) := by decide +kernel
theorem dX6_takeLetter_30 : decode cX6_takeLetter 30 = .ok (.aload_n 0, 1) := by decide +kernel
theorem dX6_takeLetter_31 : decode cX6_takeLetter 31 = .ok (.getfield 35, 3) := by decide +kernel
theorem dX6_takeLetter_34 : decode cX6_takeLetter 34 = .ok (.bipush 8, 2) := by decide +kernel
theorem dX6_takeLetter_36 : decode cX6_takeLetter 36 = .ok (.if_icmp .ge 10, 3) := by decide +kernel
theorem dX6_takeLetter_39 : decode cX6_takeLetter 39 = .ok (.aload_n 0, 1) := by decide +kernel
theorem dX6_takeLetter_40 : decode cX6_takeLetter 40 = .ok (.invokevirtual 69, 3) := by decide +kernel
theorem dX6_takeLetter_43 : decode cX6_takeLetter 43 = .ok (.goto 4, 3) := by decide +kernel
theorem dX6_takeLetter_46 : decode cX6_takeLetter 46 = .ok (.iconst (-1), 1) := by decide +kernel
theorem dX6_takeLetter_47 : decode cX6_takeLetter 47 = .ok (.istore_n 1, 1) := by decide +kernel
theorem dX6_takeLetter_48 : decode cX6_takeLetter 48 = .ok (.iload_n 1, 1) := by decide +kernel
theorem dX6_takeLetter_49 : decode cX6_takeLetter 49 = .ok (.iconst (-1), 1) := by decide +kernel
theorem dX6_takeLetter_50 : decode cX6_takeLetter 50 = .ok (.if_icmp .eq 13, 3) := by decide +kernel
theorem dX6_takeLetter_53 : decode cX6_takeLetter 53 = .ok (.aload_n 0, 1) := by decide +kernel
theorem dX6_takeLetter_54 : decode cX6_takeLetter 54 = .ok (.dup, 1) := by decide +kernel
theorem dX6_takeLetter_55 : decode cX6_takeLetter 55 = .ok (.getfield 35, 3) := by decide +kernel
theorem dX6_takeLetter_58 : decode cX6_takeLetter 58 = .ok (.iconst 1, 1) := by decide +kernel
theorem dX6_takeLetter_59 : decode cX6_takeLetter 59 = .ok (.iadd, 1) := by decide +kernel
theorem dX6_takeLetter_60 : decode cX6_takeLetter 60 = .ok (.putfield 35, 3) := by decide +kernel
theorem dX6_takeLetter_63 : decode cX6_takeLetter 63 = .ok (.iload_n 1, 1) := by decide +kernel
theorem dX6_takeLetter_64 : decode cX6_takeLetter 64 = .ok (.ireturn, 1) := by decide +kernel
set_option maxRecDepth 20000 in
theorem ggX6_takeKind_X6_take : GoodIn wsX6_takeKind wsX6_take := goodIn_r _ [5, 6, 7, 8, 9, 10, 11, 12, 13, 14, 15, 16, 17, 18, 19, 20, 21, 22, 23, 24] (by decide +kernel) (by decide +kernel)
set_option maxRecDepth 20000 in
theorem gX6_takeKind_X6_take : GoodIn wsX6_takeKind (wsV RX6 48 RX6 yX6_take wsX6_take) := goodIn_app (goodIn_of _ (by decide +kernel)) ggX6_takeKind_X6_take
theorem dX6_takeKind_0 : decode cX6_takeKind 0 = .ok (.aload_n 0, 1) := by decide +kernel
theorem dX6_takeKind_1 : decode cX6_takeKind 1 = .ok (.bipush 104, 2) := by decide +kernel
theorem dX6_takeKind_3 : decode cX6_takeKind 3 = .ok (.invokevirtual 48, 3) := by decide +kernel
theorem dX6_takeKind_6 : decode cX6_takeKind 6 = .ok (.ifCond .eq 5, 3) := by decide +kernel
theorem dX6_takeKind_9 : decode cX6_takeKind 9 = .ok (.iconst 0, 1) := by decide +kernel
theorem dX6_takeKind_10 : decode cX6_takeKind 10 = .ok (.ireturn, 1) := by decide +kernel
theorem dX6_takeKind_11 : decode cX6_takeKind 11 = .ok (.aload_n 0, 1) := by decide +kernel
theorem dX6_takeKind_12 : decode cX6_takeKind 12 = .ok (.bipush 99, 2) := by decide +kernel
theorem dX6_takeKind_14 : decode cX6_takeKind 14 = .ok (.invokevirtual 48, 3) := by decide +kernel
theorem dX6_takeKind_17 : decode cX6_takeKind 17 = .ok (.ifCond .eq 5, 3) := by decide +kernel
theorem dX6_takeKind_20 : decode cX6_takeKind 20 = .ok (.iconst 1, 1) := by decide +kernel
theorem dX6_takeKind_21 : decode cX6_takeKind 21 = .ok (.ireturn, 1) := by decide +kernel
theorem dX6_takeKind_22 : decode cX6_takeKind 22 = .ok (.aload_n 0, 1) := by decide +kernel
theorem dX6_takeKind_23 : decode cX6_takeKind 23 = .ok (.bipush 114, 2) := by decide +kernel
theorem dX6_takeKind_25 : decode cX6_takeKind 25 = .ok (.invokevirtual 48, 3) := by decide +kernel
theorem dX6_takeKind_28 : decode cX6_takeKind 28 = .ok (.ifCond .eq 7, 3) := by decide +kernel
theorem dX6_takeKind_31 : decode cX6_takeKind 31 = .ok (.iconst 2, 1) := by decide +kernel
theorem dX6_takeKind_32 : decode cX6_takeKind 32 = .ok (.goto 4, 3) := by decide +kernel
theorem dX6_takeKind_35 : decode cX6_takeKind 35 = .ok (.iconst (-1), 1) := by decide +kernel
theorem dX6_takeKind_36 : decode cX6_takeKind 36 = .ok (.ireturn, 1) := by decide +kernel
theorem dX6_take_0 : decode cX6_take 0 = .ok (.aload_n 0, 1) := by decide +kernel
theorem dX6_take_1 : decode cX6_take 1 = .ok (.getfield 32, 3) := by decide +kernel
theorem dX6_take_4 : decode cX6_take 4 = .ok (.aload_n 0, 1) := by decide +kernel
theorem dX6_take_5 : decode cX6_take 5 = .ok (.getfield 29, 3) := by decide +kernel
theorem dX6_take_8 : decode cX6_take 8 = .ok (.if_icmp .ge 24, 3) := by decide +kernel
theorem dX6_take_11 : decode cX6_take 11 = .ok (.aload_n 0, 1) := by decide +kernel
theorem dX6_take_12 : decode cX6_take 12 = .ok (.getfield 21, 3) := by decide +kernel
theorem dX6_take_15 : decode cX6_take 15 = .ok (.getfield 72, 3) := by decide +kernel
theorem dX6_take_18 : decode cX6_take 18 = .ok (.aload_n 0, 1) := by decide +kernel
theorem dX6_take_19 : decode cX6_take 19 = .ok (.getfield 25, 3) := by decide +kernel
theorem dX6_take_22 : decode cX6_take 22 = .ok (.aload_n 0, 1) := by decide +kernel
theorem dX6_take_23 : decode cX6_take 23 = .ok (.getfield 32, 3) := by decide +kernel
theorem dX6_take_26 : decode cX6_take 26 = .ok (.iadd, 1) := by decide +kernel
theorem dX6_take_27 : decode cX6_take 27 = .ok (.iaload, 1) := by decide +kernel
theorem dX6_take_28 : decode cX6_take 28 = .ok (.iload_n 1, 1) := by decide +kernel
theorem dX6_take_29 : decode cX6_take 29 = .ok (.if_icmp .eq 5, 3) := by decide +kernel
theorem dX6_take_32 : decode cX6_take 32 = .ok (.iconst 0, 1) := by decide +kernel
theorem dX6_take_33 : decode cX6_take 33 = .ok (.ireturn, 1) := by decide +kernel
theorem dX6_take_34 : decode cX6_take 34 = .ok (.aload_n 0, 1) := by decide +kernel
theorem dX6_take_35 : decode cX6_take 35 = .ok (.dup, 1) := by decide +kernel
theorem dX6_take_36 : decode cX6_take 36 = .ok (.getfield 32, 3) := by decide +kernel
theorem dX6_take_39 : decode cX6_take 39 = .ok (.iconst 1, 1) := by decide +kernel
theorem dX6_take_40 : decode cX6_take 40 = .ok (.iadd, 1) := by decide +kernel
theorem dX6_take_41 : decode cX6_take 41 = .ok (.putfield 32, 3) := by decide +kernel
theorem dX6_take_44 : decode cX6_take 44 = .ok (.iconst 1, 1) := by decide +kernel
theorem dX6_take_45 : decode cX6_take 45 = .ok (.ireturn, 1) := by decide +kernel
set_option maxRecDepth 20000 in
theorem ggX6_takeDigit_X8_isWithin : GoodIn wsX6_takeDigit wsX8_isWithin := goodIn_r _ [8] (by decide +kernel) (by decide +kernel)
set_option maxRecDepth 20000 in
theorem gX6_takeDigit_X8_isWithin_n77 : GoodIn wsX6_takeDigit (wsX8_isWithin) := ggX6_takeDigit_X8_isWithin
theorem dX6_takeDigit_0 : decode cX6_takeDigit 0 = .ok (.aload_n 0, 1) := by decide +kernel
theorem dX6_takeDigit_1 : decode cX6_takeDigit 1 = .ok (.getfield 32, 3) := by decide +kernel
theorem dX6_takeDigit_4 : decode cX6_takeDigit 4 = .ok (.aload_n 0, 1) := by decide +kernel
theorem dX6_takeDigit_5 : decode cX6_takeDigit 5 = .ok (.getfield 29, 3) := by decide +kernel
theorem dX6_takeDigit_8 : decode cX6_takeDigit 8 = .ok (.if_icmp .lt 5, 3) := by decide +kernel
theorem dX6_takeDigit_11 : decode cX6_takeDigit 11 = .ok (.iconst (-1), 1) := by decide +kernel
theorem dX6_takeDigit_12 : decode cX6_takeDigit 12 = .ok (.ireturn, 1) := by decide +kernel
theorem dX6_takeDigit_13 : decode cX6_takeDigit 13 = .ok (.aload_n 0, 1) := by decide +kernel
theorem dX6_takeDigit_14 : decode cX6_takeDigit 14 = .ok (.getfield 21, 3) := by decide +kernel
theorem dX6_takeDigit_17 : decode cX6_takeDigit 17 = .ok (.getfield 72, 3) := by decide +kernel
theorem dX6_takeDigit_20 : decode cX6_takeDigit 20 = .ok (.aload_n 0, 1) := by decide +kernel
theorem dX6_takeDigit_21 : decode cX6_takeDigit 21 = .ok (.getfield 25, 3) := by decide +kernel
theorem dX6_takeDigit_24 : decode cX6_takeDigit 24 = .ok (.aload_n 0, 1) := by decide +kernel
theorem dX6_takeDigit_25 : decode cX6_takeDigit 25 = .ok (.getfield 32, 3) := by decide +kernel
theorem dX6_takeDigit_28 : decode cX6_takeDigit 28 = .ok (.iadd, 1) := by decide +kernel
theorem dX6_takeDigit_29 : decode cX6_takeDigit 29 = .ok (.iaload, 1) := by decide +kernel
theorem dX6_takeDigit_30 : decode cX6_takeDigit 30 = .ok (.istore_n 3, 1) := by decide +kernel
theorem dX6_takeDigit_31 : decode cX6_takeDigit 31 = .ok (.iload_n 3, 1) := by decide +kernel
theorem dX6_takeDigit_32 : decode cX6_takeDigit 32 = .ok (.bipush 48, 2) := by decide +kernel
theorem dX6_takeDigit_34 : decode cX6_takeDigit 34 = .ok (.iload_n 1, 1) := by decide +kernel
theorem dX6_takeDigit_35 : decode cX6_takeDigit 35 = .ok (.iadd, 1) := by decide +kernel
theorem dX6_takeDigit_36 : decode cX6_takeDigit 36 = .ok (.bipush 48, 2) := by decide +kernel
theorem dX6_takeDigit_38 : decode cX6_takeDigit 38 = .ok (.iload_n 2, 1) := by decide +kernel
theorem dX6_takeDigit_39 : decode cX6_takeDigit 39 = .ok (.iadd, 1) := by decide +kernel
theorem dX6_takeDigit_40 : decode cX6_takeDigit 40 = .ok (.invokestatic 77, 3) := by decide +kernel
theorem dX6_takeDigit_43 : decode cX6_takeDigit 43 = .ok (.ifCond .ne 5, 3) := by decide +kernel
theorem dX6_takeDigit_46 : decode cX6_takeDigit 46 = .ok (.iconst (-1), 1) := by decide +kernel
theorem dX6_takeDigit_47 : decode cX6_takeDigit 47 = .ok (.ireturn, 1) := by decide +kernel
theorem dX6_takeDigit_48 : decode cX6_takeDigit 48 = .ok (.aload_n 0, 1) := by decide +kernel
theorem dX6_takeDigit_49 : decode cX6_takeDigit 49 = .ok (.dup, 1) := by decide +kernel
theorem dX6_takeDigit_50 : decode cX6_takeDigit 50 = .ok (.getfield 32, 3) := by decide +kernel
theorem dX6_takeDigit_53 : decode cX6_takeDigit 53 = .ok (.iconst 1, 1) := by decide +kernel
theorem dX6_takeDigit_54 : decode cX6_takeDigit 54 = .ok (.iadd, 1) := by decide +kernel
theorem dX6_takeDigit_55 : decode cX6_takeDigit 55 = .ok (.putfield 32, 3) := by decide +kernel
theorem dX6_takeDigit_58 : decode cX6_takeDigit 58 = .ok (.iload_n 3, 1) := by decide +kernel
theorem dX6_takeDigit_59 : decode cX6_takeDigit 59 = .ok (.bipush 48, 2) := by decide +kernel
theorem dX6_takeDigit_61 : decode cX6_takeDigit 61 = .ok (.isub, 1) := by decide +kernel
theorem dX6_takeDigit_62 : decode cX6_takeDigit 62 = .ok (.ireturn, 1) := by decide +kernel
theorem dX7_init_0 : decode cX7_init 0 = .ok (.aload_n 0, 1) := by decide +kernel
theorem dX7_init_1 : decode cX7_init 1 = .ok (.invokespecial 1, 3) := by decide +kernel
theorem dX7_init_4 : decode cX7_init 4 = .ok (.return_, 1) := by decide +kernel
set_option maxRecDepth 20000 in
theorem ggX8_init_X4_init : GoodIn wsX8_init wsX4_init := goodIn_r _ [29, 30, 2, 3, 31, 32, 33, 91, 92, 93] (by decide +kernel) (by decide +kernel)
set_option maxRecDepth 20000 in
theorem gX8_init_X4_init_n17 : GoodIn wsX8_init (wsX4_init) := ggX8_init_X4_init
set_option maxRecDepth 20000 in
theorem ggX8_init_X6_init : GoodIn wsX8_init wsX6_init := goodIn_r _ [35, 36, 2, 3, 31, 37, 38, 39, 94, 95, 96, 97, 98, 99, 100, 101, 102, 103, 104] (by decide +kernel) (by decide +kernel)
set_option maxRecDepth 20000 in
theorem gX8_init_X6_init_n20 : GoodIn wsX8_init (wsX6_init) := ggX8_init_X6_init
set_option maxRecDepth 20000 in
theorem ggX8_init_X2_init : GoodIn wsX8_init wsX2_init := goodIn_r _ [42, 43, 2, 3, 31, 44, 45, 46, 47, 48, 49, 50, 51, 52, 53, 54, 55, 56, 57, 58, 59, 60, 105, 106, 107, 108, 109, 110, 111, 112, 113, 114, 115, 116, 117, 130, 131, 132, 133, 134, 135] (by decide +kernel) (by decide +kernel)
set_option maxRecDepth 20000 in
theorem gX8_init_X2_init : GoodIn wsX8_init (wsX2_init) := ggX8_init_X2_init
set_option maxRecDepth 20000 in
theorem ggX8_init_X5_init : GoodIn wsX8_init wsX5_init := goodIn_r _ [63, 64, 2, 3, 31, 65, 66, 67, 118, 119, 120, 121] (by decide +kernel) (by decide +kernel)
set_option maxRecDepth 20000 in
theorem gX8_init_X5_init : GoodIn wsX8_init (wsX5_init) := ggX8_init_X5_init
set_option maxRecDepth 20000 in
theorem ggX8_init_X0_init : GoodIn wsX8_init wsX0_init := goodIn_r _ [70, 71, 2, 3, 72, 73, 122, 123] (by decide +kernel) (by decide +kernel)
set_option maxRecDepth 20000 in
theorem gX8_init_X0_init : GoodIn wsX8_init (wsX0_init) := ggX8_init_X0_init
set_option maxRecDepth 20000 in
theorem ggX8_init_X3_init : GoodIn wsX8_init wsX3_init := goodIn_r _ [76, 77, 2, 3, 31, 78, 79, 80, 81, 82, 124, 125, 126, 127, 128, 129] (by decide +kernel) (by decide +kernel)
set_option maxRecDepth 20000 in
theorem gX8_init_X3_init : GoodIn wsX8_init (wsX3_init) := ggX8_init_X3_init
theorem dX8_init_0 : decode cX8_init 0 = .ok (.aload_n 0, 1) := by decide +kernel
theorem dX8_init_1 : decode cX8_init 1 = .ok (.invokespecial 5, 3) := by decide +kernel
theorem dX8_init_4 : decode cX8_init 4 = .ok (.aload_n 0, 1) := by decide +kernel
theorem dX8_init_5 : decode cX8_init 5 = .ok (.iconst 4, 1) := by decide +kernel
theorem dX8_init_6 : decode cX8_init 6 = .ok (.anewarray 11, 3) := by decide +kernel
theorem dX8_init_9 : decode cX8_init 9 = .ok (.putfield 13, 3) := by decide +kernel
theorem dX8_init_12 : decode cX8_init 12 = .ok (.iconst 0, 1) := by decide +kernel
theorem dX8_init_13 : decode cX8_init 13 = .ok (.istore_n 1, 1) := by decide +kernel
theorem dX8_init_14 : decode cX8_init 14 = .ok (.iload_n 1, 1) := by decide +kernel
theorem dX8_init_15 : decode cX8_init 15 = .ok (.iconst 4, 1) := by decide +kernel
theorem dX8_init_16 : decode cX8_init 16 = .ok (.if_icmp .ge 22, 3) := by decide +kernel
theorem dX8_init_19 : decode cX8_init 19 = .ok (.aload_n 0, 1) := by decide +kernel
theorem dX8_init_20 : decode cX8_init 20 = .ok (.getfield 13, 3) := by decide +kernel
theorem dX8_init_23 : decode cX8_init 23 = .ok (.iload_n 1, 1) := by decide +kernel
theorem dX8_init_24 : decode cX8_init 24 = .ok (.new 11, 3) := by decide +kernel
theorem dX8_init_27 : decode cX8_init 27 = .ok (.dup, 1) := by decide +kernel
theorem dX8_init_28 : decode cX8_init 28 = .ok (.invokespecial 17, 3) := by decide +kernel
theorem dX8_init_31 : decode cX8_init 31 = .ok (.aastore, 1) := by decide +kernel
theorem dX8_init_32 : decode cX8_init 32 = .ok (.iinc 1 1, 3) := by decide +kernel
theorem dX8_init_35 : decode cX8_init 35 = .ok (.goto (-21), 3) := by decide +kernel
theorem dX8_init_38 : decode cX8_init 38 = .ok (.aload_n 0, 1) := by decide +kernel
theorem dX8_init_39 : decode cX8_init 39 = .ok (.new 18, 3) := by decide +kernel
theorem dX8_init_42 : decode cX8_init 42 = .ok (.dup, 1) := by decide +kernel
theorem dX8_init_43 : decode cX8_init 43 = .ok (.invokespecial 20, 3) := by decide +kernel
theorem dX8_init_46 : decode cX8_init 46 = .ok (.putfield 21, 3) := by decide +kernel
theorem dX8_init_49 : decode cX8_init 49 = .ok (.aload_n 0, 1) := by decide +kernel
theorem dX8_init_50 : decode cX8_init 50 = .ok (.new 25, 3) := by decide +kernel
theorem dX8_init_53 : decode cX8_init 53 = .ok (.dup, 1) := by decide +kernel
theorem dX8_init_54 : decode cX8_init 54 = .ok (.invokespecial 27, 3) := by decide +kernel
theorem dX8_init_57 : decode cX8_init 57 = .ok (.putfield 28, 3) := by decide +kernel
theorem dX8_init_60 : decode cX8_init 60 = .ok (.aload_n 0, 1) := by decide +kernel
theorem dX8_init_61 : decode cX8_init 61 = .ok (.new 32, 3) := by decide +kernel
theorem dX8_init_64 : decode cX8_init 64 = .ok (.dup, 1) := by decide +kernel
theorem dX8_init_65 : decode cX8_init 65 = .ok (.aload_n 0, 1) := by decide +kernel
theorem dX8_init_66 : decode cX8_init 66 = .ok (.getfield 28, 3) := by decide +kernel
theorem dX8_init_69 : decode cX8_init 69 = .ok (.invokespecial 34, 3) := by decide +kernel
theorem dX8_init_72 : decode cX8_init 72 = .ok (.putfield 37, 3) := by decide +kernel
theorem dX8_init_75 : decode cX8_init 75 = .ok (.aload_n 0, 1) := by decide +kernel
theorem dX8_init_76 : decode cX8_init 76 = .ok (.new 41, 3) := by decide +kernel
theorem dX8_init_79 : decode cX8_init 79 = .ok (.dup, 1) := by decide +kernel
theorem dX8_init_80 : decode cX8_init 80 = .ok (.aload_n 0, 1) := by decide +kernel
theorem dX8_init_81 : decode cX8_init 81 = .ok (.getfield 28, 3) := by decide +kernel
theorem dX8_init_84 : decode cX8_init 84 = .ok (.aload_n 0, 1) := by decide +kernel
theorem dX8_init_85 : decode cX8_init 85 = .ok (.getfield 37, 3) := by decide +kernel
theorem dX8_init_88 : decode cX8_init 88 = .ok (.invokespecial 43, 3) := by decide +kernel
theorem dX8_init_91 : decode cX8_init 91 = .ok (.putfield 46, 3) := by decide +kernel
theorem dX8_init_94 : decode cX8_init 94 = .ok (.aload_n 0, 1) := by decide +kernel
theorem dX8_init_95 : decode cX8_init 95 = .ok (.new 50, 3) := by decide +kernel
theorem dX8_init_98 : decode cX8_init 98 = .ok (.dup, 1) := by decide +kernel
theorem dX8_init_99 : decode cX8_init 99 = .ok (.aload_n 0, 1) := by decide +kernel
theorem dX8_init_100 : decode cX8_init 100 = .ok (.getfield 28, 3) := by decide +kernel
theorem dX8_init_103 : decode cX8_init 103 = .ok (.aload_n 0, 1) := by decide +kernel
theorem dX8_init_104 : decode cX8_init 104 = .ok (.getfield 37, 3) := by decide +kernel
theorem dX8_init_107 : decode cX8_init 107 = .ok (.invokespecial 52, 3) := by decide +kernel
theorem dX8_init_110 : decode cX8_init 110 = .ok (.putfield 53, 3) := by decide +kernel
theorem dX8_init_113 : decode cX8_init 113 = .ok (.return_, 1) := by decide +kernel
set_option maxRecDepth 20000 in
theorem ggX8_land_X8_isSheet : GoodIn wsX8_land wsX8_isSheet := goodIn_r _ [12, 13, 14, 11, 15] (by decide +kernel) (by decide +kernel)
set_option maxRecDepth 20000 in
theorem gX8_land_X8_isSheet : GoodIn wsX8_land (va_wsS RX8 61 yX8_isSheet wsX8_isSheet) := goodIn_app (goodIn_of _ (by decide +kernel)) ggX8_land_X8_isSheet
set_option maxRecDepth 20000 in
theorem ggX8_land_X8_isWithin : GoodIn wsX8_land wsX8_isWithin := goodIn_r _ [15] (by decide +kernel) (by decide +kernel)
set_option maxRecDepth 20000 in
theorem gX8_land_X8_isWithin : GoodIn wsX8_land (va_wsS RX8 65 yX8_isWithin wsX8_isWithin) := goodIn_app (goodIn_of _ (by decide +kernel)) ggX8_land_X8_isWithin
set_option maxRecDepth 20000 in
theorem ggX8_land_X4_faultAs : GoodIn wsX8_land wsX4_faultAs := goodIn_r _ [20, 21, 22, 23, 24, 19, 25, 26, 151, 152, 153] (by decide +kernel) (by decide +kernel)
set_option maxRecDepth 20000 in
theorem gX8_land_X4_faultAs : GoodIn wsX8_land (wsV RX8 69 RX4 yX4_faultAs wsX4_faultAs) := goodIn_app (goodIn_of _ (by decide +kernel)) ggX8_land_X4_faultAs
set_option maxRecDepth 20000 in
theorem ggX8_land_X4_holdsRun : GoodIn wsX8_land wsX4_holdsRun := goodIn_r _ [30, 26, 151, 152, 153] (by decide +kernel) (by decide +kernel)
set_option maxRecDepth 20000 in
theorem gX8_land_X4_holdsRun : GoodIn wsX8_land (wsV RX8 73 RX4 yX4_holdsRun wsX4_holdsRun) := goodIn_app (goodIn_of _ (by decide +kernel)) ggX8_land_X4_holdsRun
set_option maxRecDepth 20000 in
theorem ggX8_land_X8_answerFault : GoodIn wsX8_land wsX8_answerFault := goodIn_r _ [34, 1, 113, 114, 115, 116, 117, 118, 119, 120] (by decide +kernel) (by decide +kernel)
set_option maxRecDepth 20000 in
theorem gX8_land_X8_answerFault : GoodIn wsX8_land (wsV RX8 77 RX8 yX8_answerFault wsX8_answerFault) := goodIn_app (goodIn_of _ (by decide +kernel)) ggX8_land_X8_answerFault
set_option maxRecDepth 20000 in
theorem ggX8_land_X6_isTaken : GoodIn wsX8_land wsX6_isTaken := goodIn_r _ [39, 40, 41, 42, 43, 44, 45, 46, 47, 48, 38, 49, 50, 51, 52, 53, 54, 55, 56, 57, 58, 59, 60, 14, 11, 15, 61, 62, 63, 64, 65, 66, 67, 68, 69, 70, 71, 72, 73, 74, 75, 76, 77, 78, 79, 121, 122, 123, 124, 125, 126, 127, 128, 129, 130, 131, 151, 152, 153] (by decide +kernel) (by decide +kernel)
set_option maxRecDepth 20000 in
theorem gX8_land_X6_isTaken : GoodIn wsX8_land (wsV RX8 80 RX6 yX6_isTaken wsX6_isTaken) := goodIn_app (goodIn_of _ (by decide +kernel)) ggX8_land_X6_isTaken
set_option maxRecDepth 20000 in
theorem ggX8_land_X2_makeAnew : GoodIn wsX8_land wsX2_makeAnew := goodIn_r _ [84, 85, 86, 87, 88, 89, 90, 91, 92, 93, 94, 95, 96, 97, 98, 99, 100, 101, 102, 103, 83, 104, 105, 106, 107, 108, 109, 110, 111, 112, 121, 122, 123, 124, 125, 126, 127, 128, 129, 130, 131, 138, 139, 140, 141, 142, 143, 144, 145, 146, 147, 148, 149, 150, 154, 155, 156, 157, 158, 159] (by decide +kernel) (by decide +kernel)
set_option maxRecDepth 20000 in
theorem gX8_land_X2_makeAnew : GoodIn wsX8_land (wsV RX8 87 RX2 yX2_makeAnew wsX2_makeAnew) := goodIn_app (goodIn_of _ (by decide +kernel)) ggX8_land_X2_makeAnew
theorem dX8_land_0 : decode cX8_land 0 = .ok (.aload_n 0, 1) := by decide +kernel
theorem dX8_land_1 : decode cX8_land 1 = .ok (.iconst 0, 1) := by decide +kernel
theorem dX8_land_2 : decode cX8_land 2 = .ok (.putfield 57, 3) := by decide +kernel
theorem dX8_land_5 : decode cX8_land 5 = .ok (.iload_n 1, 1) := by decide +kernel
theorem dX8_land_6 : decode cX8_land 6 = .ok (.invokestatic 61, 3) := by decide +kernel
theorem dX8_land_9 : decode cX8_land 9 = .ok (.ifCond .ne 5, 3) := by decide +kernel
theorem dX8_land_12 : decode cX8_land 12 = .ok (.iconst (-1), 1) := by decide +kernel
theorem dX8_land_13 : decode cX8_land 13 = .ok (.ireturn, 1) := by decide +kernel
theorem dX8_land_14 : decode cX8_land 14 = .ok (.iload_n 2, 1) := by decide +kernel
theorem dX8_land_15 : decode cX8_land 15 = .ok (.iconst 0, 1) := by decide +kernel
theorem dX8_land_16 : decode cX8_land 16 = .ok (.iconst 2, 1) := by decide +kernel
theorem dX8_land_17 : decode cX8_land 17 = .ok (.invokestatic 65, 3) := by decide +kernel
theorem dX8_land_20 : decode cX8_land 20 = .ok (.ifCond .ne 6, 3) := by decide +kernel
theorem dX8_land_23 : decode cX8_land 23 = .ok (.bipush (-2), 2) := by decide +kernel
theorem dX8_land_25 : decode cX8_land 25 = .ok (.ireturn, 1) := by decide +kernel
theorem dX8_land_26 : decode cX8_land 26 = .ok (.aload_n 0, 1) := by decide +kernel
theorem dX8_land_27 : decode cX8_land 27 = .ok (.getfield 13, 3) := by decide +kernel
theorem dX8_land_30 : decode cX8_land 30 = .ok (.iload_n 1, 1) := by decide +kernel
theorem dX8_land_31 : decode cX8_land 31 = .ok (.aaload, 1) := by decide +kernel
theorem dX8_land_32 : decode cX8_land 32 = .ok (.astore 5, 2) := by decide +kernel
theorem dX8_land_34 : decode cX8_land 34 = .ok (.aload 5, 2) := by decide +kernel
theorem dX8_land_36 : decode cX8_land 36 = .ok (.iload_n 2, 1) := by decide +kernel
theorem dX8_land_37 : decode cX8_land 37 = .ok (.invokevirtual 69, 3) := by decide +kernel
theorem dX8_land_40 : decode cX8_land 40 = .ok (.istore 6, 2) := by decide +kernel
theorem dX8_land_42 : decode cX8_land 42 = .ok (.iload 6, 2) := by decide +kernel
theorem dX8_land_44 : decode cX8_land 44 = .ok (.ifCond .ne 11, 3) := by decide +kernel
theorem dX8_land_47 : decode cX8_land 47 = .ok (.iload 4, 2) := by decide +kernel
theorem dX8_land_49 : decode cX8_land 49 = .ok (.ifCond .ge 6, 3) := by decide +kernel
theorem dX8_land_52 : decode cX8_land 52 = .ok (.iconst 4, 1) := by decide +kernel
theorem dX8_land_53 : decode cX8_land 53 = .ok (.istore 6, 2) := by decide +kernel
theorem dX8_land_55 : decode cX8_land 55 = .ok (.iload 6, 2) := by decide +kernel
theorem dX8_land_57 : decode cX8_land 57 = .ok (.ifCond .ne 17, 3) := by decide +kernel
theorem dX8_land_60 : decode cX8_land 60 = .ok (.aload 5, 2) := by decide +kernel
theorem dX8_land_62 : decode cX8_land 62 = .ok (.iload_n 3, 1) := by decide +kernel
theorem dX8_land_63 : decode cX8_land 63 = .ok (.iload 4, 2) := by decide +kernel
theorem dX8_land_65 : decode cX8_land 65 = .ok (.invokevirtual 73, 3) := by decide +kernel
theorem dX8_land_68 : decode cX8_land 68 = .ok (.ifCond .ne 6, 3) := by decide +kernel
theorem dX8_land_71 : decode cX8_land 71 = .ok (.iconst 3, 1) := by decide +kernel
theorem dX8_land_72 : decode cX8_land 72 = .ok (.istore 6, 2) := by decide +kernel
theorem dX8_land_74 : decode cX8_land 74 = .ok (.iload 6, 2) := by decide +kernel
theorem dX8_land_76 : decode cX8_land 76 = .ok (.ifCond .eq 10, 3) := by decide +kernel
theorem dX8_land_79 : decode cX8_land 79 = .ok (.aload_n 0, 1) := by decide +kernel
theorem dX8_land_80 : decode cX8_land 80 = .ok (.iload 6, 2) := by decide +kernel
theorem dX8_land_82 : decode cX8_land 82 = .ok (.invokevirtual 77, 3) := by decide +kernel
theorem dX8_land_85 : decode cX8_land 85 = .ok (.ireturn, 1) := by decide +kernel
theorem dX8_land_86 : decode cX8_land 86 = .ok (.aload_n 0, 1) := by decide +kernel
theorem dX8_land_87 : decode cX8_land 87 = .ok (.getfield 21, 3) := by decide +kernel
theorem dX8_land_90 : decode cX8_land 90 = .ok (.aload 5, 2) := by decide +kernel
theorem dX8_land_92 : decode cX8_land 92 = .ok (.iload_n 3, 1) := by decide +kernel
theorem dX8_land_93 : decode cX8_land 93 = .ok (.iload 4, 2) := by decide +kernel
theorem dX8_land_95 : decode cX8_land 95 = .ok (.invokevirtual 80, 3) := by decide +kernel
theorem dX8_land_98 : decode cX8_land 98 = .ok (.ifCond .ne 14, 3) := by decide +kernel
theorem dX8_land_101 : decode cX8_land 101 = .ok (.bipush (-100), 2) := by decide +kernel
theorem dX8_land_103 : decode cX8_land 103 = .ok (.aload_n 0, 1) := by decide +kernel
theorem dX8_land_104 : decode cX8_land 104 = .ok (.getfield 21, 3) := by decide +kernel
theorem dX8_land_107 : decode cX8_land 107 = .ok (.getfield 84, 3) := by decide +kernel
theorem dX8_land_110 : decode cX8_land 110 = .ok (.isub, 1) := by decide +kernel
theorem dX8_land_111 : decode cX8_land 111 = .ok (.ireturn, 1) := by decide +kernel
theorem dX8_land_112 : decode cX8_land 112 = .ok (.aload_n 0, 1) := by decide +kernel
theorem dX8_land_113 : decode cX8_land 113 = .ok (.getfield 28, 3) := by decide +kernel
theorem dX8_land_116 : decode cX8_land 116 = .ok (.aload_n 0, 1) := by decide +kernel
theorem dX8_land_117 : decode cX8_land 117 = .ok (.getfield 21, 3) := by decide +kernel
theorem dX8_land_120 : decode cX8_land 120 = .ok (.invokevirtual 87, 3) := by decide +kernel
theorem dX8_land_123 : decode cX8_land 123 = .ok (.aload_n 0, 1) := by decide +kernel
theorem dX8_land_124 : decode cX8_land 124 = .ok (.getfield 53, 3) := by decide +kernel
theorem dX8_land_127 : decode cX8_land 127 = .ok (.iconst 0, 1) := by decide +kernel
theorem dX8_land_128 : decode cX8_land 128 = .ok (.putfield 91, 3) := by decide +kernel
theorem dX8_land_131 : decode cX8_land 131 = .ok (.aload_n 0, 1) := by decide +kernel
theorem dX8_land_132 : decode cX8_land 132 = .ok (.getfield 28, 3) := by decide +kernel
theorem dX8_land_135 : decode cX8_land 135 = .ok (.getfield 94, 3) := by decide +kernel
theorem dX8_land_138 : decode cX8_land 138 = .ok (.ireturn, 1) := by decide +kernel
set_option maxRecDepth 20000 in
theorem ggX8_ofCell_X2_hasCell : GoodIn wsX8_ofCell wsX2_hasCell := goodIn_r _ [8, 9, 10, 11, 12, 56, 57, 58, 59, 60, 61, 62, 63, 64, 65, 66, 67, 68] (by decide +kernel) (by decide +kernel)
set_option maxRecDepth 20000 in
theorem gX8_ofCell_X2_hasCell : GoodIn wsX8_ofCell (wsV RX8 97 RX2 yX2_hasCell wsX2_hasCell) := goodIn_app (goodIn_of _ (by decide +kernel)) ggX8_ofCell_X2_hasCell
set_option maxRecDepth 20000 in
theorem ggX8_ofCell_X2_topOf : GoodIn wsX8_ofCell wsX2_topOf := goodIn_r _ [16, 17, 18, 19, 20, 7, 21, 22, 23, 24, 25, 26, 27, 28, 29, 30, 31, 32, 33, 34, 35, 11, 36, 37, 38, 39, 40, 41, 42, 43, 44, 45, 46, 47, 56, 57, 58, 59, 60, 61, 62, 63, 64, 65, 66, 67, 68, 69, 70, 71, 72, 73, 74] (by decide +kernel) (by decide +kernel)
set_option maxRecDepth 20000 in
theorem gX8_ofCell_X2_topOf : GoodIn wsX8_ofCell (wsV RX8 104 RX2 yX2_topOf wsX2_topOf) := goodIn_app (goodIn_of _ (by decide +kernel)) ggX8_ofCell_X2_topOf
theorem dX8_ofCell_0 : decode cX8_ofCell 0 = .ok (.aload_n 0, 1) := by decide +kernel
theorem dX8_ofCell_1 : decode cX8_ofCell 1 = .ok (.getfield 28, 3) := by decide +kernel
theorem dX8_ofCell_4 : decode cX8_ofCell 4 = .ok (.iload_n 1, 1) := by decide +kernel
theorem dX8_ofCell_5 : decode cX8_ofCell 5 = .ok (.invokevirtual 97, 3) := by decide +kernel
theorem dX8_ofCell_8 : decode cX8_ofCell 8 = .ok (.ifCond .ne 5, 3) := by decide +kernel
theorem dX8_ofCell_11 : decode cX8_ofCell 11 = .ok (.iconst (-1), 1) := by decide +kernel
theorem dX8_ofCell_12 : decode cX8_ofCell 12 = .ok (.ireturn, 1) := by decide +kernel
theorem dX8_ofCell_13 : decode cX8_ofCell 13 = .ok (.iload_n 2, 1) := by decide +kernel
theorem dX8_ofCell_14 : decode cX8_ofCell 14 = .ok (.tableswitch 55 0 2 #[26, 36, 45], 26) := by decide +kernel
theorem dX8_ofCell_40 : decode cX8_ofCell 40 = .ok (.aload_n 0, 1) := by decide +kernel
theorem dX8_ofCell_41 : decode cX8_ofCell 41 = .ok (.getfield 28, 3) := by decide +kernel
theorem dX8_ofCell_44 : decode cX8_ofCell 44 = .ok (.getfield 100, 3) := by decide +kernel
theorem dX8_ofCell_47 : decode cX8_ofCell 47 = .ok (.iload_n 1, 1) := by decide +kernel
theorem dX8_ofCell_48 : decode cX8_ofCell 48 = .ok (.iaload, 1) := by decide +kernel
theorem dX8_ofCell_49 : decode cX8_ofCell 49 = .ok (.ireturn, 1) := by decide +kernel
theorem dX8_ofCell_50 : decode cX8_ofCell 50 = .ok (.aload_n 0, 1) := by decide +kernel
theorem dX8_ofCell_51 : decode cX8_ofCell 51 = .ok (.getfield 28, 3) := by decide +kernel
theorem dX8_ofCell_54 : decode cX8_ofCell 54 = .ok (.iload_n 1, 1) := by decide +kernel
theorem dX8_ofCell_55 : decode cX8_ofCell 55 = .ok (.invokevirtual 104, 3) := by decide +kernel
theorem dX8_ofCell_58 : decode cX8_ofCell 58 = .ok (.ireturn, 1) := by decide +kernel
theorem dX8_ofCell_59 : decode cX8_ofCell 59 = .ok (.aload_n 0, 1) := by decide +kernel
theorem dX8_ofCell_60 : decode cX8_ofCell 60 = .ok (.getfield 28, 3) := by decide +kernel
theorem dX8_ofCell_63 : decode cX8_ofCell 63 = .ok (.getfield 107, 3) := by decide +kernel
theorem dX8_ofCell_66 : decode cX8_ofCell 66 = .ok (.iload_n 1, 1) := by decide +kernel
theorem dX8_ofCell_67 : decode cX8_ofCell 67 = .ok (.iaload, 1) := by decide +kernel
theorem dX8_ofCell_68 : decode cX8_ofCell 68 = .ok (.ireturn, 1) := by decide +kernel
theorem dX8_ofCell_69 : decode cX8_ofCell 69 = .ok (.bipush (-2), 2) := by decide +kernel
theorem dX8_ofCell_71 : decode cX8_ofCell 71 = .ok (.ireturn, 1) := by decide +kernel
set_option maxRecDepth 20000 in
theorem ggX8_ofHouse_X2_hasHouse : GoodIn wsX8_ofHouse wsX2_hasHouse := goodIn_r _ [12, 13, 14, 15, 16, 36, 37, 38, 39, 40, 41, 42, 43, 44, 45, 46, 47, 48] (by decide +kernel) (by decide +kernel)
set_option maxRecDepth 20000 in
theorem gX8_ofHouse_X2_hasHouse : GoodIn wsX8_ofHouse (wsV RX8 110 RX2 yX2_hasHouse wsX2_hasHouse) := goodIn_app (goodIn_of _ (by decide +kernel)) ggX8_ofHouse_X2_hasHouse
set_option maxRecDepth 20000 in
theorem ggX8_ofHouse_X1_tallWith : GoodIn wsX8_ofHouse wsX1_tallWith := goodIn_r _ [21, 22, 23, 24, 25, 20, 26, 27, 49, 50, 51, 52] (by decide +kernel) (by decide +kernel)
set_option maxRecDepth 20000 in
theorem gX8_ofHouse_X1_tallWith : GoodIn wsX8_ofHouse (wsV RX8 132 RX1 yX1_tallWith wsX1_tallWith) := goodIn_app (goodIn_of _ (by decide +kernel)) ggX8_ofHouse_X1_tallWith
theorem dX8_ofHouse_0 : decode cX8_ofHouse 0 = .ok (.aload_n 0, 1) := by decide +kernel
theorem dX8_ofHouse_1 : decode cX8_ofHouse 1 = .ok (.getfield 28, 3) := by decide +kernel
theorem dX8_ofHouse_4 : decode cX8_ofHouse 4 = .ok (.iload_n 1, 1) := by decide +kernel
theorem dX8_ofHouse_5 : decode cX8_ofHouse 5 = .ok (.invokevirtual 110, 3) := by decide +kernel
theorem dX8_ofHouse_8 : decode cX8_ofHouse 8 = .ok (.ifCond .ne 5, 3) := by decide +kernel
theorem dX8_ofHouse_11 : decode cX8_ofHouse 11 = .ok (.iconst (-1), 1) := by decide +kernel
theorem dX8_ofHouse_12 : decode cX8_ofHouse 12 = .ok (.ireturn, 1) := by decide +kernel
theorem dX8_ofHouse_13 : decode cX8_ofHouse 13 = .ok (.aload_n 0, 1) := by decide +kernel
theorem dX8_ofHouse_14 : decode cX8_ofHouse 14 = .ok (.getfield 28, 3) := by decide +kernel
theorem dX8_ofHouse_17 : decode cX8_ofHouse 17 = .ok (.getfield 113, 3) := by decide +kernel
theorem dX8_ofHouse_20 : decode cX8_ofHouse 20 = .ok (.iload_n 1, 1) := by decide +kernel
theorem dX8_ofHouse_21 : decode cX8_ofHouse 21 = .ok (.aaload, 1) := by decide +kernel
theorem dX8_ofHouse_22 : decode cX8_ofHouse 22 = .ok (.astore_n 3, 1) := by decide +kernel
theorem dX8_ofHouse_23 : decode cX8_ofHouse 23 = .ok (.iload_n 2, 1) := by decide +kernel
theorem dX8_ofHouse_24 : decode cX8_ofHouse 24 = .ok (.tableswitch 72 0 4 #[36, 41, 46, 51, 67], 36) := by decide +kernel
theorem dX8_ofHouse_60 : decode cX8_ofHouse 60 = .ok (.aload_n 3, 1) := by decide +kernel
theorem dX8_ofHouse_61 : decode cX8_ofHouse 61 = .ok (.getfield 117, 3) := by decide +kernel
theorem dX8_ofHouse_64 : decode cX8_ofHouse 64 = .ok (.ireturn, 1) := by decide +kernel
theorem dX8_ofHouse_65 : decode cX8_ofHouse 65 = .ok (.aload_n 3, 1) := by decide +kernel
theorem dX8_ofHouse_66 : decode cX8_ofHouse 66 = .ok (.getfield 122, 3) := by decide +kernel
theorem dX8_ofHouse_69 : decode cX8_ofHouse 69 = .ok (.ireturn, 1) := by decide +kernel
theorem dX8_ofHouse_70 : decode cX8_ofHouse 70 = .ok (.aload_n 3, 1) := by decide +kernel
theorem dX8_ofHouse_71 : decode cX8_ofHouse 71 = .ok (.getfield 123, 3) := by decide +kernel
theorem dX8_ofHouse_74 : decode cX8_ofHouse 74 = .ok (.ireturn, 1) := by decide +kernel
theorem dX8_ofHouse_75 : decode cX8_ofHouse 75 = .ok (.aload_n 3, 1) := by decide +kernel
theorem dX8_ofHouse_76 : decode cX8_ofHouse 76 = .ok (.aload_n 3, 1) := by decide +kernel
theorem dX8_ofHouse_77 : decode cX8_ofHouse 77 = .ok (.getfield 126, 3) := by decide +kernel
theorem dX8_ofHouse_80 : decode cX8_ofHouse 80 = .ok (.aload_n 0, 1) := by decide +kernel
theorem dX8_ofHouse_81 : decode cX8_ofHouse 81 = .ok (.getfield 28, 3) := by decide +kernel
theorem dX8_ofHouse_84 : decode cX8_ofHouse 84 = .ok (.getfield 129, 3) := by decide +kernel
theorem dX8_ofHouse_87 : decode cX8_ofHouse 87 = .ok (.invokevirtual 132, 3) := by decide +kernel
theorem dX8_ofHouse_90 : decode cX8_ofHouse 90 = .ok (.ireturn, 1) := by decide +kernel
theorem dX8_ofHouse_91 : decode cX8_ofHouse 91 = .ok (.aload_n 3, 1) := by decide +kernel
theorem dX8_ofHouse_92 : decode cX8_ofHouse 92 = .ok (.getfield 126, 3) := by decide +kernel
theorem dX8_ofHouse_95 : decode cX8_ofHouse 95 = .ok (.ireturn, 1) := by decide +kernel
theorem dX8_ofHouse_96 : decode cX8_ofHouse 96 = .ok (.bipush (-2), 2) := by decide +kernel
theorem dX8_ofHouse_98 : decode cX8_ofHouse 98 = .ok (.ireturn, 1) := by decide +kernel
set_option maxRecDepth 20000 in
theorem ggX8_ofTree_X2_hasTree : GoodIn wsX8_ofTree wsX2_hasTree := goodIn_r _ [11, 12, 13, 14, 15, 33, 34, 35, 36, 37, 38, 39, 40, 41, 42, 43, 44, 45] (by decide +kernel) (by decide +kernel)
set_option maxRecDepth 20000 in
theorem gX8_ofTree_X2_hasTree : GoodIn wsX8_ofTree (wsV RX8 136 RX2 yX2_hasTree wsX2_hasTree) := goodIn_app (goodIn_of _ (by decide +kernel)) ggX8_ofTree_X2_hasTree
set_option maxRecDepth 20000 in
theorem ggX8_ofTree_X2_treeTall : GoodIn wsX8_ofTree wsX2_treeTall := goodIn_r _ [19, 20, 21, 22, 14, 23, 33, 34, 35, 36, 37, 38, 39, 40, 41, 42, 43, 44, 45, 46, 47] (by decide +kernel) (by decide +kernel)
set_option maxRecDepth 20000 in
theorem gX8_ofTree_X2_treeTall : GoodIn wsX8_ofTree (wsV RX8 153 RX2 yX2_treeTall wsX2_treeTall) := goodIn_app (goodIn_of _ (by decide +kernel)) ggX8_ofTree_X2_treeTall
set_option maxRecDepth 20000 in
theorem ggX8_ofTree_X8_isIn : GoodIn wsX8_ofTree wsX8_isIn := goodIn_r _ [23] (by decide +kernel) (by decide +kernel)
set_option maxRecDepth 20000 in
theorem gX8_ofTree_X8_isIn : GoodIn wsX8_ofTree (va_wsS RX8 157 yX8_isIn wsX8_isIn) := goodIn_app (goodIn_of _ (by decide +kernel)) ggX8_ofTree_X8_isIn
theorem dX8_ofTree_0 : decode cX8_ofTree 0 = .ok (.aload_n 0, 1) := by decide +kernel
theorem dX8_ofTree_1 : decode cX8_ofTree 1 = .ok (.getfield 28, 3) := by decide +kernel
theorem dX8_ofTree_4 : decode cX8_ofTree 4 = .ok (.iload_n 1, 1) := by decide +kernel
theorem dX8_ofTree_5 : decode cX8_ofTree 5 = .ok (.invokevirtual 136, 3) := by decide +kernel
theorem dX8_ofTree_8 : decode cX8_ofTree 8 = .ok (.ifCond .ne 5, 3) := by decide +kernel
theorem dX8_ofTree_11 : decode cX8_ofTree 11 = .ok (.iconst (-1), 1) := by decide +kernel
theorem dX8_ofTree_12 : decode cX8_ofTree 12 = .ok (.ireturn, 1) := by decide +kernel
theorem dX8_ofTree_13 : decode cX8_ofTree 13 = .ok (.iload_n 2, 1) := by decide +kernel
theorem dX8_ofTree_14 : decode cX8_ofTree 14 = .ok (.tableswitch 99 0 3 #[30, 43, 56, 79], 30) := by decide +kernel
theorem dX8_ofTree_44 : decode cX8_ofTree 44 = .ok (.aload_n 0, 1) := by decide +kernel
theorem dX8_ofTree_45 : decode cX8_ofTree 45 = .ok (.getfield 28, 3) := by decide +kernel
theorem dX8_ofTree_48 : decode cX8_ofTree 48 = .ok (.getfield 139, 3) := by decide +kernel
theorem dX8_ofTree_51 : decode cX8_ofTree 51 = .ok (.iload_n 1, 1) := by decide +kernel
theorem dX8_ofTree_52 : decode cX8_ofTree 52 = .ok (.aaload, 1) := by decide +kernel
theorem dX8_ofTree_53 : decode cX8_ofTree 53 = .ok (.getfield 143, 3) := by decide +kernel
theorem dX8_ofTree_56 : decode cX8_ofTree 56 = .ok (.ireturn, 1) := by decide +kernel
theorem dX8_ofTree_57 : decode cX8_ofTree 57 = .ok (.aload_n 0, 1) := by decide +kernel
theorem dX8_ofTree_58 : decode cX8_ofTree 58 = .ok (.getfield 28, 3) := by decide +kernel
theorem dX8_ofTree_61 : decode cX8_ofTree 61 = .ok (.getfield 139, 3) := by decide +kernel
theorem dX8_ofTree_64 : decode cX8_ofTree 64 = .ok (.iload_n 1, 1) := by decide +kernel
theorem dX8_ofTree_65 : decode cX8_ofTree 65 = .ok (.aaload, 1) := by decide +kernel
theorem dX8_ofTree_66 : decode cX8_ofTree 66 = .ok (.getfield 146, 3) := by decide +kernel
theorem dX8_ofTree_69 : decode cX8_ofTree 69 = .ok (.ireturn, 1) := by decide +kernel
theorem dX8_ofTree_70 : decode cX8_ofTree 70 = .ok (.aload_n 0, 1) := by decide +kernel
theorem dX8_ofTree_71 : decode cX8_ofTree 71 = .ok (.getfield 28, 3) := by decide +kernel
theorem dX8_ofTree_74 : decode cX8_ofTree 74 = .ok (.iload_n 1, 1) := by decide +kernel
theorem dX8_ofTree_75 : decode cX8_ofTree 75 = .ok (.aload_n 0, 1) := by decide +kernel
theorem dX8_ofTree_76 : decode cX8_ofTree 76 = .ok (.getfield 28, 3) := by decide +kernel
theorem dX8_ofTree_79 : decode cX8_ofTree 79 = .ok (.getfield 147, 3) := by decide +kernel
theorem dX8_ofTree_82 : decode cX8_ofTree 82 = .ok (.aload_n 0, 1) := by decide +kernel
theorem dX8_ofTree_83 : decode cX8_ofTree 83 = .ok (.getfield 28, 3) := by decide +kernel
theorem dX8_ofTree_86 : decode cX8_ofTree 86 = .ok (.getfield 150, 3) := by decide +kernel
theorem dX8_ofTree_89 : decode cX8_ofTree 89 = .ok (.invokevirtual 153, 3) := by decide +kernel
theorem dX8_ofTree_92 : decode cX8_ofTree 92 = .ok (.ireturn, 1) := by decide +kernel
theorem dX8_ofTree_93 : decode cX8_ofTree 93 = .ok (.iload_n 1, 1) := by decide +kernel
theorem dX8_ofTree_94 : decode cX8_ofTree 94 = .ok (.aload_n 0, 1) := by decide +kernel
theorem dX8_ofTree_95 : decode cX8_ofTree 95 = .ok (.getfield 28, 3) := by decide +kernel
theorem dX8_ofTree_98 : decode cX8_ofTree 98 = .ok (.getfield 150, 3) := by decide +kernel
theorem dX8_ofTree_101 : decode cX8_ofTree 101 = .ok (.invokestatic 157, 3) := by decide +kernel
theorem dX8_ofTree_104 : decode cX8_ofTree 104 = .ok (.ifCond .eq 7, 3) := by decide +kernel
theorem dX8_ofTree_107 : decode cX8_ofTree 107 = .ok (.iconst 1, 1) := by decide +kernel
theorem dX8_ofTree_108 : decode cX8_ofTree 108 = .ok (.goto 4, 3) := by decide +kernel
theorem dX8_ofTree_111 : decode cX8_ofTree 111 = .ok (.iconst 0, 1) := by decide +kernel
theorem dX8_ofTree_112 : decode cX8_ofTree 112 = .ok (.ireturn, 1) := by decide +kernel
theorem dX8_ofTree_113 : decode cX8_ofTree 113 = .ok (.bipush (-2), 2) := by decide +kernel
theorem dX8_ofTree_115 : decode cX8_ofTree 115 = .ok (.ireturn, 1) := by decide +kernel
set_option maxRecDepth 20000 in
theorem ggX8_times_X8_isWithin : GoodIn wsX8_times wsX8_isWithin := goodIn_r _ [8] (by decide +kernel) (by decide +kernel)
set_option maxRecDepth 20000 in
theorem gX8_times_X8_isWithin : GoodIn wsX8_times (va_wsS RX8 65 yX8_isWithin wsX8_isWithin) := goodIn_app (goodIn_of _ (by decide +kernel)) ggX8_times_X8_isWithin
set_option maxRecDepth 20000 in
theorem ggX8_times_X2_isThere : GoodIn wsX8_times wsX2_isThere := goodIn_r _ [13, 14, 23, 24, 25, 26, 27, 28, 29, 30, 31, 32, 33, 34, 35] (by decide +kernel) (by decide +kernel)
set_option maxRecDepth 20000 in
theorem gX8_times_X2_isThere : GoodIn wsX8_times (wsV RX8 160 RX2 yX2_isThere wsX2_isThere) := goodIn_app (goodIn_of _ (by decide +kernel)) ggX8_times_X2_isThere
theorem dX8_times_0 : decode cX8_times 0 = .ok (.iload_n 1, 1) := by decide +kernel
theorem dX8_times_1 : decode cX8_times 1 = .ok (.iconst 0, 1) := by decide +kernel
theorem dX8_times_2 : decode cX8_times 2 = .ok (.bipush 30, 2) := by decide +kernel
theorem dX8_times_4 : decode cX8_times 4 = .ok (.invokestatic 65, 3) := by decide +kernel
theorem dX8_times_7 : decode cX8_times 7 = .ok (.ifCond .eq 22, 3) := by decide +kernel
theorem dX8_times_10 : decode cX8_times 10 = .ok (.iload_n 2, 1) := by decide +kernel
theorem dX8_times_11 : decode cX8_times 11 = .ok (.iconst 1, 1) := by decide +kernel
theorem dX8_times_12 : decode cX8_times 12 = .ok (.bipush 9, 2) := by decide +kernel
theorem dX8_times_14 : decode cX8_times 14 = .ok (.invokestatic 65, 3) := by decide +kernel
theorem dX8_times_17 : decode cX8_times 17 = .ok (.ifCond .eq 12, 3) := by decide +kernel
theorem dX8_times_20 : decode cX8_times 20 = .ok (.iload_n 3, 1) := by decide +kernel
theorem dX8_times_21 : decode cX8_times 21 = .ok (.iconst 0, 1) := by decide +kernel
theorem dX8_times_22 : decode cX8_times 22 = .ok (.iconst 1, 1) := by decide +kernel
theorem dX8_times_23 : decode cX8_times 23 = .ok (.invokestatic 65, 3) := by decide +kernel
theorem dX8_times_26 : decode cX8_times 26 = .ok (.ifCond .ne 6, 3) := by decide +kernel
theorem dX8_times_29 : decode cX8_times 29 = .ok (.bipush (-2), 2) := by decide +kernel
theorem dX8_times_31 : decode cX8_times 31 = .ok (.ireturn, 1) := by decide +kernel
theorem dX8_times_32 : decode cX8_times 32 = .ok (.aload_n 0, 1) := by decide +kernel
theorem dX8_times_33 : decode cX8_times 33 = .ok (.getfield 28, 3) := by decide +kernel
theorem dX8_times_36 : decode cX8_times 36 = .ok (.invokevirtual 160, 3) := by decide +kernel
theorem dX8_times_39 : decode cX8_times 39 = .ok (.ifCond .ne 6, 3) := by decide +kernel
theorem dX8_times_42 : decode cX8_times 42 = .ok (.bipush (-3), 2) := by decide +kernel
theorem dX8_times_44 : decode cX8_times 44 = .ok (.ireturn, 1) := by decide +kernel
theorem dX8_times_45 : decode cX8_times 45 = .ok (.aload_n 0, 1) := by decide +kernel
theorem dX8_times_46 : decode cX8_times 46 = .ok (.getfield 28, 3) := by decide +kernel
theorem dX8_times_49 : decode cX8_times 49 = .ok (.getfield 147, 3) := by decide +kernel
theorem dX8_times_52 : decode cX8_times 52 = .ok (.iload_n 1, 1) := by decide +kernel
theorem dX8_times_53 : decode cX8_times 53 = .ok (.if_icmp .ne 27, 3) := by decide +kernel
theorem dX8_times_56 : decode cX8_times 56 = .ok (.aload_n 0, 1) := by decide +kernel
theorem dX8_times_57 : decode cX8_times 57 = .ok (.getfield 28, 3) := by decide +kernel
theorem dX8_times_60 : decode cX8_times 60 = .ok (.getfield 164, 3) := by decide +kernel
theorem dX8_times_63 : decode cX8_times 63 = .ok (.iload_n 2, 1) := by decide +kernel
theorem dX8_times_64 : decode cX8_times 64 = .ok (.if_icmp .ne 16, 3) := by decide +kernel
theorem dX8_times_67 : decode cX8_times 67 = .ok (.aload_n 0, 1) := by decide +kernel
theorem dX8_times_68 : decode cX8_times 68 = .ok (.getfield 28, 3) := by decide +kernel
theorem dX8_times_71 : decode cX8_times 71 = .ok (.getfield 129, 3) := by decide +kernel
theorem dX8_times_74 : decode cX8_times 74 = .ok (.iload_n 3, 1) := by decide +kernel
theorem dX8_times_75 : decode cX8_times 75 = .ok (.if_icmp .ne 5, 3) := by decide +kernel
theorem dX8_times_78 : decode cX8_times 78 = .ok (.iconst 0, 1) := by decide +kernel
theorem dX8_times_79 : decode cX8_times 79 = .ok (.ireturn, 1) := by decide +kernel
theorem dX8_times_80 : decode cX8_times 80 = .ok (.aload_n 0, 1) := by decide +kernel
theorem dX8_times_81 : decode cX8_times 81 = .ok (.getfield 28, 3) := by decide +kernel
theorem dX8_times_84 : decode cX8_times 84 = .ok (.iload_n 1, 1) := by decide +kernel
theorem dX8_times_85 : decode cX8_times 85 = .ok (.putfield 147, 3) := by decide +kernel
theorem dX8_times_88 : decode cX8_times 88 = .ok (.aload_n 0, 1) := by decide +kernel
theorem dX8_times_89 : decode cX8_times 89 = .ok (.getfield 28, 3) := by decide +kernel
theorem dX8_times_92 : decode cX8_times 92 = .ok (.iload_n 2, 1) := by decide +kernel
theorem dX8_times_93 : decode cX8_times 93 = .ok (.putfield 164, 3) := by decide +kernel
theorem dX8_times_96 : decode cX8_times 96 = .ok (.aload_n 0, 1) := by decide +kernel
theorem dX8_times_97 : decode cX8_times 97 = .ok (.getfield 28, 3) := by decide +kernel
theorem dX8_times_100 : decode cX8_times 100 = .ok (.iload_n 3, 1) := by decide +kernel
theorem dX8_times_101 : decode cX8_times 101 = .ok (.putfield 129, 3) := by decide +kernel
theorem dX8_times_104 : decode cX8_times 104 = .ok (.iconst 1, 1) := by decide +kernel
theorem dX8_times_105 : decode cX8_times 105 = .ok (.ireturn, 1) := by decide +kernel
set_option maxRecDepth 20000 in
theorem ggX8_wall_X2_hasCell : GoodIn wsX8_wall wsX2_hasCell := goodIn_r _ [7, 8, 9, 10, 11, 26, 27, 28, 29, 30, 31, 32, 33, 34, 35, 36, 37, 38] (by decide +kernel) (by decide +kernel)
set_option maxRecDepth 20000 in
theorem gX8_wall_X2_hasCell : GoodIn wsX8_wall (wsV RX8 97 RX2 yX2_hasCell wsX2_hasCell) := goodIn_app (goodIn_of _ (by decide +kernel)) ggX8_wall_X2_hasCell
set_option maxRecDepth 20000 in
theorem ggX8_wall_X8_isWithin : GoodIn wsX8_wall wsX8_isWithin := goodIn_r _ [11] (by decide +kernel) (by decide +kernel)
set_option maxRecDepth 20000 in
theorem gX8_wall_X8_isWithin : GoodIn wsX8_wall (va_wsS RX8 65 yX8_isWithin wsX8_isWithin) := goodIn_app (goodIn_of _ (by decide +kernel)) ggX8_wall_X8_isWithin
set_option maxRecDepth 20000 in
theorem ggX8_wall_X2_hasNothing : GoodIn wsX8_wall wsX2_hasNothing := goodIn_r _ [16, 17, 26, 27, 28, 29, 30, 31, 32, 33, 34, 35, 36, 37, 38] (by decide +kernel) (by decide +kernel)
set_option maxRecDepth 20000 in
theorem gX8_wall_X2_hasNothing : GoodIn wsX8_wall (wsV RX8 167 RX2 yX2_hasNothing wsX2_hasNothing) := goodIn_app (goodIn_of _ (by decide +kernel)) ggX8_wall_X2_hasNothing
theorem dX8_wall_0 : decode cX8_wall 0 = .ok (.aload_n 0, 1) := by decide +kernel
theorem dX8_wall_1 : decode cX8_wall 1 = .ok (.getfield 28, 3) := by decide +kernel
theorem dX8_wall_4 : decode cX8_wall 4 = .ok (.iload_n 1, 1) := by decide +kernel
theorem dX8_wall_5 : decode cX8_wall 5 = .ok (.invokevirtual 97, 3) := by decide +kernel
theorem dX8_wall_8 : decode cX8_wall 8 = .ok (.ifCond .ne 5, 3) := by decide +kernel
theorem dX8_wall_11 : decode cX8_wall 11 = .ok (.iconst (-1), 1) := by decide +kernel
theorem dX8_wall_12 : decode cX8_wall 12 = .ok (.ireturn, 1) := by decide +kernel
theorem dX8_wall_13 : decode cX8_wall 13 = .ok (.iload_n 2, 1) := by decide +kernel
theorem dX8_wall_14 : decode cX8_wall 14 = .ok (.iconst 0, 1) := by decide +kernel
theorem dX8_wall_15 : decode cX8_wall 15 = .ok (.bipush 9, 2) := by decide +kernel
theorem dX8_wall_17 : decode cX8_wall 17 = .ok (.invokestatic 65, 3) := by decide +kernel
theorem dX8_wall_20 : decode cX8_wall 20 = .ok (.ifCond .ne 6, 3) := by decide +kernel
theorem dX8_wall_23 : decode cX8_wall 23 = .ok (.bipush (-2), 2) := by decide +kernel
theorem dX8_wall_25 : decode cX8_wall 25 = .ok (.ireturn, 1) := by decide +kernel
theorem dX8_wall_26 : decode cX8_wall 26 = .ok (.aload_n 0, 1) := by decide +kernel
theorem dX8_wall_27 : decode cX8_wall 27 = .ok (.getfield 28, 3) := by decide +kernel
theorem dX8_wall_30 : decode cX8_wall 30 = .ok (.iload_n 1, 1) := by decide +kernel
theorem dX8_wall_31 : decode cX8_wall 31 = .ok (.invokevirtual 167, 3) := by decide +kernel
theorem dX8_wall_34 : decode cX8_wall 34 = .ok (.ifCond .ne 6, 3) := by decide +kernel
theorem dX8_wall_37 : decode cX8_wall 37 = .ok (.bipush (-3), 2) := by decide +kernel
theorem dX8_wall_39 : decode cX8_wall 39 = .ok (.ireturn, 1) := by decide +kernel
theorem dX8_wall_40 : decode cX8_wall 40 = .ok (.aload_n 0, 1) := by decide +kernel
theorem dX8_wall_41 : decode cX8_wall 41 = .ok (.getfield 28, 3) := by decide +kernel
theorem dX8_wall_44 : decode cX8_wall 44 = .ok (.getfield 170, 3) := by decide +kernel
theorem dX8_wall_47 : decode cX8_wall 47 = .ok (.iload_n 1, 1) := by decide +kernel
theorem dX8_wall_48 : decode cX8_wall 48 = .ok (.iaload, 1) := by decide +kernel
theorem dX8_wall_49 : decode cX8_wall 49 = .ok (.istore_n 3, 1) := by decide +kernel
theorem dX8_wall_50 : decode cX8_wall 50 = .ok (.aload_n 0, 1) := by decide +kernel
theorem dX8_wall_51 : decode cX8_wall 51 = .ok (.getfield 28, 3) := by decide +kernel
theorem dX8_wall_54 : decode cX8_wall 54 = .ok (.getfield 170, 3) := by decide +kernel
theorem dX8_wall_57 : decode cX8_wall 57 = .ok (.iload_n 1, 1) := by decide +kernel
theorem dX8_wall_58 : decode cX8_wall 58 = .ok (.iload_n 2, 1) := by decide +kernel
theorem dX8_wall_59 : decode cX8_wall 59 = .ok (.iastore, 1) := by decide +kernel
theorem dX8_wall_60 : decode cX8_wall 60 = .ok (.iload_n 3, 1) := by decide +kernel
theorem dX8_wall_61 : decode cX8_wall 61 = .ok (.ireturn, 1) := by decide +kernel
set_option maxRecDepth 20000 in
theorem ggX8_floors_X2_hasHouse : GoodIn wsX8_floors wsX2_hasHouse := goodIn_r _ [8, 9, 10, 11, 12, 22, 23, 24, 25, 26, 27, 28, 29, 30, 31, 32, 33, 34] (by decide +kernel) (by decide +kernel)
set_option maxRecDepth 20000 in
theorem gX8_floors_X2_hasHouse : GoodIn wsX8_floors (wsV RX8 110 RX2 yX2_hasHouse wsX2_hasHouse) := goodIn_app (goodIn_of _ (by decide +kernel)) ggX8_floors_X2_hasHouse
set_option maxRecDepth 20000 in
theorem ggX8_floors_X8_isWithin : GoodIn wsX8_floors wsX8_isWithin := goodIn_r _ [12] (by decide +kernel) (by decide +kernel)
set_option maxRecDepth 20000 in
theorem gX8_floors_X8_isWithin : GoodIn wsX8_floors (va_wsS RX8 65 yX8_isWithin wsX8_isWithin) := goodIn_app (goodIn_of _ (by decide +kernel)) ggX8_floors_X8_isWithin
theorem dX8_floors_0 : decode cX8_floors 0 = .ok (.aload_n 0, 1) := by decide +kernel
theorem dX8_floors_1 : decode cX8_floors 1 = .ok (.getfield 28, 3) := by decide +kernel
theorem dX8_floors_4 : decode cX8_floors 4 = .ok (.iload_n 1, 1) := by decide +kernel
theorem dX8_floors_5 : decode cX8_floors 5 = .ok (.invokevirtual 110, 3) := by decide +kernel
theorem dX8_floors_8 : decode cX8_floors 8 = .ok (.ifCond .ne 5, 3) := by decide +kernel
theorem dX8_floors_11 : decode cX8_floors 11 = .ok (.iconst (-1), 1) := by decide +kernel
theorem dX8_floors_12 : decode cX8_floors 12 = .ok (.ireturn, 1) := by decide +kernel
theorem dX8_floors_13 : decode cX8_floors 13 = .ok (.iload_n 2, 1) := by decide +kernel
theorem dX8_floors_14 : decode cX8_floors 14 = .ok (.iconst 0, 1) := by decide +kernel
theorem dX8_floors_15 : decode cX8_floors 15 = .ok (.bipush 9, 2) := by decide +kernel
theorem dX8_floors_17 : decode cX8_floors 17 = .ok (.invokestatic 65, 3) := by decide +kernel
theorem dX8_floors_20 : decode cX8_floors 20 = .ok (.ifCond .ne 6, 3) := by decide +kernel
theorem dX8_floors_23 : decode cX8_floors 23 = .ok (.bipush (-2), 2) := by decide +kernel
theorem dX8_floors_25 : decode cX8_floors 25 = .ok (.ireturn, 1) := by decide +kernel
theorem dX8_floors_26 : decode cX8_floors 26 = .ok (.aload_n 0, 1) := by decide +kernel
theorem dX8_floors_27 : decode cX8_floors 27 = .ok (.getfield 28, 3) := by decide +kernel
theorem dX8_floors_30 : decode cX8_floors 30 = .ok (.getfield 113, 3) := by decide +kernel
theorem dX8_floors_33 : decode cX8_floors 33 = .ok (.iload_n 1, 1) := by decide +kernel
theorem dX8_floors_34 : decode cX8_floors 34 = .ok (.aaload, 1) := by decide +kernel
theorem dX8_floors_35 : decode cX8_floors 35 = .ok (.getfield 126, 3) := by decide +kernel
theorem dX8_floors_38 : decode cX8_floors 38 = .ok (.istore_n 3, 1) := by decide +kernel
theorem dX8_floors_39 : decode cX8_floors 39 = .ok (.aload_n 0, 1) := by decide +kernel
theorem dX8_floors_40 : decode cX8_floors 40 = .ok (.getfield 28, 3) := by decide +kernel
theorem dX8_floors_43 : decode cX8_floors 43 = .ok (.getfield 113, 3) := by decide +kernel
theorem dX8_floors_46 : decode cX8_floors 46 = .ok (.iload_n 1, 1) := by decide +kernel
theorem dX8_floors_47 : decode cX8_floors 47 = .ok (.aaload, 1) := by decide +kernel
theorem dX8_floors_48 : decode cX8_floors 48 = .ok (.iload_n 2, 1) := by decide +kernel
theorem dX8_floors_49 : decode cX8_floors 49 = .ok (.putfield 126, 3) := by decide +kernel
theorem dX8_floors_52 : decode cX8_floors 52 = .ok (.iload_n 3, 1) := by decide +kernel
theorem dX8_floors_53 : decode cX8_floors 53 = .ok (.ireturn, 1) := by decide +kernel
set_option maxRecDepth 20000 in
theorem ggX8_fell_X2_hasTree : GoodIn wsX8_fell wsX2_hasTree := goodIn_r _ [7, 8, 9, 10, 11, 23, 24, 25, 26, 27, 28, 29, 30, 31, 32, 33, 34, 35] (by decide +kernel) (by decide +kernel)
set_option maxRecDepth 20000 in
theorem gX8_fell_X2_hasTree : GoodIn wsX8_fell (wsV RX8 136 RX2 yX2_hasTree wsX2_hasTree) := goodIn_app (goodIn_of _ (by decide +kernel)) ggX8_fell_X2_hasTree
set_option maxRecDepth 20000 in
theorem ggX8_fell_X8_isIn : GoodIn wsX8_fell wsX8_isIn := goodIn_r _ [14] (by decide +kernel) (by decide +kernel)
set_option maxRecDepth 20000 in
theorem gX8_fell_X8_isIn : GoodIn wsX8_fell (va_wsS RX8 157 yX8_isIn wsX8_isIn) := goodIn_app (goodIn_of _ (by decide +kernel)) ggX8_fell_X8_isIn
theorem dX8_fell_0 : decode cX8_fell 0 = .ok (.aload_n 0, 1) := by decide +kernel
theorem dX8_fell_1 : decode cX8_fell 1 = .ok (.getfield 28, 3) := by decide +kernel
theorem dX8_fell_4 : decode cX8_fell 4 = .ok (.iload_n 1, 1) := by decide +kernel
theorem dX8_fell_5 : decode cX8_fell 5 = .ok (.invokevirtual 136, 3) := by decide +kernel
theorem dX8_fell_8 : decode cX8_fell 8 = .ok (.ifCond .ne 5, 3) := by decide +kernel
theorem dX8_fell_11 : decode cX8_fell 11 = .ok (.iconst (-1), 1) := by decide +kernel
theorem dX8_fell_12 : decode cX8_fell 12 = .ok (.ireturn, 1) := by decide +kernel
theorem dX8_fell_13 : decode cX8_fell 13 = .ok (.iload_n 1, 1) := by decide +kernel
theorem dX8_fell_14 : decode cX8_fell 14 = .ok (.aload_n 0, 1) := by decide +kernel
theorem dX8_fell_15 : decode cX8_fell 15 = .ok (.getfield 28, 3) := by decide +kernel
theorem dX8_fell_18 : decode cX8_fell 18 = .ok (.getfield 150, 3) := by decide +kernel
theorem dX8_fell_21 : decode cX8_fell 21 = .ok (.invokestatic 157, 3) := by decide +kernel
theorem dX8_fell_24 : decode cX8_fell 24 = .ok (.iload_n 2, 1) := by decide +kernel
theorem dX8_fell_25 : decode cX8_fell 25 = .ok (.if_icmp .ne 5, 3) := by decide +kernel
theorem dX8_fell_28 : decode cX8_fell 28 = .ok (.iconst 0, 1) := by decide +kernel
theorem dX8_fell_29 : decode cX8_fell 29 = .ok (.ireturn, 1) := by decide +kernel
theorem dX8_fell_30 : decode cX8_fell 30 = .ok (.aload_n 0, 1) := by decide +kernel
theorem dX8_fell_31 : decode cX8_fell 31 = .ok (.getfield 28, 3) := by decide +kernel
theorem dX8_fell_34 : decode cX8_fell 34 = .ok (.dup, 1) := by decide +kernel
theorem dX8_fell_35 : decode cX8_fell 35 = .ok (.getfield 150, 3) := by decide +kernel
theorem dX8_fell_38 : decode cX8_fell 38 = .ok (.iconst 1, 1) := by decide +kernel
theorem dX8_fell_39 : decode cX8_fell 39 = .ok (.iload_n 1, 1) := by decide +kernel
theorem dX8_fell_40 : decode cX8_fell 40 = .ok (.ishl, 1) := by decide +kernel
theorem dX8_fell_41 : decode cX8_fell 41 = .ok (.ixor, 1) := by decide +kernel
theorem dX8_fell_42 : decode cX8_fell 42 = .ok (.putfield 150, 3) := by decide +kernel
theorem dX8_fell_45 : decode cX8_fell 45 = .ok (.iconst 1, 1) := by decide +kernel
theorem dX8_fell_46 : decode cX8_fell 46 = .ok (.ireturn, 1) := by decide +kernel
set_option maxRecDepth 20000 in
theorem ggX8_see_X2_hasHouse : GoodIn wsX8_see wsX2_hasHouse := goodIn_r _ [9, 10, 11, 12, 13, 82, 83, 84, 85, 86, 87, 88, 89, 90, 91, 92, 93, 94] (by decide +kernel) (by decide +kernel)
set_option maxRecDepth 20000 in
theorem gX8_see_X2_hasHouse : GoodIn wsX8_see (wsV RX8 110 RX2 yX2_hasHouse wsX2_hasHouse) := goodIn_app (goodIn_of _ (by decide +kernel)) ggX8_see_X2_hasHouse
set_option maxRecDepth 20000 in
theorem ggX8_see_X5_lookNow : GoodIn wsX8_see wsX5_lookNow := goodIn_r _ [18, 19, 20, 21, 22, 23, 24, 25, 26, 8, 27, 28, 29, 30, 31, 32, 33, 34, 35, 36, 37, 38, 39, 40, 41, 42, 43, 44, 45, 46, 12, 47, 48, 49, 50, 51, 52, 53, 54, 55, 56, 57, 58, 99, 100, 101, 102, 82, 83, 84, 85, 86, 87, 88, 89, 90, 91, 92, 93, 94, 95, 96, 97, 98, 103, 104] (by decide +kernel) (by decide +kernel)
set_option maxRecDepth 20000 in
theorem gX8_see_X5_lookNow : GoodIn wsX8_see (wsV RX8 173 RX5 yX5_lookNow wsX5_lookNow) := goodIn_app (goodIn_of _ (by decide +kernel)) ggX8_see_X5_lookNow
set_option maxRecDepth 20000 in
theorem ggX8_see_X5_isClear : GoodIn wsX8_see wsX5_isClear := goodIn_r _ [62, 19, 63, 64, 65, 66, 67, 68, 69, 70, 21, 23, 71, 12, 72, 73, 99, 100, 101, 102, 82, 83, 84, 85, 86, 87, 88, 89, 90, 91, 92, 93, 94] (by decide +kernel) (by decide +kernel)
set_option maxRecDepth 20000 in
theorem gX8_see_X5_isClear : GoodIn wsX8_see (wsV RX8 176 RX5 yX5_isClear wsX5_isClear) := goodIn_app (goodIn_of _ (by decide +kernel)) ggX8_see_X5_isClear
theorem dX8_see_0 : decode cX8_see 0 = .ok (.aload_n 0, 1) := by decide +kernel
theorem dX8_see_1 : decode cX8_see 1 = .ok (.getfield 28, 3) := by decide +kernel
theorem dX8_see_4 : decode cX8_see 4 = .ok (.iload_n 1, 1) := by decide +kernel
theorem dX8_see_5 : decode cX8_see 5 = .ok (.invokevirtual 110, 3) := by decide +kernel
theorem dX8_see_8 : decode cX8_see 8 = .ok (.ifCond .eq 19, 3) := by decide +kernel
theorem dX8_see_11 : decode cX8_see 11 = .ok (.aload_n 0, 1) := by decide +kernel
theorem dX8_see_12 : decode cX8_see 12 = .ok (.getfield 28, 3) := by decide +kernel
theorem dX8_see_15 : decode cX8_see 15 = .ok (.iload_n 2, 1) := by decide +kernel
theorem dX8_see_16 : decode cX8_see 16 = .ok (.invokevirtual 110, 3) := by decide +kernel
theorem dX8_see_19 : decode cX8_see 19 = .ok (.ifCond .eq 8, 3) := by decide +kernel
theorem dX8_see_22 : decode cX8_see 22 = .ok (.iload_n 1, 1) := by decide +kernel
theorem dX8_see_23 : decode cX8_see 23 = .ok (.iload_n 2, 1) := by decide +kernel
theorem dX8_see_24 : decode cX8_see 24 = .ok (.if_icmp .ne 5, 3) := by decide +kernel
theorem dX8_see_27 : decode cX8_see 27 = .ok (.iconst (-1), 1) := by decide +kernel
theorem dX8_see_28 : decode cX8_see 28 = .ok (.ireturn, 1) := by decide +kernel
theorem dX8_see_29 : decode cX8_see 29 = .ok (.aload_n 0, 1) := by decide +kernel
theorem dX8_see_30 : decode cX8_see 30 = .ok (.getfield 37, 3) := by decide +kernel
theorem dX8_see_33 : decode cX8_see 33 = .ok (.invokevirtual 173, 3) := by decide +kernel
theorem dX8_see_36 : decode cX8_see 36 = .ok (.aload_n 0, 1) := by decide +kernel
theorem dX8_see_37 : decode cX8_see 37 = .ok (.getfield 37, 3) := by decide +kernel
theorem dX8_see_40 : decode cX8_see 40 = .ok (.aload_n 0, 1) := by decide +kernel
theorem dX8_see_41 : decode cX8_see 41 = .ok (.getfield 28, 3) := by decide +kernel
theorem dX8_see_44 : decode cX8_see 44 = .ok (.getfield 113, 3) := by decide +kernel
theorem dX8_see_47 : decode cX8_see 47 = .ok (.iload_n 1, 1) := by decide +kernel
theorem dX8_see_48 : decode cX8_see 48 = .ok (.aaload, 1) := by decide +kernel
theorem dX8_see_49 : decode cX8_see 49 = .ok (.getfield 122, 3) := by decide +kernel
theorem dX8_see_52 : decode cX8_see 52 = .ok (.aload_n 0, 1) := by decide +kernel
theorem dX8_see_53 : decode cX8_see 53 = .ok (.getfield 28, 3) := by decide +kernel
theorem dX8_see_56 : decode cX8_see 56 = .ok (.getfield 113, 3) := by decide +kernel
theorem dX8_see_59 : decode cX8_see 59 = .ok (.iload_n 2, 1) := by decide +kernel
theorem dX8_see_60 : decode cX8_see 60 = .ok (.aaload, 1) := by decide +kernel
theorem dX8_see_61 : decode cX8_see 61 = .ok (.getfield 122, 3) := by decide +kernel
theorem dX8_see_64 : decode cX8_see 64 = .ok (.invokevirtual 176, 3) := by decide +kernel
theorem dX8_see_67 : decode cX8_see 67 = .ok (.ifCond .eq 7, 3) := by decide +kernel
theorem dX8_see_70 : decode cX8_see 70 = .ok (.iconst 1, 1) := by decide +kernel
theorem dX8_see_71 : decode cX8_see 71 = .ok (.goto 4, 3) := by decide +kernel
theorem dX8_see_74 : decode cX8_see 74 = .ok (.iconst 0, 1) := by decide +kernel
theorem dX8_see_75 : decode cX8_see 75 = .ok (.ireturn, 1) := by decide +kernel
set_option maxRecDepth 20000 in
theorem ggX8_number_X2_hasHouse : GoodIn wsX8_number wsX2_hasHouse := goodIn_r _ [7, 8, 9, 10, 11, 91, 92, 93, 94, 95, 96, 97, 98, 99, 100, 101, 102, 103] (by decide +kernel) (by decide +kernel)
set_option maxRecDepth 20000 in
theorem gX8_number_X2_hasHouse : GoodIn wsX8_number (wsV RX8 110 RX2 yX2_hasHouse wsX2_hasHouse) := goodIn_app (goodIn_of _ (by decide +kernel)) ggX8_number_X2_hasHouse
set_option maxRecDepth 20000 in
theorem ggX8_number_X5_lookNow : GoodIn wsX8_number wsX5_lookNow := goodIn_r _ [16, 17, 18, 19, 20, 21, 22, 23, 24, 6, 25, 26, 27, 28, 29, 30, 31, 32, 33, 34, 35, 36, 37, 38, 39, 40, 41, 42, 43, 44, 10, 45, 46, 47, 48, 49, 50, 51, 52, 53, 54, 55, 56, 104, 105, 106, 107, 91, 92, 93, 94, 95, 96, 97, 98, 99, 100, 101, 102, 103, 108, 109, 110, 111, 112, 113] (by decide +kernel) (by decide +kernel)
set_option maxRecDepth 20000 in
theorem gX8_number_X5_lookNow : GoodIn wsX8_number (wsV RX8 173 RX5 yX5_lookNow wsX5_lookNow) := goodIn_app (goodIn_of _ (by decide +kernel)) ggX8_number_X5_lookNow
set_option maxRecDepth 20000 in
theorem ggX8_number_X5_numberOf : GoodIn wsX8_number wsX5_numberOf := goodIn_r _ [60, 17, 61, 62, 63, 64, 65, 15, 66, 67, 68, 69, 70, 71, 72, 73, 74, 75, 76, 77, 78, 79, 19, 21, 80, 10, 81, 82, 104, 105, 106, 107, 91, 92, 93, 94, 95, 96, 97, 98, 99, 100, 101, 102, 103, 108, 109, 110, 111] (by decide +kernel) (by decide +kernel)
set_option maxRecDepth 20000 in
theorem gX8_number_X5_numberOf : GoodIn wsX8_number (wsV RX8 179 RX5 yX5_numberOf wsX5_numberOf) := goodIn_app (goodIn_of _ (by decide +kernel)) ggX8_number_X5_numberOf
theorem dX8_number_0 : decode cX8_number 0 = .ok (.aload_n 0, 1) := by decide +kernel
theorem dX8_number_1 : decode cX8_number 1 = .ok (.getfield 28, 3) := by decide +kernel
theorem dX8_number_4 : decode cX8_number 4 = .ok (.iload_n 1, 1) := by decide +kernel
theorem dX8_number_5 : decode cX8_number 5 = .ok (.invokevirtual 110, 3) := by decide +kernel
theorem dX8_number_8 : decode cX8_number 8 = .ok (.ifCond .ne 5, 3) := by decide +kernel
theorem dX8_number_11 : decode cX8_number 11 = .ok (.iconst (-1), 1) := by decide +kernel
theorem dX8_number_12 : decode cX8_number 12 = .ok (.ireturn, 1) := by decide +kernel
theorem dX8_number_13 : decode cX8_number 13 = .ok (.aload_n 0, 1) := by decide +kernel
theorem dX8_number_14 : decode cX8_number 14 = .ok (.getfield 37, 3) := by decide +kernel
theorem dX8_number_17 : decode cX8_number 17 = .ok (.invokevirtual 173, 3) := by decide +kernel
theorem dX8_number_20 : decode cX8_number 20 = .ok (.aload_n 0, 1) := by decide +kernel
theorem dX8_number_21 : decode cX8_number 21 = .ok (.getfield 37, 3) := by decide +kernel
theorem dX8_number_24 : decode cX8_number 24 = .ok (.iload_n 1, 1) := by decide +kernel
theorem dX8_number_25 : decode cX8_number 25 = .ok (.invokevirtual 179, 3) := by decide +kernel
theorem dX8_number_28 : decode cX8_number 28 = .ok (.ireturn, 1) := by decide +kernel
set_option maxRecDepth 20000 in
theorem ggX8_having_X8_isWithin : GoodIn wsX8_having wsX8_isWithin := goodIn_r _ [6] (by decide +kernel) (by decide +kernel)
set_option maxRecDepth 20000 in
theorem gX8_having_X8_isWithin : GoodIn wsX8_having (va_wsS RX8 65 yX8_isWithin wsX8_isWithin) := goodIn_app (goodIn_of _ (by decide +kernel)) ggX8_having_X8_isWithin
set_option maxRecDepth 20000 in
theorem ggX8_having_X2_isThere : GoodIn wsX8_having wsX2_isThere := goodIn_r _ [11, 12, 101, 102, 103, 104, 105, 106, 107, 108, 109, 110, 111, 112, 113] (by decide +kernel) (by decide +kernel)
set_option maxRecDepth 20000 in
theorem gX8_having_X2_isThere : GoodIn wsX8_having (wsV RX8 160 RX2 yX2_isThere wsX2_isThere) := goodIn_app (goodIn_of _ (by decide +kernel)) ggX8_having_X2_isThere
set_option maxRecDepth 20000 in
theorem ggX8_having_X5_countAll : GoodIn wsX8_having wsX5_countAll := goodIn_r _ [17, 18, 19, 20, 21, 22, 23, 16, 24, 25, 26, 27, 28, 29, 30, 31, 10, 32, 33, 34, 35, 36, 37, 38, 39, 40, 41, 42, 43, 44, 45, 46, 47, 48, 49, 50, 51, 5, 52, 53, 54, 55, 56, 57, 58, 59, 60, 61, 62, 63, 64, 65, 66, 67, 68, 69, 70, 71, 72, 73, 74, 75, 76, 77, 78, 79, 80, 81, 82, 83, 84, 85, 86, 87, 88, 114, 115, 116, 117, 101, 102, 103, 104, 105, 106, 107, 108, 109, 110, 111, 112, 113, 118, 119, 120, 121, 122, 123] (by decide +kernel) (by decide +kernel)
set_option maxRecDepth 20000 in
theorem gX8_having_X5_countAll : GoodIn wsX8_having (wsV RX8 182 RX5 yX5_countAll wsX5_countAll) := goodIn_app (goodIn_of _ (by decide +kernel)) ggX8_having_X5_countAll
set_option maxRecDepth 20000 in
theorem ggX8_having_X5_housesWith : GoodIn wsX8_having wsX5_housesWith := goodIn_r _ [92, 18, 19, 20, 114, 115, 116, 117, 101, 102, 103, 104, 105, 106, 107, 108, 109, 110, 111, 112, 113] (by decide +kernel) (by decide +kernel)
set_option maxRecDepth 20000 in
theorem gX8_having_X5_housesWith : GoodIn wsX8_having (wsV RX8 185 RX5 yX5_housesWith wsX5_housesWith) := goodIn_app (goodIn_of _ (by decide +kernel)) ggX8_having_X5_housesWith
theorem dX8_having_0 : decode cX8_having 0 = .ok (.iload_n 1, 1) := by decide +kernel
theorem dX8_having_1 : decode cX8_having 1 = .ok (.iconst 0, 1) := by decide +kernel
theorem dX8_having_2 : decode cX8_having 2 = .ok (.bipush 7, 2) := by decide +kernel
theorem dX8_having_4 : decode cX8_having 4 = .ok (.invokestatic 65, 3) := by decide +kernel
theorem dX8_having_7 : decode cX8_having 7 = .ok (.ifCond .ne 6, 3) := by decide +kernel
theorem dX8_having_10 : decode cX8_having 10 = .ok (.bipush (-2), 2) := by decide +kernel
theorem dX8_having_12 : decode cX8_having 12 = .ok (.ireturn, 1) := by decide +kernel
theorem dX8_having_13 : decode cX8_having 13 = .ok (.aload_n 0, 1) := by decide +kernel
theorem dX8_having_14 : decode cX8_having 14 = .ok (.getfield 28, 3) := by decide +kernel
theorem dX8_having_17 : decode cX8_having 17 = .ok (.invokevirtual 160, 3) := by decide +kernel
theorem dX8_having_20 : decode cX8_having 20 = .ok (.ifCond .ne 6, 3) := by decide +kernel
theorem dX8_having_23 : decode cX8_having 23 = .ok (.bipush (-3), 2) := by decide +kernel
theorem dX8_having_25 : decode cX8_having 25 = .ok (.ireturn, 1) := by decide +kernel
theorem dX8_having_26 : decode cX8_having 26 = .ok (.aload_n 0, 1) := by decide +kernel
theorem dX8_having_27 : decode cX8_having 27 = .ok (.getfield 37, 3) := by decide +kernel
theorem dX8_having_30 : decode cX8_having 30 = .ok (.invokevirtual 182, 3) := by decide +kernel
theorem dX8_having_33 : decode cX8_having 33 = .ok (.aload_n 0, 1) := by decide +kernel
theorem dX8_having_34 : decode cX8_having 34 = .ok (.getfield 37, 3) := by decide +kernel
theorem dX8_having_37 : decode cX8_having 37 = .ok (.iload_n 1, 1) := by decide +kernel
theorem dX8_having_38 : decode cX8_having 38 = .ok (.invokevirtual 185, 3) := by decide +kernel
theorem dX8_having_41 : decode cX8_having 41 = .ok (.ireturn, 1) := by decide +kernel
set_option maxRecDepth 20000 in
theorem ggX8_alone_X2_isThere : GoodIn wsX8_alone wsX2_isThere := goodIn_r _ [7, 8, 105, 106, 107, 108, 109, 110, 111, 112, 113, 114, 115, 116, 117] (by decide +kernel) (by decide +kernel)
set_option maxRecDepth 20000 in
theorem gX8_alone_X2_isThere : GoodIn wsX8_alone (wsV RX8 160 RX2 yX2_isThere wsX2_isThere) := goodIn_app (goodIn_of _ (by decide +kernel)) ggX8_alone_X2_isThere
set_option maxRecDepth 20000 in
theorem ggX8_alone_X5_countAll : GoodIn wsX8_alone wsX5_countAll := goodIn_r _ [13, 14, 15, 16, 17, 18, 19, 12, 20, 21, 22, 23, 24, 25, 26, 27, 6, 28, 29, 30, 31, 32, 33, 34, 35, 36, 37, 38, 39, 40, 41, 42, 43, 44, 45, 46, 47, 48, 49, 50, 51, 52, 53, 54, 55, 56, 57, 58, 59, 60, 61, 62, 63, 64, 65, 66, 67, 68, 69, 70, 71, 72, 73, 74, 75, 76, 77, 78, 79, 80, 81, 82, 83, 84, 85, 118, 119, 120, 121, 105, 106, 107, 108, 109, 110, 111, 112, 113, 114, 115, 116, 117, 122, 123, 124, 125, 126, 127] (by decide +kernel) (by decide +kernel)
set_option maxRecDepth 20000 in
theorem gX8_alone_X5_countAll : GoodIn wsX8_alone (wsV RX8 182 RX5 yX5_countAll wsX5_countAll) := goodIn_app (goodIn_of _ (by decide +kernel)) ggX8_alone_X5_countAll
set_option maxRecDepth 20000 in
theorem ggX8_alone_X5_housesWith : GoodIn wsX8_alone wsX5_housesWith := goodIn_r _ [89, 14, 15, 16, 118, 119, 120, 121, 105, 106, 107, 108, 109, 110, 111, 112, 113, 114, 115, 116, 117] (by decide +kernel) (by decide +kernel)
set_option maxRecDepth 20000 in
theorem gX8_alone_X5_housesWith : GoodIn wsX8_alone (wsV RX8 185 RX5 yX5_housesWith wsX5_housesWith) := goodIn_app (goodIn_of _ (by decide +kernel)) ggX8_alone_X5_housesWith
set_option maxRecDepth 20000 in
theorem ggX8_alone_J6_bitCount_0f7a4 : GoodIn wsX8_alone wsJ6_bitCount_0f7a4 := goodIn_r _ [93, 94, 95, 96] (by decide +kernel) (by decide +kernel)
set_option maxRecDepth 20000 in
theorem gX8_alone_J6_bitCount_0f7a4 : GoodIn wsX8_alone (va_wsS RX8 188 yJ6_bitCount_0f7a4 wsJ6_bitCount_0f7a4) := goodIn_app (goodIn_of _ (by decide +kernel)) ggX8_alone_J6_bitCount_0f7a4
theorem dX8_alone_0 : decode cX8_alone 0 = .ok (.aload_n 0, 1) := by decide +kernel
theorem dX8_alone_1 : decode cX8_alone 1 = .ok (.getfield 28, 3) := by decide +kernel
theorem dX8_alone_4 : decode cX8_alone 4 = .ok (.invokevirtual 160, 3) := by decide +kernel
theorem dX8_alone_7 : decode cX8_alone 7 = .ok (.ifCond .ne 6, 3) := by decide +kernel
theorem dX8_alone_10 : decode cX8_alone 10 = .ok (.bipush (-3), 2) := by decide +kernel
theorem dX8_alone_12 : decode cX8_alone 12 = .ok (.ireturn, 1) := by decide +kernel
theorem dX8_alone_13 : decode cX8_alone 13 = .ok (.aload_n 0, 1) := by decide +kernel
theorem dX8_alone_14 : decode cX8_alone 14 = .ok (.getfield 37, 3) := by decide +kernel
theorem dX8_alone_17 : decode cX8_alone 17 = .ok (.invokevirtual 182, 3) := by decide +kernel
theorem dX8_alone_20 : decode cX8_alone 20 = .ok (.iconst 0, 1) := by decide +kernel
theorem dX8_alone_21 : decode cX8_alone 21 = .ok (.istore_n 1, 1) := by decide +kernel
theorem dX8_alone_22 : decode cX8_alone 22 = .ok (.iconst 0, 1) := by decide +kernel
theorem dX8_alone_23 : decode cX8_alone 23 = .ok (.istore_n 2, 1) := by decide +kernel
theorem dX8_alone_24 : decode cX8_alone 24 = .ok (.iload_n 2, 1) := by decide +kernel
theorem dX8_alone_25 : decode cX8_alone 25 = .ok (.bipush 7, 2) := by decide +kernel
theorem dX8_alone_27 : decode cX8_alone 27 = .ok (.if_icmp .gt 30, 3) := by decide +kernel
theorem dX8_alone_30 : decode cX8_alone 30 = .ok (.aload_n 0, 1) := by decide +kernel
theorem dX8_alone_31 : decode cX8_alone 31 = .ok (.getfield 37, 3) := by decide +kernel
theorem dX8_alone_34 : decode cX8_alone 34 = .ok (.iload_n 2, 1) := by decide +kernel
theorem dX8_alone_35 : decode cX8_alone 35 = .ok (.invokevirtual 185, 3) := by decide +kernel
theorem dX8_alone_38 : decode cX8_alone 38 = .ok (.istore_n 3, 1) := by decide +kernel
theorem dX8_alone_39 : decode cX8_alone 39 = .ok (.iload_n 3, 1) := by decide +kernel
theorem dX8_alone_40 : decode cX8_alone 40 = .ok (.invokestatic 188, 3) := by decide +kernel
theorem dX8_alone_43 : decode cX8_alone 43 = .ok (.iconst 1, 1) := by decide +kernel
theorem dX8_alone_44 : decode cX8_alone 44 = .ok (.if_icmp .ne 7, 3) := by decide +kernel
theorem dX8_alone_47 : decode cX8_alone 47 = .ok (.iload_n 1, 1) := by decide +kernel
theorem dX8_alone_48 : decode cX8_alone 48 = .ok (.iload_n 3, 1) := by decide +kernel
theorem dX8_alone_49 : decode cX8_alone 49 = .ok (.ior, 1) := by decide +kernel
theorem dX8_alone_50 : decode cX8_alone 50 = .ok (.istore_n 1, 1) := by decide +kernel
theorem dX8_alone_51 : decode cX8_alone 51 = .ok (.iinc 2 1, 3) := by decide +kernel
theorem dX8_alone_54 : decode cX8_alone 54 = .ok (.goto (-30), 3) := by decide +kernel
theorem dX8_alone_57 : decode cX8_alone 57 = .ok (.iload_n 1, 1) := by decide +kernel
theorem dX8_alone_58 : decode cX8_alone 58 = .ok (.ireturn, 1) := by decide +kernel
set_option maxRecDepth 20000 in
theorem ggX8_letter_X8_isWithin : GoodIn wsX8_letter wsX8_isWithin := goodIn_r _ [6] (by decide +kernel) (by decide +kernel)
set_option maxRecDepth 20000 in
theorem gX8_letter_X8_isWithin : GoodIn wsX8_letter (va_wsS RX8 65 yX8_isWithin wsX8_isWithin) := goodIn_app (goodIn_of _ (by decide +kernel)) ggX8_letter_X8_isWithin
set_option maxRecDepth 20000 in
theorem ggX8_letter_X2_isThere : GoodIn wsX8_letter wsX2_isThere := goodIn_r _ [11, 12, 109, 110, 111, 112, 113, 114, 115, 116, 117, 118, 119, 120, 121] (by decide +kernel) (by decide +kernel)
set_option maxRecDepth 20000 in
theorem gX8_letter_X2_isThere : GoodIn wsX8_letter (wsV RX8 160 RX2 yX2_isThere wsX2_isThere) := goodIn_app (goodIn_of _ (by decide +kernel)) ggX8_letter_X2_isThere
set_option maxRecDepth 20000 in
theorem ggX8_letter_X5_countAll : GoodIn wsX8_letter wsX5_countAll := goodIn_r _ [17, 18, 19, 20, 21, 22, 23, 16, 24, 25, 26, 27, 28, 29, 30, 31, 10, 32, 33, 34, 35, 36, 37, 38, 39, 40, 41, 42, 43, 44, 45, 46, 47, 48, 49, 50, 51, 5, 52, 53, 54, 55, 56, 57, 58, 59, 60, 61, 62, 63, 64, 65, 66, 67, 68, 69, 70, 71, 72, 73, 74, 75, 76, 77, 78, 79, 80, 81, 82, 83, 84, 85, 86, 87, 88, 122, 123, 124, 125, 109, 110, 111, 112, 113, 114, 115, 116, 117, 118, 119, 120, 121, 126, 127, 128, 129, 130, 131] (by decide +kernel) (by decide +kernel)
set_option maxRecDepth 20000 in
theorem gX8_letter_X5_countAll : GoodIn wsX8_letter (wsV RX8 182 RX5 yX5_countAll wsX5_countAll) := goodIn_app (goodIn_of _ (by decide +kernel)) ggX8_letter_X5_countAll
set_option maxRecDepth 20000 in
theorem ggX8_letter_X5_housesWith : GoodIn wsX8_letter wsX5_housesWith := goodIn_r _ [92, 18, 19, 20, 122, 123, 124, 125, 109, 110, 111, 112, 113, 114, 115, 116, 117, 118, 119, 120, 121] (by decide +kernel) (by decide +kernel)
set_option maxRecDepth 20000 in
theorem gX8_letter_X5_housesWith : GoodIn wsX8_letter (wsV RX8 185 RX5 yX5_housesWith wsX5_housesWith) := goodIn_app (goodIn_of _ (by decide +kernel)) ggX8_letter_X5_housesWith
set_option maxRecDepth 20000 in
theorem ggX8_letter_X5_seenAmong : GoodIn wsX8_letter wsX5_seenAmong := goodIn_r _ [96, 18, 19, 51, 5, 52, 97, 98, 99, 16, 100, 68, 69, 74, 75, 76, 77, 78, 79, 80, 81, 82, 83, 84, 85, 26, 28, 86, 87, 88, 122, 123, 124, 125, 109, 110, 111, 112, 113, 114, 115, 116, 117, 118, 119, 120, 121, 126, 127, 128, 129] (by decide +kernel) (by decide +kernel)
set_option maxRecDepth 20000 in
theorem gX8_letter_X5_seenAmong : GoodIn wsX8_letter (wsV RX8 193 RX5 yX5_seenAmong wsX5_seenAmong) := goodIn_app (goodIn_of _ (by decide +kernel)) ggX8_letter_X5_seenAmong
theorem dX8_letter_0 : decode cX8_letter 0 = .ok (.iload_n 1, 1) := by decide +kernel
theorem dX8_letter_1 : decode cX8_letter 1 = .ok (.iconst 0, 1) := by decide +kernel
theorem dX8_letter_2 : decode cX8_letter 2 = .ok (.bipush 7, 2) := by decide +kernel
theorem dX8_letter_4 : decode cX8_letter 4 = .ok (.invokestatic 65, 3) := by decide +kernel
theorem dX8_letter_7 : decode cX8_letter 7 = .ok (.ifCond .eq 13, 3) := by decide +kernel
theorem dX8_letter_10 : decode cX8_letter 10 = .ok (.iload_n 2, 1) := by decide +kernel
theorem dX8_letter_11 : decode cX8_letter 11 = .ok (.iconst 0, 1) := by decide +kernel
theorem dX8_letter_12 : decode cX8_letter 12 = .ok (.bipush 7, 2) := by decide +kernel
theorem dX8_letter_14 : decode cX8_letter 14 = .ok (.invokestatic 65, 3) := by decide +kernel
theorem dX8_letter_17 : decode cX8_letter 17 = .ok (.ifCond .ne 6, 3) := by decide +kernel
theorem dX8_letter_20 : decode cX8_letter 20 = .ok (.bipush (-2), 2) := by decide +kernel
theorem dX8_letter_22 : decode cX8_letter 22 = .ok (.ireturn, 1) := by decide +kernel
theorem dX8_letter_23 : decode cX8_letter 23 = .ok (.aload_n 0, 1) := by decide +kernel
theorem dX8_letter_24 : decode cX8_letter 24 = .ok (.getfield 28, 3) := by decide +kernel
theorem dX8_letter_27 : decode cX8_letter 27 = .ok (.invokevirtual 160, 3) := by decide +kernel
theorem dX8_letter_30 : decode cX8_letter 30 = .ok (.ifCond .ne 6, 3) := by decide +kernel
theorem dX8_letter_33 : decode cX8_letter 33 = .ok (.bipush (-3), 2) := by decide +kernel
theorem dX8_letter_35 : decode cX8_letter 35 = .ok (.ireturn, 1) := by decide +kernel
theorem dX8_letter_36 : decode cX8_letter 36 = .ok (.aload_n 0, 1) := by decide +kernel
theorem dX8_letter_37 : decode cX8_letter 37 = .ok (.getfield 37, 3) := by decide +kernel
theorem dX8_letter_40 : decode cX8_letter 40 = .ok (.invokevirtual 182, 3) := by decide +kernel
theorem dX8_letter_43 : decode cX8_letter 43 = .ok (.aload_n 0, 1) := by decide +kernel
theorem dX8_letter_44 : decode cX8_letter 44 = .ok (.getfield 37, 3) := by decide +kernel
theorem dX8_letter_47 : decode cX8_letter 47 = .ok (.aload_n 0, 1) := by decide +kernel
theorem dX8_letter_48 : decode cX8_letter 48 = .ok (.getfield 37, 3) := by decide +kernel
theorem dX8_letter_51 : decode cX8_letter 51 = .ok (.iload_n 1, 1) := by decide +kernel
theorem dX8_letter_52 : decode cX8_letter 52 = .ok (.invokevirtual 185, 3) := by decide +kernel
theorem dX8_letter_55 : decode cX8_letter 55 = .ok (.aload_n 0, 1) := by decide +kernel
theorem dX8_letter_56 : decode cX8_letter 56 = .ok (.getfield 37, 3) := by decide +kernel
theorem dX8_letter_59 : decode cX8_letter 59 = .ok (.iload_n 2, 1) := by decide +kernel
theorem dX8_letter_60 : decode cX8_letter 60 = .ok (.invokevirtual 185, 3) := by decide +kernel
theorem dX8_letter_63 : decode cX8_letter 63 = .ok (.invokevirtual 193, 3) := by decide +kernel
theorem dX8_letter_66 : decode cX8_letter 66 = .ok (.ireturn, 1) := by decide +kernel
set_option maxRecDepth 20000 in
theorem ggX8_mean_X8_isWithin : GoodIn wsX8_mean wsX8_isWithin := goodIn_r _ [8] (by decide +kernel) (by decide +kernel)
set_option maxRecDepth 20000 in
theorem gX8_mean_X8_isWithin : GoodIn wsX8_mean (va_wsS RX8 65 yX8_isWithin wsX8_isWithin) := goodIn_app (goodIn_of _ (by decide +kernel)) ggX8_mean_X8_isWithin
set_option maxRecDepth 20000 in
theorem ggX8_mean_X2_isThere : GoodIn wsX8_mean wsX2_isThere := goodIn_r _ [13, 14, 104, 105, 106, 107, 108, 109, 110, 111, 112, 113, 114, 115, 116] (by decide +kernel) (by decide +kernel)
set_option maxRecDepth 20000 in
theorem gX8_mean_X2_isThere : GoodIn wsX8_mean (wsV RX8 160 RX2 yX2_isThere wsX2_isThere) := goodIn_app (goodIn_of _ (by decide +kernel)) ggX8_mean_X2_isThere
set_option maxRecDepth 20000 in
theorem ggX8_mean_X5_countAll : GoodIn wsX8_mean wsX5_countAll := goodIn_r _ [19, 20, 21, 22, 23, 24, 25, 18, 26, 27, 28, 29, 30, 31, 32, 33, 12, 34, 35, 36, 37, 38, 39, 40, 41, 42, 43, 44, 45, 46, 47, 48, 49, 50, 51, 52, 53, 7, 54, 55, 56, 57, 58, 59, 60, 61, 62, 63, 64, 65, 66, 67, 68, 69, 70, 71, 72, 73, 74, 75, 76, 77, 78, 79, 80, 81, 82, 83, 84, 85, 86, 87, 88, 89, 90, 117, 118, 119, 120, 104, 105, 106, 107, 108, 109, 110, 111, 112, 113, 114, 115, 116, 121, 122, 123, 124, 125, 126] (by decide +kernel) (by decide +kernel)
set_option maxRecDepth 20000 in
theorem gX8_mean_X5_countAll : GoodIn wsX8_mean (wsV RX8 182 RX5 yX5_countAll wsX5_countAll) := goodIn_app (goodIn_of _ (by decide +kernel)) ggX8_mean_X5_countAll
set_option maxRecDepth 20000 in
theorem ggX8_mean_X5_sumOfNumbers : GoodIn wsX8_mean wsX5_sumOfNumbers := goodIn_r _ [94, 20, 21, 22, 117, 118, 119, 120, 104, 105, 106, 107, 108, 109, 110, 111, 112, 113, 114, 115, 116] (by decide +kernel) (by decide +kernel)
set_option maxRecDepth 20000 in
theorem gX8_mean_X5_sumOfNumbers : GoodIn wsX8_mean (wsV RX8 201 RX5 yX5_sumOfNumbers wsX5_sumOfNumbers) := goodIn_app (goodIn_of _ (by decide +kernel)) ggX8_mean_X5_sumOfNumbers
set_option maxRecDepth 20000 in
theorem ggX8_mean_X8_greatestCommon : GoodIn wsX8_mean wsX8_greatestCommon := goodIn_r _ [89, 90, 86, 83, 87] (by decide +kernel) (by decide +kernel)
set_option maxRecDepth 20000 in
theorem gX8_mean_X8_greatestCommon : GoodIn wsX8_mean (va_wsS RX8 205 yX8_greatestCommon wsX8_greatestCommon) := goodIn_app (goodIn_of _ (by decide +kernel)) ggX8_mean_X8_greatestCommon
theorem dX8_mean_0 : decode cX8_mean 0 = .ok (.iload_n 1, 1) := by decide +kernel
theorem dX8_mean_1 : decode cX8_mean 1 = .ok (.iconst 0, 1) := by decide +kernel
theorem dX8_mean_2 : decode cX8_mean 2 = .ok (.iconst 1, 1) := by decide +kernel
theorem dX8_mean_3 : decode cX8_mean 3 = .ok (.invokestatic 65, 3) := by decide +kernel
theorem dX8_mean_6 : decode cX8_mean 6 = .ok (.ifCond .eq 13, 3) := by decide +kernel
theorem dX8_mean_9 : decode cX8_mean 9 = .ok (.aload_n 0, 1) := by decide +kernel
theorem dX8_mean_10 : decode cX8_mean 10 = .ok (.getfield 28, 3) := by decide +kernel
theorem dX8_mean_13 : decode cX8_mean 13 = .ok (.invokevirtual 160, 3) := by decide +kernel
theorem dX8_mean_16 : decode cX8_mean 16 = .ok (.ifCond .ne 7, 3) := by decide +kernel
theorem dX8_mean_19 : decode cX8_mean 19 = .ok (.ldc2_w 196, 3) := by decide +kernel
theorem dX8_mean_22 : decode cX8_mean 22 = .ok (.lreturn, 1) := by decide +kernel
theorem dX8_mean_23 : decode cX8_mean 23 = .ok (.aload_n 0, 1) := by decide +kernel
theorem dX8_mean_24 : decode cX8_mean 24 = .ok (.getfield 28, 3) := by decide +kernel
theorem dX8_mean_27 : decode cX8_mean 27 = .ok (.getfield 198, 3) := by decide +kernel
theorem dX8_mean_30 : decode cX8_mean 30 = .ok (.ifCond .ne 6, 3) := by decide +kernel
theorem dX8_mean_33 : decode cX8_mean 33 = .ok (.iload_n 1, 1) := by decide +kernel
theorem dX8_mean_34 : decode cX8_mean 34 = .ok (.i2l, 1) := by decide +kernel
theorem dX8_mean_35 : decode cX8_mean 35 = .ok (.lreturn, 1) := by decide +kernel
theorem dX8_mean_36 : decode cX8_mean 36 = .ok (.aload_n 0, 1) := by decide +kernel
theorem dX8_mean_37 : decode cX8_mean 37 = .ok (.getfield 37, 3) := by decide +kernel
theorem dX8_mean_40 : decode cX8_mean 40 = .ok (.invokevirtual 182, 3) := by decide +kernel
theorem dX8_mean_43 : decode cX8_mean 43 = .ok (.aload_n 0, 1) := by decide +kernel
theorem dX8_mean_44 : decode cX8_mean 44 = .ok (.getfield 37, 3) := by decide +kernel
theorem dX8_mean_47 : decode cX8_mean 47 = .ok (.invokevirtual 201, 3) := by decide +kernel
theorem dX8_mean_50 : decode cX8_mean 50 = .ok (.istore_n 2, 1) := by decide +kernel
theorem dX8_mean_51 : decode cX8_mean 51 = .ok (.iload_n 2, 1) := by decide +kernel
theorem dX8_mean_52 : decode cX8_mean 52 = .ok (.aload_n 0, 1) := by decide +kernel
theorem dX8_mean_53 : decode cX8_mean 53 = .ok (.getfield 28, 3) := by decide +kernel
theorem dX8_mean_56 : decode cX8_mean 56 = .ok (.getfield 198, 3) := by decide +kernel
theorem dX8_mean_59 : decode cX8_mean 59 = .ok (.invokestatic 205, 3) := by decide +kernel
theorem dX8_mean_62 : decode cX8_mean 62 = .ok (.istore_n 3, 1) := by decide +kernel
theorem dX8_mean_63 : decode cX8_mean 63 = .ok (.iload_n 1, 1) := by decide +kernel
theorem dX8_mean_64 : decode cX8_mean 64 = .ok (.ifCond .ne 7, 3) := by decide +kernel
theorem dX8_mean_67 : decode cX8_mean 67 = .ok (.iload_n 2, 1) := by decide +kernel
theorem dX8_mean_68 : decode cX8_mean 68 = .ok (.goto 10, 3) := by decide +kernel
theorem dX8_mean_71 : decode cX8_mean 71 = .ok (.aload_n 0, 1) := by decide +kernel
theorem dX8_mean_72 : decode cX8_mean 72 = .ok (.getfield 28, 3) := by decide +kernel
theorem dX8_mean_75 : decode cX8_mean 75 = .ok (.getfield 198, 3) := by decide +kernel
theorem dX8_mean_78 : decode cX8_mean 78 = .ok (.iload_n 3, 1) := by decide +kernel
theorem dX8_mean_79 : decode cX8_mean 79 = .ok (.idiv, 1) := by decide +kernel
theorem dX8_mean_80 : decode cX8_mean 80 = .ok (.i2l, 1) := by decide +kernel
theorem dX8_mean_81 : decode cX8_mean 81 = .ok (.lreturn, 1) := by decide +kernel
set_option maxRecDepth 20000 in
theorem ggX8_walled_X8_refusedFor : GoodIn wsX8_walled wsX8_refusedFor := goodIn_r _ [6, 7, 8, 9, 10, 11, 12, 13, 14, 5, 15, 16, 103, 104, 105, 106, 107, 108, 109, 110, 111, 112, 113, 114, 115, 116, 117, 118, 119, 120, 121, 122, 123] (by decide +kernel) (by decide +kernel)
set_option maxRecDepth 20000 in
theorem gX8_walled_X8_refusedFor : GoodIn wsX8_walled (wsV RX8 208 RX8 yX8_refusedFor wsX8_refusedFor) := goodIn_app (goodIn_of _ (by decide +kernel)) ggX8_walled_X8_refusedFor
set_option maxRecDepth 20000 in
theorem ggX8_walled_X0_lowestWall : GoodIn wsX8_walled wsX0_lowestWall := goodIn_r _ [21, 22, 23, 24, 25, 26, 27, 28, 29, 30, 31, 32, 33, 34, 35, 36, 37, 38, 39, 40, 11, 41, 42, 43, 44, 45, 46, 47, 48, 49, 50, 51, 52, 53, 54, 55, 56, 57, 58, 59, 60, 5, 61, 62, 63, 64, 65, 66, 67, 68, 69, 70, 71, 72, 73, 74, 75, 76, 77, 78, 79, 80, 81, 82, 83, 84, 85, 86, 87, 88, 89, 90, 91, 92, 93, 94, 95, 96, 97, 98, 99, 100, 101, 102, 124, 125, 111, 112, 113, 114, 115, 116, 117, 118, 119, 120, 121, 122, 123, 126, 127, 128, 129, 130, 131, 132, 133, 134, 135] (by decide +kernel) (by decide +kernel)
set_option maxRecDepth 20000 in
theorem gX8_walled_X0_lowestWall : GoodIn wsX8_walled (wsV RX8 211 RX0 yX0_lowestWall wsX0_lowestWall) := goodIn_app (goodIn_of _ (by decide +kernel)) ggX8_walled_X0_lowestWall
theorem dX8_walled_0 : decode cX8_walled 0 = .ok (.aload_n 0, 1) := by decide +kernel
theorem dX8_walled_1 : decode cX8_walled 1 = .ok (.iload_n 1, 1) := by decide +kernel
theorem dX8_walled_2 : decode cX8_walled 2 = .ok (.iload_n 2, 1) := by decide +kernel
theorem dX8_walled_3 : decode cX8_walled 3 = .ok (.invokevirtual 208, 3) := by decide +kernel
theorem dX8_walled_6 : decode cX8_walled 6 = .ok (.istore_n 3, 1) := by decide +kernel
theorem dX8_walled_7 : decode cX8_walled 7 = .ok (.iload_n 3, 1) := by decide +kernel
theorem dX8_walled_8 : decode cX8_walled 8 = .ok (.ifCond .eq 7, 3) := by decide +kernel
theorem dX8_walled_11 : decode cX8_walled 11 = .ok (.iload_n 3, 1) := by decide +kernel
theorem dX8_walled_12 : decode cX8_walled 12 = .ok (.goto 12, 3) := by decide +kernel
theorem dX8_walled_15 : decode cX8_walled 15 = .ok (.aload_n 0, 1) := by decide +kernel
theorem dX8_walled_16 : decode cX8_walled 16 = .ok (.getfield 46, 3) := by decide +kernel
theorem dX8_walled_19 : decode cX8_walled 19 = .ok (.iload_n 1, 1) := by decide +kernel
theorem dX8_walled_20 : decode cX8_walled 20 = .ok (.iload_n 2, 1) := by decide +kernel
theorem dX8_walled_21 : decode cX8_walled 21 = .ok (.invokevirtual 211, 3) := by decide +kernel
theorem dX8_walled_24 : decode cX8_walled 24 = .ok (.ireturn, 1) := by decide +kernel
set_option maxRecDepth 20000 in
theorem ggX8_raised_X8_refusedFor : GoodIn wsX8_raised wsX8_refusedFor := goodIn_r _ [6, 7, 8, 9, 10, 11, 12, 13, 14, 5, 15, 16, 100, 101, 102, 103, 104, 105, 106, 107, 108, 109, 110, 111, 112, 113, 114, 115, 116, 117, 118, 119, 120] (by decide +kernel) (by decide +kernel)
set_option maxRecDepth 20000 in
theorem gX8_raised_X8_refusedFor : GoodIn wsX8_raised (wsV RX8 208 RX8 yX8_refusedFor wsX8_refusedFor) := goodIn_app (goodIn_of _ (by decide +kernel)) ggX8_raised_X8_refusedFor
set_option maxRecDepth 20000 in
theorem ggX8_raised_X0_leastFloors : GoodIn wsX8_raised wsX0_leastFloors := goodIn_r _ [21, 22, 23, 24, 25, 26, 27, 28, 29, 30, 31, 32, 33, 34, 35, 36, 37, 38, 39, 40, 11, 41, 42, 43, 44, 45, 46, 47, 48, 49, 50, 51, 52, 53, 54, 55, 56, 57, 58, 59, 60, 5, 61, 62, 63, 64, 65, 66, 67, 68, 69, 70, 71, 72, 73, 74, 75, 76, 77, 78, 79, 80, 81, 82, 83, 84, 85, 86, 87, 88, 89, 90, 91, 92, 93, 94, 95, 96, 97, 98, 99, 121, 122, 108, 109, 110, 111, 112, 113, 114, 115, 116, 117, 118, 119, 120, 123, 124, 125, 126, 127, 128, 129, 130, 131, 132] (by decide +kernel) (by decide +kernel)
set_option maxRecDepth 20000 in
theorem gX8_raised_X0_leastFloors : GoodIn wsX8_raised (wsV RX8 214 RX0 yX0_leastFloors wsX0_leastFloors) := goodIn_app (goodIn_of _ (by decide +kernel)) ggX8_raised_X0_leastFloors
theorem dX8_raised_0 : decode cX8_raised 0 = .ok (.aload_n 0, 1) := by decide +kernel
theorem dX8_raised_1 : decode cX8_raised 1 = .ok (.iload_n 1, 1) := by decide +kernel
theorem dX8_raised_2 : decode cX8_raised 2 = .ok (.iload_n 2, 1) := by decide +kernel
theorem dX8_raised_3 : decode cX8_raised 3 = .ok (.invokevirtual 208, 3) := by decide +kernel
theorem dX8_raised_6 : decode cX8_raised 6 = .ok (.istore_n 3, 1) := by decide +kernel
theorem dX8_raised_7 : decode cX8_raised 7 = .ok (.iload_n 3, 1) := by decide +kernel
theorem dX8_raised_8 : decode cX8_raised 8 = .ok (.ifCond .eq 7, 3) := by decide +kernel
theorem dX8_raised_11 : decode cX8_raised 11 = .ok (.iload_n 3, 1) := by decide +kernel
theorem dX8_raised_12 : decode cX8_raised 12 = .ok (.goto 12, 3) := by decide +kernel
theorem dX8_raised_15 : decode cX8_raised 15 = .ok (.aload_n 0, 1) := by decide +kernel
theorem dX8_raised_16 : decode cX8_raised 16 = .ok (.getfield 46, 3) := by decide +kernel
theorem dX8_raised_19 : decode cX8_raised 19 = .ok (.iload_n 1, 1) := by decide +kernel
theorem dX8_raised_20 : decode cX8_raised 20 = .ok (.iload_n 2, 1) := by decide +kernel
theorem dX8_raised_21 : decode cX8_raised 21 = .ok (.invokevirtual 214, 3) := by decide +kernel
theorem dX8_raised_24 : decode cX8_raised 24 = .ok (.ireturn, 1) := by decide +kernel
set_option maxRecDepth 20000 in
theorem ggX8_felling_X8_refusedFor : GoodIn wsX8_felling wsX8_refusedFor := goodIn_r _ [6, 7, 8, 9, 10, 11, 12, 13, 14, 5, 15, 16, 118, 119, 120, 121, 122, 123, 124, 125, 126, 127, 128, 129, 130, 131, 132, 133, 134, 135, 136, 137, 138] (by decide +kernel) (by decide +kernel)
set_option maxRecDepth 20000 in
theorem gX8_felling_X8_refusedFor : GoodIn wsX8_felling (wsV RX8 208 RX8 yX8_refusedFor wsX8_refusedFor) := goodIn_app (goodIn_of _ (by decide +kernel)) ggX8_felling_X8_refusedFor
set_option maxRecDepth 20000 in
theorem ggX8_felling_X0_fewestFelled : GoodIn wsX8_felling wsX0_fewestFelled := goodIn_r _ [21, 22, 23, 24, 25, 26, 27, 28, 29, 30, 31, 32, 33, 34, 35, 36, 37, 38, 11, 39, 40, 41, 42, 43, 44, 45, 46, 47, 48, 49, 50, 51, 52, 53, 54, 55, 56, 57, 58, 5, 59, 60, 61, 62, 63, 64, 65, 66, 67, 68, 69, 70, 71, 72, 73, 74, 75, 76, 77, 78, 79, 80, 20, 81, 82, 83, 84, 85, 86, 87, 88, 89, 90, 91, 92, 93, 94, 95, 96, 97, 98, 99, 100, 101, 102, 103, 104, 105, 106, 107, 108, 109, 110, 111, 112, 113, 114, 115, 116, 117, 139, 140, 126, 127, 128, 129, 130, 131, 132, 133, 134, 135, 136, 137, 138, 141, 142, 143, 144, 145, 146, 147, 148, 149, 150] (by decide +kernel) (by decide +kernel)
set_option maxRecDepth 20000 in
theorem gX8_felling_X0_fewestFelled : GoodIn wsX8_felling (wsV RX8 217 RX0 yX0_fewestFelled wsX0_fewestFelled) := goodIn_app (goodIn_of _ (by decide +kernel)) ggX8_felling_X0_fewestFelled
theorem dX8_felling_0 : decode cX8_felling 0 = .ok (.aload_n 0, 1) := by decide +kernel
theorem dX8_felling_1 : decode cX8_felling 1 = .ok (.iload_n 1, 1) := by decide +kernel
theorem dX8_felling_2 : decode cX8_felling 2 = .ok (.iload_n 2, 1) := by decide +kernel
theorem dX8_felling_3 : decode cX8_felling 3 = .ok (.invokevirtual 208, 3) := by decide +kernel
theorem dX8_felling_6 : decode cX8_felling 6 = .ok (.istore_n 3, 1) := by decide +kernel
theorem dX8_felling_7 : decode cX8_felling 7 = .ok (.iload_n 3, 1) := by decide +kernel
theorem dX8_felling_8 : decode cX8_felling 8 = .ok (.ifCond .eq 7, 3) := by decide +kernel
theorem dX8_felling_11 : decode cX8_felling 11 = .ok (.iload_n 3, 1) := by decide +kernel
theorem dX8_felling_12 : decode cX8_felling 12 = .ok (.goto 12, 3) := by decide +kernel
theorem dX8_felling_15 : decode cX8_felling 15 = .ok (.aload_n 0, 1) := by decide +kernel
theorem dX8_felling_16 : decode cX8_felling 16 = .ok (.getfield 46, 3) := by decide +kernel
theorem dX8_felling_19 : decode cX8_felling 19 = .ok (.iload_n 1, 1) := by decide +kernel
theorem dX8_felling_20 : decode cX8_felling 20 = .ok (.iload_n 2, 1) := by decide +kernel
theorem dX8_felling_21 : decode cX8_felling 21 = .ok (.invokevirtual 217, 3) := by decide +kernel
theorem dX8_felling_24 : decode cX8_felling 24 = .ok (.ireturn, 1) := by decide +kernel
set_option maxRecDepth 20000 in
theorem ggX8_fresh_X2_hasCell : GoodIn wsX8_fresh wsX2_hasCell := goodIn_r _ [7, 8, 9, 10, 11, 129, 130, 131, 132, 133, 134, 135, 136, 137, 138, 139, 140, 141] (by decide +kernel) (by decide +kernel)
set_option maxRecDepth 20000 in
theorem gX8_fresh_X2_hasCell : GoodIn wsX8_fresh (wsV RX8 97 RX2 yX2_hasCell wsX2_hasCell) := goodIn_app (goodIn_of _ (by decide +kernel)) ggX8_fresh_X2_hasCell
set_option maxRecDepth 20000 in
theorem ggX8_fresh_X8_isWithin : GoodIn wsX8_fresh wsX8_isWithin := goodIn_r _ [11] (by decide +kernel) (by decide +kernel)
set_option maxRecDepth 20000 in
theorem gX8_fresh_X8_isWithin : GoodIn wsX8_fresh (va_wsS RX8 65 yX8_isWithin wsX8_isWithin) := goodIn_app (goodIn_of _ (by decide +kernel)) ggX8_fresh_X8_isWithin
set_option maxRecDepth 20000 in
theorem ggX8_fresh_X2_canTakeNew : GoodIn wsX8_fresh wsX2_canTakeNew := goodIn_r _ [16, 17, 18, 19, 20, 6, 21, 22, 129, 130, 131, 132, 133, 134, 135, 136, 137, 138, 139, 140, 141] (by decide +kernel) (by decide +kernel)
set_option maxRecDepth 20000 in
theorem gX8_fresh_X2_canTakeNew : GoodIn wsX8_fresh (wsV RX8 220 RX2 yX2_canTakeNew wsX2_canTakeNew) := goodIn_app (goodIn_of _ (by decide +kernel)) ggX8_fresh_X2_canTakeNew
set_option maxRecDepth 20000 in
theorem ggX8_fresh_X0_numberOfNew : GoodIn wsX8_fresh wsX0_numberOfNew := goodIn_r _ [27, 28, 29, 30, 31, 32, 33, 34, 35, 36, 37, 38, 39, 40, 41, 42, 43, 6, 44, 45, 46, 47, 48, 49, 22, 50, 51, 52, 53, 54, 17, 55, 56, 57, 58, 59, 60, 61, 10, 62, 63, 64, 65, 66, 67, 68, 69, 70, 71, 72, 73, 74, 75, 76, 77, 78, 79, 80, 81, 82, 83, 84, 85, 86, 87, 88, 89, 90, 91, 92, 93, 94, 95, 96, 97, 98, 99, 142, 143, 129, 130, 131, 132, 133, 134, 135, 136, 137, 138, 139, 140, 141, 144, 145, 146, 147, 148, 149, 150, 151, 152, 153] (by decide +kernel) (by decide +kernel)
set_option maxRecDepth 20000 in
theorem gX8_fresh_X0_numberOfNew : GoodIn wsX8_fresh (wsV RX8 223 RX0 yX0_numberOfNew wsX0_numberOfNew) := goodIn_app (goodIn_of _ (by decide +kernel)) ggX8_fresh_X0_numberOfNew
set_option maxRecDepth 20000 in
theorem ggX8_fresh_X0_changedByNew : GoodIn wsX8_fresh wsX0_changedByNew := goodIn_r _ [103, 28, 104, 29, 30, 105, 106, 107, 108, 109, 110, 111, 34, 112, 36, 82, 113, 114, 32, 33, 35, 37, 38, 39, 40, 41, 42, 43, 6, 44, 45, 46, 47, 48, 49, 22, 50, 51, 52, 53, 54, 17, 55, 56, 57, 58, 59, 60, 61, 10, 62, 63, 64, 65, 66, 67, 68, 69, 70, 71, 72, 73, 115, 116, 117, 118, 83, 84, 78, 79, 80, 81, 85, 86, 87, 88, 89, 90, 91, 92, 93, 94, 95, 96, 97, 98, 99, 119, 120, 142, 143, 144, 145, 146, 147, 129, 130, 131, 132, 133, 134, 135, 136, 137, 138, 139, 140, 141, 148, 149, 150, 151, 152, 153] (by decide +kernel) (by decide +kernel)
set_option maxRecDepth 20000 in
theorem gX8_fresh_X0_changedByNew : GoodIn wsX8_fresh (wsV RX8 226 RX0 yX0_changedByNew wsX0_changedByNew) := goodIn_app (goodIn_of _ (by decide +kernel)) ggX8_fresh_X0_changedByNew
theorem dX8_fresh_0 : decode cX8_fresh 0 = .ok (.aload_n 0, 1) := by decide +kernel
theorem dX8_fresh_1 : decode cX8_fresh 1 = .ok (.getfield 28, 3) := by decide +kernel
theorem dX8_fresh_4 : decode cX8_fresh 4 = .ok (.iload_n 1, 1) := by decide +kernel
theorem dX8_fresh_5 : decode cX8_fresh 5 = .ok (.invokevirtual 97, 3) := by decide +kernel
theorem dX8_fresh_8 : decode cX8_fresh 8 = .ok (.ifCond .ne 5, 3) := by decide +kernel
theorem dX8_fresh_11 : decode cX8_fresh 11 = .ok (.iconst (-1), 1) := by decide +kernel
theorem dX8_fresh_12 : decode cX8_fresh 12 = .ok (.ireturn, 1) := by decide +kernel
theorem dX8_fresh_13 : decode cX8_fresh 13 = .ok (.iload_n 2, 1) := by decide +kernel
theorem dX8_fresh_14 : decode cX8_fresh 14 = .ok (.iconst 1, 1) := by decide +kernel
theorem dX8_fresh_15 : decode cX8_fresh 15 = .ok (.bipush 9, 2) := by decide +kernel
theorem dX8_fresh_17 : decode cX8_fresh 17 = .ok (.invokestatic 65, 3) := by decide +kernel
theorem dX8_fresh_20 : decode cX8_fresh 20 = .ok (.ifCond .eq 12, 3) := by decide +kernel
theorem dX8_fresh_23 : decode cX8_fresh 23 = .ok (.iload_n 3, 1) := by decide +kernel
theorem dX8_fresh_24 : decode cX8_fresh 24 = .ok (.iconst 0, 1) := by decide +kernel
theorem dX8_fresh_25 : decode cX8_fresh 25 = .ok (.iconst 1, 1) := by decide +kernel
theorem dX8_fresh_26 : decode cX8_fresh 26 = .ok (.invokestatic 65, 3) := by decide +kernel
theorem dX8_fresh_29 : decode cX8_fresh 29 = .ok (.ifCond .ne 6, 3) := by decide +kernel
theorem dX8_fresh_32 : decode cX8_fresh 32 = .ok (.bipush (-2), 2) := by decide +kernel
theorem dX8_fresh_34 : decode cX8_fresh 34 = .ok (.ireturn, 1) := by decide +kernel
theorem dX8_fresh_35 : decode cX8_fresh 35 = .ok (.aload_n 0, 1) := by decide +kernel
theorem dX8_fresh_36 : decode cX8_fresh 36 = .ok (.getfield 28, 3) := by decide +kernel
theorem dX8_fresh_39 : decode cX8_fresh 39 = .ok (.iload_n 1, 1) := by decide +kernel
theorem dX8_fresh_40 : decode cX8_fresh 40 = .ok (.invokevirtual 220, 3) := by decide +kernel
theorem dX8_fresh_43 : decode cX8_fresh 43 = .ok (.ifCond .ne 6, 3) := by decide +kernel
theorem dX8_fresh_46 : decode cX8_fresh 46 = .ok (.bipush (-3), 2) := by decide +kernel
theorem dX8_fresh_48 : decode cX8_fresh 48 = .ok (.ireturn, 1) := by decide +kernel
theorem dX8_fresh_49 : decode cX8_fresh 49 = .ok (.iload_n 3, 1) := by decide +kernel
theorem dX8_fresh_50 : decode cX8_fresh 50 = .ok (.ifCond .ne 15, 3) := by decide +kernel
theorem dX8_fresh_53 : decode cX8_fresh 53 = .ok (.aload_n 0, 1) := by decide +kernel
theorem dX8_fresh_54 : decode cX8_fresh 54 = .ok (.getfield 46, 3) := by decide +kernel
theorem dX8_fresh_57 : decode cX8_fresh 57 = .ok (.iload_n 1, 1) := by decide +kernel
theorem dX8_fresh_58 : decode cX8_fresh 58 = .ok (.iload_n 2, 1) := by decide +kernel
theorem dX8_fresh_59 : decode cX8_fresh 59 = .ok (.invokevirtual 223, 3) := by decide +kernel
theorem dX8_fresh_62 : decode cX8_fresh 62 = .ok (.goto 12, 3) := by decide +kernel
theorem dX8_fresh_65 : decode cX8_fresh 65 = .ok (.aload_n 0, 1) := by decide +kernel
theorem dX8_fresh_66 : decode cX8_fresh 66 = .ok (.getfield 46, 3) := by decide +kernel
theorem dX8_fresh_69 : decode cX8_fresh 69 = .ok (.iload_n 1, 1) := by decide +kernel
theorem dX8_fresh_70 : decode cX8_fresh 70 = .ok (.iload_n 2, 1) := by decide +kernel
theorem dX8_fresh_71 : decode cX8_fresh 71 = .ok (.invokevirtual 226, 3) := by decide +kernel
theorem dX8_fresh_74 : decode cX8_fresh 74 = .ok (.ireturn, 1) := by decide +kernel
set_option maxRecDepth 20000 in
theorem ggX8_free_X8_isWithin : GoodIn wsX8_free wsX8_isWithin := goodIn_r _ [7] (by decide +kernel) (by decide +kernel)
set_option maxRecDepth 20000 in
theorem gX8_free_X8_isWithin : GoodIn wsX8_free (va_wsS RX8 65 yX8_isWithin wsX8_isWithin) := goodIn_app (goodIn_of _ (by decide +kernel)) ggX8_free_X8_isWithin
set_option maxRecDepth 20000 in
theorem ggX8_free_X2_isThere : GoodIn wsX8_free wsX2_isThere := goodIn_r _ [12, 13, 110, 111, 112, 113, 114, 115, 116, 117, 118, 119, 120, 121, 122] (by decide +kernel) (by decide +kernel)
set_option maxRecDepth 20000 in
theorem gX8_free_X2_isThere : GoodIn wsX8_free (wsV RX8 160 RX2 yX2_isThere wsX2_isThere) := goodIn_app (goodIn_of _ (by decide +kernel)) ggX8_free_X2_isThere
set_option maxRecDepth 20000 in
theorem ggX8_free_X0_cellsForNew : GoodIn wsX8_free wsX0_cellsForNew := goodIn_r _ [18, 19, 20, 21, 22, 23, 24, 25, 26, 27, 28, 29, 30, 31, 32, 33, 34, 35, 11, 36, 37, 38, 39, 40, 41, 42, 43, 44, 45, 46, 47, 48, 49, 50, 51, 52, 53, 54, 55, 6, 56, 57, 58, 59, 60, 61, 62, 63, 64, 65, 66, 67, 68, 69, 70, 71, 72, 73, 74, 75, 76, 77, 78, 79, 80, 81, 82, 83, 84, 85, 86, 87, 88, 89, 90, 91, 92, 93, 94, 95, 96, 97, 98, 99, 100, 101, 123, 124, 110, 111, 112, 113, 114, 115, 116, 117, 118, 119, 120, 121, 122, 125, 126, 127, 128, 129, 130, 131, 132, 133, 134] (by decide +kernel) (by decide +kernel)
set_option maxRecDepth 20000 in
theorem gX8_free_X0_cellsForNew : GoodIn wsX8_free (wsV RX8 229 RX0 yX0_cellsForNew wsX0_cellsForNew) := goodIn_app (goodIn_of _ (by decide +kernel)) ggX8_free_X0_cellsForNew
theorem dX8_free_0 : decode cX8_free 0 = .ok (.iload_n 1, 1) := by decide +kernel
theorem dX8_free_1 : decode cX8_free 1 = .ok (.iconst 1, 1) := by decide +kernel
theorem dX8_free_2 : decode cX8_free 2 = .ok (.bipush 9, 2) := by decide +kernel
theorem dX8_free_4 : decode cX8_free 4 = .ok (.invokestatic 65, 3) := by decide +kernel
theorem dX8_free_7 : decode cX8_free 7 = .ok (.ifCond .eq 23, 3) := by decide +kernel
theorem dX8_free_10 : decode cX8_free 10 = .ok (.iload_n 2, 1) := by decide +kernel
theorem dX8_free_11 : decode cX8_free 11 = .ok (.iconst 0, 1) := by decide +kernel
theorem dX8_free_12 : decode cX8_free 12 = .ok (.bipush 8, 2) := by decide +kernel
theorem dX8_free_14 : decode cX8_free 14 = .ok (.invokestatic 65, 3) := by decide +kernel
theorem dX8_free_17 : decode cX8_free 17 = .ok (.ifCond .eq 13, 3) := by decide +kernel
theorem dX8_free_20 : decode cX8_free 20 = .ok (.aload_n 0, 1) := by decide +kernel
theorem dX8_free_21 : decode cX8_free 21 = .ok (.getfield 28, 3) := by decide +kernel
theorem dX8_free_24 : decode cX8_free 24 = .ok (.invokevirtual 160, 3) := by decide +kernel
theorem dX8_free_27 : decode cX8_free 27 = .ok (.ifCond .ne 7, 3) := by decide +kernel
theorem dX8_free_30 : decode cX8_free 30 = .ok (.ldc2_w 196, 3) := by decide +kernel
theorem dX8_free_33 : decode cX8_free 33 = .ok (.lreturn, 1) := by decide +kernel
theorem dX8_free_34 : decode cX8_free 34 = .ok (.aload_n 0, 1) := by decide +kernel
theorem dX8_free_35 : decode cX8_free 35 = .ok (.getfield 46, 3) := by decide +kernel
theorem dX8_free_38 : decode cX8_free 38 = .ok (.iload_n 1, 1) := by decide +kernel
theorem dX8_free_39 : decode cX8_free 39 = .ok (.iload_n 2, 1) := by decide +kernel
theorem dX8_free_40 : decode cX8_free 40 = .ok (.invokevirtual 229, 3) := by decide +kernel
theorem dX8_free_43 : decode cX8_free 43 = .ok (.lreturn, 1) := by decide +kernel
set_option maxRecDepth 20000 in
theorem ggX8_change_X2_hasHouse : GoodIn wsX8_change wsX2_hasHouse := goodIn_r _ [7, 8, 9, 10, 11, 109, 110, 111, 112, 113, 114, 115, 116, 117, 118, 119, 120, 121] (by decide +kernel) (by decide +kernel)
set_option maxRecDepth 20000 in
theorem gX8_change_X2_hasHouse : GoodIn wsX8_change (wsV RX8 110 RX2 yX2_hasHouse wsX2_hasHouse) := goodIn_app (goodIn_of _ (by decide +kernel)) ggX8_change_X2_hasHouse
set_option maxRecDepth 20000 in
theorem ggX8_change_X0_yearOfChange : GoodIn wsX8_change wsX0_yearOfChange := goodIn_r _ [16, 17, 18, 19, 20, 21, 22, 23, 24, 25, 26, 27, 28, 29, 30, 31, 32, 33, 6, 34, 35, 36, 37, 38, 39, 40, 41, 42, 43, 44, 45, 46, 47, 48, 49, 50, 51, 52, 53, 10, 54, 55, 56, 57, 58, 59, 60, 61, 62, 63, 64, 65, 66, 67, 68, 69, 70, 71, 72, 73, 74, 75, 76, 77, 78, 79, 80, 81, 82, 83, 84, 85, 86, 87, 88, 89, 90, 91, 92, 93, 94, 95, 96, 97, 98, 99, 100, 122, 123, 109, 110, 111, 112, 113, 114, 115, 116, 117, 118, 119, 120, 121, 124, 125, 126, 127, 128, 129, 130, 131, 132, 133] (by decide +kernel) (by decide +kernel)
set_option maxRecDepth 20000 in
theorem gX8_change_X0_yearOfChange : GoodIn wsX8_change (wsV RX8 233 RX0 yX0_yearOfChange wsX0_yearOfChange) := goodIn_app (goodIn_of _ (by decide +kernel)) ggX8_change_X0_yearOfChange
theorem dX8_change_0 : decode cX8_change 0 = .ok (.aload_n 0, 1) := by decide +kernel
theorem dX8_change_1 : decode cX8_change 1 = .ok (.getfield 28, 3) := by decide +kernel
theorem dX8_change_4 : decode cX8_change 4 = .ok (.iload_n 1, 1) := by decide +kernel
theorem dX8_change_5 : decode cX8_change 5 = .ok (.invokevirtual 110, 3) := by decide +kernel
theorem dX8_change_8 : decode cX8_change 8 = .ok (.ifCond .eq 14, 3) := by decide +kernel
theorem dX8_change_11 : decode cX8_change 11 = .ok (.aload_n 0, 1) := by decide +kernel
theorem dX8_change_12 : decode cX8_change 12 = .ok (.getfield 46, 3) := by decide +kernel
theorem dX8_change_15 : decode cX8_change 15 = .ok (.iload_n 1, 1) := by decide +kernel
theorem dX8_change_16 : decode cX8_change 16 = .ok (.invokevirtual 233, 3) := by decide +kernel
theorem dX8_change_19 : decode cX8_change 19 = .ok (.goto 4, 3) := by decide +kernel
theorem dX8_change_22 : decode cX8_change 22 = .ok (.iconst (-1), 1) := by decide +kernel
theorem dX8_change_23 : decode cX8_change 23 = .ok (.ireturn, 1) := by decide +kernel
set_option maxRecDepth 20000 in
theorem ggX8_reading_X2_hasHouse : GoodIn wsX8_reading wsX2_hasHouse := goodIn_r _ [7, 8, 9, 10, 11, 34, 35, 36, 37, 38, 39, 40, 41, 42, 43, 44, 45, 46] (by decide +kernel) (by decide +kernel)
set_option maxRecDepth 20000 in
theorem gX8_reading_X2_hasHouse : GoodIn wsX8_reading (wsV RX8 110 RX2 yX2_hasHouse wsX2_hasHouse) := goodIn_app (goodIn_of _ (by decide +kernel)) ggX8_reading_X2_hasHouse
set_option maxRecDepth 20000 in
theorem ggX8_reading_X8_isWithin : GoodIn wsX8_reading wsX8_isWithin := goodIn_r _ [11] (by decide +kernel) (by decide +kernel)
set_option maxRecDepth 20000 in
theorem gX8_reading_X8_isWithin : GoodIn wsX8_reading (va_wsS RX8 65 yX8_isWithin wsX8_isWithin) := goodIn_app (goodIn_of _ (by decide +kernel)) ggX8_reading_X8_isWithin
set_option maxRecDepth 20000 in
theorem ggX8_reading_X3_isFull : GoodIn wsX8_reading wsX3_isFull := goodIn_r _ [17, 18, 47, 48, 49, 50, 51, 52] (by decide +kernel) (by decide +kernel)
set_option maxRecDepth 20000 in
theorem gX8_reading_X3_isFull : GoodIn wsX8_reading (wsV RX8 236 RX3 yX3_isFull wsX3_isFull) := goodIn_app (goodIn_of _ (by decide +kernel)) ggX8_reading_X3_isFull
set_option maxRecDepth 20000 in
theorem ggX8_reading_X3_keep : GoodIn wsX8_reading wsX3_keep := goodIn_r _ [22, 23, 18, 24, 25, 47, 48, 49, 50, 51, 52] (by decide +kernel) (by decide +kernel)
set_option maxRecDepth 20000 in
theorem gX8_reading_X3_keep : GoodIn wsX8_reading (wsV RX8 239 RX3 yX3_keep wsX3_keep) := goodIn_app (goodIn_of _ (by decide +kernel)) ggX8_reading_X3_keep
theorem dX8_reading_0 : decode cX8_reading 0 = .ok (.aload_n 0, 1) := by decide +kernel
theorem dX8_reading_1 : decode cX8_reading 1 = .ok (.getfield 28, 3) := by decide +kernel
theorem dX8_reading_4 : decode cX8_reading 4 = .ok (.iload_n 1, 1) := by decide +kernel
theorem dX8_reading_5 : decode cX8_reading 5 = .ok (.invokevirtual 110, 3) := by decide +kernel
theorem dX8_reading_8 : decode cX8_reading 8 = .ok (.ifCond .ne 5, 3) := by decide +kernel
theorem dX8_reading_11 : decode cX8_reading 11 = .ok (.iconst (-1), 1) := by decide +kernel
theorem dX8_reading_12 : decode cX8_reading 12 = .ok (.ireturn, 1) := by decide +kernel
theorem dX8_reading_13 : decode cX8_reading 13 = .ok (.iload_n 2, 1) := by decide +kernel
theorem dX8_reading_14 : decode cX8_reading 14 = .ok (.iconst 0, 1) := by decide +kernel
theorem dX8_reading_15 : decode cX8_reading 15 = .ok (.bipush 30, 2) := by decide +kernel
theorem dX8_reading_17 : decode cX8_reading 17 = .ok (.invokestatic 65, 3) := by decide +kernel
theorem dX8_reading_20 : decode cX8_reading 20 = .ok (.ifCond .eq 13, 3) := by decide +kernel
theorem dX8_reading_23 : decode cX8_reading 23 = .ok (.iload_n 3, 1) := by decide +kernel
theorem dX8_reading_24 : decode cX8_reading 24 = .ok (.iconst 0, 1) := by decide +kernel
theorem dX8_reading_25 : decode cX8_reading 25 = .ok (.bipush 7, 2) := by decide +kernel
theorem dX8_reading_27 : decode cX8_reading 27 = .ok (.invokestatic 65, 3) := by decide +kernel
theorem dX8_reading_30 : decode cX8_reading 30 = .ok (.ifCond .ne 6, 3) := by decide +kernel
theorem dX8_reading_33 : decode cX8_reading 33 = .ok (.bipush (-2), 2) := by decide +kernel
theorem dX8_reading_35 : decode cX8_reading 35 = .ok (.ireturn, 1) := by decide +kernel
theorem dX8_reading_36 : decode cX8_reading 36 = .ok (.aload_n 0, 1) := by decide +kernel
theorem dX8_reading_37 : decode cX8_reading 37 = .ok (.getfield 53, 3) := by decide +kernel
theorem dX8_reading_40 : decode cX8_reading 40 = .ok (.invokevirtual 236, 3) := by decide +kernel
theorem dX8_reading_43 : decode cX8_reading 43 = .ok (.ifCond .eq 8, 3) := by decide +kernel
theorem dX8_reading_46 : decode cX8_reading 46 = .ok (.bipush (-4), 2) := by decide +kernel
theorem dX8_reading_48 : decode cX8_reading 48 = .ok (.goto 13, 3) := by decide +kernel
theorem dX8_reading_51 : decode cX8_reading 51 = .ok (.aload_n 0, 1) := by decide +kernel
theorem dX8_reading_52 : decode cX8_reading 52 = .ok (.getfield 53, 3) := by decide +kernel
theorem dX8_reading_55 : decode cX8_reading 55 = .ok (.iload_n 1, 1) := by decide +kernel
theorem dX8_reading_56 : decode cX8_reading 56 = .ok (.iload_n 2, 1) := by decide +kernel
theorem dX8_reading_57 : decode cX8_reading 57 = .ok (.iload_n 3, 1) := by decide +kernel
theorem dX8_reading_58 : decode cX8_reading 58 = .ok (.invokevirtual 239, 3) := by decide +kernel
theorem dX8_reading_61 : decode cX8_reading 61 = .ok (.ireturn, 1) := by decide +kernel
set_option maxRecDepth 20000 in
theorem ggX8_back_X8_isWithin : GoodIn wsX8_back wsX8_isWithin := goodIn_r _ [6] (by decide +kernel) (by decide +kernel)
set_option maxRecDepth 20000 in
theorem gX8_back_X8_isWithin : GoodIn wsX8_back (va_wsS RX8 65 yX8_isWithin wsX8_isWithin) := goodIn_app (goodIn_of _ (by decide +kernel)) ggX8_back_X8_isWithin
theorem dX8_back_0 : decode cX8_back 0 = .ok (.iload_n 1, 1) := by decide +kernel
theorem dX8_back_1 : decode cX8_back 1 = .ok (.iconst 0, 1) := by decide +kernel
theorem dX8_back_2 : decode cX8_back 2 = .ok (.aload_n 0, 1) := by decide +kernel
theorem dX8_back_3 : decode cX8_back 3 = .ok (.getfield 53, 3) := by decide +kernel
theorem dX8_back_6 : decode cX8_back 6 = .ok (.getfield 91, 3) := by decide +kernel
theorem dX8_back_9 : decode cX8_back 9 = .ok (.invokestatic 65, 3) := by decide +kernel
theorem dX8_back_12 : decode cX8_back 12 = .ok (.ifCond .ne 6, 3) := by decide +kernel
theorem dX8_back_15 : decode cX8_back 15 = .ok (.bipush (-2), 2) := by decide +kernel
theorem dX8_back_17 : decode cX8_back 17 = .ok (.ireturn, 1) := by decide +kernel
theorem dX8_back_18 : decode cX8_back 18 = .ok (.aload_n 0, 1) := by decide +kernel
theorem dX8_back_19 : decode cX8_back 19 = .ok (.getfield 53, 3) := by decide +kernel
theorem dX8_back_22 : decode cX8_back 22 = .ok (.dup, 1) := by decide +kernel
theorem dX8_back_23 : decode cX8_back 23 = .ok (.getfield 91, 3) := by decide +kernel
theorem dX8_back_26 : decode cX8_back 26 = .ok (.iload_n 1, 1) := by decide +kernel
theorem dX8_back_27 : decode cX8_back 27 = .ok (.isub, 1) := by decide +kernel
theorem dX8_back_28 : decode cX8_back 28 = .ok (.putfield 91, 3) := by decide +kernel
theorem dX8_back_31 : decode cX8_back 31 = .ok (.aload_n 0, 1) := by decide +kernel
theorem dX8_back_32 : decode cX8_back 32 = .ok (.getfield 53, 3) := by decide +kernel
theorem dX8_back_35 : decode cX8_back 35 = .ok (.getfield 91, 3) := by decide +kernel
theorem dX8_back_38 : decode cX8_back 38 = .ok (.ireturn, 1) := by decide +kernel
set_option maxRecDepth 20000 in
theorem ggX8_fogs_X2_isThere : GoodIn wsX8_fogs wsX2_isThere := goodIn_r _ [7, 8, 115, 116, 117, 118, 119, 120, 121, 122, 123, 124, 125, 126, 127] (by decide +kernel) (by decide +kernel)
set_option maxRecDepth 20000 in
theorem gX8_fogs_X2_isThere : GoodIn wsX8_fogs (wsV RX8 160 RX2 yX2_isThere wsX2_isThere) := goodIn_app (goodIn_of _ (by decide +kernel)) ggX8_fogs_X2_isThere
set_option maxRecDepth 20000 in
theorem ggX8_fogs_X3_possibleFogs : GoodIn wsX8_fogs wsX3_possibleFogs := goodIn_r _ [13, 14, 15, 16, 17, 18, 19, 20, 21, 22, 23, 24, 25, 26, 27, 28, 29, 30, 6, 31, 32, 33, 34, 35, 36, 37, 38, 39, 40, 41, 42, 43, 44, 45, 46, 47, 48, 49, 50, 51, 52, 53, 54, 55, 56, 57, 58, 59, 60, 61, 62, 63, 64, 65, 66, 12, 67, 68, 69, 70, 71, 72, 73, 74, 75, 76, 77, 78, 79, 80, 81, 82, 83, 84, 85, 86, 87, 88, 89, 90, 91, 92, 93, 94, 95, 96, 97, 98, 99, 100, 101, 102, 103, 104, 105, 106, 128, 129, 130, 131, 132, 133, 134, 135, 136, 137, 115, 116, 117, 118, 119, 120, 121, 122, 123, 124, 125, 126, 127, 138, 139, 140, 141, 142, 143] (by decide +kernel) (by decide +kernel)
set_option maxRecDepth 20000 in
theorem gX8_fogs_X3_possibleFogs : GoodIn wsX8_fogs (wsV RX8 242 RX3 yX3_possibleFogs wsX3_possibleFogs) := goodIn_app (goodIn_of _ (by decide +kernel)) ggX8_fogs_X3_possibleFogs
theorem dX8_fogs_0 : decode cX8_fogs 0 = .ok (.aload_n 0, 1) := by decide +kernel
theorem dX8_fogs_1 : decode cX8_fogs 1 = .ok (.getfield 28, 3) := by decide +kernel
theorem dX8_fogs_4 : decode cX8_fogs 4 = .ok (.invokevirtual 160, 3) := by decide +kernel
theorem dX8_fogs_7 : decode cX8_fogs 7 = .ok (.ifCond .eq 13, 3) := by decide +kernel
theorem dX8_fogs_10 : decode cX8_fogs 10 = .ok (.aload_n 0, 1) := by decide +kernel
theorem dX8_fogs_11 : decode cX8_fogs 11 = .ok (.getfield 53, 3) := by decide +kernel
theorem dX8_fogs_14 : decode cX8_fogs 14 = .ok (.invokevirtual 242, 3) := by decide +kernel
theorem dX8_fogs_17 : decode cX8_fogs 17 = .ok (.goto 5, 3) := by decide +kernel
theorem dX8_fogs_20 : decode cX8_fogs 20 = .ok (.bipush (-3), 2) := by decide +kernel
theorem dX8_fogs_22 : decode cX8_fogs 22 = .ok (.ireturn, 1) := by decide +kernel
set_option maxRecDepth 20000 in
theorem ggX8_stood_X8_isWithin : GoodIn wsX8_stood wsX8_isWithin := goodIn_r _ [6] (by decide +kernel) (by decide +kernel)
set_option maxRecDepth 20000 in
theorem gX8_stood_X8_isWithin : GoodIn wsX8_stood (va_wsS RX8 65 yX8_isWithin wsX8_isWithin) := goodIn_app (goodIn_of _ (by decide +kernel)) ggX8_stood_X8_isWithin
set_option maxRecDepth 20000 in
theorem ggX8_stood_X2_isThere : GoodIn wsX8_stood wsX2_isThere := goodIn_r _ [11, 12, 121, 122, 123, 124, 125, 126, 127, 128, 129, 130, 131, 132, 133] (by decide +kernel) (by decide +kernel)
set_option maxRecDepth 20000 in
theorem gX8_stood_X2_isThere : GoodIn wsX8_stood (wsV RX8 160 RX2 yX2_isThere wsX2_isThere) := goodIn_app (goodIn_of _ (by decide +kernel)) ggX8_stood_X2_isThere
set_option maxRecDepth 20000 in
theorem ggX8_stood_X3_howManyStood : GoodIn wsX8_stood wsX3_howManyStood := goodIn_r _ [17, 18, 19, 20, 21, 22, 23, 24, 25, 26, 27, 28, 29, 30, 31, 32, 33, 10, 34, 35, 36, 37, 38, 39, 40, 41, 42, 43, 44, 45, 46, 47, 48, 49, 50, 51, 52, 53, 5, 54, 55, 56, 57, 58, 59, 60, 61, 62, 63, 64, 65, 66, 67, 68, 16, 69, 70, 71, 72, 73, 74, 75, 76, 77, 78, 79, 80, 81, 82, 83, 84, 85, 86, 87, 88, 89, 90, 91, 92, 93, 94, 95, 96, 97, 98, 99, 100, 101, 102, 103, 104, 105, 106, 107, 108, 134, 135, 136, 137, 138, 139, 121, 122, 123, 124, 125, 126, 127, 128, 129, 130, 131, 132, 133, 140, 141, 142, 143, 144, 145, 146, 147, 148, 149] (by decide +kernel) (by decide +kernel)
set_option maxRecDepth 20000 in
theorem gX8_stood_X3_howManyStood : GoodIn wsX8_stood (wsV RX8 245 RX3 yX3_howManyStood wsX3_howManyStood) := goodIn_app (goodIn_of _ (by decide +kernel)) ggX8_stood_X3_howManyStood
set_option maxRecDepth 20000 in
theorem ggX8_stood_X3_firstThatStood : GoodIn wsX8_stood wsX3_firstThatStood := goodIn_r _ [112, 18, 19, 20, 21, 22, 23, 24, 25, 26, 27, 28, 29, 30, 31, 32, 33, 10, 34, 35, 36, 37, 38, 39, 40, 41, 42, 43, 44, 45, 46, 47, 48, 49, 50, 51, 52, 53, 5, 54, 55, 56, 57, 58, 59, 60, 61, 62, 63, 64, 65, 66, 67, 68, 16, 69, 70, 71, 72, 73, 74, 75, 76, 77, 78, 79, 80, 81, 82, 83, 84, 85, 86, 87, 88, 89, 90, 91, 92, 93, 94, 95, 96, 97, 98, 99, 100, 101, 102, 103, 104, 105, 106, 107, 108, 134, 135, 136, 137, 138, 139, 121, 122, 123, 124, 125, 126, 127, 128, 129, 130, 131, 132, 133, 140, 141, 142, 143, 144, 145, 146, 147, 148, 149] (by decide +kernel) (by decide +kernel)
set_option maxRecDepth 20000 in
theorem gX8_stood_X3_firstThatStood : GoodIn wsX8_stood (wsV RX8 248 RX3 yX3_firstThatStood wsX3_firstThatStood) := goodIn_app (goodIn_of _ (by decide +kernel)) ggX8_stood_X3_firstThatStood
theorem dX8_stood_0 : decode cX8_stood 0 = .ok (.iload_n 1, 1) := by decide +kernel
theorem dX8_stood_1 : decode cX8_stood 1 = .ok (.iconst 0, 1) := by decide +kernel
theorem dX8_stood_2 : decode cX8_stood 2 = .ok (.iconst 1, 1) := by decide +kernel
theorem dX8_stood_3 : decode cX8_stood 3 = .ok (.invokestatic 65, 3) := by decide +kernel
theorem dX8_stood_6 : decode cX8_stood 6 = .ok (.ifCond .ne 6, 3) := by decide +kernel
theorem dX8_stood_9 : decode cX8_stood 9 = .ok (.bipush (-2), 2) := by decide +kernel
theorem dX8_stood_11 : decode cX8_stood 11 = .ok (.ireturn, 1) := by decide +kernel
theorem dX8_stood_12 : decode cX8_stood 12 = .ok (.aload_n 0, 1) := by decide +kernel
theorem dX8_stood_13 : decode cX8_stood 13 = .ok (.getfield 28, 3) := by decide +kernel
theorem dX8_stood_16 : decode cX8_stood 16 = .ok (.invokevirtual 160, 3) := by decide +kernel
theorem dX8_stood_19 : decode cX8_stood 19 = .ok (.ifCond .ne 6, 3) := by decide +kernel
theorem dX8_stood_22 : decode cX8_stood 22 = .ok (.bipush (-3), 2) := by decide +kernel
theorem dX8_stood_24 : decode cX8_stood 24 = .ok (.ireturn, 1) := by decide +kernel
theorem dX8_stood_25 : decode cX8_stood 25 = .ok (.iload_n 1, 1) := by decide +kernel
theorem dX8_stood_26 : decode cX8_stood 26 = .ok (.ifCond .ne 13, 3) := by decide +kernel
theorem dX8_stood_29 : decode cX8_stood 29 = .ok (.aload_n 0, 1) := by decide +kernel
theorem dX8_stood_30 : decode cX8_stood 30 = .ok (.getfield 53, 3) := by decide +kernel
theorem dX8_stood_33 : decode cX8_stood 33 = .ok (.invokevirtual 245, 3) := by decide +kernel
theorem dX8_stood_36 : decode cX8_stood 36 = .ok (.goto 10, 3) := by decide +kernel
theorem dX8_stood_39 : decode cX8_stood 39 = .ok (.aload_n 0, 1) := by decide +kernel
theorem dX8_stood_40 : decode cX8_stood 40 = .ok (.getfield 53, 3) := by decide +kernel
theorem dX8_stood_43 : decode cX8_stood 43 = .ok (.invokevirtual 248, 3) := by decide +kernel
theorem dX8_stood_46 : decode cX8_stood 46 = .ok (.ireturn, 1) := by decide +kernel
set_option maxRecDepth 20000 in
theorem ggX8_sheet_X8_isSheet : GoodIn wsX8_sheet wsX8_isSheet := goodIn_r _ [6, 7, 8, 5, 9] (by decide +kernel) (by decide +kernel)
set_option maxRecDepth 20000 in
theorem gX8_sheet_X8_isSheet : GoodIn wsX8_sheet (va_wsS RX8 61 yX8_isSheet wsX8_isSheet) := goodIn_app (goodIn_of _ (by decide +kernel)) ggX8_sheet_X8_isSheet
set_option maxRecDepth 20000 in
theorem ggX8_sheet_X8_isWithin : GoodIn wsX8_sheet wsX8_isWithin := goodIn_r _ [9] (by decide +kernel) (by decide +kernel)
set_option maxRecDepth 20000 in
theorem gX8_sheet_X8_isWithin : GoodIn wsX8_sheet (va_wsS RX8 65 yX8_isWithin wsX8_isWithin) := goodIn_app (goodIn_of _ (by decide +kernel)) ggX8_sheet_X8_isWithin
set_option maxRecDepth 20000 in
theorem ggX8_sheet_X8_answerFault : GoodIn wsX8_sheet wsX8_answerFault := goodIn_r _ [13, 1, 22, 23, 24, 25, 26, 27, 28, 29] (by decide +kernel) (by decide +kernel)
set_option maxRecDepth 20000 in
theorem gX8_sheet_X8_answerFault : GoodIn wsX8_sheet (wsV RX8 77 RX8 yX8_answerFault wsX8_answerFault) := goodIn_app (goodIn_of _ (by decide +kernel)) ggX8_sheet_X8_answerFault
set_option maxRecDepth 20000 in
theorem ggX8_sheet_X4_makeRow : GoodIn wsX8_sheet wsX4_makeRow := goodIn_r _ [18, 19, 20, 21, 30, 31, 32] (by decide +kernel) (by decide +kernel)
set_option maxRecDepth 20000 in
theorem gX8_sheet_X4_makeRow : GoodIn wsX8_sheet (wsV RX8 251 RX4 yX4_makeRow wsX4_makeRow) := goodIn_app (goodIn_of _ (by decide +kernel)) ggX8_sheet_X4_makeRow
theorem dX8_sheet_0 : decode cX8_sheet 0 = .ok (.aload_n 0, 1) := by decide +kernel
theorem dX8_sheet_1 : decode cX8_sheet 1 = .ok (.iconst 0, 1) := by decide +kernel
theorem dX8_sheet_2 : decode cX8_sheet 2 = .ok (.putfield 57, 3) := by decide +kernel
theorem dX8_sheet_5 : decode cX8_sheet 5 = .ok (.iload_n 1, 1) := by decide +kernel
theorem dX8_sheet_6 : decode cX8_sheet 6 = .ok (.invokestatic 61, 3) := by decide +kernel
theorem dX8_sheet_9 : decode cX8_sheet 9 = .ok (.ifCond .ne 5, 3) := by decide +kernel
theorem dX8_sheet_12 : decode cX8_sheet 12 = .ok (.iconst (-1), 1) := by decide +kernel
theorem dX8_sheet_13 : decode cX8_sheet 13 = .ok (.ireturn, 1) := by decide +kernel
theorem dX8_sheet_14 : decode cX8_sheet 14 = .ok (.iload_n 2, 1) := by decide +kernel
theorem dX8_sheet_15 : decode cX8_sheet 15 = .ok (.iconst 0, 1) := by decide +kernel
theorem dX8_sheet_16 : decode cX8_sheet 16 = .ok (.iconst 2, 1) := by decide +kernel
theorem dX8_sheet_17 : decode cX8_sheet 17 = .ok (.invokestatic 65, 3) := by decide +kernel
theorem dX8_sheet_20 : decode cX8_sheet 20 = .ok (.ifCond .eq 9, 3) := by decide +kernel
theorem dX8_sheet_23 : decode cX8_sheet 23 = .ok (.iload_n 3, 1) := by decide +kernel
theorem dX8_sheet_24 : decode cX8_sheet 24 = .ok (.bipush 100, 2) := by decide +kernel
theorem dX8_sheet_26 : decode cX8_sheet 26 = .ok (.if_icmp .le 6, 3) := by decide +kernel
theorem dX8_sheet_29 : decode cX8_sheet 29 = .ok (.bipush (-2), 2) := by decide +kernel
theorem dX8_sheet_31 : decode cX8_sheet 31 = .ok (.ireturn, 1) := by decide +kernel
theorem dX8_sheet_32 : decode cX8_sheet 32 = .ok (.iload_n 3, 1) := by decide +kernel
theorem dX8_sheet_33 : decode cX8_sheet 33 = .ok (.ifCond .ge 9, 3) := by decide +kernel
theorem dX8_sheet_36 : decode cX8_sheet 36 = .ok (.aload_n 0, 1) := by decide +kernel
theorem dX8_sheet_37 : decode cX8_sheet 37 = .ok (.iconst 4, 1) := by decide +kernel
theorem dX8_sheet_38 : decode cX8_sheet 38 = .ok (.invokevirtual 77, 3) := by decide +kernel
theorem dX8_sheet_41 : decode cX8_sheet 41 = .ok (.ireturn, 1) := by decide +kernel
theorem dX8_sheet_42 : decode cX8_sheet 42 = .ok (.aload_n 0, 1) := by decide +kernel
theorem dX8_sheet_43 : decode cX8_sheet 43 = .ok (.getfield 13, 3) := by decide +kernel
theorem dX8_sheet_46 : decode cX8_sheet 46 = .ok (.iload_n 1, 1) := by decide +kernel
theorem dX8_sheet_47 : decode cX8_sheet 47 = .ok (.aaload, 1) := by decide +kernel
theorem dX8_sheet_48 : decode cX8_sheet 48 = .ok (.iload_n 2, 1) := by decide +kernel
theorem dX8_sheet_49 : decode cX8_sheet 49 = .ok (.iload_n 3, 1) := by decide +kernel
theorem dX8_sheet_50 : decode cX8_sheet 50 = .ok (.invokevirtual 251, 3) := by decide +kernel
theorem dX8_sheet_53 : decode cX8_sheet 53 = .ok (.iconst 1, 1) := by decide +kernel
theorem dX8_sheet_54 : decode cX8_sheet 54 = .ok (.ireturn, 1) := by decide +kernel
set_option maxRecDepth 20000 in
theorem ggX8_lose_X8_isSheet : GoodIn wsX8_lose wsX8_isSheet := goodIn_r _ [5, 6, 7, 4, 8] (by decide +kernel) (by decide +kernel)
set_option maxRecDepth 20000 in
theorem gX8_lose_X8_isSheet : GoodIn wsX8_lose (va_wsS RX8 61 yX8_isSheet wsX8_isSheet) := goodIn_app (goodIn_of _ (by decide +kernel)) ggX8_lose_X8_isSheet
set_option maxRecDepth 20000 in
theorem ggX8_lose_X4_hasRow : GoodIn wsX8_lose wsX4_hasRow := goodIn_r _ [13, 14, 27, 28, 29] (by decide +kernel) (by decide +kernel)
set_option maxRecDepth 20000 in
theorem gX8_lose_X4_hasRow : GoodIn wsX8_lose (wsV RX8 255 RX4 yX4_hasRow wsX4_hasRow) := goodIn_app (goodIn_of _ (by decide +kernel)) ggX8_lose_X4_hasRow
set_option maxRecDepth 20000 in
theorem ggX8_lose_X4_dropRow : GoodIn wsX8_lose wsX4_dropRow := goodIn_r _ [18, 14, 27, 28, 29] (by decide +kernel) (by decide +kernel)
set_option maxRecDepth 20000 in
theorem gX8_lose_X4_dropRow : GoodIn wsX8_lose (wsV RX8 258 RX4 yX4_dropRow wsX4_dropRow) := goodIn_app (goodIn_of _ (by decide +kernel)) ggX8_lose_X4_dropRow
theorem dX8_lose_0 : decode cX8_lose 0 = .ok (.iload_n 1, 1) := by decide +kernel
theorem dX8_lose_1 : decode cX8_lose 1 = .ok (.invokestatic 61, 3) := by decide +kernel
theorem dX8_lose_4 : decode cX8_lose 4 = .ok (.ifCond .ne 5, 3) := by decide +kernel
theorem dX8_lose_7 : decode cX8_lose 7 = .ok (.iconst (-1), 1) := by decide +kernel
theorem dX8_lose_8 : decode cX8_lose 8 = .ok (.ireturn, 1) := by decide +kernel
theorem dX8_lose_9 : decode cX8_lose 9 = .ok (.aload_n 0, 1) := by decide +kernel
theorem dX8_lose_10 : decode cX8_lose 10 = .ok (.getfield 13, 3) := by decide +kernel
theorem dX8_lose_13 : decode cX8_lose 13 = .ok (.iload_n 1, 1) := by decide +kernel
theorem dX8_lose_14 : decode cX8_lose 14 = .ok (.aaload, 1) := by decide +kernel
theorem dX8_lose_15 : decode cX8_lose 15 = .ok (.invokevirtual 255, 3) := by decide +kernel
theorem dX8_lose_18 : decode cX8_lose 18 = .ok (.ifCond .ne 5, 3) := by decide +kernel
theorem dX8_lose_21 : decode cX8_lose 21 = .ok (.iconst 0, 1) := by decide +kernel
theorem dX8_lose_22 : decode cX8_lose 22 = .ok (.ireturn, 1) := by decide +kernel
theorem dX8_lose_23 : decode cX8_lose 23 = .ok (.aload_n 0, 1) := by decide +kernel
theorem dX8_lose_24 : decode cX8_lose 24 = .ok (.getfield 13, 3) := by decide +kernel
theorem dX8_lose_27 : decode cX8_lose 27 = .ok (.iload_n 1, 1) := by decide +kernel
theorem dX8_lose_28 : decode cX8_lose 28 = .ok (.aaload, 1) := by decide +kernel
theorem dX8_lose_29 : decode cX8_lose 29 = .ok (.invokevirtual 258, 3) := by decide +kernel
theorem dX8_lose_32 : decode cX8_lose 32 = .ok (.iconst 1, 1) := by decide +kernel
theorem dX8_lose_33 : decode cX8_lose 33 = .ok (.ireturn, 1) := by decide +kernel
set_option maxRecDepth 20000 in
theorem ggX8_put_X8_isSheet : GoodIn wsX8_put wsX8_isSheet := goodIn_r _ [6, 7, 8, 5, 9] (by decide +kernel) (by decide +kernel)
set_option maxRecDepth 20000 in
theorem gX8_put_X8_isSheet : GoodIn wsX8_put (va_wsS RX8 61 yX8_isSheet wsX8_isSheet) := goodIn_app (goodIn_of _ (by decide +kernel)) ggX8_put_X8_isSheet
set_option maxRecDepth 20000 in
theorem ggX8_put_X4_hasRow : GoodIn wsX8_put wsX4_hasRow := goodIn_r _ [14, 15, 38, 39, 40] (by decide +kernel) (by decide +kernel)
set_option maxRecDepth 20000 in
theorem gX8_put_X4_hasRow : GoodIn wsX8_put (wsV RX8 255 RX4 yX4_hasRow wsX4_hasRow) := goodIn_app (goodIn_of _ (by decide +kernel)) ggX8_put_X4_hasRow
set_option maxRecDepth 20000 in
theorem ggX8_put_X8_answerFault : GoodIn wsX8_put wsX8_answerFault := goodIn_r _ [19, 1, 30, 31, 32, 33, 34, 35, 36, 37] (by decide +kernel) (by decide +kernel)
set_option maxRecDepth 20000 in
theorem gX8_put_X8_answerFault : GoodIn wsX8_put (wsV RX8 77 RX8 yX8_answerFault wsX8_answerFault) := goodIn_app (goodIn_of _ (by decide +kernel)) ggX8_put_X8_answerFault
set_option maxRecDepth 20000 in
theorem ggX8_put_X4_holds : GoodIn wsX8_put wsX4_holds := goodIn_r _ [23, 15, 38, 39, 40] (by decide +kernel) (by decide +kernel)
set_option maxRecDepth 20000 in
theorem gX8_put_X4_holds : GoodIn wsX8_put (wsV RX8 261 RX4 yX4_holds wsX4_holds) := goodIn_app (goodIn_of _ (by decide +kernel)) ggX8_put_X4_holds
set_option maxRecDepth 20000 in
theorem ggX8_put_X4_write : GoodIn wsX8_put wsX4_write := goodIn_r _ [27, 28, 29, 38, 39, 40] (by decide +kernel) (by decide +kernel)
set_option maxRecDepth 20000 in
theorem gX8_put_X4_write : GoodIn wsX8_put (wsV RX8 264 RX4 yX4_write wsX4_write) := goodIn_app (goodIn_of _ (by decide +kernel)) ggX8_put_X4_write
theorem dX8_put_0 : decode cX8_put 0 = .ok (.aload_n 0, 1) := by decide +kernel
theorem dX8_put_1 : decode cX8_put 1 = .ok (.iconst 0, 1) := by decide +kernel
theorem dX8_put_2 : decode cX8_put 2 = .ok (.putfield 57, 3) := by decide +kernel
theorem dX8_put_5 : decode cX8_put 5 = .ok (.iload_n 1, 1) := by decide +kernel
theorem dX8_put_6 : decode cX8_put 6 = .ok (.invokestatic 61, 3) := by decide +kernel
theorem dX8_put_9 : decode cX8_put 9 = .ok (.ifCond .ne 5, 3) := by decide +kernel
theorem dX8_put_12 : decode cX8_put 12 = .ok (.iconst (-1), 1) := by decide +kernel
theorem dX8_put_13 : decode cX8_put 13 = .ok (.ireturn, 1) := by decide +kernel
theorem dX8_put_14 : decode cX8_put 14 = .ok (.aload_n 0, 1) := by decide +kernel
theorem dX8_put_15 : decode cX8_put 15 = .ok (.getfield 13, 3) := by decide +kernel
theorem dX8_put_18 : decode cX8_put 18 = .ok (.iload_n 1, 1) := by decide +kernel
theorem dX8_put_19 : decode cX8_put 19 = .ok (.aaload, 1) := by decide +kernel
theorem dX8_put_20 : decode cX8_put 20 = .ok (.astore 4, 2) := by decide +kernel
theorem dX8_put_22 : decode cX8_put 22 = .ok (.aload 4, 2) := by decide +kernel
theorem dX8_put_24 : decode cX8_put 24 = .ok (.invokevirtual 255, 3) := by decide +kernel
theorem dX8_put_27 : decode cX8_put 27 = .ok (.ifCond .ne 9, 3) := by decide +kernel
theorem dX8_put_30 : decode cX8_put 30 = .ok (.aload_n 0, 1) := by decide +kernel
theorem dX8_put_31 : decode cX8_put 31 = .ok (.iconst 1, 1) := by decide +kernel
theorem dX8_put_32 : decode cX8_put 32 = .ok (.invokevirtual 77, 3) := by decide +kernel
theorem dX8_put_35 : decode cX8_put 35 = .ok (.ireturn, 1) := by decide +kernel
theorem dX8_put_36 : decode cX8_put 36 = .ok (.aload 4, 2) := by decide +kernel
theorem dX8_put_38 : decode cX8_put 38 = .ok (.iload_n 2, 1) := by decide +kernel
theorem dX8_put_39 : decode cX8_put 39 = .ok (.invokevirtual 261, 3) := by decide +kernel
theorem dX8_put_42 : decode cX8_put 42 = .ok (.ifCond .ne 9, 3) := by decide +kernel
theorem dX8_put_45 : decode cX8_put 45 = .ok (.aload_n 0, 1) := by decide +kernel
theorem dX8_put_46 : decode cX8_put 46 = .ok (.iconst 3, 1) := by decide +kernel
theorem dX8_put_47 : decode cX8_put 47 = .ok (.invokevirtual 77, 3) := by decide +kernel
theorem dX8_put_50 : decode cX8_put 50 = .ok (.ireturn, 1) := by decide +kernel
theorem dX8_put_51 : decode cX8_put 51 = .ok (.aload 4, 2) := by decide +kernel
theorem dX8_put_53 : decode cX8_put 53 = .ok (.iload_n 2, 1) := by decide +kernel
theorem dX8_put_54 : decode cX8_put 54 = .ok (.iload_n 3, 1) := by decide +kernel
theorem dX8_put_55 : decode cX8_put 55 = .ok (.invokevirtual 264, 3) := by decide +kernel
theorem dX8_put_58 : decode cX8_put 58 = .ok (.iconst 1, 1) := by decide +kernel
theorem dX8_put_59 : decode cX8_put 59 = .ok (.ireturn, 1) := by decide +kernel
set_option maxRecDepth 20000 in
theorem ggX8_cell_X8_isSheet : GoodIn wsX8_cell wsX8_isSheet := goodIn_r _ [8, 9, 10, 7, 11] (by decide +kernel) (by decide +kernel)
set_option maxRecDepth 20000 in
theorem gX8_cell_X8_isSheet : GoodIn wsX8_cell (va_wsS RX8 61 yX8_isSheet wsX8_isSheet) := goodIn_app (goodIn_of _ (by decide +kernel)) ggX8_cell_X8_isSheet
set_option maxRecDepth 20000 in
theorem ggX8_cell_X8_isWithin : GoodIn wsX8_cell wsX8_isWithin := goodIn_r _ [11] (by decide +kernel) (by decide +kernel)
set_option maxRecDepth 20000 in
theorem gX8_cell_X8_isWithin : GoodIn wsX8_cell (va_wsS RX8 65 yX8_isWithin wsX8_isWithin) := goodIn_app (goodIn_of _ (by decide +kernel)) ggX8_cell_X8_isWithin
set_option maxRecDepth 20000 in
theorem ggX8_cell_X4_faultAs : GoodIn wsX8_cell wsX4_faultAs := goodIn_r _ [16, 17, 18, 19, 20, 15, 21, 22, 35, 36, 37] (by decide +kernel) (by decide +kernel)
set_option maxRecDepth 20000 in
theorem gX8_cell_X4_faultAs : GoodIn wsX8_cell (wsV RX8 69 RX4 yX4_faultAs wsX4_faultAs) := goodIn_app (goodIn_of _ (by decide +kernel)) ggX8_cell_X4_faultAs
set_option maxRecDepth 20000 in
theorem ggX8_cell_X4_holds : GoodIn wsX8_cell wsX4_holds := goodIn_r _ [26, 22, 35, 36, 37] (by decide +kernel) (by decide +kernel)
set_option maxRecDepth 20000 in
theorem gX8_cell_X4_holds : GoodIn wsX8_cell (wsV RX8 261 RX4 yX4_holds wsX4_holds) := goodIn_app (goodIn_of _ (by decide +kernel)) ggX8_cell_X4_holds
theorem dX8_cell_0 : decode cX8_cell 0 = .ok (.aload_n 0, 1) := by decide +kernel
theorem dX8_cell_1 : decode cX8_cell 1 = .ok (.iconst 0, 1) := by decide +kernel
theorem dX8_cell_2 : decode cX8_cell 2 = .ok (.putfield 57, 3) := by decide +kernel
theorem dX8_cell_5 : decode cX8_cell 5 = .ok (.iload_n 1, 1) := by decide +kernel
theorem dX8_cell_6 : decode cX8_cell 6 = .ok (.invokestatic 61, 3) := by decide +kernel
theorem dX8_cell_9 : decode cX8_cell 9 = .ok (.ifCond .eq 12, 3) := by decide +kernel
theorem dX8_cell_12 : decode cX8_cell 12 = .ok (.iload_n 3, 1) := by decide +kernel
theorem dX8_cell_13 : decode cX8_cell 13 = .ok (.iconst 0, 1) := by decide +kernel
theorem dX8_cell_14 : decode cX8_cell 14 = .ok (.iconst 2, 1) := by decide +kernel
theorem dX8_cell_15 : decode cX8_cell 15 = .ok (.invokestatic 65, 3) := by decide +kernel
theorem dX8_cell_18 : decode cX8_cell 18 = .ok (.ifCond .ne 7, 3) := by decide +kernel
theorem dX8_cell_21 : decode cX8_cell 21 = .ok (.ldc2_w 196, 3) := by decide +kernel
theorem dX8_cell_24 : decode cX8_cell 24 = .ok (.lreturn, 1) := by decide +kernel
theorem dX8_cell_25 : decode cX8_cell 25 = .ok (.aload_n 0, 1) := by decide +kernel
theorem dX8_cell_26 : decode cX8_cell 26 = .ok (.getfield 13, 3) := by decide +kernel
theorem dX8_cell_29 : decode cX8_cell 29 = .ok (.iload_n 1, 1) := by decide +kernel
theorem dX8_cell_30 : decode cX8_cell 30 = .ok (.aaload, 1) := by decide +kernel
theorem dX8_cell_31 : decode cX8_cell 31 = .ok (.astore 4, 2) := by decide +kernel
theorem dX8_cell_33 : decode cX8_cell 33 = .ok (.aload_n 0, 1) := by decide +kernel
theorem dX8_cell_34 : decode cX8_cell 34 = .ok (.aload 4, 2) := by decide +kernel
theorem dX8_cell_36 : decode cX8_cell 36 = .ok (.iload_n 3, 1) := by decide +kernel
theorem dX8_cell_37 : decode cX8_cell 37 = .ok (.invokevirtual 69, 3) := by decide +kernel
theorem dX8_cell_40 : decode cX8_cell 40 = .ok (.putfield 57, 3) := by decide +kernel
theorem dX8_cell_43 : decode cX8_cell 43 = .ok (.aload_n 0, 1) := by decide +kernel
theorem dX8_cell_44 : decode cX8_cell 44 = .ok (.getfield 57, 3) := by decide +kernel
theorem dX8_cell_47 : decode cX8_cell 47 = .ok (.ifCond .ne 17, 3) := by decide +kernel
theorem dX8_cell_50 : decode cX8_cell 50 = .ok (.aload 4, 2) := by decide +kernel
theorem dX8_cell_52 : decode cX8_cell 52 = .ok (.iload_n 2, 1) := by decide +kernel
theorem dX8_cell_53 : decode cX8_cell 53 = .ok (.invokevirtual 261, 3) := by decide +kernel
theorem dX8_cell_56 : decode cX8_cell 56 = .ok (.ifCond .ne 8, 3) := by decide +kernel
theorem dX8_cell_59 : decode cX8_cell 59 = .ok (.aload_n 0, 1) := by decide +kernel
theorem dX8_cell_60 : decode cX8_cell 60 = .ok (.iconst 3, 1) := by decide +kernel
theorem dX8_cell_61 : decode cX8_cell 61 = .ok (.putfield 57, 3) := by decide +kernel
theorem dX8_cell_64 : decode cX8_cell 64 = .ok (.aload_n 0, 1) := by decide +kernel
theorem dX8_cell_65 : decode cX8_cell 65 = .ok (.getfield 57, 3) := by decide +kernel
theorem dX8_cell_68 : decode cX8_cell 68 = .ok (.ifCond .ne 14, 3) := by decide +kernel
theorem dX8_cell_71 : decode cX8_cell 71 = .ok (.aload 4, 2) := by decide +kernel
theorem dX8_cell_73 : decode cX8_cell 73 = .ok (.getfield 267, 3) := by decide +kernel
theorem dX8_cell_76 : decode cX8_cell 76 = .ok (.iload_n 2, 1) := by decide +kernel
theorem dX8_cell_77 : decode cX8_cell 77 = .ok (.iaload, 1) := by decide +kernel
theorem dX8_cell_78 : decode cX8_cell 78 = .ok (.i2l, 1) := by decide +kernel
theorem dX8_cell_79 : decode cX8_cell 79 = .ok (.goto 6, 3) := by decide +kernel
theorem dX8_cell_82 : decode cX8_cell 82 = .ok (.ldc2_w 196, 3) := by decide +kernel
theorem dX8_cell_85 : decode cX8_cell 85 = .ok (.lreturn, 1) := by decide +kernel
set_option maxRecDepth 20000 in
theorem ggX8_copy_X8_isSheet : GoodIn wsX8_copy wsX8_isSheet := goodIn_r _ [12, 13, 14, 11, 15] (by decide +kernel) (by decide +kernel)
set_option maxRecDepth 20000 in
theorem gX8_copy_X8_isSheet : GoodIn wsX8_copy (va_wsS RX8 61 yX8_isSheet wsX8_isSheet) := goodIn_app (goodIn_of _ (by decide +kernel)) ggX8_copy_X8_isSheet
set_option maxRecDepth 20000 in
theorem ggX8_copy_X4_hasRow : GoodIn wsX8_copy wsX4_hasRow := goodIn_r _ [20, 21, 38, 39, 40] (by decide +kernel) (by decide +kernel)
set_option maxRecDepth 20000 in
theorem gX8_copy_X4_hasRow : GoodIn wsX8_copy (wsV RX8 255 RX4 yX4_hasRow wsX4_hasRow) := goodIn_app (goodIn_of _ (by decide +kernel)) ggX8_copy_X4_hasRow
set_option maxRecDepth 20000 in
theorem ggX8_copy_X8_answerFault : GoodIn wsX8_copy wsX8_answerFault := goodIn_r _ [25, 1, 30, 31, 32, 33, 34, 35, 36, 37] (by decide +kernel) (by decide +kernel)
set_option maxRecDepth 20000 in
theorem gX8_copy_X8_answerFault : GoodIn wsX8_copy (wsV RX8 77 RX8 yX8_answerFault wsX8_answerFault) := goodIn_app (goodIn_of _ (by decide +kernel)) ggX8_copy_X8_answerFault
set_option maxRecDepth 20000 in
theorem ggX8_copy_X4_holdsRun : GoodIn wsX8_copy wsX4_holdsRun := goodIn_r _ [29, 21, 38, 39, 40] (by decide +kernel) (by decide +kernel)
set_option maxRecDepth 20000 in
theorem gX8_copy_X4_holdsRun : GoodIn wsX8_copy (wsV RX8 73 RX4 yX4_holdsRun wsX4_holdsRun) := goodIn_app (goodIn_of _ (by decide +kernel)) ggX8_copy_X4_holdsRun
theorem dX8_copy_0 : decode cX8_copy 0 = .ok (.aload_n 0, 1) := by decide +kernel
theorem dX8_copy_1 : decode cX8_copy 1 = .ok (.iconst 0, 1) := by decide +kernel
theorem dX8_copy_2 : decode cX8_copy 2 = .ok (.putfield 57, 3) := by decide +kernel
theorem dX8_copy_5 : decode cX8_copy 5 = .ok (.iload_n 1, 1) := by decide +kernel
theorem dX8_copy_6 : decode cX8_copy 6 = .ok (.invokestatic 61, 3) := by decide +kernel
theorem dX8_copy_9 : decode cX8_copy 9 = .ok (.ifCond .eq 10, 3) := by decide +kernel
theorem dX8_copy_12 : decode cX8_copy 12 = .ok (.iload_n 3, 1) := by decide +kernel
theorem dX8_copy_13 : decode cX8_copy 13 = .ok (.invokestatic 61, 3) := by decide +kernel
theorem dX8_copy_16 : decode cX8_copy 16 = .ok (.ifCond .ne 5, 3) := by decide +kernel
theorem dX8_copy_19 : decode cX8_copy 19 = .ok (.iconst (-1), 1) := by decide +kernel
theorem dX8_copy_20 : decode cX8_copy 20 = .ok (.ireturn, 1) := by decide +kernel
theorem dX8_copy_21 : decode cX8_copy 21 = .ok (.aload_n 0, 1) := by decide +kernel
theorem dX8_copy_22 : decode cX8_copy 22 = .ok (.getfield 13, 3) := by decide +kernel
theorem dX8_copy_25 : decode cX8_copy 25 = .ok (.iload_n 1, 1) := by decide +kernel
theorem dX8_copy_26 : decode cX8_copy 26 = .ok (.aaload, 1) := by decide +kernel
theorem dX8_copy_27 : decode cX8_copy 27 = .ok (.astore 6, 2) := by decide +kernel
theorem dX8_copy_29 : decode cX8_copy 29 = .ok (.aload_n 0, 1) := by decide +kernel
theorem dX8_copy_30 : decode cX8_copy 30 = .ok (.getfield 13, 3) := by decide +kernel
theorem dX8_copy_33 : decode cX8_copy 33 = .ok (.iload_n 3, 1) := by decide +kernel
theorem dX8_copy_34 : decode cX8_copy 34 = .ok (.aaload, 1) := by decide +kernel
theorem dX8_copy_35 : decode cX8_copy 35 = .ok (.astore 7, 2) := by decide +kernel
theorem dX8_copy_37 : decode cX8_copy 37 = .ok (.aload 6, 2) := by decide +kernel
theorem dX8_copy_39 : decode cX8_copy 39 = .ok (.invokevirtual 255, 3) := by decide +kernel
theorem dX8_copy_42 : decode cX8_copy 42 = .ok (.ifCond .eq 11, 3) := by decide +kernel
theorem dX8_copy_45 : decode cX8_copy 45 = .ok (.aload 7, 2) := by decide +kernel
theorem dX8_copy_47 : decode cX8_copy 47 = .ok (.invokevirtual 255, 3) := by decide +kernel
theorem dX8_copy_50 : decode cX8_copy 50 = .ok (.ifCond .ne 9, 3) := by decide +kernel
theorem dX8_copy_53 : decode cX8_copy 53 = .ok (.aload_n 0, 1) := by decide +kernel
theorem dX8_copy_54 : decode cX8_copy 54 = .ok (.iconst 1, 1) := by decide +kernel
theorem dX8_copy_55 : decode cX8_copy 55 = .ok (.invokevirtual 77, 3) := by decide +kernel
theorem dX8_copy_58 : decode cX8_copy 58 = .ok (.ireturn, 1) := by decide +kernel
theorem dX8_copy_59 : decode cX8_copy 59 = .ok (.aload 6, 2) := by decide +kernel
theorem dX8_copy_61 : decode cX8_copy 61 = .ok (.getfield 269, 3) := by decide +kernel
theorem dX8_copy_64 : decode cX8_copy 64 = .ok (.aload 7, 2) := by decide +kernel
theorem dX8_copy_66 : decode cX8_copy 66 = .ok (.getfield 269, 3) := by decide +kernel
theorem dX8_copy_69 : decode cX8_copy 69 = .ok (.if_icmp .eq 9, 3) := by decide +kernel
theorem dX8_copy_72 : decode cX8_copy 72 = .ok (.aload_n 0, 1) := by decide +kernel
theorem dX8_copy_73 : decode cX8_copy 73 = .ok (.iconst 2, 1) := by decide +kernel
theorem dX8_copy_74 : decode cX8_copy 74 = .ok (.invokevirtual 77, 3) := by decide +kernel
theorem dX8_copy_77 : decode cX8_copy 77 = .ok (.ireturn, 1) := by decide +kernel
theorem dX8_copy_78 : decode cX8_copy 78 = .ok (.aload 6, 2) := by decide +kernel
theorem dX8_copy_80 : decode cX8_copy 80 = .ok (.iload_n 2, 1) := by decide +kernel
theorem dX8_copy_81 : decode cX8_copy 81 = .ok (.iload 5, 2) := by decide +kernel
theorem dX8_copy_83 : decode cX8_copy 83 = .ok (.invokevirtual 73, 3) := by decide +kernel
theorem dX8_copy_86 : decode cX8_copy 86 = .ok (.ifCond .eq 15, 3) := by decide +kernel
theorem dX8_copy_89 : decode cX8_copy 89 = .ok (.aload 7, 2) := by decide +kernel
theorem dX8_copy_91 : decode cX8_copy 91 = .ok (.iload 4, 2) := by decide +kernel
theorem dX8_copy_93 : decode cX8_copy 93 = .ok (.iload 5, 2) := by decide +kernel
theorem dX8_copy_95 : decode cX8_copy 95 = .ok (.invokevirtual 73, 3) := by decide +kernel
theorem dX8_copy_98 : decode cX8_copy 98 = .ok (.ifCond .ne 9, 3) := by decide +kernel
theorem dX8_copy_101 : decode cX8_copy 101 = .ok (.aload_n 0, 1) := by decide +kernel
theorem dX8_copy_102 : decode cX8_copy 102 = .ok (.iconst 3, 1) := by decide +kernel
theorem dX8_copy_103 : decode cX8_copy 103 = .ok (.invokevirtual 77, 3) := by decide +kernel
theorem dX8_copy_106 : decode cX8_copy 106 = .ok (.ireturn, 1) := by decide +kernel
theorem dX8_copy_107 : decode cX8_copy 107 = .ok (.aload 6, 2) := by decide +kernel
theorem dX8_copy_109 : decode cX8_copy 109 = .ok (.getfield 267, 3) := by decide +kernel
theorem dX8_copy_112 : decode cX8_copy 112 = .ok (.iload_n 2, 1) := by decide +kernel
theorem dX8_copy_113 : decode cX8_copy 113 = .ok (.aload 7, 2) := by decide +kernel
theorem dX8_copy_115 : decode cX8_copy 115 = .ok (.getfield 267, 3) := by decide +kernel
theorem dX8_copy_118 : decode cX8_copy 118 = .ok (.iload 4, 2) := by decide +kernel
theorem dX8_copy_120 : decode cX8_copy 120 = .ok (.iload 5, 2) := by decide +kernel
theorem dX8_copy_122 : decode cX8_copy 122 = .ok (.invokestatic 272, 3) := by decide +kernel
theorem dX8_copy_125 : decode cX8_copy 125 = .ok (.iload 5, 2) := by decide +kernel
theorem dX8_copy_127 : decode cX8_copy 127 = .ok (.ireturn, 1) := by decide +kernel
set_option maxRecDepth 20000 in
theorem ggX8_tell_X2_hasHouse : GoodIn wsX8_tell wsX2_hasHouse := goodIn_r _ [8, 9, 10, 11, 12, 39, 40, 41, 42, 43, 44, 45, 46, 47, 48, 49, 50, 51] (by decide +kernel) (by decide +kernel)
set_option maxRecDepth 20000 in
theorem gX8_tell_X2_hasHouse : GoodIn wsX8_tell (wsV RX8 110 RX2 yX2_hasHouse wsX2_hasHouse) := goodIn_app (goodIn_of _ (by decide +kernel)) ggX8_tell_X2_hasHouse
set_option maxRecDepth 20000 in
theorem ggX8_tell_X8_towerTells : GoodIn wsX8_tell wsX8_towerTells := goodIn_r _ [16, 17, 18, 19, 11, 20, 21, 22, 23, 24, 25, 26, 27, 28, 29, 30, 31, 32, 33, 34, 35, 36, 37, 38, 52, 53, 54, 55] (by decide +kernel) (by decide +kernel)
set_option maxRecDepth 20000 in
theorem gX8_tell_X8_towerTells : GoodIn wsX8_tell (wsV RX8 278 RX8 yX8_towerTells wsX8_towerTells) := goodIn_app (goodIn_of _ (by decide +kernel)) ggX8_tell_X8_towerTells
set_option maxRecDepth 20000 in
theorem ggX8_tell_X8_chimneyTells : GoodIn wsX8_tell wsX8_chimneyTells := goodIn_r _ [25, 17, 18, 19, 11, 20, 21, 26, 27, 28, 29, 30, 31, 32, 33, 34, 35, 36, 37, 38, 52, 53, 54, 55] (by decide +kernel) (by decide +kernel)
set_option maxRecDepth 20000 in
theorem gX8_tell_X8_chimneyTells : GoodIn wsX8_tell (wsV RX8 282 RX8 yX8_chimneyTells wsX8_chimneyTells) := goodIn_app (goodIn_of _ (by decide +kernel)) ggX8_tell_X8_chimneyTells
set_option maxRecDepth 20000 in
theorem ggX8_tell_X8_houseTells : GoodIn wsX8_tell wsX8_houseTells := goodIn_r _ [29, 30, 17, 18, 19, 11, 20, 21, 52, 53, 54, 55, 31, 32, 33, 34, 35, 36, 37, 38] (by decide +kernel) (by decide +kernel)
set_option maxRecDepth 20000 in
theorem gX8_tell_X8_houseTells : GoodIn wsX8_tell (wsV RX8 285 RX8 yX8_houseTells wsX8_houseTells) := goodIn_app (goodIn_of _ (by decide +kernel)) ggX8_tell_X8_houseTells
theorem dX8_tell_0 : decode cX8_tell 0 = .ok (.aload_n 0, 1) := by decide +kernel
theorem dX8_tell_1 : decode cX8_tell 1 = .ok (.getfield 28, 3) := by decide +kernel
theorem dX8_tell_4 : decode cX8_tell 4 = .ok (.iload_n 1, 1) := by decide +kernel
theorem dX8_tell_5 : decode cX8_tell 5 = .ok (.invokevirtual 110, 3) := by decide +kernel
theorem dX8_tell_8 : decode cX8_tell 8 = .ok (.ifCond .ne 5, 3) := by decide +kernel
theorem dX8_tell_11 : decode cX8_tell 11 = .ok (.iconst (-1), 1) := by decide +kernel
theorem dX8_tell_12 : decode cX8_tell 12 = .ok (.ireturn, 1) := by decide +kernel
theorem dX8_tell_13 : decode cX8_tell 13 = .ok (.aload_n 0, 1) := by decide +kernel
theorem dX8_tell_14 : decode cX8_tell 14 = .ok (.getfield 28, 3) := by decide +kernel
theorem dX8_tell_17 : decode cX8_tell 17 = .ok (.getfield 113, 3) := by decide +kernel
theorem dX8_tell_20 : decode cX8_tell 20 = .ok (.iload_n 1, 1) := by decide +kernel
theorem dX8_tell_21 : decode cX8_tell 21 = .ok (.aaload, 1) := by decide +kernel
theorem dX8_tell_22 : decode cX8_tell 22 = .ok (.astore_n 2, 1) := by decide +kernel
theorem dX8_tell_23 : decode cX8_tell 23 = .ok (.aload_n 2, 1) := by decide +kernel
theorem dX8_tell_24 : decode cX8_tell 24 = .ok (.getfield 117, 3) := by decide +kernel
theorem dX8_tell_27 : decode cX8_tell 27 = .ok (.lookupswitch 37 #[(1, 31), (2, 25)], 25) := by decide +kernel
theorem dX8_tell_52 : decode cX8_tell 52 = .ok (.aload_n 0, 1) := by decide +kernel
theorem dX8_tell_53 : decode cX8_tell 53 = .ok (.aload_n 2, 1) := by decide +kernel
theorem dX8_tell_54 : decode cX8_tell 54 = .ok (.invokevirtual 278, 3) := by decide +kernel
theorem dX8_tell_57 : decode cX8_tell 57 = .ok (.ireturn, 1) := by decide +kernel
theorem dX8_tell_58 : decode cX8_tell 58 = .ok (.aload_n 0, 1) := by decide +kernel
theorem dX8_tell_59 : decode cX8_tell 59 = .ok (.aload_n 2, 1) := by decide +kernel
theorem dX8_tell_60 : decode cX8_tell 60 = .ok (.invokevirtual 282, 3) := by decide +kernel
theorem dX8_tell_63 : decode cX8_tell 63 = .ok (.ireturn, 1) := by decide +kernel
theorem dX8_tell_64 : decode cX8_tell 64 = .ok (.aload_n 0, 1) := by decide +kernel
theorem dX8_tell_65 : decode cX8_tell 65 = .ok (.aload_n 2, 1) := by decide +kernel
theorem dX8_tell_66 : decode cX8_tell 66 = .ok (.invokevirtual 285, 3) := by decide +kernel
theorem dX8_tell_69 : decode cX8_tell 69 = .ok (.ireturn, 1) := by decide +kernel
set_option maxRecDepth 20000 in
theorem ggX8_rent_X2_hasHouse : GoodIn wsX8_rent wsX2_hasHouse := goodIn_r _ [8, 9, 10, 11, 12, 26, 27, 28, 29, 30, 31, 32, 33, 34, 35, 36, 37, 38] (by decide +kernel) (by decide +kernel)
set_option maxRecDepth 20000 in
theorem gX8_rent_X2_hasHouse : GoodIn wsX8_rent (wsV RX8 110 RX2 yX2_hasHouse wsX2_hasHouse) := goodIn_app (goodIn_of _ (by decide +kernel)) ggX8_rent_X2_hasHouse
set_option maxRecDepth 20000 in
theorem ggX8_rent_X8_leaveTrace : GoodIn wsX8_rent wsX8_leaveTrace := goodIn_r _ [16, 17, 18, 19, 20, 21, 22, 23, 24, 25] (by decide +kernel) (by decide +kernel)
set_option maxRecDepth 20000 in
theorem gX8_rent_X8_leaveTrace : GoodIn wsX8_rent (wsV RX8 288 RX8 yX8_leaveTrace wsX8_leaveTrace) := goodIn_app (goodIn_of _ (by decide +kernel)) ggX8_rent_X8_leaveTrace
theorem dX8_rent_0 : decode cX8_rent 0 = .ok (.aload_n 0, 1) := by decide +kernel
theorem dX8_rent_1 : decode cX8_rent 1 = .ok (.getfield 28, 3) := by decide +kernel
theorem dX8_rent_4 : decode cX8_rent 4 = .ok (.iload_n 1, 1) := by decide +kernel
theorem dX8_rent_5 : decode cX8_rent 5 = .ok (.invokevirtual 110, 3) := by decide +kernel
theorem dX8_rent_8 : decode cX8_rent 8 = .ok (.ifCond .ne 5, 3) := by decide +kernel
theorem dX8_rent_11 : decode cX8_rent 11 = .ok (.iconst (-1), 1) := by decide +kernel
theorem dX8_rent_12 : decode cX8_rent 12 = .ok (.ireturn, 1) := by decide +kernel
theorem dX8_rent_13 : decode cX8_rent 13 = .ok (.aload_n 0, 1) := by decide +kernel
theorem dX8_rent_14 : decode cX8_rent 14 = .ok (.getfield 28, 3) := by decide +kernel
theorem dX8_rent_17 : decode cX8_rent 17 = .ok (.getfield 113, 3) := by decide +kernel
theorem dX8_rent_20 : decode cX8_rent 20 = .ok (.iload_n 1, 1) := by decide +kernel
theorem dX8_rent_21 : decode cX8_rent 21 = .ok (.aaload, 1) := by decide +kernel
theorem dX8_rent_22 : decode cX8_rent 22 = .ok (.getfield 117, 3) := by decide +kernel
theorem dX8_rent_25 : decode cX8_rent 25 = .ok (.iconst 2, 1) := by decide +kernel
theorem dX8_rent_26 : decode cX8_rent 26 = .ok (.if_icmp .ne 11, 3) := by decide +kernel
theorem dX8_rent_29 : decode cX8_rent 29 = .ok (.aload_n 0, 1) := by decide +kernel
theorem dX8_rent_30 : decode cX8_rent 30 = .ok (.iconst 5, 1) := by decide +kernel
theorem dX8_rent_31 : decode cX8_rent 31 = .ok (.invokevirtual 288, 3) := by decide +kernel
theorem dX8_rent_34 : decode cX8_rent 34 = .ok (.bipush 70, 2) := by decide +kernel
theorem dX8_rent_36 : decode cX8_rent 36 = .ok (.ireturn, 1) := by decide +kernel
theorem dX8_rent_37 : decode cX8_rent 37 = .ok (.aload_n 0, 1) := by decide +kernel
theorem dX8_rent_38 : decode cX8_rent 38 = .ok (.iconst 4, 1) := by decide +kernel
theorem dX8_rent_39 : decode cX8_rent 39 = .ok (.invokevirtual 288, 3) := by decide +kernel
theorem dX8_rent_42 : decode cX8_rent 42 = .ok (.iload_n 1, 1) := by decide +kernel
theorem dX8_rent_43 : decode cX8_rent 43 = .ok (.ireturn, 1) := by decide +kernel
set_option maxRecDepth 20000 in
theorem ggX8_as_X2_hasHouse : GoodIn wsX8_as wsX2_hasHouse := goodIn_r _ [8, 9, 10, 11, 12, 32, 33, 34, 35, 36, 37, 38, 39, 40, 41, 42, 43, 44] (by decide +kernel) (by decide +kernel)
set_option maxRecDepth 20000 in
theorem gX8_as_X2_hasHouse : GoodIn wsX8_as (wsV RX8 110 RX2 yX2_hasHouse wsX2_hasHouse) := goodIn_app (goodIn_of _ (by decide +kernel)) ggX8_as_X2_hasHouse
set_option maxRecDepth 20000 in
theorem ggX8_as_X8_isWithin : GoodIn wsX8_as wsX8_isWithin := goodIn_r _ [12] (by decide +kernel) (by decide +kernel)
set_option maxRecDepth 20000 in
theorem gX8_as_X8_isWithin : GoodIn wsX8_as (va_wsS RX8 65 yX8_isWithin wsX8_isWithin) := goodIn_app (goodIn_of _ (by decide +kernel)) ggX8_as_X8_isWithin
set_option maxRecDepth 20000 in
theorem ggX8_as_X1_isA : GoodIn wsX8_as wsX1_isA := goodIn_r _ [18, 19, 45, 46, 47, 48] (by decide +kernel) (by decide +kernel)
set_option maxRecDepth 20000 in
theorem gX8_as_X1_isA : GoodIn wsX8_as (wsV RX8 292 RX1 yX1_isA wsX1_isA) := goodIn_app (goodIn_of _ (by decide +kernel)) ggX8_as_X1_isA
set_option maxRecDepth 20000 in
theorem ggX8_as_X8_answerFault : GoodIn wsX8_as wsX8_answerFault := goodIn_r _ [23, 1, 24, 25, 26, 27, 28, 29, 30, 31] (by decide +kernel) (by decide +kernel)
set_option maxRecDepth 20000 in
theorem gX8_as_X8_answerFault : GoodIn wsX8_as (wsV RX8 77 RX8 yX8_answerFault wsX8_answerFault) := goodIn_app (goodIn_of _ (by decide +kernel)) ggX8_as_X8_answerFault
theorem dX8_as_0 : decode cX8_as 0 = .ok (.aload_n 0, 1) := by decide +kernel
theorem dX8_as_1 : decode cX8_as 1 = .ok (.iconst 0, 1) := by decide +kernel
theorem dX8_as_2 : decode cX8_as 2 = .ok (.putfield 57, 3) := by decide +kernel
theorem dX8_as_5 : decode cX8_as 5 = .ok (.aload_n 0, 1) := by decide +kernel
theorem dX8_as_6 : decode cX8_as 6 = .ok (.getfield 28, 3) := by decide +kernel
theorem dX8_as_9 : decode cX8_as 9 = .ok (.iload_n 1, 1) := by decide +kernel
theorem dX8_as_10 : decode cX8_as 10 = .ok (.invokevirtual 110, 3) := by decide +kernel
theorem dX8_as_13 : decode cX8_as 13 = .ok (.ifCond .ne 5, 3) := by decide +kernel
theorem dX8_as_16 : decode cX8_as 16 = .ok (.iconst (-1), 1) := by decide +kernel
theorem dX8_as_17 : decode cX8_as 17 = .ok (.ireturn, 1) := by decide +kernel
theorem dX8_as_18 : decode cX8_as 18 = .ok (.iload_n 2, 1) := by decide +kernel
theorem dX8_as_19 : decode cX8_as 19 = .ok (.iconst 0, 1) := by decide +kernel
theorem dX8_as_20 : decode cX8_as 20 = .ok (.iconst 2, 1) := by decide +kernel
theorem dX8_as_21 : decode cX8_as 21 = .ok (.invokestatic 65, 3) := by decide +kernel
theorem dX8_as_24 : decode cX8_as 24 = .ok (.ifCond .ne 6, 3) := by decide +kernel
theorem dX8_as_27 : decode cX8_as 27 = .ok (.bipush (-2), 2) := by decide +kernel
theorem dX8_as_29 : decode cX8_as 29 = .ok (.ireturn, 1) := by decide +kernel
theorem dX8_as_30 : decode cX8_as 30 = .ok (.aload_n 0, 1) := by decide +kernel
theorem dX8_as_31 : decode cX8_as 31 = .ok (.getfield 28, 3) := by decide +kernel
theorem dX8_as_34 : decode cX8_as 34 = .ok (.getfield 113, 3) := by decide +kernel
theorem dX8_as_37 : decode cX8_as 37 = .ok (.iload_n 1, 1) := by decide +kernel
theorem dX8_as_38 : decode cX8_as 38 = .ok (.aaload, 1) := by decide +kernel
theorem dX8_as_39 : decode cX8_as 39 = .ok (.iload_n 2, 1) := by decide +kernel
theorem dX8_as_40 : decode cX8_as 40 = .ok (.invokevirtual 292, 3) := by decide +kernel
theorem dX8_as_43 : decode cX8_as 43 = .ok (.ifCond .eq 7, 3) := by decide +kernel
theorem dX8_as_46 : decode cX8_as 46 = .ok (.iconst 1, 1) := by decide +kernel
theorem dX8_as_47 : decode cX8_as 47 = .ok (.goto 8, 3) := by decide +kernel
theorem dX8_as_50 : decode cX8_as 50 = .ok (.aload_n 0, 1) := by decide +kernel
theorem dX8_as_51 : decode cX8_as 51 = .ok (.iconst 2, 1) := by decide +kernel
theorem dX8_as_52 : decode cX8_as 52 = .ok (.invokevirtual 77, 3) := by decide +kernel
theorem dX8_as_55 : decode cX8_as 55 = .ok (.ireturn, 1) := by decide +kernel
theorem dX8_trace_0 : decode cX8_trace 0 = .ok (.aload_n 0, 1) := by decide +kernel
theorem dX8_trace_1 : decode cX8_trace 1 = .ok (.getfield 295, 3) := by decide +kernel
theorem dX8_trace_4 : decode cX8_trace 4 = .ok (.ireturn, 1) := by decide +kernel
theorem dX8_fault_0 : decode cX8_fault 0 = .ok (.aload_n 0, 1) := by decide +kernel
theorem dX8_fault_1 : decode cX8_fault 1 = .ok (.getfield 57, 3) := by decide +kernel
theorem dX8_fault_4 : decode cX8_fault 4 = .ok (.ireturn, 1) := by decide +kernel
theorem dX8_many_0 : decode cX8_many 0 = .ok (.iload_n 1, 1) := by decide +kernel
theorem dX8_many_1 : decode cX8_many 1 = .ok (.tableswitch 99 0 6 #[43, 51, 59, 67, 75, 83, 91], 43) := by decide +kernel
theorem dX8_many_44 : decode cX8_many 44 = .ok (.aload_n 0, 1) := by decide +kernel
theorem dX8_many_45 : decode cX8_many 45 = .ok (.getfield 28, 3) := by decide +kernel
theorem dX8_many_48 : decode cX8_many 48 = .ok (.getfield 94, 3) := by decide +kernel
theorem dX8_many_51 : decode cX8_many 51 = .ok (.ireturn, 1) := by decide +kernel
theorem dX8_many_52 : decode cX8_many 52 = .ok (.aload_n 0, 1) := by decide +kernel
theorem dX8_many_53 : decode cX8_many 53 = .ok (.getfield 28, 3) := by decide +kernel
theorem dX8_many_56 : decode cX8_many 56 = .ok (.getfield 298, 3) := by decide +kernel
theorem dX8_many_59 : decode cX8_many 59 = .ok (.ireturn, 1) := by decide +kernel
theorem dX8_many_60 : decode cX8_many 60 = .ok (.aload_n 0, 1) := by decide +kernel
theorem dX8_many_61 : decode cX8_many 61 = .ok (.getfield 28, 3) := by decide +kernel
theorem dX8_many_64 : decode cX8_many 64 = .ok (.getfield 198, 3) := by decide +kernel
theorem dX8_many_67 : decode cX8_many 67 = .ok (.ireturn, 1) := by decide +kernel
theorem dX8_many_68 : decode cX8_many 68 = .ok (.aload_n 0, 1) := by decide +kernel
theorem dX8_many_69 : decode cX8_many 69 = .ok (.getfield 28, 3) := by decide +kernel
theorem dX8_many_72 : decode cX8_many 72 = .ok (.getfield 301, 3) := by decide +kernel
theorem dX8_many_75 : decode cX8_many 75 = .ok (.ireturn, 1) := by decide +kernel
theorem dX8_many_76 : decode cX8_many 76 = .ok (.aload_n 0, 1) := by decide +kernel
theorem dX8_many_77 : decode cX8_many 77 = .ok (.getfield 53, 3) := by decide +kernel
theorem dX8_many_80 : decode cX8_many 80 = .ok (.getfield 91, 3) := by decide +kernel
theorem dX8_many_83 : decode cX8_many 83 = .ok (.ireturn, 1) := by decide +kernel
theorem dX8_many_84 : decode cX8_many 84 = .ok (.aload_n 0, 1) := by decide +kernel
theorem dX8_many_85 : decode cX8_many 85 = .ok (.getfield 28, 3) := by decide +kernel
theorem dX8_many_88 : decode cX8_many 88 = .ok (.getfield 147, 3) := by decide +kernel
theorem dX8_many_91 : decode cX8_many 91 = .ok (.ireturn, 1) := by decide +kernel
theorem dX8_many_92 : decode cX8_many 92 = .ok (.aload_n 0, 1) := by decide +kernel
theorem dX8_many_93 : decode cX8_many 93 = .ok (.getfield 28, 3) := by decide +kernel
theorem dX8_many_96 : decode cX8_many 96 = .ok (.getfield 164, 3) := by decide +kernel
theorem dX8_many_99 : decode cX8_many 99 = .ok (.ireturn, 1) := by decide +kernel
theorem dX8_many_100 : decode cX8_many 100 = .ok (.bipush (-2), 2) := by decide +kernel
theorem dX8_many_102 : decode cX8_many 102 = .ok (.ireturn, 1) := by decide +kernel
theorem dX8_isWithin_0 : decode cX8_isWithin 0 = .ok (.iload_n 1, 1) := by decide +kernel
theorem dX8_isWithin_1 : decode cX8_isWithin 1 = .ok (.iload_n 0, 1) := by decide +kernel
theorem dX8_isWithin_2 : decode cX8_isWithin 2 = .ok (.if_icmp .gt 12, 3) := by decide +kernel
theorem dX8_isWithin_5 : decode cX8_isWithin 5 = .ok (.iload_n 0, 1) := by decide +kernel
theorem dX8_isWithin_6 : decode cX8_isWithin 6 = .ok (.iload_n 2, 1) := by decide +kernel
theorem dX8_isWithin_7 : decode cX8_isWithin 7 = .ok (.if_icmp .gt 7, 3) := by decide +kernel
theorem dX8_isWithin_10 : decode cX8_isWithin 10 = .ok (.iconst 1, 1) := by decide +kernel
theorem dX8_isWithin_11 : decode cX8_isWithin 11 = .ok (.goto 4, 3) := by decide +kernel
theorem dX8_isWithin_14 : decode cX8_isWithin 14 = .ok (.iconst 0, 1) := by decide +kernel
theorem dX8_isWithin_15 : decode cX8_isWithin 15 = .ok (.ireturn, 1) := by decide +kernel
set_option maxRecDepth 20000 in
theorem ggX8_isSheet_X8_isWithin : GoodIn wsX8_isSheet wsX8_isWithin := goodIn_r _ [4] (by decide +kernel) (by decide +kernel)
set_option maxRecDepth 20000 in
theorem gX8_isSheet_X8_isWithin : GoodIn wsX8_isSheet (va_wsS RX8 65 yX8_isWithin wsX8_isWithin) := goodIn_app (goodIn_of _ (by decide +kernel)) ggX8_isSheet_X8_isWithin
theorem dX8_isSheet_0 : decode cX8_isSheet 0 = .ok (.iload_n 0, 1) := by decide +kernel
theorem dX8_isSheet_1 : decode cX8_isSheet 1 = .ok (.iconst 0, 1) := by decide +kernel
theorem dX8_isSheet_2 : decode cX8_isSheet 2 = .ok (.iconst 3, 1) := by decide +kernel
theorem dX8_isSheet_3 : decode cX8_isSheet 3 = .ok (.invokestatic 65, 3) := by decide +kernel
theorem dX8_isSheet_6 : decode cX8_isSheet 6 = .ok (.ireturn, 1) := by decide +kernel
theorem dX8_isIn_0 : decode cX8_isIn 0 = .ok (.iload_n 1, 1) := by decide +kernel
theorem dX8_isIn_1 : decode cX8_isIn 1 = .ok (.iload_n 0, 1) := by decide +kernel
theorem dX8_isIn_2 : decode cX8_isIn 2 = .ok (.ishr, 1) := by decide +kernel
theorem dX8_isIn_3 : decode cX8_isIn 3 = .ok (.iconst 1, 1) := by decide +kernel
theorem dX8_isIn_4 : decode cX8_isIn 4 = .ok (.iand, 1) := by decide +kernel
theorem dX8_isIn_5 : decode cX8_isIn 5 = .ok (.iconst 1, 1) := by decide +kernel
theorem dX8_isIn_6 : decode cX8_isIn 6 = .ok (.if_icmp .ne 7, 3) := by decide +kernel
theorem dX8_isIn_9 : decode cX8_isIn 9 = .ok (.iconst 1, 1) := by decide +kernel
theorem dX8_isIn_10 : decode cX8_isIn 10 = .ok (.goto 4, 3) := by decide +kernel
theorem dX8_isIn_13 : decode cX8_isIn 13 = .ok (.iconst 0, 1) := by decide +kernel
theorem dX8_isIn_14 : decode cX8_isIn 14 = .ok (.ireturn, 1) := by decide +kernel
theorem dX8_greatestCommon_0 : decode cX8_greatestCommon 0 = .ok (.iload_n 0, 1) := by decide +kernel
theorem dX8_greatestCommon_1 : decode cX8_greatestCommon 1 = .ok (.iload_n 1, 1) := by decide +kernel
theorem dX8_greatestCommon_2 : decode cX8_greatestCommon 2 = .ok (.invokestatic 304, 3) := by decide +kernel
theorem dX8_greatestCommon_5 : decode cX8_greatestCommon 5 = .ok (.istore_n 2, 1) := by decide +kernel
theorem dX8_greatestCommon_6 : decode cX8_greatestCommon 6 = .ok (.iload_n 2, 1) := by decide +kernel
theorem dX8_greatestCommon_7 : decode cX8_greatestCommon 7 = .ok (.iconst 1, 1) := by decide +kernel
theorem dX8_greatestCommon_8 : decode cX8_greatestCommon 8 = .ok (.if_icmp .le 23, 3) := by decide +kernel
theorem dX8_greatestCommon_11 : decode cX8_greatestCommon 11 = .ok (.iload_n 0, 1) := by decide +kernel
theorem dX8_greatestCommon_12 : decode cX8_greatestCommon 12 = .ok (.iload_n 2, 1) := by decide +kernel
theorem dX8_greatestCommon_13 : decode cX8_greatestCommon 13 = .ok (.irem, 1) := by decide +kernel
theorem dX8_greatestCommon_14 : decode cX8_greatestCommon 14 = .ok (.ifCond .ne 11, 3) := by decide +kernel
theorem dX8_greatestCommon_17 : decode cX8_greatestCommon 17 = .ok (.iload_n 1, 1) := by decide +kernel
theorem dX8_greatestCommon_18 : decode cX8_greatestCommon 18 = .ok (.iload_n 2, 1) := by decide +kernel
theorem dX8_greatestCommon_19 : decode cX8_greatestCommon 19 = .ok (.irem, 1) := by decide +kernel
theorem dX8_greatestCommon_20 : decode cX8_greatestCommon 20 = .ok (.ifCond .ne 5, 3) := by decide +kernel
theorem dX8_greatestCommon_23 : decode cX8_greatestCommon 23 = .ok (.iload_n 2, 1) := by decide +kernel
theorem dX8_greatestCommon_24 : decode cX8_greatestCommon 24 = .ok (.ireturn, 1) := by decide +kernel
theorem dX8_greatestCommon_25 : decode cX8_greatestCommon 25 = .ok (.iinc 2 (-1), 3) := by decide +kernel
theorem dX8_greatestCommon_28 : decode cX8_greatestCommon 28 = .ok (.goto (-22), 3) := by decide +kernel
theorem dX8_greatestCommon_31 : decode cX8_greatestCommon 31 = .ok (.iconst 1, 1) := by decide +kernel
theorem dX8_greatestCommon_32 : decode cX8_greatestCommon 32 = .ok (.ireturn, 1) := by decide +kernel
theorem dX8_answerFault_0 : decode cX8_answerFault 0 = .ok (.aload_n 0, 1) := by decide +kernel
theorem dX8_answerFault_1 : decode cX8_answerFault 1 = .ok (.iload_n 1, 1) := by decide +kernel
theorem dX8_answerFault_2 : decode cX8_answerFault 2 = .ok (.putfield 57, 3) := by decide +kernel
theorem dX8_answerFault_5 : decode cX8_answerFault 5 = .ok (.bipush (-10), 2) := by decide +kernel
theorem dX8_answerFault_7 : decode cX8_answerFault 7 = .ok (.iload_n 1, 1) := by decide +kernel
theorem dX8_answerFault_8 : decode cX8_answerFault 8 = .ok (.isub, 1) := by decide +kernel
theorem dX8_answerFault_9 : decode cX8_answerFault 9 = .ok (.ireturn, 1) := by decide +kernel
set_option maxRecDepth 20000 in
theorem ggX8_refusedFor_X2_hasHouse : GoodIn wsX8_refusedFor wsX2_hasHouse := goodIn_r _ [6, 7, 8, 9, 10, 20, 21, 22, 23, 24, 25, 26, 27, 28, 29, 30, 31, 32] (by decide +kernel) (by decide +kernel)
set_option maxRecDepth 20000 in
theorem gX8_refusedFor_X2_hasHouse : GoodIn wsX8_refusedFor (wsV RX8 110 RX2 yX2_hasHouse wsX2_hasHouse) := goodIn_app (goodIn_of _ (by decide +kernel)) ggX8_refusedFor_X2_hasHouse
set_option maxRecDepth 20000 in
theorem ggX8_refusedFor_X8_isWithin : GoodIn wsX8_refusedFor wsX8_isWithin := goodIn_r _ [10] (by decide +kernel) (by decide +kernel)
set_option maxRecDepth 20000 in
theorem gX8_refusedFor_X8_isWithin : GoodIn wsX8_refusedFor (va_wsS RX8 65 yX8_isWithin wsX8_isWithin) := goodIn_app (goodIn_of _ (by decide +kernel)) ggX8_refusedFor_X8_isWithin
theorem dX8_refusedFor_0 : decode cX8_refusedFor 0 = .ok (.aload_n 0, 1) := by decide +kernel
theorem dX8_refusedFor_1 : decode cX8_refusedFor 1 = .ok (.getfield 28, 3) := by decide +kernel
theorem dX8_refusedFor_4 : decode cX8_refusedFor 4 = .ok (.iload_n 1, 1) := by decide +kernel
theorem dX8_refusedFor_5 : decode cX8_refusedFor 5 = .ok (.invokevirtual 110, 3) := by decide +kernel
theorem dX8_refusedFor_8 : decode cX8_refusedFor 8 = .ok (.ifCond .ne 5, 3) := by decide +kernel
theorem dX8_refusedFor_11 : decode cX8_refusedFor 11 = .ok (.iconst (-1), 1) := by decide +kernel
theorem dX8_refusedFor_12 : decode cX8_refusedFor 12 = .ok (.ireturn, 1) := by decide +kernel
theorem dX8_refusedFor_13 : decode cX8_refusedFor 13 = .ok (.iload_n 2, 1) := by decide +kernel
theorem dX8_refusedFor_14 : decode cX8_refusedFor 14 = .ok (.iconst 0, 1) := by decide +kernel
theorem dX8_refusedFor_15 : decode cX8_refusedFor 15 = .ok (.bipush 7, 2) := by decide +kernel
theorem dX8_refusedFor_17 : decode cX8_refusedFor 17 = .ok (.invokestatic 65, 3) := by decide +kernel
theorem dX8_refusedFor_20 : decode cX8_refusedFor 20 = .ok (.ifCond .eq 7, 3) := by decide +kernel
theorem dX8_refusedFor_23 : decode cX8_refusedFor 23 = .ok (.iconst 0, 1) := by decide +kernel
theorem dX8_refusedFor_24 : decode cX8_refusedFor 24 = .ok (.goto 5, 3) := by decide +kernel
theorem dX8_refusedFor_27 : decode cX8_refusedFor 27 = .ok (.bipush (-2), 2) := by decide +kernel
theorem dX8_refusedFor_29 : decode cX8_refusedFor 29 = .ok (.ireturn, 1) := by decide +kernel
theorem dX8_leaveTrace_0 : decode cX8_leaveTrace 0 = .ok (.aload_n 0, 1) := by decide +kernel
theorem dX8_leaveTrace_1 : decode cX8_leaveTrace 1 = .ok (.bipush 31, 2) := by decide +kernel
theorem dX8_leaveTrace_3 : decode cX8_leaveTrace 3 = .ok (.aload_n 0, 1) := by decide +kernel
theorem dX8_leaveTrace_4 : decode cX8_leaveTrace 4 = .ok (.getfield 295, 3) := by decide +kernel
theorem dX8_leaveTrace_7 : decode cX8_leaveTrace 7 = .ok (.imul, 1) := by decide +kernel
theorem dX8_leaveTrace_8 : decode cX8_leaveTrace 8 = .ok (.iload_n 1, 1) := by decide +kernel
theorem dX8_leaveTrace_9 : decode cX8_leaveTrace 9 = .ok (.iadd, 1) := by decide +kernel
theorem dX8_leaveTrace_10 : decode cX8_leaveTrace 10 = .ok (.putfield 295, 3) := by decide +kernel
theorem dX8_leaveTrace_13 : decode cX8_leaveTrace 13 = .ok (.return_, 1) := by decide +kernel
set_option maxRecDepth 20000 in
theorem ggX8_houseTells_X8_leaveTrace : GoodIn wsX8_houseTells wsX8_leaveTrace := goodIn_r _ [6, 7, 12, 13, 14, 15, 16, 17, 18, 19] (by decide +kernel) (by decide +kernel)
set_option maxRecDepth 20000 in
theorem gX8_houseTells_X8_leaveTrace : GoodIn wsX8_houseTells (wsV RX8 288 RX8 yX8_leaveTrace wsX8_leaveTrace) := goodIn_app (goodIn_of _ (by decide +kernel)) ggX8_houseTells_X8_leaveTrace
theorem dX8_houseTells_0 : decode cX8_houseTells 0 = .ok (.aload_n 0, 1) := by decide +kernel
theorem dX8_houseTells_1 : decode cX8_houseTells 1 = .ok (.iconst 1, 1) := by decide +kernel
theorem dX8_houseTells_2 : decode cX8_houseTells 2 = .ok (.invokevirtual 288, 3) := by decide +kernel
theorem dX8_houseTells_5 : decode cX8_houseTells 5 = .ok (.aload_n 1, 1) := by decide +kernel
theorem dX8_houseTells_6 : decode cX8_houseTells 6 = .ok (.getfield 123, 3) := by decide +kernel
theorem dX8_houseTells_9 : decode cX8_houseTells 9 = .ok (.ireturn, 1) := by decide +kernel
set_option maxRecDepth 20000 in
theorem ggX8_chimneyTells_X8_leaveTrace : GoodIn wsX8_chimneyTells wsX8_leaveTrace := goodIn_r _ [5, 6, 12, 13, 14, 15, 16, 17, 18, 19] (by decide +kernel) (by decide +kernel)
set_option maxRecDepth 20000 in
theorem gX8_chimneyTells_X8_leaveTrace : GoodIn wsX8_chimneyTells (wsV RX8 288 RX8 yX8_leaveTrace wsX8_leaveTrace) := goodIn_app (goodIn_of _ (by decide +kernel)) ggX8_chimneyTells_X8_leaveTrace
set_option maxRecDepth 20000 in
theorem ggX8_chimneyTells_X8_houseTells : GoodIn wsX8_chimneyTells wsX8_houseTells := goodIn_r _ [10, 11, 1, 2, 3, 4, 5, 6, 20, 21, 22, 23, 12, 13, 14, 15, 16, 17, 18, 19] (by decide +kernel) (by decide +kernel)
set_option maxRecDepth 20000 in
theorem gX8_chimneyTells_X8_houseTells : GoodIn wsX8_chimneyTells (wsV RX8 285 RX8 yX8_houseTells wsX8_houseTells) := goodIn_app (goodIn_of _ (by decide +kernel)) ggX8_chimneyTells_X8_houseTells
theorem dX8_chimneyTells_0 : decode cX8_chimneyTells 0 = .ok (.aload_n 0, 1) := by decide +kernel
theorem dX8_chimneyTells_1 : decode cX8_chimneyTells 1 = .ok (.iconst 2, 1) := by decide +kernel
theorem dX8_chimneyTells_2 : decode cX8_chimneyTells 2 = .ok (.invokevirtual 288, 3) := by decide +kernel
theorem dX8_chimneyTells_5 : decode cX8_chimneyTells 5 = .ok (.aload_n 0, 1) := by decide +kernel
theorem dX8_chimneyTells_6 : decode cX8_chimneyTells 6 = .ok (.aload_n 1, 1) := by decide +kernel
theorem dX8_chimneyTells_7 : decode cX8_chimneyTells 7 = .ok (.invokevirtual 285, 3) := by decide +kernel
theorem dX8_chimneyTells_10 : decode cX8_chimneyTells 10 = .ok (.bipush 100, 2) := by decide +kernel
theorem dX8_chimneyTells_12 : decode cX8_chimneyTells 12 = .ok (.iadd, 1) := by decide +kernel
theorem dX8_chimneyTells_13 : decode cX8_chimneyTells 13 = .ok (.ireturn, 1) := by decide +kernel
set_option maxRecDepth 20000 in
theorem ggX8_towerTells_X8_leaveTrace : GoodIn wsX8_towerTells wsX8_leaveTrace := goodIn_r _ [5, 6, 16, 17, 18, 19, 20, 21, 22, 23] (by decide +kernel) (by decide +kernel)
set_option maxRecDepth 20000 in
theorem gX8_towerTells_X8_leaveTrace : GoodIn wsX8_towerTells (wsV RX8 288 RX8 yX8_leaveTrace wsX8_leaveTrace) := goodIn_app (goodIn_of _ (by decide +kernel)) ggX8_towerTells_X8_leaveTrace
set_option maxRecDepth 20000 in
theorem ggX8_towerTells_X8_chimneyTells : GoodIn wsX8_towerTells wsX8_chimneyTells := goodIn_r _ [10, 1, 2, 3, 4, 5, 6, 11, 12, 13, 14, 15, 16, 17, 18, 19, 20, 21, 22, 23, 24, 25, 26, 27] (by decide +kernel) (by decide +kernel)
set_option maxRecDepth 20000 in
theorem gX8_towerTells_X8_chimneyTells : GoodIn wsX8_towerTells (wsV RX8 282 RX8 yX8_chimneyTells wsX8_chimneyTells) := goodIn_app (goodIn_of _ (by decide +kernel)) ggX8_towerTells_X8_chimneyTells
set_option maxRecDepth 20000 in
theorem ggX8_towerTells_X8_houseTells : GoodIn wsX8_towerTells wsX8_houseTells := goodIn_r _ [14, 15, 1, 2, 3, 4, 5, 6, 24, 25, 26, 27, 16, 17, 18, 19, 20, 21, 22, 23] (by decide +kernel) (by decide +kernel)
set_option maxRecDepth 20000 in
theorem gX8_towerTells_X8_houseTells : GoodIn wsX8_towerTells (wsV RX8 285 RX8 yX8_houseTells wsX8_houseTells) := goodIn_app (goodIn_of _ (by decide +kernel)) ggX8_towerTells_X8_houseTells
theorem dX8_towerTells_0 : decode cX8_towerTells 0 = .ok (.aload_n 0, 1) := by decide +kernel
theorem dX8_towerTells_1 : decode cX8_towerTells 1 = .ok (.iconst 3, 1) := by decide +kernel
theorem dX8_towerTells_2 : decode cX8_towerTells 2 = .ok (.invokevirtual 288, 3) := by decide +kernel
theorem dX8_towerTells_5 : decode cX8_towerTells 5 = .ok (.aload_n 0, 1) := by decide +kernel
theorem dX8_towerTells_6 : decode cX8_towerTells 6 = .ok (.aload_n 1, 1) := by decide +kernel
theorem dX8_towerTells_7 : decode cX8_towerTells 7 = .ok (.invokevirtual 282, 3) := by decide +kernel
theorem dX8_towerTells_10 : decode cX8_towerTells 10 = .ok (.istore_n 2, 1) := by decide +kernel
theorem dX8_towerTells_11 : decode cX8_towerTells 11 = .ok (.iload_n 2, 1) := by decide +kernel
theorem dX8_towerTells_12 : decode cX8_towerTells 12 = .ok (.aload_n 0, 1) := by decide +kernel
theorem dX8_towerTells_13 : decode cX8_towerTells 13 = .ok (.aload_n 1, 1) := by decide +kernel
theorem dX8_towerTells_14 : decode cX8_towerTells 14 = .ok (.invokevirtual 285, 3) := by decide +kernel
theorem dX8_towerTells_17 : decode cX8_towerTells 17 = .ok (.iadd, 1) := by decide +kernel
theorem dX8_towerTells_18 : decode cX8_towerTells 18 = .ok (.ireturn, 1) := by decide +kernel
end
section
/-! THE CORE: the state as functions of numbers, contracts over whole worlds, calls that keep the world -/
abbrev PT : Type := (Nat → Int32) × (Nat → Nat → Int32)
def pg (P : PT) (k : Nat) (v : Int32) : PT := (fun j => if j = k then v else P.1 j, P.2)
def pa (P : PT) (k i : Nat) (v : Int32) : PT := (P.1, fun j => if j = k then upd (P.2 k) i v else P.2 j)
abbrev tysG (y : Nat → ClassId) : List (ClassId × FieldType) := [(y 0, .int), (y 1, .boolean), (y 2, .object "SeenNumbers$House"), (y 3, .object "SeenNumbers$Tree"), (y 4, .object "SeenNumbers$Sheet")]
abbrev nestL : List Cond := [.methodLinkNest RX8 17 yX4_init RX8, .methodLinkNest RX8 20 yX6_init RX8, .methodLinkNest RX2 33 yX1_init RX8, .methodLinkNest RX2 34 yX7_init RX8, .methodLinkNest RX6 77 yX8_isWithin RX8, .methodLinkNest RX2 39 yX8_isWithin RX8, .methodLinkNest RX2 99 yX8_isIn RX8, .methodLinkNest RX5 67 yX8_greatestCommon RX8, .methodLinkNest RX5 93 yX8_isIn RX8]
def KK (D : va_G) (y : Nat → ClassId) (s : State) : Prop := va_K D vwCl (tysG y) s ∧ ∀ w ∈ nestL, va_Nw w s
theorem nestL_ok : ∀ w ∈ nestL, ∃ a i x h, w = .methodLinkNest a i x h := by
  intro w hw
  simp only [nestL, List.mem_cons, List.not_mem_nil, or_false] at hw
  rcases hw with rfl | rfl | rfl | rfl | rfl | rfl | rfl | rfl | rfl <;> exact ⟨_, _, _, _, rfl⟩
theorem KK.warm {D : va_G} {y : Nat → ClassId} {s U : State} (h : KK D y s) (hW : s.WarmedH U.vm) : KK D y U := by
  refine ⟨va_K.moved hW.alike h.1, fun w hw => ?_⟩
  obtain ⟨a, i, x, hh, e⟩ := nestL_ok w hw
  have := h.2 w hw
  subst e
  exact va_Nw.warmM hW this
theorem KK.same {D : va_G} {y : Nat → ClassId} {u U : State} (hvm : u.vm = U.vm) (h : KK D y u) : KK D y U := by
  refine ⟨va_K.moved (u := u) (U := U) (by rw [hvm]; exact Vm.Alike.refl _) h.1, fun w hw => ?_⟩
  obtain ⟨a, i, x, hh, e⟩ := nestL_ok w hw
  have := h.2 w hw
  subst e
  exact va_Nw.same rfl hvm this
/-- the start of a contract: the arguments, the tables' picture, the world -/
abbrev CPre (D : va_G) (y : Nat → ClassId) (As : List Value) (pre : va_W) : Array Value → State → Prop := va_Pc As (fun U => KK D y U ∧ va_P D vwCl pre U.heap)
theorem CPre.blind {D : va_G} {y : Nat → ClassId} {As : List Value} {pre : va_W} : FrameBlind (CPre D y As pre) := fun a U g mk q => ⟨q.1, KK.same (u := U) (U := U.calling g mk a) rfl q.2.1, q.2.2⟩
theorem CPre.at {D : va_G} {y : Nat → ClassId} {As : List Value} {pre : va_W} {s : State} {H : Heap} (hK : KK D y s) (hP : va_P D vwCl pre H) : ∀ U : State, U.heap = H → s.WarmedH U.vm → CPre D y As pre As.toArray U := fun U hU hW => ⟨rfl, hK.warm hW, by rw [hU]; exact hP⟩
def CtI (l : Launch) (D : va_G) (y : Nat → ClassId) (x : MethodName) (ws : List Cond) (rm : Room) (As : List Value) (pre : va_W) {S : Type} (post : Int32 → S → Prop) (world : S → va_W) (A : Nat → Prop) : Prop :=
  Met l x ws rm (CPre D y As pre) (va_Qi post (fun u t => va_P D vwCl (world u) t.heap) A) 0 0 A
def CtL (l : Launch) (D : va_G) (y : Nat → ClassId) (x : MethodName) (ws : List Cond) (rm : Room) (As : List Value) (pre : va_W) {S : Type} (post : Int64 → S → Prop) (world : S → va_W) (A : Nat → Prop) : Prop :=
  Met l x ws rm (CPre D y As pre) (va_Ql post (fun u t => va_P D vwCl (world u) t.heap) A) 0 0 A
def CtV (l : Launch) (D : va_G) (y : Nat → ClassId) (x : MethodName) (ws : List Cond) (rm : Room) (As : List Value) (pre : va_W) {S : Type} (post : S → Prop) (world : S → va_W) (A : Nat → Prop) : Prop :=
  Met l x ws rm (CPre D y As pre) (va_Qv post (fun u t => va_P D vwCl (world u) t.heap) A) 0 0 A
set_option maxHeartbeats 4000000 in
theorem mkI {l : Launch} {D : va_G} {y : Nat → ClassId} {x : MethodName} {ws ws' : List Cond} {rm : Room} {cc : ByteArray} {maxL : Nat} {ret : Option FieldType} {As : List Value} {pre : va_W} {S : Type} {post : Int32 → S → Prop} {world : S → va_W} {A : Nat → Prop} (own : String) (ho : x.cls = own) (hy : plainName x.cls = true) (hw : ws = Cond.code x cc maxL ret :: ws')
    (hret : ret = some .int ∨ (ret = some .boolean ∧ ∀ r u, post r u → r = 0 ∨ r = 1)) (hlen : (lg_sl As).length ≤ maxL)
    (body : ∀ (p : Program) (e : Env) (s : State) (m : MethodId) (args : Array Value) (below : List Frame) (meth : Method) (c : Code) (Q : State → Prop), CallFix p m c cc maxL s args ws own → KK D y s → va_P D vwCl pre s.heap →
      (∀ (H : Heap) (locs : List Loc) (pc : Nat) (ls : Array Slot) (r : Int32) (u : S), decode cc pc = .ok (.ireturn, 1) → post r u → va_P D vwCl (world u) H → va_S A s.heap H locs → W p l e rm s m args below meth c H locs 0 0 Q (F0 m pc ls [.int r])) →
      ∀ ls, lv_has ls maxL (lv_args 0 As) → W p l e rm s m args below meth c s.heap [] 0 0 Q (F0 m 0 ls [])) : CtI l D y x ws rm As pre post world A := by
  refine Met.ofW (cc := cc) (maxL := maxL) (ret := ret) hy hw ?_
  intro p e s m args below meth c s₁ B hml hv
  obtain ⟨rfl, hK, hP⟩ := hv
  have hts := atoms_spec (ws := ws) B.pre
  have hown : s.vm.findClass own = some m.cls := by rw [← ho]; exact findClass_of_methodNamed B.named
  have hlocks := B.notSynchronized
  have hl := lv_entry As (n := maxL) hlen
  rw [lg_entry_eq]
  generalize (lg_sl As ++ List.replicate (maxL - (lg_sl As).length) Slot.unset).toArray = ls at hl ⊢
  refine body p e s m _ below meth c _ ⟨B.exec, B.bytes, hml, hown, hts⟩ hK hP (fun H locs pc ls r u hd hp hw hS => ?_) ls hl
  rcases hret with hr | ⟨hr, h01⟩
  · exact W.iret (v := r) B.exec B.bytes (by rw [B.returns, hr]) (fun t ht hW => ⟨⟨r, u, rfl, hp, (by show va_P D vwCl (world u) t.heap; rw [ht]; exact hw)⟩, hS.F ht⟩) hS.2.2 hd
  · exact W.zret (v := r) (ty := .boolean) B.exec B.bytes (by rw [B.returns, hr]) (by rcases h01 r u hp with rfl | rfl <;> rfl) (fun t ht hW => ⟨⟨r, u, rfl, hp, (by show va_P D vwCl (world u) t.heap; rw [ht]; exact hw)⟩, hS.F ht⟩) hS.2.2 hd
set_option maxHeartbeats 4000000 in
theorem mkL {l : Launch} {D : va_G} {y : Nat → ClassId} {x : MethodName} {ws ws' : List Cond} {rm : Room} {cc : ByteArray} {maxL : Nat} {As : List Value} {pre : va_W} {S : Type} {post : Int64 → S → Prop} {world : S → va_W} {A : Nat → Prop} (own : String) (ho : x.cls = own) (hy : plainName x.cls = true) (hw : ws = Cond.code x cc maxL (some .long) :: ws') (hlen : (lg_sl As).length ≤ maxL)
    (body : ∀ (p : Program) (e : Env) (s : State) (m : MethodId) (args : Array Value) (below : List Frame) (meth : Method) (c : Code) (Q : State → Prop), CallFix p m c cc maxL s args ws own → KK D y s → va_P D vwCl pre s.heap →
      (∀ (H : Heap) (locs : List Loc) (pc : Nat) (ls : Array Slot) (r : Int64) (u : S), decode cc pc = .ok (.lreturn, 1) → post r u → va_P D vwCl (world u) H → va_S A s.heap H locs → W p l e rm s m args below meth c H locs 0 0 Q (F0 m pc ls [.long r])) →
      ∀ ls, lv_has ls maxL (lv_args 0 As) → W p l e rm s m args below meth c s.heap [] 0 0 Q (F0 m 0 ls [])) : CtL l D y x ws rm As pre post world A := by
  refine Met.ofW (cc := cc) (maxL := maxL) (ret := some .long) hy hw ?_
  intro p e s m args below meth c s₁ B hml hv
  obtain ⟨rfl, hK, hP⟩ := hv
  have hts := atoms_spec (ws := ws) B.pre
  have hown : s.vm.findClass own = some m.cls := by rw [← ho]; exact findClass_of_methodNamed B.named
  have hlocks := B.notSynchronized
  have hl := lv_entry As (n := maxL) hlen
  rw [lg_entry_eq]
  generalize (lg_sl As ++ List.replicate (maxL - (lg_sl As).length) Slot.unset).toArray = ls at hl ⊢
  refine body p e s m _ below meth c _ ⟨B.exec, B.bytes, hml, hown, hts⟩ hK hP (fun H locs pc ls r u hd hp hw hS => ?_) ls hl
  exact W.lret (v := r) B.exec B.bytes B.returns (fun t ht hW => ⟨⟨r, u, rfl, hp, (by show va_P D vwCl (world u) t.heap; rw [ht]; exact hw)⟩, hS.F ht⟩) hS.2.2 hd
set_option maxHeartbeats 4000000 in
theorem mkV {l : Launch} {D : va_G} {y : Nat → ClassId} {x : MethodName} {ws ws' : List Cond} {rm : Room} {cc : ByteArray} {maxL : Nat} {As : List Value} {pre : va_W} {S : Type} {post : S → Prop} {world : S → va_W} {A : Nat → Prop} (own : String) (ho : x.cls = own) (hy : plainName x.cls = true) (hw : ws = Cond.code x cc maxL none :: ws') (hlen : (lg_sl As).length ≤ maxL)
    (body : ∀ (p : Program) (e : Env) (s : State) (m : MethodId) (args : Array Value) (below : List Frame) (meth : Method) (c : Code) (Q : State → Prop), CallFix p m c cc maxL s args ws own → KK D y s → va_P D vwCl pre s.heap →
      (∀ (H : Heap) (locs : List Loc) (pc : Nat) (ls : Array Slot) (u : S), decode cc pc = .ok (.return_, 1) → post u → va_P D vwCl (world u) H → va_S A s.heap H locs → W p l e rm s m args below meth c H locs 0 0 Q (F0 m pc ls [])) →
      ∀ ls, lv_has ls maxL (lv_args 0 As) → W p l e rm s m args below meth c s.heap [] 0 0 Q (F0 m 0 ls [])) : CtV l D y x ws rm As pre post world A := by
  refine Met.ofW (cc := cc) (maxL := maxL) (ret := none) hy hw ?_
  intro p e s m args below meth c s₁ B hml hv
  obtain ⟨rfl, hK, hP⟩ := hv
  have hts := atoms_spec (ws := ws) B.pre
  have hown : s.vm.findClass own = some m.cls := by rw [← ho]; exact findClass_of_methodNamed B.named
  have hlocks := B.notSynchronized
  have hl := lv_entry As (n := maxL) hlen
  rw [lg_entry_eq]
  generalize (lg_sl As ++ List.replicate (maxL - (lg_sl As).length) Slot.unset).toArray = ls at hl ⊢
  refine body p e s m _ below meth c _ ⟨B.exec, B.bytes, hml, hown, hts⟩ hK hP (fun H locs pc ls u hd hp hw hS => ?_) ls hl
  exact W.vret B.exec B.bytes B.returns (fun t ht hW => ⟨⟨u, rfl, hp, (by show va_P D vwCl (world u) t.heap; rw [ht]; exact hw)⟩, hS.F ht⟩) hS.2.2 hd
section CALLS
variable {p : Program} {l : Launch} {e : Env} {R : Room} {s : State} {m : MethodId} {args : Array Value} {below : List Frame} {meth : Method} {c : Code} {H : Heap} {locs : List Loc} {Q : State → Prop}
variable {cc : ByteArray} {pc : Nat} {ls : Array Slot} {D : va_G} {y : Nat → ClassId} {H0 : Heap} {A0 A : Nat → Prop} {nL : Nat} {Ts ws : List Cond} {own C : String} {bytes : ByteArray} {maxL n index : Nat} {ret : Option FieldType} {rm : Room} {x : MethodName} {b : Addr} {pre : va_W} {S : Type} {world : S → va_W} {st : List Value} {lv : List (Nat × Value)} {cells slots : Nat}
theorem pre_recv {q0 ci : Nat} {fs : List Value} {r : vw_C} (hK : KK D y s) (hP : va_P D vwCl pre H) (hc : vwCl[ci]? = some r) (he : pre[q0]? = some (b, .inr (ci, fs))) : ∃ cell : Cell, H[b]? = some cell ∧ cell.vm.isStatics = false ∧ s.vm.findClass r.1 = some cell.cls := va_recv hK.1 hP hc he
set_option maxHeartbeats 4000000 in
theorem cViI {post : Int32 → S → Prop} (As rest : List Value) (FX : CallFix p m c cc nL s args Ts own) (hK : KK D y s) (hM : CtI l D y x ws rm (.ref b :: As) pre post world A) (cw : CallW R s args own C index x bytes maxL ret ws rm 0 0 n) (hP : va_P D vwCl pre H) (hrv : ∃ cell : Cell, H[b]? = some cell ∧ cell.vm.isStatics = false ∧ s.vm.findClass C = some cell.cls)
    (hst : st = As.reverse ++ .ref b :: rest) (hn : As.length = n) (hl : lv_has ls nL lv) (hroom : (rest.map fun v => v.category).sum ≤ 8) (hdg : decode cc pc = .ok (.invokevirtual index, 3)) (hf : cells ≤ R.cells ∧ slots ≤ R.slots) (hS : va_S A0 H0 H locs) (hA : ∀ q, A q → A0 q)
    (k : ∀ (r : Int32) (u : S) (H1 : Heap) (locs1 : List Loc), post r u → va_P D vwCl (world u) H1 → va_S A0 H0 H1 locs1 → (∀ q : Nat, q < H.size → ¬ A q → H1[q]? = H[q]?) → H.size ≤ H1.size → W p l e R s m args below meth c H1 locs1 cells slots Q (F0 m (pc + 3) ls (.int r :: rest))) :
    W p l e R s m args below meth c H locs cells slots Q (F0 m pc ls st) :=
  va_calli (va_runV (As := As) (rest := rest) FX hM cw ⟨CPre.blind, hrv, CPre.at hK hP⟩ rfl hn hl.1 hst (lv_room hroom) hdg hf) hS (fun q _ h => hA q h) hA (fun r u t H1 locs1 ht _ hp hB hz hk hS1 => k r u H1 locs1 hp (by rw [← ht]; exact hB) hS1 hk hz)
set_option maxHeartbeats 4000000 in
theorem cViL {post : Int64 → S → Prop} (As rest : List Value) (FX : CallFix p m c cc nL s args Ts own) (hK : KK D y s) (hM : CtL l D y x ws rm (.ref b :: As) pre post world A) (cw : CallW R s args own C index x bytes maxL ret ws rm 0 0 n) (hP : va_P D vwCl pre H) (hrv : ∃ cell : Cell, H[b]? = some cell ∧ cell.vm.isStatics = false ∧ s.vm.findClass C = some cell.cls)
    (hst : st = As.reverse ++ .ref b :: rest) (hn : As.length = n) (hl : lv_has ls nL lv) (hroom : (rest.map fun v => v.category).sum ≤ 8) (hdg : decode cc pc = .ok (.invokevirtual index, 3)) (hf : cells ≤ R.cells ∧ slots ≤ R.slots) (hS : va_S A0 H0 H locs) (hA : ∀ q, A q → A0 q)
    (k : ∀ (r : Int64) (u : S) (H1 : Heap) (locs1 : List Loc), post r u → va_P D vwCl (world u) H1 → va_S A0 H0 H1 locs1 → (∀ q : Nat, q < H.size → ¬ A q → H1[q]? = H[q]?) → H.size ≤ H1.size → W p l e R s m args below meth c H1 locs1 cells slots Q (F0 m (pc + 3) ls (.long r :: rest))) :
    W p l e R s m args below meth c H locs cells slots Q (F0 m pc ls st) :=
  va_calll (va_runV (As := As) (rest := rest) FX hM cw ⟨CPre.blind, hrv, CPre.at hK hP⟩ rfl hn hl.1 hst (lv_room hroom) hdg hf) hS (fun q _ h => hA q h) hA (fun r u t H1 locs1 ht _ hp hB hz hk hS1 => k r u H1 locs1 hp (by rw [← ht]; exact hB) hS1 hk hz)
set_option maxHeartbeats 4000000 in
theorem cViV {post : S → Prop} (As rest : List Value) (FX : CallFix p m c cc nL s args Ts own) (hK : KK D y s) (hM : CtV l D y x ws rm (.ref b :: As) pre post world A) (cw : CallW R s args own C index x bytes maxL ret ws rm 0 0 n) (hP : va_P D vwCl pre H) (hrv : ∃ cell : Cell, H[b]? = some cell ∧ cell.vm.isStatics = false ∧ s.vm.findClass C = some cell.cls)
    (hst : st = As.reverse ++ .ref b :: rest) (hn : As.length = n) (hl : lv_has ls nL lv) (hroom : (rest.map fun v => v.category).sum ≤ 8) (hdg : decode cc pc = .ok (.invokevirtual index, 3)) (hf : cells ≤ R.cells ∧ slots ≤ R.slots) (hS : va_S A0 H0 H locs) (hA : ∀ q, A q → A0 q)
    (k : ∀ (u : S) (H1 : Heap) (locs1 : List Loc), post u → va_P D vwCl (world u) H1 → va_S A0 H0 H1 locs1 → (∀ q : Nat, q < H.size → ¬ A q → H1[q]? = H[q]?) → H.size ≤ H1.size → W p l e R s m args below meth c H1 locs1 cells slots Q (F0 m (pc + 3) ls rest)) :
    W p l e R s m args below meth c H locs cells slots Q (F0 m pc ls st) :=
  va_callv (va_runV (As := As) (rest := rest) FX hM cw ⟨CPre.blind, hrv, CPre.at hK hP⟩ rfl hn hl.1 hst (lv_room hroom) hdg hf) hS (fun q _ h => hA q h) hA (fun u t H1 locs1 ht _ hp hB hz hk hS1 => k u H1 locs1 hp (by rw [← ht]; exact hB) hS1 hk hz)
set_option maxHeartbeats 4000000 in
theorem cStI {post : Int32 → Unit → Prop} (As rest : List Value) (FX : CallFix p m c cc nL s args Ts own) (hK : KK D y s) (hM : CtI l D y x ws rm As [] post (fun _ => []) (fun _ => False)) (cw : CallB R s args own index x bytes maxL ret ws rm 0 0 n ∧ (Cond.static x).before args s = true)
    (hst : st = As.reverse ++ rest) (hn : As.length = n) (hl : lv_has ls nL lv) (hroom : (rest.map fun v => v.category).sum ≤ 8) (hdg : decode cc pc = .ok (.invokestatic index, 3)) (hf : cells ≤ R.cells ∧ slots ≤ R.slots) (hP : va_P D vwCl pre H) (hS : va_S A0 H0 H locs)
    (k : ∀ (r : Int32) (H1 : Heap) (locs1 : List Loc), post r () → va_P D vwCl pre H1 → va_S A0 H0 H1 locs1 → W p l e R s m args below meth c H1 locs1 cells slots Q (F0 m (pc + 3) ls (.int r :: rest))) :
    W p l e R s m args below meth c H locs cells slots Q (F0 m pc ls st) :=
  va_calli (va_runS (As := As) (rest := rest) FX hM cw ⟨CPre.blind, CPre.at hK (fun k q h => by simp at h)⟩ rfl hn hl.1 hst (lv_room hroom) hdg hf) hS (fun q _ h => h.elim) (fun q h => h.elim) (fun r u t H1 locs1 ht _ hp hB hz hk hS1 => k r H1 locs1 hp (hP.kept (fun i q hi => hk q.1 (hP i q hi).lt (fun h => h))) hS1)
set_option maxHeartbeats 4000000 in
theorem cSnI {host : String} {post : Int32 → Unit → Prop} (As rest : List Value) (FX : CallFix p m c cc nL s args Ts own) (hK : KK D y s) (hM : CtI l D y x ws rm As [] post (fun _ => []) (fun _ => False)) (cw : va_CN R s args own index x host bytes maxL ret ws rm 0 0 n ∧ (Cond.static x).before args s = true ∧ True)
    (hst : st = As.reverse ++ rest) (hn : As.length = n) (hl : lv_has ls nL lv) (hroom : (rest.map fun v => v.category).sum ≤ 8) (hdg : decode cc pc = .ok (.invokestatic index, 3)) (hf : cells ≤ R.cells ∧ slots ≤ R.slots) (hP : va_P D vwCl pre H) (hS : va_S A0 H0 H locs)
    (k : ∀ (r : Int32) (H1 : Heap) (locs1 : List Loc), post r () → va_P D vwCl pre H1 → va_S A0 H0 H1 locs1 → W p l e R s m args below meth c H1 locs1 cells slots Q (F0 m (pc + 3) ls (.int r :: rest))) :
    W p l e R s m args below meth c H locs cells slots Q (F0 m pc ls st) :=
  va_calli (va_runSN (As := As) (rest := rest) FX hM cw ⟨CPre.blind, CPre.at hK (fun k q h => by simp at h)⟩ rfl hn hl.1 hst (lv_room hroom) hdg hf) hS (fun q _ h => h.elim) (fun q h => h.elim) (fun r u t H1 locs1 ht _ hp hB hz hk hS1 => k r H1 locs1 hp (hP.kept (fun i q hi => hk q.1 (hP i q hi).lt (fun h => h))) hS1)
end CALLS
/-! truth as a number -/
noncomputable def b2 (p : Prop) : Int32 := @ite _ p (Classical.propDecidable p) (nI 1) (nI 0)
theorem b2_t {p : Prop} (h : p) : b2 p = nI 1 := by unfold b2; rw [if_pos h]
theorem b2_f {p : Prop} (h : ¬ p) : b2 p = nI 0 := by unfold b2; rw [if_neg h]
theorem b2_01 (p : Prop) : b2 p = 0 ∨ b2 p = 1 := by
  by_cases h : p
  · exact Or.inr (b2_t h)
  · exact Or.inl (b2_f h)
theorem b2_iff {p q : Prop} (h : p ↔ q) : b2 p = b2 q := by rw [propext h]
theorem b2_1 {p : Prop} (h : p) : nI 1 = b2 p := (b2_t h).symm
theorem b2_0 {p : Prop} (h : ¬ p) : nI 0 = b2 p := (b2_f h).symm
theorem b2_e0 {p : Prop} : b2 p = 0 ↔ ¬ p := by
  by_cases h : p
  · rw [b2_t h]; exact ⟨fun q => absurd q (by decide), fun q => absurd h q⟩
  · rw [b2_f h]; exact ⟨fun _ => h, fun _ => rfl⟩
theorem xn_inc (i k : Nat) : nI i + Int32.ofInt (k : Int) = nI (i + k) := by
  rw [← nI_add]; congr 1
theorem xn_dec (i : Nat) : nI (i + 1) + Int32.ofInt (-1) = nI i := pk_m1 i
/-! numbers as Nats on the stack -/
section NI
variable {p : Program} {l : Launch} {e : Env} {R : Room} {s : State} {m : MethodId} {args : Array Value} {below : List Frame} {meth : Method} {c : Code} {H : Heap} {locs : List Loc} {cells slots : Nat} {Q : State → Prop}
variable {cc : ByteArray} {pc : Nat} {ls : Array Slot} {rest : List Value}
theorem xn_iadd (hexec : p.tables.exec = Jvm.exec) (hb : c.code = cc) {a b : Nat} (hdg : decode cc pc = .ok (.iadd, 1)) (k : W p l e R s m args below meth c H locs cells slots Q (F0 m (pc + 1) ls (.int (nI (a + b)) :: rest))) : W p l e R s m args below meth c H locs cells slots Q (F0 m pc ls (.int (nI b) :: .int (nI a) :: rest)) := by
  refine lv_iadd hexec hb hdg ?_
  rw [nI_add]; exact k
theorem xn_isub (hexec : p.tables.exec = Jvm.exec) (hb : c.code = cc) {a b : Nat} (h : b ≤ a) (hdg : decode cc pc = .ok (.isub, 1)) (k : W p l e R s m args below meth c H locs cells slots Q (F0 m (pc + 1) ls (.int (nI (a - b)) :: rest))) : W p l e R s m args below meth c H locs cells slots Q (F0 m pc ls (.int (nI b) :: .int (nI a) :: rest)) := by
  refine lv_isub hexec hb hdg ?_
  rw [pk_sub h]; exact k
theorem xn_imul (hexec : p.tables.exec = Jvm.exec) (hb : c.code = cc) {a b : Nat} (hdg : decode cc pc = .ok (.imul, 1)) (k : W p l e R s m args below meth c H locs cells slots Q (F0 m (pc + 1) ls (.int (nI (a * b)) :: rest))) : W p l e R s m args below meth c H locs cells slots Q (F0 m pc ls (.int (nI b) :: .int (nI a) :: rest)) := by
  refine lv_imul hexec hb hdg ?_
  rw [pk_mul]; exact k
theorem xn_to (hexec : p.tables.exec = Jvm.exec) {x z : Int32} (h : x = z) (k : W p l e R s m args below meth c H locs cells slots Q (F0 m pc ls (.int z :: rest))) : W p l e R s m args below meth c H locs cells slots Q (F0 m pc ls (.int x :: rest)) := by
  rw [h]; exact k
theorem xn_idiv (hexec : p.tables.exec = Jvm.exec) (hb : c.code = cc) {a b : Nat} (h1 : 0 < b) (h2 : a < 2 ^ 31) (h3 : b < 2 ^ 31) (hdg : decode cc pc = .ok (.idiv, 1)) (k : W p l e R s m args below meth c H locs cells slots Q (F0 m (pc + 1) ls (.int (nI (a / b)) :: rest))) : W p l e R s m args below meth c H locs cells slots Q (F0 m pc ls (.int (nI b) :: .int (nI a) :: rest)) := by
  refine lv_idiv hexec hb hdg (nI_ne0 h1 h3) ?_
  rw [pk_div h2 h1 h3]; exact k
theorem xn_irem (hexec : p.tables.exec = Jvm.exec) (hb : c.code = cc) {a b : Nat} (h1 : 0 < b) (h2 : a < 2 ^ 31) (h3 : b < 2 ^ 31) (hdg : decode cc pc = .ok (.irem, 1)) (k : W p l e R s m args below meth c H locs cells slots Q (F0 m (pc + 1) ls (.int (nI (a % b)) :: rest))) : W p l e R s m args below meth c H locs cells slots Q (F0 m pc ls (.int (nI b) :: .int (nI a) :: rest)) := by
  refine lv_irem hexec hb hdg (nI_ne0 h1 h3) ?_
  rw [pk_rem h2 h1 h3]; exact k
theorem xn_icmp_eq (hexec : p.tables.exec = Jvm.exec) (hb : c.code = cc) {a b : Nat} (ha : a < 2 ^ 31) (hb2 : b < 2 ^ 31) {off : Int} {tgt : Nat} (hdg : decode cc pc = .ok (.if_icmp .eq off, 3)) (ht : (pc : Int) + off = (tgt : Int)) (kt : a = b → W p l e R s m args below meth c H locs cells slots Q (F0 m tgt ls rest)) (kf : ¬ a = b → W p l e R s m args below meth c H locs cells slots Q (F0 m (pc + 3) ls rest)) : W p l e R s m args below meth c H locs cells slots Q (F0 m pc ls (.int (nI b) :: .int (nI a) :: rest)) :=
  lv_icmp_eq hexec hb hdg ht (fun h => kt ((nI_eq ha hb2).mp h)) (fun h => kf (fun q => h ((nI_eq ha hb2).mpr q)))
theorem xn_icmp_ne (hexec : p.tables.exec = Jvm.exec) (hb : c.code = cc) {a b : Nat} (ha : a < 2 ^ 31) (hb2 : b < 2 ^ 31) {off : Int} {tgt : Nat} (hdg : decode cc pc = .ok (.if_icmp .ne off, 3)) (ht : (pc : Int) + off = (tgt : Int)) (kt : ¬ a = b → W p l e R s m args below meth c H locs cells slots Q (F0 m tgt ls rest)) (kf : a = b → W p l e R s m args below meth c H locs cells slots Q (F0 m (pc + 3) ls rest)) : W p l e R s m args below meth c H locs cells slots Q (F0 m pc ls (.int (nI b) :: .int (nI a) :: rest)) :=
  lv_icmp_ne hexec hb hdg ht (fun h => kt (fun q => h ((nI_eq ha hb2).mpr q))) (fun h => kf ((nI_eq ha hb2).mp h))
theorem xn_icmp_lt (hexec : p.tables.exec = Jvm.exec) (hb : c.code = cc) {a b : Nat} (ha : a < 2 ^ 31) (hb2 : b < 2 ^ 31) {off : Int} {tgt : Nat} (hdg : decode cc pc = .ok (.if_icmp .lt off, 3)) (ht : (pc : Int) + off = (tgt : Int)) (kt : a < b → W p l e R s m args below meth c H locs cells slots Q (F0 m tgt ls rest)) (kf : b ≤ a → W p l e R s m args below meth c H locs cells slots Q (F0 m (pc + 3) ls rest)) : W p l e R s m args below meth c H locs cells slots Q (F0 m pc ls (.int (nI b) :: .int (nI a) :: rest)) :=
  lv_icmp_lt hexec hb hdg ht (fun h => kt ((nI_ltI ha hb2).mp h)) (fun h => kf (Nat.le_of_not_lt (fun q => h ((nI_ltI ha hb2).mpr q))))
theorem xn_icmp_ge (hexec : p.tables.exec = Jvm.exec) (hb : c.code = cc) {a b : Nat} (ha : a < 2 ^ 31) (hb2 : b < 2 ^ 31) {off : Int} {tgt : Nat} (hdg : decode cc pc = .ok (.if_icmp .ge off, 3)) (ht : (pc : Int) + off = (tgt : Int)) (kt : b ≤ a → W p l e R s m args below meth c H locs cells slots Q (F0 m tgt ls rest)) (kf : a < b → W p l e R s m args below meth c H locs cells slots Q (F0 m (pc + 3) ls rest)) : W p l e R s m args below meth c H locs cells slots Q (F0 m pc ls (.int (nI b) :: .int (nI a) :: rest)) :=
  lv_icmp_ge hexec hb hdg ht (fun h => kt ((nI_leI hb2 ha).mp h)) (fun h => kf (Nat.lt_of_not_le (fun q => h ((nI_leI hb2 ha).mpr q))))
theorem xn_icmp_gt (hexec : p.tables.exec = Jvm.exec) (hb : c.code = cc) {a b : Nat} (ha : a < 2 ^ 31) (hb2 : b < 2 ^ 31) {off : Int} {tgt : Nat} (hdg : decode cc pc = .ok (.if_icmp .gt off, 3)) (ht : (pc : Int) + off = (tgt : Int)) (kt : b < a → W p l e R s m args below meth c H locs cells slots Q (F0 m tgt ls rest)) (kf : a ≤ b → W p l e R s m args below meth c H locs cells slots Q (F0 m (pc + 3) ls rest)) : W p l e R s m args below meth c H locs cells slots Q (F0 m pc ls (.int (nI b) :: .int (nI a) :: rest)) :=
  lv_icmp_gt hexec hb hdg ht (fun h => kt ((nI_ltI hb2 ha).mp h)) (fun h => kf (Nat.le_of_not_lt (fun q => h ((nI_ltI hb2 ha).mpr q))))
theorem xn_icmp_le (hexec : p.tables.exec = Jvm.exec) (hb : c.code = cc) {a b : Nat} (ha : a < 2 ^ 31) (hb2 : b < 2 ^ 31) {off : Int} {tgt : Nat} (hdg : decode cc pc = .ok (.if_icmp .le off, 3)) (ht : (pc : Int) + off = (tgt : Int)) (kt : a ≤ b → W p l e R s m args below meth c H locs cells slots Q (F0 m tgt ls rest)) (kf : b < a → W p l e R s m args below meth c H locs cells slots Q (F0 m (pc + 3) ls rest)) : W p l e R s m args below meth c H locs cells slots Q (F0 m pc ls (.int (nI b) :: .int (nI a) :: rest)) :=
  lv_icmp_le hexec hb hdg ht (fun h => kt ((nI_leI ha hb2).mp h)) (fun h => kf (Nat.lt_of_not_le (fun q => h ((nI_leI ha hb2).mpr q))))
theorem xn_if_eq (hexec : p.tables.exec = Jvm.exec) (hb : c.code = cc) {a : Nat} (ha : a < 2 ^ 31) {off : Int} {tgt : Nat} (hdg : decode cc pc = .ok (.ifCond .eq off, 3)) (ht : (pc : Int) + off = (tgt : Int)) (kt : a = 0 → W p l e R s m args below meth c H locs cells slots Q (F0 m tgt ls rest)) (kf : 0 < a → W p l e R s m args below meth c H locs cells slots Q (F0 m (pc + 3) ls rest)) : W p l e R s m args below meth c H locs cells slots Q (F0 m pc ls (.int (nI a) :: rest)) :=
  lv_if_eq hexec hb hdg ht (fun h => kt (Nat.eq_zero_of_not_pos (fun q => nI_ne0 q ha h))) (fun h => kf (Nat.pos_of_ne_zero (fun q => h (by rw [q]; rfl))))
theorem xn_if_ne (hexec : p.tables.exec = Jvm.exec) (hb : c.code = cc) {a : Nat} (ha : a < 2 ^ 31) {off : Int} {tgt : Nat} (hdg : decode cc pc = .ok (.ifCond .ne off, 3)) (ht : (pc : Int) + off = (tgt : Int)) (kt : 0 < a → W p l e R s m args below meth c H locs cells slots Q (F0 m tgt ls rest)) (kf : a = 0 → W p l e R s m args below meth c H locs cells slots Q (F0 m (pc + 3) ls rest)) : W p l e R s m args below meth c H locs cells slots Q (F0 m pc ls (.int (nI a) :: rest)) :=
  lv_if_ne hexec hb hdg ht (fun h => kt (Nat.pos_of_ne_zero (fun q => h (by rw [q]; rfl)))) (fun h => kf (Nat.eq_zero_of_not_pos (fun q => nI_ne0 q ha h)))
theorem xn_if_lt (hexec : p.tables.exec = Jvm.exec) (hb : c.code = cc) {a : Nat} (ha : a < 2 ^ 31) {off : Int} {tgt : Nat} (hdg : decode cc pc = .ok (.ifCond .lt off, 3)) (ht : (pc : Int) + off = (tgt : Int)) (kt : False → W p l e R s m args below meth c H locs cells slots Q (F0 m tgt ls rest)) (kf : True → W p l e R s m args below meth c H locs cells slots Q (F0 m (pc + 3) ls rest)) : W p l e R s m args below meth c H locs cells slots Q (F0 m pc ls (.int (nI a) :: rest)) :=
  lv_if_lt hexec hb hdg ht (fun h => (nI_pos ha h).elim) (fun h => kf trivial)
theorem xn_if_ge (hexec : p.tables.exec = Jvm.exec) (hb : c.code = cc) {a : Nat} (ha : a < 2 ^ 31) {off : Int} {tgt : Nat} (hdg : decode cc pc = .ok (.ifCond .ge off, 3)) (ht : (pc : Int) + off = (tgt : Int)) (kt : True → W p l e R s m args below meth c H locs cells slots Q (F0 m tgt ls rest)) (kf : False → W p l e R s m args below meth c H locs cells slots Q (F0 m (pc + 3) ls rest)) : W p l e R s m args below meth c H locs cells slots Q (F0 m pc ls (.int (nI a) :: rest)) :=
  lv_if_ge hexec hb hdg ht (fun h => kt trivial) (fun h => (h (nI_pos' ha)).elim)
theorem xn_if_gt (hexec : p.tables.exec = Jvm.exec) (hb : c.code = cc) {a : Nat} (ha : a < 2 ^ 31) {off : Int} {tgt : Nat} (hdg : decode cc pc = .ok (.ifCond .gt off, 3)) (ht : (pc : Int) + off = (tgt : Int)) (kt : 0 < a → W p l e R s m args below meth c H locs cells slots Q (F0 m tgt ls rest)) (kf : a = 0 → W p l e R s m args below meth c H locs cells slots Q (F0 m (pc + 3) ls rest)) : W p l e R s m args below meth c H locs cells slots Q (F0 m pc ls (.int (nI a) :: rest)) :=
  lv_if_gt hexec hb hdg ht (fun h => kt (Nat.pos_of_ne_zero (fun q => by rw [q] at h; exact absurd h (by decide)))) (fun h => kf (Nat.eq_zero_of_not_pos (fun q => h (nI_lt q ha))))
theorem xn_if_le (hexec : p.tables.exec = Jvm.exec) (hb : c.code = cc) {a : Nat} (ha : a < 2 ^ 31) {off : Int} {tgt : Nat} (hdg : decode cc pc = .ok (.ifCond .le off, 3)) (ht : (pc : Int) + off = (tgt : Int)) (kt : a = 0 → W p l e R s m args below meth c H locs cells slots Q (F0 m tgt ls rest)) (kf : 0 < a → W p l e R s m args below meth c H locs cells slots Q (F0 m (pc + 3) ls rest)) : W p l e R s m args below meth c H locs cells slots Q (F0 m pc ls (.int (nI a) :: rest)) :=
  lv_if_le hexec hb hdg ht (fun h => kt (Nat.eq_zero_of_not_pos (fun q => nI_nle q ha h))) (fun h => kf (Nat.pos_of_ne_zero (fun q => h (by rw [q]; decide))))
theorem xb_eq (hexec : p.tables.exec = Jvm.exec) (hb : c.code = cc) {q : Prop} {off : Int} {tgt : Nat} (hdg : decode cc pc = .ok (.ifCond .eq off, 3)) (ht : (pc : Int) + off = (tgt : Int)) (kt : ¬ q → W p l e R s m args below meth c H locs cells slots Q (F0 m tgt ls rest)) (kf : q → W p l e R s m args below meth c H locs cells slots Q (F0 m (pc + 3) ls rest)) : W p l e R s m args below meth c H locs cells slots Q (F0 m pc ls (.int (b2 q) :: rest)) :=
  lv_if_eq hexec hb hdg ht (fun h => kt (b2_e0.mp h)) (fun h => kf (Classical.byContradiction (fun z => h (b2_e0.mpr z))))
theorem xb_ne (hexec : p.tables.exec = Jvm.exec) (hb : c.code = cc) {q : Prop} {off : Int} {tgt : Nat} (hdg : decode cc pc = .ok (.ifCond .ne off, 3)) (ht : (pc : Int) + off = (tgt : Int)) (kt : q → W p l e R s m args below meth c H locs cells slots Q (F0 m tgt ls rest)) (kf : ¬ q → W p l e R s m args below meth c H locs cells slots Q (F0 m (pc + 3) ls rest)) : W p l e R s m args below meth c H locs cells slots Q (F0 m pc ls (.int (b2 q) :: rest)) :=
  lv_if_ne hexec hb hdg ht (fun h => kt (Classical.byContradiction (fun z => h (b2_e0.mpr z)))) (fun h => kf (b2_e0.mp h))
end NI
theorem sw_out2 {x : Int32} (h0 : ¬ x = 0) (h1 : ¬ x = 1) (h2 : ¬ x = 2) : x.toInt < 0 ∨ 2 < x.toInt := by
  have e0 := lv_neT h0 (a := 0) rfl
  have e1 := lv_neT h1 (a := 1) rfl
  have e2 := lv_neT h2 (a := 2) rfl
  omega
theorem sw_out3 {x : Int32} (h0 : ¬ x = 0) (h1 : ¬ x = 1) (h2 : ¬ x = 2) (h3 : ¬ x = 3) : x.toInt < 0 ∨ 3 < x.toInt := by
  have e0 := lv_neT h0 (a := 0) rfl
  have e1 := lv_neT h1 (a := 1) rfl
  have e2 := lv_neT h2 (a := 2) rfl
  have e3 := lv_neT h3 (a := 3) rfl
  omega
theorem sw_out4 {x : Int32} (h0 : ¬ x = 0) (h1 : ¬ x = 1) (h2 : ¬ x = 2) (h3 : ¬ x = 3) (h4 : ¬ x = 4) : x.toInt < 0 ∨ 4 < x.toInt := by
  have e0 := lv_neT h0 (a := 0) rfl
  have e1 := lv_neT h1 (a := 1) rfl
  have e2 := lv_neT h2 (a := 2) rfl
  have e3 := lv_neT h3 (a := 3) rfl
  have e4 := lv_neT h4 (a := 4) rfl
  omega
theorem sw_out6 {x : Int32} (h0 : ¬ x = 0) (h1 : ¬ x = 1) (h2 : ¬ x = 2) (h3 : ¬ x = 3) (h4 : ¬ x = 4) (h5 : ¬ x = 5) (h6 : ¬ x = 6) : x.toInt < 0 ∨ 6 < x.toInt := by
  have e0 := lv_neT h0 (a := 0) rfl
  have e1 := lv_neT h1 (a := 1) rfl
  have e2 := lv_neT h2 (a := 2) rfl
  have e3 := lv_neT h3 (a := 3) rfl
  have e4 := lv_neT h4 (a := 4) rfl
  have e5 := lv_neT h5 (a := 5) rfl
  have e6 := lv_neT h6 (a := 6) rfl
  omega
theorem sw_out34 {x : Int32} (h0 : ¬ x = 0) (h1 : ¬ x = 1) (h2 : ¬ x = 2) (h3 : ¬ x = 3) (h4 : ¬ x = 4) (h5 : ¬ x = 5) (h6 : ¬ x = 6) (h7 : ¬ x = 7) (h8 : ¬ x = 8) (h9 : ¬ x = 9) (h10 : ¬ x = 10) (h11 : ¬ x = 11) (h12 : ¬ x = 12) (h13 : ¬ x = 13) (h14 : ¬ x = 14) (h15 : ¬ x = 15) (h16 : ¬ x = 16) (h17 : ¬ x = 17) (h18 : ¬ x = 18) (h19 : ¬ x = 19) (h20 : ¬ x = 20) (h21 : ¬ x = 21) (h22 : ¬ x = 22) (h23 : ¬ x = 23) (h24 : ¬ x = 24) (h25 : ¬ x = 25) (h26 : ¬ x = 26) (h27 : ¬ x = 27) (h28 : ¬ x = 28) (h29 : ¬ x = 29) (h30 : ¬ x = 30) (h31 : ¬ x = 31) (h32 : ¬ x = 32) (h33 : ¬ x = 33) (h34 : ¬ x = 34) : x.toInt < 0 ∨ 34 < x.toInt := by
  have e0 := lv_neT h0 (a := 0) rfl
  have e1 := lv_neT h1 (a := 1) rfl
  have e2 := lv_neT h2 (a := 2) rfl
  have e3 := lv_neT h3 (a := 3) rfl
  have e4 := lv_neT h4 (a := 4) rfl
  have e5 := lv_neT h5 (a := 5) rfl
  have e6 := lv_neT h6 (a := 6) rfl
  have e7 := lv_neT h7 (a := 7) rfl
  have e8 := lv_neT h8 (a := 8) rfl
  have e9 := lv_neT h9 (a := 9) rfl
  have e10 := lv_neT h10 (a := 10) rfl
  have e11 := lv_neT h11 (a := 11) rfl
  have e12 := lv_neT h12 (a := 12) rfl
  have e13 := lv_neT h13 (a := 13) rfl
  have e14 := lv_neT h14 (a := 14) rfl
  have e15 := lv_neT h15 (a := 15) rfl
  have e16 := lv_neT h16 (a := 16) rfl
  have e17 := lv_neT h17 (a := 17) rfl
  have e18 := lv_neT h18 (a := 18) rfl
  have e19 := lv_neT h19 (a := 19) rfl
  have e20 := lv_neT h20 (a := 20) rfl
  have e21 := lv_neT h21 (a := 21) rfl
  have e22 := lv_neT h22 (a := 22) rfl
  have e23 := lv_neT h23 (a := 23) rfl
  have e24 := lv_neT h24 (a := 24) rfl
  have e25 := lv_neT h25 (a := 25) rfl
  have e26 := lv_neT h26 (a := 26) rfl
  have e27 := lv_neT h27 (a := 27) rfl
  have e28 := lv_neT h28 (a := 28) rfl
  have e29 := lv_neT h29 (a := 29) rfl
  have e30 := lv_neT h30 (a := 30) rfl
  have e31 := lv_neT h31 (a := 31) rfl
  have e32 := lv_neT h32 (a := 32) rfl
  have e33 := lv_neT h33 (a := 33) rfl
  have e34 := lv_neT h34 (a := 34) rfl
  omega
end
section
/-! THE WORLDS: the class (44 cells at a 0 .. a 43) and the reference (26 cells at a 0 .. a 25), as functions of the state; a row for each field and array. Printed by gen1.py -/
def wC (y : Nat → ClassId) (a : Nat → Nat) (P X : PT) (row : Value) : va_W := [(a 0, .inr (8, [.ref (a 1), .ref (a 10), .ref (a 14), .ref (a 36), .ref (a 39), .ref (a 40), .int (P.1 9), .int (P.1 10)])), (a 1, .inl (y 4, 4, .inr (.inr (.inr (.inr (fun i => some (a (2 + i)))))))), (a 2, .inr (4, [.ref (a 6), .int (P.2 12 0), .int (P.2 13 0)])), (a 3, .inr (4, [.ref (a 7), .int (P.2 12 1), .int (P.2 13 1)])), (a 4, .inr (4, [.ref (a 8), .int (P.2 12 2), .int (P.2 13 2)])), (a 5, .inr (4, [.ref (a 9), .int (P.2 12 3), .int (P.2 13 3)])), (a 6, .inl (y 0, 100, .inl (P.2 14))), (a 7, .inl (y 0, 100, .inl (P.2 15))), (a 8, .inl (y 0, 100, .inl (P.2 16))), (a 9, .inl (y 0, 100, .inl (P.2 17))), (a 10, .inr (6, [.ref (a 11), .ref (a 12), .ref (a 13), .int (X.1 0), .int (X.1 1), .int (X.1 2), .int (X.1 3), .int (X.1 4), row, .int (X.1 5), .int (X.1 6)])), (a 11, .inl (y 0, 30, .inl (X.2 0))), (a 12, .inl (y 0, 30, .inl (X.2 1))), (a 13, .inl (y 0, 30, .inl (X.2 2))), (a 14, .inr (2, [.ref (a 15), .ref (a 16), .ref (a 17), .ref (a 18), .ref (a 19), .int (P.1 0), .int (P.1 1), .int (P.1 2), .int (P.1 3), .int (P.1 4), .int (P.1 5), .int (P.1 6), .int (P.1 7)])), (a 15, .inl (y 0, 30, .inl (P.2 0))), (a 16, .inl (y 0, 30, .inl (P.2 1))), (a 17, .inl (y 0, 30, .inl (P.2 2))), (a 18, .inl (y 2, 8, .inr (.inr (.inr (.inr (fun i => some (a (20 + i)))))))), (a 19, .inl (y 3, 8, .inr (.inr (.inr (.inr (fun i => some (a (28 + i)))))))), (a 20, .inr (1, [.int (P.2 3 0), .int (P.2 4 0), .int (P.2 5 0), .int (P.2 6 0)])), (a 21, .inr (1, [.int (P.2 3 1), .int (P.2 4 1), .int (P.2 5 1), .int (P.2 6 1)])), (a 22, .inr (1, [.int (P.2 3 2), .int (P.2 4 2), .int (P.2 5 2), .int (P.2 6 2)])), (a 23, .inr (1, [.int (P.2 3 3), .int (P.2 4 3), .int (P.2 5 3), .int (P.2 6 3)])), (a 24, .inr (1, [.int (P.2 3 4), .int (P.2 4 4), .int (P.2 5 4), .int (P.2 6 4)])), (a 25, .inr (1, [.int (P.2 3 5), .int (P.2 4 5), .int (P.2 5 5), .int (P.2 6 5)])), (a 26, .inr (1, [.int (P.2 3 6), .int (P.2 4 6), .int (P.2 5 6), .int (P.2 6 6)])), (a 27, .inr (1, [.int (P.2 3 7), .int (P.2 4 7), .int (P.2 5 7), .int (P.2 6 7)])), (a 28, .inr (7, [.int (P.2 7 0), .int (P.2 8 0)])), (a 29, .inr (7, [.int (P.2 7 1), .int (P.2 8 1)])), (a 30, .inr (7, [.int (P.2 7 2), .int (P.2 8 2)])), (a 31, .inr (7, [.int (P.2 7 3), .int (P.2 8 3)])), (a 32, .inr (7, [.int (P.2 7 4), .int (P.2 8 4)])), (a 33, .inr (7, [.int (P.2 7 5), .int (P.2 8 5)])), (a 34, .inr (7, [.int (P.2 7 6), .int (P.2 8 6)])), (a 35, .inr (7, [.int (P.2 7 7), .int (P.2 8 7)])), (a 36, .inr (5, [.ref (a 37), .ref (a 38), .int (X.1 7), .ref (a 14)])), (a 37, .inl (y 0, 30, .inl (X.2 3))), (a 38, .inl (y 0, 8, .inl (X.2 4))), (a 39, .inr (0, [.ref (a 14), .ref (a 36)])), (a 40, .inr (3, [.int (P.1 8), .ref (a 41), .ref (a 42), .ref (a 43), .ref (a 14), .ref (a 36)])), (a 41, .inl (y 0, 8, .inl (P.2 9))), (a 42, .inl (y 0, 8, .inl (P.2 10))), (a 43, .inl (y 0, 8, .inl (P.2 11)))]
def wM (y : Nat → ClassId) (a : Nat → Nat) (P : PT) : va_W := [(a 0, .inr (9, [.int (P.1 10), .int (P.1 11), .int (P.1 0), .ref (a 1), .ref (a 2), .ref (a 3), .int (P.1 2), .ref (a 4), .ref (a 5), .ref (a 6), .ref (a 7), .int (P.1 3), .ref (a 8), .ref (a 9), .ref (a 10), .int (P.1 5), .int (P.1 6), .int (P.1 7), .int (P.1 12), .int (P.1 13), .int (P.1 14), .int (P.1 15), .int (P.1 16), .ref (a 11), .ref (a 12), .ref (a 13), .ref (a 14), .ref (a 15), .ref (a 16), .ref (a 17), .ref (a 18), .int (P.1 17), .int (P.1 8), .ref (a 19), .ref (a 20), .ref (a 21), .ref (a 22), .ref (a 23), .ref (a 24), .ref (a 25), .int (P.1 9)])), (a 1, .inl (y 0, 30, .inl (P.2 0))), (a 2, .inl (y 0, 30, .inl (P.2 2))), (a 3, .inl (y 0, 30, .inl (P.2 1))), (a 4, .inl (y 0, 9, .inl (P.2 3))), (a 5, .inl (y 0, 9, .inl (P.2 4))), (a 6, .inl (y 0, 9, .inl (P.2 5))), (a 7, .inl (y 0, 9, .inl (P.2 6))), (a 8, .inl (y 0, 8, .inl (P.2 7))), (a 9, .inl (y 0, 8, .inl (P.2 8))), (a 10, .inl (y 1, 8, .inl (P.2 19))), (a 11, .inl (y 0, 30, .inl (P.2 20))), (a 12, .inl (y 0, 30, .inl (P.2 21))), (a 13, .inl (y 0, 8, .inl (P.2 22))), (a 14, .inl (y 0, 8, .inl (P.2 23))), (a 15, .inl (y 0, 8, .inl (P.2 24))), (a 16, .inl (y 0, 8, .inl (P.2 25))), (a 17, .inl (y 0, 8, .inl (P.2 26))), (a 18, .inl (y 0, 8, .inl (P.2 27))), (a 19, .inl (y 0, 8, .inl (P.2 9))), (a 20, .inl (y 0, 8, .inl (P.2 10))), (a 21, .inl (y 0, 8, .inl (P.2 11))), (a 22, .inl (y 0, 4, .inl (P.2 13))), (a 23, .inl (y 0, 4, .inl (P.2 12))), (a 24, .inl (y 0, 400, .inl (P.2 18))), (a 25, .inl (y 0, 100, .inl (P.2 28)))]
def AC (a : Nat → Nat) : Nat → Prop := fun q => ∃ i, i < 44 ∧ q = a i
def AM (a : Nat → Nat) : Nat → Prop := fun q => ∃ i, i < 26 ∧ q = a i
def CA (a : Nat → Nat) (n : Nat) : Prop := ∀ i j, i < n → j < n → a i = a j → i = j
theorem wD_of {ws : va_W} {a : Nat → Nat} {n : Nat} (h : ws.map (fun q => q.1) = (List.range n).map a) (hA : CA a n) : va_D (fun q => ∃ i, i < n ∧ q = a i) ws := by
  have key : ∀ (k : Nat) (q : Nat × va_E), ws[k]? = some q → k < n ∧ q.1 = a k := by
    intro k q hk
    have h1 : (ws.map (fun q => q.1))[k]? = some q.1 := by rw [List.getElem?_map, hk]; rfl
    rw [h, List.getElem?_map] at h1
    by_cases hkn : k < n
    · rw [List.getElem?_range hkn] at h1
      exact ⟨hkn, (Option.some.inj h1).symm⟩
    · rw [List.getElem?_eq_none (by simpa using Nat.le_of_not_lt hkn)] at h1
      cases h1
  refine ⟨fun i j p q hi hj hpq => ?_, fun k q hk => ⟨k, key k q hk⟩⟩
  obtain ⟨h1, e1⟩ := key i p hi
  obtain ⟨h2, e2⟩ := key j q hj
  exact hA i j h1 h2 (by rw [← e1, ← e2, hpq])
theorem wC_D {y : Nat → ClassId} {a : Nat → Nat} {P X : PT} {row : Value} (hA : CA a 44) : va_D (AC a) (wC y a P X row) := wD_of (n := 44) rfl hA
theorem wM_D {y : Nat → ClassId} {a : Nat → Nat} {P : PT} (hA : CA a 26) : va_D (AM a) (wM y a P) := wD_of (n := 26) rfl hA
theorem wC_house (y : Nat → ClassId) (a : Nat → Nat) (P X : PT) (row : Value) : ∀ h, h < 8 → (wC y a P X row)[20 + h]? = some (a (20 + h), .inr (1, [.int (P.2 3 h), .int (P.2 4 h), .int (P.2 5 h), .int (P.2 6 h)]))
  | 0, _ => rfl
  | 1, _ => rfl
  | 2, _ => rfl
  | 3, _ => rfl
  | 4, _ => rfl
  | 5, _ => rfl
  | 6, _ => rfl
  | 7, _ => rfl
  | h + 8, q => absurd q (by omega)
theorem wC_tree (y : Nat → ClassId) (a : Nat → Nat) (P X : PT) (row : Value) : ∀ h, h < 8 → (wC y a P X row)[28 + h]? = some (a (28 + h), .inr (7, [.int (P.2 7 h), .int (P.2 8 h)]))
  | 0, _ => rfl
  | 1, _ => rfl
  | 2, _ => rfl
  | 3, _ => rfl
  | 4, _ => rfl
  | 5, _ => rfl
  | 6, _ => rfl
  | 7, _ => rfl
  | h + 8, q => absurd q (by omega)
theorem wC_sheet (y : Nat → ClassId) (a : Nat → Nat) (P X : PT) (row : Value) : ∀ h, h < 4 → (wC y a P X row)[2 + h]? = some (a (2 + h), .inr (4, [.ref (a (6 + h)), .int (P.2 12 h), .int (P.2 13 h)]))
  | 0, _ => rfl
  | 1, _ => rfl
  | 2, _ => rfl
  | 3, _ => rfl
  | h + 4, q => absurd q (by omega)
theorem wC_cells (y : Nat → ClassId) (a : Nat → Nat) (P X : PT) (row : Value) : ∀ h, h < 4 → (wC y a P X row)[6 + h]? = some (a (6 + h), .inl (y 0, 100, .inl (P.2 (14 + h))))
  | 0, _ => rfl
  | 1, _ => rfl
  | 2, _ => rfl
  | 3, _ => rfl
  | h + 4, q => absurd q (by omega)
set_option maxHeartbeats 4000000 in
set_option maxRecDepth 100000 in
theorem wC_house_s0 (y : Nat → ClassId) (a : Nat → Nat) (P X : PT) (row : Value) (v : Int32) : ∀ h, h < 8 → (wC y a P X row).set (20 + h) (a (20 + h), .inr (1, [.int (P.2 3 h), .int (P.2 4 h), .int (P.2 5 h), .int (P.2 6 h)].set 0 (.int v))) = wC y a (pa P 3 h v) X row
  | 0, _ => rfl
  | 1, _ => rfl
  | 2, _ => rfl
  | 3, _ => rfl
  | 4, _ => rfl
  | 5, _ => rfl
  | 6, _ => rfl
  | 7, _ => rfl
  | h + 8, q => absurd q (by omega)
set_option maxHeartbeats 4000000 in
set_option maxRecDepth 100000 in
theorem wC_house_s1 (y : Nat → ClassId) (a : Nat → Nat) (P X : PT) (row : Value) (v : Int32) : ∀ h, h < 8 → (wC y a P X row).set (20 + h) (a (20 + h), .inr (1, [.int (P.2 3 h), .int (P.2 4 h), .int (P.2 5 h), .int (P.2 6 h)].set 1 (.int v))) = wC y a (pa P 4 h v) X row
  | 0, _ => rfl
  | 1, _ => rfl
  | 2, _ => rfl
  | 3, _ => rfl
  | 4, _ => rfl
  | 5, _ => rfl
  | 6, _ => rfl
  | 7, _ => rfl
  | h + 8, q => absurd q (by omega)
set_option maxHeartbeats 4000000 in
set_option maxRecDepth 100000 in
theorem wC_house_s2 (y : Nat → ClassId) (a : Nat → Nat) (P X : PT) (row : Value) (v : Int32) : ∀ h, h < 8 → (wC y a P X row).set (20 + h) (a (20 + h), .inr (1, [.int (P.2 3 h), .int (P.2 4 h), .int (P.2 5 h), .int (P.2 6 h)].set 2 (.int v))) = wC y a (pa P 5 h v) X row
  | 0, _ => rfl
  | 1, _ => rfl
  | 2, _ => rfl
  | 3, _ => rfl
  | 4, _ => rfl
  | 5, _ => rfl
  | 6, _ => rfl
  | 7, _ => rfl
  | h + 8, q => absurd q (by omega)
set_option maxHeartbeats 4000000 in
set_option maxRecDepth 100000 in
theorem wC_house_s3 (y : Nat → ClassId) (a : Nat → Nat) (P X : PT) (row : Value) (v : Int32) : ∀ h, h < 8 → (wC y a P X row).set (20 + h) (a (20 + h), .inr (1, [.int (P.2 3 h), .int (P.2 4 h), .int (P.2 5 h), .int (P.2 6 h)].set 3 (.int v))) = wC y a (pa P 6 h v) X row
  | 0, _ => rfl
  | 1, _ => rfl
  | 2, _ => rfl
  | 3, _ => rfl
  | 4, _ => rfl
  | 5, _ => rfl
  | 6, _ => rfl
  | 7, _ => rfl
  | h + 8, q => absurd q (by omega)
set_option maxHeartbeats 4000000 in
set_option maxRecDepth 100000 in
theorem wC_tree_s0 (y : Nat → ClassId) (a : Nat → Nat) (P X : PT) (row : Value) (v : Int32) : ∀ h, h < 8 → (wC y a P X row).set (28 + h) (a (28 + h), .inr (7, [.int (P.2 7 h), .int (P.2 8 h)].set 0 (.int v))) = wC y a (pa P 7 h v) X row
  | 0, _ => rfl
  | 1, _ => rfl
  | 2, _ => rfl
  | 3, _ => rfl
  | 4, _ => rfl
  | 5, _ => rfl
  | 6, _ => rfl
  | 7, _ => rfl
  | h + 8, q => absurd q (by omega)
set_option maxHeartbeats 4000000 in
set_option maxRecDepth 100000 in
theorem wC_tree_s1 (y : Nat → ClassId) (a : Nat → Nat) (P X : PT) (row : Value) (v : Int32) : ∀ h, h < 8 → (wC y a P X row).set (28 + h) (a (28 + h), .inr (7, [.int (P.2 7 h), .int (P.2 8 h)].set 1 (.int v))) = wC y a (pa P 8 h v) X row
  | 0, _ => rfl
  | 1, _ => rfl
  | 2, _ => rfl
  | 3, _ => rfl
  | 4, _ => rfl
  | 5, _ => rfl
  | 6, _ => rfl
  | 7, _ => rfl
  | h + 8, q => absurd q (by omega)
set_option maxHeartbeats 4000000 in
set_option maxRecDepth 100000 in
theorem wC_sheet_s1 (y : Nat → ClassId) (a : Nat → Nat) (P X : PT) (row : Value) (v : Int32) : ∀ h, h < 4 → (wC y a P X row).set (2 + h) (a (2 + h), .inr (4, [.ref (a (6 + h)), .int (P.2 12 h), .int (P.2 13 h)].set 1 (.int v))) = wC y a (pa P 12 h v) X row
  | 0, _ => rfl
  | 1, _ => rfl
  | 2, _ => rfl
  | 3, _ => rfl
  | h + 4, q => absurd q (by omega)
set_option maxHeartbeats 4000000 in
set_option maxRecDepth 100000 in
theorem wC_sheet_s2 (y : Nat → ClassId) (a : Nat → Nat) (P X : PT) (row : Value) (v : Int32) : ∀ h, h < 4 → (wC y a P X row).set (2 + h) (a (2 + h), .inr (4, [.ref (a (6 + h)), .int (P.2 12 h), .int (P.2 13 h)].set 2 (.int v))) = wC y a (pa P 13 h v) X row
  | 0, _ => rfl
  | 1, _ => rfl
  | 2, _ => rfl
  | 3, _ => rfl
  | h + 4, q => absurd q (by omega)
theorem wC_cells_s (y : Nat → ClassId) (a : Nat → Nat) (P X : PT) (row : Value) (i : Nat) (v : Int32) : ∀ h, h < 4 → (wC y a P X row).set (6 + h) (a (6 + h), .inl (y 0, 100, .inl (upd (P.2 (14 + h)) i v))) = wC y a (pa P (14 + h) i v) X row
  | 0, _ => rfl
  | 1, _ => rfl
  | 2, _ => rfl
  | 3, _ => rfl
  | h + 4, q => absurd q (by omega)
theorem wC_cells_f (y : Nat → ClassId) (a : Nat → Nat) (P X : PT) (row : Value) (f : Nat → Int32) : ∀ h, h < 4 → (wC y a P X row).set (6 + h) (a (6 + h), .inl (y 0, 100, .inl f)) = wC y a (P.1, fun j => if j = 14 + h then f else P.2 j) X row
  | 0, _ => rfl
  | 1, _ => rfl
  | 2, _ => rfl
  | 3, _ => rfl
  | h + 4, q => absurd q (by omega)
section WROWS
variable {p : Program} {l : Launch} {e : Env} {R : Room} {s : State} {m : MethodId} {args : Array Value} {below : List Frame} {meth : Method} {c : Code} {H : Heap} {locs : List Loc} {cells slots : Nat} {Q : State → Prop}
variable {cc : ByteArray} {pc : Nat} {ls : Array Slot} {rest : List Value} {D : va_G} {y : Nat → ClassId} {a : Nat → Nat} {P X : PT} {row : Value} {H0 : Heap} {nL : Nat} {Ts : List Cond} {own : String} {index : Nat} {v : Int32}
theorem cg8_0 (FX : CallFix p m c cc nL s args Ts own) (hK : KK D y s) (hin : ∀ w ∈ wsX80, w ∈ Ts) (hP : va_P D vwCl (wC y a P X row) H) (hlink : Cond.fieldLink own index "SeenNumbers" "sheets" "[LSeenNumbers$Sheet;" ∈ Ts) (hdg : decode cc pc = .ok (.getfield index, 3)) (kk : W p l e R s m args below meth c H locs cells slots Q (F0 m (pc + 3) ls (.ref (a 1) :: rest))) : W p l e R s m args below meth c H locs cells slots Q (F0 m pc ls (.ref (a 0) :: rest)) :=
  va_get (D := D) (ci := 8) (v := .ref (a 1)) (C := RX8) (T := TX8) (N := 8) FX.1 FX.2.1 FX.2.2.2.2 hin FX.2.2.2.1 hK.1 hP (0) rfl rfl 0 (by decide) (FX.2.2.2.2 _ hlink) (fun _ h9 => h9) rfl hdg kk
theorem cg8_1 (FX : CallFix p m c cc nL s args Ts own) (hK : KK D y s) (hin : ∀ w ∈ wsX80, w ∈ Ts) (hP : va_P D vwCl (wC y a P X row) H) (hlink : Cond.fieldLink own index "SeenNumbers" "text" "LSeenNumbers$Text;" ∈ Ts) (hdg : decode cc pc = .ok (.getfield index, 3)) (kk : W p l e R s m args below meth c H locs cells slots Q (F0 m (pc + 3) ls (.ref (a 10) :: rest))) : W p l e R s m args below meth c H locs cells slots Q (F0 m pc ls (.ref (a 0) :: rest)) :=
  va_get (D := D) (ci := 8) (v := .ref (a 10)) (C := RX8) (T := TX8) (N := 8) FX.1 FX.2.1 FX.2.2.2.2 hin FX.2.2.2.1 hK.1 hP (0) rfl rfl 1 (by decide) (FX.2.2.2.2 _ hlink) (fun _ h9 => h9) rfl hdg kk
theorem cg8_2 (FX : CallFix p m c cc nL s args Ts own) (hK : KK D y s) (hin : ∀ w ∈ wsX80, w ∈ Ts) (hP : va_P D vwCl (wC y a P X row) H) (hlink : Cond.fieldLink own index "SeenNumbers" "plot" "LSeenNumbers$Land;" ∈ Ts) (hdg : decode cc pc = .ok (.getfield index, 3)) (kk : W p l e R s m args below meth c H locs cells slots Q (F0 m (pc + 3) ls (.ref (a 14) :: rest))) : W p l e R s m args below meth c H locs cells slots Q (F0 m pc ls (.ref (a 0) :: rest)) :=
  va_get (D := D) (ci := 8) (v := .ref (a 14)) (C := RX8) (T := TX8) (N := 8) FX.1 FX.2.1 FX.2.2.2.2 hin FX.2.2.2.1 hK.1 hP (0) rfl rfl 2 (by decide) (FX.2.2.2.2 _ hlink) (fun _ h9 => h9) rfl hdg kk
theorem cg8_3 (FX : CallFix p m c cc nL s args Ts own) (hK : KK D y s) (hin : ∀ w ∈ wsX80, w ∈ Ts) (hP : va_P D vwCl (wC y a P X row) H) (hlink : Cond.fieldLink own index "SeenNumbers" "sight" "LSeenNumbers$Sight;" ∈ Ts) (hdg : decode cc pc = .ok (.getfield index, 3)) (kk : W p l e R s m args below meth c H locs cells slots Q (F0 m (pc + 3) ls (.ref (a 36) :: rest))) : W p l e R s m args below meth c H locs cells slots Q (F0 m pc ls (.ref (a 0) :: rest)) :=
  va_get (D := D) (ci := 8) (v := .ref (a 36)) (C := RX8) (T := TX8) (N := 8) FX.1 FX.2.1 FX.2.2.2.2 hin FX.2.2.2.1 hK.1 hP (0) rfl rfl 3 (by decide) (FX.2.2.2.2 _ hlink) (fun _ h9 => h9) rfl hdg kk
theorem cg8_4 (FX : CallFix p m c cc nL s args Ts own) (hK : KK D y s) (hin : ∀ w ∈ wsX80, w ∈ Ts) (hP : va_P D vwCl (wC y a P X row) H) (hlink : Cond.fieldLink own index "SeenNumbers" "finder" "LSeenNumbers$Finder;" ∈ Ts) (hdg : decode cc pc = .ok (.getfield index, 3)) (kk : W p l e R s m args below meth c H locs cells slots Q (F0 m (pc + 3) ls (.ref (a 39) :: rest))) : W p l e R s m args below meth c H locs cells slots Q (F0 m pc ls (.ref (a 0) :: rest)) :=
  va_get (D := D) (ci := 8) (v := .ref (a 39)) (C := RX8) (T := TX8) (N := 8) FX.1 FX.2.1 FX.2.2.2.2 hin FX.2.2.2.1 hK.1 hP (0) rfl rfl 4 (by decide) (FX.2.2.2.2 _ hlink) (fun _ h9 => h9) rfl hdg kk
theorem cg8_5 (FX : CallFix p m c cc nL s args Ts own) (hK : KK D y s) (hin : ∀ w ∈ wsX80, w ∈ Ts) (hP : va_P D vwCl (wC y a P X row) H) (hlink : Cond.fieldLink own index "SeenNumbers" "readings" "LSeenNumbers$Readings;" ∈ Ts) (hdg : decode cc pc = .ok (.getfield index, 3)) (kk : W p l e R s m args below meth c H locs cells slots Q (F0 m (pc + 3) ls (.ref (a 40) :: rest))) : W p l e R s m args below meth c H locs cells slots Q (F0 m pc ls (.ref (a 0) :: rest)) :=
  va_get (D := D) (ci := 8) (v := .ref (a 40)) (C := RX8) (T := TX8) (N := 8) FX.1 FX.2.1 FX.2.2.2.2 hin FX.2.2.2.1 hK.1 hP (0) rfl rfl 5 (by decide) (FX.2.2.2.2 _ hlink) (fun _ h9 => h9) rfl hdg kk
theorem cg8_6 (FX : CallFix p m c cc nL s args Ts own) (hK : KK D y s) (hin : ∀ w ∈ wsX80, w ∈ Ts) (hP : va_P D vwCl (wC y a P X row) H) (hlink : Cond.fieldLink own index "SeenNumbers" "traceLeft" "I" ∈ Ts) (hdg : decode cc pc = .ok (.getfield index, 3)) (kk : W p l e R s m args below meth c H locs cells slots Q (F0 m (pc + 3) ls (.int (P.1 9) :: rest))) : W p l e R s m args below meth c H locs cells slots Q (F0 m pc ls (.ref (a 0) :: rest)) :=
  va_get (D := D) (ci := 8) (v := .int (P.1 9)) (C := RX8) (T := TX8) (N := 8) FX.1 FX.2.1 FX.2.2.2.2 hin FX.2.2.2.1 hK.1 hP (0) rfl rfl 6 (by decide) (FX.2.2.2.2 _ hlink) (fun _ h9 => h9) rfl hdg kk
set_option maxRecDepth 100000 in
theorem cp8_6 (FX : CallFix p m c cc nL s args Ts own) (hK : KK D y s) (hin : ∀ w ∈ wsX80, w ∈ Ts) (hP : va_P D vwCl (wC y a P X row) H) (hA : CA a 44) (hS : va_S (AC a) H0 H locs) (hlink : Cond.fieldLink own index "SeenNumbers" "traceLeft" "I" ∈ Ts) (hdg : decode cc pc = .ok (.putfield index, 3)) (kk : ∀ (H1 : Heap) (locs1 : List Loc), va_P D vwCl (wC y a (pg P 9 v) X row) H1 → va_S (AC a) H0 H1 locs1 → W p l e R s m args below meth c H1 locs1 cells slots Q (F0 m (pc + 3) ls rest)) : W p l e R s m args below meth c H locs cells slots Q (F0 m pc ls (.int v :: .ref (a 0) :: rest)) :=
  va_put (D := D) (ci := 8) (v := .int v) (ty := .int) (C := RX8) (T := TX8) (N := 8) FX.1 FX.2.1 FX.2.2.2.2 hin tyX8 tyX8_ok nmX8 FX.2.2.2.1 hK.1 hP (wC_D hA) hS (0) rfl rfl 6 (by decide) (FX.2.2.2.2 _ hlink) (fun _ h9 => h9) rfl rfl rfl rfl (Nat.le_of_ble_eq_true rfl) hdg (fun H1 locs1 hP1 _ hS1 => kk H1 locs1 ((fun z => z) hP1) hS1)
theorem cg8_7 (FX : CallFix p m c cc nL s args Ts own) (hK : KK D y s) (hin : ∀ w ∈ wsX80, w ∈ Ts) (hP : va_P D vwCl (wC y a P X row) H) (hlink : Cond.fieldLink own index "SeenNumbers" "latestFault" "I" ∈ Ts) (hdg : decode cc pc = .ok (.getfield index, 3)) (kk : W p l e R s m args below meth c H locs cells slots Q (F0 m (pc + 3) ls (.int (P.1 10) :: rest))) : W p l e R s m args below meth c H locs cells slots Q (F0 m pc ls (.ref (a 0) :: rest)) :=
  va_get (D := D) (ci := 8) (v := .int (P.1 10)) (C := RX8) (T := TX8) (N := 8) FX.1 FX.2.1 FX.2.2.2.2 hin FX.2.2.2.1 hK.1 hP (0) rfl rfl 7 (by decide) (FX.2.2.2.2 _ hlink) (fun _ h9 => h9) rfl hdg kk
set_option maxRecDepth 100000 in
theorem cp8_7 (FX : CallFix p m c cc nL s args Ts own) (hK : KK D y s) (hin : ∀ w ∈ wsX80, w ∈ Ts) (hP : va_P D vwCl (wC y a P X row) H) (hA : CA a 44) (hS : va_S (AC a) H0 H locs) (hlink : Cond.fieldLink own index "SeenNumbers" "latestFault" "I" ∈ Ts) (hdg : decode cc pc = .ok (.putfield index, 3)) (kk : ∀ (H1 : Heap) (locs1 : List Loc), va_P D vwCl (wC y a (pg P 10 v) X row) H1 → va_S (AC a) H0 H1 locs1 → W p l e R s m args below meth c H1 locs1 cells slots Q (F0 m (pc + 3) ls rest)) : W p l e R s m args below meth c H locs cells slots Q (F0 m pc ls (.int v :: .ref (a 0) :: rest)) :=
  va_put (D := D) (ci := 8) (v := .int v) (ty := .int) (C := RX8) (T := TX8) (N := 8) FX.1 FX.2.1 FX.2.2.2.2 hin tyX8 tyX8_ok nmX8 FX.2.2.2.1 hK.1 hP (wC_D hA) hS (0) rfl rfl 7 (by decide) (FX.2.2.2.2 _ hlink) (fun _ h9 => h9) rfl rfl rfl rfl (Nat.le_of_ble_eq_true rfl) hdg (fun H1 locs1 hP1 _ hS1 => kk H1 locs1 ((fun z => z) hP1) hS1)
theorem cg6_0 (FX : CallFix p m c cc nL s args Ts own) (hK : KK D y s) (hin : ∀ w ∈ wsX60, w ∈ Ts) (hP : va_P D vwCl (wC y a P X row) H) (hlink : Cond.fieldLink own index "SeenNumbers$Text" "ground" "[I" ∈ Ts) (hdg : decode cc pc = .ok (.getfield index, 3)) (kk : W p l e R s m args below meth c H locs cells slots Q (F0 m (pc + 3) ls (.ref (a 11) :: rest))) : W p l e R s m args below meth c H locs cells slots Q (F0 m pc ls (.ref (a 10) :: rest)) :=
  va_get (D := D) (ci := 6) (v := .ref (a 11)) (C := RX6) (T := TX6) (N := 11) FX.1 FX.2.1 FX.2.2.2.2 hin FX.2.2.2.1 hK.1 hP (10) rfl rfl 0 (by decide) (FX.2.2.2.2 _ hlink) (fun _ h9 => h9) rfl hdg kk
theorem cg6_1 (FX : CallFix p m c cc nL s args Ts own) (hK : KK D y s) (hin : ∀ w ∈ wsX60, w ∈ Ts) (hP : va_P D vwCl (wC y a P X row) H) (hlink : Cond.fieldLink own index "SeenNumbers$Text" "kinds" "[I" ∈ Ts) (hdg : decode cc pc = .ok (.getfield index, 3)) (kk : W p l e R s m args below meth c H locs cells slots Q (F0 m (pc + 3) ls (.ref (a 12) :: rest))) : W p l e R s m args below meth c H locs cells slots Q (F0 m pc ls (.ref (a 10) :: rest)) :=
  va_get (D := D) (ci := 6) (v := .ref (a 12)) (C := RX6) (T := TX6) (N := 11) FX.1 FX.2.1 FX.2.2.2.2 hin FX.2.2.2.1 hK.1 hP (10) rfl rfl 1 (by decide) (FX.2.2.2.2 _ hlink) (fun _ h9 => h9) rfl hdg kk
theorem cg6_2 (FX : CallFix p m c cc nL s args Ts own) (hK : KK D y s) (hin : ∀ w ∈ wsX60, w ∈ Ts) (hP : va_P D vwCl (wC y a P X row) H) (hlink : Cond.fieldLink own index "SeenNumbers$Text" "tall" "[I" ∈ Ts) (hdg : decode cc pc = .ok (.getfield index, 3)) (kk : W p l e R s m args below meth c H locs cells slots Q (F0 m (pc + 3) ls (.ref (a 13) :: rest))) : W p l e R s m args below meth c H locs cells slots Q (F0 m pc ls (.ref (a 10) :: rest)) :=
  va_get (D := D) (ci := 6) (v := .ref (a 13)) (C := RX6) (T := TX6) (N := 11) FX.1 FX.2.1 FX.2.2.2.2 hin FX.2.2.2.1 hK.1 hP (10) rfl rfl 2 (by decide) (FX.2.2.2.2 _ hlink) (fun _ h9 => h9) rfl hdg kk
theorem cg6_3 (FX : CallFix p m c cc nL s args Ts own) (hK : KK D y s) (hin : ∀ w ∈ wsX60, w ∈ Ts) (hP : va_P D vwCl (wC y a P X row) H) (hlink : Cond.fieldLink own index "SeenNumbers$Text" "high" "I" ∈ Ts) (hdg : decode cc pc = .ok (.getfield index, 3)) (kk : W p l e R s m args below meth c H locs cells slots Q (F0 m (pc + 3) ls (.int (X.1 0) :: rest))) : W p l e R s m args below meth c H locs cells slots Q (F0 m pc ls (.ref (a 10) :: rest)) :=
  va_get (D := D) (ci := 6) (v := .int (X.1 0)) (C := RX6) (T := TX6) (N := 11) FX.1 FX.2.1 FX.2.2.2.2 hin FX.2.2.2.1 hK.1 hP (10) rfl rfl 3 (by decide) (FX.2.2.2.2 _ hlink) (fun _ h9 => h9) rfl hdg kk
set_option maxRecDepth 100000 in
theorem cp6_3 (FX : CallFix p m c cc nL s args Ts own) (hK : KK D y s) (hin : ∀ w ∈ wsX60, w ∈ Ts) (hP : va_P D vwCl (wC y a P X row) H) (hA : CA a 44) (hS : va_S (AC a) H0 H locs) (hlink : Cond.fieldLink own index "SeenNumbers$Text" "high" "I" ∈ Ts) (hdg : decode cc pc = .ok (.putfield index, 3)) (kk : ∀ (H1 : Heap) (locs1 : List Loc), va_P D vwCl (wC y a P (pg X 0 v) row) H1 → va_S (AC a) H0 H1 locs1 → W p l e R s m args below meth c H1 locs1 cells slots Q (F0 m (pc + 3) ls rest)) : W p l e R s m args below meth c H locs cells slots Q (F0 m pc ls (.int v :: .ref (a 10) :: rest)) :=
  va_put (D := D) (ci := 6) (v := .int v) (ty := .int) (C := RX6) (T := TX6) (N := 11) FX.1 FX.2.1 FX.2.2.2.2 hin tyX6 tyX6_ok nmX6 FX.2.2.2.1 hK.1 hP (wC_D hA) hS (10) rfl rfl 3 (by decide) (FX.2.2.2.2 _ hlink) (fun _ h9 => h9) rfl rfl rfl rfl (Nat.le_of_ble_eq_true rfl) hdg (fun H1 locs1 hP1 _ hS1 => kk H1 locs1 ((fun z => z) hP1) hS1)
theorem cg6_4 (FX : CallFix p m c cc nL s args Ts own) (hK : KK D y s) (hin : ∀ w ∈ wsX60, w ∈ Ts) (hP : va_P D vwCl (wC y a P X row) H) (hlink : Cond.fieldLink own index "SeenNumbers$Text" "wide" "I" ∈ Ts) (hdg : decode cc pc = .ok (.getfield index, 3)) (kk : W p l e R s m args below meth c H locs cells slots Q (F0 m (pc + 3) ls (.int (X.1 1) :: rest))) : W p l e R s m args below meth c H locs cells slots Q (F0 m pc ls (.ref (a 10) :: rest)) :=
  va_get (D := D) (ci := 6) (v := .int (X.1 1)) (C := RX6) (T := TX6) (N := 11) FX.1 FX.2.1 FX.2.2.2.2 hin FX.2.2.2.1 hK.1 hP (10) rfl rfl 4 (by decide) (FX.2.2.2.2 _ hlink) (fun _ h9 => h9) rfl hdg kk
set_option maxRecDepth 100000 in
theorem cp6_4 (FX : CallFix p m c cc nL s args Ts own) (hK : KK D y s) (hin : ∀ w ∈ wsX60, w ∈ Ts) (hP : va_P D vwCl (wC y a P X row) H) (hA : CA a 44) (hS : va_S (AC a) H0 H locs) (hlink : Cond.fieldLink own index "SeenNumbers$Text" "wide" "I" ∈ Ts) (hdg : decode cc pc = .ok (.putfield index, 3)) (kk : ∀ (H1 : Heap) (locs1 : List Loc), va_P D vwCl (wC y a P (pg X 1 v) row) H1 → va_S (AC a) H0 H1 locs1 → W p l e R s m args below meth c H1 locs1 cells slots Q (F0 m (pc + 3) ls rest)) : W p l e R s m args below meth c H locs cells slots Q (F0 m pc ls (.int v :: .ref (a 10) :: rest)) :=
  va_put (D := D) (ci := 6) (v := .int v) (ty := .int) (C := RX6) (T := TX6) (N := 11) FX.1 FX.2.1 FX.2.2.2.2 hin tyX6 tyX6_ok nmX6 FX.2.2.2.1 hK.1 hP (wC_D hA) hS (10) rfl rfl 4 (by decide) (FX.2.2.2.2 _ hlink) (fun _ h9 => h9) rfl rfl rfl rfl (Nat.le_of_ble_eq_true rfl) hdg (fun H1 locs1 hP1 _ hS1 => kk H1 locs1 ((fun z => z) hP1) hS1)
theorem cg6_5 (FX : CallFix p m c cc nL s args Ts own) (hK : KK D y s) (hin : ∀ w ∈ wsX60, w ∈ Ts) (hP : va_P D vwCl (wC y a P X row) H) (hlink : Cond.fieldLink own index "SeenNumbers$Text" "place" "I" ∈ Ts) (hdg : decode cc pc = .ok (.getfield index, 3)) (kk : W p l e R s m args below meth c H locs cells slots Q (F0 m (pc + 3) ls (.int (X.1 2) :: rest))) : W p l e R s m args below meth c H locs cells slots Q (F0 m pc ls (.ref (a 10) :: rest)) :=
  va_get (D := D) (ci := 6) (v := .int (X.1 2)) (C := RX6) (T := TX6) (N := 11) FX.1 FX.2.1 FX.2.2.2.2 hin FX.2.2.2.1 hK.1 hP (10) rfl rfl 5 (by decide) (FX.2.2.2.2 _ hlink) (fun _ h9 => h9) rfl hdg kk
set_option maxRecDepth 100000 in
theorem cp6_5 (FX : CallFix p m c cc nL s args Ts own) (hK : KK D y s) (hin : ∀ w ∈ wsX60, w ∈ Ts) (hP : va_P D vwCl (wC y a P X row) H) (hA : CA a 44) (hS : va_S (AC a) H0 H locs) (hlink : Cond.fieldLink own index "SeenNumbers$Text" "place" "I" ∈ Ts) (hdg : decode cc pc = .ok (.putfield index, 3)) (kk : ∀ (H1 : Heap) (locs1 : List Loc), va_P D vwCl (wC y a P (pg X 2 v) row) H1 → va_S (AC a) H0 H1 locs1 → W p l e R s m args below meth c H1 locs1 cells slots Q (F0 m (pc + 3) ls rest)) : W p l e R s m args below meth c H locs cells slots Q (F0 m pc ls (.int v :: .ref (a 10) :: rest)) :=
  va_put (D := D) (ci := 6) (v := .int v) (ty := .int) (C := RX6) (T := TX6) (N := 11) FX.1 FX.2.1 FX.2.2.2.2 hin tyX6 tyX6_ok nmX6 FX.2.2.2.1 hK.1 hP (wC_D hA) hS (10) rfl rfl 5 (by decide) (FX.2.2.2.2 _ hlink) (fun _ h9 => h9) rfl rfl rfl rfl (Nat.le_of_ble_eq_true rfl) hdg (fun H1 locs1 hP1 _ hS1 => kk H1 locs1 ((fun z => z) hP1) hS1)
theorem cg6_6 (FX : CallFix p m c cc nL s args Ts own) (hK : KK D y s) (hin : ∀ w ∈ wsX60, w ∈ Ts) (hP : va_P D vwCl (wC y a P X row) H) (hlink : Cond.fieldLink own index "SeenNumbers$Text" "houses" "I" ∈ Ts) (hdg : decode cc pc = .ok (.getfield index, 3)) (kk : W p l e R s m args below meth c H locs cells slots Q (F0 m (pc + 3) ls (.int (X.1 3) :: rest))) : W p l e R s m args below meth c H locs cells slots Q (F0 m pc ls (.ref (a 10) :: rest)) :=
  va_get (D := D) (ci := 6) (v := .int (X.1 3)) (C := RX6) (T := TX6) (N := 11) FX.1 FX.2.1 FX.2.2.2.2 hin FX.2.2.2.1 hK.1 hP (10) rfl rfl 6 (by decide) (FX.2.2.2.2 _ hlink) (fun _ h9 => h9) rfl hdg kk
set_option maxRecDepth 100000 in
theorem cp6_6 (FX : CallFix p m c cc nL s args Ts own) (hK : KK D y s) (hin : ∀ w ∈ wsX60, w ∈ Ts) (hP : va_P D vwCl (wC y a P X row) H) (hA : CA a 44) (hS : va_S (AC a) H0 H locs) (hlink : Cond.fieldLink own index "SeenNumbers$Text" "houses" "I" ∈ Ts) (hdg : decode cc pc = .ok (.putfield index, 3)) (kk : ∀ (H1 : Heap) (locs1 : List Loc), va_P D vwCl (wC y a P (pg X 3 v) row) H1 → va_S (AC a) H0 H1 locs1 → W p l e R s m args below meth c H1 locs1 cells slots Q (F0 m (pc + 3) ls rest)) : W p l e R s m args below meth c H locs cells slots Q (F0 m pc ls (.int v :: .ref (a 10) :: rest)) :=
  va_put (D := D) (ci := 6) (v := .int v) (ty := .int) (C := RX6) (T := TX6) (N := 11) FX.1 FX.2.1 FX.2.2.2.2 hin tyX6 tyX6_ok nmX6 FX.2.2.2.1 hK.1 hP (wC_D hA) hS (10) rfl rfl 6 (by decide) (FX.2.2.2.2 _ hlink) (fun _ h9 => h9) rfl rfl rfl rfl (Nat.le_of_ble_eq_true rfl) hdg (fun H1 locs1 hP1 _ hS1 => kk H1 locs1 ((fun z => z) hP1) hS1)
theorem cg6_7 (FX : CallFix p m c cc nL s args Ts own) (hK : KK D y s) (hin : ∀ w ∈ wsX60, w ∈ Ts) (hP : va_P D vwCl (wC y a P X row) H) (hlink : Cond.fieldLink own index "SeenNumbers$Text" "trees" "I" ∈ Ts) (hdg : decode cc pc = .ok (.getfield index, 3)) (kk : W p l e R s m args below meth c H locs cells slots Q (F0 m (pc + 3) ls (.int (X.1 4) :: rest))) : W p l e R s m args below meth c H locs cells slots Q (F0 m pc ls (.ref (a 10) :: rest)) :=
  va_get (D := D) (ci := 6) (v := .int (X.1 4)) (C := RX6) (T := TX6) (N := 11) FX.1 FX.2.1 FX.2.2.2.2 hin FX.2.2.2.1 hK.1 hP (10) rfl rfl 7 (by decide) (FX.2.2.2.2 _ hlink) (fun _ h9 => h9) rfl hdg kk
set_option maxRecDepth 100000 in
theorem cp6_7 (FX : CallFix p m c cc nL s args Ts own) (hK : KK D y s) (hin : ∀ w ∈ wsX60, w ∈ Ts) (hP : va_P D vwCl (wC y a P X row) H) (hA : CA a 44) (hS : va_S (AC a) H0 H locs) (hlink : Cond.fieldLink own index "SeenNumbers$Text" "trees" "I" ∈ Ts) (hdg : decode cc pc = .ok (.putfield index, 3)) (kk : ∀ (H1 : Heap) (locs1 : List Loc), va_P D vwCl (wC y a P (pg X 4 v) row) H1 → va_S (AC a) H0 H1 locs1 → W p l e R s m args below meth c H1 locs1 cells slots Q (F0 m (pc + 3) ls rest)) : W p l e R s m args below meth c H locs cells slots Q (F0 m pc ls (.int v :: .ref (a 10) :: rest)) :=
  va_put (D := D) (ci := 6) (v := .int v) (ty := .int) (C := RX6) (T := TX6) (N := 11) FX.1 FX.2.1 FX.2.2.2.2 hin tyX6 tyX6_ok nmX6 FX.2.2.2.1 hK.1 hP (wC_D hA) hS (10) rfl rfl 7 (by decide) (FX.2.2.2.2 _ hlink) (fun _ h9 => h9) rfl rfl rfl rfl (Nat.le_of_ble_eq_true rfl) hdg (fun H1 locs1 hP1 _ hS1 => kk H1 locs1 ((fun z => z) hP1) hS1)
theorem cg6_8 (FX : CallFix p m c cc nL s args Ts own) (hK : KK D y s) (hin : ∀ w ∈ wsX60, w ∈ Ts) (hP : va_P D vwCl (wC y a P X row) H) (hlink : Cond.fieldLink own index "SeenNumbers$Text" "row" "LSeenNumbers$Sheet;" ∈ Ts) (hdg : decode cc pc = .ok (.getfield index, 3)) (kk : W p l e R s m args below meth c H locs cells slots Q (F0 m (pc + 3) ls (row :: rest))) : W p l e R s m args below meth c H locs cells slots Q (F0 m pc ls (.ref (a 10) :: rest)) :=
  va_get (D := D) (ci := 6) (v := row) (C := RX6) (T := TX6) (N := 11) FX.1 FX.2.1 FX.2.2.2.2 hin FX.2.2.2.1 hK.1 hP (10) rfl rfl 8 (by decide) (FX.2.2.2.2 _ hlink) (fun _ h9 => h9) rfl hdg kk
set_option maxRecDepth 100000 in
theorem cp6_8 {r : Nat} (FX : CallFix p m c cc nL s args Ts own) (hK : KK D y s) (hin : ∀ w ∈ wsX60, w ∈ Ts) (hP : va_P D vwCl (wC y a P X row) H) (hA : CA a 44) (hS : va_S (AC a) H0 H locs) (hlink : Cond.fieldLink own index "SeenNumbers$Text" "row" "LSeenNumbers$Sheet;" ∈ Ts) (hdg : decode cc pc = .ok (.putfield index, 3)) (kk : ∀ (H1 : Heap) (locs1 : List Loc), va_P D vwCl (wC y a P X (.ref r)) H1 → va_S (AC a) H0 H1 locs1 → W p l e R s m args below meth c H1 locs1 cells slots Q (F0 m (pc + 3) ls rest)) : W p l e R s m args below meth c H locs cells slots Q (F0 m pc ls (.ref r :: .ref (a 10) :: rest)) :=
  va_put (D := D) (ci := 6) (v := .ref r) (ty := .object "SeenNumbers$Sheet") (C := RX6) (T := TX6) (N := 11) FX.1 FX.2.1 FX.2.2.2.2 hin tyX6 tyX6_ok nmX6 FX.2.2.2.1 hK.1 hP (wC_D hA) hS (10) rfl rfl 8 (by decide) (FX.2.2.2.2 _ hlink) (fun _ h9 => h9) rfl rfl rfl rfl (Nat.le_of_ble_eq_true rfl) hdg (fun H1 locs1 hP1 _ hS1 => kk H1 locs1 ((fun z => z) hP1) hS1)
theorem cg6_9 (FX : CallFix p m c cc nL s args Ts own) (hK : KK D y s) (hin : ∀ w ∈ wsX60, w ∈ Ts) (hP : va_P D vwCl (wC y a P X row) H) (hlink : Cond.fieldLink own index "SeenNumbers$Text" "start" "I" ∈ Ts) (hdg : decode cc pc = .ok (.getfield index, 3)) (kk : W p l e R s m args below meth c H locs cells slots Q (F0 m (pc + 3) ls (.int (X.1 5) :: rest))) : W p l e R s m args below meth c H locs cells slots Q (F0 m pc ls (.ref (a 10) :: rest)) :=
  va_get (D := D) (ci := 6) (v := .int (X.1 5)) (C := RX6) (T := TX6) (N := 11) FX.1 FX.2.1 FX.2.2.2.2 hin FX.2.2.2.1 hK.1 hP (10) rfl rfl 9 (by decide) (FX.2.2.2.2 _ hlink) (fun _ h9 => h9) rfl hdg kk
set_option maxRecDepth 100000 in
theorem cp6_9 (FX : CallFix p m c cc nL s args Ts own) (hK : KK D y s) (hin : ∀ w ∈ wsX60, w ∈ Ts) (hP : va_P D vwCl (wC y a P X row) H) (hA : CA a 44) (hS : va_S (AC a) H0 H locs) (hlink : Cond.fieldLink own index "SeenNumbers$Text" "start" "I" ∈ Ts) (hdg : decode cc pc = .ok (.putfield index, 3)) (kk : ∀ (H1 : Heap) (locs1 : List Loc), va_P D vwCl (wC y a P (pg X 5 v) row) H1 → va_S (AC a) H0 H1 locs1 → W p l e R s m args below meth c H1 locs1 cells slots Q (F0 m (pc + 3) ls rest)) : W p l e R s m args below meth c H locs cells slots Q (F0 m pc ls (.int v :: .ref (a 10) :: rest)) :=
  va_put (D := D) (ci := 6) (v := .int v) (ty := .int) (C := RX6) (T := TX6) (N := 11) FX.1 FX.2.1 FX.2.2.2.2 hin tyX6 tyX6_ok nmX6 FX.2.2.2.1 hK.1 hP (wC_D hA) hS (10) rfl rfl 9 (by decide) (FX.2.2.2.2 _ hlink) (fun _ h9 => h9) rfl rfl rfl rfl (Nat.le_of_ble_eq_true rfl) hdg (fun H1 locs1 hP1 _ hS1 => kk H1 locs1 ((fun z => z) hP1) hS1)
theorem cg6_10 (FX : CallFix p m c cc nL s args Ts own) (hK : KK D y s) (hin : ∀ w ∈ wsX60, w ∈ Ts) (hP : va_P D vwCl (wC y a P X row) H) (hlink : Cond.fieldLink own index "SeenNumbers$Text" "length" "I" ∈ Ts) (hdg : decode cc pc = .ok (.getfield index, 3)) (kk : W p l e R s m args below meth c H locs cells slots Q (F0 m (pc + 3) ls (.int (X.1 6) :: rest))) : W p l e R s m args below meth c H locs cells slots Q (F0 m pc ls (.ref (a 10) :: rest)) :=
  va_get (D := D) (ci := 6) (v := .int (X.1 6)) (C := RX6) (T := TX6) (N := 11) FX.1 FX.2.1 FX.2.2.2.2 hin FX.2.2.2.1 hK.1 hP (10) rfl rfl 10 (by decide) (FX.2.2.2.2 _ hlink) (fun _ h9 => h9) rfl hdg kk
set_option maxRecDepth 100000 in
theorem cp6_10 (FX : CallFix p m c cc nL s args Ts own) (hK : KK D y s) (hin : ∀ w ∈ wsX60, w ∈ Ts) (hP : va_P D vwCl (wC y a P X row) H) (hA : CA a 44) (hS : va_S (AC a) H0 H locs) (hlink : Cond.fieldLink own index "SeenNumbers$Text" "length" "I" ∈ Ts) (hdg : decode cc pc = .ok (.putfield index, 3)) (kk : ∀ (H1 : Heap) (locs1 : List Loc), va_P D vwCl (wC y a P (pg X 6 v) row) H1 → va_S (AC a) H0 H1 locs1 → W p l e R s m args below meth c H1 locs1 cells slots Q (F0 m (pc + 3) ls rest)) : W p l e R s m args below meth c H locs cells slots Q (F0 m pc ls (.int v :: .ref (a 10) :: rest)) :=
  va_put (D := D) (ci := 6) (v := .int v) (ty := .int) (C := RX6) (T := TX6) (N := 11) FX.1 FX.2.1 FX.2.2.2.2 hin tyX6 tyX6_ok nmX6 FX.2.2.2.1 hK.1 hP (wC_D hA) hS (10) rfl rfl 10 (by decide) (FX.2.2.2.2 _ hlink) (fun _ h9 => h9) rfl rfl rfl rfl (Nat.le_of_ble_eq_true rfl) hdg (fun H1 locs1 hP1 _ hS1 => kk H1 locs1 ((fun z => z) hP1) hS1)
theorem cg2_0 (FX : CallFix p m c cc nL s args Ts own) (hK : KK D y s) (hin : ∀ w ∈ wsX20, w ∈ Ts) (hP : va_P D vwCl (wC y a P X row) H) (hlink : Cond.fieldLink own index "SeenNumbers$Land" "ground" "[I" ∈ Ts) (hdg : decode cc pc = .ok (.getfield index, 3)) (kk : W p l e R s m args below meth c H locs cells slots Q (F0 m (pc + 3) ls (.ref (a 15) :: rest))) : W p l e R s m args below meth c H locs cells slots Q (F0 m pc ls (.ref (a 14) :: rest)) :=
  va_get (D := D) (ci := 2) (v := .ref (a 15)) (C := RX2) (T := TX2) (N := 13) FX.1 FX.2.1 FX.2.2.2.2 hin FX.2.2.2.1 hK.1 hP (14) rfl rfl 0 (by decide) (FX.2.2.2.2 _ hlink) (fun _ h9 => h9) rfl hdg kk
theorem cg2_1 (FX : CallFix p m c cc nL s args Ts own) (hK : KK D y s) (hin : ∀ w ∈ wsX20, w ∈ Ts) (hP : va_P D vwCl (wC y a P X row) H) (hlink : Cond.fieldLink own index "SeenNumbers$Land" "walls" "[I" ∈ Ts) (hdg : decode cc pc = .ok (.getfield index, 3)) (kk : W p l e R s m args below meth c H locs cells slots Q (F0 m (pc + 3) ls (.ref (a 16) :: rest))) : W p l e R s m args below meth c H locs cells slots Q (F0 m pc ls (.ref (a 14) :: rest)) :=
  va_get (D := D) (ci := 2) (v := .ref (a 16)) (C := RX2) (T := TX2) (N := 13) FX.1 FX.2.1 FX.2.2.2.2 hin FX.2.2.2.1 hK.1 hP (14) rfl rfl 1 (by decide) (FX.2.2.2.2 _ hlink) (fun _ h9 => h9) rfl hdg kk
theorem cg2_2 (FX : CallFix p m c cc nL s args Ts own) (hK : KK D y s) (hin : ∀ w ∈ wsX20, w ∈ Ts) (hP : va_P D vwCl (wC y a P X row) H) (hlink : Cond.fieldLink own index "SeenNumbers$Land" "thing" "[I" ∈ Ts) (hdg : decode cc pc = .ok (.getfield index, 3)) (kk : W p l e R s m args below meth c H locs cells slots Q (F0 m (pc + 3) ls (.ref (a 17) :: rest))) : W p l e R s m args below meth c H locs cells slots Q (F0 m pc ls (.ref (a 14) :: rest)) :=
  va_get (D := D) (ci := 2) (v := .ref (a 17)) (C := RX2) (T := TX2) (N := 13) FX.1 FX.2.1 FX.2.2.2.2 hin FX.2.2.2.1 hK.1 hP (14) rfl rfl 2 (by decide) (FX.2.2.2.2 _ hlink) (fun _ h9 => h9) rfl hdg kk
theorem cg2_3 (FX : CallFix p m c cc nL s args Ts own) (hK : KK D y s) (hin : ∀ w ∈ wsX20, w ∈ Ts) (hP : va_P D vwCl (wC y a P X row) H) (hlink : Cond.fieldLink own index "SeenNumbers$Land" "houses" "[LSeenNumbers$House;" ∈ Ts) (hdg : decode cc pc = .ok (.getfield index, 3)) (kk : W p l e R s m args below meth c H locs cells slots Q (F0 m (pc + 3) ls (.ref (a 18) :: rest))) : W p l e R s m args below meth c H locs cells slots Q (F0 m pc ls (.ref (a 14) :: rest)) :=
  va_get (D := D) (ci := 2) (v := .ref (a 18)) (C := RX2) (T := TX2) (N := 13) FX.1 FX.2.1 FX.2.2.2.2 hin FX.2.2.2.1 hK.1 hP (14) rfl rfl 3 (by decide) (FX.2.2.2.2 _ hlink) (fun _ h9 => h9) rfl hdg kk
theorem cg2_4 (FX : CallFix p m c cc nL s args Ts own) (hK : KK D y s) (hin : ∀ w ∈ wsX20, w ∈ Ts) (hP : va_P D vwCl (wC y a P X row) H) (hlink : Cond.fieldLink own index "SeenNumbers$Land" "trees" "[LSeenNumbers$Tree;" ∈ Ts) (hdg : decode cc pc = .ok (.getfield index, 3)) (kk : W p l e R s m args below meth c H locs cells slots Q (F0 m (pc + 3) ls (.ref (a 19) :: rest))) : W p l e R s m args below meth c H locs cells slots Q (F0 m pc ls (.ref (a 14) :: rest)) :=
  va_get (D := D) (ci := 2) (v := .ref (a 19)) (C := RX2) (T := TX2) (N := 13) FX.1 FX.2.1 FX.2.2.2.2 hin FX.2.2.2.1 hK.1 hP (14) rfl rfl 4 (by decide) (FX.2.2.2.2 _ hlink) (fun _ h9 => h9) rfl hdg kk
theorem cg2_5 (FX : CallFix p m c cc nL s args Ts own) (hK : KK D y s) (hin : ∀ w ∈ wsX20, w ∈ Ts) (hP : va_P D vwCl (wC y a P X row) H) (hlink : Cond.fieldLink own index "SeenNumbers$Land" "wide" "I" ∈ Ts) (hdg : decode cc pc = .ok (.getfield index, 3)) (kk : W p l e R s m args below meth c H locs cells slots Q (F0 m (pc + 3) ls (.int (P.1 0) :: rest))) : W p l e R s m args below meth c H locs cells slots Q (F0 m pc ls (.ref (a 14) :: rest)) :=
  va_get (D := D) (ci := 2) (v := .int (P.1 0)) (C := RX2) (T := TX2) (N := 13) FX.1 FX.2.1 FX.2.2.2.2 hin FX.2.2.2.1 hK.1 hP (14) rfl rfl 5 (by decide) (FX.2.2.2.2 _ hlink) (fun _ h9 => h9) rfl hdg kk
set_option maxRecDepth 100000 in
theorem cp2_5 (FX : CallFix p m c cc nL s args Ts own) (hK : KK D y s) (hin : ∀ w ∈ wsX20, w ∈ Ts) (hP : va_P D vwCl (wC y a P X row) H) (hA : CA a 44) (hS : va_S (AC a) H0 H locs) (hlink : Cond.fieldLink own index "SeenNumbers$Land" "wide" "I" ∈ Ts) (hdg : decode cc pc = .ok (.putfield index, 3)) (kk : ∀ (H1 : Heap) (locs1 : List Loc), va_P D vwCl (wC y a (pg P 0 v) X row) H1 → va_S (AC a) H0 H1 locs1 → W p l e R s m args below meth c H1 locs1 cells slots Q (F0 m (pc + 3) ls rest)) : W p l e R s m args below meth c H locs cells slots Q (F0 m pc ls (.int v :: .ref (a 14) :: rest)) :=
  va_put (D := D) (ci := 2) (v := .int v) (ty := .int) (C := RX2) (T := TX2) (N := 13) FX.1 FX.2.1 FX.2.2.2.2 hin tyX2 tyX2_ok nmX2 FX.2.2.2.1 hK.1 hP (wC_D hA) hS (14) rfl rfl 5 (by decide) (FX.2.2.2.2 _ hlink) (fun _ h9 => h9) rfl rfl rfl rfl (Nat.le_of_ble_eq_true rfl) hdg (fun H1 locs1 hP1 _ hS1 => kk H1 locs1 ((fun z => z) hP1) hS1)
theorem cg2_6 (FX : CallFix p m c cc nL s args Ts own) (hK : KK D y s) (hin : ∀ w ∈ wsX20, w ∈ Ts) (hP : va_P D vwCl (wC y a P X row) H) (hlink : Cond.fieldLink own index "SeenNumbers$Land" "cells" "I" ∈ Ts) (hdg : decode cc pc = .ok (.getfield index, 3)) (kk : W p l e R s m args below meth c H locs cells slots Q (F0 m (pc + 3) ls (.int (P.1 1) :: rest))) : W p l e R s m args below meth c H locs cells slots Q (F0 m pc ls (.ref (a 14) :: rest)) :=
  va_get (D := D) (ci := 2) (v := .int (P.1 1)) (C := RX2) (T := TX2) (N := 13) FX.1 FX.2.1 FX.2.2.2.2 hin FX.2.2.2.1 hK.1 hP (14) rfl rfl 6 (by decide) (FX.2.2.2.2 _ hlink) (fun _ h9 => h9) rfl hdg kk
set_option maxRecDepth 100000 in
theorem cp2_6 (FX : CallFix p m c cc nL s args Ts own) (hK : KK D y s) (hin : ∀ w ∈ wsX20, w ∈ Ts) (hP : va_P D vwCl (wC y a P X row) H) (hA : CA a 44) (hS : va_S (AC a) H0 H locs) (hlink : Cond.fieldLink own index "SeenNumbers$Land" "cells" "I" ∈ Ts) (hdg : decode cc pc = .ok (.putfield index, 3)) (kk : ∀ (H1 : Heap) (locs1 : List Loc), va_P D vwCl (wC y a (pg P 1 v) X row) H1 → va_S (AC a) H0 H1 locs1 → W p l e R s m args below meth c H1 locs1 cells slots Q (F0 m (pc + 3) ls rest)) : W p l e R s m args below meth c H locs cells slots Q (F0 m pc ls (.int v :: .ref (a 14) :: rest)) :=
  va_put (D := D) (ci := 2) (v := .int v) (ty := .int) (C := RX2) (T := TX2) (N := 13) FX.1 FX.2.1 FX.2.2.2.2 hin tyX2 tyX2_ok nmX2 FX.2.2.2.1 hK.1 hP (wC_D hA) hS (14) rfl rfl 6 (by decide) (FX.2.2.2.2 _ hlink) (fun _ h9 => h9) rfl rfl rfl rfl (Nat.le_of_ble_eq_true rfl) hdg (fun H1 locs1 hP1 _ hS1 => kk H1 locs1 ((fun z => z) hP1) hS1)
theorem cg2_7 (FX : CallFix p m c cc nL s args Ts own) (hK : KK D y s) (hin : ∀ w ∈ wsX20, w ∈ Ts) (hP : va_P D vwCl (wC y a P X row) H) (hlink : Cond.fieldLink own index "SeenNumbers$Land" "houseCount" "I" ∈ Ts) (hdg : decode cc pc = .ok (.getfield index, 3)) (kk : W p l e R s m args below meth c H locs cells slots Q (F0 m (pc + 3) ls (.int (P.1 2) :: rest))) : W p l e R s m args below meth c H locs cells slots Q (F0 m pc ls (.ref (a 14) :: rest)) :=
  va_get (D := D) (ci := 2) (v := .int (P.1 2)) (C := RX2) (T := TX2) (N := 13) FX.1 FX.2.1 FX.2.2.2.2 hin FX.2.2.2.1 hK.1 hP (14) rfl rfl 7 (by decide) (FX.2.2.2.2 _ hlink) (fun _ h9 => h9) rfl hdg kk
set_option maxRecDepth 100000 in
theorem cp2_7 (FX : CallFix p m c cc nL s args Ts own) (hK : KK D y s) (hin : ∀ w ∈ wsX20, w ∈ Ts) (hP : va_P D vwCl (wC y a P X row) H) (hA : CA a 44) (hS : va_S (AC a) H0 H locs) (hlink : Cond.fieldLink own index "SeenNumbers$Land" "houseCount" "I" ∈ Ts) (hdg : decode cc pc = .ok (.putfield index, 3)) (kk : ∀ (H1 : Heap) (locs1 : List Loc), va_P D vwCl (wC y a (pg P 2 v) X row) H1 → va_S (AC a) H0 H1 locs1 → W p l e R s m args below meth c H1 locs1 cells slots Q (F0 m (pc + 3) ls rest)) : W p l e R s m args below meth c H locs cells slots Q (F0 m pc ls (.int v :: .ref (a 14) :: rest)) :=
  va_put (D := D) (ci := 2) (v := .int v) (ty := .int) (C := RX2) (T := TX2) (N := 13) FX.1 FX.2.1 FX.2.2.2.2 hin tyX2 tyX2_ok nmX2 FX.2.2.2.1 hK.1 hP (wC_D hA) hS (14) rfl rfl 7 (by decide) (FX.2.2.2.2 _ hlink) (fun _ h9 => h9) rfl rfl rfl rfl (Nat.le_of_ble_eq_true rfl) hdg (fun H1 locs1 hP1 _ hS1 => kk H1 locs1 ((fun z => z) hP1) hS1)
theorem cg2_8 (FX : CallFix p m c cc nL s args Ts own) (hK : KK D y s) (hin : ∀ w ∈ wsX20, w ∈ Ts) (hP : va_P D vwCl (wC y a P X row) H) (hlink : Cond.fieldLink own index "SeenNumbers$Land" "treeCount" "I" ∈ Ts) (hdg : decode cc pc = .ok (.getfield index, 3)) (kk : W p l e R s m args below meth c H locs cells slots Q (F0 m (pc + 3) ls (.int (P.1 3) :: rest))) : W p l e R s m args below meth c H locs cells slots Q (F0 m pc ls (.ref (a 14) :: rest)) :=
  va_get (D := D) (ci := 2) (v := .int (P.1 3)) (C := RX2) (T := TX2) (N := 13) FX.1 FX.2.1 FX.2.2.2.2 hin FX.2.2.2.1 hK.1 hP (14) rfl rfl 8 (by decide) (FX.2.2.2.2 _ hlink) (fun _ h9 => h9) rfl hdg kk
set_option maxRecDepth 100000 in
theorem cp2_8 (FX : CallFix p m c cc nL s args Ts own) (hK : KK D y s) (hin : ∀ w ∈ wsX20, w ∈ Ts) (hP : va_P D vwCl (wC y a P X row) H) (hA : CA a 44) (hS : va_S (AC a) H0 H locs) (hlink : Cond.fieldLink own index "SeenNumbers$Land" "treeCount" "I" ∈ Ts) (hdg : decode cc pc = .ok (.putfield index, 3)) (kk : ∀ (H1 : Heap) (locs1 : List Loc), va_P D vwCl (wC y a (pg P 3 v) X row) H1 → va_S (AC a) H0 H1 locs1 → W p l e R s m args below meth c H1 locs1 cells slots Q (F0 m (pc + 3) ls rest)) : W p l e R s m args below meth c H locs cells slots Q (F0 m pc ls (.int v :: .ref (a 14) :: rest)) :=
  va_put (D := D) (ci := 2) (v := .int v) (ty := .int) (C := RX2) (T := TX2) (N := 13) FX.1 FX.2.1 FX.2.2.2.2 hin tyX2 tyX2_ok nmX2 FX.2.2.2.1 hK.1 hP (wC_D hA) hS (14) rfl rfl 8 (by decide) (FX.2.2.2.2 _ hlink) (fun _ h9 => h9) rfl rfl rfl rfl (Nat.le_of_ble_eq_true rfl) hdg (fun H1 locs1 hP1 _ hS1 => kk H1 locs1 ((fun z => z) hP1) hS1)
theorem cg2_9 (FX : CallFix p m c cc nL s args Ts own) (hK : KK D y s) (hin : ∀ w ∈ wsX20, w ∈ Ts) (hP : va_P D vwCl (wC y a P X row) H) (hlink : Cond.fieldLink own index "SeenNumbers$Land" "felled" "I" ∈ Ts) (hdg : decode cc pc = .ok (.getfield index, 3)) (kk : W p l e R s m args below meth c H locs cells slots Q (F0 m (pc + 3) ls (.int (P.1 4) :: rest))) : W p l e R s m args below meth c H locs cells slots Q (F0 m pc ls (.ref (a 14) :: rest)) :=
  va_get (D := D) (ci := 2) (v := .int (P.1 4)) (C := RX2) (T := TX2) (N := 13) FX.1 FX.2.1 FX.2.2.2.2 hin FX.2.2.2.1 hK.1 hP (14) rfl rfl 9 (by decide) (FX.2.2.2.2 _ hlink) (fun _ h9 => h9) rfl hdg kk
set_option maxRecDepth 100000 in
theorem cp2_9 (FX : CallFix p m c cc nL s args Ts own) (hK : KK D y s) (hin : ∀ w ∈ wsX20, w ∈ Ts) (hP : va_P D vwCl (wC y a P X row) H) (hA : CA a 44) (hS : va_S (AC a) H0 H locs) (hlink : Cond.fieldLink own index "SeenNumbers$Land" "felled" "I" ∈ Ts) (hdg : decode cc pc = .ok (.putfield index, 3)) (kk : ∀ (H1 : Heap) (locs1 : List Loc), va_P D vwCl (wC y a (pg P 4 v) X row) H1 → va_S (AC a) H0 H1 locs1 → W p l e R s m args below meth c H1 locs1 cells slots Q (F0 m (pc + 3) ls rest)) : W p l e R s m args below meth c H locs cells slots Q (F0 m pc ls (.int v :: .ref (a 14) :: rest)) :=
  va_put (D := D) (ci := 2) (v := .int v) (ty := .int) (C := RX2) (T := TX2) (N := 13) FX.1 FX.2.1 FX.2.2.2.2 hin tyX2 tyX2_ok nmX2 FX.2.2.2.1 hK.1 hP (wC_D hA) hS (14) rfl rfl 9 (by decide) (FX.2.2.2.2 _ hlink) (fun _ h9 => h9) rfl rfl rfl rfl (Nat.le_of_ble_eq_true rfl) hdg (fun H1 locs1 hP1 _ hS1 => kk H1 locs1 ((fun z => z) hP1) hS1)
theorem cg2_10 (FX : CallFix p m c cc nL s args Ts own) (hK : KK D y s) (hin : ∀ w ∈ wsX20, w ∈ Ts) (hP : va_P D vwCl (wC y a P X row) H) (hlink : Cond.fieldLink own index "SeenNumbers$Land" "year" "I" ∈ Ts) (hdg : decode cc pc = .ok (.getfield index, 3)) (kk : W p l e R s m args below meth c H locs cells slots Q (F0 m (pc + 3) ls (.int (P.1 5) :: rest))) : W p l e R s m args below meth c H locs cells slots Q (F0 m pc ls (.ref (a 14) :: rest)) :=
  va_get (D := D) (ci := 2) (v := .int (P.1 5)) (C := RX2) (T := TX2) (N := 13) FX.1 FX.2.1 FX.2.2.2.2 hin FX.2.2.2.1 hK.1 hP (14) rfl rfl 10 (by decide) (FX.2.2.2.2 _ hlink) (fun _ h9 => h9) rfl hdg kk
set_option maxRecDepth 100000 in
theorem cp2_10 (FX : CallFix p m c cc nL s args Ts own) (hK : KK D y s) (hin : ∀ w ∈ wsX20, w ∈ Ts) (hP : va_P D vwCl (wC y a P X row) H) (hA : CA a 44) (hS : va_S (AC a) H0 H locs) (hlink : Cond.fieldLink own index "SeenNumbers$Land" "year" "I" ∈ Ts) (hdg : decode cc pc = .ok (.putfield index, 3)) (kk : ∀ (H1 : Heap) (locs1 : List Loc), va_P D vwCl (wC y a (pg P 5 v) X row) H1 → va_S (AC a) H0 H1 locs1 → W p l e R s m args below meth c H1 locs1 cells slots Q (F0 m (pc + 3) ls rest)) : W p l e R s m args below meth c H locs cells slots Q (F0 m pc ls (.int v :: .ref (a 14) :: rest)) :=
  va_put (D := D) (ci := 2) (v := .int v) (ty := .int) (C := RX2) (T := TX2) (N := 13) FX.1 FX.2.1 FX.2.2.2.2 hin tyX2 tyX2_ok nmX2 FX.2.2.2.1 hK.1 hP (wC_D hA) hS (14) rfl rfl 10 (by decide) (FX.2.2.2.2 _ hlink) (fun _ h9 => h9) rfl rfl rfl rfl (Nat.le_of_ble_eq_true rfl) hdg (fun H1 locs1 hP1 _ hS1 => kk H1 locs1 ((fun z => z) hP1) hS1)
theorem cg2_11 (FX : CallFix p m c cc nL s args Ts own) (hK : KK D y s) (hin : ∀ w ∈ wsX20, w ∈ Ts) (hP : va_P D vwCl (wC y a P X row) H) (hlink : Cond.fieldLink own index "SeenNumbers$Land" "fog" "I" ∈ Ts) (hdg : decode cc pc = .ok (.getfield index, 3)) (kk : W p l e R s m args below meth c H locs cells slots Q (F0 m (pc + 3) ls (.int (P.1 6) :: rest))) : W p l e R s m args below meth c H locs cells slots Q (F0 m pc ls (.ref (a 14) :: rest)) :=
  va_get (D := D) (ci := 2) (v := .int (P.1 6)) (C := RX2) (T := TX2) (N := 13) FX.1 FX.2.1 FX.2.2.2.2 hin FX.2.2.2.1 hK.1 hP (14) rfl rfl 11 (by decide) (FX.2.2.2.2 _ hlink) (fun _ h9 => h9) rfl hdg kk
set_option maxRecDepth 100000 in
theorem cp2_11 (FX : CallFix p m c cc nL s args Ts own) (hK : KK D y s) (hin : ∀ w ∈ wsX20, w ∈ Ts) (hP : va_P D vwCl (wC y a P X row) H) (hA : CA a 44) (hS : va_S (AC a) H0 H locs) (hlink : Cond.fieldLink own index "SeenNumbers$Land" "fog" "I" ∈ Ts) (hdg : decode cc pc = .ok (.putfield index, 3)) (kk : ∀ (H1 : Heap) (locs1 : List Loc), va_P D vwCl (wC y a (pg P 6 v) X row) H1 → va_S (AC a) H0 H1 locs1 → W p l e R s m args below meth c H1 locs1 cells slots Q (F0 m (pc + 3) ls rest)) : W p l e R s m args below meth c H locs cells slots Q (F0 m pc ls (.int v :: .ref (a 14) :: rest)) :=
  va_put (D := D) (ci := 2) (v := .int v) (ty := .int) (C := RX2) (T := TX2) (N := 13) FX.1 FX.2.1 FX.2.2.2.2 hin tyX2 tyX2_ok nmX2 FX.2.2.2.1 hK.1 hP (wC_D hA) hS (14) rfl rfl 11 (by decide) (FX.2.2.2.2 _ hlink) (fun _ h9 => h9) rfl rfl rfl rfl (Nat.le_of_ble_eq_true rfl) hdg (fun H1 locs1 hP1 _ hS1 => kk H1 locs1 ((fun z => z) hP1) hS1)
theorem cg2_12 (FX : CallFix p m c cc nL s args Ts own) (hK : KK D y s) (hin : ∀ w ∈ wsX20, w ∈ Ts) (hP : va_P D vwCl (wC y a P X row) H) (hlink : Cond.fieldLink own index "SeenNumbers$Land" "law" "I" ∈ Ts) (hdg : decode cc pc = .ok (.getfield index, 3)) (kk : W p l e R s m args below meth c H locs cells slots Q (F0 m (pc + 3) ls (.int (P.1 7) :: rest))) : W p l e R s m args below meth c H locs cells slots Q (F0 m pc ls (.ref (a 14) :: rest)) :=
  va_get (D := D) (ci := 2) (v := .int (P.1 7)) (C := RX2) (T := TX2) (N := 13) FX.1 FX.2.1 FX.2.2.2.2 hin FX.2.2.2.1 hK.1 hP (14) rfl rfl 12 (by decide) (FX.2.2.2.2 _ hlink) (fun _ h9 => h9) rfl hdg kk
set_option maxRecDepth 100000 in
theorem cp2_12 (FX : CallFix p m c cc nL s args Ts own) (hK : KK D y s) (hin : ∀ w ∈ wsX20, w ∈ Ts) (hP : va_P D vwCl (wC y a P X row) H) (hA : CA a 44) (hS : va_S (AC a) H0 H locs) (hlink : Cond.fieldLink own index "SeenNumbers$Land" "law" "I" ∈ Ts) (hdg : decode cc pc = .ok (.putfield index, 3)) (kk : ∀ (H1 : Heap) (locs1 : List Loc), va_P D vwCl (wC y a (pg P 7 v) X row) H1 → va_S (AC a) H0 H1 locs1 → W p l e R s m args below meth c H1 locs1 cells slots Q (F0 m (pc + 3) ls rest)) : W p l e R s m args below meth c H locs cells slots Q (F0 m pc ls (.int v :: .ref (a 14) :: rest)) :=
  va_put (D := D) (ci := 2) (v := .int v) (ty := .int) (C := RX2) (T := TX2) (N := 13) FX.1 FX.2.1 FX.2.2.2.2 hin tyX2 tyX2_ok nmX2 FX.2.2.2.1 hK.1 hP (wC_D hA) hS (14) rfl rfl 12 (by decide) (FX.2.2.2.2 _ hlink) (fun _ h9 => h9) rfl rfl rfl rfl (Nat.le_of_ble_eq_true rfl) hdg (fun H1 locs1 hP1 _ hS1 => kk H1 locs1 ((fun z => z) hP1) hS1)
theorem cg5_0 (FX : CallFix p m c cc nL s args Ts own) (hK : KK D y s) (hin : ∀ w ∈ wsX50, w ∈ Ts) (hP : va_P D vwCl (wC y a P X row) H) (hlink : Cond.fieldLink own index "SeenNumbers$Sight" "tops" "[I" ∈ Ts) (hdg : decode cc pc = .ok (.getfield index, 3)) (kk : W p l e R s m args below meth c H locs cells slots Q (F0 m (pc + 3) ls (.ref (a 37) :: rest))) : W p l e R s m args below meth c H locs cells slots Q (F0 m pc ls (.ref (a 36) :: rest)) :=
  va_get (D := D) (ci := 5) (v := .ref (a 37)) (C := RX5) (T := TX5) (N := 4) FX.1 FX.2.1 FX.2.2.2.2 hin FX.2.2.2.1 hK.1 hP (36) rfl rfl 0 (by decide) (FX.2.2.2.2 _ hlink) (fun _ h9 => h9) rfl hdg kk
theorem cg5_1 (FX : CallFix p m c cc nL s args Ts own) (hK : KK D y s) (hin : ∀ w ∈ wsX50, w ∈ Ts) (hP : va_P D vwCl (wC y a P X row) H) (hlink : Cond.fieldLink own index "SeenNumbers$Sight" "numbers" "[I" ∈ Ts) (hdg : decode cc pc = .ok (.getfield index, 3)) (kk : W p l e R s m args below meth c H locs cells slots Q (F0 m (pc + 3) ls (.ref (a 38) :: rest))) : W p l e R s m args below meth c H locs cells slots Q (F0 m pc ls (.ref (a 36) :: rest)) :=
  va_get (D := D) (ci := 5) (v := .ref (a 38)) (C := RX5) (T := TX5) (N := 4) FX.1 FX.2.1 FX.2.2.2.2 hin FX.2.2.2.1 hK.1 hP (36) rfl rfl 1 (by decide) (FX.2.2.2.2 _ hlink) (fun _ h9 => h9) rfl hdg kk
theorem cg5_2 (FX : CallFix p m c cc nL s args Ts own) (hK : KK D y s) (hin : ∀ w ∈ wsX50, w ∈ Ts) (hP : va_P D vwCl (wC y a P X row) H) (hlink : Cond.fieldLink own index "SeenNumbers$Sight" "fog" "I" ∈ Ts) (hdg : decode cc pc = .ok (.getfield index, 3)) (kk : W p l e R s m args below meth c H locs cells slots Q (F0 m (pc + 3) ls (.int (X.1 7) :: rest))) : W p l e R s m args below meth c H locs cells slots Q (F0 m pc ls (.ref (a 36) :: rest)) :=
  va_get (D := D) (ci := 5) (v := .int (X.1 7)) (C := RX5) (T := TX5) (N := 4) FX.1 FX.2.1 FX.2.2.2.2 hin FX.2.2.2.1 hK.1 hP (36) rfl rfl 2 (by decide) (FX.2.2.2.2 _ hlink) (fun _ h9 => h9) rfl hdg kk
set_option maxRecDepth 100000 in
theorem cp5_2 (FX : CallFix p m c cc nL s args Ts own) (hK : KK D y s) (hin : ∀ w ∈ wsX50, w ∈ Ts) (hP : va_P D vwCl (wC y a P X row) H) (hA : CA a 44) (hS : va_S (AC a) H0 H locs) (hlink : Cond.fieldLink own index "SeenNumbers$Sight" "fog" "I" ∈ Ts) (hdg : decode cc pc = .ok (.putfield index, 3)) (kk : ∀ (H1 : Heap) (locs1 : List Loc), va_P D vwCl (wC y a P (pg X 7 v) row) H1 → va_S (AC a) H0 H1 locs1 → W p l e R s m args below meth c H1 locs1 cells slots Q (F0 m (pc + 3) ls rest)) : W p l e R s m args below meth c H locs cells slots Q (F0 m pc ls (.int v :: .ref (a 36) :: rest)) :=
  va_put (D := D) (ci := 5) (v := .int v) (ty := .int) (C := RX5) (T := TX5) (N := 4) FX.1 FX.2.1 FX.2.2.2.2 hin tyX5 tyX5_ok nmX5 FX.2.2.2.1 hK.1 hP (wC_D hA) hS (36) rfl rfl 2 (by decide) (FX.2.2.2.2 _ hlink) (fun _ h9 => h9) rfl rfl rfl rfl (Nat.le_of_ble_eq_true rfl) hdg (fun H1 locs1 hP1 _ hS1 => kk H1 locs1 ((fun z => z) hP1) hS1)
theorem cg5_3 (FX : CallFix p m c cc nL s args Ts own) (hK : KK D y s) (hin : ∀ w ∈ wsX50, w ∈ Ts) (hP : va_P D vwCl (wC y a P X row) H) (hlink : Cond.fieldLink own index "SeenNumbers$Sight" "land" "LSeenNumbers$Land;" ∈ Ts) (hdg : decode cc pc = .ok (.getfield index, 3)) (kk : W p l e R s m args below meth c H locs cells slots Q (F0 m (pc + 3) ls (.ref (a 14) :: rest))) : W p l e R s m args below meth c H locs cells slots Q (F0 m pc ls (.ref (a 36) :: rest)) :=
  va_get (D := D) (ci := 5) (v := .ref (a 14)) (C := RX5) (T := TX5) (N := 4) FX.1 FX.2.1 FX.2.2.2.2 hin FX.2.2.2.1 hK.1 hP (36) rfl rfl 3 (by decide) (FX.2.2.2.2 _ hlink) (fun _ h9 => h9) rfl hdg kk
theorem cg0_0 (FX : CallFix p m c cc nL s args Ts own) (hK : KK D y s) (hin : ∀ w ∈ wsX00, w ∈ Ts) (hP : va_P D vwCl (wC y a P X row) H) (hlink : Cond.fieldLink own index "SeenNumbers$Finder" "land" "LSeenNumbers$Land;" ∈ Ts) (hdg : decode cc pc = .ok (.getfield index, 3)) (kk : W p l e R s m args below meth c H locs cells slots Q (F0 m (pc + 3) ls (.ref (a 14) :: rest))) : W p l e R s m args below meth c H locs cells slots Q (F0 m pc ls (.ref (a 39) :: rest)) :=
  va_get (D := D) (ci := 0) (v := .ref (a 14)) (C := RX0) (T := TX0) (N := 2) FX.1 FX.2.1 FX.2.2.2.2 hin FX.2.2.2.1 hK.1 hP (39) rfl rfl 0 (by decide) (FX.2.2.2.2 _ hlink) (fun _ h9 => h9) rfl hdg kk
theorem cg0_1 (FX : CallFix p m c cc nL s args Ts own) (hK : KK D y s) (hin : ∀ w ∈ wsX00, w ∈ Ts) (hP : va_P D vwCl (wC y a P X row) H) (hlink : Cond.fieldLink own index "SeenNumbers$Finder" "sight" "LSeenNumbers$Sight;" ∈ Ts) (hdg : decode cc pc = .ok (.getfield index, 3)) (kk : W p l e R s m args below meth c H locs cells slots Q (F0 m (pc + 3) ls (.ref (a 36) :: rest))) : W p l e R s m args below meth c H locs cells slots Q (F0 m pc ls (.ref (a 39) :: rest)) :=
  va_get (D := D) (ci := 0) (v := .ref (a 36)) (C := RX0) (T := TX0) (N := 2) FX.1 FX.2.1 FX.2.2.2.2 hin FX.2.2.2.1 hK.1 hP (39) rfl rfl 1 (by decide) (FX.2.2.2.2 _ hlink) (fun _ h9 => h9) rfl hdg kk
theorem cg3_0 (FX : CallFix p m c cc nL s args Ts own) (hK : KK D y s) (hin : ∀ w ∈ wsX30, w ∈ Ts) (hP : va_P D vwCl (wC y a P X row) H) (hlink : Cond.fieldLink own index "SeenNumbers$Readings" "count" "I" ∈ Ts) (hdg : decode cc pc = .ok (.getfield index, 3)) (kk : W p l e R s m args below meth c H locs cells slots Q (F0 m (pc + 3) ls (.int (P.1 8) :: rest))) : W p l e R s m args below meth c H locs cells slots Q (F0 m pc ls (.ref (a 40) :: rest)) :=
  va_get (D := D) (ci := 3) (v := .int (P.1 8)) (C := RX3) (T := TX3) (N := 6) FX.1 FX.2.1 FX.2.2.2.2 hin FX.2.2.2.1 hK.1 hP (40) rfl rfl 0 (by decide) (FX.2.2.2.2 _ hlink) (fun _ h9 => h9) rfl hdg kk
set_option maxRecDepth 100000 in
theorem cp3_0 (FX : CallFix p m c cc nL s args Ts own) (hK : KK D y s) (hin : ∀ w ∈ wsX30, w ∈ Ts) (hP : va_P D vwCl (wC y a P X row) H) (hA : CA a 44) (hS : va_S (AC a) H0 H locs) (hlink : Cond.fieldLink own index "SeenNumbers$Readings" "count" "I" ∈ Ts) (hdg : decode cc pc = .ok (.putfield index, 3)) (kk : ∀ (H1 : Heap) (locs1 : List Loc), va_P D vwCl (wC y a (pg P 8 v) X row) H1 → va_S (AC a) H0 H1 locs1 → W p l e R s m args below meth c H1 locs1 cells slots Q (F0 m (pc + 3) ls rest)) : W p l e R s m args below meth c H locs cells slots Q (F0 m pc ls (.int v :: .ref (a 40) :: rest)) :=
  va_put (D := D) (ci := 3) (v := .int v) (ty := .int) (C := RX3) (T := TX3) (N := 6) FX.1 FX.2.1 FX.2.2.2.2 hin tyX3 tyX3_ok nmX3 FX.2.2.2.1 hK.1 hP (wC_D hA) hS (40) rfl rfl 0 (by decide) (FX.2.2.2.2 _ hlink) (fun _ h9 => h9) rfl rfl rfl rfl (Nat.le_of_ble_eq_true rfl) hdg (fun H1 locs1 hP1 _ hS1 => kk H1 locs1 ((fun z => z) hP1) hS1)
theorem cg3_1 (FX : CallFix p m c cc nL s args Ts own) (hK : KK D y s) (hin : ∀ w ∈ wsX30, w ∈ Ts) (hP : va_P D vwCl (wC y a P X row) H) (hlink : Cond.fieldLink own index "SeenNumbers$Readings" "houses" "[I" ∈ Ts) (hdg : decode cc pc = .ok (.getfield index, 3)) (kk : W p l e R s m args below meth c H locs cells slots Q (F0 m (pc + 3) ls (.ref (a 41) :: rest))) : W p l e R s m args below meth c H locs cells slots Q (F0 m pc ls (.ref (a 40) :: rest)) :=
  va_get (D := D) (ci := 3) (v := .ref (a 41)) (C := RX3) (T := TX3) (N := 6) FX.1 FX.2.1 FX.2.2.2.2 hin FX.2.2.2.1 hK.1 hP (40) rfl rfl 1 (by decide) (FX.2.2.2.2 _ hlink) (fun _ h9 => h9) rfl hdg kk
theorem cg3_2 (FX : CallFix p m c cc nL s args Ts own) (hK : KK D y s) (hin : ∀ w ∈ wsX30, w ∈ Ts) (hP : va_P D vwCl (wC y a P X row) H) (hlink : Cond.fieldLink own index "SeenNumbers$Readings" "years" "[I" ∈ Ts) (hdg : decode cc pc = .ok (.getfield index, 3)) (kk : W p l e R s m args below meth c H locs cells slots Q (F0 m (pc + 3) ls (.ref (a 42) :: rest))) : W p l e R s m args below meth c H locs cells slots Q (F0 m pc ls (.ref (a 40) :: rest)) :=
  va_get (D := D) (ci := 3) (v := .ref (a 42)) (C := RX3) (T := TX3) (N := 6) FX.1 FX.2.1 FX.2.2.2.2 hin FX.2.2.2.1 hK.1 hP (40) rfl rfl 2 (by decide) (FX.2.2.2.2 _ hlink) (fun _ h9 => h9) rfl hdg kk
theorem cg3_3 (FX : CallFix p m c cc nL s args Ts own) (hK : KK D y s) (hin : ∀ w ∈ wsX30, w ∈ Ts) (hP : va_P D vwCl (wC y a P X row) H) (hlink : Cond.fieldLink own index "SeenNumbers$Readings" "numbers" "[I" ∈ Ts) (hdg : decode cc pc = .ok (.getfield index, 3)) (kk : W p l e R s m args below meth c H locs cells slots Q (F0 m (pc + 3) ls (.ref (a 43) :: rest))) : W p l e R s m args below meth c H locs cells slots Q (F0 m pc ls (.ref (a 40) :: rest)) :=
  va_get (D := D) (ci := 3) (v := .ref (a 43)) (C := RX3) (T := TX3) (N := 6) FX.1 FX.2.1 FX.2.2.2.2 hin FX.2.2.2.1 hK.1 hP (40) rfl rfl 3 (by decide) (FX.2.2.2.2 _ hlink) (fun _ h9 => h9) rfl hdg kk
theorem cg3_4 (FX : CallFix p m c cc nL s args Ts own) (hK : KK D y s) (hin : ∀ w ∈ wsX30, w ∈ Ts) (hP : va_P D vwCl (wC y a P X row) H) (hlink : Cond.fieldLink own index "SeenNumbers$Readings" "land" "LSeenNumbers$Land;" ∈ Ts) (hdg : decode cc pc = .ok (.getfield index, 3)) (kk : W p l e R s m args below meth c H locs cells slots Q (F0 m (pc + 3) ls (.ref (a 14) :: rest))) : W p l e R s m args below meth c H locs cells slots Q (F0 m pc ls (.ref (a 40) :: rest)) :=
  va_get (D := D) (ci := 3) (v := .ref (a 14)) (C := RX3) (T := TX3) (N := 6) FX.1 FX.2.1 FX.2.2.2.2 hin FX.2.2.2.1 hK.1 hP (40) rfl rfl 4 (by decide) (FX.2.2.2.2 _ hlink) (fun _ h9 => h9) rfl hdg kk
theorem cg3_5 (FX : CallFix p m c cc nL s args Ts own) (hK : KK D y s) (hin : ∀ w ∈ wsX30, w ∈ Ts) (hP : va_P D vwCl (wC y a P X row) H) (hlink : Cond.fieldLink own index "SeenNumbers$Readings" "sight" "LSeenNumbers$Sight;" ∈ Ts) (hdg : decode cc pc = .ok (.getfield index, 3)) (kk : W p l e R s m args below meth c H locs cells slots Q (F0 m (pc + 3) ls (.ref (a 36) :: rest))) : W p l e R s m args below meth c H locs cells slots Q (F0 m pc ls (.ref (a 40) :: rest)) :=
  va_get (D := D) (ci := 3) (v := .ref (a 36)) (C := RX3) (T := TX3) (N := 6) FX.1 FX.2.1 FX.2.2.2.2 hin FX.2.2.2.1 hK.1 hP (40) rfl rfl 5 (by decide) (FX.2.2.2.2 _ hlink) (fun _ h9 => h9) rfl hdg kk
theorem cg1_0 {h : Nat} (hh : h < 8) (FX : CallFix p m c cc nL s args Ts own) (hK : KK D y s) (hin : ∀ w ∈ wsX10, w ∈ Ts) (hP : va_P D vwCl (wC y a P X row) H) (hlink : Cond.fieldLink own index "SeenNumbers$House" "kind" "I" ∈ Ts) (hdg : decode cc pc = .ok (.getfield index, 3)) (kk : W p l e R s m args below meth c H locs cells slots Q (F0 m (pc + 3) ls (.int (P.2 3 h) :: rest))) : W p l e R s m args below meth c H locs cells slots Q (F0 m pc ls (.ref (a (20 + h)) :: rest)) :=
  va_get (D := D) (ci := 1) (v := .int (P.2 3 h)) (C := RX1) (T := TX1) (N := 4) FX.1 FX.2.1 FX.2.2.2.2 hin FX.2.2.2.1 hK.1 hP (20 + h) (wC_house y a P X row h hh) rfl 0 (by decide) (FX.2.2.2.2 _ hlink) (fun _ h9 => h9) rfl hdg kk
set_option maxRecDepth 100000 in
theorem cp1_0 {h : Nat} (hh : h < 8) (FX : CallFix p m c cc nL s args Ts own) (hK : KK D y s) (hin : ∀ w ∈ wsX10, w ∈ Ts) (hP : va_P D vwCl (wC y a P X row) H) (hA : CA a 44) (hS : va_S (AC a) H0 H locs) (hlink : Cond.fieldLink own index "SeenNumbers$House" "kind" "I" ∈ Ts) (hdg : decode cc pc = .ok (.putfield index, 3)) (kk : ∀ (H1 : Heap) (locs1 : List Loc), va_P D vwCl (wC y a (pa P 3 h v) X row) H1 → va_S (AC a) H0 H1 locs1 → W p l e R s m args below meth c H1 locs1 cells slots Q (F0 m (pc + 3) ls rest)) : W p l e R s m args below meth c H locs cells slots Q (F0 m pc ls (.int v :: .ref (a (20 + h)) :: rest)) :=
  va_put (D := D) (ci := 1) (v := .int v) (ty := .int) (C := RX1) (T := TX1) (N := 4) FX.1 FX.2.1 FX.2.2.2.2 hin tyX1 tyX1_ok nmX1 FX.2.2.2.1 hK.1 hP (wC_D hA) hS (20 + h) (wC_house y a P X row h hh) rfl 0 (by decide) (FX.2.2.2.2 _ hlink) (fun _ h9 => h9) rfl rfl rfl rfl (Nat.le_of_ble_eq_true rfl) hdg (fun H1 locs1 hP1 _ hS1 => kk H1 locs1 ((wC_house_s0 y a P X row v h hh ▸ ·) hP1) hS1)
theorem cg1_1 {h : Nat} (hh : h < 8) (FX : CallFix p m c cc nL s args Ts own) (hK : KK D y s) (hin : ∀ w ∈ wsX10, w ∈ Ts) (hP : va_P D vwCl (wC y a P X row) H) (hlink : Cond.fieldLink own index "SeenNumbers$House" "place" "I" ∈ Ts) (hdg : decode cc pc = .ok (.getfield index, 3)) (kk : W p l e R s m args below meth c H locs cells slots Q (F0 m (pc + 3) ls (.int (P.2 4 h) :: rest))) : W p l e R s m args below meth c H locs cells slots Q (F0 m pc ls (.ref (a (20 + h)) :: rest)) :=
  va_get (D := D) (ci := 1) (v := .int (P.2 4 h)) (C := RX1) (T := TX1) (N := 4) FX.1 FX.2.1 FX.2.2.2.2 hin FX.2.2.2.1 hK.1 hP (20 + h) (wC_house y a P X row h hh) rfl 1 (by decide) (FX.2.2.2.2 _ hlink) (fun _ h9 => h9) rfl hdg kk
set_option maxRecDepth 100000 in
theorem cp1_1 {h : Nat} (hh : h < 8) (FX : CallFix p m c cc nL s args Ts own) (hK : KK D y s) (hin : ∀ w ∈ wsX10, w ∈ Ts) (hP : va_P D vwCl (wC y a P X row) H) (hA : CA a 44) (hS : va_S (AC a) H0 H locs) (hlink : Cond.fieldLink own index "SeenNumbers$House" "place" "I" ∈ Ts) (hdg : decode cc pc = .ok (.putfield index, 3)) (kk : ∀ (H1 : Heap) (locs1 : List Loc), va_P D vwCl (wC y a (pa P 4 h v) X row) H1 → va_S (AC a) H0 H1 locs1 → W p l e R s m args below meth c H1 locs1 cells slots Q (F0 m (pc + 3) ls rest)) : W p l e R s m args below meth c H locs cells slots Q (F0 m pc ls (.int v :: .ref (a (20 + h)) :: rest)) :=
  va_put (D := D) (ci := 1) (v := .int v) (ty := .int) (C := RX1) (T := TX1) (N := 4) FX.1 FX.2.1 FX.2.2.2.2 hin tyX1 tyX1_ok nmX1 FX.2.2.2.1 hK.1 hP (wC_D hA) hS (20 + h) (wC_house y a P X row h hh) rfl 1 (by decide) (FX.2.2.2.2 _ hlink) (fun _ h9 => h9) rfl rfl rfl rfl (Nat.le_of_ble_eq_true rfl) hdg (fun H1 locs1 hP1 _ hS1 => kk H1 locs1 ((wC_house_s1 y a P X row v h hh ▸ ·) hP1) hS1)
theorem cg1_2 {h : Nat} (hh : h < 8) (FX : CallFix p m c cc nL s args Ts own) (hK : KK D y s) (hin : ∀ w ∈ wsX10, w ∈ Ts) (hP : va_P D vwCl (wC y a P X row) H) (hlink : Cond.fieldLink own index "SeenNumbers$House" "tallAtFirst" "I" ∈ Ts) (hdg : decode cc pc = .ok (.getfield index, 3)) (kk : W p l e R s m args below meth c H locs cells slots Q (F0 m (pc + 3) ls (.int (P.2 5 h) :: rest))) : W p l e R s m args below meth c H locs cells slots Q (F0 m pc ls (.ref (a (20 + h)) :: rest)) :=
  va_get (D := D) (ci := 1) (v := .int (P.2 5 h)) (C := RX1) (T := TX1) (N := 4) FX.1 FX.2.1 FX.2.2.2.2 hin FX.2.2.2.1 hK.1 hP (20 + h) (wC_house y a P X row h hh) rfl 2 (by decide) (FX.2.2.2.2 _ hlink) (fun _ h9 => h9) rfl hdg kk
set_option maxRecDepth 100000 in
theorem cp1_2 {h : Nat} (hh : h < 8) (FX : CallFix p m c cc nL s args Ts own) (hK : KK D y s) (hin : ∀ w ∈ wsX10, w ∈ Ts) (hP : va_P D vwCl (wC y a P X row) H) (hA : CA a 44) (hS : va_S (AC a) H0 H locs) (hlink : Cond.fieldLink own index "SeenNumbers$House" "tallAtFirst" "I" ∈ Ts) (hdg : decode cc pc = .ok (.putfield index, 3)) (kk : ∀ (H1 : Heap) (locs1 : List Loc), va_P D vwCl (wC y a (pa P 5 h v) X row) H1 → va_S (AC a) H0 H1 locs1 → W p l e R s m args below meth c H1 locs1 cells slots Q (F0 m (pc + 3) ls rest)) : W p l e R s m args below meth c H locs cells slots Q (F0 m pc ls (.int v :: .ref (a (20 + h)) :: rest)) :=
  va_put (D := D) (ci := 1) (v := .int v) (ty := .int) (C := RX1) (T := TX1) (N := 4) FX.1 FX.2.1 FX.2.2.2.2 hin tyX1 tyX1_ok nmX1 FX.2.2.2.1 hK.1 hP (wC_D hA) hS (20 + h) (wC_house y a P X row h hh) rfl 2 (by decide) (FX.2.2.2.2 _ hlink) (fun _ h9 => h9) rfl rfl rfl rfl (Nat.le_of_ble_eq_true rfl) hdg (fun H1 locs1 hP1 _ hS1 => kk H1 locs1 ((wC_house_s2 y a P X row v h hh ▸ ·) hP1) hS1)
theorem cg1_3 {h : Nat} (hh : h < 8) (FX : CallFix p m c cc nL s args Ts own) (hK : KK D y s) (hin : ∀ w ∈ wsX10, w ∈ Ts) (hP : va_P D vwCl (wC y a P X row) H) (hlink : Cond.fieldLink own index "SeenNumbers$House" "floorsOn" "I" ∈ Ts) (hdg : decode cc pc = .ok (.getfield index, 3)) (kk : W p l e R s m args below meth c H locs cells slots Q (F0 m (pc + 3) ls (.int (P.2 6 h) :: rest))) : W p l e R s m args below meth c H locs cells slots Q (F0 m pc ls (.ref (a (20 + h)) :: rest)) :=
  va_get (D := D) (ci := 1) (v := .int (P.2 6 h)) (C := RX1) (T := TX1) (N := 4) FX.1 FX.2.1 FX.2.2.2.2 hin FX.2.2.2.1 hK.1 hP (20 + h) (wC_house y a P X row h hh) rfl 3 (by decide) (FX.2.2.2.2 _ hlink) (fun _ h9 => h9) rfl hdg kk
set_option maxRecDepth 100000 in
theorem cp1_3 {h : Nat} (hh : h < 8) (FX : CallFix p m c cc nL s args Ts own) (hK : KK D y s) (hin : ∀ w ∈ wsX10, w ∈ Ts) (hP : va_P D vwCl (wC y a P X row) H) (hA : CA a 44) (hS : va_S (AC a) H0 H locs) (hlink : Cond.fieldLink own index "SeenNumbers$House" "floorsOn" "I" ∈ Ts) (hdg : decode cc pc = .ok (.putfield index, 3)) (kk : ∀ (H1 : Heap) (locs1 : List Loc), va_P D vwCl (wC y a (pa P 6 h v) X row) H1 → va_S (AC a) H0 H1 locs1 → W p l e R s m args below meth c H1 locs1 cells slots Q (F0 m (pc + 3) ls rest)) : W p l e R s m args below meth c H locs cells slots Q (F0 m pc ls (.int v :: .ref (a (20 + h)) :: rest)) :=
  va_put (D := D) (ci := 1) (v := .int v) (ty := .int) (C := RX1) (T := TX1) (N := 4) FX.1 FX.2.1 FX.2.2.2.2 hin tyX1 tyX1_ok nmX1 FX.2.2.2.1 hK.1 hP (wC_D hA) hS (20 + h) (wC_house y a P X row h hh) rfl 3 (by decide) (FX.2.2.2.2 _ hlink) (fun _ h9 => h9) rfl rfl rfl rfl (Nat.le_of_ble_eq_true rfl) hdg (fun H1 locs1 hP1 _ hS1 => kk H1 locs1 ((wC_house_s3 y a P X row v h hh ▸ ·) hP1) hS1)
theorem cg7_0 {h : Nat} (hh : h < 8) (FX : CallFix p m c cc nL s args Ts own) (hK : KK D y s) (hin : ∀ w ∈ wsX70, w ∈ Ts) (hP : va_P D vwCl (wC y a P X row) H) (hlink : Cond.fieldLink own index "SeenNumbers$Tree" "place" "I" ∈ Ts) (hdg : decode cc pc = .ok (.getfield index, 3)) (kk : W p l e R s m args below meth c H locs cells slots Q (F0 m (pc + 3) ls (.int (P.2 7 h) :: rest))) : W p l e R s m args below meth c H locs cells slots Q (F0 m pc ls (.ref (a (28 + h)) :: rest)) :=
  va_get (D := D) (ci := 7) (v := .int (P.2 7 h)) (C := RX7) (T := TX7) (N := 2) FX.1 FX.2.1 FX.2.2.2.2 hin FX.2.2.2.1 hK.1 hP (28 + h) (wC_tree y a P X row h hh) rfl 0 (by decide) (FX.2.2.2.2 _ hlink) (fun _ h9 => h9) rfl hdg kk
set_option maxRecDepth 100000 in
theorem cp7_0 {h : Nat} (hh : h < 8) (FX : CallFix p m c cc nL s args Ts own) (hK : KK D y s) (hin : ∀ w ∈ wsX70, w ∈ Ts) (hP : va_P D vwCl (wC y a P X row) H) (hA : CA a 44) (hS : va_S (AC a) H0 H locs) (hlink : Cond.fieldLink own index "SeenNumbers$Tree" "place" "I" ∈ Ts) (hdg : decode cc pc = .ok (.putfield index, 3)) (kk : ∀ (H1 : Heap) (locs1 : List Loc), va_P D vwCl (wC y a (pa P 7 h v) X row) H1 → va_S (AC a) H0 H1 locs1 → W p l e R s m args below meth c H1 locs1 cells slots Q (F0 m (pc + 3) ls rest)) : W p l e R s m args below meth c H locs cells slots Q (F0 m pc ls (.int v :: .ref (a (28 + h)) :: rest)) :=
  va_put (D := D) (ci := 7) (v := .int v) (ty := .int) (C := RX7) (T := TX7) (N := 2) FX.1 FX.2.1 FX.2.2.2.2 hin tyX7 tyX7_ok nmX7 FX.2.2.2.1 hK.1 hP (wC_D hA) hS (28 + h) (wC_tree y a P X row h hh) rfl 0 (by decide) (FX.2.2.2.2 _ hlink) (fun _ h9 => h9) rfl rfl rfl rfl (Nat.le_of_ble_eq_true rfl) hdg (fun H1 locs1 hP1 _ hS1 => kk H1 locs1 ((wC_tree_s0 y a P X row v h hh ▸ ·) hP1) hS1)
theorem cg7_1 {h : Nat} (hh : h < 8) (FX : CallFix p m c cc nL s args Ts own) (hK : KK D y s) (hin : ∀ w ∈ wsX70, w ∈ Ts) (hP : va_P D vwCl (wC y a P X row) H) (hlink : Cond.fieldLink own index "SeenNumbers$Tree" "tallAtFirst" "I" ∈ Ts) (hdg : decode cc pc = .ok (.getfield index, 3)) (kk : W p l e R s m args below meth c H locs cells slots Q (F0 m (pc + 3) ls (.int (P.2 8 h) :: rest))) : W p l e R s m args below meth c H locs cells slots Q (F0 m pc ls (.ref (a (28 + h)) :: rest)) :=
  va_get (D := D) (ci := 7) (v := .int (P.2 8 h)) (C := RX7) (T := TX7) (N := 2) FX.1 FX.2.1 FX.2.2.2.2 hin FX.2.2.2.1 hK.1 hP (28 + h) (wC_tree y a P X row h hh) rfl 1 (by decide) (FX.2.2.2.2 _ hlink) (fun _ h9 => h9) rfl hdg kk
set_option maxRecDepth 100000 in
theorem cp7_1 {h : Nat} (hh : h < 8) (FX : CallFix p m c cc nL s args Ts own) (hK : KK D y s) (hin : ∀ w ∈ wsX70, w ∈ Ts) (hP : va_P D vwCl (wC y a P X row) H) (hA : CA a 44) (hS : va_S (AC a) H0 H locs) (hlink : Cond.fieldLink own index "SeenNumbers$Tree" "tallAtFirst" "I" ∈ Ts) (hdg : decode cc pc = .ok (.putfield index, 3)) (kk : ∀ (H1 : Heap) (locs1 : List Loc), va_P D vwCl (wC y a (pa P 8 h v) X row) H1 → va_S (AC a) H0 H1 locs1 → W p l e R s m args below meth c H1 locs1 cells slots Q (F0 m (pc + 3) ls rest)) : W p l e R s m args below meth c H locs cells slots Q (F0 m pc ls (.int v :: .ref (a (28 + h)) :: rest)) :=
  va_put (D := D) (ci := 7) (v := .int v) (ty := .int) (C := RX7) (T := TX7) (N := 2) FX.1 FX.2.1 FX.2.2.2.2 hin tyX7 tyX7_ok nmX7 FX.2.2.2.1 hK.1 hP (wC_D hA) hS (28 + h) (wC_tree y a P X row h hh) rfl 1 (by decide) (FX.2.2.2.2 _ hlink) (fun _ h9 => h9) rfl rfl rfl rfl (Nat.le_of_ble_eq_true rfl) hdg (fun H1 locs1 hP1 _ hS1 => kk H1 locs1 ((wC_tree_s1 y a P X row v h hh ▸ ·) hP1) hS1)
theorem cg4_0 {h : Nat} (hh : h < 4) (FX : CallFix p m c cc nL s args Ts own) (hK : KK D y s) (hin : ∀ w ∈ wsX40, w ∈ Ts) (hP : va_P D vwCl (wC y a P X row) H) (hlink : Cond.fieldLink own index "SeenNumbers$Sheet" "cells" "[I" ∈ Ts) (hdg : decode cc pc = .ok (.getfield index, 3)) (kk : W p l e R s m args below meth c H locs cells slots Q (F0 m (pc + 3) ls (.ref (a (6 + h)) :: rest))) : W p l e R s m args below meth c H locs cells slots Q (F0 m pc ls (.ref (a (2 + h)) :: rest)) :=
  va_get (D := D) (ci := 4) (v := .ref (a (6 + h))) (C := RX4) (T := TX4) (N := 3) FX.1 FX.2.1 FX.2.2.2.2 hin FX.2.2.2.1 hK.1 hP (2 + h) (wC_sheet y a P X row h hh) rfl 0 (by decide) (FX.2.2.2.2 _ hlink) (fun _ h9 => h9) rfl hdg kk
theorem cg4_1 {h : Nat} (hh : h < 4) (FX : CallFix p m c cc nL s args Ts own) (hK : KK D y s) (hin : ∀ w ∈ wsX40, w ∈ Ts) (hP : va_P D vwCl (wC y a P X row) H) (hlink : Cond.fieldLink own index "SeenNumbers$Sheet" "lane" "I" ∈ Ts) (hdg : decode cc pc = .ok (.getfield index, 3)) (kk : W p l e R s m args below meth c H locs cells slots Q (F0 m (pc + 3) ls (.int (P.2 12 h) :: rest))) : W p l e R s m args below meth c H locs cells slots Q (F0 m pc ls (.ref (a (2 + h)) :: rest)) :=
  va_get (D := D) (ci := 4) (v := .int (P.2 12 h)) (C := RX4) (T := TX4) (N := 3) FX.1 FX.2.1 FX.2.2.2.2 hin FX.2.2.2.1 hK.1 hP (2 + h) (wC_sheet y a P X row h hh) rfl 1 (by decide) (FX.2.2.2.2 _ hlink) (fun _ h9 => h9) rfl hdg kk
set_option maxRecDepth 100000 in
theorem cp4_1 {h : Nat} (hh : h < 4) (FX : CallFix p m c cc nL s args Ts own) (hK : KK D y s) (hin : ∀ w ∈ wsX40, w ∈ Ts) (hP : va_P D vwCl (wC y a P X row) H) (hA : CA a 44) (hS : va_S (AC a) H0 H locs) (hlink : Cond.fieldLink own index "SeenNumbers$Sheet" "lane" "I" ∈ Ts) (hdg : decode cc pc = .ok (.putfield index, 3)) (kk : ∀ (H1 : Heap) (locs1 : List Loc), va_P D vwCl (wC y a (pa P 12 h v) X row) H1 → va_S (AC a) H0 H1 locs1 → W p l e R s m args below meth c H1 locs1 cells slots Q (F0 m (pc + 3) ls rest)) : W p l e R s m args below meth c H locs cells slots Q (F0 m pc ls (.int v :: .ref (a (2 + h)) :: rest)) :=
  va_put (D := D) (ci := 4) (v := .int v) (ty := .int) (C := RX4) (T := TX4) (N := 3) FX.1 FX.2.1 FX.2.2.2.2 hin tyX4 tyX4_ok nmX4 FX.2.2.2.1 hK.1 hP (wC_D hA) hS (2 + h) (wC_sheet y a P X row h hh) rfl 1 (by decide) (FX.2.2.2.2 _ hlink) (fun _ h9 => h9) rfl rfl rfl rfl (Nat.le_of_ble_eq_true rfl) hdg (fun H1 locs1 hP1 _ hS1 => kk H1 locs1 ((wC_sheet_s1 y a P X row v h hh ▸ ·) hP1) hS1)
theorem cg4_2 {h : Nat} (hh : h < 4) (FX : CallFix p m c cc nL s args Ts own) (hK : KK D y s) (hin : ∀ w ∈ wsX40, w ∈ Ts) (hP : va_P D vwCl (wC y a P X row) H) (hlink : Cond.fieldLink own index "SeenNumbers$Sheet" "size" "I" ∈ Ts) (hdg : decode cc pc = .ok (.getfield index, 3)) (kk : W p l e R s m args below meth c H locs cells slots Q (F0 m (pc + 3) ls (.int (P.2 13 h) :: rest))) : W p l e R s m args below meth c H locs cells slots Q (F0 m pc ls (.ref (a (2 + h)) :: rest)) :=
  va_get (D := D) (ci := 4) (v := .int (P.2 13 h)) (C := RX4) (T := TX4) (N := 3) FX.1 FX.2.1 FX.2.2.2.2 hin FX.2.2.2.1 hK.1 hP (2 + h) (wC_sheet y a P X row h hh) rfl 2 (by decide) (FX.2.2.2.2 _ hlink) (fun _ h9 => h9) rfl hdg kk
set_option maxRecDepth 100000 in
theorem cp4_2 {h : Nat} (hh : h < 4) (FX : CallFix p m c cc nL s args Ts own) (hK : KK D y s) (hin : ∀ w ∈ wsX40, w ∈ Ts) (hP : va_P D vwCl (wC y a P X row) H) (hA : CA a 44) (hS : va_S (AC a) H0 H locs) (hlink : Cond.fieldLink own index "SeenNumbers$Sheet" "size" "I" ∈ Ts) (hdg : decode cc pc = .ok (.putfield index, 3)) (kk : ∀ (H1 : Heap) (locs1 : List Loc), va_P D vwCl (wC y a (pa P 13 h v) X row) H1 → va_S (AC a) H0 H1 locs1 → W p l e R s m args below meth c H1 locs1 cells slots Q (F0 m (pc + 3) ls rest)) : W p l e R s m args below meth c H locs cells slots Q (F0 m pc ls (.int v :: .ref (a (2 + h)) :: rest)) :=
  va_put (D := D) (ci := 4) (v := .int v) (ty := .int) (C := RX4) (T := TX4) (N := 3) FX.1 FX.2.1 FX.2.2.2.2 hin tyX4 tyX4_ok nmX4 FX.2.2.2.1 hK.1 hP (wC_D hA) hS (2 + h) (wC_sheet y a P X row h hh) rfl 2 (by decide) (FX.2.2.2.2 _ hlink) (fun _ h9 => h9) rfl rfl rfl rfl (Nat.le_of_ble_eq_true rfl) hdg (fun H1 locs1 hP1 _ hS1 => kk H1 locs1 ((wC_sheet_s2 y a P X row v h hh ▸ ·) hP1) hS1)
theorem ca11 {i : Nat} (hi : i < 30) (FX : CallFix p m c cc nL s args Ts own) (hK : KK D y s) (hP : va_P D vwCl (wC y a P X row) H) (hdg : decode cc pc = .ok (.iaload, 1)) (kk : W p l e R s m args below meth c H locs cells slots Q (F0 m (pc + 1) ls (.int (X.2 0 i) :: rest))) : W p l e R s m args below meth c H locs cells slots Q (F0 m pc ls (.int (nI i) :: .ref (a 11) :: rest)) := by
  refine va_iald (D := D) (f := X.2 0) (n := 30) FX.1 FX.2.1 hK.1 hP (11) 0 rfl rfl (vp_in_nI hi (by decide)) hdg ?_
  rw [nI_clamp (by omega)]; exact kk
set_option maxRecDepth 100000 in
theorem cs11 {i : Nat} (hi : i < 30) (FX : CallFix p m c cc nL s args Ts own) (hK : KK D y s) (hP : va_P D vwCl (wC y a P X row) H) (hA : CA a 44) (hS : va_S (AC a) H0 H locs) (hdg : decode cc pc = .ok (.iastore, 1)) (kk : ∀ (H1 : Heap) (locs1 : List Loc), va_P D vwCl (wC y a P (pa X 0 i v) row) H1 → va_S (AC a) H0 H1 locs1 → W p l e R s m args below meth c H1 locs1 cells slots Q (F0 m (pc + 1) ls rest)) : W p l e R s m args below meth c H locs cells slots Q (F0 m pc ls (.int v :: .int (nI i) :: .ref (a 11) :: rest)) := by
  refine va_iast (D := D) (f := X.2 0) (n := 30) FX.1 FX.2.1 hK.1 hP (wC_D hA) hS (11) 0 rfl rfl (vp_in_nI hi (by decide)) hdg (fun H1 locs1 hP1 _ hS1 => kk H1 locs1 ?_ hS1)
  rw [nI_clamp (by omega)] at hP1; exact (fun z => z) hP1
theorem ca12 {i : Nat} (hi : i < 30) (FX : CallFix p m c cc nL s args Ts own) (hK : KK D y s) (hP : va_P D vwCl (wC y a P X row) H) (hdg : decode cc pc = .ok (.iaload, 1)) (kk : W p l e R s m args below meth c H locs cells slots Q (F0 m (pc + 1) ls (.int (X.2 1 i) :: rest))) : W p l e R s m args below meth c H locs cells slots Q (F0 m pc ls (.int (nI i) :: .ref (a 12) :: rest)) := by
  refine va_iald (D := D) (f := X.2 1) (n := 30) FX.1 FX.2.1 hK.1 hP (12) 0 rfl rfl (vp_in_nI hi (by decide)) hdg ?_
  rw [nI_clamp (by omega)]; exact kk
set_option maxRecDepth 100000 in
theorem cs12 {i : Nat} (hi : i < 30) (FX : CallFix p m c cc nL s args Ts own) (hK : KK D y s) (hP : va_P D vwCl (wC y a P X row) H) (hA : CA a 44) (hS : va_S (AC a) H0 H locs) (hdg : decode cc pc = .ok (.iastore, 1)) (kk : ∀ (H1 : Heap) (locs1 : List Loc), va_P D vwCl (wC y a P (pa X 1 i v) row) H1 → va_S (AC a) H0 H1 locs1 → W p l e R s m args below meth c H1 locs1 cells slots Q (F0 m (pc + 1) ls rest)) : W p l e R s m args below meth c H locs cells slots Q (F0 m pc ls (.int v :: .int (nI i) :: .ref (a 12) :: rest)) := by
  refine va_iast (D := D) (f := X.2 1) (n := 30) FX.1 FX.2.1 hK.1 hP (wC_D hA) hS (12) 0 rfl rfl (vp_in_nI hi (by decide)) hdg (fun H1 locs1 hP1 _ hS1 => kk H1 locs1 ?_ hS1)
  rw [nI_clamp (by omega)] at hP1; exact (fun z => z) hP1
theorem ca13 {i : Nat} (hi : i < 30) (FX : CallFix p m c cc nL s args Ts own) (hK : KK D y s) (hP : va_P D vwCl (wC y a P X row) H) (hdg : decode cc pc = .ok (.iaload, 1)) (kk : W p l e R s m args below meth c H locs cells slots Q (F0 m (pc + 1) ls (.int (X.2 2 i) :: rest))) : W p l e R s m args below meth c H locs cells slots Q (F0 m pc ls (.int (nI i) :: .ref (a 13) :: rest)) := by
  refine va_iald (D := D) (f := X.2 2) (n := 30) FX.1 FX.2.1 hK.1 hP (13) 0 rfl rfl (vp_in_nI hi (by decide)) hdg ?_
  rw [nI_clamp (by omega)]; exact kk
set_option maxRecDepth 100000 in
theorem cs13 {i : Nat} (hi : i < 30) (FX : CallFix p m c cc nL s args Ts own) (hK : KK D y s) (hP : va_P D vwCl (wC y a P X row) H) (hA : CA a 44) (hS : va_S (AC a) H0 H locs) (hdg : decode cc pc = .ok (.iastore, 1)) (kk : ∀ (H1 : Heap) (locs1 : List Loc), va_P D vwCl (wC y a P (pa X 2 i v) row) H1 → va_S (AC a) H0 H1 locs1 → W p l e R s m args below meth c H1 locs1 cells slots Q (F0 m (pc + 1) ls rest)) : W p l e R s m args below meth c H locs cells slots Q (F0 m pc ls (.int v :: .int (nI i) :: .ref (a 13) :: rest)) := by
  refine va_iast (D := D) (f := X.2 2) (n := 30) FX.1 FX.2.1 hK.1 hP (wC_D hA) hS (13) 0 rfl rfl (vp_in_nI hi (by decide)) hdg (fun H1 locs1 hP1 _ hS1 => kk H1 locs1 ?_ hS1)
  rw [nI_clamp (by omega)] at hP1; exact (fun z => z) hP1
theorem ca15 {i : Nat} (hi : i < 30) (FX : CallFix p m c cc nL s args Ts own) (hK : KK D y s) (hP : va_P D vwCl (wC y a P X row) H) (hdg : decode cc pc = .ok (.iaload, 1)) (kk : W p l e R s m args below meth c H locs cells slots Q (F0 m (pc + 1) ls (.int (P.2 0 i) :: rest))) : W p l e R s m args below meth c H locs cells slots Q (F0 m pc ls (.int (nI i) :: .ref (a 15) :: rest)) := by
  refine va_iald (D := D) (f := P.2 0) (n := 30) FX.1 FX.2.1 hK.1 hP (15) 0 rfl rfl (vp_in_nI hi (by decide)) hdg ?_
  rw [nI_clamp (by omega)]; exact kk
set_option maxRecDepth 100000 in
theorem cs15 {i : Nat} (hi : i < 30) (FX : CallFix p m c cc nL s args Ts own) (hK : KK D y s) (hP : va_P D vwCl (wC y a P X row) H) (hA : CA a 44) (hS : va_S (AC a) H0 H locs) (hdg : decode cc pc = .ok (.iastore, 1)) (kk : ∀ (H1 : Heap) (locs1 : List Loc), va_P D vwCl (wC y a (pa P 0 i v) X row) H1 → va_S (AC a) H0 H1 locs1 → W p l e R s m args below meth c H1 locs1 cells slots Q (F0 m (pc + 1) ls rest)) : W p l e R s m args below meth c H locs cells slots Q (F0 m pc ls (.int v :: .int (nI i) :: .ref (a 15) :: rest)) := by
  refine va_iast (D := D) (f := P.2 0) (n := 30) FX.1 FX.2.1 hK.1 hP (wC_D hA) hS (15) 0 rfl rfl (vp_in_nI hi (by decide)) hdg (fun H1 locs1 hP1 _ hS1 => kk H1 locs1 ?_ hS1)
  rw [nI_clamp (by omega)] at hP1; exact (fun z => z) hP1
theorem ca16 {i : Nat} (hi : i < 30) (FX : CallFix p m c cc nL s args Ts own) (hK : KK D y s) (hP : va_P D vwCl (wC y a P X row) H) (hdg : decode cc pc = .ok (.iaload, 1)) (kk : W p l e R s m args below meth c H locs cells slots Q (F0 m (pc + 1) ls (.int (P.2 1 i) :: rest))) : W p l e R s m args below meth c H locs cells slots Q (F0 m pc ls (.int (nI i) :: .ref (a 16) :: rest)) := by
  refine va_iald (D := D) (f := P.2 1) (n := 30) FX.1 FX.2.1 hK.1 hP (16) 0 rfl rfl (vp_in_nI hi (by decide)) hdg ?_
  rw [nI_clamp (by omega)]; exact kk
set_option maxRecDepth 100000 in
theorem cs16 {i : Nat} (hi : i < 30) (FX : CallFix p m c cc nL s args Ts own) (hK : KK D y s) (hP : va_P D vwCl (wC y a P X row) H) (hA : CA a 44) (hS : va_S (AC a) H0 H locs) (hdg : decode cc pc = .ok (.iastore, 1)) (kk : ∀ (H1 : Heap) (locs1 : List Loc), va_P D vwCl (wC y a (pa P 1 i v) X row) H1 → va_S (AC a) H0 H1 locs1 → W p l e R s m args below meth c H1 locs1 cells slots Q (F0 m (pc + 1) ls rest)) : W p l e R s m args below meth c H locs cells slots Q (F0 m pc ls (.int v :: .int (nI i) :: .ref (a 16) :: rest)) := by
  refine va_iast (D := D) (f := P.2 1) (n := 30) FX.1 FX.2.1 hK.1 hP (wC_D hA) hS (16) 0 rfl rfl (vp_in_nI hi (by decide)) hdg (fun H1 locs1 hP1 _ hS1 => kk H1 locs1 ?_ hS1)
  rw [nI_clamp (by omega)] at hP1; exact (fun z => z) hP1
theorem ca17 {i : Nat} (hi : i < 30) (FX : CallFix p m c cc nL s args Ts own) (hK : KK D y s) (hP : va_P D vwCl (wC y a P X row) H) (hdg : decode cc pc = .ok (.iaload, 1)) (kk : W p l e R s m args below meth c H locs cells slots Q (F0 m (pc + 1) ls (.int (P.2 2 i) :: rest))) : W p l e R s m args below meth c H locs cells slots Q (F0 m pc ls (.int (nI i) :: .ref (a 17) :: rest)) := by
  refine va_iald (D := D) (f := P.2 2) (n := 30) FX.1 FX.2.1 hK.1 hP (17) 0 rfl rfl (vp_in_nI hi (by decide)) hdg ?_
  rw [nI_clamp (by omega)]; exact kk
set_option maxRecDepth 100000 in
theorem cs17 {i : Nat} (hi : i < 30) (FX : CallFix p m c cc nL s args Ts own) (hK : KK D y s) (hP : va_P D vwCl (wC y a P X row) H) (hA : CA a 44) (hS : va_S (AC a) H0 H locs) (hdg : decode cc pc = .ok (.iastore, 1)) (kk : ∀ (H1 : Heap) (locs1 : List Loc), va_P D vwCl (wC y a (pa P 2 i v) X row) H1 → va_S (AC a) H0 H1 locs1 → W p l e R s m args below meth c H1 locs1 cells slots Q (F0 m (pc + 1) ls rest)) : W p l e R s m args below meth c H locs cells slots Q (F0 m pc ls (.int v :: .int (nI i) :: .ref (a 17) :: rest)) := by
  refine va_iast (D := D) (f := P.2 2) (n := 30) FX.1 FX.2.1 hK.1 hP (wC_D hA) hS (17) 0 rfl rfl (vp_in_nI hi (by decide)) hdg (fun H1 locs1 hP1 _ hS1 => kk H1 locs1 ?_ hS1)
  rw [nI_clamp (by omega)] at hP1; exact (fun z => z) hP1
theorem ca37 {i : Nat} (hi : i < 30) (FX : CallFix p m c cc nL s args Ts own) (hK : KK D y s) (hP : va_P D vwCl (wC y a P X row) H) (hdg : decode cc pc = .ok (.iaload, 1)) (kk : W p l e R s m args below meth c H locs cells slots Q (F0 m (pc + 1) ls (.int (X.2 3 i) :: rest))) : W p l e R s m args below meth c H locs cells slots Q (F0 m pc ls (.int (nI i) :: .ref (a 37) :: rest)) := by
  refine va_iald (D := D) (f := X.2 3) (n := 30) FX.1 FX.2.1 hK.1 hP (37) 0 rfl rfl (vp_in_nI hi (by decide)) hdg ?_
  rw [nI_clamp (by omega)]; exact kk
set_option maxRecDepth 100000 in
theorem cs37 {i : Nat} (hi : i < 30) (FX : CallFix p m c cc nL s args Ts own) (hK : KK D y s) (hP : va_P D vwCl (wC y a P X row) H) (hA : CA a 44) (hS : va_S (AC a) H0 H locs) (hdg : decode cc pc = .ok (.iastore, 1)) (kk : ∀ (H1 : Heap) (locs1 : List Loc), va_P D vwCl (wC y a P (pa X 3 i v) row) H1 → va_S (AC a) H0 H1 locs1 → W p l e R s m args below meth c H1 locs1 cells slots Q (F0 m (pc + 1) ls rest)) : W p l e R s m args below meth c H locs cells slots Q (F0 m pc ls (.int v :: .int (nI i) :: .ref (a 37) :: rest)) := by
  refine va_iast (D := D) (f := X.2 3) (n := 30) FX.1 FX.2.1 hK.1 hP (wC_D hA) hS (37) 0 rfl rfl (vp_in_nI hi (by decide)) hdg (fun H1 locs1 hP1 _ hS1 => kk H1 locs1 ?_ hS1)
  rw [nI_clamp (by omega)] at hP1; exact (fun z => z) hP1
theorem ca38 {i : Nat} (hi : i < 8) (FX : CallFix p m c cc nL s args Ts own) (hK : KK D y s) (hP : va_P D vwCl (wC y a P X row) H) (hdg : decode cc pc = .ok (.iaload, 1)) (kk : W p l e R s m args below meth c H locs cells slots Q (F0 m (pc + 1) ls (.int (X.2 4 i) :: rest))) : W p l e R s m args below meth c H locs cells slots Q (F0 m pc ls (.int (nI i) :: .ref (a 38) :: rest)) := by
  refine va_iald (D := D) (f := X.2 4) (n := 8) FX.1 FX.2.1 hK.1 hP (38) 0 rfl rfl (vp_in_nI hi (by decide)) hdg ?_
  rw [nI_clamp (by omega)]; exact kk
set_option maxRecDepth 100000 in
theorem cs38 {i : Nat} (hi : i < 8) (FX : CallFix p m c cc nL s args Ts own) (hK : KK D y s) (hP : va_P D vwCl (wC y a P X row) H) (hA : CA a 44) (hS : va_S (AC a) H0 H locs) (hdg : decode cc pc = .ok (.iastore, 1)) (kk : ∀ (H1 : Heap) (locs1 : List Loc), va_P D vwCl (wC y a P (pa X 4 i v) row) H1 → va_S (AC a) H0 H1 locs1 → W p l e R s m args below meth c H1 locs1 cells slots Q (F0 m (pc + 1) ls rest)) : W p l e R s m args below meth c H locs cells slots Q (F0 m pc ls (.int v :: .int (nI i) :: .ref (a 38) :: rest)) := by
  refine va_iast (D := D) (f := X.2 4) (n := 8) FX.1 FX.2.1 hK.1 hP (wC_D hA) hS (38) 0 rfl rfl (vp_in_nI hi (by decide)) hdg (fun H1 locs1 hP1 _ hS1 => kk H1 locs1 ?_ hS1)
  rw [nI_clamp (by omega)] at hP1; exact (fun z => z) hP1
theorem ca41 {i : Nat} (hi : i < 8) (FX : CallFix p m c cc nL s args Ts own) (hK : KK D y s) (hP : va_P D vwCl (wC y a P X row) H) (hdg : decode cc pc = .ok (.iaload, 1)) (kk : W p l e R s m args below meth c H locs cells slots Q (F0 m (pc + 1) ls (.int (P.2 9 i) :: rest))) : W p l e R s m args below meth c H locs cells slots Q (F0 m pc ls (.int (nI i) :: .ref (a 41) :: rest)) := by
  refine va_iald (D := D) (f := P.2 9) (n := 8) FX.1 FX.2.1 hK.1 hP (41) 0 rfl rfl (vp_in_nI hi (by decide)) hdg ?_
  rw [nI_clamp (by omega)]; exact kk
set_option maxRecDepth 100000 in
theorem cs41 {i : Nat} (hi : i < 8) (FX : CallFix p m c cc nL s args Ts own) (hK : KK D y s) (hP : va_P D vwCl (wC y a P X row) H) (hA : CA a 44) (hS : va_S (AC a) H0 H locs) (hdg : decode cc pc = .ok (.iastore, 1)) (kk : ∀ (H1 : Heap) (locs1 : List Loc), va_P D vwCl (wC y a (pa P 9 i v) X row) H1 → va_S (AC a) H0 H1 locs1 → W p l e R s m args below meth c H1 locs1 cells slots Q (F0 m (pc + 1) ls rest)) : W p l e R s m args below meth c H locs cells slots Q (F0 m pc ls (.int v :: .int (nI i) :: .ref (a 41) :: rest)) := by
  refine va_iast (D := D) (f := P.2 9) (n := 8) FX.1 FX.2.1 hK.1 hP (wC_D hA) hS (41) 0 rfl rfl (vp_in_nI hi (by decide)) hdg (fun H1 locs1 hP1 _ hS1 => kk H1 locs1 ?_ hS1)
  rw [nI_clamp (by omega)] at hP1; exact (fun z => z) hP1
theorem ca42 {i : Nat} (hi : i < 8) (FX : CallFix p m c cc nL s args Ts own) (hK : KK D y s) (hP : va_P D vwCl (wC y a P X row) H) (hdg : decode cc pc = .ok (.iaload, 1)) (kk : W p l e R s m args below meth c H locs cells slots Q (F0 m (pc + 1) ls (.int (P.2 10 i) :: rest))) : W p l e R s m args below meth c H locs cells slots Q (F0 m pc ls (.int (nI i) :: .ref (a 42) :: rest)) := by
  refine va_iald (D := D) (f := P.2 10) (n := 8) FX.1 FX.2.1 hK.1 hP (42) 0 rfl rfl (vp_in_nI hi (by decide)) hdg ?_
  rw [nI_clamp (by omega)]; exact kk
set_option maxRecDepth 100000 in
theorem cs42 {i : Nat} (hi : i < 8) (FX : CallFix p m c cc nL s args Ts own) (hK : KK D y s) (hP : va_P D vwCl (wC y a P X row) H) (hA : CA a 44) (hS : va_S (AC a) H0 H locs) (hdg : decode cc pc = .ok (.iastore, 1)) (kk : ∀ (H1 : Heap) (locs1 : List Loc), va_P D vwCl (wC y a (pa P 10 i v) X row) H1 → va_S (AC a) H0 H1 locs1 → W p l e R s m args below meth c H1 locs1 cells slots Q (F0 m (pc + 1) ls rest)) : W p l e R s m args below meth c H locs cells slots Q (F0 m pc ls (.int v :: .int (nI i) :: .ref (a 42) :: rest)) := by
  refine va_iast (D := D) (f := P.2 10) (n := 8) FX.1 FX.2.1 hK.1 hP (wC_D hA) hS (42) 0 rfl rfl (vp_in_nI hi (by decide)) hdg (fun H1 locs1 hP1 _ hS1 => kk H1 locs1 ?_ hS1)
  rw [nI_clamp (by omega)] at hP1; exact (fun z => z) hP1
theorem ca43 {i : Nat} (hi : i < 8) (FX : CallFix p m c cc nL s args Ts own) (hK : KK D y s) (hP : va_P D vwCl (wC y a P X row) H) (hdg : decode cc pc = .ok (.iaload, 1)) (kk : W p l e R s m args below meth c H locs cells slots Q (F0 m (pc + 1) ls (.int (P.2 11 i) :: rest))) : W p l e R s m args below meth c H locs cells slots Q (F0 m pc ls (.int (nI i) :: .ref (a 43) :: rest)) := by
  refine va_iald (D := D) (f := P.2 11) (n := 8) FX.1 FX.2.1 hK.1 hP (43) 0 rfl rfl (vp_in_nI hi (by decide)) hdg ?_
  rw [nI_clamp (by omega)]; exact kk
set_option maxRecDepth 100000 in
theorem cs43 {i : Nat} (hi : i < 8) (FX : CallFix p m c cc nL s args Ts own) (hK : KK D y s) (hP : va_P D vwCl (wC y a P X row) H) (hA : CA a 44) (hS : va_S (AC a) H0 H locs) (hdg : decode cc pc = .ok (.iastore, 1)) (kk : ∀ (H1 : Heap) (locs1 : List Loc), va_P D vwCl (wC y a (pa P 11 i v) X row) H1 → va_S (AC a) H0 H1 locs1 → W p l e R s m args below meth c H1 locs1 cells slots Q (F0 m (pc + 1) ls rest)) : W p l e R s m args below meth c H locs cells slots Q (F0 m pc ls (.int v :: .int (nI i) :: .ref (a 43) :: rest)) := by
  refine va_iast (D := D) (f := P.2 11) (n := 8) FX.1 FX.2.1 hK.1 hP (wC_D hA) hS (43) 0 rfl rfl (vp_in_nI hi (by decide)) hdg (fun H1 locs1 hP1 _ hS1 => kk H1 locs1 ?_ hS1)
  rw [nI_clamp (by omega)] at hP1; exact (fun z => z) hP1
theorem ca6 {h : Nat} (hh : h < 4) {i : Nat} (hi : i < 100) (FX : CallFix p m c cc nL s args Ts own) (hK : KK D y s) (hP : va_P D vwCl (wC y a P X row) H) (hdg : decode cc pc = .ok (.iaload, 1)) (kk : W p l e R s m args below meth c H locs cells slots Q (F0 m (pc + 1) ls (.int (P.2 (14 + h) i) :: rest))) : W p l e R s m args below meth c H locs cells slots Q (F0 m pc ls (.int (nI i) :: .ref (a (6 + h)) :: rest)) := by
  refine va_iald (D := D) (f := P.2 (14 + h)) (n := 100) FX.1 FX.2.1 hK.1 hP (6 + h) 0 (wC_cells y a P X row h hh) rfl (vp_in_nI hi (by decide)) hdg ?_
  rw [nI_clamp (by omega)]; exact kk
set_option maxRecDepth 100000 in
theorem cs6 {h : Nat} (hh : h < 4) {i : Nat} (hi : i < 100) (FX : CallFix p m c cc nL s args Ts own) (hK : KK D y s) (hP : va_P D vwCl (wC y a P X row) H) (hA : CA a 44) (hS : va_S (AC a) H0 H locs) (hdg : decode cc pc = .ok (.iastore, 1)) (kk : ∀ (H1 : Heap) (locs1 : List Loc), va_P D vwCl (wC y a (pa P (14 + h) i v) X row) H1 → va_S (AC a) H0 H1 locs1 → W p l e R s m args below meth c H1 locs1 cells slots Q (F0 m (pc + 1) ls rest)) : W p l e R s m args below meth c H locs cells slots Q (F0 m pc ls (.int v :: .int (nI i) :: .ref (a (6 + h)) :: rest)) := by
  refine va_iast (D := D) (f := P.2 (14 + h)) (n := 100) FX.1 FX.2.1 hK.1 hP (wC_D hA) hS (6 + h) 0 (wC_cells y a P X row h hh) rfl (vp_in_nI hi (by decide)) hdg (fun H1 locs1 hP1 _ hS1 => kk H1 locs1 ?_ hS1)
  rw [nI_clamp (by omega)] at hP1; exact (fun z => (wC_cells_s y a P X row i v h hh) ▸ z) hP1
theorem ca1 {i : Nat} (hi : i < 4) (FX : CallFix p m c cc nL s args Ts own) (hK : KK D y s) (hP : va_P D vwCl (wC y a P X row) H) (hdg : decode cc pc = .ok (.aaload, 1)) (kk : W p l e R s m args below meth c H locs cells slots Q (F0 m (pc + 1) ls (.ref (a (2 + i)) :: rest))) : W p l e R s m args below meth c H locs cells slots Q (F0 m pc ls (.int (nI i) :: .ref (a 1) :: rest)) := by
  refine va_aldq (D := D) (C := "SeenNumbers$Sheet") (f := fun i => some (a (2 + i))) (n := 4) FX.1 FX.2.1 hK.1 hP (1) 4 rfl rfl (vp_in_nI hi (by decide)) hdg ?_
  rw [nI_clamp (by omega)]; exact kk
theorem ca18 {i : Nat} (hi : i < 8) (FX : CallFix p m c cc nL s args Ts own) (hK : KK D y s) (hP : va_P D vwCl (wC y a P X row) H) (hdg : decode cc pc = .ok (.aaload, 1)) (kk : W p l e R s m args below meth c H locs cells slots Q (F0 m (pc + 1) ls (.ref (a (20 + i)) :: rest))) : W p l e R s m args below meth c H locs cells slots Q (F0 m pc ls (.int (nI i) :: .ref (a 18) :: rest)) := by
  refine va_aldq (D := D) (C := "SeenNumbers$House") (f := fun i => some (a (20 + i))) (n := 8) FX.1 FX.2.1 hK.1 hP (18) 2 rfl rfl (vp_in_nI hi (by decide)) hdg ?_
  rw [nI_clamp (by omega)]; exact kk
theorem ca19 {i : Nat} (hi : i < 8) (FX : CallFix p m c cc nL s args Ts own) (hK : KK D y s) (hP : va_P D vwCl (wC y a P X row) H) (hdg : decode cc pc = .ok (.aaload, 1)) (kk : W p l e R s m args below meth c H locs cells slots Q (F0 m (pc + 1) ls (.ref (a (28 + i)) :: rest))) : W p l e R s m args below meth c H locs cells slots Q (F0 m pc ls (.int (nI i) :: .ref (a 19) :: rest)) := by
  refine va_aldq (D := D) (C := "SeenNumbers$Tree") (f := fun i => some (a (28 + i))) (n := 8) FX.1 FX.2.1 hK.1 hP (19) 3 rfl rfl (vp_in_nI hi (by decide)) hdg ?_
  rw [nI_clamp (by omega)]; exact kk
theorem mg_0 (FX : CallFix p m c cc nL s args Ts own) (hK : KK D y s) (hin : ∀ w ∈ wsX90, w ∈ Ts) (hP : va_P D vwCl (wM y a P) H) (hlink : Cond.fieldLink own index "SeenNumbersModel" "fault" "I" ∈ Ts) (hdg : decode cc pc = .ok (.getfield index, 3)) (kk : W p l e R s m args below meth c H locs cells slots Q (F0 m (pc + 3) ls (.int (P.1 10) :: rest))) : W p l e R s m args below meth c H locs cells slots Q (F0 m pc ls (.ref (a 0) :: rest)) :=
  va_get (D := D) (ci := 9) (v := .int (P.1 10)) (C := RX9) (T := TX9) (N := 41) FX.1 FX.2.1 FX.2.2.2.2 hin FX.2.2.2.1 hK.1 hP (0) rfl rfl 0 (by decide) (FX.2.2.2.2 _ hlink) (fun _ h9 => h9) rfl hdg kk
set_option maxRecDepth 100000 in
theorem mp_0 (FX : CallFix p m c cc nL s args Ts own) (hK : KK D y s) (hin : ∀ w ∈ wsX90, w ∈ Ts) (hP : va_P D vwCl (wM y a P) H) (hA : CA a 26) (hS : va_S (AM a) H0 H locs) (hlink : Cond.fieldLink own index "SeenNumbersModel" "fault" "I" ∈ Ts) (hdg : decode cc pc = .ok (.putfield index, 3)) (kk : ∀ (H1 : Heap) (locs1 : List Loc), va_P D vwCl (wM y a (pg P 10 v)) H1 → va_S (AM a) H0 H1 locs1 → W p l e R s m args below meth c H1 locs1 cells slots Q (F0 m (pc + 3) ls rest)) : W p l e R s m args below meth c H locs cells slots Q (F0 m pc ls (.int v :: .ref (a 0) :: rest)) :=
  va_put (D := D) (ci := 9) (v := .int v) (ty := .int) (C := RX9) (T := TX9) (N := 41) FX.1 FX.2.1 FX.2.2.2.2 hin tyX9 tyX9_ok nmX9 FX.2.2.2.1 hK.1 hP (wM_D hA) hS (0) rfl rfl 0 (by decide) (FX.2.2.2.2 _ hlink) (fun _ h9 => h9) rfl rfl rfl rfl (Nat.le_of_ble_eq_true rfl) hdg (fun H1 locs1 hP1 _ hS1 => kk H1 locs1 ((fun z => z) hP1) hS1)
theorem mg_1 (FX : CallFix p m c cc nL s args Ts own) (hK : KK D y s) (hin : ∀ w ∈ wsX90, w ∈ Ts) (hP : va_P D vwCl (wM y a P) H) (hlink : Cond.fieldLink own index "SeenNumbersModel" "high" "I" ∈ Ts) (hdg : decode cc pc = .ok (.getfield index, 3)) (kk : W p l e R s m args below meth c H locs cells slots Q (F0 m (pc + 3) ls (.int (P.1 11) :: rest))) : W p l e R s m args below meth c H locs cells slots Q (F0 m pc ls (.ref (a 0) :: rest)) :=
  va_get (D := D) (ci := 9) (v := .int (P.1 11)) (C := RX9) (T := TX9) (N := 41) FX.1 FX.2.1 FX.2.2.2.2 hin FX.2.2.2.1 hK.1 hP (0) rfl rfl 1 (by decide) (FX.2.2.2.2 _ hlink) (fun _ h9 => h9) rfl hdg kk
set_option maxRecDepth 100000 in
theorem mp_1 (FX : CallFix p m c cc nL s args Ts own) (hK : KK D y s) (hin : ∀ w ∈ wsX90, w ∈ Ts) (hP : va_P D vwCl (wM y a P) H) (hA : CA a 26) (hS : va_S (AM a) H0 H locs) (hlink : Cond.fieldLink own index "SeenNumbersModel" "high" "I" ∈ Ts) (hdg : decode cc pc = .ok (.putfield index, 3)) (kk : ∀ (H1 : Heap) (locs1 : List Loc), va_P D vwCl (wM y a (pg P 11 v)) H1 → va_S (AM a) H0 H1 locs1 → W p l e R s m args below meth c H1 locs1 cells slots Q (F0 m (pc + 3) ls rest)) : W p l e R s m args below meth c H locs cells slots Q (F0 m pc ls (.int v :: .ref (a 0) :: rest)) :=
  va_put (D := D) (ci := 9) (v := .int v) (ty := .int) (C := RX9) (T := TX9) (N := 41) FX.1 FX.2.1 FX.2.2.2.2 hin tyX9 tyX9_ok nmX9 FX.2.2.2.1 hK.1 hP (wM_D hA) hS (0) rfl rfl 1 (by decide) (FX.2.2.2.2 _ hlink) (fun _ h9 => h9) rfl rfl rfl rfl (Nat.le_of_ble_eq_true rfl) hdg (fun H1 locs1 hP1 _ hS1 => kk H1 locs1 ((fun z => z) hP1) hS1)
theorem mg_2 (FX : CallFix p m c cc nL s args Ts own) (hK : KK D y s) (hin : ∀ w ∈ wsX90, w ∈ Ts) (hP : va_P D vwCl (wM y a P) H) (hlink : Cond.fieldLink own index "SeenNumbersModel" "wide" "I" ∈ Ts) (hdg : decode cc pc = .ok (.getfield index, 3)) (kk : W p l e R s m args below meth c H locs cells slots Q (F0 m (pc + 3) ls (.int (P.1 0) :: rest))) : W p l e R s m args below meth c H locs cells slots Q (F0 m pc ls (.ref (a 0) :: rest)) :=
  va_get (D := D) (ci := 9) (v := .int (P.1 0)) (C := RX9) (T := TX9) (N := 41) FX.1 FX.2.1 FX.2.2.2.2 hin FX.2.2.2.1 hK.1 hP (0) rfl rfl 2 (by decide) (FX.2.2.2.2 _ hlink) (fun _ h9 => h9) rfl hdg kk
set_option maxRecDepth 100000 in
theorem mp_2 (FX : CallFix p m c cc nL s args Ts own) (hK : KK D y s) (hin : ∀ w ∈ wsX90, w ∈ Ts) (hP : va_P D vwCl (wM y a P) H) (hA : CA a 26) (hS : va_S (AM a) H0 H locs) (hlink : Cond.fieldLink own index "SeenNumbersModel" "wide" "I" ∈ Ts) (hdg : decode cc pc = .ok (.putfield index, 3)) (kk : ∀ (H1 : Heap) (locs1 : List Loc), va_P D vwCl (wM y a (pg P 0 v)) H1 → va_S (AM a) H0 H1 locs1 → W p l e R s m args below meth c H1 locs1 cells slots Q (F0 m (pc + 3) ls rest)) : W p l e R s m args below meth c H locs cells slots Q (F0 m pc ls (.int v :: .ref (a 0) :: rest)) :=
  va_put (D := D) (ci := 9) (v := .int v) (ty := .int) (C := RX9) (T := TX9) (N := 41) FX.1 FX.2.1 FX.2.2.2.2 hin tyX9 tyX9_ok nmX9 FX.2.2.2.1 hK.1 hP (wM_D hA) hS (0) rfl rfl 2 (by decide) (FX.2.2.2.2 _ hlink) (fun _ h9 => h9) rfl rfl rfl rfl (Nat.le_of_ble_eq_true rfl) hdg (fun H1 locs1 hP1 _ hS1 => kk H1 locs1 ((fun z => z) hP1) hS1)
theorem mg_3 (FX : CallFix p m c cc nL s args Ts own) (hK : KK D y s) (hin : ∀ w ∈ wsX90, w ∈ Ts) (hP : va_P D vwCl (wM y a P) H) (hlink : Cond.fieldLink own index "SeenNumbersModel" "groundOf" "[I" ∈ Ts) (hdg : decode cc pc = .ok (.getfield index, 3)) (kk : W p l e R s m args below meth c H locs cells slots Q (F0 m (pc + 3) ls (.ref (a 1) :: rest))) : W p l e R s m args below meth c H locs cells slots Q (F0 m pc ls (.ref (a 0) :: rest)) :=
  va_get (D := D) (ci := 9) (v := .ref (a 1)) (C := RX9) (T := TX9) (N := 41) FX.1 FX.2.1 FX.2.2.2.2 hin FX.2.2.2.1 hK.1 hP (0) rfl rfl 3 (by decide) (FX.2.2.2.2 _ hlink) (fun _ h9 => h9) rfl hdg kk
theorem mg_4 (FX : CallFix p m c cc nL s args Ts own) (hK : KK D y s) (hin : ∀ w ∈ wsX90, w ∈ Ts) (hP : va_P D vwCl (wM y a P) H) (hlink : Cond.fieldLink own index "SeenNumbersModel" "has" "[I" ∈ Ts) (hdg : decode cc pc = .ok (.getfield index, 3)) (kk : W p l e R s m args below meth c H locs cells slots Q (F0 m (pc + 3) ls (.ref (a 2) :: rest))) : W p l e R s m args below meth c H locs cells slots Q (F0 m pc ls (.ref (a 0) :: rest)) :=
  va_get (D := D) (ci := 9) (v := .ref (a 2)) (C := RX9) (T := TX9) (N := 41) FX.1 FX.2.1 FX.2.2.2.2 hin FX.2.2.2.1 hK.1 hP (0) rfl rfl 4 (by decide) (FX.2.2.2.2 _ hlink) (fun _ h9 => h9) rfl hdg kk
theorem mg_5 (FX : CallFix p m c cc nL s args Ts own) (hK : KK D y s) (hin : ∀ w ∈ wsX90, w ∈ Ts) (hP : va_P D vwCl (wM y a P) H) (hlink : Cond.fieldLink own index "SeenNumbersModel" "wallOf" "[I" ∈ Ts) (hdg : decode cc pc = .ok (.getfield index, 3)) (kk : W p l e R s m args below meth c H locs cells slots Q (F0 m (pc + 3) ls (.ref (a 3) :: rest))) : W p l e R s m args below meth c H locs cells slots Q (F0 m pc ls (.ref (a 0) :: rest)) :=
  va_get (D := D) (ci := 9) (v := .ref (a 3)) (C := RX9) (T := TX9) (N := 41) FX.1 FX.2.1 FX.2.2.2.2 hin FX.2.2.2.1 hK.1 hP (0) rfl rfl 5 (by decide) (FX.2.2.2.2 _ hlink) (fun _ h9 => h9) rfl hdg kk
theorem mg_6 (FX : CallFix p m c cc nL s args Ts own) (hK : KK D y s) (hin : ∀ w ∈ wsX90, w ∈ Ts) (hP : va_P D vwCl (wM y a P) H) (hlink : Cond.fieldLink own index "SeenNumbersModel" "houses" "I" ∈ Ts) (hdg : decode cc pc = .ok (.getfield index, 3)) (kk : W p l e R s m args below meth c H locs cells slots Q (F0 m (pc + 3) ls (.int (P.1 2) :: rest))) : W p l e R s m args below meth c H locs cells slots Q (F0 m pc ls (.ref (a 0) :: rest)) :=
  va_get (D := D) (ci := 9) (v := .int (P.1 2)) (C := RX9) (T := TX9) (N := 41) FX.1 FX.2.1 FX.2.2.2.2 hin FX.2.2.2.1 hK.1 hP (0) rfl rfl 6 (by decide) (FX.2.2.2.2 _ hlink) (fun _ h9 => h9) rfl hdg kk
set_option maxRecDepth 100000 in
theorem mp_6 (FX : CallFix p m c cc nL s args Ts own) (hK : KK D y s) (hin : ∀ w ∈ wsX90, w ∈ Ts) (hP : va_P D vwCl (wM y a P) H) (hA : CA a 26) (hS : va_S (AM a) H0 H locs) (hlink : Cond.fieldLink own index "SeenNumbersModel" "houses" "I" ∈ Ts) (hdg : decode cc pc = .ok (.putfield index, 3)) (kk : ∀ (H1 : Heap) (locs1 : List Loc), va_P D vwCl (wM y a (pg P 2 v)) H1 → va_S (AM a) H0 H1 locs1 → W p l e R s m args below meth c H1 locs1 cells slots Q (F0 m (pc + 3) ls rest)) : W p l e R s m args below meth c H locs cells slots Q (F0 m pc ls (.int v :: .ref (a 0) :: rest)) :=
  va_put (D := D) (ci := 9) (v := .int v) (ty := .int) (C := RX9) (T := TX9) (N := 41) FX.1 FX.2.1 FX.2.2.2.2 hin tyX9 tyX9_ok nmX9 FX.2.2.2.1 hK.1 hP (wM_D hA) hS (0) rfl rfl 6 (by decide) (FX.2.2.2.2 _ hlink) (fun _ h9 => h9) rfl rfl rfl rfl (Nat.le_of_ble_eq_true rfl) hdg (fun H1 locs1 hP1 _ hS1 => kk H1 locs1 ((fun z => z) hP1) hS1)
theorem mg_7 (FX : CallFix p m c cc nL s args Ts own) (hK : KK D y s) (hin : ∀ w ∈ wsX90, w ∈ Ts) (hP : va_P D vwCl (wM y a P) H) (hlink : Cond.fieldLink own index "SeenNumbersModel" "kindOf" "[I" ∈ Ts) (hdg : decode cc pc = .ok (.getfield index, 3)) (kk : W p l e R s m args below meth c H locs cells slots Q (F0 m (pc + 3) ls (.ref (a 4) :: rest))) : W p l e R s m args below meth c H locs cells slots Q (F0 m pc ls (.ref (a 0) :: rest)) :=
  va_get (D := D) (ci := 9) (v := .ref (a 4)) (C := RX9) (T := TX9) (N := 41) FX.1 FX.2.1 FX.2.2.2.2 hin FX.2.2.2.1 hK.1 hP (0) rfl rfl 7 (by decide) (FX.2.2.2.2 _ hlink) (fun _ h9 => h9) rfl hdg kk
theorem mg_8 (FX : CallFix p m c cc nL s args Ts own) (hK : KK D y s) (hin : ∀ w ∈ wsX90, w ∈ Ts) (hP : va_P D vwCl (wM y a P) H) (hlink : Cond.fieldLink own index "SeenNumbersModel" "houseAt" "[I" ∈ Ts) (hdg : decode cc pc = .ok (.getfield index, 3)) (kk : W p l e R s m args below meth c H locs cells slots Q (F0 m (pc + 3) ls (.ref (a 5) :: rest))) : W p l e R s m args below meth c H locs cells slots Q (F0 m pc ls (.ref (a 0) :: rest)) :=
  va_get (D := D) (ci := 9) (v := .ref (a 5)) (C := RX9) (T := TX9) (N := 41) FX.1 FX.2.1 FX.2.2.2.2 hin FX.2.2.2.1 hK.1 hP (0) rfl rfl 8 (by decide) (FX.2.2.2.2 _ hlink) (fun _ h9 => h9) rfl hdg kk
theorem mg_9 (FX : CallFix p m c cc nL s args Ts own) (hK : KK D y s) (hin : ∀ w ∈ wsX90, w ∈ Ts) (hP : va_P D vwCl (wM y a P) H) (hlink : Cond.fieldLink own index "SeenNumbersModel" "tallOf" "[I" ∈ Ts) (hdg : decode cc pc = .ok (.getfield index, 3)) (kk : W p l e R s m args below meth c H locs cells slots Q (F0 m (pc + 3) ls (.ref (a 6) :: rest))) : W p l e R s m args below meth c H locs cells slots Q (F0 m pc ls (.ref (a 0) :: rest)) :=
  va_get (D := D) (ci := 9) (v := .ref (a 6)) (C := RX9) (T := TX9) (N := 41) FX.1 FX.2.1 FX.2.2.2.2 hin FX.2.2.2.1 hK.1 hP (0) rfl rfl 9 (by decide) (FX.2.2.2.2 _ hlink) (fun _ h9 => h9) rfl hdg kk
theorem mg_10 (FX : CallFix p m c cc nL s args Ts own) (hK : KK D y s) (hin : ∀ w ∈ wsX90, w ∈ Ts) (hP : va_P D vwCl (wM y a P) H) (hlink : Cond.fieldLink own index "SeenNumbersModel" "floorsOf" "[I" ∈ Ts) (hdg : decode cc pc = .ok (.getfield index, 3)) (kk : W p l e R s m args below meth c H locs cells slots Q (F0 m (pc + 3) ls (.ref (a 7) :: rest))) : W p l e R s m args below meth c H locs cells slots Q (F0 m pc ls (.ref (a 0) :: rest)) :=
  va_get (D := D) (ci := 9) (v := .ref (a 7)) (C := RX9) (T := TX9) (N := 41) FX.1 FX.2.1 FX.2.2.2.2 hin FX.2.2.2.1 hK.1 hP (0) rfl rfl 10 (by decide) (FX.2.2.2.2 _ hlink) (fun _ h9 => h9) rfl hdg kk
theorem mg_11 (FX : CallFix p m c cc nL s args Ts own) (hK : KK D y s) (hin : ∀ w ∈ wsX90, w ∈ Ts) (hP : va_P D vwCl (wM y a P) H) (hlink : Cond.fieldLink own index "SeenNumbersModel" "trees" "I" ∈ Ts) (hdg : decode cc pc = .ok (.getfield index, 3)) (kk : W p l e R s m args below meth c H locs cells slots Q (F0 m (pc + 3) ls (.int (P.1 3) :: rest))) : W p l e R s m args below meth c H locs cells slots Q (F0 m pc ls (.ref (a 0) :: rest)) :=
  va_get (D := D) (ci := 9) (v := .int (P.1 3)) (C := RX9) (T := TX9) (N := 41) FX.1 FX.2.1 FX.2.2.2.2 hin FX.2.2.2.1 hK.1 hP (0) rfl rfl 11 (by decide) (FX.2.2.2.2 _ hlink) (fun _ h9 => h9) rfl hdg kk
set_option maxRecDepth 100000 in
theorem mp_11 (FX : CallFix p m c cc nL s args Ts own) (hK : KK D y s) (hin : ∀ w ∈ wsX90, w ∈ Ts) (hP : va_P D vwCl (wM y a P) H) (hA : CA a 26) (hS : va_S (AM a) H0 H locs) (hlink : Cond.fieldLink own index "SeenNumbersModel" "trees" "I" ∈ Ts) (hdg : decode cc pc = .ok (.putfield index, 3)) (kk : ∀ (H1 : Heap) (locs1 : List Loc), va_P D vwCl (wM y a (pg P 3 v)) H1 → va_S (AM a) H0 H1 locs1 → W p l e R s m args below meth c H1 locs1 cells slots Q (F0 m (pc + 3) ls rest)) : W p l e R s m args below meth c H locs cells slots Q (F0 m pc ls (.int v :: .ref (a 0) :: rest)) :=
  va_put (D := D) (ci := 9) (v := .int v) (ty := .int) (C := RX9) (T := TX9) (N := 41) FX.1 FX.2.1 FX.2.2.2.2 hin tyX9 tyX9_ok nmX9 FX.2.2.2.1 hK.1 hP (wM_D hA) hS (0) rfl rfl 11 (by decide) (FX.2.2.2.2 _ hlink) (fun _ h9 => h9) rfl rfl rfl rfl (Nat.le_of_ble_eq_true rfl) hdg (fun H1 locs1 hP1 _ hS1 => kk H1 locs1 ((fun z => z) hP1) hS1)
theorem mg_12 (FX : CallFix p m c cc nL s args Ts own) (hK : KK D y s) (hin : ∀ w ∈ wsX90, w ∈ Ts) (hP : va_P D vwCl (wM y a P) H) (hlink : Cond.fieldLink own index "SeenNumbersModel" "treeAt" "[I" ∈ Ts) (hdg : decode cc pc = .ok (.getfield index, 3)) (kk : W p l e R s m args below meth c H locs cells slots Q (F0 m (pc + 3) ls (.ref (a 8) :: rest))) : W p l e R s m args below meth c H locs cells slots Q (F0 m pc ls (.ref (a 0) :: rest)) :=
  va_get (D := D) (ci := 9) (v := .ref (a 8)) (C := RX9) (T := TX9) (N := 41) FX.1 FX.2.1 FX.2.2.2.2 hin FX.2.2.2.1 hK.1 hP (0) rfl rfl 12 (by decide) (FX.2.2.2.2 _ hlink) (fun _ h9 => h9) rfl hdg kk
theorem mg_13 (FX : CallFix p m c cc nL s args Ts own) (hK : KK D y s) (hin : ∀ w ∈ wsX90, w ∈ Ts) (hP : va_P D vwCl (wM y a P) H) (hlink : Cond.fieldLink own index "SeenNumbersModel" "treeTall" "[I" ∈ Ts) (hdg : decode cc pc = .ok (.getfield index, 3)) (kk : W p l e R s m args below meth c H locs cells slots Q (F0 m (pc + 3) ls (.ref (a 9) :: rest))) : W p l e R s m args below meth c H locs cells slots Q (F0 m pc ls (.ref (a 0) :: rest)) :=
  va_get (D := D) (ci := 9) (v := .ref (a 9)) (C := RX9) (T := TX9) (N := 41) FX.1 FX.2.1 FX.2.2.2.2 hin FX.2.2.2.1 hK.1 hP (0) rfl rfl 13 (by decide) (FX.2.2.2.2 _ hlink) (fun _ h9 => h9) rfl hdg kk
theorem mg_14 (FX : CallFix p m c cc nL s args Ts own) (hK : KK D y s) (hin : ∀ w ∈ wsX90, w ∈ Ts) (hP : va_P D vwCl (wM y a P) H) (hlink : Cond.fieldLink own index "SeenNumbersModel" "isFelled" "[Z" ∈ Ts) (hdg : decode cc pc = .ok (.getfield index, 3)) (kk : W p l e R s m args below meth c H locs cells slots Q (F0 m (pc + 3) ls (.ref (a 10) :: rest))) : W p l e R s m args below meth c H locs cells slots Q (F0 m pc ls (.ref (a 0) :: rest)) :=
  va_get (D := D) (ci := 9) (v := .ref (a 10)) (C := RX9) (T := TX9) (N := 41) FX.1 FX.2.1 FX.2.2.2.2 hin FX.2.2.2.1 hK.1 hP (0) rfl rfl 14 (by decide) (FX.2.2.2.2 _ hlink) (fun _ h9 => h9) rfl hdg kk
theorem mg_15 (FX : CallFix p m c cc nL s args Ts own) (hK : KK D y s) (hin : ∀ w ∈ wsX90, w ∈ Ts) (hP : va_P D vwCl (wM y a P) H) (hlink : Cond.fieldLink own index "SeenNumbersModel" "yearNow" "I" ∈ Ts) (hdg : decode cc pc = .ok (.getfield index, 3)) (kk : W p l e R s m args below meth c H locs cells slots Q (F0 m (pc + 3) ls (.int (P.1 5) :: rest))) : W p l e R s m args below meth c H locs cells slots Q (F0 m pc ls (.ref (a 0) :: rest)) :=
  va_get (D := D) (ci := 9) (v := .int (P.1 5)) (C := RX9) (T := TX9) (N := 41) FX.1 FX.2.1 FX.2.2.2.2 hin FX.2.2.2.1 hK.1 hP (0) rfl rfl 15 (by decide) (FX.2.2.2.2 _ hlink) (fun _ h9 => h9) rfl hdg kk
set_option maxRecDepth 100000 in
theorem mp_15 (FX : CallFix p m c cc nL s args Ts own) (hK : KK D y s) (hin : ∀ w ∈ wsX90, w ∈ Ts) (hP : va_P D vwCl (wM y a P) H) (hA : CA a 26) (hS : va_S (AM a) H0 H locs) (hlink : Cond.fieldLink own index "SeenNumbersModel" "yearNow" "I" ∈ Ts) (hdg : decode cc pc = .ok (.putfield index, 3)) (kk : ∀ (H1 : Heap) (locs1 : List Loc), va_P D vwCl (wM y a (pg P 5 v)) H1 → va_S (AM a) H0 H1 locs1 → W p l e R s m args below meth c H1 locs1 cells slots Q (F0 m (pc + 3) ls rest)) : W p l e R s m args below meth c H locs cells slots Q (F0 m pc ls (.int v :: .ref (a 0) :: rest)) :=
  va_put (D := D) (ci := 9) (v := .int v) (ty := .int) (C := RX9) (T := TX9) (N := 41) FX.1 FX.2.1 FX.2.2.2.2 hin tyX9 tyX9_ok nmX9 FX.2.2.2.1 hK.1 hP (wM_D hA) hS (0) rfl rfl 15 (by decide) (FX.2.2.2.2 _ hlink) (fun _ h9 => h9) rfl rfl rfl rfl (Nat.le_of_ble_eq_true rfl) hdg (fun H1 locs1 hP1 _ hS1 => kk H1 locs1 ((fun z => z) hP1) hS1)
theorem mg_16 (FX : CallFix p m c cc nL s args Ts own) (hK : KK D y s) (hin : ∀ w ∈ wsX90, w ∈ Ts) (hP : va_P D vwCl (wM y a P) H) (hlink : Cond.fieldLink own index "SeenNumbersModel" "fogNow" "I" ∈ Ts) (hdg : decode cc pc = .ok (.getfield index, 3)) (kk : W p l e R s m args below meth c H locs cells slots Q (F0 m (pc + 3) ls (.int (P.1 6) :: rest))) : W p l e R s m args below meth c H locs cells slots Q (F0 m pc ls (.ref (a 0) :: rest)) :=
  va_get (D := D) (ci := 9) (v := .int (P.1 6)) (C := RX9) (T := TX9) (N := 41) FX.1 FX.2.1 FX.2.2.2.2 hin FX.2.2.2.1 hK.1 hP (0) rfl rfl 16 (by decide) (FX.2.2.2.2 _ hlink) (fun _ h9 => h9) rfl hdg kk
set_option maxRecDepth 100000 in
theorem mp_16 (FX : CallFix p m c cc nL s args Ts own) (hK : KK D y s) (hin : ∀ w ∈ wsX90, w ∈ Ts) (hP : va_P D vwCl (wM y a P) H) (hA : CA a 26) (hS : va_S (AM a) H0 H locs) (hlink : Cond.fieldLink own index "SeenNumbersModel" "fogNow" "I" ∈ Ts) (hdg : decode cc pc = .ok (.putfield index, 3)) (kk : ∀ (H1 : Heap) (locs1 : List Loc), va_P D vwCl (wM y a (pg P 6 v)) H1 → va_S (AM a) H0 H1 locs1 → W p l e R s m args below meth c H1 locs1 cells slots Q (F0 m (pc + 3) ls rest)) : W p l e R s m args below meth c H locs cells slots Q (F0 m pc ls (.int v :: .ref (a 0) :: rest)) :=
  va_put (D := D) (ci := 9) (v := .int v) (ty := .int) (C := RX9) (T := TX9) (N := 41) FX.1 FX.2.1 FX.2.2.2.2 hin tyX9 tyX9_ok nmX9 FX.2.2.2.1 hK.1 hP (wM_D hA) hS (0) rfl rfl 16 (by decide) (FX.2.2.2.2 _ hlink) (fun _ h9 => h9) rfl rfl rfl rfl (Nat.le_of_ble_eq_true rfl) hdg (fun H1 locs1 hP1 _ hS1 => kk H1 locs1 ((fun z => z) hP1) hS1)
theorem mg_17 (FX : CallFix p m c cc nL s args Ts own) (hK : KK D y s) (hin : ∀ w ∈ wsX90, w ∈ Ts) (hP : va_P D vwCl (wM y a P) H) (hlink : Cond.fieldLink own index "SeenNumbersModel" "lawNow" "I" ∈ Ts) (hdg : decode cc pc = .ok (.getfield index, 3)) (kk : W p l e R s m args below meth c H locs cells slots Q (F0 m (pc + 3) ls (.int (P.1 7) :: rest))) : W p l e R s m args below meth c H locs cells slots Q (F0 m pc ls (.ref (a 0) :: rest)) :=
  va_get (D := D) (ci := 9) (v := .int (P.1 7)) (C := RX9) (T := TX9) (N := 41) FX.1 FX.2.1 FX.2.2.2.2 hin FX.2.2.2.1 hK.1 hP (0) rfl rfl 17 (by decide) (FX.2.2.2.2 _ hlink) (fun _ h9 => h9) rfl hdg kk
set_option maxRecDepth 100000 in
theorem mp_17 (FX : CallFix p m c cc nL s args Ts own) (hK : KK D y s) (hin : ∀ w ∈ wsX90, w ∈ Ts) (hP : va_P D vwCl (wM y a P) H) (hA : CA a 26) (hS : va_S (AM a) H0 H locs) (hlink : Cond.fieldLink own index "SeenNumbersModel" "lawNow" "I" ∈ Ts) (hdg : decode cc pc = .ok (.putfield index, 3)) (kk : ∀ (H1 : Heap) (locs1 : List Loc), va_P D vwCl (wM y a (pg P 7 v)) H1 → va_S (AM a) H0 H1 locs1 → W p l e R s m args below meth c H1 locs1 cells slots Q (F0 m (pc + 3) ls rest)) : W p l e R s m args below meth c H locs cells slots Q (F0 m pc ls (.int v :: .ref (a 0) :: rest)) :=
  va_put (D := D) (ci := 9) (v := .int v) (ty := .int) (C := RX9) (T := TX9) (N := 41) FX.1 FX.2.1 FX.2.2.2.2 hin tyX9 tyX9_ok nmX9 FX.2.2.2.1 hK.1 hP (wM_D hA) hS (0) rfl rfl 17 (by decide) (FX.2.2.2.2 _ hlink) (fun _ h9 => h9) rfl rfl rfl rfl (Nat.le_of_ble_eq_true rfl) hdg (fun H1 locs1 hP1 _ hS1 => kk H1 locs1 ((fun z => z) hP1) hS1)
theorem mg_18 (FX : CallFix p m c cc nL s args Ts own) (hK : KK D y s) (hin : ∀ w ∈ wsX90, w ∈ Ts) (hP : va_P D vwCl (wM y a P) H) (hlink : Cond.fieldLink own index "SeenNumbersModel" "readAt" "I" ∈ Ts) (hdg : decode cc pc = .ok (.getfield index, 3)) (kk : W p l e R s m args below meth c H locs cells slots Q (F0 m (pc + 3) ls (.int (P.1 12) :: rest))) : W p l e R s m args below meth c H locs cells slots Q (F0 m pc ls (.ref (a 0) :: rest)) :=
  va_get (D := D) (ci := 9) (v := .int (P.1 12)) (C := RX9) (T := TX9) (N := 41) FX.1 FX.2.1 FX.2.2.2.2 hin FX.2.2.2.1 hK.1 hP (0) rfl rfl 18 (by decide) (FX.2.2.2.2 _ hlink) (fun _ h9 => h9) rfl hdg kk
set_option maxRecDepth 100000 in
theorem mp_18 (FX : CallFix p m c cc nL s args Ts own) (hK : KK D y s) (hin : ∀ w ∈ wsX90, w ∈ Ts) (hP : va_P D vwCl (wM y a P) H) (hA : CA a 26) (hS : va_S (AM a) H0 H locs) (hlink : Cond.fieldLink own index "SeenNumbersModel" "readAt" "I" ∈ Ts) (hdg : decode cc pc = .ok (.putfield index, 3)) (kk : ∀ (H1 : Heap) (locs1 : List Loc), va_P D vwCl (wM y a (pg P 12 v)) H1 → va_S (AM a) H0 H1 locs1 → W p l e R s m args below meth c H1 locs1 cells slots Q (F0 m (pc + 3) ls rest)) : W p l e R s m args below meth c H locs cells slots Q (F0 m pc ls (.int v :: .ref (a 0) :: rest)) :=
  va_put (D := D) (ci := 9) (v := .int v) (ty := .int) (C := RX9) (T := TX9) (N := 41) FX.1 FX.2.1 FX.2.2.2.2 hin tyX9 tyX9_ok nmX9 FX.2.2.2.1 hK.1 hP (wM_D hA) hS (0) rfl rfl 18 (by decide) (FX.2.2.2.2 _ hlink) (fun _ h9 => h9) rfl rfl rfl rfl (Nat.le_of_ble_eq_true rfl) hdg (fun H1 locs1 hP1 _ hS1 => kk H1 locs1 ((fun z => z) hP1) hS1)
theorem mg_19 (FX : CallFix p m c cc nL s args Ts own) (hK : KK D y s) (hin : ∀ w ∈ wsX90, w ∈ Ts) (hP : va_P D vwCl (wM y a P) H) (hlink : Cond.fieldLink own index "SeenNumbersModel" "readHigh" "I" ∈ Ts) (hdg : decode cc pc = .ok (.getfield index, 3)) (kk : W p l e R s m args below meth c H locs cells slots Q (F0 m (pc + 3) ls (.int (P.1 13) :: rest))) : W p l e R s m args below meth c H locs cells slots Q (F0 m pc ls (.ref (a 0) :: rest)) :=
  va_get (D := D) (ci := 9) (v := .int (P.1 13)) (C := RX9) (T := TX9) (N := 41) FX.1 FX.2.1 FX.2.2.2.2 hin FX.2.2.2.1 hK.1 hP (0) rfl rfl 19 (by decide) (FX.2.2.2.2 _ hlink) (fun _ h9 => h9) rfl hdg kk
set_option maxRecDepth 100000 in
theorem mp_19 (FX : CallFix p m c cc nL s args Ts own) (hK : KK D y s) (hin : ∀ w ∈ wsX90, w ∈ Ts) (hP : va_P D vwCl (wM y a P) H) (hA : CA a 26) (hS : va_S (AM a) H0 H locs) (hlink : Cond.fieldLink own index "SeenNumbersModel" "readHigh" "I" ∈ Ts) (hdg : decode cc pc = .ok (.putfield index, 3)) (kk : ∀ (H1 : Heap) (locs1 : List Loc), va_P D vwCl (wM y a (pg P 13 v)) H1 → va_S (AM a) H0 H1 locs1 → W p l e R s m args below meth c H1 locs1 cells slots Q (F0 m (pc + 3) ls rest)) : W p l e R s m args below meth c H locs cells slots Q (F0 m pc ls (.int v :: .ref (a 0) :: rest)) :=
  va_put (D := D) (ci := 9) (v := .int v) (ty := .int) (C := RX9) (T := TX9) (N := 41) FX.1 FX.2.1 FX.2.2.2.2 hin tyX9 tyX9_ok nmX9 FX.2.2.2.1 hK.1 hP (wM_D hA) hS (0) rfl rfl 19 (by decide) (FX.2.2.2.2 _ hlink) (fun _ h9 => h9) rfl rfl rfl rfl (Nat.le_of_ble_eq_true rfl) hdg (fun H1 locs1 hP1 _ hS1 => kk H1 locs1 ((fun z => z) hP1) hS1)
theorem mg_20 (FX : CallFix p m c cc nL s args Ts own) (hK : KK D y s) (hin : ∀ w ∈ wsX90, w ∈ Ts) (hP : va_P D vwCl (wM y a P) H) (hlink : Cond.fieldLink own index "SeenNumbersModel" "readWide" "I" ∈ Ts) (hdg : decode cc pc = .ok (.getfield index, 3)) (kk : W p l e R s m args below meth c H locs cells slots Q (F0 m (pc + 3) ls (.int (P.1 14) :: rest))) : W p l e R s m args below meth c H locs cells slots Q (F0 m pc ls (.ref (a 0) :: rest)) :=
  va_get (D := D) (ci := 9) (v := .int (P.1 14)) (C := RX9) (T := TX9) (N := 41) FX.1 FX.2.1 FX.2.2.2.2 hin FX.2.2.2.1 hK.1 hP (0) rfl rfl 20 (by decide) (FX.2.2.2.2 _ hlink) (fun _ h9 => h9) rfl hdg kk
set_option maxRecDepth 100000 in
theorem mp_20 (FX : CallFix p m c cc nL s args Ts own) (hK : KK D y s) (hin : ∀ w ∈ wsX90, w ∈ Ts) (hP : va_P D vwCl (wM y a P) H) (hA : CA a 26) (hS : va_S (AM a) H0 H locs) (hlink : Cond.fieldLink own index "SeenNumbersModel" "readWide" "I" ∈ Ts) (hdg : decode cc pc = .ok (.putfield index, 3)) (kk : ∀ (H1 : Heap) (locs1 : List Loc), va_P D vwCl (wM y a (pg P 14 v)) H1 → va_S (AM a) H0 H1 locs1 → W p l e R s m args below meth c H1 locs1 cells slots Q (F0 m (pc + 3) ls rest)) : W p l e R s m args below meth c H locs cells slots Q (F0 m pc ls (.int v :: .ref (a 0) :: rest)) :=
  va_put (D := D) (ci := 9) (v := .int v) (ty := .int) (C := RX9) (T := TX9) (N := 41) FX.1 FX.2.1 FX.2.2.2.2 hin tyX9 tyX9_ok nmX9 FX.2.2.2.1 hK.1 hP (wM_D hA) hS (0) rfl rfl 20 (by decide) (FX.2.2.2.2 _ hlink) (fun _ h9 => h9) rfl rfl rfl rfl (Nat.le_of_ble_eq_true rfl) hdg (fun H1 locs1 hP1 _ hS1 => kk H1 locs1 ((fun z => z) hP1) hS1)
theorem mg_21 (FX : CallFix p m c cc nL s args Ts own) (hK : KK D y s) (hin : ∀ w ∈ wsX90, w ∈ Ts) (hP : va_P D vwCl (wM y a P) H) (hlink : Cond.fieldLink own index "SeenNumbersModel" "readHouses" "I" ∈ Ts) (hdg : decode cc pc = .ok (.getfield index, 3)) (kk : W p l e R s m args below meth c H locs cells slots Q (F0 m (pc + 3) ls (.int (P.1 15) :: rest))) : W p l e R s m args below meth c H locs cells slots Q (F0 m pc ls (.ref (a 0) :: rest)) :=
  va_get (D := D) (ci := 9) (v := .int (P.1 15)) (C := RX9) (T := TX9) (N := 41) FX.1 FX.2.1 FX.2.2.2.2 hin FX.2.2.2.1 hK.1 hP (0) rfl rfl 21 (by decide) (FX.2.2.2.2 _ hlink) (fun _ h9 => h9) rfl hdg kk
set_option maxRecDepth 100000 in
theorem mp_21 (FX : CallFix p m c cc nL s args Ts own) (hK : KK D y s) (hin : ∀ w ∈ wsX90, w ∈ Ts) (hP : va_P D vwCl (wM y a P) H) (hA : CA a 26) (hS : va_S (AM a) H0 H locs) (hlink : Cond.fieldLink own index "SeenNumbersModel" "readHouses" "I" ∈ Ts) (hdg : decode cc pc = .ok (.putfield index, 3)) (kk : ∀ (H1 : Heap) (locs1 : List Loc), va_P D vwCl (wM y a (pg P 15 v)) H1 → va_S (AM a) H0 H1 locs1 → W p l e R s m args below meth c H1 locs1 cells slots Q (F0 m (pc + 3) ls rest)) : W p l e R s m args below meth c H locs cells slots Q (F0 m pc ls (.int v :: .ref (a 0) :: rest)) :=
  va_put (D := D) (ci := 9) (v := .int v) (ty := .int) (C := RX9) (T := TX9) (N := 41) FX.1 FX.2.1 FX.2.2.2.2 hin tyX9 tyX9_ok nmX9 FX.2.2.2.1 hK.1 hP (wM_D hA) hS (0) rfl rfl 21 (by decide) (FX.2.2.2.2 _ hlink) (fun _ h9 => h9) rfl rfl rfl rfl (Nat.le_of_ble_eq_true rfl) hdg (fun H1 locs1 hP1 _ hS1 => kk H1 locs1 ((fun z => z) hP1) hS1)
theorem mg_22 (FX : CallFix p m c cc nL s args Ts own) (hK : KK D y s) (hin : ∀ w ∈ wsX90, w ∈ Ts) (hP : va_P D vwCl (wM y a P) H) (hlink : Cond.fieldLink own index "SeenNumbersModel" "readTrees" "I" ∈ Ts) (hdg : decode cc pc = .ok (.getfield index, 3)) (kk : W p l e R s m args below meth c H locs cells slots Q (F0 m (pc + 3) ls (.int (P.1 16) :: rest))) : W p l e R s m args below meth c H locs cells slots Q (F0 m pc ls (.ref (a 0) :: rest)) :=
  va_get (D := D) (ci := 9) (v := .int (P.1 16)) (C := RX9) (T := TX9) (N := 41) FX.1 FX.2.1 FX.2.2.2.2 hin FX.2.2.2.1 hK.1 hP (0) rfl rfl 22 (by decide) (FX.2.2.2.2 _ hlink) (fun _ h9 => h9) rfl hdg kk
set_option maxRecDepth 100000 in
theorem mp_22 (FX : CallFix p m c cc nL s args Ts own) (hK : KK D y s) (hin : ∀ w ∈ wsX90, w ∈ Ts) (hP : va_P D vwCl (wM y a P) H) (hA : CA a 26) (hS : va_S (AM a) H0 H locs) (hlink : Cond.fieldLink own index "SeenNumbersModel" "readTrees" "I" ∈ Ts) (hdg : decode cc pc = .ok (.putfield index, 3)) (kk : ∀ (H1 : Heap) (locs1 : List Loc), va_P D vwCl (wM y a (pg P 16 v)) H1 → va_S (AM a) H0 H1 locs1 → W p l e R s m args below meth c H1 locs1 cells slots Q (F0 m (pc + 3) ls rest)) : W p l e R s m args below meth c H locs cells slots Q (F0 m pc ls (.int v :: .ref (a 0) :: rest)) :=
  va_put (D := D) (ci := 9) (v := .int v) (ty := .int) (C := RX9) (T := TX9) (N := 41) FX.1 FX.2.1 FX.2.2.2.2 hin tyX9 tyX9_ok nmX9 FX.2.2.2.1 hK.1 hP (wM_D hA) hS (0) rfl rfl 22 (by decide) (FX.2.2.2.2 _ hlink) (fun _ h9 => h9) rfl rfl rfl rfl (Nat.le_of_ble_eq_true rfl) hdg (fun H1 locs1 hP1 _ hS1 => kk H1 locs1 ((fun z => z) hP1) hS1)
theorem mg_23 (FX : CallFix p m c cc nL s args Ts own) (hK : KK D y s) (hin : ∀ w ∈ wsX90, w ∈ Ts) (hP : va_P D vwCl (wM y a P) H) (hlink : Cond.fieldLink own index "SeenNumbersModel" "readGround" "[I" ∈ Ts) (hdg : decode cc pc = .ok (.getfield index, 3)) (kk : W p l e R s m args below meth c H locs cells slots Q (F0 m (pc + 3) ls (.ref (a 11) :: rest))) : W p l e R s m args below meth c H locs cells slots Q (F0 m pc ls (.ref (a 0) :: rest)) :=
  va_get (D := D) (ci := 9) (v := .ref (a 11)) (C := RX9) (T := TX9) (N := 41) FX.1 FX.2.1 FX.2.2.2.2 hin FX.2.2.2.1 hK.1 hP (0) rfl rfl 23 (by decide) (FX.2.2.2.2 _ hlink) (fun _ h9 => h9) rfl hdg kk
theorem mg_24 (FX : CallFix p m c cc nL s args Ts own) (hK : KK D y s) (hin : ∀ w ∈ wsX90, w ∈ Ts) (hP : va_P D vwCl (wM y a P) H) (hlink : Cond.fieldLink own index "SeenNumbersModel" "readHas" "[I" ∈ Ts) (hdg : decode cc pc = .ok (.getfield index, 3)) (kk : W p l e R s m args below meth c H locs cells slots Q (F0 m (pc + 3) ls (.ref (a 12) :: rest))) : W p l e R s m args below meth c H locs cells slots Q (F0 m pc ls (.ref (a 0) :: rest)) :=
  va_get (D := D) (ci := 9) (v := .ref (a 12)) (C := RX9) (T := TX9) (N := 41) FX.1 FX.2.1 FX.2.2.2.2 hin FX.2.2.2.1 hK.1 hP (0) rfl rfl 24 (by decide) (FX.2.2.2.2 _ hlink) (fun _ h9 => h9) rfl hdg kk
theorem mg_25 (FX : CallFix p m c cc nL s args Ts own) (hK : KK D y s) (hin : ∀ w ∈ wsX90, w ∈ Ts) (hP : va_P D vwCl (wM y a P) H) (hlink : Cond.fieldLink own index "SeenNumbersModel" "readKind" "[I" ∈ Ts) (hdg : decode cc pc = .ok (.getfield index, 3)) (kk : W p l e R s m args below meth c H locs cells slots Q (F0 m (pc + 3) ls (.ref (a 13) :: rest))) : W p l e R s m args below meth c H locs cells slots Q (F0 m pc ls (.ref (a 0) :: rest)) :=
  va_get (D := D) (ci := 9) (v := .ref (a 13)) (C := RX9) (T := TX9) (N := 41) FX.1 FX.2.1 FX.2.2.2.2 hin FX.2.2.2.1 hK.1 hP (0) rfl rfl 25 (by decide) (FX.2.2.2.2 _ hlink) (fun _ h9 => h9) rfl hdg kk
theorem mg_26 (FX : CallFix p m c cc nL s args Ts own) (hK : KK D y s) (hin : ∀ w ∈ wsX90, w ∈ Ts) (hP : va_P D vwCl (wM y a P) H) (hlink : Cond.fieldLink own index "SeenNumbersModel" "readHouse" "[I" ∈ Ts) (hdg : decode cc pc = .ok (.getfield index, 3)) (kk : W p l e R s m args below meth c H locs cells slots Q (F0 m (pc + 3) ls (.ref (a 14) :: rest))) : W p l e R s m args below meth c H locs cells slots Q (F0 m pc ls (.ref (a 0) :: rest)) :=
  va_get (D := D) (ci := 9) (v := .ref (a 14)) (C := RX9) (T := TX9) (N := 41) FX.1 FX.2.1 FX.2.2.2.2 hin FX.2.2.2.1 hK.1 hP (0) rfl rfl 26 (by decide) (FX.2.2.2.2 _ hlink) (fun _ h9 => h9) rfl hdg kk
theorem mg_27 (FX : CallFix p m c cc nL s args Ts own) (hK : KK D y s) (hin : ∀ w ∈ wsX90, w ∈ Ts) (hP : va_P D vwCl (wM y a P) H) (hlink : Cond.fieldLink own index "SeenNumbersModel" "readTall" "[I" ∈ Ts) (hdg : decode cc pc = .ok (.getfield index, 3)) (kk : W p l e R s m args below meth c H locs cells slots Q (F0 m (pc + 3) ls (.ref (a 15) :: rest))) : W p l e R s m args below meth c H locs cells slots Q (F0 m pc ls (.ref (a 0) :: rest)) :=
  va_get (D := D) (ci := 9) (v := .ref (a 15)) (C := RX9) (T := TX9) (N := 41) FX.1 FX.2.1 FX.2.2.2.2 hin FX.2.2.2.1 hK.1 hP (0) rfl rfl 27 (by decide) (FX.2.2.2.2 _ hlink) (fun _ h9 => h9) rfl hdg kk
theorem mg_28 (FX : CallFix p m c cc nL s args Ts own) (hK : KK D y s) (hin : ∀ w ∈ wsX90, w ∈ Ts) (hP : va_P D vwCl (wM y a P) H) (hlink : Cond.fieldLink own index "SeenNumbersModel" "readTree" "[I" ∈ Ts) (hdg : decode cc pc = .ok (.getfield index, 3)) (kk : W p l e R s m args below meth c H locs cells slots Q (F0 m (pc + 3) ls (.ref (a 16) :: rest))) : W p l e R s m args below meth c H locs cells slots Q (F0 m pc ls (.ref (a 0) :: rest)) :=
  va_get (D := D) (ci := 9) (v := .ref (a 16)) (C := RX9) (T := TX9) (N := 41) FX.1 FX.2.1 FX.2.2.2.2 hin FX.2.2.2.1 hK.1 hP (0) rfl rfl 28 (by decide) (FX.2.2.2.2 _ hlink) (fun _ h9 => h9) rfl hdg kk
theorem mg_29 (FX : CallFix p m c cc nL s args Ts own) (hK : KK D y s) (hin : ∀ w ∈ wsX90, w ∈ Ts) (hP : va_P D vwCl (wM y a P) H) (hlink : Cond.fieldLink own index "SeenNumbersModel" "readGrown" "[I" ∈ Ts) (hdg : decode cc pc = .ok (.getfield index, 3)) (kk : W p l e R s m args below meth c H locs cells slots Q (F0 m (pc + 3) ls (.ref (a 17) :: rest))) : W p l e R s m args below meth c H locs cells slots Q (F0 m pc ls (.ref (a 0) :: rest)) :=
  va_get (D := D) (ci := 9) (v := .ref (a 17)) (C := RX9) (T := TX9) (N := 41) FX.1 FX.2.1 FX.2.2.2.2 hin FX.2.2.2.1 hK.1 hP (0) rfl rfl 29 (by decide) (FX.2.2.2.2 _ hlink) (fun _ h9 => h9) rfl hdg kk
theorem mg_30 (FX : CallFix p m c cc nL s args Ts own) (hK : KK D y s) (hin : ∀ w ∈ wsX90, w ∈ Ts) (hP : va_P D vwCl (wM y a P) H) (hlink : Cond.fieldLink own index "SeenNumbersModel" "numberWas" "[I" ∈ Ts) (hdg : decode cc pc = .ok (.getfield index, 3)) (kk : W p l e R s m args below meth c H locs cells slots Q (F0 m (pc + 3) ls (.ref (a 18) :: rest))) : W p l e R s m args below meth c H locs cells slots Q (F0 m pc ls (.ref (a 0) :: rest)) :=
  va_get (D := D) (ci := 9) (v := .ref (a 18)) (C := RX9) (T := TX9) (N := 41) FX.1 FX.2.1 FX.2.2.2.2 hin FX.2.2.2.1 hK.1 hP (0) rfl rfl 30 (by decide) (FX.2.2.2.2 _ hlink) (fun _ h9 => h9) rfl hdg kk
theorem mg_31 (FX : CallFix p m c cc nL s args Ts own) (hK : KK D y s) (hin : ∀ w ∈ wsX90, w ∈ Ts) (hP : va_P D vwCl (wM y a P) H) (hlink : Cond.fieldLink own index "SeenNumbersModel" "othersThen" "I" ∈ Ts) (hdg : decode cc pc = .ok (.getfield index, 3)) (kk : W p l e R s m args below meth c H locs cells slots Q (F0 m (pc + 3) ls (.int (P.1 17) :: rest))) : W p l e R s m args below meth c H locs cells slots Q (F0 m pc ls (.ref (a 0) :: rest)) :=
  va_get (D := D) (ci := 9) (v := .int (P.1 17)) (C := RX9) (T := TX9) (N := 41) FX.1 FX.2.1 FX.2.2.2.2 hin FX.2.2.2.1 hK.1 hP (0) rfl rfl 31 (by decide) (FX.2.2.2.2 _ hlink) (fun _ h9 => h9) rfl hdg kk
set_option maxRecDepth 100000 in
theorem mp_31 (FX : CallFix p m c cc nL s args Ts own) (hK : KK D y s) (hin : ∀ w ∈ wsX90, w ∈ Ts) (hP : va_P D vwCl (wM y a P) H) (hA : CA a 26) (hS : va_S (AM a) H0 H locs) (hlink : Cond.fieldLink own index "SeenNumbersModel" "othersThen" "I" ∈ Ts) (hdg : decode cc pc = .ok (.putfield index, 3)) (kk : ∀ (H1 : Heap) (locs1 : List Loc), va_P D vwCl (wM y a (pg P 17 v)) H1 → va_S (AM a) H0 H1 locs1 → W p l e R s m args below meth c H1 locs1 cells slots Q (F0 m (pc + 3) ls rest)) : W p l e R s m args below meth c H locs cells slots Q (F0 m pc ls (.int v :: .ref (a 0) :: rest)) :=
  va_put (D := D) (ci := 9) (v := .int v) (ty := .int) (C := RX9) (T := TX9) (N := 41) FX.1 FX.2.1 FX.2.2.2.2 hin tyX9 tyX9_ok nmX9 FX.2.2.2.1 hK.1 hP (wM_D hA) hS (0) rfl rfl 31 (by decide) (FX.2.2.2.2 _ hlink) (fun _ h9 => h9) rfl rfl rfl rfl (Nat.le_of_ble_eq_true rfl) hdg (fun H1 locs1 hP1 _ hS1 => kk H1 locs1 ((fun z => z) hP1) hS1)
theorem mg_32 (FX : CallFix p m c cc nL s args Ts own) (hK : KK D y s) (hin : ∀ w ∈ wsX90, w ∈ Ts) (hP : va_P D vwCl (wM y a P) H) (hlink : Cond.fieldLink own index "SeenNumbersModel" "readings" "I" ∈ Ts) (hdg : decode cc pc = .ok (.getfield index, 3)) (kk : W p l e R s m args below meth c H locs cells slots Q (F0 m (pc + 3) ls (.int (P.1 8) :: rest))) : W p l e R s m args below meth c H locs cells slots Q (F0 m pc ls (.ref (a 0) :: rest)) :=
  va_get (D := D) (ci := 9) (v := .int (P.1 8)) (C := RX9) (T := TX9) (N := 41) FX.1 FX.2.1 FX.2.2.2.2 hin FX.2.2.2.1 hK.1 hP (0) rfl rfl 32 (by decide) (FX.2.2.2.2 _ hlink) (fun _ h9 => h9) rfl hdg kk
set_option maxRecDepth 100000 in
theorem mp_32 (FX : CallFix p m c cc nL s args Ts own) (hK : KK D y s) (hin : ∀ w ∈ wsX90, w ∈ Ts) (hP : va_P D vwCl (wM y a P) H) (hA : CA a 26) (hS : va_S (AM a) H0 H locs) (hlink : Cond.fieldLink own index "SeenNumbersModel" "readings" "I" ∈ Ts) (hdg : decode cc pc = .ok (.putfield index, 3)) (kk : ∀ (H1 : Heap) (locs1 : List Loc), va_P D vwCl (wM y a (pg P 8 v)) H1 → va_S (AM a) H0 H1 locs1 → W p l e R s m args below meth c H1 locs1 cells slots Q (F0 m (pc + 3) ls rest)) : W p l e R s m args below meth c H locs cells slots Q (F0 m pc ls (.int v :: .ref (a 0) :: rest)) :=
  va_put (D := D) (ci := 9) (v := .int v) (ty := .int) (C := RX9) (T := TX9) (N := 41) FX.1 FX.2.1 FX.2.2.2.2 hin tyX9 tyX9_ok nmX9 FX.2.2.2.1 hK.1 hP (wM_D hA) hS (0) rfl rfl 32 (by decide) (FX.2.2.2.2 _ hlink) (fun _ h9 => h9) rfl rfl rfl rfl (Nat.le_of_ble_eq_true rfl) hdg (fun H1 locs1 hP1 _ hS1 => kk H1 locs1 ((fun z => z) hP1) hS1)
theorem mg_33 (FX : CallFix p m c cc nL s args Ts own) (hK : KK D y s) (hin : ∀ w ∈ wsX90, w ∈ Ts) (hP : va_P D vwCl (wM y a P) H) (hlink : Cond.fieldLink own index "SeenNumbersModel" "readingOf" "[I" ∈ Ts) (hdg : decode cc pc = .ok (.getfield index, 3)) (kk : W p l e R s m args below meth c H locs cells slots Q (F0 m (pc + 3) ls (.ref (a 19) :: rest))) : W p l e R s m args below meth c H locs cells slots Q (F0 m pc ls (.ref (a 0) :: rest)) :=
  va_get (D := D) (ci := 9) (v := .ref (a 19)) (C := RX9) (T := TX9) (N := 41) FX.1 FX.2.1 FX.2.2.2.2 hin FX.2.2.2.1 hK.1 hP (0) rfl rfl 33 (by decide) (FX.2.2.2.2 _ hlink) (fun _ h9 => h9) rfl hdg kk
theorem mg_34 (FX : CallFix p m c cc nL s args Ts own) (hK : KK D y s) (hin : ∀ w ∈ wsX90, w ∈ Ts) (hP : va_P D vwCl (wM y a P) H) (hlink : Cond.fieldLink own index "SeenNumbersModel" "readingIn" "[I" ∈ Ts) (hdg : decode cc pc = .ok (.getfield index, 3)) (kk : W p l e R s m args below meth c H locs cells slots Q (F0 m (pc + 3) ls (.ref (a 20) :: rest))) : W p l e R s m args below meth c H locs cells slots Q (F0 m pc ls (.ref (a 0) :: rest)) :=
  va_get (D := D) (ci := 9) (v := .ref (a 20)) (C := RX9) (T := TX9) (N := 41) FX.1 FX.2.1 FX.2.2.2.2 hin FX.2.2.2.1 hK.1 hP (0) rfl rfl 34 (by decide) (FX.2.2.2.2 _ hlink) (fun _ h9 => h9) rfl hdg kk
theorem mg_35 (FX : CallFix p m c cc nL s args Ts own) (hK : KK D y s) (hin : ∀ w ∈ wsX90, w ∈ Ts) (hP : va_P D vwCl (wM y a P) H) (hlink : Cond.fieldLink own index "SeenNumbersModel" "readingTo" "[I" ∈ Ts) (hdg : decode cc pc = .ok (.getfield index, 3)) (kk : W p l e R s m args below meth c H locs cells slots Q (F0 m (pc + 3) ls (.ref (a 21) :: rest))) : W p l e R s m args below meth c H locs cells slots Q (F0 m pc ls (.ref (a 0) :: rest)) :=
  va_get (D := D) (ci := 9) (v := .ref (a 21)) (C := RX9) (T := TX9) (N := 41) FX.1 FX.2.1 FX.2.2.2.2 hin FX.2.2.2.1 hK.1 hP (0) rfl rfl 35 (by decide) (FX.2.2.2.2 _ hlink) (fun _ h9 => h9) rfl hdg kk
theorem mg_36 (FX : CallFix p m c cc nL s args Ts own) (hK : KK D y s) (hin : ∀ w ∈ wsX90, w ∈ Ts) (hP : va_P D vwCl (wM y a P) H) (hlink : Cond.fieldLink own index "SeenNumbersModel" "sheetSize" "[I" ∈ Ts) (hdg : decode cc pc = .ok (.getfield index, 3)) (kk : W p l e R s m args below meth c H locs cells slots Q (F0 m (pc + 3) ls (.ref (a 22) :: rest))) : W p l e R s m args below meth c H locs cells slots Q (F0 m pc ls (.ref (a 0) :: rest)) :=
  va_get (D := D) (ci := 9) (v := .ref (a 22)) (C := RX9) (T := TX9) (N := 41) FX.1 FX.2.1 FX.2.2.2.2 hin FX.2.2.2.1 hK.1 hP (0) rfl rfl 36 (by decide) (FX.2.2.2.2 _ hlink) (fun _ h9 => h9) rfl hdg kk
theorem mg_37 (FX : CallFix p m c cc nL s args Ts own) (hK : KK D y s) (hin : ∀ w ∈ wsX90, w ∈ Ts) (hP : va_P D vwCl (wM y a P) H) (hlink : Cond.fieldLink own index "SeenNumbersModel" "sheetLane" "[I" ∈ Ts) (hdg : decode cc pc = .ok (.getfield index, 3)) (kk : W p l e R s m args below meth c H locs cells slots Q (F0 m (pc + 3) ls (.ref (a 23) :: rest))) : W p l e R s m args below meth c H locs cells slots Q (F0 m pc ls (.ref (a 0) :: rest)) :=
  va_get (D := D) (ci := 9) (v := .ref (a 23)) (C := RX9) (T := TX9) (N := 41) FX.1 FX.2.1 FX.2.2.2.2 hin FX.2.2.2.1 hK.1 hP (0) rfl rfl 37 (by decide) (FX.2.2.2.2 _ hlink) (fun _ h9 => h9) rfl hdg kk
theorem mg_38 (FX : CallFix p m c cc nL s args Ts own) (hK : KK D y s) (hin : ∀ w ∈ wsX90, w ∈ Ts) (hP : va_P D vwCl (wM y a P) H) (hlink : Cond.fieldLink own index "SeenNumbersModel" "sheet" "[I" ∈ Ts) (hdg : decode cc pc = .ok (.getfield index, 3)) (kk : W p l e R s m args below meth c H locs cells slots Q (F0 m (pc + 3) ls (.ref (a 24) :: rest))) : W p l e R s m args below meth c H locs cells slots Q (F0 m pc ls (.ref (a 0) :: rest)) :=
  va_get (D := D) (ci := 9) (v := .ref (a 24)) (C := RX9) (T := TX9) (N := 41) FX.1 FX.2.1 FX.2.2.2.2 hin FX.2.2.2.1 hK.1 hP (0) rfl rfl 38 (by decide) (FX.2.2.2.2 _ hlink) (fun _ h9 => h9) rfl hdg kk
theorem mg_39 (FX : CallFix p m c cc nL s args Ts own) (hK : KK D y s) (hin : ∀ w ∈ wsX90, w ∈ Ts) (hP : va_P D vwCl (wM y a P) H) (hlink : Cond.fieldLink own index "SeenNumbersModel" "hands" "[I" ∈ Ts) (hdg : decode cc pc = .ok (.getfield index, 3)) (kk : W p l e R s m args below meth c H locs cells slots Q (F0 m (pc + 3) ls (.ref (a 25) :: rest))) : W p l e R s m args below meth c H locs cells slots Q (F0 m pc ls (.ref (a 0) :: rest)) :=
  va_get (D := D) (ci := 9) (v := .ref (a 25)) (C := RX9) (T := TX9) (N := 41) FX.1 FX.2.1 FX.2.2.2.2 hin FX.2.2.2.1 hK.1 hP (0) rfl rfl 39 (by decide) (FX.2.2.2.2 _ hlink) (fun _ h9 => h9) rfl hdg kk
theorem mg_40 (FX : CallFix p m c cc nL s args Ts own) (hK : KK D y s) (hin : ∀ w ∈ wsX90, w ∈ Ts) (hP : va_P D vwCl (wM y a P) H) (hlink : Cond.fieldLink own index "SeenNumbersModel" "traceNow" "I" ∈ Ts) (hdg : decode cc pc = .ok (.getfield index, 3)) (kk : W p l e R s m args below meth c H locs cells slots Q (F0 m (pc + 3) ls (.int (P.1 9) :: rest))) : W p l e R s m args below meth c H locs cells slots Q (F0 m pc ls (.ref (a 0) :: rest)) :=
  va_get (D := D) (ci := 9) (v := .int (P.1 9)) (C := RX9) (T := TX9) (N := 41) FX.1 FX.2.1 FX.2.2.2.2 hin FX.2.2.2.1 hK.1 hP (0) rfl rfl 40 (by decide) (FX.2.2.2.2 _ hlink) (fun _ h9 => h9) rfl hdg kk
set_option maxRecDepth 100000 in
theorem mp_40 (FX : CallFix p m c cc nL s args Ts own) (hK : KK D y s) (hin : ∀ w ∈ wsX90, w ∈ Ts) (hP : va_P D vwCl (wM y a P) H) (hA : CA a 26) (hS : va_S (AM a) H0 H locs) (hlink : Cond.fieldLink own index "SeenNumbersModel" "traceNow" "I" ∈ Ts) (hdg : decode cc pc = .ok (.putfield index, 3)) (kk : ∀ (H1 : Heap) (locs1 : List Loc), va_P D vwCl (wM y a (pg P 9 v)) H1 → va_S (AM a) H0 H1 locs1 → W p l e R s m args below meth c H1 locs1 cells slots Q (F0 m (pc + 3) ls rest)) : W p l e R s m args below meth c H locs cells slots Q (F0 m pc ls (.int v :: .ref (a 0) :: rest)) :=
  va_put (D := D) (ci := 9) (v := .int v) (ty := .int) (C := RX9) (T := TX9) (N := 41) FX.1 FX.2.1 FX.2.2.2.2 hin tyX9 tyX9_ok nmX9 FX.2.2.2.1 hK.1 hP (wM_D hA) hS (0) rfl rfl 40 (by decide) (FX.2.2.2.2 _ hlink) (fun _ h9 => h9) rfl rfl rfl rfl (Nat.le_of_ble_eq_true rfl) hdg (fun H1 locs1 hP1 _ hS1 => kk H1 locs1 ((fun z => z) hP1) hS1)
theorem ma1 {i : Nat} (hi : i < 30) (FX : CallFix p m c cc nL s args Ts own) (hK : KK D y s) (hP : va_P D vwCl (wM y a P) H) (hdg : decode cc pc = .ok (.iaload, 1)) (kk : W p l e R s m args below meth c H locs cells slots Q (F0 m (pc + 1) ls (.int (P.2 0 i) :: rest))) : W p l e R s m args below meth c H locs cells slots Q (F0 m pc ls (.int (nI i) :: .ref (a 1) :: rest)) := by
  refine va_iald (D := D) (f := P.2 0) (n := 30) FX.1 FX.2.1 hK.1 hP (1) 0 rfl rfl (vp_in_nI hi (by decide)) hdg ?_
  rw [nI_clamp (by omega)]; exact kk
set_option maxRecDepth 100000 in
theorem ms1 {i : Nat} (hi : i < 30) (FX : CallFix p m c cc nL s args Ts own) (hK : KK D y s) (hP : va_P D vwCl (wM y a P) H) (hA : CA a 26) (hS : va_S (AM a) H0 H locs) (hdg : decode cc pc = .ok (.iastore, 1)) (kk : ∀ (H1 : Heap) (locs1 : List Loc), va_P D vwCl (wM y a (pa P 0 i v)) H1 → va_S (AM a) H0 H1 locs1 → W p l e R s m args below meth c H1 locs1 cells slots Q (F0 m (pc + 1) ls rest)) : W p l e R s m args below meth c H locs cells slots Q (F0 m pc ls (.int v :: .int (nI i) :: .ref (a 1) :: rest)) := by
  refine va_iast (D := D) (f := P.2 0) (n := 30) FX.1 FX.2.1 hK.1 hP (wM_D hA) hS (1) 0 rfl rfl (vp_in_nI hi (by decide)) hdg (fun H1 locs1 hP1 _ hS1 => kk H1 locs1 ?_ hS1)
  rw [nI_clamp (by omega)] at hP1; exact (fun z => z) hP1
theorem ma2 {i : Nat} (hi : i < 30) (FX : CallFix p m c cc nL s args Ts own) (hK : KK D y s) (hP : va_P D vwCl (wM y a P) H) (hdg : decode cc pc = .ok (.iaload, 1)) (kk : W p l e R s m args below meth c H locs cells slots Q (F0 m (pc + 1) ls (.int (P.2 2 i) :: rest))) : W p l e R s m args below meth c H locs cells slots Q (F0 m pc ls (.int (nI i) :: .ref (a 2) :: rest)) := by
  refine va_iald (D := D) (f := P.2 2) (n := 30) FX.1 FX.2.1 hK.1 hP (2) 0 rfl rfl (vp_in_nI hi (by decide)) hdg ?_
  rw [nI_clamp (by omega)]; exact kk
set_option maxRecDepth 100000 in
theorem ms2 {i : Nat} (hi : i < 30) (FX : CallFix p m c cc nL s args Ts own) (hK : KK D y s) (hP : va_P D vwCl (wM y a P) H) (hA : CA a 26) (hS : va_S (AM a) H0 H locs) (hdg : decode cc pc = .ok (.iastore, 1)) (kk : ∀ (H1 : Heap) (locs1 : List Loc), va_P D vwCl (wM y a (pa P 2 i v)) H1 → va_S (AM a) H0 H1 locs1 → W p l e R s m args below meth c H1 locs1 cells slots Q (F0 m (pc + 1) ls rest)) : W p l e R s m args below meth c H locs cells slots Q (F0 m pc ls (.int v :: .int (nI i) :: .ref (a 2) :: rest)) := by
  refine va_iast (D := D) (f := P.2 2) (n := 30) FX.1 FX.2.1 hK.1 hP (wM_D hA) hS (2) 0 rfl rfl (vp_in_nI hi (by decide)) hdg (fun H1 locs1 hP1 _ hS1 => kk H1 locs1 ?_ hS1)
  rw [nI_clamp (by omega)] at hP1; exact (fun z => z) hP1
theorem ma3 {i : Nat} (hi : i < 30) (FX : CallFix p m c cc nL s args Ts own) (hK : KK D y s) (hP : va_P D vwCl (wM y a P) H) (hdg : decode cc pc = .ok (.iaload, 1)) (kk : W p l e R s m args below meth c H locs cells slots Q (F0 m (pc + 1) ls (.int (P.2 1 i) :: rest))) : W p l e R s m args below meth c H locs cells slots Q (F0 m pc ls (.int (nI i) :: .ref (a 3) :: rest)) := by
  refine va_iald (D := D) (f := P.2 1) (n := 30) FX.1 FX.2.1 hK.1 hP (3) 0 rfl rfl (vp_in_nI hi (by decide)) hdg ?_
  rw [nI_clamp (by omega)]; exact kk
set_option maxRecDepth 100000 in
theorem ms3 {i : Nat} (hi : i < 30) (FX : CallFix p m c cc nL s args Ts own) (hK : KK D y s) (hP : va_P D vwCl (wM y a P) H) (hA : CA a 26) (hS : va_S (AM a) H0 H locs) (hdg : decode cc pc = .ok (.iastore, 1)) (kk : ∀ (H1 : Heap) (locs1 : List Loc), va_P D vwCl (wM y a (pa P 1 i v)) H1 → va_S (AM a) H0 H1 locs1 → W p l e R s m args below meth c H1 locs1 cells slots Q (F0 m (pc + 1) ls rest)) : W p l e R s m args below meth c H locs cells slots Q (F0 m pc ls (.int v :: .int (nI i) :: .ref (a 3) :: rest)) := by
  refine va_iast (D := D) (f := P.2 1) (n := 30) FX.1 FX.2.1 hK.1 hP (wM_D hA) hS (3) 0 rfl rfl (vp_in_nI hi (by decide)) hdg (fun H1 locs1 hP1 _ hS1 => kk H1 locs1 ?_ hS1)
  rw [nI_clamp (by omega)] at hP1; exact (fun z => z) hP1
theorem ma4 {i : Nat} (hi : i < 9) (FX : CallFix p m c cc nL s args Ts own) (hK : KK D y s) (hP : va_P D vwCl (wM y a P) H) (hdg : decode cc pc = .ok (.iaload, 1)) (kk : W p l e R s m args below meth c H locs cells slots Q (F0 m (pc + 1) ls (.int (P.2 3 i) :: rest))) : W p l e R s m args below meth c H locs cells slots Q (F0 m pc ls (.int (nI i) :: .ref (a 4) :: rest)) := by
  refine va_iald (D := D) (f := P.2 3) (n := 9) FX.1 FX.2.1 hK.1 hP (4) 0 rfl rfl (vp_in_nI hi (by decide)) hdg ?_
  rw [nI_clamp (by omega)]; exact kk
set_option maxRecDepth 100000 in
theorem ms4 {i : Nat} (hi : i < 9) (FX : CallFix p m c cc nL s args Ts own) (hK : KK D y s) (hP : va_P D vwCl (wM y a P) H) (hA : CA a 26) (hS : va_S (AM a) H0 H locs) (hdg : decode cc pc = .ok (.iastore, 1)) (kk : ∀ (H1 : Heap) (locs1 : List Loc), va_P D vwCl (wM y a (pa P 3 i v)) H1 → va_S (AM a) H0 H1 locs1 → W p l e R s m args below meth c H1 locs1 cells slots Q (F0 m (pc + 1) ls rest)) : W p l e R s m args below meth c H locs cells slots Q (F0 m pc ls (.int v :: .int (nI i) :: .ref (a 4) :: rest)) := by
  refine va_iast (D := D) (f := P.2 3) (n := 9) FX.1 FX.2.1 hK.1 hP (wM_D hA) hS (4) 0 rfl rfl (vp_in_nI hi (by decide)) hdg (fun H1 locs1 hP1 _ hS1 => kk H1 locs1 ?_ hS1)
  rw [nI_clamp (by omega)] at hP1; exact (fun z => z) hP1
theorem ma5 {i : Nat} (hi : i < 9) (FX : CallFix p m c cc nL s args Ts own) (hK : KK D y s) (hP : va_P D vwCl (wM y a P) H) (hdg : decode cc pc = .ok (.iaload, 1)) (kk : W p l e R s m args below meth c H locs cells slots Q (F0 m (pc + 1) ls (.int (P.2 4 i) :: rest))) : W p l e R s m args below meth c H locs cells slots Q (F0 m pc ls (.int (nI i) :: .ref (a 5) :: rest)) := by
  refine va_iald (D := D) (f := P.2 4) (n := 9) FX.1 FX.2.1 hK.1 hP (5) 0 rfl rfl (vp_in_nI hi (by decide)) hdg ?_
  rw [nI_clamp (by omega)]; exact kk
set_option maxRecDepth 100000 in
theorem ms5 {i : Nat} (hi : i < 9) (FX : CallFix p m c cc nL s args Ts own) (hK : KK D y s) (hP : va_P D vwCl (wM y a P) H) (hA : CA a 26) (hS : va_S (AM a) H0 H locs) (hdg : decode cc pc = .ok (.iastore, 1)) (kk : ∀ (H1 : Heap) (locs1 : List Loc), va_P D vwCl (wM y a (pa P 4 i v)) H1 → va_S (AM a) H0 H1 locs1 → W p l e R s m args below meth c H1 locs1 cells slots Q (F0 m (pc + 1) ls rest)) : W p l e R s m args below meth c H locs cells slots Q (F0 m pc ls (.int v :: .int (nI i) :: .ref (a 5) :: rest)) := by
  refine va_iast (D := D) (f := P.2 4) (n := 9) FX.1 FX.2.1 hK.1 hP (wM_D hA) hS (5) 0 rfl rfl (vp_in_nI hi (by decide)) hdg (fun H1 locs1 hP1 _ hS1 => kk H1 locs1 ?_ hS1)
  rw [nI_clamp (by omega)] at hP1; exact (fun z => z) hP1
theorem ma6 {i : Nat} (hi : i < 9) (FX : CallFix p m c cc nL s args Ts own) (hK : KK D y s) (hP : va_P D vwCl (wM y a P) H) (hdg : decode cc pc = .ok (.iaload, 1)) (kk : W p l e R s m args below meth c H locs cells slots Q (F0 m (pc + 1) ls (.int (P.2 5 i) :: rest))) : W p l e R s m args below meth c H locs cells slots Q (F0 m pc ls (.int (nI i) :: .ref (a 6) :: rest)) := by
  refine va_iald (D := D) (f := P.2 5) (n := 9) FX.1 FX.2.1 hK.1 hP (6) 0 rfl rfl (vp_in_nI hi (by decide)) hdg ?_
  rw [nI_clamp (by omega)]; exact kk
set_option maxRecDepth 100000 in
theorem ms6 {i : Nat} (hi : i < 9) (FX : CallFix p m c cc nL s args Ts own) (hK : KK D y s) (hP : va_P D vwCl (wM y a P) H) (hA : CA a 26) (hS : va_S (AM a) H0 H locs) (hdg : decode cc pc = .ok (.iastore, 1)) (kk : ∀ (H1 : Heap) (locs1 : List Loc), va_P D vwCl (wM y a (pa P 5 i v)) H1 → va_S (AM a) H0 H1 locs1 → W p l e R s m args below meth c H1 locs1 cells slots Q (F0 m (pc + 1) ls rest)) : W p l e R s m args below meth c H locs cells slots Q (F0 m pc ls (.int v :: .int (nI i) :: .ref (a 6) :: rest)) := by
  refine va_iast (D := D) (f := P.2 5) (n := 9) FX.1 FX.2.1 hK.1 hP (wM_D hA) hS (6) 0 rfl rfl (vp_in_nI hi (by decide)) hdg (fun H1 locs1 hP1 _ hS1 => kk H1 locs1 ?_ hS1)
  rw [nI_clamp (by omega)] at hP1; exact (fun z => z) hP1
theorem ma7 {i : Nat} (hi : i < 9) (FX : CallFix p m c cc nL s args Ts own) (hK : KK D y s) (hP : va_P D vwCl (wM y a P) H) (hdg : decode cc pc = .ok (.iaload, 1)) (kk : W p l e R s m args below meth c H locs cells slots Q (F0 m (pc + 1) ls (.int (P.2 6 i) :: rest))) : W p l e R s m args below meth c H locs cells slots Q (F0 m pc ls (.int (nI i) :: .ref (a 7) :: rest)) := by
  refine va_iald (D := D) (f := P.2 6) (n := 9) FX.1 FX.2.1 hK.1 hP (7) 0 rfl rfl (vp_in_nI hi (by decide)) hdg ?_
  rw [nI_clamp (by omega)]; exact kk
set_option maxRecDepth 100000 in
theorem ms7 {i : Nat} (hi : i < 9) (FX : CallFix p m c cc nL s args Ts own) (hK : KK D y s) (hP : va_P D vwCl (wM y a P) H) (hA : CA a 26) (hS : va_S (AM a) H0 H locs) (hdg : decode cc pc = .ok (.iastore, 1)) (kk : ∀ (H1 : Heap) (locs1 : List Loc), va_P D vwCl (wM y a (pa P 6 i v)) H1 → va_S (AM a) H0 H1 locs1 → W p l e R s m args below meth c H1 locs1 cells slots Q (F0 m (pc + 1) ls rest)) : W p l e R s m args below meth c H locs cells slots Q (F0 m pc ls (.int v :: .int (nI i) :: .ref (a 7) :: rest)) := by
  refine va_iast (D := D) (f := P.2 6) (n := 9) FX.1 FX.2.1 hK.1 hP (wM_D hA) hS (7) 0 rfl rfl (vp_in_nI hi (by decide)) hdg (fun H1 locs1 hP1 _ hS1 => kk H1 locs1 ?_ hS1)
  rw [nI_clamp (by omega)] at hP1; exact (fun z => z) hP1
theorem ma8 {i : Nat} (hi : i < 8) (FX : CallFix p m c cc nL s args Ts own) (hK : KK D y s) (hP : va_P D vwCl (wM y a P) H) (hdg : decode cc pc = .ok (.iaload, 1)) (kk : W p l e R s m args below meth c H locs cells slots Q (F0 m (pc + 1) ls (.int (P.2 7 i) :: rest))) : W p l e R s m args below meth c H locs cells slots Q (F0 m pc ls (.int (nI i) :: .ref (a 8) :: rest)) := by
  refine va_iald (D := D) (f := P.2 7) (n := 8) FX.1 FX.2.1 hK.1 hP (8) 0 rfl rfl (vp_in_nI hi (by decide)) hdg ?_
  rw [nI_clamp (by omega)]; exact kk
set_option maxRecDepth 100000 in
theorem ms8 {i : Nat} (hi : i < 8) (FX : CallFix p m c cc nL s args Ts own) (hK : KK D y s) (hP : va_P D vwCl (wM y a P) H) (hA : CA a 26) (hS : va_S (AM a) H0 H locs) (hdg : decode cc pc = .ok (.iastore, 1)) (kk : ∀ (H1 : Heap) (locs1 : List Loc), va_P D vwCl (wM y a (pa P 7 i v)) H1 → va_S (AM a) H0 H1 locs1 → W p l e R s m args below meth c H1 locs1 cells slots Q (F0 m (pc + 1) ls rest)) : W p l e R s m args below meth c H locs cells slots Q (F0 m pc ls (.int v :: .int (nI i) :: .ref (a 8) :: rest)) := by
  refine va_iast (D := D) (f := P.2 7) (n := 8) FX.1 FX.2.1 hK.1 hP (wM_D hA) hS (8) 0 rfl rfl (vp_in_nI hi (by decide)) hdg (fun H1 locs1 hP1 _ hS1 => kk H1 locs1 ?_ hS1)
  rw [nI_clamp (by omega)] at hP1; exact (fun z => z) hP1
theorem ma9 {i : Nat} (hi : i < 8) (FX : CallFix p m c cc nL s args Ts own) (hK : KK D y s) (hP : va_P D vwCl (wM y a P) H) (hdg : decode cc pc = .ok (.iaload, 1)) (kk : W p l e R s m args below meth c H locs cells slots Q (F0 m (pc + 1) ls (.int (P.2 8 i) :: rest))) : W p l e R s m args below meth c H locs cells slots Q (F0 m pc ls (.int (nI i) :: .ref (a 9) :: rest)) := by
  refine va_iald (D := D) (f := P.2 8) (n := 8) FX.1 FX.2.1 hK.1 hP (9) 0 rfl rfl (vp_in_nI hi (by decide)) hdg ?_
  rw [nI_clamp (by omega)]; exact kk
set_option maxRecDepth 100000 in
theorem ms9 {i : Nat} (hi : i < 8) (FX : CallFix p m c cc nL s args Ts own) (hK : KK D y s) (hP : va_P D vwCl (wM y a P) H) (hA : CA a 26) (hS : va_S (AM a) H0 H locs) (hdg : decode cc pc = .ok (.iastore, 1)) (kk : ∀ (H1 : Heap) (locs1 : List Loc), va_P D vwCl (wM y a (pa P 8 i v)) H1 → va_S (AM a) H0 H1 locs1 → W p l e R s m args below meth c H1 locs1 cells slots Q (F0 m (pc + 1) ls rest)) : W p l e R s m args below meth c H locs cells slots Q (F0 m pc ls (.int v :: .int (nI i) :: .ref (a 9) :: rest)) := by
  refine va_iast (D := D) (f := P.2 8) (n := 8) FX.1 FX.2.1 hK.1 hP (wM_D hA) hS (9) 0 rfl rfl (vp_in_nI hi (by decide)) hdg (fun H1 locs1 hP1 _ hS1 => kk H1 locs1 ?_ hS1)
  rw [nI_clamp (by omega)] at hP1; exact (fun z => z) hP1
theorem ma10 {i : Nat} (hi : i < 8) (FX : CallFix p m c cc nL s args Ts own) (hK : KK D y s) (hP : va_P D vwCl (wM y a P) H) (hdg : decode cc pc = .ok (.baload, 1)) (kk : W p l e R s m args below meth c H locs cells slots Q (F0 m (pc + 1) ls (.int (P.2 19 i) :: rest))) : W p l e R s m args below meth c H locs cells slots Q (F0 m pc ls (.int (nI i) :: .ref (a 10) :: rest)) := by
  refine va_zald (D := D) (f := P.2 19) (n := 8) FX.1 FX.2.1 hK.1 hP (10) 1 rfl rfl (vp_in_nI hi (by decide)) hdg ?_
  rw [nI_clamp (by omega)]; exact kk
set_option maxRecDepth 100000 in
theorem ms10 {i : Nat} (hi : i < 8) (FX : CallFix p m c cc nL s args Ts own) (hK : KK D y s) (hP : va_P D vwCl (wM y a P) H) (hA : CA a 26) (hS : va_S (AM a) H0 H locs) (hdg : decode cc pc = .ok (.bastore, 1)) (kk : ∀ (H1 : Heap) (locs1 : List Loc), va_P D vwCl (wM y a (pa P 19 i (vp_nar .boolean v))) H1 → va_S (AM a) H0 H1 locs1 → W p l e R s m args below meth c H1 locs1 cells slots Q (F0 m (pc + 1) ls rest)) : W p l e R s m args below meth c H locs cells slots Q (F0 m pc ls (.int v :: .int (nI i) :: .ref (a 10) :: rest)) := by
  refine va_zast (D := D) (f := P.2 19) (n := 8) FX.1 FX.2.1 hK.1 hP (wM_D hA) hS (10) 1 rfl rfl (vp_in_nI hi (by decide)) hdg (fun H1 locs1 hP1 _ hS1 => kk H1 locs1 ?_ hS1)
  rw [nI_clamp (by omega)] at hP1; exact (fun z => z) hP1
theorem ma11 {i : Nat} (hi : i < 30) (FX : CallFix p m c cc nL s args Ts own) (hK : KK D y s) (hP : va_P D vwCl (wM y a P) H) (hdg : decode cc pc = .ok (.iaload, 1)) (kk : W p l e R s m args below meth c H locs cells slots Q (F0 m (pc + 1) ls (.int (P.2 20 i) :: rest))) : W p l e R s m args below meth c H locs cells slots Q (F0 m pc ls (.int (nI i) :: .ref (a 11) :: rest)) := by
  refine va_iald (D := D) (f := P.2 20) (n := 30) FX.1 FX.2.1 hK.1 hP (11) 0 rfl rfl (vp_in_nI hi (by decide)) hdg ?_
  rw [nI_clamp (by omega)]; exact kk
set_option maxRecDepth 100000 in
theorem ms11 {i : Nat} (hi : i < 30) (FX : CallFix p m c cc nL s args Ts own) (hK : KK D y s) (hP : va_P D vwCl (wM y a P) H) (hA : CA a 26) (hS : va_S (AM a) H0 H locs) (hdg : decode cc pc = .ok (.iastore, 1)) (kk : ∀ (H1 : Heap) (locs1 : List Loc), va_P D vwCl (wM y a (pa P 20 i v)) H1 → va_S (AM a) H0 H1 locs1 → W p l e R s m args below meth c H1 locs1 cells slots Q (F0 m (pc + 1) ls rest)) : W p l e R s m args below meth c H locs cells slots Q (F0 m pc ls (.int v :: .int (nI i) :: .ref (a 11) :: rest)) := by
  refine va_iast (D := D) (f := P.2 20) (n := 30) FX.1 FX.2.1 hK.1 hP (wM_D hA) hS (11) 0 rfl rfl (vp_in_nI hi (by decide)) hdg (fun H1 locs1 hP1 _ hS1 => kk H1 locs1 ?_ hS1)
  rw [nI_clamp (by omega)] at hP1; exact (fun z => z) hP1
theorem ma12 {i : Nat} (hi : i < 30) (FX : CallFix p m c cc nL s args Ts own) (hK : KK D y s) (hP : va_P D vwCl (wM y a P) H) (hdg : decode cc pc = .ok (.iaload, 1)) (kk : W p l e R s m args below meth c H locs cells slots Q (F0 m (pc + 1) ls (.int (P.2 21 i) :: rest))) : W p l e R s m args below meth c H locs cells slots Q (F0 m pc ls (.int (nI i) :: .ref (a 12) :: rest)) := by
  refine va_iald (D := D) (f := P.2 21) (n := 30) FX.1 FX.2.1 hK.1 hP (12) 0 rfl rfl (vp_in_nI hi (by decide)) hdg ?_
  rw [nI_clamp (by omega)]; exact kk
set_option maxRecDepth 100000 in
theorem ms12 {i : Nat} (hi : i < 30) (FX : CallFix p m c cc nL s args Ts own) (hK : KK D y s) (hP : va_P D vwCl (wM y a P) H) (hA : CA a 26) (hS : va_S (AM a) H0 H locs) (hdg : decode cc pc = .ok (.iastore, 1)) (kk : ∀ (H1 : Heap) (locs1 : List Loc), va_P D vwCl (wM y a (pa P 21 i v)) H1 → va_S (AM a) H0 H1 locs1 → W p l e R s m args below meth c H1 locs1 cells slots Q (F0 m (pc + 1) ls rest)) : W p l e R s m args below meth c H locs cells slots Q (F0 m pc ls (.int v :: .int (nI i) :: .ref (a 12) :: rest)) := by
  refine va_iast (D := D) (f := P.2 21) (n := 30) FX.1 FX.2.1 hK.1 hP (wM_D hA) hS (12) 0 rfl rfl (vp_in_nI hi (by decide)) hdg (fun H1 locs1 hP1 _ hS1 => kk H1 locs1 ?_ hS1)
  rw [nI_clamp (by omega)] at hP1; exact (fun z => z) hP1
theorem ma13 {i : Nat} (hi : i < 8) (FX : CallFix p m c cc nL s args Ts own) (hK : KK D y s) (hP : va_P D vwCl (wM y a P) H) (hdg : decode cc pc = .ok (.iaload, 1)) (kk : W p l e R s m args below meth c H locs cells slots Q (F0 m (pc + 1) ls (.int (P.2 22 i) :: rest))) : W p l e R s m args below meth c H locs cells slots Q (F0 m pc ls (.int (nI i) :: .ref (a 13) :: rest)) := by
  refine va_iald (D := D) (f := P.2 22) (n := 8) FX.1 FX.2.1 hK.1 hP (13) 0 rfl rfl (vp_in_nI hi (by decide)) hdg ?_
  rw [nI_clamp (by omega)]; exact kk
set_option maxRecDepth 100000 in
theorem ms13 {i : Nat} (hi : i < 8) (FX : CallFix p m c cc nL s args Ts own) (hK : KK D y s) (hP : va_P D vwCl (wM y a P) H) (hA : CA a 26) (hS : va_S (AM a) H0 H locs) (hdg : decode cc pc = .ok (.iastore, 1)) (kk : ∀ (H1 : Heap) (locs1 : List Loc), va_P D vwCl (wM y a (pa P 22 i v)) H1 → va_S (AM a) H0 H1 locs1 → W p l e R s m args below meth c H1 locs1 cells slots Q (F0 m (pc + 1) ls rest)) : W p l e R s m args below meth c H locs cells slots Q (F0 m pc ls (.int v :: .int (nI i) :: .ref (a 13) :: rest)) := by
  refine va_iast (D := D) (f := P.2 22) (n := 8) FX.1 FX.2.1 hK.1 hP (wM_D hA) hS (13) 0 rfl rfl (vp_in_nI hi (by decide)) hdg (fun H1 locs1 hP1 _ hS1 => kk H1 locs1 ?_ hS1)
  rw [nI_clamp (by omega)] at hP1; exact (fun z => z) hP1
theorem ma14 {i : Nat} (hi : i < 8) (FX : CallFix p m c cc nL s args Ts own) (hK : KK D y s) (hP : va_P D vwCl (wM y a P) H) (hdg : decode cc pc = .ok (.iaload, 1)) (kk : W p l e R s m args below meth c H locs cells slots Q (F0 m (pc + 1) ls (.int (P.2 23 i) :: rest))) : W p l e R s m args below meth c H locs cells slots Q (F0 m pc ls (.int (nI i) :: .ref (a 14) :: rest)) := by
  refine va_iald (D := D) (f := P.2 23) (n := 8) FX.1 FX.2.1 hK.1 hP (14) 0 rfl rfl (vp_in_nI hi (by decide)) hdg ?_
  rw [nI_clamp (by omega)]; exact kk
set_option maxRecDepth 100000 in
theorem ms14 {i : Nat} (hi : i < 8) (FX : CallFix p m c cc nL s args Ts own) (hK : KK D y s) (hP : va_P D vwCl (wM y a P) H) (hA : CA a 26) (hS : va_S (AM a) H0 H locs) (hdg : decode cc pc = .ok (.iastore, 1)) (kk : ∀ (H1 : Heap) (locs1 : List Loc), va_P D vwCl (wM y a (pa P 23 i v)) H1 → va_S (AM a) H0 H1 locs1 → W p l e R s m args below meth c H1 locs1 cells slots Q (F0 m (pc + 1) ls rest)) : W p l e R s m args below meth c H locs cells slots Q (F0 m pc ls (.int v :: .int (nI i) :: .ref (a 14) :: rest)) := by
  refine va_iast (D := D) (f := P.2 23) (n := 8) FX.1 FX.2.1 hK.1 hP (wM_D hA) hS (14) 0 rfl rfl (vp_in_nI hi (by decide)) hdg (fun H1 locs1 hP1 _ hS1 => kk H1 locs1 ?_ hS1)
  rw [nI_clamp (by omega)] at hP1; exact (fun z => z) hP1
theorem ma15 {i : Nat} (hi : i < 8) (FX : CallFix p m c cc nL s args Ts own) (hK : KK D y s) (hP : va_P D vwCl (wM y a P) H) (hdg : decode cc pc = .ok (.iaload, 1)) (kk : W p l e R s m args below meth c H locs cells slots Q (F0 m (pc + 1) ls (.int (P.2 24 i) :: rest))) : W p l e R s m args below meth c H locs cells slots Q (F0 m pc ls (.int (nI i) :: .ref (a 15) :: rest)) := by
  refine va_iald (D := D) (f := P.2 24) (n := 8) FX.1 FX.2.1 hK.1 hP (15) 0 rfl rfl (vp_in_nI hi (by decide)) hdg ?_
  rw [nI_clamp (by omega)]; exact kk
set_option maxRecDepth 100000 in
theorem ms15 {i : Nat} (hi : i < 8) (FX : CallFix p m c cc nL s args Ts own) (hK : KK D y s) (hP : va_P D vwCl (wM y a P) H) (hA : CA a 26) (hS : va_S (AM a) H0 H locs) (hdg : decode cc pc = .ok (.iastore, 1)) (kk : ∀ (H1 : Heap) (locs1 : List Loc), va_P D vwCl (wM y a (pa P 24 i v)) H1 → va_S (AM a) H0 H1 locs1 → W p l e R s m args below meth c H1 locs1 cells slots Q (F0 m (pc + 1) ls rest)) : W p l e R s m args below meth c H locs cells slots Q (F0 m pc ls (.int v :: .int (nI i) :: .ref (a 15) :: rest)) := by
  refine va_iast (D := D) (f := P.2 24) (n := 8) FX.1 FX.2.1 hK.1 hP (wM_D hA) hS (15) 0 rfl rfl (vp_in_nI hi (by decide)) hdg (fun H1 locs1 hP1 _ hS1 => kk H1 locs1 ?_ hS1)
  rw [nI_clamp (by omega)] at hP1; exact (fun z => z) hP1
theorem ma16 {i : Nat} (hi : i < 8) (FX : CallFix p m c cc nL s args Ts own) (hK : KK D y s) (hP : va_P D vwCl (wM y a P) H) (hdg : decode cc pc = .ok (.iaload, 1)) (kk : W p l e R s m args below meth c H locs cells slots Q (F0 m (pc + 1) ls (.int (P.2 25 i) :: rest))) : W p l e R s m args below meth c H locs cells slots Q (F0 m pc ls (.int (nI i) :: .ref (a 16) :: rest)) := by
  refine va_iald (D := D) (f := P.2 25) (n := 8) FX.1 FX.2.1 hK.1 hP (16) 0 rfl rfl (vp_in_nI hi (by decide)) hdg ?_
  rw [nI_clamp (by omega)]; exact kk
set_option maxRecDepth 100000 in
theorem ms16 {i : Nat} (hi : i < 8) (FX : CallFix p m c cc nL s args Ts own) (hK : KK D y s) (hP : va_P D vwCl (wM y a P) H) (hA : CA a 26) (hS : va_S (AM a) H0 H locs) (hdg : decode cc pc = .ok (.iastore, 1)) (kk : ∀ (H1 : Heap) (locs1 : List Loc), va_P D vwCl (wM y a (pa P 25 i v)) H1 → va_S (AM a) H0 H1 locs1 → W p l e R s m args below meth c H1 locs1 cells slots Q (F0 m (pc + 1) ls rest)) : W p l e R s m args below meth c H locs cells slots Q (F0 m pc ls (.int v :: .int (nI i) :: .ref (a 16) :: rest)) := by
  refine va_iast (D := D) (f := P.2 25) (n := 8) FX.1 FX.2.1 hK.1 hP (wM_D hA) hS (16) 0 rfl rfl (vp_in_nI hi (by decide)) hdg (fun H1 locs1 hP1 _ hS1 => kk H1 locs1 ?_ hS1)
  rw [nI_clamp (by omega)] at hP1; exact (fun z => z) hP1
theorem ma17 {i : Nat} (hi : i < 8) (FX : CallFix p m c cc nL s args Ts own) (hK : KK D y s) (hP : va_P D vwCl (wM y a P) H) (hdg : decode cc pc = .ok (.iaload, 1)) (kk : W p l e R s m args below meth c H locs cells slots Q (F0 m (pc + 1) ls (.int (P.2 26 i) :: rest))) : W p l e R s m args below meth c H locs cells slots Q (F0 m pc ls (.int (nI i) :: .ref (a 17) :: rest)) := by
  refine va_iald (D := D) (f := P.2 26) (n := 8) FX.1 FX.2.1 hK.1 hP (17) 0 rfl rfl (vp_in_nI hi (by decide)) hdg ?_
  rw [nI_clamp (by omega)]; exact kk
set_option maxRecDepth 100000 in
theorem ms17 {i : Nat} (hi : i < 8) (FX : CallFix p m c cc nL s args Ts own) (hK : KK D y s) (hP : va_P D vwCl (wM y a P) H) (hA : CA a 26) (hS : va_S (AM a) H0 H locs) (hdg : decode cc pc = .ok (.iastore, 1)) (kk : ∀ (H1 : Heap) (locs1 : List Loc), va_P D vwCl (wM y a (pa P 26 i v)) H1 → va_S (AM a) H0 H1 locs1 → W p l e R s m args below meth c H1 locs1 cells slots Q (F0 m (pc + 1) ls rest)) : W p l e R s m args below meth c H locs cells slots Q (F0 m pc ls (.int v :: .int (nI i) :: .ref (a 17) :: rest)) := by
  refine va_iast (D := D) (f := P.2 26) (n := 8) FX.1 FX.2.1 hK.1 hP (wM_D hA) hS (17) 0 rfl rfl (vp_in_nI hi (by decide)) hdg (fun H1 locs1 hP1 _ hS1 => kk H1 locs1 ?_ hS1)
  rw [nI_clamp (by omega)] at hP1; exact (fun z => z) hP1
theorem ma18 {i : Nat} (hi : i < 8) (FX : CallFix p m c cc nL s args Ts own) (hK : KK D y s) (hP : va_P D vwCl (wM y a P) H) (hdg : decode cc pc = .ok (.iaload, 1)) (kk : W p l e R s m args below meth c H locs cells slots Q (F0 m (pc + 1) ls (.int (P.2 27 i) :: rest))) : W p l e R s m args below meth c H locs cells slots Q (F0 m pc ls (.int (nI i) :: .ref (a 18) :: rest)) := by
  refine va_iald (D := D) (f := P.2 27) (n := 8) FX.1 FX.2.1 hK.1 hP (18) 0 rfl rfl (vp_in_nI hi (by decide)) hdg ?_
  rw [nI_clamp (by omega)]; exact kk
set_option maxRecDepth 100000 in
theorem ms18 {i : Nat} (hi : i < 8) (FX : CallFix p m c cc nL s args Ts own) (hK : KK D y s) (hP : va_P D vwCl (wM y a P) H) (hA : CA a 26) (hS : va_S (AM a) H0 H locs) (hdg : decode cc pc = .ok (.iastore, 1)) (kk : ∀ (H1 : Heap) (locs1 : List Loc), va_P D vwCl (wM y a (pa P 27 i v)) H1 → va_S (AM a) H0 H1 locs1 → W p l e R s m args below meth c H1 locs1 cells slots Q (F0 m (pc + 1) ls rest)) : W p l e R s m args below meth c H locs cells slots Q (F0 m pc ls (.int v :: .int (nI i) :: .ref (a 18) :: rest)) := by
  refine va_iast (D := D) (f := P.2 27) (n := 8) FX.1 FX.2.1 hK.1 hP (wM_D hA) hS (18) 0 rfl rfl (vp_in_nI hi (by decide)) hdg (fun H1 locs1 hP1 _ hS1 => kk H1 locs1 ?_ hS1)
  rw [nI_clamp (by omega)] at hP1; exact (fun z => z) hP1
theorem ma19 {i : Nat} (hi : i < 8) (FX : CallFix p m c cc nL s args Ts own) (hK : KK D y s) (hP : va_P D vwCl (wM y a P) H) (hdg : decode cc pc = .ok (.iaload, 1)) (kk : W p l e R s m args below meth c H locs cells slots Q (F0 m (pc + 1) ls (.int (P.2 9 i) :: rest))) : W p l e R s m args below meth c H locs cells slots Q (F0 m pc ls (.int (nI i) :: .ref (a 19) :: rest)) := by
  refine va_iald (D := D) (f := P.2 9) (n := 8) FX.1 FX.2.1 hK.1 hP (19) 0 rfl rfl (vp_in_nI hi (by decide)) hdg ?_
  rw [nI_clamp (by omega)]; exact kk
set_option maxRecDepth 100000 in
theorem ms19 {i : Nat} (hi : i < 8) (FX : CallFix p m c cc nL s args Ts own) (hK : KK D y s) (hP : va_P D vwCl (wM y a P) H) (hA : CA a 26) (hS : va_S (AM a) H0 H locs) (hdg : decode cc pc = .ok (.iastore, 1)) (kk : ∀ (H1 : Heap) (locs1 : List Loc), va_P D vwCl (wM y a (pa P 9 i v)) H1 → va_S (AM a) H0 H1 locs1 → W p l e R s m args below meth c H1 locs1 cells slots Q (F0 m (pc + 1) ls rest)) : W p l e R s m args below meth c H locs cells slots Q (F0 m pc ls (.int v :: .int (nI i) :: .ref (a 19) :: rest)) := by
  refine va_iast (D := D) (f := P.2 9) (n := 8) FX.1 FX.2.1 hK.1 hP (wM_D hA) hS (19) 0 rfl rfl (vp_in_nI hi (by decide)) hdg (fun H1 locs1 hP1 _ hS1 => kk H1 locs1 ?_ hS1)
  rw [nI_clamp (by omega)] at hP1; exact (fun z => z) hP1
theorem ma20 {i : Nat} (hi : i < 8) (FX : CallFix p m c cc nL s args Ts own) (hK : KK D y s) (hP : va_P D vwCl (wM y a P) H) (hdg : decode cc pc = .ok (.iaload, 1)) (kk : W p l e R s m args below meth c H locs cells slots Q (F0 m (pc + 1) ls (.int (P.2 10 i) :: rest))) : W p l e R s m args below meth c H locs cells slots Q (F0 m pc ls (.int (nI i) :: .ref (a 20) :: rest)) := by
  refine va_iald (D := D) (f := P.2 10) (n := 8) FX.1 FX.2.1 hK.1 hP (20) 0 rfl rfl (vp_in_nI hi (by decide)) hdg ?_
  rw [nI_clamp (by omega)]; exact kk
set_option maxRecDepth 100000 in
theorem ms20 {i : Nat} (hi : i < 8) (FX : CallFix p m c cc nL s args Ts own) (hK : KK D y s) (hP : va_P D vwCl (wM y a P) H) (hA : CA a 26) (hS : va_S (AM a) H0 H locs) (hdg : decode cc pc = .ok (.iastore, 1)) (kk : ∀ (H1 : Heap) (locs1 : List Loc), va_P D vwCl (wM y a (pa P 10 i v)) H1 → va_S (AM a) H0 H1 locs1 → W p l e R s m args below meth c H1 locs1 cells slots Q (F0 m (pc + 1) ls rest)) : W p l e R s m args below meth c H locs cells slots Q (F0 m pc ls (.int v :: .int (nI i) :: .ref (a 20) :: rest)) := by
  refine va_iast (D := D) (f := P.2 10) (n := 8) FX.1 FX.2.1 hK.1 hP (wM_D hA) hS (20) 0 rfl rfl (vp_in_nI hi (by decide)) hdg (fun H1 locs1 hP1 _ hS1 => kk H1 locs1 ?_ hS1)
  rw [nI_clamp (by omega)] at hP1; exact (fun z => z) hP1
theorem ma21 {i : Nat} (hi : i < 8) (FX : CallFix p m c cc nL s args Ts own) (hK : KK D y s) (hP : va_P D vwCl (wM y a P) H) (hdg : decode cc pc = .ok (.iaload, 1)) (kk : W p l e R s m args below meth c H locs cells slots Q (F0 m (pc + 1) ls (.int (P.2 11 i) :: rest))) : W p l e R s m args below meth c H locs cells slots Q (F0 m pc ls (.int (nI i) :: .ref (a 21) :: rest)) := by
  refine va_iald (D := D) (f := P.2 11) (n := 8) FX.1 FX.2.1 hK.1 hP (21) 0 rfl rfl (vp_in_nI hi (by decide)) hdg ?_
  rw [nI_clamp (by omega)]; exact kk
set_option maxRecDepth 100000 in
theorem ms21 {i : Nat} (hi : i < 8) (FX : CallFix p m c cc nL s args Ts own) (hK : KK D y s) (hP : va_P D vwCl (wM y a P) H) (hA : CA a 26) (hS : va_S (AM a) H0 H locs) (hdg : decode cc pc = .ok (.iastore, 1)) (kk : ∀ (H1 : Heap) (locs1 : List Loc), va_P D vwCl (wM y a (pa P 11 i v)) H1 → va_S (AM a) H0 H1 locs1 → W p l e R s m args below meth c H1 locs1 cells slots Q (F0 m (pc + 1) ls rest)) : W p l e R s m args below meth c H locs cells slots Q (F0 m pc ls (.int v :: .int (nI i) :: .ref (a 21) :: rest)) := by
  refine va_iast (D := D) (f := P.2 11) (n := 8) FX.1 FX.2.1 hK.1 hP (wM_D hA) hS (21) 0 rfl rfl (vp_in_nI hi (by decide)) hdg (fun H1 locs1 hP1 _ hS1 => kk H1 locs1 ?_ hS1)
  rw [nI_clamp (by omega)] at hP1; exact (fun z => z) hP1
theorem ma22 {i : Nat} (hi : i < 4) (FX : CallFix p m c cc nL s args Ts own) (hK : KK D y s) (hP : va_P D vwCl (wM y a P) H) (hdg : decode cc pc = .ok (.iaload, 1)) (kk : W p l e R s m args below meth c H locs cells slots Q (F0 m (pc + 1) ls (.int (P.2 13 i) :: rest))) : W p l e R s m args below meth c H locs cells slots Q (F0 m pc ls (.int (nI i) :: .ref (a 22) :: rest)) := by
  refine va_iald (D := D) (f := P.2 13) (n := 4) FX.1 FX.2.1 hK.1 hP (22) 0 rfl rfl (vp_in_nI hi (by decide)) hdg ?_
  rw [nI_clamp (by omega)]; exact kk
set_option maxRecDepth 100000 in
theorem ms22 {i : Nat} (hi : i < 4) (FX : CallFix p m c cc nL s args Ts own) (hK : KK D y s) (hP : va_P D vwCl (wM y a P) H) (hA : CA a 26) (hS : va_S (AM a) H0 H locs) (hdg : decode cc pc = .ok (.iastore, 1)) (kk : ∀ (H1 : Heap) (locs1 : List Loc), va_P D vwCl (wM y a (pa P 13 i v)) H1 → va_S (AM a) H0 H1 locs1 → W p l e R s m args below meth c H1 locs1 cells slots Q (F0 m (pc + 1) ls rest)) : W p l e R s m args below meth c H locs cells slots Q (F0 m pc ls (.int v :: .int (nI i) :: .ref (a 22) :: rest)) := by
  refine va_iast (D := D) (f := P.2 13) (n := 4) FX.1 FX.2.1 hK.1 hP (wM_D hA) hS (22) 0 rfl rfl (vp_in_nI hi (by decide)) hdg (fun H1 locs1 hP1 _ hS1 => kk H1 locs1 ?_ hS1)
  rw [nI_clamp (by omega)] at hP1; exact (fun z => z) hP1
theorem ma23 {i : Nat} (hi : i < 4) (FX : CallFix p m c cc nL s args Ts own) (hK : KK D y s) (hP : va_P D vwCl (wM y a P) H) (hdg : decode cc pc = .ok (.iaload, 1)) (kk : W p l e R s m args below meth c H locs cells slots Q (F0 m (pc + 1) ls (.int (P.2 12 i) :: rest))) : W p l e R s m args below meth c H locs cells slots Q (F0 m pc ls (.int (nI i) :: .ref (a 23) :: rest)) := by
  refine va_iald (D := D) (f := P.2 12) (n := 4) FX.1 FX.2.1 hK.1 hP (23) 0 rfl rfl (vp_in_nI hi (by decide)) hdg ?_
  rw [nI_clamp (by omega)]; exact kk
set_option maxRecDepth 100000 in
theorem ms23 {i : Nat} (hi : i < 4) (FX : CallFix p m c cc nL s args Ts own) (hK : KK D y s) (hP : va_P D vwCl (wM y a P) H) (hA : CA a 26) (hS : va_S (AM a) H0 H locs) (hdg : decode cc pc = .ok (.iastore, 1)) (kk : ∀ (H1 : Heap) (locs1 : List Loc), va_P D vwCl (wM y a (pa P 12 i v)) H1 → va_S (AM a) H0 H1 locs1 → W p l e R s m args below meth c H1 locs1 cells slots Q (F0 m (pc + 1) ls rest)) : W p l e R s m args below meth c H locs cells slots Q (F0 m pc ls (.int v :: .int (nI i) :: .ref (a 23) :: rest)) := by
  refine va_iast (D := D) (f := P.2 12) (n := 4) FX.1 FX.2.1 hK.1 hP (wM_D hA) hS (23) 0 rfl rfl (vp_in_nI hi (by decide)) hdg (fun H1 locs1 hP1 _ hS1 => kk H1 locs1 ?_ hS1)
  rw [nI_clamp (by omega)] at hP1; exact (fun z => z) hP1
theorem ma24 {i : Nat} (hi : i < 400) (FX : CallFix p m c cc nL s args Ts own) (hK : KK D y s) (hP : va_P D vwCl (wM y a P) H) (hdg : decode cc pc = .ok (.iaload, 1)) (kk : W p l e R s m args below meth c H locs cells slots Q (F0 m (pc + 1) ls (.int (P.2 18 i) :: rest))) : W p l e R s m args below meth c H locs cells slots Q (F0 m pc ls (.int (nI i) :: .ref (a 24) :: rest)) := by
  refine va_iald (D := D) (f := P.2 18) (n := 400) FX.1 FX.2.1 hK.1 hP (24) 0 rfl rfl (vp_in_nI hi (by decide)) hdg ?_
  rw [nI_clamp (by omega)]; exact kk
set_option maxRecDepth 100000 in
theorem ms24 {i : Nat} (hi : i < 400) (FX : CallFix p m c cc nL s args Ts own) (hK : KK D y s) (hP : va_P D vwCl (wM y a P) H) (hA : CA a 26) (hS : va_S (AM a) H0 H locs) (hdg : decode cc pc = .ok (.iastore, 1)) (kk : ∀ (H1 : Heap) (locs1 : List Loc), va_P D vwCl (wM y a (pa P 18 i v)) H1 → va_S (AM a) H0 H1 locs1 → W p l e R s m args below meth c H1 locs1 cells slots Q (F0 m (pc + 1) ls rest)) : W p l e R s m args below meth c H locs cells slots Q (F0 m pc ls (.int v :: .int (nI i) :: .ref (a 24) :: rest)) := by
  refine va_iast (D := D) (f := P.2 18) (n := 400) FX.1 FX.2.1 hK.1 hP (wM_D hA) hS (24) 0 rfl rfl (vp_in_nI hi (by decide)) hdg (fun H1 locs1 hP1 _ hS1 => kk H1 locs1 ?_ hS1)
  rw [nI_clamp (by omega)] at hP1; exact (fun z => z) hP1
theorem ma25 {i : Nat} (hi : i < 100) (FX : CallFix p m c cc nL s args Ts own) (hK : KK D y s) (hP : va_P D vwCl (wM y a P) H) (hdg : decode cc pc = .ok (.iaload, 1)) (kk : W p l e R s m args below meth c H locs cells slots Q (F0 m (pc + 1) ls (.int (P.2 28 i) :: rest))) : W p l e R s m args below meth c H locs cells slots Q (F0 m pc ls (.int (nI i) :: .ref (a 25) :: rest)) := by
  refine va_iald (D := D) (f := P.2 28) (n := 100) FX.1 FX.2.1 hK.1 hP (25) 0 rfl rfl (vp_in_nI hi (by decide)) hdg ?_
  rw [nI_clamp (by omega)]; exact kk
set_option maxRecDepth 100000 in
theorem ms25 {i : Nat} (hi : i < 100) (FX : CallFix p m c cc nL s args Ts own) (hK : KK D y s) (hP : va_P D vwCl (wM y a P) H) (hA : CA a 26) (hS : va_S (AM a) H0 H locs) (hdg : decode cc pc = .ok (.iastore, 1)) (kk : ∀ (H1 : Heap) (locs1 : List Loc), va_P D vwCl (wM y a (pa P 28 i v)) H1 → va_S (AM a) H0 H1 locs1 → W p l e R s m args below meth c H1 locs1 cells slots Q (F0 m (pc + 1) ls rest)) : W p l e R s m args below meth c H locs cells slots Q (F0 m pc ls (.int v :: .int (nI i) :: .ref (a 25) :: rest)) := by
  refine va_iast (D := D) (f := P.2 28) (n := 100) FX.1 FX.2.1 hK.1 hP (wM_D hA) hS (25) 0 rfl rfl (vp_in_nI hi (by decide)) hdg (fun H1 locs1 hP1 _ hS1 => kk H1 locs1 ?_ hS1)
  rw [nI_clamp (by omega)] at hP1; exact (fun z => z) hP1
end WROWS
end
section
theorem zz_look : True := trivial
end
