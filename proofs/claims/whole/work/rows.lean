section
-- ===== PART A: goes FIRST, ahead of the names: the tables' words, and 'selects' of the private methods out of them =====
/-- a private method of a class that the tables say can be made, by its rows of tables_1 -/
def lw_okq (q : MethodName × Nat) : Prop := (q.1.cls ≠ "java/lang/invoke/MethodHandle" ∧ q.1.cls ≠ "java/lang/invoke/VarHandle") ∧ Cond.instantiable q.1.cls q.2 ∈ tables_1 ∧ Cond.privateMethod q.1 ∈ tables_1 ∧ Cond.instanceMethod q.1 ∈ tables_1
theorem lw_p0 : lw_okq (⟨"TraderRights", "isTrader", "(I)Z"⟩, 11) := ⟨⟨by decide +kernel, by decide +kernel⟩, List.mem_of_getElem? (i := 16) (by decide +kernel), List.mem_of_getElem? (i := 154) (by decide +kernel), List.mem_of_getElem? (i := 155) (by decide +kernel)⟩
theorem lw_p1 : lw_okq (⟨"TraderRights", "isForbidden", "(II)Z"⟩, 11) := ⟨⟨by decide +kernel, by decide +kernel⟩, List.mem_of_getElem? (i := 16) (by decide +kernel), List.mem_of_getElem? (i := 161) (by decide +kernel), List.mem_of_getElem? (i := 162) (by decide +kernel)⟩
theorem lw_p2 : lw_okq (⟨"TraderRights", "isEnded", "(II)Z"⟩, 11) := ⟨⟨by decide +kernel, by decide +kernel⟩, List.mem_of_getElem? (i := 16) (by decide +kernel), List.mem_of_getElem? (i := 186) (by decide +kernel), List.mem_of_getElem? (i := 187) (by decide +kernel)⟩
theorem lw_p3 : lw_okq (⟨"TraderRights$Suspensions", "isOn", "(II)Z"⟩, 4) := ⟨⟨by decide +kernel, by decide +kernel⟩, List.mem_of_getElem? (i := 78) (by decide +kernel), List.mem_of_getElem? (i := 190) (by decide +kernel), List.mem_of_getElem? (i := 191) (by decide +kernel)⟩
theorem lw_p4 : lw_okq (⟨"TraderRights", "answerForAlive", "(IIII)I"⟩, 11) := ⟨⟨by decide +kernel, by decide +kernel⟩, List.mem_of_getElem? (i := 16) (by decide +kernel), List.mem_of_getElem? (i := 194) (by decide +kernel), List.mem_of_getElem? (i := 195) (by decide +kernel)⟩
theorem lw_p5 : lw_okq (⟨"TraderRights", "aliveOn", "(I)I"⟩, 11) := ⟨⟨by decide +kernel, by decide +kernel⟩, List.mem_of_getElem? (i := 16) (by decide +kernel), List.mem_of_getElem? (i := 198) (by decide +kernel), List.mem_of_getElem? (i := 199) (by decide +kernel)⟩
theorem lw_p6 : lw_okq (⟨"TraderRights", "ownersOf", "(IIII)I"⟩, 11) := ⟨⟨by decide +kernel, by decide +kernel⟩, List.mem_of_getElem? (i := 16) (by decide +kernel), List.mem_of_getElem? (i := 202) (by decide +kernel), List.mem_of_getElem? (i := 203) (by decide +kernel)⟩
theorem lw_p7 : lw_okq (⟨"TraderRights$Rights", "tradersWith", "(III)I"⟩, 6) := ⟨⟨by decide +kernel, by decide +kernel⟩, List.mem_of_getElem? (i := 27) (by decide +kernel), List.mem_of_getElem? (i := 206) (by decide +kernel), List.mem_of_getElem? (i := 207) (by decide +kernel)⟩
theorem lw_p8 : lw_okq (⟨"TraderRights$Rights", "isOnDay", "(II)Z"⟩, 6) := ⟨⟨by decide +kernel, by decide +kernel⟩, List.mem_of_getElem? (i := 27) (by decide +kernel), List.mem_of_getElem? (i := 210) (by decide +kernel), List.mem_of_getElem? (i := 211) (by decide +kernel)⟩
theorem lw_p9 : lw_okq (⟨"TraderRights", "groupsAmong", "(II)I"⟩, 11) := ⟨⟨by decide +kernel, by decide +kernel⟩, List.mem_of_getElem? (i := 16) (by decide +kernel), List.mem_of_getElem? (i := 215) (by decide +kernel), List.mem_of_getElem? (i := 216) (by decide +kernel)⟩
theorem lw_p10 : lw_okq (⟨"TraderRights", "groupsOfAll", "(I)I"⟩, 11) := ⟨⟨by decide +kernel, by decide +kernel⟩, List.mem_of_getElem? (i := 16) (by decide +kernel), List.mem_of_getElem? (i := 219) (by decide +kernel), List.mem_of_getElem? (i := 220) (by decide +kernel)⟩
theorem lw_p11 : lw_okq (⟨"TraderRights", "principalSet", "(I)I"⟩, 11) := ⟨⟨by decide +kernel, by decide +kernel⟩, List.mem_of_getElem? (i := 16) (by decide +kernel), List.mem_of_getElem? (i := 223) (by decide +kernel), List.mem_of_getElem? (i := 224) (by decide +kernel)⟩
theorem lw_p12 : lw_okq (⟨"TraderRights$Mandates", "giversTo", "(IZI)I"⟩, 5) := ⟨⟨by decide +kernel, by decide +kernel⟩, List.mem_of_getElem? (i := 54) (by decide +kernel), List.mem_of_getElem? (i := 227) (by decide +kernel), List.mem_of_getElem? (i := 228) (by decide +kernel)⟩
theorem lw_p13 : lw_okq (⟨"TraderRights", "needsTwo", "(I)Z"⟩, 11) := ⟨⟨by decide +kernel, by decide +kernel⟩, List.mem_of_getElem? (i := 16) (by decide +kernel), List.mem_of_getElem? (i := 236) (by decide +kernel), List.mem_of_getElem? (i := 237) (by decide +kernel)⟩
theorem lw_p14 : lw_okq (⟨"TraderRights$Reader", "read", "(I)I"⟩, 3) := ⟨⟨by decide +kernel, by decide +kernel⟩, List.mem_of_getElem? (i := 98) (by decide +kernel), List.mem_of_getElem? (i := 249) (by decide +kernel), List.mem_of_getElem? (i := 250) (by decide +kernel)⟩
theorem lw_p15 : lw_okq (⟨"TraderRights$Reader", "restart", "()V"⟩, 3) := ⟨⟨by decide +kernel, by decide +kernel⟩, List.mem_of_getElem? (i := 98) (by decide +kernel), List.mem_of_getElem? (i := 253) (by decide +kernel), List.mem_of_getElem? (i := 254) (by decide +kernel)⟩
def lw_privs_1 : List (MethodName × Nat) := [(⟨"TraderRights", "isTrader", "(I)Z"⟩, 11), (⟨"TraderRights", "isForbidden", "(II)Z"⟩, 11), (⟨"TraderRights", "isEnded", "(II)Z"⟩, 11), (⟨"TraderRights$Suspensions", "isOn", "(II)Z"⟩, 4), (⟨"TraderRights", "answerForAlive", "(IIII)I"⟩, 11), (⟨"TraderRights", "aliveOn", "(I)I"⟩, 11), (⟨"TraderRights", "ownersOf", "(IIII)I"⟩, 11), (⟨"TraderRights$Rights", "tradersWith", "(III)I"⟩, 6), (⟨"TraderRights$Rights", "isOnDay", "(II)Z"⟩, 6), (⟨"TraderRights", "groupsAmong", "(II)I"⟩, 11), (⟨"TraderRights", "groupsOfAll", "(I)I"⟩, 11), (⟨"TraderRights", "principalSet", "(I)I"⟩, 11), (⟨"TraderRights$Mandates", "giversTo", "(IZI)I"⟩, 5), (⟨"TraderRights", "needsTwo", "(I)Z"⟩, 11), (⟨"TraderRights$Reader", "read", "(I)I"⟩, 3), (⟨"TraderRights$Reader", "restart", "()V"⟩, 3)]
theorem lw_r1 : ∀ q ∈ lw_privs_1, lw_okq q := List.forall_mem_cons.mpr ⟨lw_p0, List.forall_mem_cons.mpr ⟨lw_p1, List.forall_mem_cons.mpr ⟨lw_p2, List.forall_mem_cons.mpr ⟨lw_p3, List.forall_mem_cons.mpr ⟨lw_p4, List.forall_mem_cons.mpr ⟨lw_p5, List.forall_mem_cons.mpr ⟨lw_p6, List.forall_mem_cons.mpr ⟨lw_p7, List.forall_mem_cons.mpr ⟨lw_p8, List.forall_mem_cons.mpr ⟨lw_p9, List.forall_mem_cons.mpr ⟨lw_p10, List.forall_mem_cons.mpr ⟨lw_p11, List.forall_mem_cons.mpr ⟨lw_p12, List.forall_mem_cons.mpr ⟨lw_p13, List.forall_mem_cons.mpr ⟨lw_p14, List.forall_mem_cons.mpr ⟨lw_p15, fun _ h => absurd h List.not_mem_nil⟩⟩⟩⟩⟩⟩⟩⟩⟩⟩⟩⟩⟩⟩⟩⟩
theorem lw_p16 : lw_okq (⟨"java/lang/Throwable", "fillInStackTrace", "(I)Ljava/lang/Throwable;"⟩, 6) := ⟨⟨by decide +kernel, by decide +kernel⟩, List.mem_of_getElem? (i := 318) (by decide +kernel), List.mem_of_getElem? (i := 316) (by decide +kernel), List.mem_of_getElem? (i := 317) (by decide +kernel)⟩
theorem lw_p17 : lw_okq (⟨"TraderRights$Rights", "append", "(IIIII)V"⟩, 6) := ⟨⟨by decide +kernel, by decide +kernel⟩, List.mem_of_getElem? (i := 27) (by decide +kernel), List.mem_of_getElem? (i := 374) (by decide +kernel), List.mem_of_getElem? (i := 375) (by decide +kernel)⟩
theorem lw_p18 : lw_okq (⟨"TraderRights", "areTwoTraders", "(II)Z"⟩, 11) := ⟨⟨by decide +kernel, by decide +kernel⟩, List.mem_of_getElem? (i := 16) (by decide +kernel), List.mem_of_getElem? (i := 385) (by decide +kernel), List.mem_of_getElem? (i := 386) (by decide +kernel)⟩
theorem lw_p19 : lw_okq (⟨"TraderRights", "everyTrader", "()I"⟩, 11) := ⟨⟨by decide +kernel, by decide +kernel⟩, List.mem_of_getElem? (i := 16) (by decide +kernel), List.mem_of_getElem? (i := 390) (by decide +kernel), List.mem_of_getElem? (i := 391) (by decide +kernel)⟩
theorem lw_p20 : lw_okq (⟨"TraderRights", "isInDeputyPair", "(I)Z"⟩, 11) := ⟨⟨by decide +kernel, by decide +kernel⟩, List.mem_of_getElem? (i := 16) (by decide +kernel), List.mem_of_getElem? (i := 407) (by decide +kernel), List.mem_of_getElem? (i := 408) (by decide +kernel)⟩
theorem lw_p21 : lw_okq (⟨"TraderRights$Mandates", "append", "(IIZI)V"⟩, 5) := ⟨⟨by decide +kernel, by decide +kernel⟩, List.mem_of_getElem? (i := 54) (by decide +kernel), List.mem_of_getElem? (i := 420) (by decide +kernel), List.mem_of_getElem? (i := 421) (by decide +kernel)⟩
theorem lw_p22 : lw_okq (⟨"TraderRights$Suspensions", "append", "(IIZ)V"⟩, 4) := ⟨⟨by decide +kernel, by decide +kernel⟩, List.mem_of_getElem? (i := 78) (by decide +kernel), List.mem_of_getElem? (i := 433) (by decide +kernel), List.mem_of_getElem? (i := 434) (by decide +kernel)⟩
theorem lw_p23 : lw_okq (⟨"TraderRights", "ownActs", "(II)I"⟩, 11) := ⟨⟨by decide +kernel, by decide +kernel⟩, List.mem_of_getElem? (i := 16) (by decide +kernel), List.mem_of_getElem? (i := 472) (by decide +kernel), List.mem_of_getElem? (i := 473) (by decide +kernel)⟩
theorem lw_p24 : lw_okq (⟨"TraderRights$Rights", "actsOf", "(II)I"⟩, 6) := ⟨⟨by decide +kernel, by decide +kernel⟩, List.mem_of_getElem? (i := 27) (by decide +kernel), List.mem_of_getElem? (i := 476) (by decide +kernel), List.mem_of_getElem? (i := 477) (by decide +kernel)⟩
theorem lw_p25 : lw_okq (⟨"TraderRights$Mandates", "sizeOf", "(II)I"⟩, 5) := ⟨⟨by decide +kernel, by decide +kernel⟩, List.mem_of_getElem? (i := 54) (by decide +kernel), List.mem_of_getElem? (i := 481) (by decide +kernel), List.mem_of_getElem? (i := 482) (by decide +kernel)⟩
theorem lw_p26 : lw_okq (⟨"TraderRightsModel", "isTrader", "(I)Z"⟩, 25) := ⟨⟨by decide +kernel, by decide +kernel⟩, List.mem_of_getElem? (i := 485) (by decide +kernel), List.mem_of_getElem? (i := 579) (by decide +kernel), List.mem_of_getElem? (i := 580) (by decide +kernel)⟩
theorem lw_p27 : lw_okq (⟨"TraderRightsModel", "isForbidden", "(II)Z"⟩, 25) := ⟨⟨by decide +kernel, by decide +kernel⟩, List.mem_of_getElem? (i := 485) (by decide +kernel), List.mem_of_getElem? (i := 597) (by decide +kernel), List.mem_of_getElem? (i := 598) (by decide +kernel)⟩
theorem lw_p28 : lw_okq (⟨"TraderRightsModel", "areTwo", "(II)Z"⟩, 25) := ⟨⟨by decide +kernel, by decide +kernel⟩, List.mem_of_getElem? (i := 485) (by decide +kernel), List.mem_of_getElem? (i := 605) (by decide +kernel), List.mem_of_getElem? (i := 606) (by decide +kernel)⟩
theorem lw_p29 : lw_okq (⟨"TraderRightsModel", "reached", "(II)I"⟩, 25) := ⟨⟨by decide +kernel, by decide +kernel⟩, List.mem_of_getElem? (i := 485) (by decide +kernel), List.mem_of_getElem? (i := 612) (by decide +kernel), List.mem_of_getElem? (i := 613) (by decide +kernel)⟩
theorem lw_p30 : lw_okq (⟨"TraderRightsModel", "isAlive", "(II)Z"⟩, 25) := ⟨⟨by decide +kernel, by decide +kernel⟩, List.mem_of_getElem? (i := 485) (by decide +kernel), List.mem_of_getElem? (i := 616) (by decide +kernel), List.mem_of_getElem? (i := 617) (by decide +kernel)⟩
theorem lw_p31 : lw_okq (⟨"TraderRightsModel", "isEnded", "(II)Z"⟩, 25) := ⟨⟨by decide +kernel, by decide +kernel⟩, List.mem_of_getElem? (i := 485) (by decide +kernel), List.mem_of_getElem? (i := 620) (by decide +kernel), List.mem_of_getElem? (i := 621) (by decide +kernel)⟩
def lw_privs_2 : List (MethodName × Nat) := [(⟨"java/lang/Throwable", "fillInStackTrace", "(I)Ljava/lang/Throwable;"⟩, 6), (⟨"TraderRights$Rights", "append", "(IIIII)V"⟩, 6), (⟨"TraderRights", "areTwoTraders", "(II)Z"⟩, 11), (⟨"TraderRights", "everyTrader", "()I"⟩, 11), (⟨"TraderRights", "isInDeputyPair", "(I)Z"⟩, 11), (⟨"TraderRights$Mandates", "append", "(IIZI)V"⟩, 5), (⟨"TraderRights$Suspensions", "append", "(IIZ)V"⟩, 4), (⟨"TraderRights", "ownActs", "(II)I"⟩, 11), (⟨"TraderRights$Rights", "actsOf", "(II)I"⟩, 6), (⟨"TraderRights$Mandates", "sizeOf", "(II)I"⟩, 5), (⟨"TraderRightsModel", "isTrader", "(I)Z"⟩, 25), (⟨"TraderRightsModel", "isForbidden", "(II)Z"⟩, 25), (⟨"TraderRightsModel", "areTwo", "(II)Z"⟩, 25), (⟨"TraderRightsModel", "reached", "(II)I"⟩, 25), (⟨"TraderRightsModel", "isAlive", "(II)Z"⟩, 25), (⟨"TraderRightsModel", "isEnded", "(II)Z"⟩, 25)]
theorem lw_r2 : ∀ q ∈ lw_privs_2, lw_okq q := List.forall_mem_cons.mpr ⟨lw_p16, List.forall_mem_cons.mpr ⟨lw_p17, List.forall_mem_cons.mpr ⟨lw_p18, List.forall_mem_cons.mpr ⟨lw_p19, List.forall_mem_cons.mpr ⟨lw_p20, List.forall_mem_cons.mpr ⟨lw_p21, List.forall_mem_cons.mpr ⟨lw_p22, List.forall_mem_cons.mpr ⟨lw_p23, List.forall_mem_cons.mpr ⟨lw_p24, List.forall_mem_cons.mpr ⟨lw_p25, List.forall_mem_cons.mpr ⟨lw_p26, List.forall_mem_cons.mpr ⟨lw_p27, List.forall_mem_cons.mpr ⟨lw_p28, List.forall_mem_cons.mpr ⟨lw_p29, List.forall_mem_cons.mpr ⟨lw_p30, List.forall_mem_cons.mpr ⟨lw_p31, fun _ h => absurd h List.not_mem_nil⟩⟩⟩⟩⟩⟩⟩⟩⟩⟩⟩⟩⟩⟩⟩⟩
theorem lw_p32 : lw_okq (⟨"TraderRightsModel", "isSuspended", "(II)Z"⟩, 25) := ⟨⟨by decide +kernel, by decide +kernel⟩, List.mem_of_getElem? (i := 485) (by decide +kernel), List.mem_of_getElem? (i := 624) (by decide +kernel), List.mem_of_getElem? (i := 625) (by decide +kernel)⟩
theorem lw_p33 : lw_okq (⟨"TraderRightsModel", "withDeputy", "(I)I"⟩, 25) := ⟨⟨by decide +kernel, by decide +kernel⟩, List.mem_of_getElem? (i := 485) (by decide +kernel), List.mem_of_getElem? (i := 632) (by decide +kernel), List.mem_of_getElem? (i := 633) (by decide +kernel)⟩
theorem lw_p34 : lw_okq (⟨"TraderRightsModel", "answer", "(IIII)I"⟩, 25) := ⟨⟨by decide +kernel, by decide +kernel⟩, List.mem_of_getElem? (i := 485) (by decide +kernel), List.mem_of_getElem? (i := 652) (by decide +kernel), List.mem_of_getElem? (i := 653) (by decide +kernel)⟩
theorem lw_p35 : lw_okq (⟨"TraderRightsModel", "has", "(IIII)Z"⟩, 25) := ⟨⟨by decide +kernel, by decide +kernel⟩, List.mem_of_getElem? (i := 485) (by decide +kernel), List.mem_of_getElem? (i := 656) (by decide +kernel), List.mem_of_getElem? (i := 657) (by decide +kernel)⟩
theorem lw_p36 : lw_okq (⟨"TraderRightsModel", "through", "(IIZIII)I"⟩, 25) := ⟨⟨by decide +kernel, by decide +kernel⟩, List.mem_of_getElem? (i := 485) (by decide +kernel), List.mem_of_getElem? (i := 660) (by decide +kernel), List.mem_of_getElem? (i := 661) (by decide +kernel)⟩
theorem lw_p37 : lw_okq (⟨"TraderRightsModel", "acts", "(II)I"⟩, 25) := ⟨⟨by decide +kernel, by decide +kernel⟩, List.mem_of_getElem? (i := 485) (by decide +kernel), List.mem_of_getElem? (i := 696) (by decide +kernel), List.mem_of_getElem? (i := 697) (by decide +kernel)⟩
theorem lw_p38 : lw_okq (⟨"TraderRightsModel", "standing", "(II)I"⟩, 25) := ⟨⟨by decide +kernel, by decide +kernel⟩, List.mem_of_getElem? (i := 485) (by decide +kernel), List.mem_of_getElem? (i := 700) (by decide +kernel), List.mem_of_getElem? (i := 701) (by decide +kernel)⟩
def lw_privs_3 : List (MethodName × Nat) := [(⟨"TraderRightsModel", "isSuspended", "(II)Z"⟩, 25), (⟨"TraderRightsModel", "withDeputy", "(I)I"⟩, 25), (⟨"TraderRightsModel", "answer", "(IIII)I"⟩, 25), (⟨"TraderRightsModel", "has", "(IIII)Z"⟩, 25), (⟨"TraderRightsModel", "through", "(IIZIII)I"⟩, 25), (⟨"TraderRightsModel", "acts", "(II)I"⟩, 25), (⟨"TraderRightsModel", "standing", "(II)I"⟩, 25)]
theorem lw_r3 : ∀ q ∈ lw_privs_3, lw_okq q := List.forall_mem_cons.mpr ⟨lw_p32, List.forall_mem_cons.mpr ⟨lw_p33, List.forall_mem_cons.mpr ⟨lw_p34, List.forall_mem_cons.mpr ⟨lw_p35, List.forall_mem_cons.mpr ⟨lw_p36, List.forall_mem_cons.mpr ⟨lw_p37, List.forall_mem_cons.mpr ⟨lw_p38, fun _ h => absurd h List.not_mem_nil⟩⟩⟩⟩⟩⟩⟩
def lw_privs : List (MethodName × Nat) := lw_privs_1 ++ (lw_privs_2 ++ (lw_privs_3))
def lw_tbl : List Cond := k2_sels lw_privs ++ tables_1
theorem lw_privs_ok : ∀ q ∈ lw_privs, lw_okq q := by
  show ∀ q ∈ lw_privs_1 ++ (lw_privs_2 ++ (lw_privs_3)), lw_okq q
  exact List.forall_mem_append.mpr ⟨lw_r1, List.forall_mem_append.mpr ⟨lw_r2, lw_r3⟩⟩
end
section
/-! ===== BEGIN words of one list among another's, by their places ===== -/
theorem goodIn_r {big : List Cond} (ws : List Cond) (ps : List Nat) (hp : ws = ps.filterMap (fun i => big[i]?)) (h : ws.all goodWord = true) : GoodIn big ws := by
  intro w hw
  have h1 := List.all_eq_true.mp h w hw
  rw [hp] at hw
  obtain ⟨i, -, hi⟩ := List.mem_filterMap.mp hw
  have hm : w ∈ big := by first | exact List.mem_of_getElem? hi | exact List.getElem?_mem hi
  exact ⟨hm, good_of_word h1⟩
theorem goodIn_app {big a b : List Cond} (ha : GoodIn big a) (hb : GoodIn big b) : GoodIn big (a ++ b) := fun w h => (List.mem_append.mp h).elim (ha w) (hb w)
theorem goodIn_ca {big a b : List Cond} {c : Cond} (ha : GoodIn big (c :: a)) (hb : GoodIn big b) : GoodIn big (c :: (a ++ b)) := fun w h => (List.mem_cons.mp h).elim (fun e => ha w (List.mem_cons.mpr (Or.inl e))) (fun h => (List.mem_append.mp h).elim (fun h => ha w (List.mem_cons.mpr (Or.inr h))) (hb w))
theorem goodIn_sub {big ws : List Cond} (hm : ∀ w ∈ ws, w ∈ big) (h : ws.all goodWord = true) : GoodIn big ws := fun w hw => ⟨hm w hw, good_of_word (List.all_eq_true.mp h w hw)⟩
/-! ===== END ===== -/

/-! ===== BEGIN exceptions that leave a method, and their catching by the caller (launches without stack traces) ===== -/
section VXA
/-! The laws vx_back, vx_callV, vx_callS, vx_callSW, vx_throw0, vx_throwS follow proofs of the library, with one case more: JvmDerived/Free/Laws.lean (Back.of_free), Shelf42/LK1.lean (callV, callS), Shelf/KitTraced.lean (throwNew0V, throwNewS). -/
/-- where a method has thrown q: the class by its name, the cell, what was written, the world -/
def vx_T (XC : String → State → State → Prop) (st : State) (q : Addr) (t : State) (mc ms : Nat) (free : Addr → Prop) : Prop :=
  ∃ (E : String) (ce : Cell) (L : List Loc), XC E st t ∧ t.heap[q]? = some ce ∧ ce.vm = .none ∧ st.vm.findClass E = some ce.cls ∧ st.WarmedH t.vm ∧ st.sameButNew ({ t with vm := st.vm } : State) L mc ms ∧ ∀ z ∈ L, free z.base
def vx_Q (Qc : Array Value → State → Outcome → State → Prop) (XC : String → State → State → Prop) (mc ms : Nat) (free : Addr → Prop) : Array Value → State → Outcome → State → Prop := fun a st o t =>
  (Qc a st o t ∧ ∃ L, FrameEnd st o t L mc ms ∧ ∀ q ∈ L, free q.base) ∨ ∃ q, o = .threw q ∧ vx_T XC st q t mc ms free
/-- a callee that returns or throws -/
def vx_Met (l : Launch) (y : MethodName) (ws : List Cond) (rm : Room) (Pc : Array Value → State → Prop) (Qc : Array Value → State → Outcome → State → Prop) (XC : String → State → State → Prop) (mc ms : Nat) (free : Addr → Prop) : Prop :=
  MetFree l y (headSpec ws rm) Pc (fun _ _ _ _ _ => True) (vx_Q Qc XC mc ms free)
def vx_Post (XC : String → State → State → Prop) (mc ms : Nat) (free : Addr → Prop) : Pt → Array Value → Addr → Pt → Prop := fun A a q B =>
  ∃ (g : JFrame) (mk : MethodId) (t : State) (L : List Loc) (E : String) (ce : Cell), B.U.heap = t.heap ∧ B.U.vm = t.vm ∧ XC E (A.U.calling g mk a) t ∧ t.heap[q]? = some ce ∧ ce.vm = .none ∧ A.U.vm.findClass E = some ce.cls ∧ B.locs = A.locs ++ L ∧ (∀ z ∈ L, free z.base) ∧ B.cells = A.cells + mc ∧ B.slots = A.slots + ms
def vx_Back (l : Launch) (R : Room) (p : Program) (e : Env) (below : List Frame) (s : State) (sargs : Array Value) (y : MethodName) (len W9 : Nat)
    (Pre : Pt → Array Value → Prop) (Post : Pt → Array Value → Option Value → Pt → Prop) (PostX : Pt → Array Value → Addr → Pt → Prop) : Prop :=
  ∀ (m : MethodId) (meth : Method) (c : Code) (A : Pt) (g : JFrame) (ig : Instr) (mk : MethodId) (a : Array Value),
    Stand p l e R s m sargs below meth c A.U A.locs A.cells A.slots → g.method = m → g.locals.size = c.maxLocals → decode c.code g.pc = .ok (ig, len) →
    2 * g.monitorRoom + (g.stack.map fun v => v.category).sum ≤ W9 → A.U.methodNamed? y = some mk → Pre A a →
    (∃ (v : Option Value) (B : Pt), Stand p l e R s m sargs below meth c B.U B.locs B.cells B.slots ∧ Post A a v B ∧
      Steps p.tables e below (doInvoke e (A.U.setTop g) [] mk a).1 (B.U.setTop { g with pc := g.pc + len, stack := v.toList ++ g.stack })) ∨
    (∃ (q : Addr) (B : Pt), Stand p l e R s m sargs below meth c B.U B.locs B.cells B.slots ∧ PostX A a q B ∧
      Steps p.tables e below (doInvoke e (A.U.setTop g) [] mk a).1 ((B.U.setTop g).pushFrame (.throwing q)))
section Payer
variable {l : Launch} {R : Room} {p : Program} {e : Env} {below : List Frame} {s : State} {sargs : Array Value} {y : MethodName} {len W9 : Nat}
theorem vx_back {ws : List Cond} {rm : Room} {Pc : Array Value → State → Prop} {Qc : Array Value → State → Outcome → State → Prop} {XC : String → State → State → Prop} {mc ms : Nat} {free : Addr → Prop} {bytes : ByteArray} {maxL : Nat} {ret : Option FieldType}
    (hM : vx_Met l y ws rm Pc Qc XC mc ms free) (hblind : FrameBlind Pc) (hrc : rm.cells = mc) (hrs : rm.slots = ms)
    (hframes : rm.frames + 1 ≤ R.frames) (hlocals : W9 + (maxL + 11) + rm.locals ≤ R.locals)
    (hws : ∀ w ∈ ws, ∀ a' U, s.WarmedH U.vm → w.before a' U = true) (hcode : Cond.code y bytes maxL ret ∈ ws) (hinit : ∀ a' U, s.WarmedH U.vm → (Cond.initialized y.cls).before a' U = true) :
    vx_Back l R p e below s sargs y len W9 (PreOf R mc ms Pc) (PostOf Qc mc ms free) (vx_Post XC mc ms free) := by
  intro m meth c A g ig mk a X hg hsize hdg hW hn hp
  have h1 : (headSpec ws rm).pre.before a A.U = true := atoms_intro fun w hw => hws w hw _ _ X.warmed
  have h2 : (Cond.code y bytes maxL ret).before a A.U = true := hws _ hcode _ _ X.warmed
  have h3 : (Cond.initialized y.cls).before a A.U = true := hinit _ _ X.warmed
  have h4 : A.cells + (headSpec ws rm).room.cells ≤ R.cells := by rw [show (headSpec ws rm).room.cells = mc from hrc]; exact hp.1
  have h5 : A.slots + (headSpec ws rm).room.slots ≤ R.slots := by rw [show (headSpec ws rm).room.slots = ms from hrs]; exact hp.2.1
  have hPc : Pc a (A.U.calling g mk a) := hblind _ _ _ _ hp.2.2
  obtain ⟨U, Ls, c0, s0⟩ := A
  dsimp only [Pt.U, Pt.locs, Pt.cells, Pt.slots] at h1 h2 h3 h4 h5 X hn hPc ⊢
  obtain ⟨methY, cY, hmY, hcY, -, hlY, -, -, -, -⟩ := Cond.code_spec hn h2
  obtain ⟨kY, hkY, -⟩ := className_of_methodNamed hn
  have hinitY : kY.init = .initialized := Cond.initialized_spec (findClass_of_methodNamed hn) hkY h3
  have h : At U g.method c below := by rw [hg]; exact X.here
  have hlocals9 : W9 + (maxL + 11) + (headSpec ws rm).room.locals ≤ R.locals := hlocals
  have happ : (headSpec ws rm).appliesLoose y e.platform (U.calling g mk a) = true :=
    Spec.appliesLoose_calling (g := g) h hdg hn hkY hinitY
      (X.room_calling (g := g) (R' := (headSpec ws rm).room) hsize hmY hcY hframes (by rw [hlY]; omega) h4 h5) h1
  obtain ⟨mid, hmid⟩ := h.above
  have hfr : (U.setTop g).frames = (.java g :: mid) ++ below := by rw [State.frames_setTop' g h.top, hmid]; rfl
  obtain ⟨o, s₂, hsteps, -, hend, hq⟩ := Steps.callFree hM p X.admits X.cas X.clock (acts := []) hfr happ hPc trivial
  have hq' : vx_Q Qc XC mc ms free a (U.calling g mk a) o s₂ := hq
  rw [State.frames_setTop' g h.top] at hend
  obtain ⟨g₀, hg0⟩ := Option.isSome_iff_exists.mp h.top
  obtain ⟨r, hr⟩ := State.topJava?_eq_some.mp hg0
  have hr' : (({ U with heap := s₂.heap, slotsUsed := s₂.slotsUsed } : State).setVm s₂.vm).frames = .java g₀ :: r := hr
  rcases hq' with ⟨hqc, L, hfe, hL⟩ | ⟨q, rfl, E, ce, L, hx, hce, hcv, hcl, hW₂, hsm, hL⟩
  · obtain ⟨⟨v, rfl⟩, hW₂, e2, q2, q3, q4, q5, q6⟩ := id hfe
    have e3 : s₂ = ({ (U.calling g mk a).setFrames s₂.frames with heap := s₂.heap, slotsUsed := s₂.slotsUsed } : State).setVm s₂.vm := by
      have : s₂ = ({ s₂ with vm := (U.calling g mk a).vm } : State).setVm s₂.vm := rfl
      rw [e2] at this
      exact this
    obtain ⟨c₂, i₂, len₂, hc₂, hd₂, hf₂⟩ := hend
    have hW' : U.WarmedH s₂.vm := hW₂
    have hcc : c₂ = c := by
      have h1 : s₂.code? g.method = U.code? g.method := by
        rw [State.code?_eq, State.code?_eq, hW'.alike.method?]
      exact Option.some.inj (hc₂.symm.trans (h1.trans h.code))
    subst hcc
    have hlen : len₂ = len := by rw [hdg] at hd₂; cases hd₂; rfl
    subst hlen
    have hs₂ : s₂ = (({ U with heap := s₂.heap, slotsUsed := s₂.slotsUsed } : State).setVm s₂.vm).setTop { g with pc := g.pc + len₂, stack := v.toList ++ g.stack } := by
      refine e3.trans ?_
      rw [hf₂, State.calling_eq h.top, State.setFrames_setFrames, State.setTop_of_frames _ hr', hr]
      rfl
    have hsame : U.sameButNew ({ U with heap := s₂.heap, slotsUsed := s₂.slotsUsed } : State) L mc ms := by
      refine ⟨?_, q2, q3, q4, q5, q6⟩
      obtain ⟨t, ht, -⟩ := State.frames_cons hr
      show ({ U with heap := s₂.heap, slotsUsed := s₂.slotsUsed } : State) = { U.setFrames U.frames with heap := s₂.heap, slotsUsed := s₂.slotsUsed }
      rw [State.setFrames_self ht]
    subst hg
    refine Or.inl ⟨v, ⟨(({ U with heap := s₂.heap, slotsUsed := s₂.slotsUsed } : State).setVm s₂.vm), Ls ++ L, c0 + mc, s0 + ms⟩,
      ⟨X.admits, X.cas, X.clock, X.frames, X.room, X.hears, X.method, X.code, (X.here.setHeapUsed s₂.heap s₂.slotsUsed).setVm hW'.alike, X.tail, State.WarmedH.trans X.warmed hW', X.limits, X.bytes, X.same.trans (hsame.setVm s.vm)⟩,
      ⟨g, mk, s₂, L, rfl, rfl, hqc, rfl, hL, rfl, rfl⟩, ?_⟩
    show Steps p.tables e below _ ((({ U with heap := s₂.heap, slotsUsed := s₂.slotsUsed } : State).setVm s₂.vm).setTop { g with pc := g.pc + len₂, stack := v.toList ++ g.stack })
    rw [← hs₂]
    exact hsteps
  · obtain ⟨e2, q2, q3, q4, q5, q6⟩ := id hsm
    have e3 : s₂ = ({ (U.calling g mk a).setFrames s₂.frames with heap := s₂.heap, slotsUsed := s₂.slotsUsed } : State).setVm s₂.vm := by
      have : s₂ = ({ s₂ with vm := (U.calling g mk a).vm } : State).setVm s₂.vm := rfl
      rw [e2] at this
      exact this
    have hf₂ : s₂.frames = .throwing q :: .java g :: U.frames.tail := hend
    have hW' : U.WarmedH s₂.vm := hW₂
    have hs₂ : s₂ = ((({ U with heap := s₂.heap, slotsUsed := s₂.slotsUsed } : State).setVm s₂.vm).setTop g).pushFrame (.throwing q) := by
      refine e3.trans ?_
      rw [hf₂, State.calling_eq h.top, State.setFrames_setFrames, State.pushFrame, State.frames_setTop _ hr', State.setTop_of_frames _ hr', State.setFrames_setFrames, hr]
      rfl
    have hsame : U.sameButNew ({ U with heap := s₂.heap, slotsUsed := s₂.slotsUsed } : State) L mc ms := by
      refine ⟨?_, q2, q3, q4, q5, q6⟩
      obtain ⟨t, ht, -⟩ := State.frames_cons hr
      show ({ U with heap := s₂.heap, slotsUsed := s₂.slotsUsed } : State) = { U.setFrames U.frames with heap := s₂.heap, slotsUsed := s₂.slotsUsed }
      rw [State.setFrames_self ht]
    subst hg
    refine Or.inr ⟨q, ⟨(({ U with heap := s₂.heap, slotsUsed := s₂.slotsUsed } : State).setVm s₂.vm), Ls ++ L, c0 + mc, s0 + ms⟩,
      ⟨X.admits, X.cas, X.clock, X.frames, X.room, X.hears, X.method, X.code, (X.here.setHeapUsed s₂.heap s₂.slotsUsed).setVm hW'.alike, X.tail, State.WarmedH.trans X.warmed hW', X.limits, X.bytes, X.same.trans (hsame.setVm s.vm)⟩,
      ⟨g, mk, s₂, L, E, ce, rfl, rfl, hx, hce, hcv, hcl, rfl, hL, rfl, rfl⟩, ?_⟩
    show Steps p.tables e below _ (((({ U with heap := s₂.heap, slotsUsed := s₂.slotsUsed } : State).setVm s₂.vm).setTop g).pushFrame (.throwing q))
    rw [← hs₂]
    exact hsteps
end Payer
section Calls
variable {p : Program} {l : Launch} {e : Env} {R : Room} {s : State} {m : MethodId} {args : Array Value} {below : List Frame} {meth : Method} {c : Code} {T : State} {locs : List Loc} {cells slots : Nat}
theorem vx_callV (X : Stand p l e R s m args below meth c T locs cells slots) (hexec : p.tables.exec = Jvm.exec) {own C : String} {index : Nat} {y : MethodName} {bytes : ByteArray} {maxL : Nat} {ret : Option FieldType}
    (hown : s.vm.findClass own = some m.cls) (hlink : (Cond.methodLink own index y).before args s = true) (hinst : (Cond.instanceMethod y).before args s = true) (hsel : (Cond.selects C y y).before args s = true)
    (hcode : (Cond.code y bytes maxL ret).before args s = true) (hy : y.cls ≠ "java/lang/invoke/MethodHandle" ∧ y.cls ≠ "java/lang/invoke/VarHandle")
    {W9 : Nat} {Pre : Pt → Array Value → Prop} {Post : Pt → Array Value → Option Value → Pt → Prop} {PostX : Pt → Array Value → Addr → Pt → Prop} (hK : vx_Back l R p e below s args y 3 W9 Pre Post PostX)
    {b : Addr} {cellB : Cell} (hcell : T.heap[b]? = some cellB) (hobj : cellB.vm.isStatics = false) (hcls : s.vm.findClass C = some cellB.cls)
    {g : JFrame} (hg : g.method = m) (hsize : g.locals.size = c.maxLocals) {argsL rest : List Value} (hlen : ∀ sig, parseMethodDescriptor y.desc = some sig → argsL.length = sig.parameters.length)
    (hstack : g.stack = argsL.reverse ++ .ref b :: rest) (hW : 2 * g.monitorRoom + (rest.map fun v => v.category).sum ≤ W9) (hdg : decode c.code g.pc = .ok (.invokevirtual index, 3))
    (hpre : ∀ vm₁, s.WarmedH vm₁ → Pre ⟨T.setVm vm₁, locs, cells, slots⟩ (Value.ref b :: argsL).toArray) :
    (∃ (v : Option Value) (vm₁ : Vm) (B : Pt), s.WarmedH vm₁ ∧ Stand p l e R s m args below meth c B.U B.locs B.cells B.slots ∧ Post ⟨T.setVm vm₁, locs, cells, slots⟩ (Value.ref b :: argsL).toArray v B ∧
      ∀ target, Steps p.tables e below (B.U.setTop { g with pc := g.pc + 3, stack := v.toList ++ rest }) target → Steps p.tables e below (T.setTop g) target) ∨
    (∃ (q : Addr) (vm₁ : Vm) (B : Pt), s.WarmedH vm₁ ∧ Stand p l e R s m args below meth c B.U B.locs B.cells B.slots ∧ PostX ⟨T.setVm vm₁, locs, cells, slots⟩ (Value.ref b :: argsL).toArray q B ∧
      Steps p.tables e below (T.setTop g) ((B.U.setTop { g with stack := rest }).pushFrame (.throwing q))) := by
  obtain ⟨mk, methM, hnamed, hmethM, hstM, habM⟩ := Cond.instanceMethod_spec hinst
  obtain ⟨methM', cM, hmethM', -, -, -, -, -, -, hsigM⟩ := Cond.code_spec hnamed hcode
  cases hmethM.symm.trans hmethM'
  obtain ⟨c2, r2, m2, q1, q2, q3, q4, kP, hkP, hkPi⟩ := Cond.selects_spec hsel
  cases hcls.symm.trans q1
  cases (State.methodFound?_of_named hnamed hy).symm.trans q2
  cases hnamed.symm.trans q3
  have hselP : selectMethod e.platform s.vm cellB.cls mk = .method mk := by rw [Launch.admits_selectMethod X.admits]; exact q4
  obtain ⟨vm₁, X₁, hstep₁⟩ := X.invokevirtual hexec hown hlink hnamed hmethM hstM hkP hkPi hy (a := b) (cell := cellB) hcell
    (fun z h => by rw [h] at hobj; cases hobj) hselP hmethM habM hkP hkPi (g := g) hg (argsL := argsL) (rest := rest) (hlen _ hsigM) hstack hdg
  rcases hK m meth c ⟨T.setVm vm₁, locs, cells, slots⟩ { g with stack := rest } (.invokevirtual index) mk (Value.ref b :: argsL).toArray X₁ hg hsize hdg hW (X₁.named hnamed) (hpre vm₁ X₁.warmed) with ⟨v, B, X', hpost, hsteps⟩ | ⟨q, B, X', hpost, hsteps⟩
  · exact Or.inl ⟨v, vm₁, B, X₁.warmed, X', hpost, fun target h => hstep₁ _ fun acts => by rw [doInvoke_state]; exact hsteps.trans h⟩
  · exact Or.inr ⟨q, vm₁, B, X₁.warmed, X', hpost, hstep₁ _ fun acts => by rw [doInvoke_state]; exact hsteps⟩
theorem vx_callS (X : Stand p l e R s m args below meth c T locs cells slots) (hexec : p.tables.exec = Jvm.exec) {own : String} {index : Nat} {y : MethodName} {bytes : ByteArray} {maxL : Nat} {ret : Option FieldType}
    (hown : s.vm.findClass own = some m.cls) (hlink : (Cond.methodLink own index y).before args s = true) (hstat : (Cond.static y).before args s = true) (hinit : (Cond.initialized y.cls).before args s = true)
    (hcode : (Cond.code y bytes maxL ret).before args s = true) (hy : y.cls ≠ "java/lang/invoke/MethodHandle" ∧ y.cls ≠ "java/lang/invoke/VarHandle")
    {W9 : Nat} {Pre : Pt → Array Value → Prop} {Post : Pt → Array Value → Option Value → Pt → Prop} {PostX : Pt → Array Value → Addr → Pt → Prop} (hK : vx_Back l R p e below s args y 3 W9 Pre Post PostX)
    {g : JFrame} (hg : g.method = m) (hsize : g.locals.size = c.maxLocals) {argsL rest : List Value} (hlen : ∀ sig, parseMethodDescriptor y.desc = some sig → argsL.length = sig.parameters.length)
    (hstack : g.stack = argsL.reverse ++ rest) (hW : 2 * g.monitorRoom + (rest.map fun v => v.category).sum ≤ W9) (hdg : decode c.code g.pc = .ok (.invokestatic index, 3))
    (hpre : ∀ vm₁, s.WarmedH vm₁ → Pre ⟨T.setVm vm₁, locs, cells, slots⟩ argsL.toArray) :
    (∃ (v : Option Value) (vm₁ : Vm) (B : Pt), s.WarmedH vm₁ ∧ Stand p l e R s m args below meth c B.U B.locs B.cells B.slots ∧ Post ⟨T.setVm vm₁, locs, cells, slots⟩ argsL.toArray v B ∧
      ∀ target, Steps p.tables e below (B.U.setTop { g with pc := g.pc + 3, stack := v.toList ++ rest }) target → Steps p.tables e below (T.setTop g) target) ∨
    (∃ (q : Addr) (vm₁ : Vm) (B : Pt), s.WarmedH vm₁ ∧ Stand p l e R s m args below meth c B.U B.locs B.cells B.slots ∧ PostX ⟨T.setVm vm₁, locs, cells, slots⟩ argsL.toArray q B ∧
      Steps p.tables e below (T.setTop g) ((B.U.setTop { g with stack := rest }).pushFrame (.throwing q))) := by
  obtain ⟨mk, hnamed⟩ := Cond.code_named hcode
  obtain ⟨methM, cM, hmethM, -, -, -, -, -, -, hsigM⟩ := Cond.code_spec hnamed hcode
  have hstatic : methM.isStatic = true := Cond.static_spec hnamed hmethM hstat
  obtain ⟨kP, hkP, -⟩ := className_of_methodNamed hnamed
  have hinitP : kP.init = .initialized := Cond.initialized_spec (findClass_of_methodNamed hnamed) hkP hinit
  obtain ⟨vm₁, X₁, hstep₁⟩ := X.invokestatic hexec hown hlink hnamed hmethM hstatic hkP hinitP hy (g := g) hg (argsL := argsL) (rest := rest) (hlen _ hsigM) hstack hdg
  rcases hK m meth c ⟨T.setVm vm₁, locs, cells, slots⟩ { g with stack := rest } (.invokestatic index) mk argsL.toArray X₁ hg hsize hdg hW (X₁.named hnamed) (hpre vm₁ X₁.warmed) with ⟨v, B, X', hpost, hsteps⟩ | ⟨q, B, X', hpost, hsteps⟩
  · exact Or.inl ⟨v, vm₁, B, X₁.warmed, X', hpost, fun target h => hstep₁ _ fun acts => by rw [doInvoke_state]; exact hsteps.trans h⟩
  · exact Or.inr ⟨q, vm₁, B, X₁.warmed, X', hpost, hstep₁ _ fun acts => by rw [doInvoke_state]; exact hsteps⟩
end Calls
theorem vx_cls {s : State} {T : State} {vm₁ : Vm} {E : String} {k : ClassId} (hW : s.WarmedH vm₁) (h : (T.setVm vm₁).vm.findClass E = some k) : s.vm.findClass E = some k := by
  have h1 : vm₁.findClass E = some k := h
  rw [hW.alike.findClass] at h1
  exact h1
/-- the method's frame g, with q thrown over it -/
def vx_W (p : Program) (l : Launch) (e : Env) (R : Room) (s : State) (m : MethodId) (args : Array Value) (below : List Frame) (meth : Method) (c : Code) (H : Heap) (locs : List Loc) (cells slots : Nat) (Q : State → Prop) (g : JFrame) (q : Addr) : Prop :=
  ∀ T : State, T.heap = H → Stand p l e R s m args below meth c T locs cells slots → ∃ t, Steps p.tables e below ((T.setTop g).pushFrame (.throwing q)) t ∧ Q t
def vx_Run (p : Program) (l : Launch) (e : Env) (R : Room) (s : State) (m : MethodId) (args : Array Value) (below : List Frame) (meth : Method) (c : Code) (H : Heap) (locs : List Loc) (cells slots mc ms : Nat) (g : JFrame) (rest : List Value) (Qa : State → Outcome → State → Prop) (XC : String → State → State → Prop) (free : Addr → Prop) : Prop :=
  ∀ T : State, T.heap = H → Stand p l e R s m args below meth c T locs cells slots →
    (∃ (v : Option Value) (st₀ t T' : State) (L : List Loc), st₀.heap = H ∧ Stand p l e R s m args below meth c T' (locs ++ L) (cells + mc) (slots + ms) ∧ (∀ q ∈ L, free q.base) ∧ T'.heap = t.heap ∧ T'.vm = t.vm ∧ Qa st₀ (.returned v) t ∧
      Goes p e below T g T' { g with pc := g.pc + 3, stack := v.toList ++ rest }) ∨
    (∃ (q : Addr) (st₀ t T' : State) (L : List Loc) (E : String) (ce : Cell), st₀.heap = H ∧ Stand p l e R s m args below meth c T' (locs ++ L) (cells + mc) (slots + ms) ∧ (∀ z ∈ L, free z.base) ∧ T'.heap = t.heap ∧ T'.vm = t.vm ∧ XC E st₀ t ∧ t.heap[q]? = some ce ∧ ce.vm = .none ∧ s.vm.findClass E = some ce.cls ∧
      Steps p.tables e below (T.setTop g) ((T'.setTop { g with stack := rest }).pushFrame (.throwing q)))
def vx_X {S : Type} (px : S → Prop) (B : String → S → State → Prop) (A : Nat → Prop) : String → State → State → Prop := fun E st t => ∃ u : S, px u ∧ B E u t ∧ va_F A st t
section Runs
variable {p : Program} {l : Launch} {e : Env} {R : Room} {s : State} {m : MethodId} {args : Array Value} {below : List Frame} {meth : Method} {c : Code} {H : Heap} {locs : List Loc} {cells slots : Nat}
variable {y : MethodName} {bytes cc : ByteArray} {maxL nL mc ms n index : Nat} {ret : Option FieldType} {ws : List Cond} {rm : Room} {Pc : Array Value → State → Prop} {Qc : Array Value → State → Outcome → State → Prop} {XC : String → State → State → Prop} {free : Addr → Prop} {Ts : List Cond} {own C : String} {b : Addr} {As rest : List Value} {g : JFrame}
theorem vx_callBack (cb : CallB R s args own index y bytes maxL ret ws rm mc ms n) (hM : vx_Met l y ws rm Pc Qc XC mc ms free) (hbl : FrameBlind Pc) : vx_Back l R p e below s args y 3 8 (PreOf R mc ms Pc) (PostOf Qc mc ms free) (vx_Post XC mc ms free) := by
  obtain ⟨hrc, hrs, hfr, hlo, hws, hcw, -, hini, -⟩ := cb
  exact vx_back (bytes := bytes) (maxL := maxL) (ret := ret) hM hbl hrc hrs hfr hlo hws hcw (fun a' U hW => word_at hW (Or.inl (by first | rfl | simp [Cond.onTables, Cond.keeps, Cond.steady])) hini)
theorem vx_runV (S : CallFix p m c cc nL s args Ts own) (hM : vx_Met l y ws rm Pc Qc XC mc ms free) (cw : CallW R s args own C index y bytes maxL ret ws rm mc ms n) (hp : PreV s H C b Pc As)
    (hg : g.method = m) (hn : As.length = n) (hsize : g.locals.size = nL) (hstack : g.stack = As.reverse ++ .ref b :: rest) (hW : 2 * g.monitorRoom + (rest.map fun v => v.category).sum ≤ 8) (hdg : decode cc g.pc = .ok (.invokevirtual index, 3)) (hf : cells + mc ≤ R.cells ∧ slots + ms ≤ R.slots) :
    vx_Run p l e R s m args below meth c H locs cells slots mc ms g rest (Qc (Value.ref b :: As).toArray) XC free := by
  have hK : vx_Back l R p e below s args y 3 8 (PreOf R mc ms Pc) (PostOf Qc mc ms free) (vx_Post XC mc ms free) := vx_callBack cw.1 hM hp.1
  obtain ⟨⟨-, -, -, -, -, -, hcode, -, hy, hlen, hl⟩, hin, hse⟩ := cw
  obtain ⟨hx, hb, hml, ho, -⟩ := S
  obtain ⟨-, ⟨cellB, hcB, hoB, hclB⟩, hPc⟩ := hp
  intro T hT X
  rcases vx_callV X hx (C := C) (bytes := bytes) (maxL := maxL) (ret := ret) ho hl hin hse hcode hy hK (by rw [hT]; exact hcB) hoB hclB hg (hsize.trans hml.symm) (argsL := As) (rest := rest) (fun sig h => hn.trans (hlen sig h)) hstack hW (by rw [hb]; exact hdg)
    (fun vm₁ hW₁ => ⟨hf.1, hf.2, hPc (T.setVm vm₁) hT hW₁⟩) with ⟨v, vm₁, ⟨U', l2, c2, s2⟩, hW₁, X', ⟨g', mk, t, L, e1, e2, hq, h1, hL, h2, h3⟩, st⟩ | ⟨q, vm₁, ⟨U', l2, c2, s2⟩, hW₁, X', ⟨g', mk, t, L, E, ce, e1, e2, hq, hce, hcv, hcl, h1, hL, h2, h3⟩, st⟩
  · dsimp only [Pt.U, Pt.locs, Pt.cells, Pt.slots] at X' e1 e2 h1 h2 h3 st
    subst h1; subst h2; subst h3
    exact Or.inl ⟨v, (T.setVm vm₁).calling g' mk (Value.ref b :: As).toArray, t, U', L, hT, X', hL, e1, e2, hq, st⟩
  · dsimp only [Pt.U, Pt.locs, Pt.cells, Pt.slots] at X' e1 e2 h1 h2 h3 st hcl
    subst h1; subst h2; subst h3
    exact Or.inr ⟨q, (T.setVm vm₁).calling g' mk (Value.ref b :: As).toArray, t, U', L, E, ce, hT, X', hL, e1, e2, hq, hce, hcv, vx_cls hW₁ hcl, st⟩
theorem vx_runS (S : CallFix p m c cc nL s args Ts own) (hM : vx_Met l y ws rm Pc Qc XC mc ms free) (cw : CallB R s args own index y bytes maxL ret ws rm mc ms n ∧ (Cond.static y).before args s = true) (hp : PreS s H Pc As)
    (hg : g.method = m) (hn : As.length = n) (hsize : g.locals.size = nL) (hstack : g.stack = As.reverse ++ rest) (hW : 2 * g.monitorRoom + (rest.map fun v => v.category).sum ≤ 8) (hdg : decode cc g.pc = .ok (.invokestatic index, 3)) (hf : cells + mc ≤ R.cells ∧ slots + ms ≤ R.slots) :
    vx_Run p l e R s m args below meth c H locs cells slots mc ms g rest (Qc As.toArray) XC free := by
  have hK : vx_Back l R p e below s args y 3 8 (PreOf R mc ms Pc) (PostOf Qc mc ms free) (vx_Post XC mc ms free) := vx_callBack cw.1 hM hp.1
  obtain ⟨⟨-, -, -, -, -, -, hcode, hini, hy, hlen, hl⟩, hstt⟩ := cw
  obtain ⟨hx, hb, hml, ho, -⟩ := S
  intro T hT X
  rcases vx_callS X hx (bytes := bytes) (maxL := maxL) (ret := ret) ho hl hstt hini hcode hy hK hg (hsize.trans hml.symm) (argsL := As) (rest := rest) (fun sig h => hn.trans (hlen sig h)) hstack hW (by rw [hb]; exact hdg)
    (fun vm₁ hW₁ => ⟨hf.1, hf.2, hp.2 (T.setVm vm₁) hT hW₁⟩) with ⟨v, vm₁, ⟨U', l2, c2, s2⟩, hW₁, X', ⟨g', mk, t, L, e1, e2, hq, h1, hL, h2, h3⟩, st⟩ | ⟨q, vm₁, ⟨U', l2, c2, s2⟩, hW₁, X', ⟨g', mk, t, L, E, ce, e1, e2, hq, hce, hcv, hcl, h1, hL, h2, h3⟩, st⟩
  · dsimp only [Pt.U, Pt.locs, Pt.cells, Pt.slots] at X' e1 e2 h1 h2 h3 st
    subst h1; subst h2; subst h3
    exact Or.inl ⟨v, (T.setVm vm₁).calling g' mk As.toArray, t, U', L, hT, X', hL, e1, e2, hq, st⟩
  · dsimp only [Pt.U, Pt.locs, Pt.cells, Pt.slots] at X' e1 e2 h1 h2 h3 st hcl
    subst h1; subst h2; subst h3
    exact Or.inr ⟨q, (T.setVm vm₁).calling g' mk As.toArray, t, U', L, E, ce, hT, X', hL, e1, e2, hq, hce, hcv, vx_cls hW₁ hcl, st⟩
end Runs
section Rows
variable {p : Program} {l : Launch} {e : Env} {R : Room} {s : State} {m : MethodId} {args : Array Value} {below : List Frame} {meth : Method} {c : Code} {H : Heap} {locs : List Loc} {cells slots : Nat} {Q : State → Prop}
variable {mc ms : Nat} {free : Addr → Prop} {A0 A1 : Nat → Prop} {H0 : Heap} {a : Array Value} {pc : Nat} {ls : Array Slot} {st0 rest : List Value}
theorem vx_keep {st₀ t T' : State} {L : List Loc} (h0 : st₀.heap = H) (e1 : T'.heap = t.heap) (hS : va_S A0 H0 H locs) (hA : ∀ q, q < H.size → A1 q → A0 q) (hf : ∀ q, free q → A0 q) (hL : ∀ q ∈ L, free q.base) (hF : va_F A1 st₀ t) :
    H.size ≤ T'.heap.size ∧ (∀ q : Nat, q < H.size → ¬ A1 q → T'.heap[q]? = H[q]?) ∧ va_S A0 H0 T'.heap (locs ++ L) := by
  obtain ⟨hz, hk⟩ := hF
  rw [h0] at hz hk
  exact ⟨by rw [e1]; exact hz, fun q h1 h2 => by rw [e1]; exact hk q h1 h2,
    ⟨Nat.le_trans hS.1 (by rw [e1]; exact hz), fun q h1 h2 => by rw [e1, hk q (Nat.lt_of_lt_of_le h1 hS.1) (fun z => h2 (hA q (Nat.lt_of_lt_of_le h1 hS.1) z))]; exact hS.2.1 q h1 h2, fun q hq => by
      rcases List.mem_append.mp hq with h | h
      · exact hS.2.2 q h
      · exact hf _ (hL q h)⟩⟩
theorem vx_calli {S SX : Type} {post : Int32 → S → Prop} {px : SX → Prop} {B : S → State → Prop} {BX : String → SX → State → Prop} {AX : Nat → Prop} (hr : vx_Run p l e R s m args below meth c H locs cells slots mc ms (F0 m pc ls st0) rest (va_Qi post B A1 a) (vx_X px BX AX) free) (hS : va_S A0 H0 H locs) (hA : ∀ q, q < H.size → A1 q → A0 q) (hf : ∀ q, free q → A0 q) (hAX : ∀ q, q < H.size → AX q → A0 q)
    (kx : ∀ (E : String) (ce : Cell) (q9 : Addr) (u : SX) (t : State) (H1 : Heap) (locs1 : List Loc), t.heap = H1 → s.vm.Alike t.vm → px u → BX E u t → H.size ≤ H1.size → (∀ q : Nat, q < H.size → ¬ AX q → H1[q]? = H[q]?) → va_S A0 H0 H1 locs1 → H1[q9]? = some ce → ce.vm = .none → s.vm.findClass E = some ce.cls → vx_W p l e R s m args below meth c H1 locs1 (cells + mc) (slots + ms) Q (F0 m pc ls rest) q9)
    (kk : ∀ (r : Int32) (u : S) (t : State) (H1 : Heap) (locs1 : List Loc), t.heap = H1 → s.vm.Alike t.vm → post r u → B u t → H.size ≤ H1.size → (∀ q : Nat, q < H.size → ¬ A1 q → H1[q]? = H[q]?) → va_S A0 H0 H1 locs1 → W p l e R s m args below meth c H1 locs1 (cells + mc) (slots + ms) Q (F0 m (pc + 3) ls (.int r :: rest))) : W p l e R s m args below meth c H locs cells slots Q (F0 m pc ls st0) := by
  intro T hT X
  rcases hr T hT X with ⟨v, st₀, t, T', L, h0, X', hL, e1, e2, ⟨⟨r, u, hv, hp, hb⟩, hF⟩, st⟩ | ⟨q, st₀, t, T', L, E, ce, h0, X', hL, e1, e2, ⟨u, hp, hb, hF⟩, hce, hcv, hcl, st⟩
  · cases hv
    obtain ⟨k1, k2, k3⟩ := vx_keep h0 e1 hS hA hf hL hF
    obtain ⟨t2, a1, b1⟩ := kk r u t T'.heap (locs ++ L) e1.symm (by rw [← e2]; exact X'.warmed.alike) hp hb k1 k2 k3 T' rfl X'
    exact ⟨t2, st t2 a1, b1⟩
  · obtain ⟨k1, k2, k3⟩ := vx_keep h0 e1 hS hAX hf hL hF
    obtain ⟨t2, a1, b1⟩ := kx E ce q u t T'.heap (locs ++ L) e1.symm (by rw [← e2]; exact X'.warmed.alike) hp hb k1 k2 k3 (by rw [e1]; exact hce) hcv hcl T' rfl X'
    exact ⟨t2, st.trans a1, b1⟩
theorem vx_calll {S SX : Type} {post : Int64 → S → Prop} {px : SX → Prop} {B : S → State → Prop} {BX : String → SX → State → Prop} {AX : Nat → Prop} (hr : vx_Run p l e R s m args below meth c H locs cells slots mc ms (F0 m pc ls st0) rest (va_Ql post B A1 a) (vx_X px BX AX) free) (hS : va_S A0 H0 H locs) (hA : ∀ q, q < H.size → A1 q → A0 q) (hf : ∀ q, free q → A0 q) (hAX : ∀ q, q < H.size → AX q → A0 q)
    (kx : ∀ (E : String) (ce : Cell) (q9 : Addr) (u : SX) (t : State) (H1 : Heap) (locs1 : List Loc), t.heap = H1 → s.vm.Alike t.vm → px u → BX E u t → H.size ≤ H1.size → (∀ q : Nat, q < H.size → ¬ AX q → H1[q]? = H[q]?) → va_S A0 H0 H1 locs1 → H1[q9]? = some ce → ce.vm = .none → s.vm.findClass E = some ce.cls → vx_W p l e R s m args below meth c H1 locs1 (cells + mc) (slots + ms) Q (F0 m pc ls rest) q9)
    (kk : ∀ (r : Int64) (u : S) (t : State) (H1 : Heap) (locs1 : List Loc), t.heap = H1 → s.vm.Alike t.vm → post r u → B u t → H.size ≤ H1.size → (∀ q : Nat, q < H.size → ¬ A1 q → H1[q]? = H[q]?) → va_S A0 H0 H1 locs1 → W p l e R s m args below meth c H1 locs1 (cells + mc) (slots + ms) Q (F0 m (pc + 3) ls (.long r :: rest))) : W p l e R s m args below meth c H locs cells slots Q (F0 m pc ls st0) := by
  intro T hT X
  rcases hr T hT X with ⟨v, st₀, t, T', L, h0, X', hL, e1, e2, ⟨⟨r, u, hv, hp, hb⟩, hF⟩, st⟩ | ⟨q, st₀, t, T', L, E, ce, h0, X', hL, e1, e2, ⟨u, hp, hb, hF⟩, hce, hcv, hcl, st⟩
  · cases hv
    obtain ⟨k1, k2, k3⟩ := vx_keep h0 e1 hS hA hf hL hF
    obtain ⟨t2, a1, b1⟩ := kk r u t T'.heap (locs ++ L) e1.symm (by rw [← e2]; exact X'.warmed.alike) hp hb k1 k2 k3 T' rfl X'
    exact ⟨t2, st t2 a1, b1⟩
  · obtain ⟨k1, k2, k3⟩ := vx_keep h0 e1 hS hAX hf hL hF
    obtain ⟨t2, a1, b1⟩ := kx E ce q u t T'.heap (locs ++ L) e1.symm (by rw [← e2]; exact X'.warmed.alike) hp hb k1 k2 k3 (by rw [e1]; exact hce) hcv hcl T' rfl X'
    exact ⟨t2, st.trans a1, b1⟩
theorem vx_callf {S SX : Type} {post : UInt32 → S → Prop} {px : SX → Prop} {B : S → State → Prop} {BX : String → SX → State → Prop} {AX : Nat → Prop} (hr : vx_Run p l e R s m args below meth c H locs cells slots mc ms (F0 m pc ls st0) rest (va_Qf post B A1 a) (vx_X px BX AX) free) (hS : va_S A0 H0 H locs) (hA : ∀ q, q < H.size → A1 q → A0 q) (hf : ∀ q, free q → A0 q) (hAX : ∀ q, q < H.size → AX q → A0 q)
    (kx : ∀ (E : String) (ce : Cell) (q9 : Addr) (u : SX) (t : State) (H1 : Heap) (locs1 : List Loc), t.heap = H1 → s.vm.Alike t.vm → px u → BX E u t → H.size ≤ H1.size → (∀ q : Nat, q < H.size → ¬ AX q → H1[q]? = H[q]?) → va_S A0 H0 H1 locs1 → H1[q9]? = some ce → ce.vm = .none → s.vm.findClass E = some ce.cls → vx_W p l e R s m args below meth c H1 locs1 (cells + mc) (slots + ms) Q (F0 m pc ls rest) q9)
    (kk : ∀ (r : UInt32) (u : S) (t : State) (H1 : Heap) (locs1 : List Loc), t.heap = H1 → s.vm.Alike t.vm → post r u → B u t → H.size ≤ H1.size → (∀ q : Nat, q < H.size → ¬ A1 q → H1[q]? = H[q]?) → va_S A0 H0 H1 locs1 → W p l e R s m args below meth c H1 locs1 (cells + mc) (slots + ms) Q (F0 m (pc + 3) ls (.float r :: rest))) : W p l e R s m args below meth c H locs cells slots Q (F0 m pc ls st0) := by
  intro T hT X
  rcases hr T hT X with ⟨v, st₀, t, T', L, h0, X', hL, e1, e2, ⟨⟨r, u, hv, hp, hb⟩, hF⟩, st⟩ | ⟨q, st₀, t, T', L, E, ce, h0, X', hL, e1, e2, ⟨u, hp, hb, hF⟩, hce, hcv, hcl, st⟩
  · cases hv
    obtain ⟨k1, k2, k3⟩ := vx_keep h0 e1 hS hA hf hL hF
    obtain ⟨t2, a1, b1⟩ := kk r u t T'.heap (locs ++ L) e1.symm (by rw [← e2]; exact X'.warmed.alike) hp hb k1 k2 k3 T' rfl X'
    exact ⟨t2, st t2 a1, b1⟩
  · obtain ⟨k1, k2, k3⟩ := vx_keep h0 e1 hS hAX hf hL hF
    obtain ⟨t2, a1, b1⟩ := kx E ce q u t T'.heap (locs ++ L) e1.symm (by rw [← e2]; exact X'.warmed.alike) hp hb k1 k2 k3 (by rw [e1]; exact hce) hcv hcl T' rfl X'
    exact ⟨t2, st.trans a1, b1⟩
theorem vx_calld {S SX : Type} {post : UInt64 → S → Prop} {px : SX → Prop} {B : S → State → Prop} {BX : String → SX → State → Prop} {AX : Nat → Prop} (hr : vx_Run p l e R s m args below meth c H locs cells slots mc ms (F0 m pc ls st0) rest (va_Qd post B A1 a) (vx_X px BX AX) free) (hS : va_S A0 H0 H locs) (hA : ∀ q, q < H.size → A1 q → A0 q) (hf : ∀ q, free q → A0 q) (hAX : ∀ q, q < H.size → AX q → A0 q)
    (kx : ∀ (E : String) (ce : Cell) (q9 : Addr) (u : SX) (t : State) (H1 : Heap) (locs1 : List Loc), t.heap = H1 → s.vm.Alike t.vm → px u → BX E u t → H.size ≤ H1.size → (∀ q : Nat, q < H.size → ¬ AX q → H1[q]? = H[q]?) → va_S A0 H0 H1 locs1 → H1[q9]? = some ce → ce.vm = .none → s.vm.findClass E = some ce.cls → vx_W p l e R s m args below meth c H1 locs1 (cells + mc) (slots + ms) Q (F0 m pc ls rest) q9)
    (kk : ∀ (r : UInt64) (u : S) (t : State) (H1 : Heap) (locs1 : List Loc), t.heap = H1 → s.vm.Alike t.vm → post r u → B u t → H.size ≤ H1.size → (∀ q : Nat, q < H.size → ¬ A1 q → H1[q]? = H[q]?) → va_S A0 H0 H1 locs1 → W p l e R s m args below meth c H1 locs1 (cells + mc) (slots + ms) Q (F0 m (pc + 3) ls (.double r :: rest))) : W p l e R s m args below meth c H locs cells slots Q (F0 m pc ls st0) := by
  intro T hT X
  rcases hr T hT X with ⟨v, st₀, t, T', L, h0, X', hL, e1, e2, ⟨⟨r, u, hv, hp, hb⟩, hF⟩, st⟩ | ⟨q, st₀, t, T', L, E, ce, h0, X', hL, e1, e2, ⟨u, hp, hb, hF⟩, hce, hcv, hcl, st⟩
  · cases hv
    obtain ⟨k1, k2, k3⟩ := vx_keep h0 e1 hS hA hf hL hF
    obtain ⟨t2, a1, b1⟩ := kk r u t T'.heap (locs ++ L) e1.symm (by rw [← e2]; exact X'.warmed.alike) hp hb k1 k2 k3 T' rfl X'
    exact ⟨t2, st t2 a1, b1⟩
  · obtain ⟨k1, k2, k3⟩ := vx_keep h0 e1 hS hAX hf hL hF
    obtain ⟨t2, a1, b1⟩ := kx E ce q u t T'.heap (locs ++ L) e1.symm (by rw [← e2]; exact X'.warmed.alike) hp hb k1 k2 k3 (by rw [e1]; exact hce) hcv hcl T' rfl X'
    exact ⟨t2, st.trans a1, b1⟩
theorem vx_callv {S SX : Type} {post : S → Prop} {px : SX → Prop} {B : S → State → Prop} {BX : String → SX → State → Prop} {AX : Nat → Prop} (hr : vx_Run p l e R s m args below meth c H locs cells slots mc ms (F0 m pc ls st0) rest (va_Qv post B A1 a) (vx_X px BX AX) free) (hS : va_S A0 H0 H locs) (hA : ∀ q, q < H.size → A1 q → A0 q) (hf : ∀ q, free q → A0 q) (hAX : ∀ q, q < H.size → AX q → A0 q)
    (kx : ∀ (E : String) (ce : Cell) (q9 : Addr) (u : SX) (t : State) (H1 : Heap) (locs1 : List Loc), t.heap = H1 → s.vm.Alike t.vm → px u → BX E u t → H.size ≤ H1.size → (∀ q : Nat, q < H.size → ¬ AX q → H1[q]? = H[q]?) → va_S A0 H0 H1 locs1 → H1[q9]? = some ce → ce.vm = .none → s.vm.findClass E = some ce.cls → vx_W p l e R s m args below meth c H1 locs1 (cells + mc) (slots + ms) Q (F0 m pc ls rest) q9)
    (kk : ∀ (u : S) (t : State) (H1 : Heap) (locs1 : List Loc), t.heap = H1 → s.vm.Alike t.vm → post u → B u t → H.size ≤ H1.size → (∀ q : Nat, q < H.size → ¬ A1 q → H1[q]? = H[q]?) → va_S A0 H0 H1 locs1 → W p l e R s m args below meth c H1 locs1 (cells + mc) (slots + ms) Q (F0 m (pc + 3) ls (rest))) : W p l e R s m args below meth c H locs cells slots Q (F0 m pc ls st0) := by
  intro T hT X
  rcases hr T hT X with ⟨v, st₀, t, T', L, h0, X', hL, e1, e2, ⟨⟨u, hv, hp, hb⟩, hF⟩, st⟩ | ⟨q, st₀, t, T', L, E, ce, h0, X', hL, e1, e2, ⟨u, hp, hb, hF⟩, hce, hcv, hcl, st⟩
  · cases hv
    obtain ⟨k1, k2, k3⟩ := vx_keep h0 e1 hS hA hf hL hF
    obtain ⟨t2, a1, b1⟩ := kk u t T'.heap (locs ++ L) e1.symm (by rw [← e2]; exact X'.warmed.alike) hp hb k1 k2 k3 T' rfl X'
    exact ⟨t2, st t2 a1, b1⟩
  · obtain ⟨k1, k2, k3⟩ := vx_keep h0 e1 hS hAX hf hL hF
    obtain ⟨t2, a1, b1⟩ := kx E ce q u t T'.heap (locs ++ L) e1.symm (by rw [← e2]; exact X'.warmed.alike) hp hb k1 k2 k3 (by rw [e1]; exact hce) hcv hcl T' rfl X'
    exact ⟨t2, st.trans a1, b1⟩
end Rows
section Ends
variable {p : Program} {l : Launch} {e : Env} {R : Room} {s : State} {m : MethodId} {args : Array Value} {below : List Frame} {meth : Method} {c : Code} {H : Heap} {locs : List Loc} {cells slots : Nat} {Q : State → Prop}
variable {mc ms : Nat} {free : Addr → Prop} {A0 A1 : Nat → Prop} {H0 : Heap} {a : Array Value} {ls : Array Slot} {st0 rest : List Value}
variable {Qc : Array Value → State → Outcome → State → Prop} {XC : String → State → State → Prop}
/-- what a body that may throw owes at its end -/
def vx_MQ (below : List Frame) (Qc : Array Value → State → Outcome → State → Prop) (XC : String → State → State → Prop) (a : Array Value) (s : State) (mc ms : Nat) (free : Addr → Prop) : State → Prop := fun t =>
  ∃ o, t.status = .running ∧ Ended t below o ∧ vx_Q Qc XC mc ms free a s o t
theorem vx_ret {g : JFrame} {mc ms : Nat} (k : W p l e R s m args below meth c H locs cells slots (MQ below Qc args s mc ms free) g) : W p l e R s m args below meth c H locs cells slots (vx_MQ below Qc XC args s mc ms free) g := by
  intro T hT X
  obtain ⟨t, a1, o, b1, b2, b3, b4⟩ := k T hT X
  exact ⟨t, a1, o, b1, b2, Or.inl ⟨b3, b4⟩⟩
/-- not caught here: it goes on to the caller -/
theorem vx_widen {g : JFrame} {q : Addr} {k n : Nat} (h1 : cells ≤ k) (h2 : slots ≤ n) (kk : vx_W p l e R s m args below meth c H locs k n Q g q) : vx_W p l e R s m args below meth c H locs cells slots Q g q := fun T hT X => kk T hT (stand_widen X h1 h2)
theorem vx_out {pc : Nat} {E : String} {ce : Cell} {q : Addr} {mc ms : Nat} (hout : ∀ x ∈ c.exceptionTable.toList, covers x pc = false) (hlocks : meth.locks = false) (hcell : H[q]? = some ce) (hv : ce.vm = .none) (hcl : s.vm.findClass E = some ce.cls)
    (hx : ∀ t : State, t.heap = H → s.vm.Alike t.vm → XC E s t) (hf : ∀ z ∈ locs, free z.base) (hc : cells ≤ mc) (hs : slots ≤ ms) :
    vx_W p l e R s m args below meth c H locs cells slots (vx_MQ below Qc XC args s mc ms free) (F0 m pc ls rest) q := by
  intro T hT X
  obtain ⟨st1, hrun, hend, hW, hsm⟩ := X.leaveThrown q (g := F0 m pc ls rest) rfl rfl rfl hout hlocks
  have hcell9 : (T.setFrames (.throwing q :: below)).heap[q]? = some ce := by
    show T.heap[q]? = some ce
    rw [hT]; exact hcell
  exact ⟨_, st1, .threw q, hrun, hend, Or.inr ⟨q, rfl, E, ce, locs, hx _ hT hW.alike, hcell9, hv, hcl, hW, hsm.mono hc hs, hf⟩⟩
theorem vx_frame {U : State} {k n : Nat} (h : s.sameButNew ({ U with vm := s.vm } : State) locs k n) : s.heap.size ≤ U.heap.size ∧ ∀ q : Nat, q < s.heap.size → (∀ z ∈ locs, z.base ≠ q) → U.heap[q]? = s.heap[q]? := by
  obtain ⟨-, h2, -, -, -, h6⟩ := h
  refine ⟨h2, fun q hq hz => ?_⟩
  obtain ⟨c9, e1, e2, e3, e4⟩ := h6 q _ (Array.getElem?_eq_getElem hq)
  have hs : c9.slots = (s.heap[q]).slots := Array.ext_getElem? fun i => e4 i fun hm => hz _ hm rfl
  have h9 : c9 = s.heap[q] := by
    rw [hs] at e2
    exact e2
  have e5 : U.heap[q]? = some c9 := e1
  rw [e5, h9, Array.getElem?_eq_getElem hq]
/-- the words of a throw but the four that speak of the heap -/
def vx_no (w : Cond) : Bool := decide (w ≠ .isRef (.static Bundle.tN "UNASSIGNED_STACK" Bundle.steD)) && decide (w ≠ .isRef (.static Bundle.tN "SUPPRESSED_SENTINEL" Bundle.listD)) && decide (w ≠ .laysStatic Bundle.tN "UNASSIGNED_STACK" Bundle.steD) && decide (w ≠ .laysStatic Bundle.tN "SUPPRESSED_SENTINEL" Bundle.listD)
def vx_at0 (own : String) (ic : Nat) (X : String) (names : List String) : List Cond := (Bundle.ownAtoms0 own ic X names).filter vx_no
def vx_atS (own : String) (ic : Nat) (X : String) (names : List String) : List Cond := (Bundle.ownAtoms own ic X names).filter vx_no
/-- a word that the tables alone decide, or a good one -/
def vx_ot (w : Cond) : Bool := w.onTables || goodWord w
theorem vx_ot_at {args a' : Array Value} {s U : State} {w : Cond} (hW : s.WarmedH U.vm) (hvm : s.vm = U.vm) (hg : vx_ot w = true) (h : w.before args s = true) : w.before a' U = true := by
  simp only [vx_ot, Bool.or_eq_true] at hg
  rcases hg with hg | hg
  · exact va_tabs hg hvm h
  · exact word_at hW (good_of_word hg) h
/-- a list's words: the good ones out of the method's own list, the others by premises of their own -/
theorem vx_hat {args : Array Value} {s : State} {L B : List Cond} (h1 : ∀ w ∈ L.filter goodWord, w.before args s = true) (h2 : ∀ w ∈ L.filter (fun w => !goodWord w), w ∈ B) (h3 : ∀ w ∈ B, w.before args s = true) : ∀ w ∈ L, w.before args s = true := by
  intro w hw
  by_cases g : goodWord w = true
  · exact h1 w (List.mem_filter.mpr ⟨hw, g⟩)
  · refine h3 w (h2 w (List.mem_filter.mpr ⟨hw, ?_⟩))
    show (!goodWord w) = true
    cases hgw : goodWord w
    · rfl
    · exact absurd hgw g
theorem vx_c {args : Array Value} {s : State} {w : Cond} {B : List Cond} (h : w.before args s = true) (t : ∀ w ∈ B, w.before args s = true) : ∀ w' ∈ w :: B, w'.before args s = true := fun w' h' => (List.mem_cons.mp h').elim (fun e => by rw [e]; exact h) (t w')
theorem vx_n {args : Array Value} {s : State} : ∀ w ∈ ([] : List Cond), w.before args s = true := fun _ h => nomatch h
theorem vx_own {args : Array Value} {s : State} {L : List Cond} (h1 : ∀ w ∈ L.filter vx_no, w.before args s = true)
    (hU : (Cond.isRef (.static Bundle.tN "UNASSIGNED_STACK" Bundle.steD)).before args s = true) (hN : (Cond.isRef (.static Bundle.tN "SUPPRESSED_SENTINEL" Bundle.listD)).before args s = true)
    (lU : (Cond.laysStatic Bundle.tN "UNASSIGNED_STACK" Bundle.steD).before args s = true) (lN : (Cond.laysStatic Bundle.tN "SUPPRESSED_SENTINEL" Bundle.listD).before args s = true) : ∀ w ∈ L, w.before args s = true := by
  intro w hw
  by_cases e1 : w = .isRef (.static Bundle.tN "UNASSIGNED_STACK" Bundle.steD)
  · rw [e1]; exact hU
  · by_cases e2 : w = .isRef (.static Bundle.tN "SUPPRESSED_SENTINEL" Bundle.listD)
    · rw [e2]; exact hN
    · by_cases e3 : w = .laysStatic Bundle.tN "UNASSIGNED_STACK" Bundle.steD
      · rw [e3]; exact lU
      · by_cases e4 : w = .laysStatic Bundle.tN "SUPPRESSED_SENTINEL" Bundle.listD
        · rw [e4]; exact lN
        · exact h1 w (List.mem_filter.mpr ⟨hw, by unfold vx_no; rw [decide_eq_true e1, decide_eq_true e2, decide_eq_true e3, decide_eq_true e4]; rfl⟩)
/-- where a static field lies, its class's statics cell in H -/
def vx_L (C n d : String) (A : Nat → Prop) (U : State) (H : Heap) : Prop := ∃ (c : ClassId) (k : Class) (i : Nat) (f : Field) (a : Nat) (cell : Cell), U.vm.findClass C = some c ∧ U.fieldFound? C n d = some (c, k, i, f) ∧ f.isStatic = true ∧ k.statics = some a ∧ H[a]? = some cell ∧ cell.vm.isStatics = true ∧ cell.cls = c ∧ f.slot < cell.slots.size ∧ k.staticTypes[f.slot]? = some f.type ∧ ¬ A a
theorem vx_L.moved {C n d : String} {A : Nat → Prop} {u U : State} {H : Heap} (hvm : u.vm.Alike U.vm) (h : vx_L C n d A u H) : vx_L C n d A U H := by
  obtain ⟨c, k, i, f, a, cell, h1, h2, h3, h4, h5, h6, h7, h8, h9, h10⟩ := h
  obtain ⟨k', hi', he⟩ := State.fieldFound?_setVm hvm h2
  exact ⟨c, k', i, f, a, cell, by rw [hvm.findClass]; exact h1, hi', h3, by rw [he]; exact h4, h5, h6, h7, h8, by rw [he]; exact h9, h10⟩
theorem vx_L.kept {C n d : String} {A : Nat → Prop} {U : State} {H H1 : Heap} (h : vx_L C n d A U H) (hq : ∀ a : Nat, a < H.size → ¬ A a → H1[a]? = H[a]?) : vx_L C n d A U H1 := by
  obtain ⟨c, k, i, f, a, cell, h1, h2, h3, h4, h5, h6, h7, h8, h9, h10⟩ := h
  exact ⟨c, k, i, f, a, cell, h1, h2, h3, h4, by rw [hq a (Array.getElem?_eq_some_iff.mp h5).1 h10]; exact h5, h6, h7, h8, h9, h10⟩
theorem vx_L.narrow {C n d : String} {A B : Nat → Prop} {U : State} {H : Heap} (h : vx_L C n d A U H) (hAB : ∀ q, B q → A q) : vx_L C n d B U H := by
  obtain ⟨c, k, i, f, a, cell, h1, h2, h3, h4, h5, h6, h7, h8, h9, h10⟩ := h
  exact ⟨c, k, i, f, a, cell, h1, h2, h3, h4, h5, h6, h7, h8, h9, fun z => h10 (hAB _ z)⟩
theorem vx_L.word {C n d : String} {A : Nat → Prop} {s : State} {args : Array Value} (h : vx_L C n d A s s.heap) : (Cond.laysStatic C n d).before args s = true := by
  obtain ⟨c, k, i, f, a, cell, h1, h2, h3, h4, h5, h6, h7, h8, h9, -⟩ := h
  show (Cond.laysStatic C n d).holds args s none s [] = true
  exact Cond.laysStatic_of h1 h2 h3 h4 h5 h6 h7 h8 h9
/-- .. and what it holds: null or some reference -/
def vx_Zq (C n d : String) (A : Nat → Prop) (U : State) (H : Heap) : Prop := va_Zq C n d A U H ∧ vx_L C n d A U H
theorem vx_Zq.moved {C n d : String} {A : Nat → Prop} {u U : State} {H : Heap} (hvm : u.vm.Alike U.vm) (h : vx_Zq C n d A u H) : vx_Zq C n d A U H := ⟨va_Zq.moved hvm h.1, vx_L.moved hvm h.2⟩
theorem vx_Zq.kept {C n d : String} {A : Nat → Prop} {U : State} {H H1 : Heap} (h : vx_Zq C n d A U H) (hq : ∀ a : Nat, a < H.size → ¬ A a → H1[a]? = H[a]?) : vx_Zq C n d A U H1 := ⟨va_Zq.kept h.1 hq, vx_L.kept h.2 hq⟩
theorem vx_Zq.narrow {C n d : String} {A B : Nat → Prop} {U : State} {H : Heap} (h : vx_Zq C n d A U H) (hAB : ∀ q, B q → A q) : vx_Zq C n d B U H := ⟨va_Zq.narrow h.1 hAB, vx_L.narrow h.2 hAB⟩
theorem vx_Zqof {args : Array Value} {s : State} {C n d : String} {A : Nat → Prop} (hl : (Cond.laysStatic C n d).before args s = true) (hini : (Cond.initialized C).before args s = true) (h : (Cond.isRef (.static C n d)).before args s = true) (hA : ∀ a : Nat, a < s.heap.size → ¬ A a) : vx_Zq C n d A s s.heap := by
  refine ⟨va_Zqof hl hini h hA, ?_⟩
  obtain ⟨c, k, i, f, a, cell, h1, h2, h3, h4, h5, h6, h7, h8, h9⟩ := Cond.laysStatic_spec hl
  exact ⟨c, k, i, f, a, cell, h1, h2, h3, h4, h5, h6, h7, h8, h9, hA a (Array.getElem?_eq_some_iff.mp h5).1⟩
theorem vx_isRef {C n d : String} {v : Value} {A : Nat → Prop} {s : State} {args : Array Value} (h : va_Z C n d v A s s.heap) (hv : v.isRef = true) : (Cond.isRef (.static C n d)).before args s = true := by
  obtain ⟨cf, kf, fi, f, a, cell, h1, h2, h3, h4, h5, h6, h7, -⟩ := h
  have he : (Term.static C n d).eval args s none [] s = some v := by
    simp [Term.eval, State.fieldNamed?, h1, h2, h4, h5, h6, h7]
  simp only [Cond.before, Cond.holds, Cond.value, he]
  cases v <;> simp_all [Value.isRef]
theorem vx_isRefq {C n d : String} {A : Nat → Prop} {s : State} {args : Array Value} (h : va_Zq C n d A s s.heap) : (Cond.isRef (.static C n d)).before args s = true := by
  rcases h with h | ⟨t, h⟩
  · exact vx_isRef h rfl
  · exact vx_isRef h rfl
/-- the same frame, seen from here: as if the method were called anew in this heap -/
theorem vx_rebase {T : State} (X : Stand p l e R s m args below meth c T locs cells slots) {R' : Room} (hf : R'.frames ≤ R.frames) (hl : R'.locals ≤ R.locals) (hc : cells + R'.cells ≤ R.cells) (hs : slots + R'.slots ≤ R.slots) :
    Stand p l e R' ((T.setVm s.vm).setFrames (.invoking m args :: below)) m args below meth c T [] 0 0 := by
  have htop : (T.setVm s.vm).topJava?.isSome := X.here.top
  have hF : ((T.setVm s.vm).setFrames (.invoking m args :: below)).frames = .invoking m args :: below := State.frames_setFrames _ (State.cur_lt_of_top htop)
  obtain ⟨g₀, hg0⟩ := Option.isSome_iff_exists.mp htop
  obtain ⟨r, hr⟩ := State.topJava?_eq_some.mp hg0
  have hl9 : e.platform.stackLimits (T.setVm s.vm).me = e.platform.stackLimits s.me := X.limits
  have hb9 : (T.setVm s.vm).me.stackBytes = s.me.stackBytes := X.bytes
  refine ⟨X.admits, X.cas, X.clock, hF, ?_, X.hears, X.method, X.code, X.here, X.tail, X.warmed, ?_, ?_, ?_⟩
  · have h := X.room
    have hU : ((T.setVm s.vm).setFrames (.invoking m args :: below)).localsInUse = s.localsInUse := by
      rw [State.localsInUse_invoking hF (meth := meth) (c := c) X.method X.code, State.localsInUse_invoking X.frames X.method X.code]
    simp only [State.hasRoom, Bool.and_eq_true, decide_eq_true_eq] at h ⊢
    obtain ⟨⟨⟨⟨h1, h2, h3, h4, h5, h6⟩, h7⟩, h8⟩, h9⟩ := h
    rw [X.frames, List.length_cons] at h2 h3
    have q1 := X.heapSize
    have q2 := X.used
    simp only [hF, hU, List.length_cons, State.stackLimits_setFrames, State.stackBytes_setFrames, hl9, hb9]
    refine ⟨⟨⟨⟨by omega, by omega, by omega, by omega, by omega, h6⟩, ?_⟩, ?_⟩, X.book⟩
    · show T.heap.size + R'.cells ≤ e.platform.maxCells
      omega
    · show T.slotsUsed + R'.slots ≤ e.platform.maxSlots
      omega
  · rw [State.stackLimits_setFrames]; rfl
  · rw [State.stackBytes_setFrames]; rfl
  · refine ⟨?_, Nat.le_refl _, Nat.le_refl _, ?_, ?_, fun a c9 h9 => ⟨c9, h9, rfl, rfl, fun _ _ => rfl⟩⟩
    · obtain ⟨t, ht, -⟩ := State.frames_cons hr
      show T.setVm s.vm = { ((T.setVm s.vm).setFrames (.invoking m args :: below)).setFrames (T.setVm s.vm).frames with heap := T.heap, slotsUsed := T.slotsUsed }
      rw [State.setFrames_setFrames, State.setFrames_self ht]
      rfl
    · show T.slotsUsed = T.slotsUsed + ((T.heap.toList.drop T.heap.size).map (·.slots.size)).sum
      rw [List.drop_eq_nil_of_le (Nat.le_of_eq Array.length_toList)]
      rfl
    · show ((T.heap.toList.drop T.heap.size).map (·.slots.size)).sum ≤ 0
      rw [List.drop_eq_nil_of_le (Nat.le_of_eq Array.length_toList)]
      exact Nat.le_refl _
/-- 'throw new E()': new; dup; invokespecial; athrow -/
theorem vx_throw0 {cc : ByteArray} {pc : Nat} (hexec : p.tables.exec = Jvm.exec) (hb : c.code = cc) (hl : l.stackTraces = false) {own cls : String} {names : List String} {ik ic mc ms : Nat} {A : Nat → Prop}
    (hown : s.vm.findClass own = some m.cls) (hcls : Bundle.fit cls = true) (hnames : ∀ n ∈ names, Bundle.fit n = true)
    (hk : (Cond.classLink own ik cls).before args s = true) (hini : (Cond.initialized cls).before args s = true) (hat : ∀ w ∈ vx_at0 own ic cls names, w.before args s = true)
    (hgood : ∀ w ∈ Cond.classLink own ik cls :: Cond.initialized cls :: vx_at0 own ic cls names, vx_ot w = true)
    (hU : vx_Zq Bundle.tN "UNASSIGNED_STACK" Bundle.steD A s s.heap) (hN : vx_Zq Bundle.tN "SUPPRESSED_SENTINEL" Bundle.listD A s s.heap) (hS : va_S A s.heap H locs) (hsize : ls.size = c.maxLocals)
    (d0 : decode cc pc = .ok (.new ik, 3)) (d3 : decode cc (pc + 3) = .ok (.dup, 1)) (d4 : decode cc (pc + 4) = .ok (.invokespecial ic, 3)) (d7 : decode cc (pc + 7) = .ok (.athrow, 1))
    (hout : ∀ x ∈ c.exceptionTable.toList, covers x (pc + 7) = false)
    (hRframes : names.length + 3 < R.frames) (hRlocals : (rest.map fun v => v.category).sum + (13 * (names.length + 1) + 42) ≤ R.locals) (hRcells : cells + 1 ≤ R.cells) (hRslots : slots + 6 ≤ R.slots) (hlocks : meth.locks = false)
    (hx : ∀ t : State, s.vm.Alike t.vm → H.size ≤ t.heap.size → (∀ q : Nat, q < H.size → t.heap[q]? = H[q]?) → XC cls s t)
    (hf : ∀ z ∈ locs, free z.base) (hc : cells + 1 ≤ mc) (hs : slots + 6 ≤ ms) :
    W p l e R s m args below meth c H locs cells slots (vx_MQ below Qc XC args s mc ms free) (F0 m pc ls rest) := by
  intro T hT X
  have htr : e.platform.stackTraces = false := (show e.platform.stackTraces = l.stackTraces by rw [X.admits.platform]).trans hl
  have Y := vx_rebase X (R' := { frames := R.frames, locals := R.locals, cells := 1, slots := 6 }) (Nat.le_refl _) (Nat.le_refl _) hRcells hRslots
  obtain ⟨s', hA⟩ : ∃ z, z = (T.setVm s.vm).setFrames (.invoking m args :: below) := ⟨_, rfl⟩
  rw [← hA] at Y
  have hvm : s'.vm = s.vm := by rw [hA]; rfl
  have hhp : s'.heap = H := by rw [hA]; exact hT
  have hW0 : s.WarmedH s'.vm := by rw [hvm]; exact State.WarmedH.refl s
  have hat' : ∀ w ∈ vx_at0 own ic cls names, w.before args s' = true := fun w hw => vx_ot_at hW0 hvm.symm (hgood w (List.mem_cons_of_mem _ (List.mem_cons_of_mem _ hw))) (hat w hw)
  have hk' : (Cond.classLink own ik cls).before args s' = true := vx_ot_at hW0 hvm.symm (hgood _ List.mem_cons_self) hk
  have hini' : (Cond.initialized cls).before args s' = true := vx_ot_at hW0 hvm.symm (hgood _ (List.mem_cons_of_mem _ List.mem_cons_self)) hini
  have hU' : vx_Zq Bundle.tN "UNASSIGNED_STACK" Bundle.steD A s' s'.heap := by rw [hhp]; exact vx_Zq.moved hW0.alike (hU.kept hS.2.1)
  have hN' : vx_Zq Bundle.tN "SUPPRESSED_SENTINEL" Bundle.listD A s' s'.heap := by rw [hhp]; exact vx_Zq.moved hW0.alike (hN.kept hS.2.1)
  have h : ∀ w ∈ Bundle.ownAtoms0 own ic cls names, w.before args s' = true := vx_own hat' (vx_isRefq hU'.1) (vx_isRefq hN'.1) hU'.2.word hN'.2.word
  have hown' : s'.vm.findClass own = some m.cls := by rw [hvm]; exact hown
  have hins : (Cond.instantiable cls 6).before args s' = true := h _ (by simp [Bundle.ownAtoms0])
  obtain ⟨vm₁, cX, kX, hfX, hkX, -, -, X₁, st1⟩ := Y.newCold hexec (own := own) (C := cls) (index := ik) (n := 6) hown' hk' hins hini'
    (g := F0 m pc ls rest) rfl (by rw [hb]; exact d0) (Nat.le_refl _) (Nat.le_refl _)
  generalize hT1 : (T.setVm vm₁).pushCell { cls := cX, slots := kX.instanceTypes.map defaultValue, vm := .none } = T1 at X₁ st1
  have hcat : (Value.ref T.heap.size).category = 1 := rfl
  have hcellA : T1.heap[T.heap.size]? = some (freshCell cX kX) := by rw [← hT1]; exact State.heap_pushCell_size _ _
  have d3' : decode c.code (pc + 3) = .ok (.dup, 1) := by rw [hb]; exact d3
  obtain ⟨U, hsteps, hrun, hend, hW, hsame, ce, hce, hO⟩ := X₁.ctorThrow0 hexec htr (own := own) (cls := cls) (names := names) (ic := ic) hown' hcls hnames h (fun x hx => nomatch hx) hfX hkX hcellA (by rw [hhp, hT]; exact Nat.le_refl _)
    (g := { method := m, pc := pc + 4, locals := ls, stack := .ref T.heap.size :: .ref T.heap.size :: rest, locked := none }) rfl hsize rfl rfl (rest := rest) rfl
    (by rw [hb]; exact d4) (by rw [hb]; exact d7) hout hRframes (by simp only [List.map_cons, List.sum_cons, hcat]; omega) hlocks
  obtain ⟨f1, f2⟩ := vx_frame hsame
  rw [hhp] at f1 f2
  have hWs : s.WarmedH U.vm := State.WarmedH.trans hW0 hW
  have hcl : s.vm.findClass cls = some ce.cls := by
    have h9 := hO.cls
    rw [hvm] at h9
    exact h9
  have hall : s.sameButNew ({ U with vm := s.vm } : State) locs mc ms := by
    subst hA
    obtain ⟨e1, e2⟩ := hsame
    rw [State.setFrames_setFrames] at e1
    have h2 : (T.setVm s.vm).sameButNew ({ U with vm := s.vm } : State) [] (0 + 1) (0 + 6) := ⟨e1, e2⟩
    have h3 := X.same.trans h2
    rw [List.append_nil] at h3
    exact h3.mono hc hs
  refine ⟨U, ?_, .threw T.heap.size, hrun, hend, Or.inr ⟨T.heap.size, rfl, cls, ce, locs, hx U hWs.alike f1 (fun q hq => f2 q hq (fun z hz => nomatch hz)), hce, hO.vm, hcl, hWs, hall, hf⟩⟩
  refine st1 _ ?_
  show Steps p.tables e below (T1.setTop { method := m, pc := pc + 3, locals := ls, stack := .ref T.heap.size :: rest, locked := none }) _
  jvm_step X₁.here [X₁.here.top, hexec, d3', Value.category]
  exact hsteps
/-- 'throw new E("text")': new; dup; ldc; invokespecial; athrow -/
theorem vx_throwS {cc : ByteArray} {pc : Nat} (hexec : p.tables.exec = Jvm.exec) (hb : c.code = cc) (hl : l.stackTraces = false) {own cls text : String} {names : List String} {ik is ic mc ms sa : Nat} {A : Nat → Prop}
    (hown : s.vm.findClass own = some m.cls) (hcls : Bundle.fit cls = true) (hnames : ∀ n ∈ names, Bundle.fit n = true)
    (hk : (Cond.classLink own ik cls).before args s = true) (hini : (Cond.initialized cls).before args s = true) (hstr : vk_R own is text sa s) (hat : ∀ w ∈ vx_atS own ic cls names, w.before args s = true)
    (hgood : ∀ w ∈ Cond.classLink own ik cls :: Cond.initialized cls :: vx_atS own ic cls names, vx_ot w = true)
    (hU : vx_Zq Bundle.tN "UNASSIGNED_STACK" Bundle.steD A s s.heap) (hN : vx_Zq Bundle.tN "SUPPRESSED_SENTINEL" Bundle.listD A s s.heap) (hS : va_S A s.heap H locs) (hsize : ls.size = c.maxLocals)
    (d0 : decode cc pc = .ok (.new ik, 3)) (d3 : decode cc (pc + 3) = .ok (.dup, 1)) (d4 : decode cc (pc + 4) = .ok (.ldc is, 2)) (d6 : decode cc (pc + 6) = .ok (.invokespecial ic, 3)) (d9 : decode cc (pc + 9) = .ok (.athrow, 1))
    (hout : ∀ x ∈ c.exceptionTable.toList, covers x (pc + 9) = false)
    (hRframes : names.length + 3 < R.frames) (hRlocals : (rest.map fun v => v.category).sum + (13 * (names.length + 1) + 43) ≤ R.locals) (hRcells : cells + 1 ≤ R.cells) (hRslots : slots + 6 ≤ R.slots) (hlocks : meth.locks = false)
    (hx : ∀ t : State, s.vm.Alike t.vm → H.size ≤ t.heap.size → (∀ q : Nat, q < H.size → t.heap[q]? = H[q]?) → XC cls s t)
    (hf : ∀ z ∈ locs, free z.base) (hc : cells + 1 ≤ mc) (hs : slots + 6 ≤ ms) :
    W p l e R s m args below meth c H locs cells slots (vx_MQ below Qc XC args s mc ms free) (F0 m pc ls rest) := by
  intro T hT X
  have htr : e.platform.stackTraces = false := (show e.platform.stackTraces = l.stackTraces by rw [X.admits.platform]).trans hl
  have Y := vx_rebase X (R' := { frames := R.frames, locals := R.locals, cells := 1, slots := 6 }) (Nat.le_refl _) (Nat.le_refl _) hRcells hRslots
  obtain ⟨s', hA⟩ : ∃ z, z = (T.setVm s.vm).setFrames (.invoking m args :: below) := ⟨_, rfl⟩
  rw [← hA] at Y
  have hvm : s'.vm = s.vm := by rw [hA]; rfl
  have hhp : s'.heap = H := by rw [hA]; exact hT
  have hW0 : s.WarmedH s'.vm := by rw [hvm]; exact State.WarmedH.refl s
  have hat' : ∀ w ∈ vx_atS own ic cls names, w.before args s' = true := fun w hw => vx_ot_at hW0 hvm.symm (hgood w (List.mem_cons_of_mem _ (List.mem_cons_of_mem _ hw))) (hat w hw)
  have hk' : (Cond.classLink own ik cls).before args s' = true := vx_ot_at hW0 hvm.symm (hgood _ List.mem_cons_self) hk
  have hini' : (Cond.initialized cls).before args s' = true := vx_ot_at hW0 hvm.symm (hgood _ (List.mem_cons_of_mem _ List.mem_cons_self)) hini
  have hU' : vx_Zq Bundle.tN "UNASSIGNED_STACK" Bundle.steD A s' s'.heap := by rw [hhp]; exact vx_Zq.moved hW0.alike (hU.kept hS.2.1)
  have hN' : vx_Zq Bundle.tN "SUPPRESSED_SENTINEL" Bundle.listD A s' s'.heap := by rw [hhp]; exact vx_Zq.moved hW0.alike (hN.kept hS.2.1)
  have h : ∀ w ∈ Bundle.ownAtoms own ic cls names, w.before args s' = true := vx_own hat' (vx_isRefq hU'.1) (vx_isRefq hN'.1) hU'.2.word hN'.2.word
  have hown' : s'.vm.findClass own = some m.cls := by rw [hvm]; exact hown
  have hins : (Cond.instantiable cls 6).before args s' = true := h _ (by simp [Bundle.ownAtoms])
  obtain ⟨vm₁, cX, kX, hfX, hkX, -, -, X₁, st1⟩ := Y.newCold hexec (own := own) (C := cls) (index := ik) (n := 6) hown' hk' hins hini'
    (g := F0 m pc ls rest) rfl (by rw [hb]; exact d0) (Nat.le_refl _) (Nat.le_refl _)
  generalize hT1 : (T.setVm vm₁).pushCell { cls := cX, slots := kX.instanceTypes.map defaultValue, vm := .none } = T1 at X₁ st1
  have hcat : (Value.ref T.heap.size).category = 1 := rfl
  have hcellA : T1.heap[T.heap.size]? = some (freshCell cX kX) := by rw [← hT1]; exact State.heap_pushCell_size _ _
  have d3' : decode c.code (pc + 3) = .ok (.dup, 1) := by rw [hb]; exact d3
  have d4' : decode c.code (pc + 4) = .ok (.ldc is, 2) := by rw [hb]; exact d4
  have hstr' : vk_R own is text sa s' := vk_R.warm hW0 hstr
  obtain ⟨U, hsteps, hrun, hend, hW, hsame, ce, hce, hO⟩ := X₁.ctorThrowS hexec htr (own := own) (cls := cls) (names := names) (ic := ic) hown' hcls hnames h (fun x hx => nomatch hx) hfX hkX hcellA (by rw [hhp, hT]; exact Nat.le_refl _) (msg := .ref sa) rfl
    (g := { method := m, pc := pc + 6, locals := ls, stack := .ref sa :: .ref T.heap.size :: .ref T.heap.size :: rest, locked := none }) rfl hsize rfl rfl (rest := rest) rfl
    (by rw [hb]; exact d6) (by rw [hb]; exact d9) hout hRframes (by simp only [List.map_cons, List.sum_cons, hcat]; omega) hlocks
  obtain ⟨f1, f2⟩ := vx_frame hsame
  rw [hhp] at f1 f2
  have hWs : s.WarmedH U.vm := State.WarmedH.trans hW0 hW
  have hcl : s.vm.findClass cls = some ce.cls := by
    have h9 := hO.cls
    rw [hvm] at h9
    exact h9
  have hall : s.sameButNew ({ U with vm := s.vm } : State) locs mc ms := by
    subst hA
    obtain ⟨e1, e2⟩ := hsame
    rw [State.setFrames_setFrames] at e1
    have h2 : (T.setVm s.vm).sameButNew ({ U with vm := s.vm } : State) [] (0 + 1) (0 + 6) := ⟨e1, e2⟩
    have h3 := X.same.trans h2
    rw [List.append_nil] at h3
    exact h3.mono hc hs
  refine ⟨U, ?_, .threw T.heap.size, hrun, hend, Or.inr ⟨T.heap.size, rfl, cls, ce, locs, hx U hWs.alike f1 (fun q hq => f2 q hq (fun z hz => nomatch hz)), hce, hO.vm, hcl, hWs, hall, hf⟩⟩
  refine st1 _ ?_
  show Steps p.tables e below (T1.setTop { method := m, pc := pc + 3, locals := ls, stack := .ref T.heap.size :: rest, locked := none }) _
  jvm_step X₁.here [X₁.here.top, hexec, d3', Value.category]
  exact X₁.ldcString hexec (own := own) (text := text) (index := is) (a := sa) hown' hstr'.1 hstr'.2
    (g := { method := m, pc := pc + 4, locals := ls, stack := .ref T.heap.size :: .ref T.heap.size :: rest, locked := none }) rfl d4' _ hsteps
/-- 'throw new E("text")', the text by a wide index -/
theorem vx_throwSW {cc : ByteArray} {pc : Nat} (hexec : p.tables.exec = Jvm.exec) (hb : c.code = cc) (hl : l.stackTraces = false) {own cls text : String} {names : List String} {ik is ic mc ms sa : Nat} {A : Nat → Prop}
    (hown : s.vm.findClass own = some m.cls) (hcls : Bundle.fit cls = true) (hnames : ∀ n ∈ names, Bundle.fit n = true)
    (hk : (Cond.classLink own ik cls).before args s = true) (hini : (Cond.initialized cls).before args s = true) (hstr : vk_R own is text sa s) (hat : ∀ w ∈ vx_atS own ic cls names, w.before args s = true)
    (hgood : ∀ w ∈ Cond.classLink own ik cls :: Cond.initialized cls :: vx_atS own ic cls names, vx_ot w = true)
    (hU : vx_Zq Bundle.tN "UNASSIGNED_STACK" Bundle.steD A s s.heap) (hN : vx_Zq Bundle.tN "SUPPRESSED_SENTINEL" Bundle.listD A s s.heap) (hS : va_S A s.heap H locs) (hsize : ls.size = c.maxLocals)
    (d0 : decode cc pc = .ok (.new ik, 3)) (d3 : decode cc (pc + 3) = .ok (.dup, 1)) (d4 : decode cc (pc + 4) = .ok (.ldc_w is, 3)) (d7 : decode cc (pc + 7) = .ok (.invokespecial ic, 3)) (d10 : decode cc (pc + 10) = .ok (.athrow, 1))
    (hout : ∀ x ∈ c.exceptionTable.toList, covers x (pc + 10) = false)
    (hRframes : names.length + 3 < R.frames) (hRlocals : (rest.map fun v => v.category).sum + (13 * (names.length + 1) + 43) ≤ R.locals) (hRcells : cells + 1 ≤ R.cells) (hRslots : slots + 6 ≤ R.slots) (hlocks : meth.locks = false)
    (hx : ∀ t : State, s.vm.Alike t.vm → H.size ≤ t.heap.size → (∀ q : Nat, q < H.size → t.heap[q]? = H[q]?) → XC cls s t)
    (hf : ∀ z ∈ locs, free z.base) (hc : cells + 1 ≤ mc) (hs : slots + 6 ≤ ms) :
    W p l e R s m args below meth c H locs cells slots (vx_MQ below Qc XC args s mc ms free) (F0 m pc ls rest) := by
  intro T hT X
  have htr : e.platform.stackTraces = false := (show e.platform.stackTraces = l.stackTraces by rw [X.admits.platform]).trans hl
  have Y := vx_rebase X (R' := { frames := R.frames, locals := R.locals, cells := 1, slots := 6 }) (Nat.le_refl _) (Nat.le_refl _) hRcells hRslots
  obtain ⟨s', hA⟩ : ∃ z, z = (T.setVm s.vm).setFrames (.invoking m args :: below) := ⟨_, rfl⟩
  rw [← hA] at Y
  have hvm : s'.vm = s.vm := by rw [hA]; rfl
  have hhp : s'.heap = H := by rw [hA]; exact hT
  have hW0 : s.WarmedH s'.vm := by rw [hvm]; exact State.WarmedH.refl s
  have hat' : ∀ w ∈ vx_atS own ic cls names, w.before args s' = true := fun w hw => vx_ot_at hW0 hvm.symm (hgood w (List.mem_cons_of_mem _ (List.mem_cons_of_mem _ hw))) (hat w hw)
  have hk' : (Cond.classLink own ik cls).before args s' = true := vx_ot_at hW0 hvm.symm (hgood _ List.mem_cons_self) hk
  have hini' : (Cond.initialized cls).before args s' = true := vx_ot_at hW0 hvm.symm (hgood _ (List.mem_cons_of_mem _ List.mem_cons_self)) hini
  have hU' : vx_Zq Bundle.tN "UNASSIGNED_STACK" Bundle.steD A s' s'.heap := by rw [hhp]; exact vx_Zq.moved hW0.alike (hU.kept hS.2.1)
  have hN' : vx_Zq Bundle.tN "SUPPRESSED_SENTINEL" Bundle.listD A s' s'.heap := by rw [hhp]; exact vx_Zq.moved hW0.alike (hN.kept hS.2.1)
  have h : ∀ w ∈ Bundle.ownAtoms own ic cls names, w.before args s' = true := vx_own hat' (vx_isRefq hU'.1) (vx_isRefq hN'.1) hU'.2.word hN'.2.word
  have hown' : s'.vm.findClass own = some m.cls := by rw [hvm]; exact hown
  have hins : (Cond.instantiable cls 6).before args s' = true := h _ (by simp [Bundle.ownAtoms])
  obtain ⟨vm₁, cX, kX, hfX, hkX, -, -, X₁, st1⟩ := Y.newCold hexec (own := own) (C := cls) (index := ik) (n := 6) hown' hk' hins hini'
    (g := F0 m pc ls rest) rfl (by rw [hb]; exact d0) (Nat.le_refl _) (Nat.le_refl _)
  generalize hT1 : (T.setVm vm₁).pushCell { cls := cX, slots := kX.instanceTypes.map defaultValue, vm := .none } = T1 at X₁ st1
  have hcat : (Value.ref T.heap.size).category = 1 := rfl
  have hcellA : T1.heap[T.heap.size]? = some (freshCell cX kX) := by rw [← hT1]; exact State.heap_pushCell_size _ _
  have d3' : decode c.code (pc + 3) = .ok (.dup, 1) := by rw [hb]; exact d3
  have d4' : decode c.code (pc + 4) = .ok (.ldc_w is, 3) := by rw [hb]; exact d4
  have hstr' : vk_R own is text sa s' := vk_R.warm hW0 hstr
  obtain ⟨U, hsteps, hrun, hend, hW, hsame, ce, hce, hO⟩ := X₁.ctorThrowS hexec htr (own := own) (cls := cls) (names := names) (ic := ic) hown' hcls hnames h (fun x hx => nomatch hx) hfX hkX hcellA (by rw [hhp, hT]; exact Nat.le_refl _) (msg := .ref sa) rfl
    (g := { method := m, pc := pc + 7, locals := ls, stack := .ref sa :: .ref T.heap.size :: .ref T.heap.size :: rest, locked := none }) rfl hsize rfl rfl (rest := rest) rfl
    (by rw [hb]; exact d7) (by rw [hb]; exact d10) hout hRframes (by simp only [List.map_cons, List.sum_cons, hcat]; omega) hlocks
  obtain ⟨f1, f2⟩ := vx_frame hsame
  rw [hhp] at f1 f2
  have hWs : s.WarmedH U.vm := State.WarmedH.trans hW0 hW
  have hcl : s.vm.findClass cls = some ce.cls := by
    have h9 := hO.cls
    rw [hvm] at h9
    exact h9
  have hall : s.sameButNew ({ U with vm := s.vm } : State) locs mc ms := by
    subst hA
    obtain ⟨e1, e2⟩ := hsame
    rw [State.setFrames_setFrames] at e1
    have h2 : (T.setVm s.vm).sameButNew ({ U with vm := s.vm } : State) [] (0 + 1) (0 + 6) := ⟨e1, e2⟩
    have h3 := X.same.trans h2
    rw [List.append_nil] at h3
    exact h3.mono hc hs
  refine ⟨U, ?_, .threw T.heap.size, hrun, hend, Or.inr ⟨T.heap.size, rfl, cls, ce, locs, hx U hWs.alike f1 (fun q hq => f2 q hq (fun z hz => nomatch hz)), hce, hO.vm, hcl, hWs, hall, hf⟩⟩
  refine st1 _ ?_
  show Steps p.tables e below (T1.setTop { method := m, pc := pc + 3, locals := ls, stack := .ref T.heap.size :: rest, locked := none }) _
  jvm_step X₁.here [X₁.here.top, hexec, d3', Value.category]
  exact X₁.ldcStringW hexec (own := own) (text := text) (index := is) (a := sa) hown' hstr'.1 hstr'.2
    (g := { method := m, pc := pc + 4, locals := ls, stack := .ref T.heap.size :: .ref T.heap.size :: rest, locked := none }) rfl d4' _ hsteps
end Ends
section Bodies
variable {l : Launch}
theorem vx_ofW {y : MethodName} {ws ws' : List Cond} {rm : Room} {Pc : Array Value → State → Prop} {Qc : Array Value → State → Outcome → State → Prop} {XC : String → State → State → Prop} {mc ms : Nat} {free : Addr → Prop} {cc : ByteArray} {maxL : Nat} {ret : Option FieldType}
    (hy : plainName y.cls = true) (hw : ws = Cond.code y cc maxL ret :: ws')
    (body : ∀ p e s m args below meth c s₁, BodyLoose p l y (headSpec ws rm) cc maxL ret e s m args below meth c s₁ → c.maxLocals = maxL → (∀ x ∈ c.exceptionTable.toList, False) → Pc args s →
      W p l e (headSpec ws rm).room s m args below meth c s.heap [] 0 0 (vx_MQ below Qc XC args s mc ms free) (entryFrame m args maxL)) : vx_Met l y ws rm Pc Qc XC mc ms free := by
  refine MetFree.of_bodyS (code := cc) (maxLocals := maxL) (ret := ret) hy ?_ ?_
  · intro args s m h hn
    obtain ⟨meth, c, h1, h2, h3, h4, h5, h6, -, -⟩ := Cond.code_spec hn (atoms_spec (ws := ws) h _ (by rw [hw]; exact List.mem_cons_self))
    exact ⟨meth, c, h1, h2, h3, h4, h5, h6⟩
  · intro p e s m args below meth c s₁ B hml hP _
    have hh0 : s₁.heap = s.heap := by rw [B.state]; rfl
    have ht : ∀ x ∈ c.exceptionTable.toList, False := by
      obtain ⟨meth9, c9, h1, h2, -, -, -, -, h7, -⟩ := Cond.code_spec B.named (atoms_spec (ws := ws) B.pre _ (by rw [hw]; exact List.mem_cons_self))
      cases Option.some.inj (h1.symm.trans B.method)
      cases Option.some.inj (h2.symm.trans (Stand.of_body B).code)
      intro x hx
      rw [Array.isEmpty_iff.mp h7] at hx
      cases hx
    obtain ⟨t, a1, o, b1, b2, b3⟩ := body p e s m args below meth c s₁ B hml ht hP s₁ hh0 (Stand.of_body B)
    exact ⟨t, o, a1, b1, b2, b3⟩
/-- the table of a body with handlers -/
theorem vx_table {p : Program} {x y : MethodName} {S : Spec} {cc bytes : ByteArray} {maxL maxL' : Nat} {ret ret' : Option FieldType} {e : Env} {s s₁ : State} {m : MethodId} {args : Array Value} {below : List Frame} {meth : Method} {c : Code} {hh : List (Nat × Nat × Nat × Nat)}
    (B : BodyLoose p l y S cc maxL ret e s m args below meth c s₁) (h : (Cond.codeWith y bytes maxL' ret' hh).before args s = true) : c.exceptionTable.toList = tableOf hh := by
  obtain ⟨m9, meth9, c9, hn9, h1, h2, -, -, h6, -⟩ := Cond.codeWith_spec h
  cases Option.some.inj (hn9.symm.trans B.named)
  cases Option.some.inj (h1.symm.trans B.method)
  cases Option.some.inj (h2.symm.trans (Stand.of_body B).code)
  rw [← h6, table_eq]
end Bodies
end VXA
/-! ===== END ===== -/
/-! ===== BEGIN a static call of a method with an exception table ===== -/
section VXS
variable {p : Program} {l : Launch} {e : Env} {R : Room} {s : State} {m : MethodId} {args : Array Value} {below : List Frame} {meth : Method} {c : Code} {T : State} {H : Heap} {locs : List Loc} {cells slots : Nat}
abbrev vx_CSW (R : Room) (s : State) (args : Array Value) (own : String) (index : Nat) (y : MethodName) (bytes : ByteArray) (maxL : Nat) (ret : Option FieldType) (hh : List (Nat × Nat × Nat × Nat)) (ws : List Cond) (rm : Room) (mc ms n : Nat) : Prop :=
  (rm.cells = mc ∧ rm.slots = ms ∧ rm.frames + 1 ≤ R.frames ∧ 8 + (maxL + 11) + rm.locals ≤ R.locals ∧ (∀ w ∈ ws, ∀ (a' : Array Value) (U : State), s.WarmedH U.vm → w.before a' U = true) ∧ Cond.codeWith y bytes maxL ret hh ∈ ws) ∧
  (Cond.codeWith y bytes maxL ret hh).before args s = true ∧ (Cond.initialized y.cls).before args s = true ∧ (y.cls ≠ "java/lang/invoke/MethodHandle" ∧ y.cls ≠ "java/lang/invoke/VarHandle") ∧
  (∀ sig, parseMethodDescriptor y.desc = some sig → n = sig.parameters.length) ∧ (Cond.methodLink own index y).before args s = true ∧ (Cond.static y).before args s = true
theorem vx_cwSW {own : String} {index maxL mc ms : Nat} {y : MethodName} {bytes : ByteArray} {ret : Option FieldType} {hh : List (Nat × Nat × Nat × Nat)} {Ts ws ws' : List Cond} {rm : Room} (n : Nat) (ht : ∀ w ∈ Ts, w.before args s = true) (hT : GoodIn Ts (va_wsS own index y ws)) (hw : ws = Cond.codeWith y bytes maxL ret hh :: ws') (hrc : rm.cells = mc) (hrs : rm.slots = ms)
    (hd : y.cls ≠ "java/lang/invoke/MethodHandle" ∧ y.cls ≠ "java/lang/invoke/VarHandle" ∧ (parseMethodDescriptor y.desc).map (fun d => d.parameters.length) = some n) (hR : rm.frames + 1 ≤ R.frames ∧ 8 + (maxL + 11) + rm.locals ≤ R.locals) :
    vx_CSW R s args own index y bytes maxL ret hh ws rm mc ms n := by
  have ok : ∀ w ∈ va_wsS own index y ws, w.before args s = true := fun w h => ht w (hT w h).1
  have hG : GoodIn Ts ws := fun w h => hT w (by unfold va_wsS; exact List.mem_append_right _ h)
  have hc : Cond.codeWith y bytes maxL ret hh ∈ ws := by rw [hw]; exact List.mem_cons_self
  refine ⟨⟨hrc, hrs, hR.1, hR.2, pay_in ht hG, hc⟩, ht _ (hG _ hc).1, ok _ (by simp [va_wsS]), ⟨hd.1, hd.2.1⟩, fun sig h => ?_, ok _ (by simp [va_wsS]), ok _ (by simp [va_wsS])⟩
  have h2 := hd.2.2
  rw [h] at h2
  exact (Option.some.inj h2).symm
theorem vx_callSW (X : Stand p l e R s m args below meth c T locs cells slots) (hexec : p.tables.exec = Jvm.exec) {own : String} {index : Nat} {y : MethodName} {bytes : ByteArray} {maxL : Nat} {ret : Option FieldType} {hh : List (Nat × Nat × Nat × Nat)}
    (hown : s.vm.findClass own = some m.cls) (hlink : (Cond.methodLink own index y).before args s = true) (hstat : (Cond.static y).before args s = true) (hinit : (Cond.initialized y.cls).before args s = true)
    (hcode : (Cond.codeWith y bytes maxL ret hh).before args s = true) (hy : y.cls ≠ "java/lang/invoke/MethodHandle" ∧ y.cls ≠ "java/lang/invoke/VarHandle")
    {W9 : Nat} {Pre : Pt → Array Value → Prop} {Post : Pt → Array Value → Option Value → Pt → Prop} (hK : Back l R p e below s args y 3 W9 Pre Post)
    {g : JFrame} (hg : g.method = m) (hsize : g.locals.size = c.maxLocals) {argsL rest : List Value} (hlen : ∀ sig, parseMethodDescriptor y.desc = some sig → argsL.length = sig.parameters.length)
    (hstack : g.stack = argsL.reverse ++ rest) (hW : 2 * g.monitorRoom + (rest.map fun v => v.category).sum ≤ W9) (hdg : decode c.code g.pc = .ok (.invokestatic index, 3))
    (hpre : ∀ vm₁, s.WarmedH vm₁ → Pre ⟨T.setVm vm₁, locs, cells, slots⟩ argsL.toArray) :
    ∃ (v : Option Value) (vm₁ : Vm) (B : Pt), s.WarmedH vm₁ ∧ Stand p l e R s m args below meth c B.U B.locs B.cells B.slots ∧ Post ⟨T.setVm vm₁, locs, cells, slots⟩ argsL.toArray v B ∧
      ∀ target, Steps p.tables e below (B.U.setTop { g with pc := g.pc + 3, stack := v.toList ++ rest }) target → Steps p.tables e below (T.setTop g) target := by
  obtain ⟨mk, methM, cM, hnamed, hmethM, -, -, -, -, -, -, hsigM⟩ := Cond.codeWith_spec hcode
  have hstatic : methM.isStatic = true := Cond.static_spec hnamed hmethM hstat
  obtain ⟨kP, hkP, -⟩ := className_of_methodNamed hnamed
  have hinitP : kP.init = .initialized := Cond.initialized_spec (findClass_of_methodNamed hnamed) hkP hinit
  obtain ⟨vm₁, X₁, hstep₁⟩ := X.invokestatic hexec hown hlink hnamed hmethM hstatic hkP hinitP hy (g := g) hg (argsL := argsL) (rest := rest) (hlen _ hsigM) hstack hdg
  obtain ⟨v, B, X', hpost, hsteps⟩ := hK m meth c ⟨T.setVm vm₁, locs, cells, slots⟩ { g with stack := rest } (.invokestatic index) mk argsL.toArray X₁ hg hsize hdg hW (X₁.named hnamed) (hpre vm₁ X₁.warmed)
  exact ⟨v, vm₁, B, X₁.warmed, X', hpost, fun target h => hstep₁ _ fun acts => by rw [doInvoke_state]; exact hsteps.trans h⟩
theorem vx_runSW {y : MethodName} {bytes cc : ByteArray} {maxL nL mc ms n index : Nat} {ret : Option FieldType} {hh : List (Nat × Nat × Nat × Nat)} {ws : List Cond} {rm : Room} {Pc : Array Value → State → Prop} {Qc : Array Value → State → Outcome → State → Prop} {free : Addr → Prop} {Ts : List Cond} {own : String} {As rest : List Value} {g : JFrame}
    (S : CallFix p m c cc nL s args Ts own) (hM : Met l y ws rm Pc Qc mc ms free) (cw : vx_CSW R s args own index y bytes maxL ret hh ws rm mc ms n) (hp : PreS s H Pc As)
    (hg : g.method = m) (hn : As.length = n) (hsize : g.locals.size = nL) (hstack : g.stack = As.reverse ++ rest) (hW : 2 * g.monitorRoom + (rest.map fun v => v.category).sum ≤ 8) (hdg : decode cc g.pc = .ok (.invokestatic index, 3)) (hf : cells + mc ≤ R.cells ∧ slots + ms ≤ R.slots) :
    va_Run p l e R s m args below meth c H locs cells slots mc ms g rest (Qc As.toArray) (free) := by
  obtain ⟨⟨hrc, hrs, hfr, hlo, hws, hcw⟩, hcode, hini, hy, hlen, hl, hstt⟩ := cw
  have hK : Back l R p e below s args y 3 8 (PreOf R mc ms Pc) (PostOf Qc mc ms free) := va_backW (hh := hh) (bytes := bytes) (maxL := maxL) (ret := ret) hM hp.1 hrc hrs hfr hlo hws hcw (fun a' U hW => word_at hW (Or.inl (by first | rfl | simp [Cond.onTables, Cond.keeps, Cond.steady])) hini)
  obtain ⟨hx, hb, hml, ho, -⟩ := S
  intro T hT X
  obtain ⟨v, vm₁, ⟨U', l2, c2, s2⟩, hW₁, X', ⟨g', mk, t, L, e1, e2, hq, h1, hL, h2, h3⟩, st⟩ := vx_callSW X hx (hh := hh) (bytes := bytes) (maxL := maxL) (ret := ret) ho hl hstt hini hcode hy hK hg (hsize.trans hml.symm) (argsL := As) (rest := rest) (fun sig h => hn.trans (hlen sig h)) hstack hW (by rw [hb]; exact hdg)
    (fun vm₁ hW₁ => ⟨hf.1, hf.2, hp.2 (T.setVm vm₁) hT hW₁⟩)
  dsimp only [Pt.U, Pt.locs, Pt.cells, Pt.slots] at X' e1 e2 h1 h2 h3 st
  subst h1; subst h2; subst h3
  exact ⟨v, (T.setVm vm₁).calling g' mk As.toArray, t, U', L, hT, X', hL, e1, e2, hq, st⟩
/-- a thing of a world lies in the heap -/
theorem vx_lt {D : va_G} {cl : List vw_C} {ws : va_W} {H1 : Heap} (h : va_P D cl ws H1) {k : Nat} {q : Nat × va_E} (hk : ws[k]? = some q) : q.1 < H1.size := (h k q hk).lt
end VXS
/-! ===== END ===== -/
/-! ===== BEGIN methods with a table of their own: called by a name, returning or throwing ===== -/
section VXH
/-! vx_backW, vx_callVX, vx_callSX, vx_callVW, vx_runVW, vx_runVX, vx_runSX, vx_ofWH follow the same proofs as their sisters above (Free/Laws.lean, Shelf42/LK1.lean); vx_outP calls Shelf42/NT130.lean (outThrough). -/
section
variable {l : Launch} {R : Room} {p : Program} {e : Env} {below : List Frame} {s : State} {sargs : Array Value} {y : MethodName} {len W9 : Nat}
theorem vx_backW {ws : List Cond} {rm : Room} {Pc : Array Value → State → Prop} {Qc : Array Value → State → Outcome → State → Prop} {XC : String → State → State → Prop} {mc ms : Nat} {free : Addr → Prop} {bytes : ByteArray} {maxL : Nat} {ret : Option FieldType} {hh : List (Nat × Nat × Nat × Nat)}
    (hM : vx_Met l y ws rm Pc Qc XC mc ms free) (hblind : FrameBlind Pc) (hrc : rm.cells = mc) (hrs : rm.slots = ms)
    (hframes : rm.frames + 1 ≤ R.frames) (hlocals : W9 + (maxL + 11) + rm.locals ≤ R.locals)
    (hws : ∀ w ∈ ws, ∀ a' U, s.WarmedH U.vm → w.before a' U = true) (hcode : Cond.codeWith y bytes maxL ret hh ∈ ws) (hinit : ∀ a' U, s.WarmedH U.vm → (Cond.initialized y.cls).before a' U = true) :
    vx_Back l R p e below s sargs y len W9 (PreOf R mc ms Pc) (PostOf Qc mc ms free) (vx_Post XC mc ms free) := by
  intro m meth c A g ig mk a X hg hsize hdg hW hn hp
  have h1 : (headSpec ws rm).pre.before a A.U = true := atoms_intro fun w hw => hws w hw _ _ X.warmed
  have h2 : (Cond.codeWith y bytes maxL ret hh).before a A.U = true := hws _ hcode _ _ X.warmed
  have h3 : (Cond.initialized y.cls).before a A.U = true := hinit _ _ X.warmed
  have h4 : A.cells + (headSpec ws rm).room.cells ≤ R.cells := by rw [show (headSpec ws rm).room.cells = mc from hrc]; exact hp.1
  have h5 : A.slots + (headSpec ws rm).room.slots ≤ R.slots := by rw [show (headSpec ws rm).room.slots = ms from hrs]; exact hp.2.1
  have hPc : Pc a (A.U.calling g mk a) := hblind _ _ _ _ hp.2.2
  obtain ⟨U, Ls, c0, s0⟩ := A
  dsimp only [Pt.U, Pt.locs, Pt.cells, Pt.slots] at h1 h2 h3 h4 h5 X hn hPc ⊢
  obtain ⟨m9, methY, cY, hn9, hmY, hcY, -, hlY, -⟩ := Cond.codeWith_spec h2
  cases Option.some.inj (hn9.symm.trans hn)
  obtain ⟨kY, hkY, -⟩ := className_of_methodNamed hn
  have hinitY : kY.init = .initialized := Cond.initialized_spec (findClass_of_methodNamed hn) hkY h3
  have h : At U g.method c below := by rw [hg]; exact X.here
  have hlocals9 : W9 + (maxL + 11) + (headSpec ws rm).room.locals ≤ R.locals := hlocals
  have happ : (headSpec ws rm).appliesLoose y e.platform (U.calling g mk a) = true :=
    Spec.appliesLoose_calling (g := g) h hdg hn hkY hinitY
      (X.room_calling (g := g) (R' := (headSpec ws rm).room) hsize hmY hcY hframes (by rw [hlY]; omega) h4 h5) h1
  obtain ⟨mid, hmid⟩ := h.above
  have hfr : (U.setTop g).frames = (.java g :: mid) ++ below := by rw [State.frames_setTop' g h.top, hmid]; rfl
  obtain ⟨o, s₂, hsteps, -, hend, hq⟩ := Steps.callFree hM p X.admits X.cas X.clock (acts := []) hfr happ hPc trivial
  have hq' : vx_Q Qc XC mc ms free a (U.calling g mk a) o s₂ := hq
  rw [State.frames_setTop' g h.top] at hend
  obtain ⟨g₀, hg0⟩ := Option.isSome_iff_exists.mp h.top
  obtain ⟨r, hr⟩ := State.topJava?_eq_some.mp hg0
  have hr' : (({ U with heap := s₂.heap, slotsUsed := s₂.slotsUsed } : State).setVm s₂.vm).frames = .java g₀ :: r := hr
  rcases hq' with ⟨hqc, L, hfe, hL⟩ | ⟨q, rfl, E, ce, L, hx, hce, hcv, hcl, hW₂, hsm, hL⟩
  · obtain ⟨⟨v, rfl⟩, hW₂, e2, q2, q3, q4, q5, q6⟩ := id hfe
    have e3 : s₂ = ({ (U.calling g mk a).setFrames s₂.frames with heap := s₂.heap, slotsUsed := s₂.slotsUsed } : State).setVm s₂.vm := by
      have : s₂ = ({ s₂ with vm := (U.calling g mk a).vm } : State).setVm s₂.vm := rfl
      rw [e2] at this
      exact this
    obtain ⟨c₂, i₂, len₂, hc₂, hd₂, hf₂⟩ := hend
    have hW' : U.WarmedH s₂.vm := hW₂
    have hcc : c₂ = c := by
      have h1 : s₂.code? g.method = U.code? g.method := by
        rw [State.code?_eq, State.code?_eq, hW'.alike.method?]
      exact Option.some.inj (hc₂.symm.trans (h1.trans h.code))
    subst hcc
    have hlen : len₂ = len := by rw [hdg] at hd₂; cases hd₂; rfl
    subst hlen
    have hs₂ : s₂ = (({ U with heap := s₂.heap, slotsUsed := s₂.slotsUsed } : State).setVm s₂.vm).setTop { g with pc := g.pc + len₂, stack := v.toList ++ g.stack } := by
      refine e3.trans ?_
      rw [hf₂, State.calling_eq h.top, State.setFrames_setFrames, State.setTop_of_frames _ hr', hr]
      rfl
    have hsame : U.sameButNew ({ U with heap := s₂.heap, slotsUsed := s₂.slotsUsed } : State) L mc ms := by
      refine ⟨?_, q2, q3, q4, q5, q6⟩
      obtain ⟨t, ht, -⟩ := State.frames_cons hr
      show ({ U with heap := s₂.heap, slotsUsed := s₂.slotsUsed } : State) = { U.setFrames U.frames with heap := s₂.heap, slotsUsed := s₂.slotsUsed }
      rw [State.setFrames_self ht]
    subst hg
    refine Or.inl ⟨v, ⟨(({ U with heap := s₂.heap, slotsUsed := s₂.slotsUsed } : State).setVm s₂.vm), Ls ++ L, c0 + mc, s0 + ms⟩,
      ⟨X.admits, X.cas, X.clock, X.frames, X.room, X.hears, X.method, X.code, (X.here.setHeapUsed s₂.heap s₂.slotsUsed).setVm hW'.alike, X.tail, State.WarmedH.trans X.warmed hW', X.limits, X.bytes, X.same.trans (hsame.setVm s.vm)⟩,
      ⟨g, mk, s₂, L, rfl, rfl, hqc, rfl, hL, rfl, rfl⟩, ?_⟩
    show Steps p.tables e below _ ((({ U with heap := s₂.heap, slotsUsed := s₂.slotsUsed } : State).setVm s₂.vm).setTop { g with pc := g.pc + len₂, stack := v.toList ++ g.stack })
    rw [← hs₂]
    exact hsteps
  · obtain ⟨e2, q2, q3, q4, q5, q6⟩ := id hsm
    have e3 : s₂ = ({ (U.calling g mk a).setFrames s₂.frames with heap := s₂.heap, slotsUsed := s₂.slotsUsed } : State).setVm s₂.vm := by
      have : s₂ = ({ s₂ with vm := (U.calling g mk a).vm } : State).setVm s₂.vm := rfl
      rw [e2] at this
      exact this
    have hf₂ : s₂.frames = .throwing q :: .java g :: U.frames.tail := hend
    have hW' : U.WarmedH s₂.vm := hW₂
    have hs₂ : s₂ = ((({ U with heap := s₂.heap, slotsUsed := s₂.slotsUsed } : State).setVm s₂.vm).setTop g).pushFrame (.throwing q) := by
      refine e3.trans ?_
      rw [hf₂, State.calling_eq h.top, State.setFrames_setFrames, State.pushFrame, State.frames_setTop _ hr', State.setTop_of_frames _ hr', State.setFrames_setFrames, hr]
      rfl
    have hsame : U.sameButNew ({ U with heap := s₂.heap, slotsUsed := s₂.slotsUsed } : State) L mc ms := by
      refine ⟨?_, q2, q3, q4, q5, q6⟩
      obtain ⟨t, ht, -⟩ := State.frames_cons hr
      show ({ U with heap := s₂.heap, slotsUsed := s₂.slotsUsed } : State) = { U.setFrames U.frames with heap := s₂.heap, slotsUsed := s₂.slotsUsed }
      rw [State.setFrames_self ht]
    subst hg
    refine Or.inr ⟨q, ⟨(({ U with heap := s₂.heap, slotsUsed := s₂.slotsUsed } : State).setVm s₂.vm), Ls ++ L, c0 + mc, s0 + ms⟩,
      ⟨X.admits, X.cas, X.clock, X.frames, X.room, X.hears, X.method, X.code, (X.here.setHeapUsed s₂.heap s₂.slotsUsed).setVm hW'.alike, X.tail, State.WarmedH.trans X.warmed hW', X.limits, X.bytes, X.same.trans (hsame.setVm s.vm)⟩,
      ⟨g, mk, s₂, L, E, ce, rfl, rfl, hx, hce, hcv, hcl, rfl, hL, rfl, rfl⟩, ?_⟩
    show Steps p.tables e below _ (((({ U with heap := s₂.heap, slotsUsed := s₂.slotsUsed } : State).setVm s₂.vm).setTop g).pushFrame (.throwing q))
    rw [← hs₂]
    exact hsteps
end
variable {p : Program} {l : Launch} {e : Env} {R : Room} {s : State} {m : MethodId} {args : Array Value} {below : List Frame} {meth : Method} {c : Code} {T : State} {H : Heap} {locs : List Loc} {cells slots : Nat}
theorem vx_callVX (X : Stand p l e R s m args below meth c T locs cells slots) (hexec : p.tables.exec = Jvm.exec) {own C : String} {index : Nat} {y : MethodName} {bytes : ByteArray} {maxL : Nat} {ret : Option FieldType} {hh : List (Nat × Nat × Nat × Nat)}
    (hown : s.vm.findClass own = some m.cls) (hlink : (Cond.methodLink own index y).before args s = true) (hinst : (Cond.instanceMethod y).before args s = true) (hsel : (Cond.selects C y y).before args s = true)
    (hcode : (Cond.codeWith y bytes maxL ret hh).before args s = true) (hy : y.cls ≠ "java/lang/invoke/MethodHandle" ∧ y.cls ≠ "java/lang/invoke/VarHandle")
    {W9 : Nat} {Pre : Pt → Array Value → Prop} {Post : Pt → Array Value → Option Value → Pt → Prop} {PostX : Pt → Array Value → Addr → Pt → Prop} (hK : vx_Back l R p e below s args y 3 W9 Pre Post PostX)
    {b : Addr} {cellB : Cell} (hcell : T.heap[b]? = some cellB) (hobj : cellB.vm.isStatics = false) (hcls : s.vm.findClass C = some cellB.cls)
    {g : JFrame} (hg : g.method = m) (hsize : g.locals.size = c.maxLocals) {argsL rest : List Value} (hlen : ∀ sig, parseMethodDescriptor y.desc = some sig → argsL.length = sig.parameters.length)
    (hstack : g.stack = argsL.reverse ++ .ref b :: rest) (hW : 2 * g.monitorRoom + (rest.map fun v => v.category).sum ≤ W9) (hdg : decode c.code g.pc = .ok (.invokevirtual index, 3))
    (hpre : ∀ vm₁, s.WarmedH vm₁ → Pre ⟨T.setVm vm₁, locs, cells, slots⟩ (Value.ref b :: argsL).toArray) :
    (∃ (v : Option Value) (vm₁ : Vm) (B : Pt), s.WarmedH vm₁ ∧ Stand p l e R s m args below meth c B.U B.locs B.cells B.slots ∧ Post ⟨T.setVm vm₁, locs, cells, slots⟩ (Value.ref b :: argsL).toArray v B ∧
      ∀ target, Steps p.tables e below (B.U.setTop { g with pc := g.pc + 3, stack := v.toList ++ rest }) target → Steps p.tables e below (T.setTop g) target) ∨
    (∃ (q : Addr) (vm₁ : Vm) (B : Pt), s.WarmedH vm₁ ∧ Stand p l e R s m args below meth c B.U B.locs B.cells B.slots ∧ PostX ⟨T.setVm vm₁, locs, cells, slots⟩ (Value.ref b :: argsL).toArray q B ∧
      Steps p.tables e below (T.setTop g) ((B.U.setTop { g with stack := rest }).pushFrame (.throwing q))) := by
  obtain ⟨mk, methM, hnamed, hmethM, hstM, habM⟩ := Cond.instanceMethod_spec hinst
  obtain ⟨m8, methM', cM, hn8, hmethM', -, -, -, -, -, -, hsigM⟩ := Cond.codeWith_spec hcode
  cases Option.some.inj (hn8.symm.trans hnamed)
  cases hmethM.symm.trans hmethM'
  obtain ⟨c2, r2, m2, q1, q2, q3, q4, kP, hkP, hkPi⟩ := Cond.selects_spec hsel
  cases hcls.symm.trans q1
  cases (State.methodFound?_of_named hnamed hy).symm.trans q2
  cases hnamed.symm.trans q3
  have hselP : selectMethod e.platform s.vm cellB.cls mk = .method mk := by rw [Launch.admits_selectMethod X.admits]; exact q4
  obtain ⟨vm₁, X₁, hstep₁⟩ := X.invokevirtual hexec hown hlink hnamed hmethM hstM hkP hkPi hy (a := b) (cell := cellB) hcell
    (fun z h => by rw [h] at hobj; cases hobj) hselP hmethM habM hkP hkPi (g := g) hg (argsL := argsL) (rest := rest) (hlen _ hsigM) hstack hdg
  rcases hK m meth c ⟨T.setVm vm₁, locs, cells, slots⟩ { g with stack := rest } (.invokevirtual index) mk (Value.ref b :: argsL).toArray X₁ hg hsize hdg hW (X₁.named hnamed) (hpre vm₁ X₁.warmed) with ⟨v, B, X', hpost, hsteps⟩ | ⟨q, B, X', hpost, hsteps⟩
  · exact Or.inl ⟨v, vm₁, B, X₁.warmed, X', hpost, fun target h => hstep₁ _ fun acts => by rw [doInvoke_state]; exact hsteps.trans h⟩
  · exact Or.inr ⟨q, vm₁, B, X₁.warmed, X', hpost, hstep₁ _ fun acts => by rw [doInvoke_state]; exact hsteps⟩
theorem vx_callSX (X : Stand p l e R s m args below meth c T locs cells slots) (hexec : p.tables.exec = Jvm.exec) {own : String} {index : Nat} {y : MethodName} {bytes : ByteArray} {maxL : Nat} {ret : Option FieldType} {hh : List (Nat × Nat × Nat × Nat)}
    (hown : s.vm.findClass own = some m.cls) (hlink : (Cond.methodLink own index y).before args s = true) (hstat : (Cond.static y).before args s = true) (hinit : (Cond.initialized y.cls).before args s = true)
    (hcode : (Cond.codeWith y bytes maxL ret hh).before args s = true) (hy : y.cls ≠ "java/lang/invoke/MethodHandle" ∧ y.cls ≠ "java/lang/invoke/VarHandle")
    {W9 : Nat} {Pre : Pt → Array Value → Prop} {Post : Pt → Array Value → Option Value → Pt → Prop} {PostX : Pt → Array Value → Addr → Pt → Prop} (hK : vx_Back l R p e below s args y 3 W9 Pre Post PostX)
    {g : JFrame} (hg : g.method = m) (hsize : g.locals.size = c.maxLocals) {argsL rest : List Value} (hlen : ∀ sig, parseMethodDescriptor y.desc = some sig → argsL.length = sig.parameters.length)
    (hstack : g.stack = argsL.reverse ++ rest) (hW : 2 * g.monitorRoom + (rest.map fun v => v.category).sum ≤ W9) (hdg : decode c.code g.pc = .ok (.invokestatic index, 3))
    (hpre : ∀ vm₁, s.WarmedH vm₁ → Pre ⟨T.setVm vm₁, locs, cells, slots⟩ argsL.toArray) :
    (∃ (v : Option Value) (vm₁ : Vm) (B : Pt), s.WarmedH vm₁ ∧ Stand p l e R s m args below meth c B.U B.locs B.cells B.slots ∧ Post ⟨T.setVm vm₁, locs, cells, slots⟩ argsL.toArray v B ∧
      ∀ target, Steps p.tables e below (B.U.setTop { g with pc := g.pc + 3, stack := v.toList ++ rest }) target → Steps p.tables e below (T.setTop g) target) ∨
    (∃ (q : Addr) (vm₁ : Vm) (B : Pt), s.WarmedH vm₁ ∧ Stand p l e R s m args below meth c B.U B.locs B.cells B.slots ∧ PostX ⟨T.setVm vm₁, locs, cells, slots⟩ argsL.toArray q B ∧
      Steps p.tables e below (T.setTop g) ((B.U.setTop { g with stack := rest }).pushFrame (.throwing q))) := by
  obtain ⟨mk, methM, cM, hnamed, hmethM, -, -, -, -, -, -, hsigM⟩ := Cond.codeWith_spec hcode
  have hstatic : methM.isStatic = true := Cond.static_spec hnamed hmethM hstat
  obtain ⟨kP, hkP, -⟩ := className_of_methodNamed hnamed
  have hinitP : kP.init = .initialized := Cond.initialized_spec (findClass_of_methodNamed hnamed) hkP hinit
  obtain ⟨vm₁, X₁, hstep₁⟩ := X.invokestatic hexec hown hlink hnamed hmethM hstatic hkP hinitP hy (g := g) hg (argsL := argsL) (rest := rest) (hlen _ hsigM) hstack hdg
  rcases hK m meth c ⟨T.setVm vm₁, locs, cells, slots⟩ { g with stack := rest } (.invokestatic index) mk argsL.toArray X₁ hg hsize hdg hW (X₁.named hnamed) (hpre vm₁ X₁.warmed) with ⟨v, B, X', hpost, hsteps⟩ | ⟨q, B, X', hpost, hsteps⟩
  · exact Or.inl ⟨v, vm₁, B, X₁.warmed, X', hpost, fun target h => hstep₁ _ fun acts => by rw [doInvoke_state]; exact hsteps.trans h⟩
  · exact Or.inr ⟨q, vm₁, B, X₁.warmed, X', hpost, hstep₁ _ fun acts => by rw [doInvoke_state]; exact hsteps⟩
theorem vx_callVW (X : Stand p l e R s m args below meth c T locs cells slots) (hexec : p.tables.exec = Jvm.exec) {own C : String} {index : Nat} {y : MethodName} {bytes : ByteArray} {maxL : Nat} {ret : Option FieldType} {hh : List (Nat × Nat × Nat × Nat)}
    (hown : s.vm.findClass own = some m.cls) (hlink : (Cond.methodLink own index y).before args s = true) (hinst : (Cond.instanceMethod y).before args s = true) (hsel : (Cond.selects C y y).before args s = true)
    (hcode : (Cond.codeWith y bytes maxL ret hh).before args s = true) (hy : y.cls ≠ "java/lang/invoke/MethodHandle" ∧ y.cls ≠ "java/lang/invoke/VarHandle")
    {W9 : Nat} {Pre : Pt → Array Value → Prop} {Post : Pt → Array Value → Option Value → Pt → Prop} (hK : Back l R p e below s args y 3 W9 Pre Post)
    {b : Addr} {cellB : Cell} (hcell : T.heap[b]? = some cellB) (hobj : cellB.vm.isStatics = false) (hcls : s.vm.findClass C = some cellB.cls)
    {g : JFrame} (hg : g.method = m) (hsize : g.locals.size = c.maxLocals) {argsL rest : List Value} (hlen : ∀ sig, parseMethodDescriptor y.desc = some sig → argsL.length = sig.parameters.length)
    (hstack : g.stack = argsL.reverse ++ .ref b :: rest) (hW : 2 * g.monitorRoom + (rest.map fun v => v.category).sum ≤ W9) (hdg : decode c.code g.pc = .ok (.invokevirtual index, 3))
    (hpre : ∀ vm₁, s.WarmedH vm₁ → Pre ⟨T.setVm vm₁, locs, cells, slots⟩ (Value.ref b :: argsL).toArray) :
    ∃ (v : Option Value) (vm₁ : Vm) (B : Pt), s.WarmedH vm₁ ∧ Stand p l e R s m args below meth c B.U B.locs B.cells B.slots ∧ Post ⟨T.setVm vm₁, locs, cells, slots⟩ (Value.ref b :: argsL).toArray v B ∧
      ∀ target, Steps p.tables e below (B.U.setTop { g with pc := g.pc + 3, stack := v.toList ++ rest }) target → Steps p.tables e below (T.setTop g) target := by
  obtain ⟨mk, methM, hnamed, hmethM, hstM, habM⟩ := Cond.instanceMethod_spec hinst
  obtain ⟨m8, methM', cM, hn8, hmethM', -, -, -, -, -, -, hsigM⟩ := Cond.codeWith_spec hcode
  cases Option.some.inj (hn8.symm.trans hnamed)
  cases hmethM.symm.trans hmethM'
  obtain ⟨c2, r2, m2, q1, q2, q3, q4, kP, hkP, hkPi⟩ := Cond.selects_spec hsel
  cases hcls.symm.trans q1
  cases (State.methodFound?_of_named hnamed hy).symm.trans q2
  cases hnamed.symm.trans q3
  have hselP : selectMethod e.platform s.vm cellB.cls mk = .method mk := by rw [Launch.admits_selectMethod X.admits]; exact q4
  obtain ⟨vm₁, X₁, hstep₁⟩ := X.invokevirtual hexec hown hlink hnamed hmethM hstM hkP hkPi hy (a := b) (cell := cellB) hcell
    (fun z h => by rw [h] at hobj; cases hobj) hselP hmethM habM hkP hkPi (g := g) hg (argsL := argsL) (rest := rest) (hlen _ hsigM) hstack hdg
  obtain ⟨v, B, X', hpost, hsteps⟩ := hK m meth c ⟨T.setVm vm₁, locs, cells, slots⟩ { g with stack := rest } (.invokevirtual index) mk (Value.ref b :: argsL).toArray X₁ hg hsize hdg hW (X₁.named hnamed) (hpre vm₁ X₁.warmed)
  exact ⟨v, vm₁, B, X₁.warmed, X', hpost, fun target h => hstep₁ _ fun acts => by rw [doInvoke_state]; exact hsteps.trans h⟩
abbrev vx_CVW (R : Room) (s : State) (args : Array Value) (own C : String) (index : Nat) (y : MethodName) (bytes : ByteArray) (maxL : Nat) (ret : Option FieldType) (hh : List (Nat × Nat × Nat × Nat)) (ws : List Cond) (rm : Room) (mc ms n : Nat) : Prop :=
  (rm.cells = mc ∧ rm.slots = ms ∧ rm.frames + 1 ≤ R.frames ∧ 8 + (maxL + 11) + rm.locals ≤ R.locals ∧ (∀ w ∈ ws, ∀ (a' : Array Value) (U : State), s.WarmedH U.vm → w.before a' U = true) ∧ Cond.codeWith y bytes maxL ret hh ∈ ws) ∧
  (Cond.codeWith y bytes maxL ret hh).before args s = true ∧ (Cond.initialized y.cls).before args s = true ∧ (y.cls ≠ "java/lang/invoke/MethodHandle" ∧ y.cls ≠ "java/lang/invoke/VarHandle") ∧
  (∀ sig, parseMethodDescriptor y.desc = some sig → n = sig.parameters.length) ∧ (Cond.methodLink own index y).before args s = true ∧ (Cond.instanceMethod y).before args s = true ∧ (Cond.selects C y y).before args s = true
theorem vx_cwVW {own C : String} {index maxL mc ms : Nat} {y : MethodName} {bytes : ByteArray} {ret : Option FieldType} {hh : List (Nat × Nat × Nat × Nat)} {Ts ws ws' : List Cond} {rm : Room} (n : Nat) (ht : ∀ w ∈ Ts, w.before args s = true) (hT : GoodIn Ts (wsV own index C y ws)) (hw : ws = Cond.codeWith y bytes maxL ret hh :: ws') (hrc : rm.cells = mc) (hrs : rm.slots = ms)
    (hd : y.cls = C ∧ y.cls ≠ "java/lang/invoke/MethodHandle" ∧ y.cls ≠ "java/lang/invoke/VarHandle" ∧ (parseMethodDescriptor y.desc).map (fun d => d.parameters.length) = some n) (hR : rm.frames + 1 ≤ R.frames ∧ 8 + (maxL + 11) + rm.locals ≤ R.locals) :
    vx_CVW R s args own C index y bytes maxL ret hh ws rm mc ms n := by
  obtain ⟨hC, hd⟩ := hd
  subst hC
  have ok : ∀ w ∈ wsV own index y.cls y ws, w.before args s = true := fun w h => ht w (hT w h).1
  have hG : GoodIn Ts ws := fun w h => hT w (by unfold wsV; exact List.mem_append_right _ h)
  have hc : Cond.codeWith y bytes maxL ret hh ∈ ws := by rw [hw]; exact List.mem_cons_self
  refine ⟨⟨hrc, hrs, hR.1, hR.2, pay_in ht hG, hc⟩, ht _ (hG _ hc).1, ok _ (by simp [wsV]), ⟨hd.1, hd.2.1⟩, fun sig h => ?_, ok _ (by simp [wsV]), ok _ (by simp [wsV]), ok _ (by simp [wsV])⟩
  have h2 := hd.2.2
  rw [h] at h2
  exact (Option.some.inj h2).symm
theorem vx_runVW {y : MethodName} {bytes cc : ByteArray} {maxL nL mc ms n index : Nat} {ret : Option FieldType} {hh : List (Nat × Nat × Nat × Nat)} {ws : List Cond} {rm : Room} {Pc : Array Value → State → Prop} {Qc : Array Value → State → Outcome → State → Prop} {free : Addr → Prop} {Ts : List Cond} {own C : String} {b : Addr} {As rest : List Value} {g : JFrame}
    (S : CallFix p m c cc nL s args Ts own) (hM : Met l y ws rm Pc Qc mc ms free) (cw : vx_CVW R s args own C index y bytes maxL ret hh ws rm mc ms n) (hp : PreV s H C b Pc As)
    (hg : g.method = m) (hn : As.length = n) (hsize : g.locals.size = nL) (hstack : g.stack = As.reverse ++ .ref b :: rest) (hW : 2 * g.monitorRoom + (rest.map fun v => v.category).sum ≤ 8) (hdg : decode cc g.pc = .ok (.invokevirtual index, 3)) (hf : cells + mc ≤ R.cells ∧ slots + ms ≤ R.slots) :
    va_Run p l e R s m args below meth c H locs cells slots mc ms g rest (Qc (Value.ref b :: As).toArray) free := by
  obtain ⟨⟨hrc, hrs, hfr, hlo, hws, hcw⟩, hcode, hini, hy, hlen, hl, hin, hse⟩ := cw
  have hK : Back l R p e below s args y 3 8 (PreOf R mc ms Pc) (PostOf Qc mc ms free) := va_backW (hh := hh) (bytes := bytes) (maxL := maxL) (ret := ret) hM hp.1 hrc hrs hfr hlo hws hcw (fun a' U hW => word_at hW (Or.inl (by first | rfl | simp [Cond.onTables, Cond.keeps, Cond.steady])) hini)
  obtain ⟨hx, hb, hml, ho, -⟩ := S
  obtain ⟨-, ⟨cellB, hcB, hoB, hclB⟩, hPc⟩ := hp
  intro T hT X
  obtain ⟨v, vm₁, ⟨U', l2, c2, s2⟩, hW₁, X', ⟨g', mk, t, L, e1, e2, hq, h1, hL, h2, h3⟩, st⟩ := vx_callVW X hx (C := C) (hh := hh) (bytes := bytes) (maxL := maxL) (ret := ret) ho hl hin hse hcode hy hK (by rw [hT]; exact hcB) hoB hclB hg (hsize.trans hml.symm) (argsL := As) (rest := rest) (fun sig h => hn.trans (hlen sig h)) hstack hW (by rw [hb]; exact hdg)
    (fun vm₁ hW₁ => ⟨hf.1, hf.2, hPc (T.setVm vm₁) hT hW₁⟩)
  dsimp only [Pt.U, Pt.locs, Pt.cells, Pt.slots] at X' e1 e2 h1 h2 h3 st
  subst h1; subst h2; subst h3
  exact ⟨v, (T.setVm vm₁).calling g' mk (Value.ref b :: As).toArray, t, U', L, hT, X', hL, e1, e2, hq, st⟩
section
variable {y : MethodName} {bytes cc : ByteArray} {maxL nL mc ms n index : Nat} {ret : Option FieldType} {ws : List Cond} {rm : Room} {Pc : Array Value → State → Prop} {Qc : Array Value → State → Outcome → State → Prop} {XC : String → State → State → Prop} {free : Addr → Prop} {Ts : List Cond} {own C : String} {b : Addr} {As rest : List Value} {g : JFrame}
theorem vx_runVX {hh : List (Nat × Nat × Nat × Nat)} (S : CallFix p m c cc nL s args Ts own) (hM : vx_Met l y ws rm Pc Qc XC mc ms free) (cw : vx_CVW R s args own C index y bytes maxL ret hh ws rm mc ms n) (hp : PreV s H C b Pc As)
    (hg : g.method = m) (hn : As.length = n) (hsize : g.locals.size = nL) (hstack : g.stack = As.reverse ++ .ref b :: rest) (hW : 2 * g.monitorRoom + (rest.map fun v => v.category).sum ≤ 8) (hdg : decode cc g.pc = .ok (.invokevirtual index, 3)) (hf : cells + mc ≤ R.cells ∧ slots + ms ≤ R.slots) :
    vx_Run p l e R s m args below meth c H locs cells slots mc ms g rest (Qc (Value.ref b :: As).toArray) XC free := by
  obtain ⟨⟨hrc, hrs, hfr, hlo, hws, hcw⟩, hcode, hini, hy, hlen, hl, hin, hse⟩ := cw
  have hK : vx_Back l R p e below s args y 3 8 (PreOf R mc ms Pc) (PostOf Qc mc ms free) (vx_Post XC mc ms free) := vx_backW (hh := hh) (bytes := bytes) (maxL := maxL) (ret := ret) hM hp.1 hrc hrs hfr hlo hws hcw (fun a' U hW => word_at hW (Or.inl (by first | rfl | simp [Cond.onTables, Cond.keeps, Cond.steady])) hini)
  obtain ⟨hx, hb, hml, ho, -⟩ := S
  obtain ⟨-, ⟨cellB, hcB, hoB, hclB⟩, hPc⟩ := hp
  intro T hT X
  rcases vx_callVX X hx (C := C) (hh := hh) (bytes := bytes) (maxL := maxL) (ret := ret) ho hl hin hse hcode hy hK (by rw [hT]; exact hcB) hoB hclB hg (hsize.trans hml.symm) (argsL := As) (rest := rest) (fun sig h => hn.trans (hlen sig h)) hstack hW (by rw [hb]; exact hdg)
    (fun vm₁ hW₁ => ⟨hf.1, hf.2, hPc (T.setVm vm₁) hT hW₁⟩) with ⟨v, vm₁, ⟨U', l2, c2, s2⟩, hW₁, X', ⟨g', mk, t, L, e1, e2, hq, h1, hL, h2, h3⟩, st⟩ | ⟨q, vm₁, ⟨U', l2, c2, s2⟩, hW₁, X', ⟨g', mk, t, L, E, ce, e1, e2, hq, hce, hcv, hcl, h1, hL, h2, h3⟩, st⟩
  · dsimp only [Pt.U, Pt.locs, Pt.cells, Pt.slots] at X' e1 e2 h1 h2 h3 st
    subst h1; subst h2; subst h3
    exact Or.inl ⟨v, (T.setVm vm₁).calling g' mk (Value.ref b :: As).toArray, t, U', L, hT, X', hL, e1, e2, hq, st⟩
  · dsimp only [Pt.U, Pt.locs, Pt.cells, Pt.slots] at X' e1 e2 h1 h2 h3 st hcl
    subst h1; subst h2; subst h3
    exact Or.inr ⟨q, (T.setVm vm₁).calling g' mk (Value.ref b :: As).toArray, t, U', L, E, ce, hT, X', hL, e1, e2, hq, hce, hcv, vx_cls hW₁ hcl, st⟩
theorem vx_runSX {hh : List (Nat × Nat × Nat × Nat)} (S : CallFix p m c cc nL s args Ts own) (hM : vx_Met l y ws rm Pc Qc XC mc ms free) (cw : vx_CSW R s args own index y bytes maxL ret hh ws rm mc ms n) (hp : PreS s H Pc As)
    (hg : g.method = m) (hn : As.length = n) (hsize : g.locals.size = nL) (hstack : g.stack = As.reverse ++ rest) (hW : 2 * g.monitorRoom + (rest.map fun v => v.category).sum ≤ 8) (hdg : decode cc g.pc = .ok (.invokestatic index, 3)) (hf : cells + mc ≤ R.cells ∧ slots + ms ≤ R.slots) :
    vx_Run p l e R s m args below meth c H locs cells slots mc ms g rest (Qc As.toArray) XC free := by
  obtain ⟨⟨hrc, hrs, hfr, hlo, hws, hcw⟩, hcode, hini, hy, hlen, hl, hstt⟩ := cw
  have hK : vx_Back l R p e below s args y 3 8 (PreOf R mc ms Pc) (PostOf Qc mc ms free) (vx_Post XC mc ms free) := vx_backW (hh := hh) (bytes := bytes) (maxL := maxL) (ret := ret) hM hp.1 hrc hrs hfr hlo hws hcw (fun a' U hW => word_at hW (Or.inl (by first | rfl | simp [Cond.onTables, Cond.keeps, Cond.steady])) hini)
  obtain ⟨hx, hb, hml, ho, -⟩ := S
  intro T hT X
  rcases vx_callSX X hx (hh := hh) (bytes := bytes) (maxL := maxL) (ret := ret) ho hl hstt hini hcode hy hK hg (hsize.trans hml.symm) (argsL := As) (rest := rest) (fun sig h => hn.trans (hlen sig h)) hstack hW (by rw [hb]; exact hdg)
    (fun vm₁ hW₁ => ⟨hf.1, hf.2, hp.2 (T.setVm vm₁) hT hW₁⟩) with ⟨v, vm₁, ⟨U', l2, c2, s2⟩, hW₁, X', ⟨g', mk, t, L, e1, e2, hq, h1, hL, h2, h3⟩, st⟩ | ⟨q, vm₁, ⟨U', l2, c2, s2⟩, hW₁, X', ⟨g', mk, t, L, E, ce, e1, e2, hq, hce, hcv, hcl, h1, hL, h2, h3⟩, st⟩
  · dsimp only [Pt.U, Pt.locs, Pt.cells, Pt.slots] at X' e1 e2 h1 h2 h3 st
    subst h1; subst h2; subst h3
    exact Or.inl ⟨v, (T.setVm vm₁).calling g' mk As.toArray, t, U', L, hT, X', hL, e1, e2, hq, st⟩
  · dsimp only [Pt.U, Pt.locs, Pt.cells, Pt.slots] at X' e1 e2 h1 h2 h3 st hcl
    subst h1; subst h2; subst h3
    exact Or.inr ⟨q, (T.setVm vm₁).calling g' mk As.toArray, t, U', L, E, ce, hT, X', hL, e1, e2, hq, hce, hcv, vx_cls hW₁ hcl, st⟩
end
end VXH
theorem vx_ofWH {l : Launch} {y : MethodName} {ws ws' : List Cond} {rm : Room} {Pc : Array Value → State → Prop} {Qc : Array Value → State → Outcome → State → Prop} {XC : String → State → State → Prop} {mc ms : Nat} {free : Addr → Prop} {cc : ByteArray} {maxL : Nat} {ret : Option FieldType} {hh : List (Nat × Nat × Nat × Nat)}
    (hy : plainName y.cls = true) (hw : ws = Cond.codeWith y cc maxL ret hh :: ws')
    (body : ∀ p e s m args below meth c s₁, BodyLoose p l y (headSpec ws rm) cc maxL ret e s m args below meth c s₁ → c.maxLocals = maxL → Pc args s →
      W p l e (headSpec ws rm).room s m args below meth c s.heap [] 0 0 (vx_MQ below Qc XC args s mc ms free) (entryFrame m args maxL)) : vx_Met l y ws rm Pc Qc XC mc ms free := by
  refine MetFree.of_bodyS (code := cc) (maxLocals := maxL) (ret := ret) hy ?_ ?_
  · intro args s m h hn
    obtain ⟨m9, meth, c, hn9, h1, h2, h3, h4, -, h5, h6, -⟩ := Cond.codeWith_spec (atoms_spec (ws := ws) h _ (by rw [hw]; exact List.mem_cons_self))
    cases hn.symm.trans hn9
    exact ⟨meth, c, h1, h2, h3, h4, h5, h6⟩
  · intro p e s m args below meth c s₁ B hml hP _
    have hh0 : s₁.heap = s.heap := by rw [B.state]; rfl
    obtain ⟨t, a1, o, b1, b2, b3⟩ := body p e s m args below meth c s₁ B hml hP s₁ hh0 (Stand.of_body B)
    exact ⟨t, o, a1, b1, b2, b3⟩
/-! ===== END ===== -/
end
section
def RX0 : String := "TraderRights$Mandates"
def TX0 : u_T := fun k => match k with
  | 0 => ("TraderRights$Mandates", "size", "I", false)
  | 1 => ("TraderRights$Mandates", "giver", "[I", true)
  | 2 => ("TraderRights$Mandates", "taker", "[I", true)
  | 3 => ("TraderRights$Mandates", "isDirect", "[Z", true)
  | _ => ("TraderRights$Mandates", "until", "[I", true)
def tyX0 : Nat → FieldType := fun k => match k with
  | 0 => .int
  | 1 => .array .int
  | 2 => .array .int
  | 3 => .array .boolean
  | _ => .array .int
abbrev wsX00 : List Cond := u_ws RX0 TX0 5
theorem nmX0 : ∀ a, a < 5 → ∀ b, b < 5 → a ≠ b → (TX0 a).2.1 ≠ (TX0 b).2.1 := by decide +kernel
theorem tyX0_ok : ∀ k, k < 5 → parseFieldDescriptor (TX0 k).2.2.1 = some (tyX0 k) := by decide +kernel
abbrev cX0_init : ByteArray := prog_2_method_1_code
def yX0_init : MethodName := ⟨RX0, "<init>", "()V"⟩
abbrev cX0_append : ByteArray := prog_2_method_2_code
def yX0_append : MethodName := ⟨RX0, "append", "(IIZI)V"⟩
abbrev cX0_giversTo : ByteArray := prog_2_method_3_code
def yX0_giversTo : MethodName := ⟨RX0, "giversTo", "(IZI)I"⟩
abbrev cX0_sizeOf : ByteArray := prog_2_method_4_code
def yX0_sizeOf : MethodName := ⟨RX0, "sizeOf", "(II)I"⟩
def RX1 : String := "TraderRights$Reader"
def TX1 : u_T := fun k => match k with
  | 0 => ("TraderRights$Reader", "latest", "I", false)
  | 1 => ("TraderRights$Reader", "lettersRead", "I", false)
  | _ => ("TraderRights$Reader", "number", "I", false)
def tyX1 : Nat → FieldType := fun k => match k with
  | 0 => .int
  | 1 => .int
  | _ => .int
abbrev wsX10 : List Cond := u_ws RX1 TX1 3
theorem nmX1 : ∀ a, a < 3 → ∀ b, b < 3 → a ≠ b → (TX1 a).2.1 ≠ (TX1 b).2.1 := by decide +kernel
theorem tyX1_ok : ∀ k, k < 3 → parseFieldDescriptor (TX1 k).2.2.1 = some (tyX1 k) := by decide +kernel
abbrev cX1_init : ByteArray := prog_3_method_1_code
def yX1_init : MethodName := ⟨RX1, "<init>", "()V"⟩
abbrev cX1_read : ByteArray := prog_3_method_2_code
def yX1_read : MethodName := ⟨RX1, "read", "(I)I"⟩
abbrev cX1_restart : ByteArray := prog_3_method_3_code
def yX1_restart : MethodName := ⟨RX1, "restart", "()V"⟩
def RX2 : String := "TraderRights$Rights"
def TX2 : u_T := fun k => match k with
  | 0 => ("TraderRights$Rights", "size", "I", false)
  | 1 => ("TraderRights$Rights", "trader", "[I", true)
  | 2 => ("TraderRights$Rights", "act", "[I", true)
  | 3 => ("TraderRights$Rights", "place", "[I", true)
  | 4 => ("TraderRights$Rights", "from", "[I", true)
  | _ => ("TraderRights$Rights", "to", "[I", true)
def tyX2 : Nat → FieldType := fun k => match k with
  | 0 => .int
  | 1 => .array .int
  | 2 => .array .int
  | 3 => .array .int
  | 4 => .array .int
  | _ => .array .int
abbrev wsX20 : List Cond := u_ws RX2 TX2 6
theorem nmX2 : ∀ a, a < 6 → ∀ b, b < 6 → a ≠ b → (TX2 a).2.1 ≠ (TX2 b).2.1 := by decide +kernel
theorem tyX2_ok : ∀ k, k < 6 → parseFieldDescriptor (TX2 k).2.2.1 = some (tyX2 k) := by decide +kernel
abbrev cX2_init : ByteArray := prog_4_method_1_code
def yX2_init : MethodName := ⟨RX2, "<init>", "()V"⟩
abbrev cX2_append : ByteArray := prog_4_method_2_code
def yX2_append : MethodName := ⟨RX2, "append", "(IIIII)V"⟩
abbrev cX2_tradersWith : ByteArray := prog_4_method_3_code
def yX2_tradersWith : MethodName := ⟨RX2, "tradersWith", "(III)I"⟩
abbrev cX2_actsOf : ByteArray := prog_4_method_4_code
def yX2_actsOf : MethodName := ⟨RX2, "actsOf", "(II)I"⟩
abbrev cX2_isOnDay : ByteArray := prog_4_method_5_code
def yX2_isOnDay : MethodName := ⟨RX2, "isOnDay", "(II)Z"⟩
def RX3 : String := "TraderRights$Suspensions"
def TX3 : u_T := fun k => match k with
  | 0 => ("TraderRights$Suspensions", "size", "I", false)
  | 1 => ("TraderRights$Suspensions", "trader", "[I", true)
  | 2 => ("TraderRights$Suspensions", "from", "[I", true)
  | _ => ("TraderRights$Suspensions", "isSuspending", "[Z", true)
def tyX3 : Nat → FieldType := fun k => match k with
  | 0 => .int
  | 1 => .array .int
  | 2 => .array .int
  | _ => .array .boolean
abbrev wsX30 : List Cond := u_ws RX3 TX3 4
theorem nmX3 : ∀ a, a < 4 → ∀ b, b < 4 → a ≠ b → (TX3 a).2.1 ≠ (TX3 b).2.1 := by decide +kernel
theorem tyX3_ok : ∀ k, k < 4 → parseFieldDescriptor (TX3 k).2.2.1 = some (tyX3 k) := by decide +kernel
abbrev cX3_init : ByteArray := prog_5_method_1_code
def yX3_init : MethodName := ⟨RX3, "<init>", "()V"⟩
abbrev cX3_append : ByteArray := prog_5_method_2_code
def yX3_append : MethodName := ⟨RX3, "append", "(IIZ)V"⟩
abbrev cX3_isOn : ByteArray := prog_5_method_3_code
def yX3_isOn : MethodName := ⟨RX3, "isOn", "(II)Z"⟩
def RX4 : String := "TraderRights"
def TX4 : u_T := fun k => match k with
  | 0 => ("TraderRights", "traders", "I", false)
  | 1 => ("TraderRights", "actsOfTwo", "I", false)
  | 2 => ("TraderRights", "directGroups", "[I", true)
  | 3 => ("TraderRights", "forbiddenActs", "[I", true)
  | 4 => ("TraderRights", "deputies", "[I", true)
  | 5 => ("TraderRights", "principals", "[I", true)
  | 6 => ("TraderRights", "endDays", "[I", true)
  | 7 => ("TraderRights", "rights", "LTraderRights$Rights;", true)
  | 8 => ("TraderRights", "mandates", "LTraderRights$Mandates;", true)
  | 9 => ("TraderRights", "suspensions", "LTraderRights$Suspensions;", true)
  | _ => ("TraderRights", "reader", "LTraderRights$Reader;", true)
def tyX4 : Nat → FieldType := fun k => match k with
  | 0 => .int
  | 1 => .int
  | 2 => .array .int
  | 3 => .array .int
  | 4 => .array .int
  | 5 => .array .int
  | 6 => .array .int
  | 7 => .object "TraderRights$Rights"
  | 8 => .object "TraderRights$Mandates"
  | 9 => .object "TraderRights$Suspensions"
  | _ => .object "TraderRights$Reader"
abbrev wsX40 : List Cond := u_ws RX4 TX4 11
theorem nmX4 : ∀ a, a < 11 → ∀ b, b < 11 → a ≠ b → (TX4 a).2.1 ≠ (TX4 b).2.1 := by decide +kernel
theorem tyX4_ok : ∀ k, k < 11 → parseFieldDescriptor (TX4 k).2.2.1 = some (tyX4 k) := by decide +kernel
abbrev cX4_init : ByteArray := prog_1_method_1_code
def yX4_init : MethodName := ⟨RX4, "<init>", "()V"⟩
abbrev cX4_trader : ByteArray := prog_1_method_2_code
def yX4_trader : MethodName := ⟨RX4, "trader", "()I"⟩
abbrev cX4_right : ByteArray := prog_1_method_3_code
def yX4_right : MethodName := ⟨RX4, "right", "(IIIII)I"⟩
abbrev cX4_forbid : ByteArray := prog_1_method_4_code
def yX4_forbid : MethodName := ⟨RX4, "forbid", "(IIZ)Z"⟩
abbrev cX4_group : ByteArray := prog_1_method_5_code
def yX4_group : MethodName := ⟨RX4, "group", "(II)I"⟩
abbrev cX4_deputy : ByteArray := prog_1_method_6_code
def yX4_deputy : MethodName := ⟨RX4, "deputy", "(II)I"⟩
abbrev cX4_mandate : ByteArray := prog_1_method_7_code
def yX4_mandate : MethodName := ⟨RX4, "mandate", "(IIZI)I"⟩
abbrev cX4_suspend : ByteArray := prog_1_method_8_code
def yX4_suspend : MethodName := ⟨RX4, "suspend", "(IIZ)I"⟩
abbrev cX4_end : ByteArray := prog_1_method_9_code
def yX4_end : MethodName := ⟨RX4, "end", "(II)Z"⟩
abbrev cX4_may : ByteArray := prog_1_method_10_code
def yX4_may : MethodName := ⟨RX4, "may", "(IIII)I"⟩
abbrev cX4_two : ByteArray := prog_1_method_11_code
def yX4_two : MethodName := ⟨RX4, "two", "(IZ)Z"⟩
abbrev cX4_done : ByteArray := prog_1_method_12_code
def yX4_done : MethodName := ⟨RX4, "done", "(IIIII)I"⟩
abbrev cX4_letter : ByteArray := prog_1_method_13_code
def yX4_letter : MethodName := ⟨RX4, "letter", "(II)I"⟩
abbrev cX4_check : ByteArray := prog_1_method_14_code
def yX4_check : MethodName := ⟨RX4, "check", "(I)I"⟩
abbrev cX4_certified : ByteArray := prog_1_method_15_code
def yX4_certified : MethodName := ⟨RX4, "certified", "()I"⟩
abbrev cX4_look : ByteArray := prog_1_method_16_code
def yX4_look : MethodName := ⟨RX4, "look", "(III)I"⟩
abbrev cX4_count : ByteArray := prog_1_method_17_code
def yX4_count : MethodName := ⟨RX4, "count", "(I)I"⟩
abbrev cX4_isTrader : ByteArray := prog_1_method_18_code
def yX4_isTrader : MethodName := ⟨RX4, "isTrader", "(I)Z"⟩
abbrev cX4_areTwoTraders : ByteArray := prog_1_method_19_code
def yX4_areTwoTraders : MethodName := ⟨RX4, "areTwoTraders", "(II)Z"⟩
abbrev cX4_isAct : ByteArray := prog_1_method_20_code
def yX4_isAct : MethodName := ⟨RX4, "isAct", "(I)Z"⟩
abbrev cX4_isPlace : ByteArray := prog_1_method_21_code
def yX4_isPlace : MethodName := ⟨RX4, "isPlace", "(I)Z"⟩
abbrev cX4_isDay : ByteArray := prog_1_method_22_code
def yX4_isDay : MethodName := ⟨RX4, "isDay", "(I)Z"⟩
abbrev cX4_bit : ByteArray := prog_1_method_23_code
def yX4_bit : MethodName := ⟨RX4, "bit", "(I)I"⟩
abbrev cX4_holds : ByteArray := prog_1_method_24_code
def yX4_holds : MethodName := ⟨RX4, "holds", "(II)Z"⟩
abbrev cX4_everyTrader : ByteArray := prog_1_method_25_code
def yX4_everyTrader : MethodName := ⟨RX4, "everyTrader", "()I"⟩
abbrev cX4_isForbidden : ByteArray := prog_1_method_26_code
def yX4_isForbidden : MethodName := ⟨RX4, "isForbidden", "(II)Z"⟩
abbrev cX4_needsTwo : ByteArray := prog_1_method_27_code
def yX4_needsTwo : MethodName := ⟨RX4, "needsTwo", "(I)Z"⟩
abbrev cX4_isInDeputyPair : ByteArray := prog_1_method_28_code
def yX4_isInDeputyPair : MethodName := ⟨RX4, "isInDeputyPair", "(I)Z"⟩
abbrev cX4_isEnded : ByteArray := prog_1_method_29_code
def yX4_isEnded : MethodName := ⟨RX4, "isEnded", "(II)Z"⟩
abbrev cX4_aliveOn : ByteArray := prog_1_method_30_code
def yX4_aliveOn : MethodName := ⟨RX4, "aliveOn", "(I)I"⟩
abbrev cX4_groupsAmong : ByteArray := prog_1_method_31_code
def yX4_groupsAmong : MethodName := ⟨RX4, "groupsAmong", "(II)I"⟩
abbrev cX4_groupsOfAll : ByteArray := prog_1_method_32_code
def yX4_groupsOfAll : MethodName := ⟨RX4, "groupsOfAll", "(I)I"⟩
abbrev cX4_ownersOf : ByteArray := prog_1_method_33_code
def yX4_ownersOf : MethodName := ⟨RX4, "ownersOf", "(IIII)I"⟩
abbrev cX4_ownActs : ByteArray := prog_1_method_34_code
def yX4_ownActs : MethodName := ⟨RX4, "ownActs", "(II)I"⟩
abbrev cX4_answerForAlive : ByteArray := prog_1_method_35_code
def yX4_answerForAlive : MethodName := ⟨RX4, "answerForAlive", "(IIII)I"⟩
abbrev cX4_principalSet : ByteArray := prog_1_method_36_code
def yX4_principalSet : MethodName := ⟨RX4, "principalSet", "(I)I"⟩
abbrev cX4_digit : ByteArray := prog_1_method_37_code
def yX4_digit : MethodName := ⟨RX4, "digit", "(II)I"⟩
abbrev cX4_checkValue : ByteArray := prog_1_method_38_code
def yX4_checkValue : MethodName := ⟨RX4, "checkValue", "(I)I"⟩
def RX5 : String := "TraderRightsModel"
def TX5 : u_T := fun k => match k with
  | 0 => ("TraderRightsModel", "thrown", "I", false)
  | 1 => ("TraderRightsModel", "traders", "I", false)
  | 2 => ("TraderRightsModel", "rights", "I", false)
  | 3 => ("TraderRightsModel", "mandates", "I", false)
  | 4 => ("TraderRightsModel", "suspensions", "I", false)
  | 5 => ("TraderRightsModel", "twos", "I", false)
  | 6 => ("TraderRightsModel", "groupsOf", "[I", true)
  | 7 => ("TraderRightsModel", "forbidden", "[I", true)
  | 8 => ("TraderRightsModel", "deputyOf", "[I", true)
  | 9 => ("TraderRightsModel", "endsAt", "[I", true)
  | 10 => ("TraderRightsModel", "rightOf", "[I", true)
  | 11 => ("TraderRightsModel", "rightAct", "[I", true)
  | 12 => ("TraderRightsModel", "rightPlace", "[I", true)
  | 13 => ("TraderRightsModel", "rightFrom", "[I", true)
  | 14 => ("TraderRightsModel", "rightTo", "[I", true)
  | 15 => ("TraderRightsModel", "giver", "[I", true)
  | 16 => ("TraderRightsModel", "taker", "[I", true)
  | 17 => ("TraderRightsModel", "isDirect", "[Z", true)
  | 18 => ("TraderRightsModel", "until", "[I", true)
  | 19 => ("TraderRightsModel", "suspended", "[I", true)
  | 20 => ("TraderRightsModel", "suspendedOn", "[I", true)
  | 21 => ("TraderRightsModel", "isOn", "[Z", true)
  | 22 => ("TraderRightsModel", "letters", "[I", true)
  | 23 => ("TraderRightsModel", "read", "I", false)
  | _ => ("TraderRightsModel", "certified", "I", false)
def tyX5 : Nat → FieldType := fun k => match k with
  | 0 => .int
  | 1 => .int
  | 2 => .int
  | 3 => .int
  | 4 => .int
  | 5 => .int
  | 6 => .array .int
  | 7 => .array .int
  | 8 => .array .int
  | 9 => .array .int
  | 10 => .array .int
  | 11 => .array .int
  | 12 => .array .int
  | 13 => .array .int
  | 14 => .array .int
  | 15 => .array .int
  | 16 => .array .int
  | 17 => .array .boolean
  | 18 => .array .int
  | 19 => .array .int
  | 20 => .array .int
  | 21 => .array .boolean
  | 22 => .array .int
  | 23 => .int
  | _ => .int
abbrev wsX50 : List Cond := u_ws RX5 TX5 25
theorem nmX5 : ∀ a, a < 25 → ∀ b, b < 25 → a ≠ b → (TX5 a).2.1 ≠ (TX5 b).2.1 := by decide +kernel
theorem tyX5_ok : ∀ k, k < 25 → parseFieldDescriptor (TX5 k).2.2.1 = some (tyX5 k) := by decide +kernel
abbrev cX5_init : ByteArray := prog_7_method_1_code
def yX5_init : MethodName := ⟨RX5, "<init>", "()V"⟩
abbrev cX5_thrown : ByteArray := prog_7_method_2_code
def yX5_thrown : MethodName := ⟨RX5, "thrown", "()I"⟩
abbrev cX5_in : ByteArray := prog_7_method_3_code
def yX5_in : MethodName := ⟨RX5, "in", "(III)Z"⟩
abbrev cX5_isTrader : ByteArray := prog_7_method_4_code
def yX5_isTrader : MethodName := ⟨RX5, "isTrader", "(I)Z"⟩
abbrev cX5_isDay : ByteArray := prog_7_method_5_code
def yX5_isDay : MethodName := ⟨RX5, "isDay", "(I)Z"⟩
abbrev cX5_isEight : ByteArray := prog_7_method_6_code
def yX5_isEight : MethodName := ⟨RX5, "isEight", "(I)Z"⟩
abbrev cX5_trader : ByteArray := prog_7_method_7_code
def yX5_trader : MethodName := ⟨RX5, "trader", "()I"⟩
abbrev cX5_right : ByteArray := prog_7_method_8_code
def yX5_right : MethodName := ⟨RX5, "right", "(IIIII)I"⟩
abbrev cX5_isForbidden : ByteArray := prog_7_method_9_code
def yX5_isForbidden : MethodName := ⟨RX5, "isForbidden", "(II)Z"⟩
abbrev cX5_forbid : ByteArray := prog_7_method_10_code
def yX5_forbid : MethodName := ⟨RX5, "forbid", "(IIZ)Z"⟩
abbrev cX5_reached : ByteArray := prog_7_method_11_code
def yX5_reached : MethodName := ⟨RX5, "reached", "(II)I"⟩
abbrev cX5_bits : ByteArray := prog_7_method_12_code
def yX5_bits : MethodName := ⟨RX5, "bits", "(I)I"⟩
abbrev cX5_areTwo : ByteArray := prog_7_method_13_code
def yX5_areTwo : MethodName := ⟨RX5, "areTwo", "(II)Z"⟩
abbrev cX5_group : ByteArray := prog_7_method_14_code
def yX5_group : MethodName := ⟨RX5, "group", "(II)I"⟩
abbrev cX5_withDeputy : ByteArray := prog_7_method_15_code
def yX5_withDeputy : MethodName := ⟨RX5, "withDeputy", "(I)I"⟩
abbrev cX5_deputy : ByteArray := prog_7_method_16_code
def yX5_deputy : MethodName := ⟨RX5, "deputy", "(II)I"⟩
abbrev cX5_mandate : ByteArray := prog_7_method_17_code
def yX5_mandate : MethodName := ⟨RX5, "mandate", "(IIZI)I"⟩
abbrev cX5_suspend : ByteArray := prog_7_method_18_code
def yX5_suspend : MethodName := ⟨RX5, "suspend", "(IIZ)I"⟩
abbrev cX5_end : ByteArray := prog_7_method_19_code
def yX5_end : MethodName := ⟨RX5, "end", "(II)Z"⟩
abbrev cX5_isEnded : ByteArray := prog_7_method_20_code
def yX5_isEnded : MethodName := ⟨RX5, "isEnded", "(II)Z"⟩
abbrev cX5_isSuspended : ByteArray := prog_7_method_21_code
def yX5_isSuspended : MethodName := ⟨RX5, "isSuspended", "(II)Z"⟩
abbrev cX5_isAlive : ByteArray := prog_7_method_22_code
def yX5_isAlive : MethodName := ⟨RX5, "isAlive", "(II)Z"⟩
abbrev cX5_has : ByteArray := prog_7_method_23_code
def yX5_has : MethodName := ⟨RX5, "has", "(IIII)Z"⟩
abbrev cX5_through : ByteArray := prog_7_method_24_code
def yX5_through : MethodName := ⟨RX5, "through", "(IIZIII)I"⟩
abbrev cX5_answer : ByteArray := prog_7_method_25_code
def yX5_answer : MethodName := ⟨RX5, "answer", "(IIII)I"⟩
abbrev cX5_may : ByteArray := prog_7_method_26_code
def yX5_may : MethodName := ⟨RX5, "may", "(IIII)I"⟩
abbrev cX5_two : ByteArray := prog_7_method_27_code
def yX5_two : MethodName := ⟨RX5, "two", "(IZ)Z"⟩
abbrev cX5_done : ByteArray := prog_7_method_28_code
def yX5_done : MethodName := ⟨RX5, "done", "(IIIII)I"⟩
abbrev cX5_power : ByteArray := prog_7_method_29_code
def yX5_power : MethodName := ⟨RX5, "power", "(I)I"⟩
abbrev cX5_digit : ByteArray := prog_7_method_30_code
def yX5_digit : MethodName := ⟨RX5, "digit", "(II)I"⟩
abbrev cX5_letter : ByteArray := prog_7_method_31_code
def yX5_letter : MethodName := ⟨RX5, "letter", "(II)I"⟩
abbrev cX5_check : ByteArray := prog_7_method_32_code
def yX5_check : MethodName := ⟨RX5, "check", "(I)I"⟩
abbrev cX5_certified : ByteArray := prog_7_method_33_code
def yX5_certified : MethodName := ⟨RX5, "certified", "()I"⟩
abbrev cX5_acts : ByteArray := prog_7_method_34_code
def yX5_acts : MethodName := ⟨RX5, "acts", "(II)I"⟩
abbrev cX5_standing : ByteArray := prog_7_method_35_code
def yX5_standing : MethodName := ⟨RX5, "standing", "(II)I"⟩
abbrev cX5_look : ByteArray := prog_7_method_36_code
def yX5_look : MethodName := ⟨RX5, "look", "(III)I"⟩
abbrev cX5_count : ByteArray := prog_7_method_37_code
def yX5_count : MethodName := ⟨RX5, "count", "(I)I"⟩
def RJ6 : String := "java/lang/Integer"
def TJ6 : u_T := fun k => match k with
  | _ => ("", "", "", false)
def tyJ6 : Nat → FieldType := fun k => match k with
  | _ => .int
abbrev wsJ60 : List Cond := u_ws RJ6 TJ6 0
theorem nmJ6 : ∀ a, a < 0 → ∀ b, b < 0 → a ≠ b → (TJ6 a).2.1 ≠ (TJ6 b).2.1 := by decide +kernel
theorem tyJ6_ok : ∀ k, k < 0 → parseFieldDescriptor (TJ6 k).2.2.1 = some (tyJ6 k) := by decide +kernel
abbrev cJ6_bitCount_0f7a4 : ByteArray := prog_12_method_49_code
def yJ6_bitCount_0f7a4 : MethodName := ⟨RJ6, "bitCount", "(I)I"⟩
def RJ0 : String := "java/lang/String"
def TJ0 : u_T := fun k => match k with
  | _ => ("", "", "", false)
def tyJ0 : Nat → FieldType := fun k => match k with
  | _ => .int
abbrev wsJ00 : List Cond := u_ws RJ0 TJ0 0
theorem nmJ0 : ∀ a, a < 0 → ∀ b, b < 0 → a ≠ b → (TJ0 a).2.1 ≠ (TJ0 b).2.1 := by decide +kernel
theorem tyJ0_ok : ∀ k, k < 0 → parseFieldDescriptor (TJ0 k).2.2.1 = some (tyJ0 k) := by decide +kernel
def RJ7 : String := "java/util/Arrays"
def TJ7 : u_T := fun k => match k with
  | _ => ("", "", "", false)
def tyJ7 : Nat → FieldType := fun k => match k with
  | _ => .int
abbrev wsJ70 : List Cond := u_ws RJ7 TJ7 0
theorem nmJ7 : ∀ a, a < 0 → ∀ b, b < 0 → a ≠ b → (TJ7 a).2.1 ≠ (TJ7 b).2.1 := by decide +kernel
theorem tyJ7_ok : ∀ k, k < 0 → parseFieldDescriptor (TJ7 k).2.2.1 = some (tyJ7 k) := by decide +kernel
abbrev cJ7_fill_53178 : ByteArray := prog_16_method_103_code
def yJ7_fill_53178 : MethodName := ⟨RJ7, "fill", "([II)V"⟩
def RL : String := "TraderRightsLaw"
abbrev cL_trader : ByteArray := method_3_code
def yL_trader : MethodName := ⟨RL, "trader", "(LTraderRights;[J)I"⟩
abbrev cL_right : ByteArray := method_4_code
def yL_right : MethodName := ⟨RL, "right", "(LTraderRights;IIIII[J)I"⟩
abbrev cL_group : ByteArray := method_5_code
def yL_group : MethodName := ⟨RL, "group", "(LTraderRights;II[J)I"⟩
abbrev cL_deputy : ByteArray := method_6_code
def yL_deputy : MethodName := ⟨RL, "deputy", "(LTraderRights;II[J)I"⟩
abbrev cL_mandate : ByteArray := method_7_code
def yL_mandate : MethodName := ⟨RL, "mandate", "(LTraderRights;IIZI[J)I"⟩
abbrev cL_suspend : ByteArray := method_8_code
def yL_suspend : MethodName := ⟨RL, "suspend", "(LTraderRights;IIZ[J)I"⟩
abbrev cL_letter : ByteArray := method_9_code
def yL_letter : MethodName := ⟨RL, "letter", "(LTraderRights;II[J)I"⟩
abbrev cL_look : ByteArray := method_10_code
def yL_look : MethodName := ⟨RL, "look", "(LTraderRights;III[J)I"⟩
abbrev cL_law : ByteArray := code
def yL_law : MethodName := ⟨RL, "law", "([I)Z"⟩
def wsX0_init : List Cond := .code yX0_init cX0_init 1 none :: ([.methodLink RX0 3 objectInit, .instanceMethod objectInit, .code objectInit ⟨#[0xb1]⟩ 1 none, .fieldLink RX0 9 "TraderRights$Mandates" "size" "I", .arrayClass .int, .fieldLink RX0 15 "TraderRights$Mandates" "giver" "[I", .fieldLink RX0 19 "TraderRights$Mandates" "taker" "[I", .arrayClass .boolean, .fieldLink RX0 22 "TraderRights$Mandates" "isDirect" "[Z", .fieldLink RX0 26 "TraderRights$Mandates" "until" "[I"] ++ wsX00)
def wsX0_append : List Cond := .code yX0_append cX0_append 5 none :: ([.fieldLink RX0 15 "TraderRights$Mandates" "giver" "[I", .fieldLink RX0 9 "TraderRights$Mandates" "size" "I", .fieldLink RX0 19 "TraderRights$Mandates" "taker" "[I", .fieldLink RX0 22 "TraderRights$Mandates" "isDirect" "[Z", .fieldLink RX0 26 "TraderRights$Mandates" "until" "[I"] ++ wsX00)
def wsX4_bit : List Cond := .code yX4_bit cX4_bit 1 (some .int) :: ([])
def wsX0_giversTo : List Cond := .code yX0_giversTo cX0_giversTo 6 (some .int) :: ([.fieldLink RX0 9 "TraderRights$Mandates" "size" "I", .fieldLink RX0 19 "TraderRights$Mandates" "taker" "[I", .fieldLink RX0 22 "TraderRights$Mandates" "isDirect" "[Z", .fieldLink RX0 26 "TraderRights$Mandates" "until" "[I", .fieldLink RX0 15 "TraderRights$Mandates" "giver" "[I", .static yX4_bit, .initialized RX4, .code yX4_bit cX4_bit 1 (some .int)] ++ wsX00)
def wsX0_sizeOf : List Cond := .code yX0_sizeOf cX0_sizeOf 5 (some .int) :: ([.fieldLink RX0 9 "TraderRights$Mandates" "size" "I", .fieldLink RX0 19 "TraderRights$Mandates" "taker" "[I", .fieldLink RX0 26 "TraderRights$Mandates" "until" "[I"] ++ wsX00)
def wsX1_init : List Cond := .code yX1_init cX1_init 1 none :: ([.methodLink RX1 3 objectInit, .instanceMethod objectInit, .code objectInit ⟨#[0xb1]⟩ 1 none, .fieldLink RX1 9 "TraderRights$Reader" "latest" "I", .fieldLink RX1 15 "TraderRights$Reader" "lettersRead" "I", .fieldLink RX1 18 "TraderRights$Reader" "number" "I"] ++ wsX10)
def wsX1_restart : List Cond := .code yX1_restart cX1_restart 1 none :: ([.fieldLink RX1 15 "TraderRights$Reader" "lettersRead" "I", .fieldLink RX1 18 "TraderRights$Reader" "number" "I"] ++ wsX10)
def wsX4_digit : List Cond := .code yX4_digit cX4_digit 4 (some .int) :: ([])
def wsX4_checkValue : List Cond := .code yX4_checkValue cX4_checkValue 3 (some .int) :: ([.methodLink RX4 174 yX4_digit, .static yX4_digit, .initialized RX4, .code yX4_digit cX4_digit 4 (some .int)])
def wsX1_read : List Cond := .code yX1_read cX1_read 4 (some .int) :: ([.fieldLink RX1 15 "TraderRights$Reader" "lettersRead" "I", .fieldLink RX1 18 "TraderRights$Reader" "number" "I", .constant RX1 24 (99999999), .fieldLink RX1 9 "TraderRights$Reader" "latest" "I", .methodLink RX1 21 yX1_restart, .instanceMethod yX1_restart, .selects RX1 yX1_restart yX1_restart, .initialized RX1, .code yX1_restart cX1_restart 1 none, .static yX4_checkValue, .initialized RX4, .code yX4_checkValue cX4_checkValue 3 (some .int), .methodLink RX4 174 yX4_digit, .static yX4_digit, .code yX4_digit cX4_digit 4 (some .int)] ++ wsX10)
def wsX2_init : List Cond := .code yX2_init cX2_init 1 none :: ([.methodLink RX2 3 objectInit, .instanceMethod objectInit, .code objectInit ⟨#[0xb1]⟩ 1 none, .fieldLink RX2 9 "TraderRights$Rights" "size" "I", .arrayClass .int, .fieldLink RX2 15 "TraderRights$Rights" "trader" "[I", .fieldLink RX2 19 "TraderRights$Rights" "act" "[I", .fieldLink RX2 22 "TraderRights$Rights" "place" "[I", .fieldLink RX2 25 "TraderRights$Rights" "from" "[I", .fieldLink RX2 28 "TraderRights$Rights" "to" "[I"] ++ wsX20)
def wsX2_append : List Cond := .code yX2_append cX2_append 6 none :: ([.fieldLink RX2 15 "TraderRights$Rights" "trader" "[I", .fieldLink RX2 9 "TraderRights$Rights" "size" "I", .fieldLink RX2 19 "TraderRights$Rights" "act" "[I", .fieldLink RX2 22 "TraderRights$Rights" "place" "[I", .fieldLink RX2 25 "TraderRights$Rights" "from" "[I", .fieldLink RX2 28 "TraderRights$Rights" "to" "[I"] ++ wsX20)
def wsX2_isOnDay : List Cond := .code yX2_isOnDay cX2_isOnDay 3 (some .boolean) :: ([.fieldLink RX2 25 "TraderRights$Rights" "from" "[I", .fieldLink RX2 28 "TraderRights$Rights" "to" "[I"] ++ wsX20)
def wsX2_tradersWith : List Cond := .code yX2_tradersWith cX2_tradersWith 7 (some .int) :: ([.fieldLink RX2 9 "TraderRights$Rights" "size" "I", .fieldLink RX2 22 "TraderRights$Rights" "place" "[I", .fieldLink RX2 19 "TraderRights$Rights" "act" "[I", .fieldLink RX2 15 "TraderRights$Rights" "trader" "[I", .methodLink RX2 31 yX2_isOnDay, .instanceMethod yX2_isOnDay, .selects RX2 yX2_isOnDay yX2_isOnDay, .initialized RX2, .code yX2_isOnDay cX2_isOnDay 3 (some .boolean), .fieldLink RX2 25 "TraderRights$Rights" "from" "[I", .fieldLink RX2 28 "TraderRights$Rights" "to" "[I", .static yX4_bit, .initialized RX4, .code yX4_bit cX4_bit 1 (some .int)] ++ wsX20)
def wsX4_holds : List Cond := .code yX4_holds cX4_holds 2 (some .boolean) :: ([])
def wsX2_actsOf : List Cond := .code yX2_actsOf cX2_actsOf 5 (some .int) :: ([.fieldLink RX2 9 "TraderRights$Rights" "size" "I", .fieldLink RX2 15 "TraderRights$Rights" "trader" "[I", .fieldLink RX2 19 "TraderRights$Rights" "act" "[I", .static yX4_holds, .initialized RX4, .code yX4_holds cX4_holds 2 (some .boolean), .methodLink RX2 31 yX2_isOnDay, .instanceMethod yX2_isOnDay, .selects RX2 yX2_isOnDay yX2_isOnDay, .initialized RX2, .code yX2_isOnDay cX2_isOnDay 3 (some .boolean), .fieldLink RX2 25 "TraderRights$Rights" "from" "[I", .fieldLink RX2 28 "TraderRights$Rights" "to" "[I", .static yX4_bit, .code yX4_bit cX4_bit 1 (some .int)] ++ wsX20)
def wsX3_init : List Cond := .code yX3_init cX3_init 1 none :: ([.methodLink RX3 3 objectInit, .instanceMethod objectInit, .code objectInit ⟨#[0xb1]⟩ 1 none, .fieldLink RX3 9 "TraderRights$Suspensions" "size" "I", .arrayClass .int, .fieldLink RX3 15 "TraderRights$Suspensions" "trader" "[I", .fieldLink RX3 19 "TraderRights$Suspensions" "from" "[I", .arrayClass .boolean, .fieldLink RX3 22 "TraderRights$Suspensions" "isSuspending" "[Z"] ++ wsX30)
def wsX3_append : List Cond := .code yX3_append cX3_append 4 none :: ([.fieldLink RX3 15 "TraderRights$Suspensions" "trader" "[I", .fieldLink RX3 9 "TraderRights$Suspensions" "size" "I", .fieldLink RX3 19 "TraderRights$Suspensions" "from" "[I", .fieldLink RX3 22 "TraderRights$Suspensions" "isSuspending" "[Z"] ++ wsX30)
def wsX3_isOn : List Cond := .code yX3_isOn cX3_isOn 6 (some .boolean) :: ([.fieldLink RX3 9 "TraderRights$Suspensions" "size" "I", .fieldLink RX3 15 "TraderRights$Suspensions" "trader" "[I", .fieldLink RX3 19 "TraderRights$Suspensions" "from" "[I", .fieldLink RX3 22 "TraderRights$Suspensions" "isSuspending" "[Z"] ++ wsX30)
def wsJ7_fill_53178 : List Cond := .code yJ7_fill_53178 cJ7_fill_53178 4 none :: ([])
def wsX4_init_r1 : List Cond := [Cond.methodLink RX4 1 objectInit, Cond.instanceMethod objectInit, Cond.code objectInit ⟨#[0xb1]⟩ 1 none, Cond.fieldLink RX4 7 "TraderRights" "traders" "I", Cond.fieldLink RX4 13 "TraderRights" "actsOfTwo" "I", Cond.arrayClass .int, Cond.fieldLink RX4 16 "TraderRights" "directGroups" "[I", Cond.fieldLink RX4 20 "TraderRights" "forbiddenActs" "[I", Cond.fieldLink RX4 23 "TraderRights" "deputies" "[I", Cond.fieldLink RX4 26 "TraderRights" "principals" "[I", Cond.fieldLink RX4 29 "TraderRights" "endDays" "[I", Cond.classLink RX4 38 RX2, Cond.instantiable RX2 6, Cond.initialized RX2, Cond.fieldLink RX4 41 "TraderRights" "rights" "LTraderRights$Rights;", Cond.classLink RX4 45 RX0, Cond.instantiable RX0 5, Cond.initialized RX0, Cond.fieldLink RX4 48 "TraderRights" "mandates" "LTraderRights$Mandates;", Cond.classLink RX4 52 RX3, Cond.instantiable RX3 4, Cond.initialized RX3, Cond.fieldLink RX4 55 "TraderRights" "suspensions" "LTraderRights$Suspensions;", Cond.classLink RX4 59 RX1]
def wsX4_init_r2 : List Cond := [Cond.instantiable RX1 3, Cond.initialized RX1, Cond.fieldLink RX4 62 "TraderRights" "reader" "LTraderRights$Reader;", Cond.methodLink RX4 32 yJ7_fill_53178, Cond.static yJ7_fill_53178, Cond.initialized RJ7, Cond.code yJ7_fill_53178 cJ7_fill_53178 4 none, Cond.instanceMethod yX2_init, Cond.code yX2_init cX2_init 1 none, Cond.methodLink RX2 3 objectInit, Cond.fieldLink RX2 9 "TraderRights$Rights" "size" "I", Cond.fieldLink RX2 15 "TraderRights$Rights" "trader" "[I", Cond.fieldLink RX2 19 "TraderRights$Rights" "act" "[I", Cond.fieldLink RX2 22 "TraderRights$Rights" "place" "[I", Cond.fieldLink RX2 25 "TraderRights$Rights" "from" "[I", Cond.fieldLink RX2 28 "TraderRights$Rights" "to" "[I", Cond.instanceMethod yX0_init, Cond.code yX0_init cX0_init 1 none, Cond.methodLink RX0 3 objectInit, Cond.fieldLink RX0 9 "TraderRights$Mandates" "size" "I", Cond.fieldLink RX0 15 "TraderRights$Mandates" "giver" "[I", Cond.fieldLink RX0 19 "TraderRights$Mandates" "taker" "[I", Cond.arrayClass .boolean, Cond.fieldLink RX0 22 "TraderRights$Mandates" "isDirect" "[Z"]
def wsX4_init_r3 : List Cond := [Cond.fieldLink RX0 26 "TraderRights$Mandates" "until" "[I", Cond.instanceMethod yX3_init, Cond.code yX3_init cX3_init 1 none, Cond.methodLink RX3 3 objectInit, Cond.fieldLink RX3 9 "TraderRights$Suspensions" "size" "I", Cond.fieldLink RX3 15 "TraderRights$Suspensions" "trader" "[I", Cond.fieldLink RX3 19 "TraderRights$Suspensions" "from" "[I", Cond.fieldLink RX3 22 "TraderRights$Suspensions" "isSuspending" "[Z", Cond.instanceMethod yX1_init, Cond.code yX1_init cX1_init 1 none, Cond.methodLink RX1 3 objectInit, Cond.fieldLink RX1 9 "TraderRights$Reader" "latest" "I", Cond.fieldLink RX1 15 "TraderRights$Reader" "lettersRead" "I", Cond.fieldLink RX1 18 "TraderRights$Reader" "number" "I"]
def wsX4_init : List Cond := .code yX4_init cX4_init 1 none :: ((wsX4_init_r1 ++ (wsX4_init_r2 ++ wsX4_init_r3)) ++ wsX40 ++ wsX20 ++ wsX00 ++ wsX30 ++ wsX10)
def wsX4_trader : List Cond := .code yX4_trader cX4_trader 2 (some .int) :: ([.classLink RX4 66 "java/lang/IllegalStateException", .initialized "java/lang/IllegalStateException", .fieldLink RX4 7 "TraderRights" "traders" "I"] ++ wsX40 ++ (vx_atS RX4 70 "java/lang/IllegalStateException" ["java/lang/RuntimeException", "java/lang/Exception"]).filter goodWord)
def wsX4_isTrader : List Cond := .code yX4_isTrader cX4_isTrader 2 (some .boolean) :: ([.fieldLink RX4 7 "TraderRights" "traders" "I"] ++ wsX40)
def wsX4_isAct : List Cond := .code yX4_isAct cX4_isAct 1 (some .boolean) :: ([])
def wsX4_isPlace : List Cond := .code yX4_isPlace cX4_isPlace 1 (some .boolean) :: ([])
def wsX4_isDay : List Cond := .code yX4_isDay cX4_isDay 1 (some .boolean) :: ([.constant RX4 200 (100000)])
def wsX4_right_r1 : List Cond := [Cond.classLink RX4 83 "java/lang/IllegalArgumentException", Cond.initialized "java/lang/IllegalArgumentException", Cond.classLink RX4 66 "java/lang/IllegalStateException", Cond.initialized "java/lang/IllegalStateException", Cond.fieldLink RX4 41 "TraderRights" "rights" "LTraderRights$Rights;", Cond.methodLink RX4 73 yX4_isTrader, Cond.instanceMethod yX4_isTrader, Cond.selects RX4 yX4_isTrader yX4_isTrader, Cond.initialized RX4, Cond.code yX4_isTrader cX4_isTrader 2 (some .boolean), Cond.fieldLink RX4 7 "TraderRights" "traders" "I", Cond.methodLink RX4 77 yX4_isAct, Cond.static yX4_isAct, Cond.code yX4_isAct cX4_isAct 1 (some .boolean), Cond.methodLink RX4 80 yX4_isPlace, Cond.static yX4_isPlace, Cond.code yX4_isPlace cX4_isPlace 1 (some .boolean), Cond.methodLink RX4 88 yX4_isDay, Cond.static yX4_isDay, Cond.code yX4_isDay cX4_isDay 1 (some .boolean), Cond.constant RX4 200 (100000), Cond.instanceMethod yX2_append, Cond.initialized RX2, Cond.selects RX2 yX2_append yX2_append]
def wsX4_right_r2 : List Cond := [Cond.code yX2_append cX2_append 6 none, Cond.fieldLink RX2 15 "TraderRights$Rights" "trader" "[I", Cond.fieldLink RX2 9 "TraderRights$Rights" "size" "I", Cond.fieldLink RX2 19 "TraderRights$Rights" "act" "[I", Cond.fieldLink RX2 22 "TraderRights$Rights" "place" "[I", Cond.fieldLink RX2 25 "TraderRights$Rights" "from" "[I", Cond.fieldLink RX2 28 "TraderRights$Rights" "to" "[I"]
def wsX4_right : List Cond := .code yX4_right cX4_right 6 (some .int) :: ((wsX4_right_r1 ++ wsX4_right_r2) ++ wsX40 ++ wsX20 ++ (vx_atS RX4 87 "java/lang/IllegalArgumentException" ["java/lang/RuntimeException", "java/lang/Exception"]).filter goodWord ++ (vx_atS RX4 70 "java/lang/IllegalStateException" ["java/lang/RuntimeException", "java/lang/Exception"]).filter goodWord)
def wsX4_isForbidden : List Cond := .code yX4_isForbidden cX4_isForbidden 3 (some .boolean) :: ([.fieldLink RX4 20 "TraderRights" "forbiddenActs" "[I", .methodLink RX4 123 yX4_holds, .static yX4_holds, .initialized RX4, .code yX4_holds cX4_holds 2 (some .boolean)] ++ wsX40)
def wsX4_forbid : List Cond := .code yX4_forbid cX4_forbid 4 (some .boolean) :: ([.fieldLink RX4 20 "TraderRights" "forbiddenActs" "[I", .methodLink RX4 73 yX4_isTrader, .instanceMethod yX4_isTrader, .selects RX4 yX4_isTrader yX4_isTrader, .initialized RX4, .code yX4_isTrader cX4_isTrader 2 (some .boolean), .fieldLink RX4 7 "TraderRights" "traders" "I", .methodLink RX4 77 yX4_isAct, .static yX4_isAct, .code yX4_isAct cX4_isAct 1 (some .boolean), .methodLink RX4 102 yX4_isForbidden, .instanceMethod yX4_isForbidden, .selects RX4 yX4_isForbidden yX4_isForbidden, .code yX4_isForbidden cX4_isForbidden 3 (some .boolean), .methodLink RX4 123 yX4_holds, .static yX4_holds, .code yX4_holds cX4_holds 2 (some .boolean), .methodLink RX4 106 yX4_bit, .static yX4_bit, .code yX4_bit cX4_bit 1 (some .int)] ++ wsX40)
def wsX4_areTwoTraders : List Cond := .code yX4_areTwoTraders cX4_areTwoTraders 3 (some .boolean) :: ([.methodLink RX4 73 yX4_isTrader, .instanceMethod yX4_isTrader, .selects RX4 yX4_isTrader yX4_isTrader, .initialized RX4, .code yX4_isTrader cX4_isTrader 2 (some .boolean), .fieldLink RX4 7 "TraderRights" "traders" "I"] ++ wsX40)
def wsX4_everyTrader : List Cond := .code yX4_everyTrader cX4_everyTrader 1 (some .int) :: ([.fieldLink RX4 7 "TraderRights" "traders" "I", .methodLink RX4 106 yX4_bit, .static yX4_bit, .initialized RX4, .code yX4_bit cX4_bit 1 (some .int)] ++ wsX40)
def wsX4_groupsOfAll : List Cond := .code yX4_groupsOfAll cX4_groupsOfAll 4 (some .int) :: ([.fieldLink RX4 7 "TraderRights" "traders" "I", .fieldLink RX4 16 "TraderRights" "directGroups" "[I", .methodLink RX4 123 yX4_holds, .static yX4_holds, .initialized RX4, .code yX4_holds cX4_holds 2 (some .boolean)] ++ wsX40)
def wsX4_groupsAmong : List Cond := .code yX4_groupsAmong cX4_groupsAmong 5 (some .int) :: ([.fieldLink RX4 16 "TraderRights" "directGroups" "[I", .fieldLink RX4 7 "TraderRights" "traders" "I", .methodLink RX4 201 yX4_groupsOfAll, .instanceMethod yX4_groupsOfAll, .selects RX4 yX4_groupsOfAll yX4_groupsOfAll, .initialized RX4, .code yX4_groupsOfAll cX4_groupsOfAll 4 (some .int), .methodLink RX4 123 yX4_holds, .static yX4_holds, .code yX4_holds cX4_holds 2 (some .boolean)] ++ wsX40)
def wsJ6_bitCount_0f7a4 : List Cond := .code yJ6_bitCount_0f7a4 cJ6_bitCount_0f7a4 1 (some .int) :: ([.constant RJ6 265 (1431655765), .constant RJ6 266 (858993459), .constant RJ6 267 (252645135)])
def wsX4_group_r1 : List Cond := [Cond.classLink RX4 83 "java/lang/IllegalArgumentException", Cond.initialized "java/lang/IllegalArgumentException", Cond.fieldLink RX4 16 "TraderRights" "directGroups" "[I", Cond.methodLink RX4 110 yX4_areTwoTraders, Cond.instanceMethod yX4_areTwoTraders, Cond.selects RX4 yX4_areTwoTraders yX4_areTwoTraders, Cond.initialized RX4, Cond.code yX4_areTwoTraders cX4_areTwoTraders 3 (some .boolean), Cond.methodLink RX4 73 yX4_isTrader, Cond.instanceMethod yX4_isTrader, Cond.selects RX4 yX4_isTrader yX4_isTrader, Cond.code yX4_isTrader cX4_isTrader 2 (some .boolean), Cond.fieldLink RX4 7 "TraderRights" "traders" "I", Cond.methodLink RX4 115 yX4_everyTrader, Cond.instanceMethod yX4_everyTrader, Cond.selects RX4 yX4_everyTrader yX4_everyTrader, Cond.code yX4_everyTrader cX4_everyTrader 1 (some .int), Cond.methodLink RX4 106 yX4_bit, Cond.static yX4_bit, Cond.code yX4_bit cX4_bit 1 (some .int), Cond.methodLink RX4 119 yX4_groupsAmong, Cond.instanceMethod yX4_groupsAmong, Cond.selects RX4 yX4_groupsAmong yX4_groupsAmong, Cond.code yX4_groupsAmong cX4_groupsAmong 5 (some .int)]
def wsX4_group_r2 : List Cond := [Cond.methodLink RX4 201 yX4_groupsOfAll, Cond.instanceMethod yX4_groupsOfAll, Cond.selects RX4 yX4_groupsOfAll yX4_groupsOfAll, Cond.code yX4_groupsOfAll cX4_groupsOfAll 4 (some .int), Cond.methodLink RX4 123 yX4_holds, Cond.static yX4_holds, Cond.code yX4_holds cX4_holds 2 (some .boolean), Cond.methodLink RX4 126 yJ6_bitCount_0f7a4, Cond.static yJ6_bitCount_0f7a4, Cond.initialized RJ6, Cond.code yJ6_bitCount_0f7a4 cJ6_bitCount_0f7a4 1 (some .int), Cond.constant RJ6 265 (1431655765), Cond.constant RJ6 266 (858993459), Cond.constant RJ6 267 (252645135)]
def wsX4_group : List Cond := .code yX4_group cX4_group 5 (some .int) :: ((wsX4_group_r1 ++ wsX4_group_r2) ++ wsX40 ++ (vx_atS RX4 87 "java/lang/IllegalArgumentException" ["java/lang/RuntimeException", "java/lang/Exception"]).filter goodWord)
def wsX4_isInDeputyPair : List Cond := .code yX4_isInDeputyPair cX4_isInDeputyPair 2 (some .boolean) :: ([.fieldLink RX4 23 "TraderRights" "deputies" "[I", .fieldLink RX4 26 "TraderRights" "principals" "[I"] ++ wsX40)
def wsX4_deputy : List Cond := .code yX4_deputy cX4_deputy 3 (some .int) :: ([.classLink RX4 83 "java/lang/IllegalArgumentException", .initialized "java/lang/IllegalArgumentException", .fieldLink RX4 23 "TraderRights" "deputies" "[I", .fieldLink RX4 26 "TraderRights" "principals" "[I", .methodLink RX4 110 yX4_areTwoTraders, .instanceMethod yX4_areTwoTraders, .selects RX4 yX4_areTwoTraders yX4_areTwoTraders, .initialized RX4, .code yX4_areTwoTraders cX4_areTwoTraders 3 (some .boolean), .methodLink RX4 73 yX4_isTrader, .instanceMethod yX4_isTrader, .selects RX4 yX4_isTrader yX4_isTrader, .code yX4_isTrader cX4_isTrader 2 (some .boolean), .fieldLink RX4 7 "TraderRights" "traders" "I", .methodLink RX4 131 yX4_isInDeputyPair, .instanceMethod yX4_isInDeputyPair, .selects RX4 yX4_isInDeputyPair yX4_isInDeputyPair, .code yX4_isInDeputyPair cX4_isInDeputyPair 2 (some .boolean)] ++ wsX40 ++ (vx_atS RX4 87 "java/lang/IllegalArgumentException" ["java/lang/RuntimeException", "java/lang/Exception"]).filter goodWord)
def wsX4_mandate_r1 : List Cond := [Cond.classLink RX4 83 "java/lang/IllegalArgumentException", Cond.initialized "java/lang/IllegalArgumentException", Cond.classLink RX4 66 "java/lang/IllegalStateException", Cond.initialized "java/lang/IllegalStateException", Cond.fieldLink RX4 48 "TraderRights" "mandates" "LTraderRights$Mandates;", Cond.methodLink RX4 110 yX4_areTwoTraders, Cond.instanceMethod yX4_areTwoTraders, Cond.selects RX4 yX4_areTwoTraders yX4_areTwoTraders, Cond.initialized RX4, Cond.code yX4_areTwoTraders cX4_areTwoTraders 3 (some .boolean), Cond.methodLink RX4 73 yX4_isTrader, Cond.instanceMethod yX4_isTrader, Cond.selects RX4 yX4_isTrader yX4_isTrader, Cond.code yX4_isTrader cX4_isTrader 2 (some .boolean), Cond.fieldLink RX4 7 "TraderRights" "traders" "I", Cond.methodLink RX4 88 yX4_isDay, Cond.static yX4_isDay, Cond.code yX4_isDay cX4_isDay 1 (some .boolean), Cond.constant RX4 200 (100000), Cond.instanceMethod yX0_append, Cond.initialized RX0, Cond.selects RX0 yX0_append yX0_append, Cond.code yX0_append cX0_append 5 none, Cond.fieldLink RX0 15 "TraderRights$Mandates" "giver" "[I"]
def wsX4_mandate_r2 : List Cond := [Cond.fieldLink RX0 9 "TraderRights$Mandates" "size" "I", Cond.fieldLink RX0 19 "TraderRights$Mandates" "taker" "[I", Cond.fieldLink RX0 22 "TraderRights$Mandates" "isDirect" "[Z", Cond.fieldLink RX0 26 "TraderRights$Mandates" "until" "[I"]
def wsX4_mandate : List Cond := .code yX4_mandate cX4_mandate 5 (some .int) :: ((wsX4_mandate_r1 ++ wsX4_mandate_r2) ++ wsX40 ++ wsX00 ++ (vx_atS RX4 87 "java/lang/IllegalArgumentException" ["java/lang/RuntimeException", "java/lang/Exception"]).filter goodWord ++ (vx_atS RX4 70 "java/lang/IllegalStateException" ["java/lang/RuntimeException", "java/lang/Exception"]).filter goodWord)
def wsX4_suspend : List Cond := .code yX4_suspend cX4_suspend 4 (some .int) :: ([.classLink RX4 83 "java/lang/IllegalArgumentException", .initialized "java/lang/IllegalArgumentException", .classLink RX4 66 "java/lang/IllegalStateException", .initialized "java/lang/IllegalStateException", .fieldLink RX4 55 "TraderRights" "suspensions" "LTraderRights$Suspensions;", .methodLink RX4 73 yX4_isTrader, .instanceMethod yX4_isTrader, .selects RX4 yX4_isTrader yX4_isTrader, .initialized RX4, .code yX4_isTrader cX4_isTrader 2 (some .boolean), .fieldLink RX4 7 "TraderRights" "traders" "I", .methodLink RX4 88 yX4_isDay, .static yX4_isDay, .code yX4_isDay cX4_isDay 1 (some .boolean), .constant RX4 200 (100000), .instanceMethod yX3_append, .initialized RX3, .selects RX3 yX3_append yX3_append, .code yX3_append cX3_append 4 none, .fieldLink RX3 15 "TraderRights$Suspensions" "trader" "[I", .fieldLink RX3 9 "TraderRights$Suspensions" "size" "I", .fieldLink RX3 19 "TraderRights$Suspensions" "from" "[I", .fieldLink RX3 22 "TraderRights$Suspensions" "isSuspending" "[Z"] ++ wsX40 ++ wsX30 ++ (vx_atS RX4 87 "java/lang/IllegalArgumentException" ["java/lang/RuntimeException", "java/lang/Exception"]).filter goodWord ++ (vx_atS RX4 70 "java/lang/IllegalStateException" ["java/lang/RuntimeException", "java/lang/Exception"]).filter goodWord)
def wsX4_end : List Cond := .code yX4_end cX4_end 3 (some .boolean) :: ([.fieldLink RX4 29 "TraderRights" "endDays" "[I", .methodLink RX4 73 yX4_isTrader, .instanceMethod yX4_isTrader, .selects RX4 yX4_isTrader yX4_isTrader, .initialized RX4, .code yX4_isTrader cX4_isTrader 2 (some .boolean), .fieldLink RX4 7 "TraderRights" "traders" "I", .methodLink RX4 88 yX4_isDay, .static yX4_isDay, .code yX4_isDay cX4_isDay 1 (some .boolean), .constant RX4 200 (100000)] ++ wsX40)
def wsX4_isEnded : List Cond := .code yX4_isEnded cX4_isEnded 3 (some .boolean) :: ([.fieldLink RX4 29 "TraderRights" "endDays" "[I"] ++ wsX40)
def wsX4_aliveOn : List Cond := .code yX4_aliveOn cX4_aliveOn 4 (some .int) :: ([.fieldLink RX4 7 "TraderRights" "traders" "I", .fieldLink RX4 55 "TraderRights" "suspensions" "LTraderRights$Suspensions;", .methodLink RX4 150 yX4_isEnded, .instanceMethod yX4_isEnded, .selects RX4 yX4_isEnded yX4_isEnded, .initialized RX4, .code yX4_isEnded cX4_isEnded 3 (some .boolean), .fieldLink RX4 29 "TraderRights" "endDays" "[I", .instanceMethod yX3_isOn, .initialized RX3, .selects RX3 yX3_isOn yX3_isOn, .code yX3_isOn cX3_isOn 6 (some .boolean), .fieldLink RX3 9 "TraderRights$Suspensions" "size" "I", .fieldLink RX3 15 "TraderRights$Suspensions" "trader" "[I", .fieldLink RX3 19 "TraderRights$Suspensions" "from" "[I", .fieldLink RX3 22 "TraderRights$Suspensions" "isSuspending" "[Z", .methodLink RX4 106 yX4_bit, .static yX4_bit, .code yX4_bit cX4_bit 1 (some .int)] ++ wsX40 ++ wsX30)
def wsX4_ownersOf_r1 : List Cond := [Cond.fieldLink RX4 41 "TraderRights" "rights" "LTraderRights$Rights;", Cond.fieldLink RX4 7 "TraderRights" "traders" "I", Cond.instanceMethod yX2_tradersWith, Cond.initialized RX2, Cond.selects RX2 yX2_tradersWith yX2_tradersWith, Cond.code yX2_tradersWith cX2_tradersWith 7 (some .int), Cond.fieldLink RX2 9 "TraderRights$Rights" "size" "I", Cond.fieldLink RX2 22 "TraderRights$Rights" "place" "[I", Cond.fieldLink RX2 19 "TraderRights$Rights" "act" "[I", Cond.fieldLink RX2 15 "TraderRights$Rights" "trader" "[I", Cond.methodLink RX2 31 yX2_isOnDay, Cond.instanceMethod yX2_isOnDay, Cond.selects RX2 yX2_isOnDay yX2_isOnDay, Cond.code yX2_isOnDay cX2_isOnDay 3 (some .boolean), Cond.fieldLink RX2 25 "TraderRights$Rights" "from" "[I", Cond.fieldLink RX2 28 "TraderRights$Rights" "to" "[I", Cond.static yX4_bit, Cond.initialized RX4, Cond.code yX4_bit cX4_bit 1 (some .int), Cond.methodLink RX4 106 yX4_bit, Cond.methodLink RX4 119 yX4_groupsAmong, Cond.instanceMethod yX4_groupsAmong, Cond.selects RX4 yX4_groupsAmong yX4_groupsAmong, Cond.code yX4_groupsAmong cX4_groupsAmong 5 (some .int)]
def wsX4_ownersOf_r2 : List Cond := [Cond.fieldLink RX4 16 "TraderRights" "directGroups" "[I", Cond.methodLink RX4 201 yX4_groupsOfAll, Cond.instanceMethod yX4_groupsOfAll, Cond.selects RX4 yX4_groupsOfAll yX4_groupsOfAll, Cond.code yX4_groupsOfAll cX4_groupsOfAll 4 (some .int), Cond.methodLink RX4 123 yX4_holds, Cond.static yX4_holds, Cond.code yX4_holds cX4_holds 2 (some .boolean), Cond.methodLink RX4 102 yX4_isForbidden, Cond.instanceMethod yX4_isForbidden, Cond.selects RX4 yX4_isForbidden yX4_isForbidden, Cond.code yX4_isForbidden cX4_isForbidden 3 (some .boolean), Cond.fieldLink RX4 20 "TraderRights" "forbiddenActs" "[I"]
def wsX4_ownersOf : List Cond := .code yX4_ownersOf cX4_ownersOf 9 (some .int) :: ((wsX4_ownersOf_r1 ++ wsX4_ownersOf_r2) ++ wsX40 ++ wsX20)
def wsX4_principalSet : List Cond := .code yX4_principalSet cX4_principalSet 2 (some .int) :: ([.fieldLink RX4 26 "TraderRights" "principals" "[I", .methodLink RX4 106 yX4_bit, .static yX4_bit, .initialized RX4, .code yX4_bit cX4_bit 1 (some .int)] ++ wsX40)
def wsX4_answerForAlive_r1 : List Cond := [Cond.fieldLink RX4 48 "TraderRights" "mandates" "LTraderRights$Mandates;", Cond.methodLink RX4 188 yX4_aliveOn, Cond.instanceMethod yX4_aliveOn, Cond.selects RX4 yX4_aliveOn yX4_aliveOn, Cond.initialized RX4, Cond.code yX4_aliveOn cX4_aliveOn 4 (some .int), Cond.fieldLink RX4 7 "TraderRights" "traders" "I", Cond.fieldLink RX4 55 "TraderRights" "suspensions" "LTraderRights$Suspensions;", Cond.methodLink RX4 150 yX4_isEnded, Cond.instanceMethod yX4_isEnded, Cond.selects RX4 yX4_isEnded yX4_isEnded, Cond.code yX4_isEnded cX4_isEnded 3 (some .boolean), Cond.fieldLink RX4 29 "TraderRights" "endDays" "[I", Cond.instanceMethod yX3_isOn, Cond.initialized RX3, Cond.selects RX3 yX3_isOn yX3_isOn, Cond.code yX3_isOn cX3_isOn 6 (some .boolean), Cond.fieldLink RX3 9 "TraderRights$Suspensions" "size" "I", Cond.fieldLink RX3 15 "TraderRights$Suspensions" "trader" "[I", Cond.fieldLink RX3 19 "TraderRights$Suspensions" "from" "[I", Cond.fieldLink RX3 22 "TraderRights$Suspensions" "isSuspending" "[Z", Cond.methodLink RX4 106 yX4_bit, Cond.static yX4_bit, Cond.code yX4_bit cX4_bit 1 (some .int)]
def wsX4_answerForAlive_r2 : List Cond := [Cond.methodLink RX4 211 yX4_ownersOf, Cond.instanceMethod yX4_ownersOf, Cond.selects RX4 yX4_ownersOf yX4_ownersOf, Cond.code yX4_ownersOf cX4_ownersOf 9 (some .int), Cond.fieldLink RX4 41 "TraderRights" "rights" "LTraderRights$Rights;", Cond.instanceMethod yX2_tradersWith, Cond.initialized RX2, Cond.selects RX2 yX2_tradersWith yX2_tradersWith, Cond.code yX2_tradersWith cX2_tradersWith 7 (some .int), Cond.fieldLink RX2 9 "TraderRights$Rights" "size" "I", Cond.fieldLink RX2 22 "TraderRights$Rights" "place" "[I", Cond.fieldLink RX2 19 "TraderRights$Rights" "act" "[I", Cond.fieldLink RX2 15 "TraderRights$Rights" "trader" "[I", Cond.methodLink RX2 31 yX2_isOnDay, Cond.instanceMethod yX2_isOnDay, Cond.selects RX2 yX2_isOnDay yX2_isOnDay, Cond.code yX2_isOnDay cX2_isOnDay 3 (some .boolean), Cond.fieldLink RX2 25 "TraderRights$Rights" "from" "[I", Cond.fieldLink RX2 28 "TraderRights$Rights" "to" "[I", Cond.methodLink RX4 119 yX4_groupsAmong, Cond.instanceMethod yX4_groupsAmong, Cond.selects RX4 yX4_groupsAmong yX4_groupsAmong, Cond.code yX4_groupsAmong cX4_groupsAmong 5 (some .int), Cond.fieldLink RX4 16 "TraderRights" "directGroups" "[I"]
def wsX4_answerForAlive_r3 : List Cond := [Cond.methodLink RX4 201 yX4_groupsOfAll, Cond.instanceMethod yX4_groupsOfAll, Cond.selects RX4 yX4_groupsOfAll yX4_groupsOfAll, Cond.code yX4_groupsOfAll cX4_groupsOfAll 4 (some .int), Cond.methodLink RX4 123 yX4_holds, Cond.static yX4_holds, Cond.code yX4_holds cX4_holds 2 (some .boolean), Cond.methodLink RX4 102 yX4_isForbidden, Cond.instanceMethod yX4_isForbidden, Cond.selects RX4 yX4_isForbidden yX4_isForbidden, Cond.code yX4_isForbidden cX4_isForbidden 3 (some .boolean), Cond.fieldLink RX4 20 "TraderRights" "forbiddenActs" "[I", Cond.methodLink RX4 214 yX4_principalSet, Cond.instanceMethod yX4_principalSet, Cond.selects RX4 yX4_principalSet yX4_principalSet, Cond.code yX4_principalSet cX4_principalSet 2 (some .int), Cond.fieldLink RX4 26 "TraderRights" "principals" "[I", Cond.instanceMethod yX0_giversTo, Cond.initialized RX0, Cond.selects RX0 yX0_giversTo yX0_giversTo, Cond.code yX0_giversTo cX0_giversTo 6 (some .int), Cond.fieldLink RX0 9 "TraderRights$Mandates" "size" "I", Cond.fieldLink RX0 19 "TraderRights$Mandates" "taker" "[I", Cond.fieldLink RX0 22 "TraderRights$Mandates" "isDirect" "[Z"]
def wsX4_answerForAlive_r4 : List Cond := [Cond.fieldLink RX0 26 "TraderRights$Mandates" "until" "[I", Cond.fieldLink RX0 15 "TraderRights$Mandates" "giver" "[I"]
def wsX4_answerForAlive : List Cond := .code yX4_answerForAlive cX4_answerForAlive 9 (some .int) :: ((wsX4_answerForAlive_r1 ++ (wsX4_answerForAlive_r2 ++ (wsX4_answerForAlive_r3 ++ wsX4_answerForAlive_r4))) ++ wsX40 ++ wsX30 ++ wsX20 ++ wsX00)
def wsX4_may_r1 : List Cond := [Cond.fieldLink RX4 55 "TraderRights" "suspensions" "LTraderRights$Suspensions;", Cond.methodLink RX4 73 yX4_isTrader, Cond.instanceMethod yX4_isTrader, Cond.selects RX4 yX4_isTrader yX4_isTrader, Cond.initialized RX4, Cond.code yX4_isTrader cX4_isTrader 2 (some .boolean), Cond.fieldLink RX4 7 "TraderRights" "traders" "I", Cond.methodLink RX4 77 yX4_isAct, Cond.static yX4_isAct, Cond.code yX4_isAct cX4_isAct 1 (some .boolean), Cond.methodLink RX4 80 yX4_isPlace, Cond.static yX4_isPlace, Cond.code yX4_isPlace cX4_isPlace 1 (some .boolean), Cond.methodLink RX4 88 yX4_isDay, Cond.static yX4_isDay, Cond.code yX4_isDay cX4_isDay 1 (some .boolean), Cond.constant RX4 200 (100000), Cond.methodLink RX4 150 yX4_isEnded, Cond.instanceMethod yX4_isEnded, Cond.selects RX4 yX4_isEnded yX4_isEnded, Cond.code yX4_isEnded cX4_isEnded 3 (some .boolean), Cond.fieldLink RX4 29 "TraderRights" "endDays" "[I", Cond.instanceMethod yX3_isOn, Cond.initialized RX3]
def wsX4_may_r2 : List Cond := [Cond.selects RX3 yX3_isOn yX3_isOn, Cond.code yX3_isOn cX3_isOn 6 (some .boolean), Cond.fieldLink RX3 9 "TraderRights$Suspensions" "size" "I", Cond.fieldLink RX3 15 "TraderRights$Suspensions" "trader" "[I", Cond.fieldLink RX3 19 "TraderRights$Suspensions" "from" "[I", Cond.fieldLink RX3 22 "TraderRights$Suspensions" "isSuspending" "[Z", Cond.methodLink RX4 156 yX4_answerForAlive, Cond.instanceMethod yX4_answerForAlive, Cond.selects RX4 yX4_answerForAlive yX4_answerForAlive, Cond.code yX4_answerForAlive cX4_answerForAlive 9 (some .int), Cond.fieldLink RX4 48 "TraderRights" "mandates" "LTraderRights$Mandates;", Cond.methodLink RX4 188 yX4_aliveOn, Cond.instanceMethod yX4_aliveOn, Cond.selects RX4 yX4_aliveOn yX4_aliveOn, Cond.code yX4_aliveOn cX4_aliveOn 4 (some .int), Cond.methodLink RX4 106 yX4_bit, Cond.static yX4_bit, Cond.code yX4_bit cX4_bit 1 (some .int), Cond.methodLink RX4 211 yX4_ownersOf, Cond.instanceMethod yX4_ownersOf, Cond.selects RX4 yX4_ownersOf yX4_ownersOf, Cond.code yX4_ownersOf cX4_ownersOf 9 (some .int), Cond.fieldLink RX4 41 "TraderRights" "rights" "LTraderRights$Rights;", Cond.instanceMethod yX2_tradersWith]
def wsX4_may_r3 : List Cond := [Cond.initialized RX2, Cond.selects RX2 yX2_tradersWith yX2_tradersWith, Cond.code yX2_tradersWith cX2_tradersWith 7 (some .int), Cond.fieldLink RX2 9 "TraderRights$Rights" "size" "I", Cond.fieldLink RX2 22 "TraderRights$Rights" "place" "[I", Cond.fieldLink RX2 19 "TraderRights$Rights" "act" "[I", Cond.fieldLink RX2 15 "TraderRights$Rights" "trader" "[I", Cond.methodLink RX2 31 yX2_isOnDay, Cond.instanceMethod yX2_isOnDay, Cond.selects RX2 yX2_isOnDay yX2_isOnDay, Cond.code yX2_isOnDay cX2_isOnDay 3 (some .boolean), Cond.fieldLink RX2 25 "TraderRights$Rights" "from" "[I", Cond.fieldLink RX2 28 "TraderRights$Rights" "to" "[I", Cond.methodLink RX4 119 yX4_groupsAmong, Cond.instanceMethod yX4_groupsAmong, Cond.selects RX4 yX4_groupsAmong yX4_groupsAmong, Cond.code yX4_groupsAmong cX4_groupsAmong 5 (some .int), Cond.fieldLink RX4 16 "TraderRights" "directGroups" "[I", Cond.methodLink RX4 201 yX4_groupsOfAll, Cond.instanceMethod yX4_groupsOfAll, Cond.selects RX4 yX4_groupsOfAll yX4_groupsOfAll, Cond.code yX4_groupsOfAll cX4_groupsOfAll 4 (some .int), Cond.methodLink RX4 123 yX4_holds, Cond.static yX4_holds]
def wsX4_may_r4 : List Cond := [Cond.code yX4_holds cX4_holds 2 (some .boolean), Cond.methodLink RX4 102 yX4_isForbidden, Cond.instanceMethod yX4_isForbidden, Cond.selects RX4 yX4_isForbidden yX4_isForbidden, Cond.code yX4_isForbidden cX4_isForbidden 3 (some .boolean), Cond.fieldLink RX4 20 "TraderRights" "forbiddenActs" "[I", Cond.methodLink RX4 214 yX4_principalSet, Cond.instanceMethod yX4_principalSet, Cond.selects RX4 yX4_principalSet yX4_principalSet, Cond.code yX4_principalSet cX4_principalSet 2 (some .int), Cond.fieldLink RX4 26 "TraderRights" "principals" "[I", Cond.instanceMethod yX0_giversTo, Cond.initialized RX0, Cond.selects RX0 yX0_giversTo yX0_giversTo, Cond.code yX0_giversTo cX0_giversTo 6 (some .int), Cond.fieldLink RX0 9 "TraderRights$Mandates" "size" "I", Cond.fieldLink RX0 19 "TraderRights$Mandates" "taker" "[I", Cond.fieldLink RX0 22 "TraderRights$Mandates" "isDirect" "[Z", Cond.fieldLink RX0 26 "TraderRights$Mandates" "until" "[I", Cond.fieldLink RX0 15 "TraderRights$Mandates" "giver" "[I"]
def wsX4_may : List Cond := .code yX4_may cX4_may 5 (some .int) :: ((wsX4_may_r1 ++ (wsX4_may_r2 ++ (wsX4_may_r3 ++ wsX4_may_r4))) ++ wsX40 ++ wsX30 ++ wsX20 ++ wsX00)
def wsX4_needsTwo : List Cond := .code yX4_needsTwo cX4_needsTwo 2 (some .boolean) :: ([.fieldLink RX4 13 "TraderRights" "actsOfTwo" "I", .methodLink RX4 123 yX4_holds, .static yX4_holds, .initialized RX4, .code yX4_holds cX4_holds 2 (some .boolean)] ++ wsX40)
def wsX4_two : List Cond := .code yX4_two cX4_two 3 (some .boolean) :: ([.fieldLink RX4 13 "TraderRights" "actsOfTwo" "I", .methodLink RX4 77 yX4_isAct, .static yX4_isAct, .initialized RX4, .code yX4_isAct cX4_isAct 1 (some .boolean), .methodLink RX4 160 yX4_needsTwo, .instanceMethod yX4_needsTwo, .selects RX4 yX4_needsTwo yX4_needsTwo, .code yX4_needsTwo cX4_needsTwo 2 (some .boolean), .methodLink RX4 123 yX4_holds, .static yX4_holds, .code yX4_holds cX4_holds 2 (some .boolean), .methodLink RX4 106 yX4_bit, .static yX4_bit, .code yX4_bit cX4_bit 1 (some .int)] ++ wsX40)
def wsX4_done_r1 : List Cond := [Cond.fieldLink RX4 23 "TraderRights" "deputies" "[I", Cond.methodLink RX4 163 yX4_may, Cond.instanceMethod yX4_may, Cond.selects RX4 yX4_may yX4_may, Cond.initialized RX4, Cond.code yX4_may cX4_may 5 (some .int), Cond.fieldLink RX4 55 "TraderRights" "suspensions" "LTraderRights$Suspensions;", Cond.methodLink RX4 73 yX4_isTrader, Cond.instanceMethod yX4_isTrader, Cond.selects RX4 yX4_isTrader yX4_isTrader, Cond.code yX4_isTrader cX4_isTrader 2 (some .boolean), Cond.fieldLink RX4 7 "TraderRights" "traders" "I", Cond.methodLink RX4 77 yX4_isAct, Cond.static yX4_isAct, Cond.code yX4_isAct cX4_isAct 1 (some .boolean), Cond.methodLink RX4 80 yX4_isPlace, Cond.static yX4_isPlace, Cond.code yX4_isPlace cX4_isPlace 1 (some .boolean), Cond.methodLink RX4 88 yX4_isDay, Cond.static yX4_isDay, Cond.code yX4_isDay cX4_isDay 1 (some .boolean), Cond.constant RX4 200 (100000), Cond.methodLink RX4 150 yX4_isEnded, Cond.instanceMethod yX4_isEnded]
def wsX4_done_r2 : List Cond := [Cond.selects RX4 yX4_isEnded yX4_isEnded, Cond.code yX4_isEnded cX4_isEnded 3 (some .boolean), Cond.fieldLink RX4 29 "TraderRights" "endDays" "[I", Cond.instanceMethod yX3_isOn, Cond.initialized RX3, Cond.selects RX3 yX3_isOn yX3_isOn, Cond.code yX3_isOn cX3_isOn 6 (some .boolean), Cond.fieldLink RX3 9 "TraderRights$Suspensions" "size" "I", Cond.fieldLink RX3 15 "TraderRights$Suspensions" "trader" "[I", Cond.fieldLink RX3 19 "TraderRights$Suspensions" "from" "[I", Cond.fieldLink RX3 22 "TraderRights$Suspensions" "isSuspending" "[Z", Cond.methodLink RX4 156 yX4_answerForAlive, Cond.instanceMethod yX4_answerForAlive, Cond.selects RX4 yX4_answerForAlive yX4_answerForAlive, Cond.code yX4_answerForAlive cX4_answerForAlive 9 (some .int), Cond.fieldLink RX4 48 "TraderRights" "mandates" "LTraderRights$Mandates;", Cond.methodLink RX4 188 yX4_aliveOn, Cond.instanceMethod yX4_aliveOn, Cond.selects RX4 yX4_aliveOn yX4_aliveOn, Cond.code yX4_aliveOn cX4_aliveOn 4 (some .int), Cond.methodLink RX4 106 yX4_bit, Cond.static yX4_bit, Cond.code yX4_bit cX4_bit 1 (some .int), Cond.methodLink RX4 211 yX4_ownersOf]
def wsX4_done_r3 : List Cond := [Cond.instanceMethod yX4_ownersOf, Cond.selects RX4 yX4_ownersOf yX4_ownersOf, Cond.code yX4_ownersOf cX4_ownersOf 9 (some .int), Cond.fieldLink RX4 41 "TraderRights" "rights" "LTraderRights$Rights;", Cond.instanceMethod yX2_tradersWith, Cond.initialized RX2, Cond.selects RX2 yX2_tradersWith yX2_tradersWith, Cond.code yX2_tradersWith cX2_tradersWith 7 (some .int), Cond.fieldLink RX2 9 "TraderRights$Rights" "size" "I", Cond.fieldLink RX2 22 "TraderRights$Rights" "place" "[I", Cond.fieldLink RX2 19 "TraderRights$Rights" "act" "[I", Cond.fieldLink RX2 15 "TraderRights$Rights" "trader" "[I", Cond.methodLink RX2 31 yX2_isOnDay, Cond.instanceMethod yX2_isOnDay, Cond.selects RX2 yX2_isOnDay yX2_isOnDay, Cond.code yX2_isOnDay cX2_isOnDay 3 (some .boolean), Cond.fieldLink RX2 25 "TraderRights$Rights" "from" "[I", Cond.fieldLink RX2 28 "TraderRights$Rights" "to" "[I", Cond.methodLink RX4 119 yX4_groupsAmong, Cond.instanceMethod yX4_groupsAmong, Cond.selects RX4 yX4_groupsAmong yX4_groupsAmong, Cond.code yX4_groupsAmong cX4_groupsAmong 5 (some .int), Cond.fieldLink RX4 16 "TraderRights" "directGroups" "[I", Cond.methodLink RX4 201 yX4_groupsOfAll]
def wsX4_done_r4 : List Cond := [Cond.instanceMethod yX4_groupsOfAll, Cond.selects RX4 yX4_groupsOfAll yX4_groupsOfAll, Cond.code yX4_groupsOfAll cX4_groupsOfAll 4 (some .int), Cond.methodLink RX4 123 yX4_holds, Cond.static yX4_holds, Cond.code yX4_holds cX4_holds 2 (some .boolean), Cond.methodLink RX4 102 yX4_isForbidden, Cond.instanceMethod yX4_isForbidden, Cond.selects RX4 yX4_isForbidden yX4_isForbidden, Cond.code yX4_isForbidden cX4_isForbidden 3 (some .boolean), Cond.fieldLink RX4 20 "TraderRights" "forbiddenActs" "[I", Cond.methodLink RX4 214 yX4_principalSet, Cond.instanceMethod yX4_principalSet, Cond.selects RX4 yX4_principalSet yX4_principalSet, Cond.code yX4_principalSet cX4_principalSet 2 (some .int), Cond.fieldLink RX4 26 "TraderRights" "principals" "[I", Cond.instanceMethod yX0_giversTo, Cond.initialized RX0, Cond.selects RX0 yX0_giversTo yX0_giversTo, Cond.code yX0_giversTo cX0_giversTo 6 (some .int), Cond.fieldLink RX0 9 "TraderRights$Mandates" "size" "I", Cond.fieldLink RX0 19 "TraderRights$Mandates" "taker" "[I", Cond.fieldLink RX0 22 "TraderRights$Mandates" "isDirect" "[Z", Cond.fieldLink RX0 26 "TraderRights$Mandates" "until" "[I"]
def wsX4_done_r5 : List Cond := [Cond.fieldLink RX0 15 "TraderRights$Mandates" "giver" "[I", Cond.methodLink RX4 160 yX4_needsTwo, Cond.instanceMethod yX4_needsTwo, Cond.selects RX4 yX4_needsTwo yX4_needsTwo, Cond.code yX4_needsTwo cX4_needsTwo 2 (some .boolean), Cond.fieldLink RX4 13 "TraderRights" "actsOfTwo" "I"]
def wsX4_done : List Cond := .code yX4_done cX4_done 6 (some .int) :: ((wsX4_done_r1 ++ (wsX4_done_r2 ++ (wsX4_done_r3 ++ (wsX4_done_r4 ++ wsX4_done_r5)))) ++ wsX40 ++ wsX30 ++ wsX20 ++ wsX00)
def wsX4_letter : List Cond := .code yX4_letter cX4_letter 3 (some .int) :: ([.classLink RX4 83 "java/lang/IllegalArgumentException", .initialized "java/lang/IllegalArgumentException", .classLink RX4 169 "java/lang/IndexOutOfBoundsException", .initialized "java/lang/IndexOutOfBoundsException", .constant RX4 166 (99999999), .methodLink RX4 174 yX4_digit, .static yX4_digit, .initialized RX4, .code yX4_digit cX4_digit 4 (some .int), .methodLink RX4 177 yX4_checkValue, .static yX4_checkValue, .code yX4_checkValue cX4_checkValue 3 (some .int)] ++ (vx_atS RX4 87 "java/lang/IllegalArgumentException" ["java/lang/RuntimeException", "java/lang/Exception"]).filter goodWord ++ (vx_atS RX4 173 "java/lang/IndexOutOfBoundsException" ["java/lang/RuntimeException", "java/lang/Exception"]).filter goodWord)
def wsX4_check : List Cond := .code yX4_check cX4_check 2 (some .int) :: ([.fieldLink RX4 62 "TraderRights" "reader" "LTraderRights$Reader;", .instanceMethod yX1_read, .initialized RX1, .selects RX1 yX1_read yX1_read, .code yX1_read cX1_read 4 (some .int), .fieldLink RX1 15 "TraderRights$Reader" "lettersRead" "I", .fieldLink RX1 18 "TraderRights$Reader" "number" "I", .constant RX1 24 (99999999), .fieldLink RX1 9 "TraderRights$Reader" "latest" "I", .methodLink RX1 21 yX1_restart, .instanceMethod yX1_restart, .selects RX1 yX1_restart yX1_restart, .code yX1_restart cX1_restart 1 none, .static yX4_checkValue, .initialized RX4, .code yX4_checkValue cX4_checkValue 3 (some .int), .methodLink RX4 174 yX4_digit, .static yX4_digit, .code yX4_digit cX4_digit 4 (some .int)] ++ wsX40 ++ wsX10)
def wsX4_certified : List Cond := .code yX4_certified cX4_certified 1 (some .int) :: ([.fieldLink RX4 62 "TraderRights" "reader" "LTraderRights$Reader;"] ++ wsX40 ++ wsX10)
def wsX4_ownActs_r1 : List Cond := [Cond.fieldLink RX4 41 "TraderRights" "rights" "LTraderRights$Rights;", Cond.fieldLink RX4 20 "TraderRights" "forbiddenActs" "[I", Cond.methodLink RX4 106 yX4_bit, Cond.static yX4_bit, Cond.initialized RX4, Cond.code yX4_bit cX4_bit 1 (some .int), Cond.methodLink RX4 188 yX4_aliveOn, Cond.instanceMethod yX4_aliveOn, Cond.selects RX4 yX4_aliveOn yX4_aliveOn, Cond.code yX4_aliveOn cX4_aliveOn 4 (some .int), Cond.fieldLink RX4 7 "TraderRights" "traders" "I", Cond.fieldLink RX4 55 "TraderRights" "suspensions" "LTraderRights$Suspensions;", Cond.methodLink RX4 150 yX4_isEnded, Cond.instanceMethod yX4_isEnded, Cond.selects RX4 yX4_isEnded yX4_isEnded, Cond.code yX4_isEnded cX4_isEnded 3 (some .boolean), Cond.fieldLink RX4 29 "TraderRights" "endDays" "[I", Cond.instanceMethod yX3_isOn, Cond.initialized RX3, Cond.selects RX3 yX3_isOn yX3_isOn, Cond.code yX3_isOn cX3_isOn 6 (some .boolean), Cond.fieldLink RX3 9 "TraderRights$Suspensions" "size" "I", Cond.fieldLink RX3 15 "TraderRights$Suspensions" "trader" "[I", Cond.fieldLink RX3 19 "TraderRights$Suspensions" "from" "[I"]
def wsX4_ownActs_r2 : List Cond := [Cond.fieldLink RX3 22 "TraderRights$Suspensions" "isSuspending" "[Z", Cond.methodLink RX4 119 yX4_groupsAmong, Cond.instanceMethod yX4_groupsAmong, Cond.selects RX4 yX4_groupsAmong yX4_groupsAmong, Cond.code yX4_groupsAmong cX4_groupsAmong 5 (some .int), Cond.fieldLink RX4 16 "TraderRights" "directGroups" "[I", Cond.methodLink RX4 201 yX4_groupsOfAll, Cond.instanceMethod yX4_groupsOfAll, Cond.selects RX4 yX4_groupsOfAll yX4_groupsOfAll, Cond.code yX4_groupsOfAll cX4_groupsOfAll 4 (some .int), Cond.methodLink RX4 123 yX4_holds, Cond.static yX4_holds, Cond.code yX4_holds cX4_holds 2 (some .boolean), Cond.instanceMethod yX2_actsOf, Cond.initialized RX2, Cond.selects RX2 yX2_actsOf yX2_actsOf, Cond.code yX2_actsOf cX2_actsOf 5 (some .int), Cond.fieldLink RX2 9 "TraderRights$Rights" "size" "I", Cond.fieldLink RX2 15 "TraderRights$Rights" "trader" "[I", Cond.fieldLink RX2 19 "TraderRights$Rights" "act" "[I", Cond.methodLink RX2 31 yX2_isOnDay, Cond.instanceMethod yX2_isOnDay, Cond.selects RX2 yX2_isOnDay yX2_isOnDay, Cond.code yX2_isOnDay cX2_isOnDay 3 (some .boolean)]
def wsX4_ownActs_r3 : List Cond := [Cond.fieldLink RX2 25 "TraderRights$Rights" "from" "[I", Cond.fieldLink RX2 28 "TraderRights$Rights" "to" "[I"]
def wsX4_ownActs : List Cond := .code yX4_ownActs cX4_ownActs 4 (some .int) :: ((wsX4_ownActs_r1 ++ (wsX4_ownActs_r2 ++ wsX4_ownActs_r3)) ++ wsX40 ++ wsX30 ++ wsX20)
def wsX4_look_r1 : List Cond := [Cond.classLink RX4 169 "java/lang/IndexOutOfBoundsException", Cond.initialized "java/lang/IndexOutOfBoundsException", Cond.classLink RX4 83 "java/lang/IllegalArgumentException", Cond.initialized "java/lang/IllegalArgumentException", Cond.fieldLink RX4 55 "TraderRights" "suspensions" "LTraderRights$Suspensions;", Cond.fieldLink RX4 23 "TraderRights" "deputies" "[I", Cond.fieldLink RX4 26 "TraderRights" "principals" "[I", Cond.fieldLink RX4 48 "TraderRights" "mandates" "LTraderRights$Mandates;", Cond.methodLink RX4 73 yX4_isTrader, Cond.instanceMethod yX4_isTrader, Cond.selects RX4 yX4_isTrader yX4_isTrader, Cond.initialized RX4, Cond.code yX4_isTrader cX4_isTrader 2 (some .boolean), Cond.fieldLink RX4 7 "TraderRights" "traders" "I", Cond.methodLink RX4 88 yX4_isDay, Cond.static yX4_isDay, Cond.code yX4_isDay cX4_isDay 1 (some .boolean), Cond.constant RX4 200 (100000), Cond.methodLink RX4 150 yX4_isEnded, Cond.instanceMethod yX4_isEnded, Cond.selects RX4 yX4_isEnded yX4_isEnded, Cond.code yX4_isEnded cX4_isEnded 3 (some .boolean), Cond.fieldLink RX4 29 "TraderRights" "endDays" "[I", Cond.instanceMethod yX3_isOn]
def wsX4_look_r2 : List Cond := [Cond.initialized RX3, Cond.selects RX3 yX3_isOn yX3_isOn, Cond.code yX3_isOn cX3_isOn 6 (some .boolean), Cond.fieldLink RX3 9 "TraderRights$Suspensions" "size" "I", Cond.fieldLink RX3 15 "TraderRights$Suspensions" "trader" "[I", Cond.fieldLink RX3 19 "TraderRights$Suspensions" "from" "[I", Cond.fieldLink RX3 22 "TraderRights$Suspensions" "isSuspending" "[Z", Cond.methodLink RX4 188 yX4_aliveOn, Cond.instanceMethod yX4_aliveOn, Cond.selects RX4 yX4_aliveOn yX4_aliveOn, Cond.code yX4_aliveOn cX4_aliveOn 4 (some .int), Cond.methodLink RX4 106 yX4_bit, Cond.static yX4_bit, Cond.code yX4_bit cX4_bit 1 (some .int), Cond.methodLink RX4 119 yX4_groupsAmong, Cond.instanceMethod yX4_groupsAmong, Cond.selects RX4 yX4_groupsAmong yX4_groupsAmong, Cond.code yX4_groupsAmong cX4_groupsAmong 5 (some .int), Cond.fieldLink RX4 16 "TraderRights" "directGroups" "[I", Cond.methodLink RX4 201 yX4_groupsOfAll, Cond.instanceMethod yX4_groupsOfAll, Cond.selects RX4 yX4_groupsOfAll yX4_groupsOfAll, Cond.code yX4_groupsOfAll cX4_groupsOfAll 4 (some .int), Cond.methodLink RX4 123 yX4_holds]
def wsX4_look_r3 : List Cond := [Cond.static yX4_holds, Cond.code yX4_holds cX4_holds 2 (some .boolean), Cond.methodLink RX4 126 yJ6_bitCount_0f7a4, Cond.static yJ6_bitCount_0f7a4, Cond.initialized RJ6, Cond.code yJ6_bitCount_0f7a4 cJ6_bitCount_0f7a4 1 (some .int), Cond.constant RJ6 265 (1431655765), Cond.constant RJ6 266 (858993459), Cond.constant RJ6 267 (252645135), Cond.methodLink RX4 191 yX4_ownActs, Cond.instanceMethod yX4_ownActs, Cond.selects RX4 yX4_ownActs yX4_ownActs, Cond.code yX4_ownActs cX4_ownActs 4 (some .int), Cond.fieldLink RX4 41 "TraderRights" "rights" "LTraderRights$Rights;", Cond.fieldLink RX4 20 "TraderRights" "forbiddenActs" "[I", Cond.instanceMethod yX2_actsOf, Cond.initialized RX2, Cond.selects RX2 yX2_actsOf yX2_actsOf, Cond.code yX2_actsOf cX2_actsOf 5 (some .int), Cond.fieldLink RX2 9 "TraderRights$Rights" "size" "I", Cond.fieldLink RX2 15 "TraderRights$Rights" "trader" "[I", Cond.fieldLink RX2 19 "TraderRights$Rights" "act" "[I", Cond.methodLink RX2 31 yX2_isOnDay, Cond.instanceMethod yX2_isOnDay]
def wsX4_look_r4 : List Cond := [Cond.selects RX2 yX2_isOnDay yX2_isOnDay, Cond.code yX2_isOnDay cX2_isOnDay 3 (some .boolean), Cond.fieldLink RX2 25 "TraderRights$Rights" "from" "[I", Cond.fieldLink RX2 28 "TraderRights$Rights" "to" "[I", Cond.instanceMethod yX0_sizeOf, Cond.initialized RX0, Cond.selects RX0 yX0_sizeOf yX0_sizeOf, Cond.code yX0_sizeOf cX0_sizeOf 5 (some .int), Cond.fieldLink RX0 9 "TraderRights$Mandates" "size" "I", Cond.fieldLink RX0 19 "TraderRights$Mandates" "taker" "[I", Cond.fieldLink RX0 26 "TraderRights$Mandates" "until" "[I"]
def wsX4_look : List Cond := .code yX4_look cX4_look 4 (some .int) :: ((wsX4_look_r1 ++ (wsX4_look_r2 ++ (wsX4_look_r3 ++ wsX4_look_r4))) ++ wsX40 ++ wsX30 ++ wsX20 ++ wsX00 ++ (vx_atS RX4 173 "java/lang/IndexOutOfBoundsException" ["java/lang/RuntimeException", "java/lang/Exception"]).filter goodWord ++ (vx_atS RX4 87 "java/lang/IllegalArgumentException" ["java/lang/RuntimeException", "java/lang/Exception"]).filter goodWord)
def wsX4_count : List Cond := .code yX4_count cX4_count 2 (some .int) :: ([.fieldLink RX4 7 "TraderRights" "traders" "I", .fieldLink RX4 41 "TraderRights" "rights" "LTraderRights$Rights;", .fieldLink RX4 48 "TraderRights" "mandates" "LTraderRights$Mandates;", .fieldLink RX4 55 "TraderRights" "suspensions" "LTraderRights$Suspensions;", .fieldLink RX4 13 "TraderRights" "actsOfTwo" "I", .fieldLink RX4 62 "TraderRights" "reader" "LTraderRights$Reader;"] ++ wsX40 ++ wsX20 ++ wsX00 ++ wsX30 ++ wsX10)
def wsX5_init : List Cond := .code yX5_init cX5_init 1 none :: ([.methodLink RX5 1 objectInit, .instanceMethod objectInit, .code objectInit ⟨#[0xb1]⟩ 1 none, .arrayClass .int, .fieldLink RX5 7 "TraderRightsModel" "groupsOf" "[I", .fieldLink RX5 13 "TraderRightsModel" "forbidden" "[I", .fieldLink RX5 16 "TraderRightsModel" "deputyOf" "[I", .fieldLink RX5 19 "TraderRightsModel" "endsAt" "[I", .fieldLink RX5 22 "TraderRightsModel" "rightOf" "[I", .fieldLink RX5 25 "TraderRightsModel" "rightAct" "[I", .fieldLink RX5 28 "TraderRightsModel" "rightPlace" "[I", .fieldLink RX5 31 "TraderRightsModel" "rightFrom" "[I", .fieldLink RX5 34 "TraderRightsModel" "rightTo" "[I", .fieldLink RX5 37 "TraderRightsModel" "giver" "[I", .fieldLink RX5 40 "TraderRightsModel" "taker" "[I", .arrayClass .boolean, .fieldLink RX5 43 "TraderRightsModel" "isDirect" "[Z", .fieldLink RX5 47 "TraderRightsModel" "until" "[I", .fieldLink RX5 50 "TraderRightsModel" "suspended" "[I", .fieldLink RX5 53 "TraderRightsModel" "suspendedOn" "[I", .fieldLink RX5 56 "TraderRightsModel" "isOn" "[Z", .fieldLink RX5 59 "TraderRightsModel" "letters" "[I", .fieldLink RX5 62 "TraderRightsModel" "certified" "I"] ++ wsX50)
def wsX5_thrown : List Cond := .code yX5_thrown cX5_thrown 1 (some .int) :: ([.fieldLink RX5 66 "TraderRightsModel" "thrown" "I"] ++ wsX50)
def wsX5_in : List Cond := .code yX5_in cX5_in 3 (some .boolean) :: ([])
def wsX5_isTrader : List Cond := .code yX5_isTrader cX5_isTrader 2 (some .boolean) :: ([.fieldLink RX5 69 "TraderRightsModel" "traders" "I"] ++ wsX50)
def wsX5_isDay : List Cond := .code yX5_isDay cX5_isDay 1 (some .boolean) :: ([.constant RX5 72 (100000), .methodLink RX5 73 yX5_in, .static yX5_in, .initialized RX5, .code yX5_in cX5_in 3 (some .boolean)])
def wsX5_isEight : List Cond := .code yX5_isEight cX5_isEight 1 (some .boolean) :: ([.methodLink RX5 73 yX5_in, .static yX5_in, .initialized RX5, .code yX5_in cX5_in 3 (some .boolean)])
def wsX5_trader : List Cond := .code yX5_trader cX5_trader 1 (some .int) :: ([.fieldLink RX5 69 "TraderRightsModel" "traders" "I", .fieldLink RX5 66 "TraderRightsModel" "thrown" "I", .fieldLink RX5 16 "TraderRightsModel" "deputyOf" "[I", .fieldLink RX5 19 "TraderRightsModel" "endsAt" "[I"] ++ wsX50)
def wsX5_right : List Cond := .code yX5_right cX5_right 7 (some .int) :: ([.fieldLink RX5 87 "TraderRightsModel" "rights" "I", .fieldLink RX5 66 "TraderRightsModel" "thrown" "I", .fieldLink RX5 22 "TraderRightsModel" "rightOf" "[I", .fieldLink RX5 25 "TraderRightsModel" "rightAct" "[I", .fieldLink RX5 28 "TraderRightsModel" "rightPlace" "[I", .fieldLink RX5 31 "TraderRightsModel" "rightFrom" "[I", .fieldLink RX5 34 "TraderRightsModel" "rightTo" "[I", .methodLink RX5 77 yX5_isTrader, .instanceMethod yX5_isTrader, .selects RX5 yX5_isTrader yX5_isTrader, .initialized RX5, .code yX5_isTrader cX5_isTrader 2 (some .boolean), .fieldLink RX5 69 "TraderRightsModel" "traders" "I", .methodLink RX5 81 yX5_isEight, .static yX5_isEight, .code yX5_isEight cX5_isEight 1 (some .boolean), .methodLink RX5 73 yX5_in, .static yX5_in, .code yX5_in cX5_in 3 (some .boolean), .methodLink RX5 84 yX5_isDay, .static yX5_isDay, .code yX5_isDay cX5_isDay 1 (some .boolean), .constant RX5 72 (100000)] ++ wsX50)
def wsX5_isForbidden : List Cond := .code yX5_isForbidden cX5_isForbidden 3 (some .boolean) :: ([.fieldLink RX5 13 "TraderRightsModel" "forbidden" "[I"] ++ wsX50)
def wsX5_forbid : List Cond := .code yX5_forbid cX5_forbid 4 (some .boolean) :: ([.fieldLink RX5 66 "TraderRightsModel" "thrown" "I", .fieldLink RX5 13 "TraderRightsModel" "forbidden" "[I", .methodLink RX5 77 yX5_isTrader, .instanceMethod yX5_isTrader, .selects RX5 yX5_isTrader yX5_isTrader, .initialized RX5, .code yX5_isTrader cX5_isTrader 2 (some .boolean), .fieldLink RX5 69 "TraderRightsModel" "traders" "I", .methodLink RX5 81 yX5_isEight, .static yX5_isEight, .code yX5_isEight cX5_isEight 1 (some .boolean), .methodLink RX5 73 yX5_in, .static yX5_in, .code yX5_in cX5_in 3 (some .boolean), .methodLink RX5 90 yX5_isForbidden, .instanceMethod yX5_isForbidden, .selects RX5 yX5_isForbidden yX5_isForbidden, .code yX5_isForbidden cX5_isForbidden 3 (some .boolean)] ++ wsX50)
def wsX5_isEnded : List Cond := .code yX5_isEnded cX5_isEnded 3 (some .boolean) :: ([.fieldLink RX5 19 "TraderRightsModel" "endsAt" "[I"] ++ wsX50)
def wsX5_isSuspended : List Cond := .code yX5_isSuspended cX5_isSuspended 7 (some .boolean) :: ([.fieldLink RX5 114 "TraderRightsModel" "suspensions" "I", .fieldLink RX5 50 "TraderRightsModel" "suspended" "[I", .fieldLink RX5 53 "TraderRightsModel" "suspendedOn" "[I", .fieldLink RX5 56 "TraderRightsModel" "isOn" "[Z"] ++ wsX50)
def wsX5_isAlive : List Cond := .code yX5_isAlive cX5_isAlive 3 (some .boolean) :: ([.methodLink RX5 117 yX5_isEnded, .instanceMethod yX5_isEnded, .selects RX5 yX5_isEnded yX5_isEnded, .initialized RX5, .code yX5_isEnded cX5_isEnded 3 (some .boolean), .fieldLink RX5 19 "TraderRightsModel" "endsAt" "[I", .methodLink RX5 120 yX5_isSuspended, .instanceMethod yX5_isSuspended, .selects RX5 yX5_isSuspended yX5_isSuspended, .code yX5_isSuspended cX5_isSuspended 7 (some .boolean), .fieldLink RX5 114 "TraderRightsModel" "suspensions" "I", .fieldLink RX5 50 "TraderRightsModel" "suspended" "[I", .fieldLink RX5 53 "TraderRightsModel" "suspendedOn" "[I", .fieldLink RX5 56 "TraderRightsModel" "isOn" "[Z"] ++ wsX50)
def wsX5_reached : List Cond := .code yX5_reached cX5_reached 7 (some .int) :: ([.fieldLink RX5 69 "TraderRightsModel" "traders" "I", .fieldLink RX5 7 "TraderRightsModel" "groupsOf" "[I", .methodLink RX5 94 yX5_isAlive, .instanceMethod yX5_isAlive, .selects RX5 yX5_isAlive yX5_isAlive, .initialized RX5, .code yX5_isAlive cX5_isAlive 3 (some .boolean), .methodLink RX5 117 yX5_isEnded, .instanceMethod yX5_isEnded, .selects RX5 yX5_isEnded yX5_isEnded, .code yX5_isEnded cX5_isEnded 3 (some .boolean), .fieldLink RX5 19 "TraderRightsModel" "endsAt" "[I", .methodLink RX5 120 yX5_isSuspended, .instanceMethod yX5_isSuspended, .selects RX5 yX5_isSuspended yX5_isSuspended, .code yX5_isSuspended cX5_isSuspended 7 (some .boolean), .fieldLink RX5 114 "TraderRightsModel" "suspensions" "I", .fieldLink RX5 50 "TraderRightsModel" "suspended" "[I", .fieldLink RX5 53 "TraderRightsModel" "suspendedOn" "[I", .fieldLink RX5 56 "TraderRightsModel" "isOn" "[Z"] ++ wsX50)
def wsX5_bits : List Cond := .code yX5_bits cX5_bits 3 (some .int) :: ([])
def wsX5_areTwo : List Cond := .code yX5_areTwo cX5_areTwo 3 (some .boolean) :: ([.methodLink RX5 77 yX5_isTrader, .instanceMethod yX5_isTrader, .selects RX5 yX5_isTrader yX5_isTrader, .initialized RX5, .code yX5_isTrader cX5_isTrader 2 (some .boolean), .fieldLink RX5 69 "TraderRightsModel" "traders" "I"] ++ wsX50)
def wsX5_group_r1 : List Cond := [Cond.fieldLink RX5 66 "TraderRightsModel" "thrown" "I", Cond.fieldLink RX5 7 "TraderRightsModel" "groupsOf" "[I", Cond.methodLink RX5 97 yX5_areTwo, Cond.instanceMethod yX5_areTwo, Cond.selects RX5 yX5_areTwo yX5_areTwo, Cond.initialized RX5, Cond.code yX5_areTwo cX5_areTwo 3 (some .boolean), Cond.methodLink RX5 77 yX5_isTrader, Cond.instanceMethod yX5_isTrader, Cond.selects RX5 yX5_isTrader yX5_isTrader, Cond.code yX5_isTrader cX5_isTrader 2 (some .boolean), Cond.fieldLink RX5 69 "TraderRightsModel" "traders" "I", Cond.methodLink RX5 100 yX5_bits, Cond.static yX5_bits, Cond.code yX5_bits cX5_bits 3 (some .int), Cond.methodLink RX5 104 yX5_reached, Cond.instanceMethod yX5_reached, Cond.selects RX5 yX5_reached yX5_reached, Cond.code yX5_reached cX5_reached 7 (some .int), Cond.methodLink RX5 94 yX5_isAlive, Cond.instanceMethod yX5_isAlive, Cond.selects RX5 yX5_isAlive yX5_isAlive, Cond.code yX5_isAlive cX5_isAlive 3 (some .boolean), Cond.methodLink RX5 117 yX5_isEnded]
def wsX5_group_r2 : List Cond := [Cond.instanceMethod yX5_isEnded, Cond.selects RX5 yX5_isEnded yX5_isEnded, Cond.code yX5_isEnded cX5_isEnded 3 (some .boolean), Cond.fieldLink RX5 19 "TraderRightsModel" "endsAt" "[I", Cond.methodLink RX5 120 yX5_isSuspended, Cond.instanceMethod yX5_isSuspended, Cond.selects RX5 yX5_isSuspended yX5_isSuspended, Cond.code yX5_isSuspended cX5_isSuspended 7 (some .boolean), Cond.fieldLink RX5 114 "TraderRightsModel" "suspensions" "I", Cond.fieldLink RX5 50 "TraderRightsModel" "suspended" "[I", Cond.fieldLink RX5 53 "TraderRightsModel" "suspendedOn" "[I", Cond.fieldLink RX5 56 "TraderRightsModel" "isOn" "[Z"]
def wsX5_group : List Cond := .code yX5_group cX5_group 3 (some .int) :: ((wsX5_group_r1 ++ wsX5_group_r2) ++ wsX50)
def wsX5_withDeputy : List Cond := .code yX5_withDeputy cX5_withDeputy 4 (some .int) :: ([.fieldLink RX5 69 "TraderRightsModel" "traders" "I", .fieldLink RX5 16 "TraderRightsModel" "deputyOf" "[I"] ++ wsX50)
def wsX5_deputy : List Cond := .code yX5_deputy cX5_deputy 3 (some .int) :: ([.fieldLink RX5 66 "TraderRightsModel" "thrown" "I", .fieldLink RX5 16 "TraderRightsModel" "deputyOf" "[I", .methodLink RX5 97 yX5_areTwo, .instanceMethod yX5_areTwo, .selects RX5 yX5_areTwo yX5_areTwo, .initialized RX5, .code yX5_areTwo cX5_areTwo 3 (some .boolean), .methodLink RX5 77 yX5_isTrader, .instanceMethod yX5_isTrader, .selects RX5 yX5_isTrader yX5_isTrader, .code yX5_isTrader cX5_isTrader 2 (some .boolean), .fieldLink RX5 69 "TraderRightsModel" "traders" "I", .methodLink RX5 108 yX5_withDeputy, .instanceMethod yX5_withDeputy, .selects RX5 yX5_withDeputy yX5_withDeputy, .code yX5_withDeputy cX5_withDeputy 4 (some .int)] ++ wsX50)
def wsX5_mandate : List Cond := .code yX5_mandate cX5_mandate 5 (some .int) :: ([.fieldLink RX5 111 "TraderRightsModel" "mandates" "I", .fieldLink RX5 66 "TraderRightsModel" "thrown" "I", .fieldLink RX5 37 "TraderRightsModel" "giver" "[I", .fieldLink RX5 40 "TraderRightsModel" "taker" "[I", .fieldLink RX5 43 "TraderRightsModel" "isDirect" "[Z", .fieldLink RX5 47 "TraderRightsModel" "until" "[I", .methodLink RX5 97 yX5_areTwo, .instanceMethod yX5_areTwo, .selects RX5 yX5_areTwo yX5_areTwo, .initialized RX5, .code yX5_areTwo cX5_areTwo 3 (some .boolean), .methodLink RX5 77 yX5_isTrader, .instanceMethod yX5_isTrader, .selects RX5 yX5_isTrader yX5_isTrader, .code yX5_isTrader cX5_isTrader 2 (some .boolean), .fieldLink RX5 69 "TraderRightsModel" "traders" "I", .methodLink RX5 84 yX5_isDay, .static yX5_isDay, .code yX5_isDay cX5_isDay 1 (some .boolean), .constant RX5 72 (100000), .methodLink RX5 73 yX5_in, .static yX5_in, .code yX5_in cX5_in 3 (some .boolean)] ++ wsX50)
def wsX5_suspend : List Cond := .code yX5_suspend cX5_suspend 4 (some .int) :: ([.fieldLink RX5 114 "TraderRightsModel" "suspensions" "I", .fieldLink RX5 66 "TraderRightsModel" "thrown" "I", .fieldLink RX5 50 "TraderRightsModel" "suspended" "[I", .fieldLink RX5 53 "TraderRightsModel" "suspendedOn" "[I", .fieldLink RX5 56 "TraderRightsModel" "isOn" "[Z", .methodLink RX5 77 yX5_isTrader, .instanceMethod yX5_isTrader, .selects RX5 yX5_isTrader yX5_isTrader, .initialized RX5, .code yX5_isTrader cX5_isTrader 2 (some .boolean), .fieldLink RX5 69 "TraderRightsModel" "traders" "I", .methodLink RX5 84 yX5_isDay, .static yX5_isDay, .code yX5_isDay cX5_isDay 1 (some .boolean), .constant RX5 72 (100000), .methodLink RX5 73 yX5_in, .static yX5_in, .code yX5_in cX5_in 3 (some .boolean)] ++ wsX50)
def wsX5_end : List Cond := .code yX5_end cX5_end 3 (some .boolean) :: ([.fieldLink RX5 66 "TraderRightsModel" "thrown" "I", .fieldLink RX5 19 "TraderRightsModel" "endsAt" "[I", .methodLink RX5 77 yX5_isTrader, .instanceMethod yX5_isTrader, .selects RX5 yX5_isTrader yX5_isTrader, .initialized RX5, .code yX5_isTrader cX5_isTrader 2 (some .boolean), .fieldLink RX5 69 "TraderRightsModel" "traders" "I", .methodLink RX5 84 yX5_isDay, .static yX5_isDay, .code yX5_isDay cX5_isDay 1 (some .boolean), .constant RX5 72 (100000), .methodLink RX5 73 yX5_in, .static yX5_in, .code yX5_in cX5_in 3 (some .boolean)] ++ wsX50)
def wsX5_has_r1 : List Cond := [Cond.fieldLink RX5 87 "TraderRightsModel" "rights" "I", Cond.fieldLink RX5 25 "TraderRightsModel" "rightAct" "[I", Cond.fieldLink RX5 28 "TraderRightsModel" "rightPlace" "[I", Cond.fieldLink RX5 31 "TraderRightsModel" "rightFrom" "[I", Cond.fieldLink RX5 34 "TraderRightsModel" "rightTo" "[I", Cond.fieldLink RX5 22 "TraderRightsModel" "rightOf" "[I", Cond.methodLink RX5 104 yX5_reached, Cond.instanceMethod yX5_reached, Cond.selects RX5 yX5_reached yX5_reached, Cond.initialized RX5, Cond.code yX5_reached cX5_reached 7 (some .int), Cond.fieldLink RX5 69 "TraderRightsModel" "traders" "I", Cond.fieldLink RX5 7 "TraderRightsModel" "groupsOf" "[I", Cond.methodLink RX5 94 yX5_isAlive, Cond.instanceMethod yX5_isAlive, Cond.selects RX5 yX5_isAlive yX5_isAlive, Cond.code yX5_isAlive cX5_isAlive 3 (some .boolean), Cond.methodLink RX5 117 yX5_isEnded, Cond.instanceMethod yX5_isEnded, Cond.selects RX5 yX5_isEnded yX5_isEnded, Cond.code yX5_isEnded cX5_isEnded 3 (some .boolean), Cond.fieldLink RX5 19 "TraderRightsModel" "endsAt" "[I", Cond.methodLink RX5 120 yX5_isSuspended, Cond.instanceMethod yX5_isSuspended]
def wsX5_has_r2 : List Cond := [Cond.selects RX5 yX5_isSuspended yX5_isSuspended, Cond.code yX5_isSuspended cX5_isSuspended 7 (some .boolean), Cond.fieldLink RX5 114 "TraderRightsModel" "suspensions" "I", Cond.fieldLink RX5 50 "TraderRightsModel" "suspended" "[I", Cond.fieldLink RX5 53 "TraderRightsModel" "suspendedOn" "[I", Cond.fieldLink RX5 56 "TraderRightsModel" "isOn" "[Z", Cond.methodLink RX5 73 yX5_in, Cond.static yX5_in, Cond.code yX5_in cX5_in 3 (some .boolean), Cond.methodLink RX5 90 yX5_isForbidden, Cond.instanceMethod yX5_isForbidden, Cond.selects RX5 yX5_isForbidden yX5_isForbidden, Cond.code yX5_isForbidden cX5_isForbidden 3 (some .boolean), Cond.fieldLink RX5 13 "TraderRightsModel" "forbidden" "[I"]
def wsX5_has : List Cond := .code yX5_has cX5_has 9 (some .boolean) :: ((wsX5_has_r1 ++ wsX5_has_r2) ++ wsX50)
def wsX5_through_r1 : List Cond := [Cond.methodLink RX5 123 yX5_has, Cond.instanceMethod yX5_has, Cond.selects RX5 yX5_has yX5_has, Cond.initialized RX5, Cond.code yX5_has cX5_has 9 (some .boolean), Cond.fieldLink RX5 87 "TraderRightsModel" "rights" "I", Cond.fieldLink RX5 25 "TraderRightsModel" "rightAct" "[I", Cond.fieldLink RX5 28 "TraderRightsModel" "rightPlace" "[I", Cond.fieldLink RX5 31 "TraderRightsModel" "rightFrom" "[I", Cond.fieldLink RX5 34 "TraderRightsModel" "rightTo" "[I", Cond.fieldLink RX5 22 "TraderRightsModel" "rightOf" "[I", Cond.methodLink RX5 104 yX5_reached, Cond.instanceMethod yX5_reached, Cond.selects RX5 yX5_reached yX5_reached, Cond.code yX5_reached cX5_reached 7 (some .int), Cond.fieldLink RX5 69 "TraderRightsModel" "traders" "I", Cond.fieldLink RX5 7 "TraderRightsModel" "groupsOf" "[I", Cond.methodLink RX5 94 yX5_isAlive, Cond.instanceMethod yX5_isAlive, Cond.selects RX5 yX5_isAlive yX5_isAlive, Cond.code yX5_isAlive cX5_isAlive 3 (some .boolean), Cond.methodLink RX5 117 yX5_isEnded, Cond.instanceMethod yX5_isEnded, Cond.selects RX5 yX5_isEnded yX5_isEnded]
def wsX5_through_r2 : List Cond := [Cond.code yX5_isEnded cX5_isEnded 3 (some .boolean), Cond.fieldLink RX5 19 "TraderRightsModel" "endsAt" "[I", Cond.methodLink RX5 120 yX5_isSuspended, Cond.instanceMethod yX5_isSuspended, Cond.selects RX5 yX5_isSuspended yX5_isSuspended, Cond.code yX5_isSuspended cX5_isSuspended 7 (some .boolean), Cond.fieldLink RX5 114 "TraderRightsModel" "suspensions" "I", Cond.fieldLink RX5 50 "TraderRightsModel" "suspended" "[I", Cond.fieldLink RX5 53 "TraderRightsModel" "suspendedOn" "[I", Cond.fieldLink RX5 56 "TraderRightsModel" "isOn" "[Z", Cond.methodLink RX5 73 yX5_in, Cond.static yX5_in, Cond.code yX5_in cX5_in 3 (some .boolean), Cond.methodLink RX5 90 yX5_isForbidden, Cond.instanceMethod yX5_isForbidden, Cond.selects RX5 yX5_isForbidden yX5_isForbidden, Cond.code yX5_isForbidden cX5_isForbidden 3 (some .boolean), Cond.fieldLink RX5 13 "TraderRightsModel" "forbidden" "[I"]
def wsX5_through : List Cond := .code yX5_through cX5_through 7 (some .int) :: ((wsX5_through_r1 ++ wsX5_through_r2) ++ wsX50)
def wsX5_answer_r1 : List Cond := [Cond.fieldLink RX5 16 "TraderRightsModel" "deputyOf" "[I", Cond.fieldLink RX5 111 "TraderRightsModel" "mandates" "I", Cond.fieldLink RX5 40 "TraderRightsModel" "taker" "[I", Cond.fieldLink RX5 47 "TraderRightsModel" "until" "[I", Cond.fieldLink RX5 37 "TraderRightsModel" "giver" "[I", Cond.fieldLink RX5 43 "TraderRightsModel" "isDirect" "[Z", Cond.methodLink RX5 77 yX5_isTrader, Cond.instanceMethod yX5_isTrader, Cond.selects RX5 yX5_isTrader yX5_isTrader, Cond.initialized RX5, Cond.code yX5_isTrader cX5_isTrader 2 (some .boolean), Cond.fieldLink RX5 69 "TraderRightsModel" "traders" "I", Cond.methodLink RX5 81 yX5_isEight, Cond.static yX5_isEight, Cond.code yX5_isEight cX5_isEight 1 (some .boolean), Cond.methodLink RX5 73 yX5_in, Cond.static yX5_in, Cond.code yX5_in cX5_in 3 (some .boolean), Cond.methodLink RX5 84 yX5_isDay, Cond.static yX5_isDay, Cond.code yX5_isDay cX5_isDay 1 (some .boolean), Cond.constant RX5 72 (100000), Cond.methodLink RX5 117 yX5_isEnded, Cond.instanceMethod yX5_isEnded]
def wsX5_answer_r2 : List Cond := [Cond.selects RX5 yX5_isEnded yX5_isEnded, Cond.code yX5_isEnded cX5_isEnded 3 (some .boolean), Cond.fieldLink RX5 19 "TraderRightsModel" "endsAt" "[I", Cond.methodLink RX5 120 yX5_isSuspended, Cond.instanceMethod yX5_isSuspended, Cond.selects RX5 yX5_isSuspended yX5_isSuspended, Cond.code yX5_isSuspended cX5_isSuspended 7 (some .boolean), Cond.fieldLink RX5 114 "TraderRightsModel" "suspensions" "I", Cond.fieldLink RX5 50 "TraderRightsModel" "suspended" "[I", Cond.fieldLink RX5 53 "TraderRightsModel" "suspendedOn" "[I", Cond.fieldLink RX5 56 "TraderRightsModel" "isOn" "[Z", Cond.methodLink RX5 123 yX5_has, Cond.instanceMethod yX5_has, Cond.selects RX5 yX5_has yX5_has, Cond.code yX5_has cX5_has 9 (some .boolean), Cond.fieldLink RX5 87 "TraderRightsModel" "rights" "I", Cond.fieldLink RX5 25 "TraderRightsModel" "rightAct" "[I", Cond.fieldLink RX5 28 "TraderRightsModel" "rightPlace" "[I", Cond.fieldLink RX5 31 "TraderRightsModel" "rightFrom" "[I", Cond.fieldLink RX5 34 "TraderRightsModel" "rightTo" "[I", Cond.fieldLink RX5 22 "TraderRightsModel" "rightOf" "[I", Cond.methodLink RX5 104 yX5_reached, Cond.instanceMethod yX5_reached, Cond.selects RX5 yX5_reached yX5_reached]
def wsX5_answer_r3 : List Cond := [Cond.code yX5_reached cX5_reached 7 (some .int), Cond.fieldLink RX5 7 "TraderRightsModel" "groupsOf" "[I", Cond.methodLink RX5 94 yX5_isAlive, Cond.instanceMethod yX5_isAlive, Cond.selects RX5 yX5_isAlive yX5_isAlive, Cond.code yX5_isAlive cX5_isAlive 3 (some .boolean), Cond.methodLink RX5 90 yX5_isForbidden, Cond.instanceMethod yX5_isForbidden, Cond.selects RX5 yX5_isForbidden yX5_isForbidden, Cond.code yX5_isForbidden cX5_isForbidden 3 (some .boolean), Cond.fieldLink RX5 13 "TraderRightsModel" "forbidden" "[I", Cond.methodLink RX5 127 yX5_through, Cond.instanceMethod yX5_through, Cond.selects RX5 yX5_through yX5_through, Cond.code yX5_through cX5_through 7 (some .int)]
def wsX5_answer : List Cond := .code yX5_answer cX5_answer 8 (some .int) :: ((wsX5_answer_r1 ++ (wsX5_answer_r2 ++ wsX5_answer_r3)) ++ wsX50)
def wsX5_may_r1 : List Cond := [Cond.fieldLink RX5 66 "TraderRightsModel" "thrown" "I", Cond.methodLink RX5 131 yX5_answer, Cond.instanceMethod yX5_answer, Cond.selects RX5 yX5_answer yX5_answer, Cond.initialized RX5, Cond.code yX5_answer cX5_answer 8 (some .int), Cond.fieldLink RX5 16 "TraderRightsModel" "deputyOf" "[I", Cond.fieldLink RX5 111 "TraderRightsModel" "mandates" "I", Cond.fieldLink RX5 40 "TraderRightsModel" "taker" "[I", Cond.fieldLink RX5 47 "TraderRightsModel" "until" "[I", Cond.fieldLink RX5 37 "TraderRightsModel" "giver" "[I", Cond.fieldLink RX5 43 "TraderRightsModel" "isDirect" "[Z", Cond.methodLink RX5 77 yX5_isTrader, Cond.instanceMethod yX5_isTrader, Cond.selects RX5 yX5_isTrader yX5_isTrader, Cond.code yX5_isTrader cX5_isTrader 2 (some .boolean), Cond.fieldLink RX5 69 "TraderRightsModel" "traders" "I", Cond.methodLink RX5 81 yX5_isEight, Cond.static yX5_isEight, Cond.code yX5_isEight cX5_isEight 1 (some .boolean), Cond.methodLink RX5 73 yX5_in, Cond.static yX5_in, Cond.code yX5_in cX5_in 3 (some .boolean), Cond.methodLink RX5 84 yX5_isDay]
def wsX5_may_r2 : List Cond := [Cond.static yX5_isDay, Cond.code yX5_isDay cX5_isDay 1 (some .boolean), Cond.constant RX5 72 (100000), Cond.methodLink RX5 117 yX5_isEnded, Cond.instanceMethod yX5_isEnded, Cond.selects RX5 yX5_isEnded yX5_isEnded, Cond.code yX5_isEnded cX5_isEnded 3 (some .boolean), Cond.fieldLink RX5 19 "TraderRightsModel" "endsAt" "[I", Cond.methodLink RX5 120 yX5_isSuspended, Cond.instanceMethod yX5_isSuspended, Cond.selects RX5 yX5_isSuspended yX5_isSuspended, Cond.code yX5_isSuspended cX5_isSuspended 7 (some .boolean), Cond.fieldLink RX5 114 "TraderRightsModel" "suspensions" "I", Cond.fieldLink RX5 50 "TraderRightsModel" "suspended" "[I", Cond.fieldLink RX5 53 "TraderRightsModel" "suspendedOn" "[I", Cond.fieldLink RX5 56 "TraderRightsModel" "isOn" "[Z", Cond.methodLink RX5 123 yX5_has, Cond.instanceMethod yX5_has, Cond.selects RX5 yX5_has yX5_has, Cond.code yX5_has cX5_has 9 (some .boolean), Cond.fieldLink RX5 87 "TraderRightsModel" "rights" "I", Cond.fieldLink RX5 25 "TraderRightsModel" "rightAct" "[I", Cond.fieldLink RX5 28 "TraderRightsModel" "rightPlace" "[I", Cond.fieldLink RX5 31 "TraderRightsModel" "rightFrom" "[I"]
def wsX5_may_r3 : List Cond := [Cond.fieldLink RX5 34 "TraderRightsModel" "rightTo" "[I", Cond.fieldLink RX5 22 "TraderRightsModel" "rightOf" "[I", Cond.methodLink RX5 104 yX5_reached, Cond.instanceMethod yX5_reached, Cond.selects RX5 yX5_reached yX5_reached, Cond.code yX5_reached cX5_reached 7 (some .int), Cond.fieldLink RX5 7 "TraderRightsModel" "groupsOf" "[I", Cond.methodLink RX5 94 yX5_isAlive, Cond.instanceMethod yX5_isAlive, Cond.selects RX5 yX5_isAlive yX5_isAlive, Cond.code yX5_isAlive cX5_isAlive 3 (some .boolean), Cond.methodLink RX5 90 yX5_isForbidden, Cond.instanceMethod yX5_isForbidden, Cond.selects RX5 yX5_isForbidden yX5_isForbidden, Cond.code yX5_isForbidden cX5_isForbidden 3 (some .boolean), Cond.fieldLink RX5 13 "TraderRightsModel" "forbidden" "[I", Cond.methodLink RX5 127 yX5_through, Cond.instanceMethod yX5_through, Cond.selects RX5 yX5_through yX5_through, Cond.code yX5_through cX5_through 7 (some .int)]
def wsX5_may : List Cond := .code yX5_may cX5_may 5 (some .int) :: ((wsX5_may_r1 ++ (wsX5_may_r2 ++ wsX5_may_r3)) ++ wsX50)
def wsX5_two : List Cond := .code yX5_two cX5_two 3 (some .boolean) :: ([.fieldLink RX5 66 "TraderRightsModel" "thrown" "I", .fieldLink RX5 135 "TraderRightsModel" "twos" "I", .methodLink RX5 81 yX5_isEight, .static yX5_isEight, .initialized RX5, .code yX5_isEight cX5_isEight 1 (some .boolean), .methodLink RX5 73 yX5_in, .static yX5_in, .code yX5_in cX5_in 3 (some .boolean)] ++ wsX50)
def wsX5_done_r1 : List Cond := [Cond.fieldLink RX5 66 "TraderRightsModel" "thrown" "I", Cond.fieldLink RX5 135 "TraderRightsModel" "twos" "I", Cond.fieldLink RX5 16 "TraderRightsModel" "deputyOf" "[I", Cond.methodLink RX5 131 yX5_answer, Cond.instanceMethod yX5_answer, Cond.selects RX5 yX5_answer yX5_answer, Cond.initialized RX5, Cond.code yX5_answer cX5_answer 8 (some .int), Cond.fieldLink RX5 111 "TraderRightsModel" "mandates" "I", Cond.fieldLink RX5 40 "TraderRightsModel" "taker" "[I", Cond.fieldLink RX5 47 "TraderRightsModel" "until" "[I", Cond.fieldLink RX5 37 "TraderRightsModel" "giver" "[I", Cond.fieldLink RX5 43 "TraderRightsModel" "isDirect" "[Z", Cond.methodLink RX5 77 yX5_isTrader, Cond.instanceMethod yX5_isTrader, Cond.selects RX5 yX5_isTrader yX5_isTrader, Cond.code yX5_isTrader cX5_isTrader 2 (some .boolean), Cond.fieldLink RX5 69 "TraderRightsModel" "traders" "I", Cond.methodLink RX5 81 yX5_isEight, Cond.static yX5_isEight, Cond.code yX5_isEight cX5_isEight 1 (some .boolean), Cond.methodLink RX5 73 yX5_in, Cond.static yX5_in, Cond.code yX5_in cX5_in 3 (some .boolean)]
def wsX5_done_r2 : List Cond := [Cond.methodLink RX5 84 yX5_isDay, Cond.static yX5_isDay, Cond.code yX5_isDay cX5_isDay 1 (some .boolean), Cond.constant RX5 72 (100000), Cond.methodLink RX5 117 yX5_isEnded, Cond.instanceMethod yX5_isEnded, Cond.selects RX5 yX5_isEnded yX5_isEnded, Cond.code yX5_isEnded cX5_isEnded 3 (some .boolean), Cond.fieldLink RX5 19 "TraderRightsModel" "endsAt" "[I", Cond.methodLink RX5 120 yX5_isSuspended, Cond.instanceMethod yX5_isSuspended, Cond.selects RX5 yX5_isSuspended yX5_isSuspended, Cond.code yX5_isSuspended cX5_isSuspended 7 (some .boolean), Cond.fieldLink RX5 114 "TraderRightsModel" "suspensions" "I", Cond.fieldLink RX5 50 "TraderRightsModel" "suspended" "[I", Cond.fieldLink RX5 53 "TraderRightsModel" "suspendedOn" "[I", Cond.fieldLink RX5 56 "TraderRightsModel" "isOn" "[Z", Cond.methodLink RX5 123 yX5_has, Cond.instanceMethod yX5_has, Cond.selects RX5 yX5_has yX5_has, Cond.code yX5_has cX5_has 9 (some .boolean), Cond.fieldLink RX5 87 "TraderRightsModel" "rights" "I", Cond.fieldLink RX5 25 "TraderRightsModel" "rightAct" "[I", Cond.fieldLink RX5 28 "TraderRightsModel" "rightPlace" "[I"]
def wsX5_done_r3 : List Cond := [Cond.fieldLink RX5 31 "TraderRightsModel" "rightFrom" "[I", Cond.fieldLink RX5 34 "TraderRightsModel" "rightTo" "[I", Cond.fieldLink RX5 22 "TraderRightsModel" "rightOf" "[I", Cond.methodLink RX5 104 yX5_reached, Cond.instanceMethod yX5_reached, Cond.selects RX5 yX5_reached yX5_reached, Cond.code yX5_reached cX5_reached 7 (some .int), Cond.fieldLink RX5 7 "TraderRightsModel" "groupsOf" "[I", Cond.methodLink RX5 94 yX5_isAlive, Cond.instanceMethod yX5_isAlive, Cond.selects RX5 yX5_isAlive yX5_isAlive, Cond.code yX5_isAlive cX5_isAlive 3 (some .boolean), Cond.methodLink RX5 90 yX5_isForbidden, Cond.instanceMethod yX5_isForbidden, Cond.selects RX5 yX5_isForbidden yX5_isForbidden, Cond.code yX5_isForbidden cX5_isForbidden 3 (some .boolean), Cond.fieldLink RX5 13 "TraderRightsModel" "forbidden" "[I", Cond.methodLink RX5 127 yX5_through, Cond.instanceMethod yX5_through, Cond.selects RX5 yX5_through yX5_through, Cond.code yX5_through cX5_through 7 (some .int)]
def wsX5_done : List Cond := .code yX5_done cX5_done 6 (some .int) :: ((wsX5_done_r1 ++ (wsX5_done_r2 ++ wsX5_done_r3)) ++ wsX50)
def wsX5_power : List Cond := .code yX5_power cX5_power 3 (some .int) :: ([])
def wsX5_digit : List Cond := .code yX5_digit cX5_digit 2 (some .int) :: ([.methodLink RX5 138 yX5_power, .static yX5_power, .initialized RX5, .code yX5_power cX5_power 3 (some .int)])
def wsX5_letter : List Cond := .code yX5_letter cX5_letter 5 (some .int) :: ([.constant RX5 141 (99999999), .fieldLink RX5 66 "TraderRightsModel" "thrown" "I", .methodLink RX5 73 yX5_in, .static yX5_in, .initialized RX5, .code yX5_in cX5_in 3 (some .boolean), .methodLink RX5 142 yX5_digit, .static yX5_digit, .code yX5_digit cX5_digit 2 (some .int), .methodLink RX5 138 yX5_power, .static yX5_power, .code yX5_power cX5_power 3 (some .int)] ++ wsX50)
def wsX5_check : List Cond := .code yX5_check cX5_check 5 (some .int) :: ([.fieldLink RX5 66 "TraderRightsModel" "thrown" "I", .fieldLink RX5 145 "TraderRightsModel" "read" "I", .fieldLink RX5 59 "TraderRightsModel" "letters" "[I", .constant RX5 148 (100000000), .fieldLink RX5 62 "TraderRightsModel" "certified" "I", .methodLink RX5 73 yX5_in, .static yX5_in, .initialized RX5, .code yX5_in cX5_in 3 (some .boolean), .methodLink RX5 138 yX5_power, .static yX5_power, .code yX5_power cX5_power 3 (some .int)] ++ wsX50)
def wsX5_certified : List Cond := .code yX5_certified cX5_certified 1 (some .int) :: ([.fieldLink RX5 66 "TraderRightsModel" "thrown" "I", .fieldLink RX5 62 "TraderRightsModel" "certified" "I"] ++ wsX50)
def wsX5_acts_r1 : List Cond := [Cond.methodLink RX5 123 yX5_has, Cond.instanceMethod yX5_has, Cond.selects RX5 yX5_has yX5_has, Cond.initialized RX5, Cond.code yX5_has cX5_has 9 (some .boolean), Cond.fieldLink RX5 87 "TraderRightsModel" "rights" "I", Cond.fieldLink RX5 25 "TraderRightsModel" "rightAct" "[I", Cond.fieldLink RX5 28 "TraderRightsModel" "rightPlace" "[I", Cond.fieldLink RX5 31 "TraderRightsModel" "rightFrom" "[I", Cond.fieldLink RX5 34 "TraderRightsModel" "rightTo" "[I", Cond.fieldLink RX5 22 "TraderRightsModel" "rightOf" "[I", Cond.methodLink RX5 104 yX5_reached, Cond.instanceMethod yX5_reached, Cond.selects RX5 yX5_reached yX5_reached, Cond.code yX5_reached cX5_reached 7 (some .int), Cond.fieldLink RX5 69 "TraderRightsModel" "traders" "I", Cond.fieldLink RX5 7 "TraderRightsModel" "groupsOf" "[I", Cond.methodLink RX5 94 yX5_isAlive, Cond.instanceMethod yX5_isAlive, Cond.selects RX5 yX5_isAlive yX5_isAlive, Cond.code yX5_isAlive cX5_isAlive 3 (some .boolean), Cond.methodLink RX5 117 yX5_isEnded, Cond.instanceMethod yX5_isEnded, Cond.selects RX5 yX5_isEnded yX5_isEnded]
def wsX5_acts_r2 : List Cond := [Cond.code yX5_isEnded cX5_isEnded 3 (some .boolean), Cond.fieldLink RX5 19 "TraderRightsModel" "endsAt" "[I", Cond.methodLink RX5 120 yX5_isSuspended, Cond.instanceMethod yX5_isSuspended, Cond.selects RX5 yX5_isSuspended yX5_isSuspended, Cond.code yX5_isSuspended cX5_isSuspended 7 (some .boolean), Cond.fieldLink RX5 114 "TraderRightsModel" "suspensions" "I", Cond.fieldLink RX5 50 "TraderRightsModel" "suspended" "[I", Cond.fieldLink RX5 53 "TraderRightsModel" "suspendedOn" "[I", Cond.fieldLink RX5 56 "TraderRightsModel" "isOn" "[Z", Cond.methodLink RX5 73 yX5_in, Cond.static yX5_in, Cond.code yX5_in cX5_in 3 (some .boolean), Cond.methodLink RX5 90 yX5_isForbidden, Cond.instanceMethod yX5_isForbidden, Cond.selects RX5 yX5_isForbidden yX5_isForbidden, Cond.code yX5_isForbidden cX5_isForbidden 3 (some .boolean), Cond.fieldLink RX5 13 "TraderRightsModel" "forbidden" "[I"]
def wsX5_acts : List Cond := .code yX5_acts cX5_acts 7 (some .int) :: ((wsX5_acts_r1 ++ wsX5_acts_r2) ++ wsX50)
def wsX5_standing : List Cond := .code yX5_standing cX5_standing 5 (some .int) :: ([.fieldLink RX5 111 "TraderRightsModel" "mandates" "I", .fieldLink RX5 40 "TraderRightsModel" "taker" "[I", .fieldLink RX5 47 "TraderRightsModel" "until" "[I"] ++ wsX50)
def wsX5_look_r1 : List Cond := [Cond.fieldLink RX5 66 "TraderRightsModel" "thrown" "I", Cond.fieldLink RX5 16 "TraderRightsModel" "deputyOf" "[I", Cond.methodLink RX5 77 yX5_isTrader, Cond.instanceMethod yX5_isTrader, Cond.selects RX5 yX5_isTrader yX5_isTrader, Cond.initialized RX5, Cond.code yX5_isTrader cX5_isTrader 2 (some .boolean), Cond.fieldLink RX5 69 "TraderRightsModel" "traders" "I", Cond.methodLink RX5 73 yX5_in, Cond.static yX5_in, Cond.code yX5_in cX5_in 3 (some .boolean), Cond.methodLink RX5 84 yX5_isDay, Cond.static yX5_isDay, Cond.code yX5_isDay cX5_isDay 1 (some .boolean), Cond.constant RX5 72 (100000), Cond.methodLink RX5 117 yX5_isEnded, Cond.instanceMethod yX5_isEnded, Cond.selects RX5 yX5_isEnded yX5_isEnded, Cond.code yX5_isEnded cX5_isEnded 3 (some .boolean), Cond.fieldLink RX5 19 "TraderRightsModel" "endsAt" "[I", Cond.methodLink RX5 120 yX5_isSuspended, Cond.instanceMethod yX5_isSuspended, Cond.selects RX5 yX5_isSuspended yX5_isSuspended, Cond.code yX5_isSuspended cX5_isSuspended 7 (some .boolean)]
def wsX5_look_r2 : List Cond := [Cond.fieldLink RX5 114 "TraderRightsModel" "suspensions" "I", Cond.fieldLink RX5 50 "TraderRightsModel" "suspended" "[I", Cond.fieldLink RX5 53 "TraderRightsModel" "suspendedOn" "[I", Cond.fieldLink RX5 56 "TraderRightsModel" "isOn" "[Z", Cond.methodLink RX5 104 yX5_reached, Cond.instanceMethod yX5_reached, Cond.selects RX5 yX5_reached yX5_reached, Cond.code yX5_reached cX5_reached 7 (some .int), Cond.fieldLink RX5 7 "TraderRightsModel" "groupsOf" "[I", Cond.methodLink RX5 94 yX5_isAlive, Cond.instanceMethod yX5_isAlive, Cond.selects RX5 yX5_isAlive yX5_isAlive, Cond.code yX5_isAlive cX5_isAlive 3 (some .boolean), Cond.methodLink RX5 100 yX5_bits, Cond.static yX5_bits, Cond.code yX5_bits cX5_bits 3 (some .int), Cond.methodLink RX5 149 yX5_acts, Cond.instanceMethod yX5_acts, Cond.selects RX5 yX5_acts yX5_acts, Cond.code yX5_acts cX5_acts 7 (some .int), Cond.methodLink RX5 123 yX5_has, Cond.instanceMethod yX5_has, Cond.selects RX5 yX5_has yX5_has, Cond.code yX5_has cX5_has 9 (some .boolean)]
def wsX5_look_r3 : List Cond := [Cond.fieldLink RX5 87 "TraderRightsModel" "rights" "I", Cond.fieldLink RX5 25 "TraderRightsModel" "rightAct" "[I", Cond.fieldLink RX5 28 "TraderRightsModel" "rightPlace" "[I", Cond.fieldLink RX5 31 "TraderRightsModel" "rightFrom" "[I", Cond.fieldLink RX5 34 "TraderRightsModel" "rightTo" "[I", Cond.fieldLink RX5 22 "TraderRightsModel" "rightOf" "[I", Cond.methodLink RX5 90 yX5_isForbidden, Cond.instanceMethod yX5_isForbidden, Cond.selects RX5 yX5_isForbidden yX5_isForbidden, Cond.code yX5_isForbidden cX5_isForbidden 3 (some .boolean), Cond.fieldLink RX5 13 "TraderRightsModel" "forbidden" "[I", Cond.methodLink RX5 108 yX5_withDeputy, Cond.instanceMethod yX5_withDeputy, Cond.selects RX5 yX5_withDeputy yX5_withDeputy, Cond.code yX5_withDeputy cX5_withDeputy 4 (some .int), Cond.methodLink RX5 152 yX5_standing, Cond.instanceMethod yX5_standing, Cond.selects RX5 yX5_standing yX5_standing, Cond.code yX5_standing cX5_standing 5 (some .int), Cond.fieldLink RX5 111 "TraderRightsModel" "mandates" "I", Cond.fieldLink RX5 40 "TraderRightsModel" "taker" "[I", Cond.fieldLink RX5 47 "TraderRightsModel" "until" "[I"]
def wsX5_look : List Cond := .code yX5_look cX5_look 4 (some .int) :: ((wsX5_look_r1 ++ (wsX5_look_r2 ++ wsX5_look_r3)) ++ wsX50)
def wsX5_count : List Cond := .code yX5_count cX5_count 2 (some .int) :: ([.fieldLink RX5 66 "TraderRightsModel" "thrown" "I", .fieldLink RX5 69 "TraderRightsModel" "traders" "I", .fieldLink RX5 87 "TraderRightsModel" "rights" "I", .fieldLink RX5 111 "TraderRightsModel" "mandates" "I", .fieldLink RX5 114 "TraderRightsModel" "suspensions" "I", .fieldLink RX5 135 "TraderRightsModel" "twos" "I", .fieldLink RX5 145 "TraderRightsModel" "read" "I"] ++ wsX50)
def wsL_trader : List Cond := .codeWith yL_trader cL_trader 3 (some .int) [(0, 8, 11, 13)] :: ([.classLink RL 13 "java/lang/IllegalStateException", .methodLink RL 7 yX4_trader, .instanceMethod yX4_trader, .selects RX4 yX4_trader yX4_trader, .initialized RX4, .code yX4_trader cX4_trader 2 (some .int), .classLink RX4 66 "java/lang/IllegalStateException", .initialized "java/lang/IllegalStateException", .fieldLink RX4 7 "TraderRights" "traders" "I"] ++ wsX40 ++ (vx_atS RX4 70 "java/lang/IllegalStateException" ["java/lang/RuntimeException", "java/lang/Exception"]).filter goodWord)
def wsL_right_r1 : List Cond := [Cond.classLink RL 19 "java/lang/IllegalArgumentException", Cond.classLink RL 13 "java/lang/IllegalStateException", Cond.methodLink RL 15 yX4_right, Cond.instanceMethod yX4_right, Cond.selects RX4 yX4_right yX4_right, Cond.initialized RX4, Cond.code yX4_right cX4_right 6 (some .int), Cond.classLink RX4 83 "java/lang/IllegalArgumentException", Cond.initialized "java/lang/IllegalArgumentException", Cond.classLink RX4 66 "java/lang/IllegalStateException", Cond.initialized "java/lang/IllegalStateException", Cond.fieldLink RX4 41 "TraderRights" "rights" "LTraderRights$Rights;", Cond.methodLink RX4 73 yX4_isTrader, Cond.instanceMethod yX4_isTrader, Cond.selects RX4 yX4_isTrader yX4_isTrader, Cond.code yX4_isTrader cX4_isTrader 2 (some .boolean), Cond.fieldLink RX4 7 "TraderRights" "traders" "I", Cond.methodLink RX4 77 yX4_isAct, Cond.static yX4_isAct, Cond.code yX4_isAct cX4_isAct 1 (some .boolean), Cond.methodLink RX4 80 yX4_isPlace, Cond.static yX4_isPlace, Cond.code yX4_isPlace cX4_isPlace 1 (some .boolean), Cond.methodLink RX4 88 yX4_isDay]
def wsL_right_r2 : List Cond := [Cond.static yX4_isDay, Cond.code yX4_isDay cX4_isDay 1 (some .boolean), Cond.constant RX4 200 (100000), Cond.instanceMethod yX2_append, Cond.initialized RX2, Cond.selects RX2 yX2_append yX2_append, Cond.code yX2_append cX2_append 6 none, Cond.fieldLink RX2 15 "TraderRights$Rights" "trader" "[I", Cond.fieldLink RX2 9 "TraderRights$Rights" "size" "I", Cond.fieldLink RX2 19 "TraderRights$Rights" "act" "[I", Cond.fieldLink RX2 22 "TraderRights$Rights" "place" "[I", Cond.fieldLink RX2 25 "TraderRights$Rights" "from" "[I", Cond.fieldLink RX2 28 "TraderRights$Rights" "to" "[I"]
def wsL_right : List Cond := .codeWith yL_right cL_right 8 (some .int) [(0, 16, 19, 19), (0, 16, 23, 13)] :: ((wsL_right_r1 ++ wsL_right_r2) ++ wsX40 ++ wsX20 ++ (vx_atS RX4 87 "java/lang/IllegalArgumentException" ["java/lang/RuntimeException", "java/lang/Exception"]).filter goodWord ++ (vx_atS RX4 70 "java/lang/IllegalStateException" ["java/lang/RuntimeException", "java/lang/Exception"]).filter goodWord)
def wsL_group_r1 : List Cond := [Cond.classLink RL 19 "java/lang/IllegalArgumentException", Cond.methodLink RL 21 yX4_group, Cond.instanceMethod yX4_group, Cond.selects RX4 yX4_group yX4_group, Cond.initialized RX4, Cond.code yX4_group cX4_group 5 (some .int), Cond.classLink RX4 83 "java/lang/IllegalArgumentException", Cond.initialized "java/lang/IllegalArgumentException", Cond.fieldLink RX4 16 "TraderRights" "directGroups" "[I", Cond.methodLink RX4 110 yX4_areTwoTraders, Cond.instanceMethod yX4_areTwoTraders, Cond.selects RX4 yX4_areTwoTraders yX4_areTwoTraders, Cond.code yX4_areTwoTraders cX4_areTwoTraders 3 (some .boolean), Cond.methodLink RX4 73 yX4_isTrader, Cond.instanceMethod yX4_isTrader, Cond.selects RX4 yX4_isTrader yX4_isTrader, Cond.code yX4_isTrader cX4_isTrader 2 (some .boolean), Cond.fieldLink RX4 7 "TraderRights" "traders" "I", Cond.methodLink RX4 115 yX4_everyTrader, Cond.instanceMethod yX4_everyTrader, Cond.selects RX4 yX4_everyTrader yX4_everyTrader, Cond.code yX4_everyTrader cX4_everyTrader 1 (some .int), Cond.methodLink RX4 106 yX4_bit, Cond.static yX4_bit]
def wsL_group_r2 : List Cond := [Cond.code yX4_bit cX4_bit 1 (some .int), Cond.methodLink RX4 119 yX4_groupsAmong, Cond.instanceMethod yX4_groupsAmong, Cond.selects RX4 yX4_groupsAmong yX4_groupsAmong, Cond.code yX4_groupsAmong cX4_groupsAmong 5 (some .int), Cond.methodLink RX4 201 yX4_groupsOfAll, Cond.instanceMethod yX4_groupsOfAll, Cond.selects RX4 yX4_groupsOfAll yX4_groupsOfAll, Cond.code yX4_groupsOfAll cX4_groupsOfAll 4 (some .int), Cond.methodLink RX4 123 yX4_holds, Cond.static yX4_holds, Cond.code yX4_holds cX4_holds 2 (some .boolean), Cond.methodLink RX4 126 yJ6_bitCount_0f7a4, Cond.static yJ6_bitCount_0f7a4, Cond.initialized RJ6, Cond.code yJ6_bitCount_0f7a4 cJ6_bitCount_0f7a4 1 (some .int), Cond.constant RJ6 265 (1431655765), Cond.constant RJ6 266 (858993459), Cond.constant RJ6 267 (252645135)]
def wsL_group : List Cond := .codeWith yL_group cL_group 5 (some .int) [(0, 10, 13, 19)] :: ((wsL_group_r1 ++ wsL_group_r2) ++ wsX40 ++ (vx_atS RX4 87 "java/lang/IllegalArgumentException" ["java/lang/RuntimeException", "java/lang/Exception"]).filter goodWord)
def wsL_deputy : List Cond := .codeWith yL_deputy cL_deputy 5 (some .int) [(0, 10, 13, 19)] :: ([.classLink RL 19 "java/lang/IllegalArgumentException", .methodLink RL 25 yX4_deputy, .instanceMethod yX4_deputy, .selects RX4 yX4_deputy yX4_deputy, .initialized RX4, .code yX4_deputy cX4_deputy 3 (some .int), .classLink RX4 83 "java/lang/IllegalArgumentException", .initialized "java/lang/IllegalArgumentException", .fieldLink RX4 23 "TraderRights" "deputies" "[I", .fieldLink RX4 26 "TraderRights" "principals" "[I", .methodLink RX4 110 yX4_areTwoTraders, .instanceMethod yX4_areTwoTraders, .selects RX4 yX4_areTwoTraders yX4_areTwoTraders, .code yX4_areTwoTraders cX4_areTwoTraders 3 (some .boolean), .methodLink RX4 73 yX4_isTrader, .instanceMethod yX4_isTrader, .selects RX4 yX4_isTrader yX4_isTrader, .code yX4_isTrader cX4_isTrader 2 (some .boolean), .fieldLink RX4 7 "TraderRights" "traders" "I", .methodLink RX4 131 yX4_isInDeputyPair, .instanceMethod yX4_isInDeputyPair, .selects RX4 yX4_isInDeputyPair yX4_isInDeputyPair, .code yX4_isInDeputyPair cX4_isInDeputyPair 2 (some .boolean)] ++ wsX40 ++ (vx_atS RX4 87 "java/lang/IllegalArgumentException" ["java/lang/RuntimeException", "java/lang/Exception"]).filter goodWord)
def wsL_mandate_r1 : List Cond := [Cond.classLink RL 19 "java/lang/IllegalArgumentException", Cond.classLink RL 13 "java/lang/IllegalStateException", Cond.methodLink RL 28 yX4_mandate, Cond.instanceMethod yX4_mandate, Cond.selects RX4 yX4_mandate yX4_mandate, Cond.initialized RX4, Cond.code yX4_mandate cX4_mandate 5 (some .int), Cond.classLink RX4 83 "java/lang/IllegalArgumentException", Cond.initialized "java/lang/IllegalArgumentException", Cond.classLink RX4 66 "java/lang/IllegalStateException", Cond.initialized "java/lang/IllegalStateException", Cond.fieldLink RX4 48 "TraderRights" "mandates" "LTraderRights$Mandates;", Cond.methodLink RX4 110 yX4_areTwoTraders, Cond.instanceMethod yX4_areTwoTraders, Cond.selects RX4 yX4_areTwoTraders yX4_areTwoTraders, Cond.code yX4_areTwoTraders cX4_areTwoTraders 3 (some .boolean), Cond.methodLink RX4 73 yX4_isTrader, Cond.instanceMethod yX4_isTrader, Cond.selects RX4 yX4_isTrader yX4_isTrader, Cond.code yX4_isTrader cX4_isTrader 2 (some .boolean), Cond.fieldLink RX4 7 "TraderRights" "traders" "I", Cond.methodLink RX4 88 yX4_isDay, Cond.static yX4_isDay, Cond.code yX4_isDay cX4_isDay 1 (some .boolean)]
def wsL_mandate_r2 : List Cond := [Cond.constant RX4 200 (100000), Cond.instanceMethod yX0_append, Cond.initialized RX0, Cond.selects RX0 yX0_append yX0_append, Cond.code yX0_append cX0_append 5 none, Cond.fieldLink RX0 15 "TraderRights$Mandates" "giver" "[I", Cond.fieldLink RX0 9 "TraderRights$Mandates" "size" "I", Cond.fieldLink RX0 19 "TraderRights$Mandates" "taker" "[I", Cond.fieldLink RX0 22 "TraderRights$Mandates" "isDirect" "[Z", Cond.fieldLink RX0 26 "TraderRights$Mandates" "until" "[I"]
def wsL_mandate : List Cond := .codeWith yL_mandate cL_mandate 7 (some .int) [(0, 14, 17, 19), (0, 14, 21, 13)] :: ((wsL_mandate_r1 ++ wsL_mandate_r2) ++ wsX40 ++ wsX00 ++ (vx_atS RX4 87 "java/lang/IllegalArgumentException" ["java/lang/RuntimeException", "java/lang/Exception"]).filter goodWord ++ (vx_atS RX4 70 "java/lang/IllegalStateException" ["java/lang/RuntimeException", "java/lang/Exception"]).filter goodWord)
def wsL_suspend_r1 : List Cond := [Cond.classLink RL 19 "java/lang/IllegalArgumentException", Cond.classLink RL 13 "java/lang/IllegalStateException", Cond.methodLink RL 32 yX4_suspend, Cond.instanceMethod yX4_suspend, Cond.selects RX4 yX4_suspend yX4_suspend, Cond.initialized RX4, Cond.code yX4_suspend cX4_suspend 4 (some .int), Cond.classLink RX4 83 "java/lang/IllegalArgumentException", Cond.initialized "java/lang/IllegalArgumentException", Cond.classLink RX4 66 "java/lang/IllegalStateException", Cond.initialized "java/lang/IllegalStateException", Cond.fieldLink RX4 55 "TraderRights" "suspensions" "LTraderRights$Suspensions;", Cond.methodLink RX4 73 yX4_isTrader, Cond.instanceMethod yX4_isTrader, Cond.selects RX4 yX4_isTrader yX4_isTrader, Cond.code yX4_isTrader cX4_isTrader 2 (some .boolean), Cond.fieldLink RX4 7 "TraderRights" "traders" "I", Cond.methodLink RX4 88 yX4_isDay, Cond.static yX4_isDay, Cond.code yX4_isDay cX4_isDay 1 (some .boolean), Cond.constant RX4 200 (100000), Cond.instanceMethod yX3_append, Cond.initialized RX3, Cond.selects RX3 yX3_append yX3_append]
def wsL_suspend_r2 : List Cond := [Cond.code yX3_append cX3_append 4 none, Cond.fieldLink RX3 15 "TraderRights$Suspensions" "trader" "[I", Cond.fieldLink RX3 9 "TraderRights$Suspensions" "size" "I", Cond.fieldLink RX3 19 "TraderRights$Suspensions" "from" "[I", Cond.fieldLink RX3 22 "TraderRights$Suspensions" "isSuspending" "[Z"]
def wsL_suspend : List Cond := .codeWith yL_suspend cL_suspend 6 (some .int) [(0, 12, 15, 19), (0, 12, 19, 13)] :: ((wsL_suspend_r1 ++ wsL_suspend_r2) ++ wsX40 ++ wsX30 ++ (vx_atS RX4 87 "java/lang/IllegalArgumentException" ["java/lang/RuntimeException", "java/lang/Exception"]).filter goodWord ++ (vx_atS RX4 70 "java/lang/IllegalStateException" ["java/lang/RuntimeException", "java/lang/Exception"]).filter goodWord)
def wsL_letter : List Cond := .codeWith yL_letter cL_letter 5 (some .int) [(0, 10, 13, 19), (0, 10, 17, 39)] :: ([.classLink RL 19 "java/lang/IllegalArgumentException", .classLink RL 39 "java/lang/IndexOutOfBoundsException", .methodLink RL 36 yX4_letter, .instanceMethod yX4_letter, .selects RX4 yX4_letter yX4_letter, .initialized RX4, .code yX4_letter cX4_letter 3 (some .int), .classLink RX4 83 "java/lang/IllegalArgumentException", .initialized "java/lang/IllegalArgumentException", .classLink RX4 169 "java/lang/IndexOutOfBoundsException", .initialized "java/lang/IndexOutOfBoundsException", .constant RX4 166 (99999999), .methodLink RX4 174 yX4_digit, .static yX4_digit, .code yX4_digit cX4_digit 4 (some .int), .methodLink RX4 177 yX4_checkValue, .static yX4_checkValue, .code yX4_checkValue cX4_checkValue 3 (some .int)] ++ (vx_atS RX4 87 "java/lang/IllegalArgumentException" ["java/lang/RuntimeException", "java/lang/Exception"]).filter goodWord ++ (vx_atS RX4 173 "java/lang/IndexOutOfBoundsException" ["java/lang/RuntimeException", "java/lang/Exception"]).filter goodWord)
def wsL_look_r1 : List Cond := [Cond.classLink RL 39 "java/lang/IndexOutOfBoundsException", Cond.classLink RL 19 "java/lang/IllegalArgumentException", Cond.methodLink RL 41 yX4_look, Cond.instanceMethod yX4_look, Cond.selects RX4 yX4_look yX4_look, Cond.initialized RX4, Cond.code yX4_look cX4_look 4 (some .int), Cond.classLink RX4 169 "java/lang/IndexOutOfBoundsException", Cond.initialized "java/lang/IndexOutOfBoundsException", Cond.classLink RX4 83 "java/lang/IllegalArgumentException", Cond.initialized "java/lang/IllegalArgumentException", Cond.fieldLink RX4 55 "TraderRights" "suspensions" "LTraderRights$Suspensions;", Cond.fieldLink RX4 23 "TraderRights" "deputies" "[I", Cond.fieldLink RX4 26 "TraderRights" "principals" "[I", Cond.fieldLink RX4 48 "TraderRights" "mandates" "LTraderRights$Mandates;", Cond.methodLink RX4 73 yX4_isTrader, Cond.instanceMethod yX4_isTrader, Cond.selects RX4 yX4_isTrader yX4_isTrader, Cond.code yX4_isTrader cX4_isTrader 2 (some .boolean), Cond.fieldLink RX4 7 "TraderRights" "traders" "I", Cond.methodLink RX4 88 yX4_isDay, Cond.static yX4_isDay, Cond.code yX4_isDay cX4_isDay 1 (some .boolean), Cond.constant RX4 200 (100000)]
def wsL_look_r2 : List Cond := [Cond.methodLink RX4 150 yX4_isEnded, Cond.instanceMethod yX4_isEnded, Cond.selects RX4 yX4_isEnded yX4_isEnded, Cond.code yX4_isEnded cX4_isEnded 3 (some .boolean), Cond.fieldLink RX4 29 "TraderRights" "endDays" "[I", Cond.instanceMethod yX3_isOn, Cond.initialized RX3, Cond.selects RX3 yX3_isOn yX3_isOn, Cond.code yX3_isOn cX3_isOn 6 (some .boolean), Cond.fieldLink RX3 9 "TraderRights$Suspensions" "size" "I", Cond.fieldLink RX3 15 "TraderRights$Suspensions" "trader" "[I", Cond.fieldLink RX3 19 "TraderRights$Suspensions" "from" "[I", Cond.fieldLink RX3 22 "TraderRights$Suspensions" "isSuspending" "[Z", Cond.methodLink RX4 188 yX4_aliveOn, Cond.instanceMethod yX4_aliveOn, Cond.selects RX4 yX4_aliveOn yX4_aliveOn, Cond.code yX4_aliveOn cX4_aliveOn 4 (some .int), Cond.methodLink RX4 106 yX4_bit, Cond.static yX4_bit, Cond.code yX4_bit cX4_bit 1 (some .int), Cond.methodLink RX4 119 yX4_groupsAmong, Cond.instanceMethod yX4_groupsAmong, Cond.selects RX4 yX4_groupsAmong yX4_groupsAmong, Cond.code yX4_groupsAmong cX4_groupsAmong 5 (some .int)]
def wsL_look_r3 : List Cond := [Cond.fieldLink RX4 16 "TraderRights" "directGroups" "[I", Cond.methodLink RX4 201 yX4_groupsOfAll, Cond.instanceMethod yX4_groupsOfAll, Cond.selects RX4 yX4_groupsOfAll yX4_groupsOfAll, Cond.code yX4_groupsOfAll cX4_groupsOfAll 4 (some .int), Cond.methodLink RX4 123 yX4_holds, Cond.static yX4_holds, Cond.code yX4_holds cX4_holds 2 (some .boolean), Cond.methodLink RX4 126 yJ6_bitCount_0f7a4, Cond.static yJ6_bitCount_0f7a4, Cond.initialized RJ6, Cond.code yJ6_bitCount_0f7a4 cJ6_bitCount_0f7a4 1 (some .int), Cond.constant RJ6 265 (1431655765), Cond.constant RJ6 266 (858993459), Cond.constant RJ6 267 (252645135), Cond.methodLink RX4 191 yX4_ownActs, Cond.instanceMethod yX4_ownActs, Cond.selects RX4 yX4_ownActs yX4_ownActs, Cond.code yX4_ownActs cX4_ownActs 4 (some .int), Cond.fieldLink RX4 41 "TraderRights" "rights" "LTraderRights$Rights;", Cond.fieldLink RX4 20 "TraderRights" "forbiddenActs" "[I", Cond.instanceMethod yX2_actsOf, Cond.initialized RX2, Cond.selects RX2 yX2_actsOf yX2_actsOf]
def wsL_look_r4 : List Cond := [Cond.code yX2_actsOf cX2_actsOf 5 (some .int), Cond.fieldLink RX2 9 "TraderRights$Rights" "size" "I", Cond.fieldLink RX2 15 "TraderRights$Rights" "trader" "[I", Cond.fieldLink RX2 19 "TraderRights$Rights" "act" "[I", Cond.methodLink RX2 31 yX2_isOnDay, Cond.instanceMethod yX2_isOnDay, Cond.selects RX2 yX2_isOnDay yX2_isOnDay, Cond.code yX2_isOnDay cX2_isOnDay 3 (some .boolean), Cond.fieldLink RX2 25 "TraderRights$Rights" "from" "[I", Cond.fieldLink RX2 28 "TraderRights$Rights" "to" "[I", Cond.instanceMethod yX0_sizeOf, Cond.initialized RX0, Cond.selects RX0 yX0_sizeOf yX0_sizeOf, Cond.code yX0_sizeOf cX0_sizeOf 5 (some .int), Cond.fieldLink RX0 9 "TraderRights$Mandates" "size" "I", Cond.fieldLink RX0 19 "TraderRights$Mandates" "taker" "[I", Cond.fieldLink RX0 26 "TraderRights$Mandates" "until" "[I"]
def wsL_look : List Cond := .codeWith yL_look cL_look 6 (some .int) [(0, 12, 15, 39), (0, 12, 19, 19)] :: ((wsL_look_r1 ++ (wsL_look_r2 ++ (wsL_look_r3 ++ wsL_look_r4))) ++ wsX40 ++ wsX30 ++ wsX20 ++ wsX00 ++ (vx_atS RX4 173 "java/lang/IndexOutOfBoundsException" ["java/lang/RuntimeException", "java/lang/Exception"]).filter goodWord ++ (vx_atS RX4 87 "java/lang/IllegalArgumentException" ["java/lang/RuntimeException", "java/lang/Exception"]).filter goodWord)
abbrev vwCl : List vw_C := [(RX0, TX0, 5), (RX1, TX1, 3), (RX2, TX2, 6), (RX3, TX3, 4), (RX4, TX4, 11), (RX5, TX5, 25)]
end
section
theorem dX0_init_0 : decode cX0_init 0 = .ok (.aload_n 0, 1) := by decide +kernel
theorem dX0_init_1 : decode cX0_init 1 = .ok (.invokespecial 3, 3) := by decide +kernel
theorem dX0_init_4 : decode cX0_init 4 = .ok (.aload_n 0, 1) := by decide +kernel
theorem dX0_init_5 : decode cX0_init 5 = .ok (.iconst 0, 1) := by decide +kernel
theorem dX0_init_6 : decode cX0_init 6 = .ok (.putfield 9, 3) := by decide +kernel
theorem dX0_init_9 : decode cX0_init 9 = .ok (.aload_n 0, 1) := by decide +kernel
theorem dX0_init_10 : decode cX0_init 10 = .ok (.bipush 60, 2) := by decide +kernel
theorem dX0_init_12 : decode cX0_init 12 = .ok (.newarray .int, 2) := by decide +kernel
theorem dX0_init_14 : decode cX0_init 14 = .ok (.putfield 15, 3) := by decide +kernel
theorem dX0_init_17 : decode cX0_init 17 = .ok (.aload_n 0, 1) := by decide +kernel
theorem dX0_init_18 : decode cX0_init 18 = .ok (.bipush 60, 2) := by decide +kernel
theorem dX0_init_20 : decode cX0_init 20 = .ok (.newarray .int, 2) := by decide +kernel
theorem dX0_init_22 : decode cX0_init 22 = .ok (.putfield 19, 3) := by decide +kernel
theorem dX0_init_25 : decode cX0_init 25 = .ok (.aload_n 0, 1) := by decide +kernel
theorem dX0_init_26 : decode cX0_init 26 = .ok (.bipush 60, 2) := by decide +kernel
theorem dX0_init_28 : decode cX0_init 28 = .ok (.newarray .boolean, 2) := by decide +kernel
theorem dX0_init_30 : decode cX0_init 30 = .ok (.putfield 22, 3) := by decide +kernel
theorem dX0_init_33 : decode cX0_init 33 = .ok (.aload_n 0, 1) := by decide +kernel
theorem dX0_init_34 : decode cX0_init 34 = .ok (.bipush 60, 2) := by decide +kernel
theorem dX0_init_36 : decode cX0_init 36 = .ok (.newarray .int, 2) := by decide +kernel
theorem dX0_init_38 : decode cX0_init 38 = .ok (.putfield 26, 3) := by decide +kernel
theorem dX0_init_41 : decode cX0_init 41 = .ok (.return_, 1) := by decide +kernel
theorem dX0_append_0 : decode cX0_append 0 = .ok (.aload_n 0, 1) := by decide +kernel
theorem dX0_append_1 : decode cX0_append 1 = .ok (.getfield 15, 3) := by decide +kernel
theorem dX0_append_4 : decode cX0_append 4 = .ok (.aload_n 0, 1) := by decide +kernel
theorem dX0_append_5 : decode cX0_append 5 = .ok (.getfield 9, 3) := by decide +kernel
theorem dX0_append_8 : decode cX0_append 8 = .ok (.iload_n 1, 1) := by decide +kernel
theorem dX0_append_9 : decode cX0_append 9 = .ok (.iastore, 1) := by decide +kernel
theorem dX0_append_10 : decode cX0_append 10 = .ok (.aload_n 0, 1) := by decide +kernel
theorem dX0_append_11 : decode cX0_append 11 = .ok (.getfield 19, 3) := by decide +kernel
theorem dX0_append_14 : decode cX0_append 14 = .ok (.aload_n 0, 1) := by decide +kernel
theorem dX0_append_15 : decode cX0_append 15 = .ok (.getfield 9, 3) := by decide +kernel
theorem dX0_append_18 : decode cX0_append 18 = .ok (.iload_n 2, 1) := by decide +kernel
theorem dX0_append_19 : decode cX0_append 19 = .ok (.iastore, 1) := by decide +kernel
theorem dX0_append_20 : decode cX0_append 20 = .ok (.aload_n 0, 1) := by decide +kernel
theorem dX0_append_21 : decode cX0_append 21 = .ok (.getfield 22, 3) := by decide +kernel
theorem dX0_append_24 : decode cX0_append 24 = .ok (.aload_n 0, 1) := by decide +kernel
theorem dX0_append_25 : decode cX0_append 25 = .ok (.getfield 9, 3) := by decide +kernel
theorem dX0_append_28 : decode cX0_append 28 = .ok (.iload_n 3, 1) := by decide +kernel
theorem dX0_append_29 : decode cX0_append 29 = .ok (.bastore, 1) := by decide +kernel
theorem dX0_append_30 : decode cX0_append 30 = .ok (.aload_n 0, 1) := by decide +kernel
theorem dX0_append_31 : decode cX0_append 31 = .ok (.getfield 26, 3) := by decide +kernel
theorem dX0_append_34 : decode cX0_append 34 = .ok (.aload_n 0, 1) := by decide +kernel
theorem dX0_append_35 : decode cX0_append 35 = .ok (.getfield 9, 3) := by decide +kernel
theorem dX0_append_38 : decode cX0_append 38 = .ok (.iload 4, 2) := by decide +kernel
theorem dX0_append_40 : decode cX0_append 40 = .ok (.iastore, 1) := by decide +kernel
theorem dX0_append_41 : decode cX0_append 41 = .ok (.aload_n 0, 1) := by decide +kernel
theorem dX0_append_42 : decode cX0_append 42 = .ok (.aload_n 0, 1) := by decide +kernel
theorem dX0_append_43 : decode cX0_append 43 = .ok (.getfield 9, 3) := by decide +kernel
theorem dX0_append_46 : decode cX0_append 46 = .ok (.iconst 1, 1) := by decide +kernel
theorem dX0_append_47 : decode cX0_append 47 = .ok (.iadd, 1) := by decide +kernel
theorem dX0_append_48 : decode cX0_append 48 = .ok (.putfield 9, 3) := by decide +kernel
theorem dX0_append_51 : decode cX0_append 51 = .ok (.return_, 1) := by decide +kernel
theorem dX0_giversTo_0 : decode cX0_giversTo 0 = .ok (.iconst 0, 1) := by decide +kernel
theorem dX0_giversTo_1 : decode cX0_giversTo 1 = .ok (.istore 4, 2) := by decide +kernel
theorem dX0_giversTo_3 : decode cX0_giversTo 3 = .ok (.iconst 0, 1) := by decide +kernel
theorem dX0_giversTo_4 : decode cX0_giversTo 4 = .ok (.istore 5, 2) := by decide +kernel
theorem dX0_giversTo_6 : decode cX0_giversTo 6 = .ok (.iload 5, 2) := by decide +kernel
theorem dX0_giversTo_8 : decode cX0_giversTo 8 = .ok (.aload_n 0, 1) := by decide +kernel
theorem dX0_giversTo_9 : decode cX0_giversTo 9 = .ok (.getfield 9, 3) := by decide +kernel
theorem dX0_giversTo_12 : decode cX0_giversTo 12 = .ok (.if_icmp .ge 57, 3) := by decide +kernel
theorem dX0_giversTo_15 : decode cX0_giversTo 15 = .ok (.aload_n 0, 1) := by decide +kernel
theorem dX0_giversTo_16 : decode cX0_giversTo 16 = .ok (.getfield 19, 3) := by decide +kernel
theorem dX0_giversTo_19 : decode cX0_giversTo 19 = .ok (.iload 5, 2) := by decide +kernel
theorem dX0_giversTo_21 : decode cX0_giversTo 21 = .ok (.iaload, 1) := by decide +kernel
theorem dX0_giversTo_22 : decode cX0_giversTo 22 = .ok (.iload_n 1, 1) := by decide +kernel
theorem dX0_giversTo_23 : decode cX0_giversTo 23 = .ok (.if_icmp .ne 40, 3) := by decide +kernel
theorem dX0_giversTo_26 : decode cX0_giversTo 26 = .ok (.aload_n 0, 1) := by decide +kernel
theorem dX0_giversTo_27 : decode cX0_giversTo 27 = .ok (.getfield 22, 3) := by decide +kernel
theorem dX0_giversTo_30 : decode cX0_giversTo 30 = .ok (.iload 5, 2) := by decide +kernel
theorem dX0_giversTo_32 : decode cX0_giversTo 32 = .ok (.baload, 1) := by decide +kernel
theorem dX0_giversTo_33 : decode cX0_giversTo 33 = .ok (.iload_n 2, 1) := by decide +kernel
theorem dX0_giversTo_34 : decode cX0_giversTo 34 = .ok (.if_icmp .ne 29, 3) := by decide +kernel
theorem dX0_giversTo_37 : decode cX0_giversTo 37 = .ok (.iload_n 3, 1) := by decide +kernel
theorem dX0_giversTo_38 : decode cX0_giversTo 38 = .ok (.aload_n 0, 1) := by decide +kernel
theorem dX0_giversTo_39 : decode cX0_giversTo 39 = .ok (.getfield 26, 3) := by decide +kernel
theorem dX0_giversTo_42 : decode cX0_giversTo 42 = .ok (.iload 5, 2) := by decide +kernel
theorem dX0_giversTo_44 : decode cX0_giversTo 44 = .ok (.iaload, 1) := by decide +kernel
theorem dX0_giversTo_45 : decode cX0_giversTo 45 = .ok (.if_icmp .gt 18, 3) := by decide +kernel
theorem dX0_giversTo_48 : decode cX0_giversTo 48 = .ok (.iload 4, 2) := by decide +kernel
theorem dX0_giversTo_50 : decode cX0_giversTo 50 = .ok (.aload_n 0, 1) := by decide +kernel
theorem dX0_giversTo_51 : decode cX0_giversTo 51 = .ok (.getfield 15, 3) := by decide +kernel
theorem dX0_giversTo_54 : decode cX0_giversTo 54 = .ok (.iload 5, 2) := by decide +kernel
theorem dX0_giversTo_56 : decode cX0_giversTo 56 = .ok (.iaload, 1) := by decide +kernel
theorem dX0_giversTo_57 : decode cX0_giversTo 57 = .ok (.invokestatic 29, 3) := by decide +kernel
theorem dX0_giversTo_60 : decode cX0_giversTo 60 = .ok (.ior, 1) := by decide +kernel
theorem dX0_giversTo_61 : decode cX0_giversTo 61 = .ok (.istore 4, 2) := by decide +kernel
theorem dX0_giversTo_63 : decode cX0_giversTo 63 = .ok (.iinc 5 1, 3) := by decide +kernel
theorem dX0_giversTo_66 : decode cX0_giversTo 66 = .ok (.goto (-60), 3) := by decide +kernel
theorem dX0_giversTo_69 : decode cX0_giversTo 69 = .ok (.iload 4, 2) := by decide +kernel
theorem dX0_giversTo_71 : decode cX0_giversTo 71 = .ok (.ireturn, 1) := by decide +kernel
theorem dX0_sizeOf_0 : decode cX0_sizeOf 0 = .ok (.iconst 0, 1) := by decide +kernel
theorem dX0_sizeOf_1 : decode cX0_sizeOf 1 = .ok (.istore_n 3, 1) := by decide +kernel
theorem dX0_sizeOf_2 : decode cX0_sizeOf 2 = .ok (.iconst 0, 1) := by decide +kernel
theorem dX0_sizeOf_3 : decode cX0_sizeOf 3 = .ok (.istore 4, 2) := by decide +kernel
theorem dX0_sizeOf_5 : decode cX0_sizeOf 5 = .ok (.iload 4, 2) := by decide +kernel
theorem dX0_sizeOf_7 : decode cX0_sizeOf 7 = .ok (.aload_n 0, 1) := by decide +kernel
theorem dX0_sizeOf_8 : decode cX0_sizeOf 8 = .ok (.getfield 9, 3) := by decide +kernel
theorem dX0_sizeOf_11 : decode cX0_sizeOf 11 = .ok (.if_icmp .ge 35, 3) := by decide +kernel
theorem dX0_sizeOf_14 : decode cX0_sizeOf 14 = .ok (.aload_n 0, 1) := by decide +kernel
theorem dX0_sizeOf_15 : decode cX0_sizeOf 15 = .ok (.getfield 19, 3) := by decide +kernel
theorem dX0_sizeOf_18 : decode cX0_sizeOf 18 = .ok (.iload 4, 2) := by decide +kernel
theorem dX0_sizeOf_20 : decode cX0_sizeOf 20 = .ok (.iaload, 1) := by decide +kernel
theorem dX0_sizeOf_21 : decode cX0_sizeOf 21 = .ok (.iload_n 1, 1) := by decide +kernel
theorem dX0_sizeOf_22 : decode cX0_sizeOf 22 = .ok (.if_icmp .ne 18, 3) := by decide +kernel
theorem dX0_sizeOf_25 : decode cX0_sizeOf 25 = .ok (.iload_n 2, 1) := by decide +kernel
theorem dX0_sizeOf_26 : decode cX0_sizeOf 26 = .ok (.aload_n 0, 1) := by decide +kernel
theorem dX0_sizeOf_27 : decode cX0_sizeOf 27 = .ok (.getfield 26, 3) := by decide +kernel
theorem dX0_sizeOf_30 : decode cX0_sizeOf 30 = .ok (.iload 4, 2) := by decide +kernel
theorem dX0_sizeOf_32 : decode cX0_sizeOf 32 = .ok (.iaload, 1) := by decide +kernel
theorem dX0_sizeOf_33 : decode cX0_sizeOf 33 = .ok (.if_icmp .gt 7, 3) := by decide +kernel
theorem dX0_sizeOf_36 : decode cX0_sizeOf 36 = .ok (.iload_n 3, 1) := by decide +kernel
theorem dX0_sizeOf_37 : decode cX0_sizeOf 37 = .ok (.iconst 1, 1) := by decide +kernel
theorem dX0_sizeOf_38 : decode cX0_sizeOf 38 = .ok (.iadd, 1) := by decide +kernel
theorem dX0_sizeOf_39 : decode cX0_sizeOf 39 = .ok (.istore_n 3, 1) := by decide +kernel
theorem dX0_sizeOf_40 : decode cX0_sizeOf 40 = .ok (.iinc 4 1, 3) := by decide +kernel
theorem dX0_sizeOf_43 : decode cX0_sizeOf 43 = .ok (.goto (-38), 3) := by decide +kernel
theorem dX0_sizeOf_46 : decode cX0_sizeOf 46 = .ok (.iload_n 3, 1) := by decide +kernel
theorem dX0_sizeOf_47 : decode cX0_sizeOf 47 = .ok (.ireturn, 1) := by decide +kernel
theorem dX1_init_0 : decode cX1_init 0 = .ok (.aload_n 0, 1) := by decide +kernel
theorem dX1_init_1 : decode cX1_init 1 = .ok (.invokespecial 3, 3) := by decide +kernel
theorem dX1_init_4 : decode cX1_init 4 = .ok (.aload_n 0, 1) := by decide +kernel
theorem dX1_init_5 : decode cX1_init 5 = .ok (.iconst (-1), 1) := by decide +kernel
theorem dX1_init_6 : decode cX1_init 6 = .ok (.putfield 9, 3) := by decide +kernel
theorem dX1_init_9 : decode cX1_init 9 = .ok (.aload_n 0, 1) := by decide +kernel
theorem dX1_init_10 : decode cX1_init 10 = .ok (.iconst 0, 1) := by decide +kernel
theorem dX1_init_11 : decode cX1_init 11 = .ok (.putfield 15, 3) := by decide +kernel
theorem dX1_init_14 : decode cX1_init 14 = .ok (.aload_n 0, 1) := by decide +kernel
theorem dX1_init_15 : decode cX1_init 15 = .ok (.iconst 0, 1) := by decide +kernel
theorem dX1_init_16 : decode cX1_init 16 = .ok (.putfield 18, 3) := by decide +kernel
theorem dX1_init_19 : decode cX1_init 19 = .ok (.return_, 1) := by decide +kernel
theorem dX1_read_0 : decode cX1_read 0 = .ok (.iload_n 1, 1) := by decide +kernel
theorem dX1_read_1 : decode cX1_read 1 = .ok (.bipush 65, 2) := by decide +kernel
theorem dX1_read_3 : decode cX1_read 3 = .ok (.if_icmp .lt 9, 3) := by decide +kernel
theorem dX1_read_6 : decode cX1_read 6 = .ok (.iload_n 1, 1) := by decide +kernel
theorem dX1_read_7 : decode cX1_read 7 = .ok (.bipush 90, 2) := by decide +kernel
theorem dX1_read_9 : decode cX1_read 9 = .ok (.if_icmp .le 9, 3) := by decide +kernel
theorem dX1_read_12 : decode cX1_read 12 = .ok (.aload_n 0, 1) := by decide +kernel
theorem dX1_read_13 : decode cX1_read 13 = .ok (.invokevirtual 21, 3) := by decide +kernel
theorem dX1_read_16 : decode cX1_read 16 = .ok (.iconst (-1), 1) := by decide +kernel
theorem dX1_read_17 : decode cX1_read 17 = .ok (.ireturn, 1) := by decide +kernel
theorem dX1_read_18 : decode cX1_read 18 = .ok (.iload_n 1, 1) := by decide +kernel
theorem dX1_read_19 : decode cX1_read 19 = .ok (.bipush 65, 2) := by decide +kernel
theorem dX1_read_21 : decode cX1_read 21 = .ok (.isub, 1) := by decide +kernel
theorem dX1_read_22 : decode cX1_read 22 = .ok (.istore_n 2, 1) := by decide +kernel
theorem dX1_read_23 : decode cX1_read 23 = .ok (.aload_n 0, 1) := by decide +kernel
theorem dX1_read_24 : decode cX1_read 24 = .ok (.getfield 15, 3) := by decide +kernel
theorem dX1_read_27 : decode cX1_read 27 = .ok (.bipush 6, 2) := by decide +kernel
theorem dX1_read_29 : decode cX1_read 29 = .ok (.if_icmp .ge 28, 3) := by decide +kernel
theorem dX1_read_32 : decode cX1_read 32 = .ok (.aload_n 0, 1) := by decide +kernel
theorem dX1_read_33 : decode cX1_read 33 = .ok (.aload_n 0, 1) := by decide +kernel
theorem dX1_read_34 : decode cX1_read 34 = .ok (.getfield 18, 3) := by decide +kernel
theorem dX1_read_37 : decode cX1_read 37 = .ok (.bipush 26, 2) := by decide +kernel
theorem dX1_read_39 : decode cX1_read 39 = .ok (.imul, 1) := by decide +kernel
theorem dX1_read_40 : decode cX1_read 40 = .ok (.iload_n 2, 1) := by decide +kernel
theorem dX1_read_41 : decode cX1_read 41 = .ok (.iadd, 1) := by decide +kernel
theorem dX1_read_42 : decode cX1_read 42 = .ok (.putfield 18, 3) := by decide +kernel
theorem dX1_read_45 : decode cX1_read 45 = .ok (.aload_n 0, 1) := by decide +kernel
theorem dX1_read_46 : decode cX1_read 46 = .ok (.aload_n 0, 1) := by decide +kernel
theorem dX1_read_47 : decode cX1_read 47 = .ok (.getfield 15, 3) := by decide +kernel
theorem dX1_read_50 : decode cX1_read 50 = .ok (.iconst 1, 1) := by decide +kernel
theorem dX1_read_51 : decode cX1_read 51 = .ok (.iadd, 1) := by decide +kernel
theorem dX1_read_52 : decode cX1_read 52 = .ok (.putfield 15, 3) := by decide +kernel
theorem dX1_read_55 : decode cX1_read 55 = .ok (.iconst 0, 1) := by decide +kernel
theorem dX1_read_56 : decode cX1_read 56 = .ok (.ireturn, 1) := by decide +kernel
theorem dX1_read_57 : decode cX1_read 57 = .ok (.aload_n 0, 1) := by decide +kernel
theorem dX1_read_58 : decode cX1_read 58 = .ok (.getfield 18, 3) := by decide +kernel
theorem dX1_read_61 : decode cX1_read 61 = .ok (.ldc 24, 2) := by decide +kernel
theorem dX1_read_63 : decode cX1_read 63 = .ok (.if_icmp .gt 18, 3) := by decide +kernel
theorem dX1_read_66 : decode cX1_read 66 = .ok (.iload_n 2, 1) := by decide +kernel
theorem dX1_read_67 : decode cX1_read 67 = .ok (.aload_n 0, 1) := by decide +kernel
theorem dX1_read_68 : decode cX1_read 68 = .ok (.getfield 18, 3) := by decide +kernel
theorem dX1_read_71 : decode cX1_read 71 = .ok (.invokestatic 25, 3) := by decide +kernel
theorem dX1_read_74 : decode cX1_read 74 = .ok (.if_icmp .ne 7, 3) := by decide +kernel
theorem dX1_read_77 : decode cX1_read 77 = .ok (.iconst 1, 1) := by decide +kernel
theorem dX1_read_78 : decode cX1_read 78 = .ok (.goto 4, 3) := by decide +kernel
theorem dX1_read_81 : decode cX1_read 81 = .ok (.iconst 0, 1) := by decide +kernel
theorem dX1_read_82 : decode cX1_read 82 = .ok (.istore_n 3, 1) := by decide +kernel
theorem dX1_read_83 : decode cX1_read 83 = .ok (.iload_n 3, 1) := by decide +kernel
theorem dX1_read_84 : decode cX1_read 84 = .ok (.ifCond .eq 11, 3) := by decide +kernel
theorem dX1_read_87 : decode cX1_read 87 = .ok (.aload_n 0, 1) := by decide +kernel
theorem dX1_read_88 : decode cX1_read 88 = .ok (.aload_n 0, 1) := by decide +kernel
theorem dX1_read_89 : decode cX1_read 89 = .ok (.getfield 18, 3) := by decide +kernel
theorem dX1_read_92 : decode cX1_read 92 = .ok (.putfield 9, 3) := by decide +kernel
theorem dX1_read_95 : decode cX1_read 95 = .ok (.aload_n 0, 1) := by decide +kernel
theorem dX1_read_96 : decode cX1_read 96 = .ok (.invokevirtual 21, 3) := by decide +kernel
theorem dX1_read_99 : decode cX1_read 99 = .ok (.iload_n 3, 1) := by decide +kernel
theorem dX1_read_100 : decode cX1_read 100 = .ok (.ifCond .eq 7, 3) := by decide +kernel
theorem dX1_read_103 : decode cX1_read 103 = .ok (.iconst 1, 1) := by decide +kernel
theorem dX1_read_104 : decode cX1_read 104 = .ok (.goto 4, 3) := by decide +kernel
theorem dX1_read_107 : decode cX1_read 107 = .ok (.iconst (-1), 1) := by decide +kernel
theorem dX1_read_108 : decode cX1_read 108 = .ok (.ireturn, 1) := by decide +kernel
theorem dX1_restart_0 : decode cX1_restart 0 = .ok (.aload_n 0, 1) := by decide +kernel
theorem dX1_restart_1 : decode cX1_restart 1 = .ok (.iconst 0, 1) := by decide +kernel
theorem dX1_restart_2 : decode cX1_restart 2 = .ok (.putfield 15, 3) := by decide +kernel
theorem dX1_restart_5 : decode cX1_restart 5 = .ok (.aload_n 0, 1) := by decide +kernel
theorem dX1_restart_6 : decode cX1_restart 6 = .ok (.iconst 0, 1) := by decide +kernel
theorem dX1_restart_7 : decode cX1_restart 7 = .ok (.putfield 18, 3) := by decide +kernel
theorem dX1_restart_10 : decode cX1_restart 10 = .ok (.return_, 1) := by decide +kernel
theorem dX2_init_0 : decode cX2_init 0 = .ok (.aload_n 0, 1) := by decide +kernel
theorem dX2_init_1 : decode cX2_init 1 = .ok (.invokespecial 3, 3) := by decide +kernel
theorem dX2_init_4 : decode cX2_init 4 = .ok (.aload_n 0, 1) := by decide +kernel
theorem dX2_init_5 : decode cX2_init 5 = .ok (.iconst 0, 1) := by decide +kernel
theorem dX2_init_6 : decode cX2_init 6 = .ok (.putfield 9, 3) := by decide +kernel
theorem dX2_init_9 : decode cX2_init 9 = .ok (.aload_n 0, 1) := by decide +kernel
theorem dX2_init_10 : decode cX2_init 10 = .ok (.bipush 60, 2) := by decide +kernel
theorem dX2_init_12 : decode cX2_init 12 = .ok (.newarray .int, 2) := by decide +kernel
theorem dX2_init_14 : decode cX2_init 14 = .ok (.putfield 15, 3) := by decide +kernel
theorem dX2_init_17 : decode cX2_init 17 = .ok (.aload_n 0, 1) := by decide +kernel
theorem dX2_init_18 : decode cX2_init 18 = .ok (.bipush 60, 2) := by decide +kernel
theorem dX2_init_20 : decode cX2_init 20 = .ok (.newarray .int, 2) := by decide +kernel
theorem dX2_init_22 : decode cX2_init 22 = .ok (.putfield 19, 3) := by decide +kernel
theorem dX2_init_25 : decode cX2_init 25 = .ok (.aload_n 0, 1) := by decide +kernel
theorem dX2_init_26 : decode cX2_init 26 = .ok (.bipush 60, 2) := by decide +kernel
theorem dX2_init_28 : decode cX2_init 28 = .ok (.newarray .int, 2) := by decide +kernel
theorem dX2_init_30 : decode cX2_init 30 = .ok (.putfield 22, 3) := by decide +kernel
theorem dX2_init_33 : decode cX2_init 33 = .ok (.aload_n 0, 1) := by decide +kernel
theorem dX2_init_34 : decode cX2_init 34 = .ok (.bipush 60, 2) := by decide +kernel
theorem dX2_init_36 : decode cX2_init 36 = .ok (.newarray .int, 2) := by decide +kernel
theorem dX2_init_38 : decode cX2_init 38 = .ok (.putfield 25, 3) := by decide +kernel
theorem dX2_init_41 : decode cX2_init 41 = .ok (.aload_n 0, 1) := by decide +kernel
theorem dX2_init_42 : decode cX2_init 42 = .ok (.bipush 60, 2) := by decide +kernel
theorem dX2_init_44 : decode cX2_init 44 = .ok (.newarray .int, 2) := by decide +kernel
theorem dX2_init_46 : decode cX2_init 46 = .ok (.putfield 28, 3) := by decide +kernel
theorem dX2_init_49 : decode cX2_init 49 = .ok (.return_, 1) := by decide +kernel
theorem dX2_append_0 : decode cX2_append 0 = .ok (.aload_n 0, 1) := by decide +kernel
theorem dX2_append_1 : decode cX2_append 1 = .ok (.getfield 15, 3) := by decide +kernel
theorem dX2_append_4 : decode cX2_append 4 = .ok (.aload_n 0, 1) := by decide +kernel
theorem dX2_append_5 : decode cX2_append 5 = .ok (.getfield 9, 3) := by decide +kernel
theorem dX2_append_8 : decode cX2_append 8 = .ok (.iload_n 1, 1) := by decide +kernel
theorem dX2_append_9 : decode cX2_append 9 = .ok (.iastore, 1) := by decide +kernel
theorem dX2_append_10 : decode cX2_append 10 = .ok (.aload_n 0, 1) := by decide +kernel
theorem dX2_append_11 : decode cX2_append 11 = .ok (.getfield 19, 3) := by decide +kernel
theorem dX2_append_14 : decode cX2_append 14 = .ok (.aload_n 0, 1) := by decide +kernel
theorem dX2_append_15 : decode cX2_append 15 = .ok (.getfield 9, 3) := by decide +kernel
theorem dX2_append_18 : decode cX2_append 18 = .ok (.iload_n 2, 1) := by decide +kernel
theorem dX2_append_19 : decode cX2_append 19 = .ok (.iastore, 1) := by decide +kernel
theorem dX2_append_20 : decode cX2_append 20 = .ok (.aload_n 0, 1) := by decide +kernel
theorem dX2_append_21 : decode cX2_append 21 = .ok (.getfield 22, 3) := by decide +kernel
theorem dX2_append_24 : decode cX2_append 24 = .ok (.aload_n 0, 1) := by decide +kernel
theorem dX2_append_25 : decode cX2_append 25 = .ok (.getfield 9, 3) := by decide +kernel
theorem dX2_append_28 : decode cX2_append 28 = .ok (.iload_n 3, 1) := by decide +kernel
theorem dX2_append_29 : decode cX2_append 29 = .ok (.iastore, 1) := by decide +kernel
theorem dX2_append_30 : decode cX2_append 30 = .ok (.aload_n 0, 1) := by decide +kernel
theorem dX2_append_31 : decode cX2_append 31 = .ok (.getfield 25, 3) := by decide +kernel
theorem dX2_append_34 : decode cX2_append 34 = .ok (.aload_n 0, 1) := by decide +kernel
theorem dX2_append_35 : decode cX2_append 35 = .ok (.getfield 9, 3) := by decide +kernel
theorem dX2_append_38 : decode cX2_append 38 = .ok (.iload 4, 2) := by decide +kernel
theorem dX2_append_40 : decode cX2_append 40 = .ok (.iastore, 1) := by decide +kernel
theorem dX2_append_41 : decode cX2_append 41 = .ok (.aload_n 0, 1) := by decide +kernel
theorem dX2_append_42 : decode cX2_append 42 = .ok (.getfield 28, 3) := by decide +kernel
theorem dX2_append_45 : decode cX2_append 45 = .ok (.aload_n 0, 1) := by decide +kernel
theorem dX2_append_46 : decode cX2_append 46 = .ok (.getfield 9, 3) := by decide +kernel
theorem dX2_append_49 : decode cX2_append 49 = .ok (.iload 5, 2) := by decide +kernel
theorem dX2_append_51 : decode cX2_append 51 = .ok (.iastore, 1) := by decide +kernel
theorem dX2_append_52 : decode cX2_append 52 = .ok (.aload_n 0, 1) := by decide +kernel
theorem dX2_append_53 : decode cX2_append 53 = .ok (.aload_n 0, 1) := by decide +kernel
theorem dX2_append_54 : decode cX2_append 54 = .ok (.getfield 9, 3) := by decide +kernel
theorem dX2_append_57 : decode cX2_append 57 = .ok (.iconst 1, 1) := by decide +kernel
theorem dX2_append_58 : decode cX2_append 58 = .ok (.iadd, 1) := by decide +kernel
theorem dX2_append_59 : decode cX2_append 59 = .ok (.putfield 9, 3) := by decide +kernel
theorem dX2_append_62 : decode cX2_append 62 = .ok (.return_, 1) := by decide +kernel
theorem dX2_tradersWith_0 : decode cX2_tradersWith 0 = .ok (.iconst 0, 1) := by decide +kernel
theorem dX2_tradersWith_1 : decode cX2_tradersWith 1 = .ok (.istore 4, 2) := by decide +kernel
theorem dX2_tradersWith_3 : decode cX2_tradersWith 3 = .ok (.iconst 0, 1) := by decide +kernel
theorem dX2_tradersWith_4 : decode cX2_tradersWith 4 = .ok (.istore 5, 2) := by decide +kernel
theorem dX2_tradersWith_6 : decode cX2_tradersWith 6 = .ok (.iload 5, 2) := by decide +kernel
theorem dX2_tradersWith_8 : decode cX2_tradersWith 8 = .ok (.aload_n 0, 1) := by decide +kernel
theorem dX2_tradersWith_9 : decode cX2_tradersWith 9 = .ok (.getfield 9, 3) := by decide +kernel
theorem dX2_tradersWith_12 : decode cX2_tradersWith 12 = .ok (.if_icmp .ge 79, 3) := by decide +kernel
theorem dX2_tradersWith_15 : decode cX2_tradersWith 15 = .ok (.aload_n 0, 1) := by decide +kernel
theorem dX2_tradersWith_16 : decode cX2_tradersWith 16 = .ok (.getfield 22, 3) := by decide +kernel
theorem dX2_tradersWith_19 : decode cX2_tradersWith 19 = .ok (.iload 5, 2) := by decide +kernel
theorem dX2_tradersWith_21 : decode cX2_tradersWith 21 = .ok (.iaload, 1) := by decide +kernel
theorem dX2_tradersWith_22 : decode cX2_tradersWith 22 = .ok (.iconst (-1), 1) := by decide +kernel
theorem dX2_tradersWith_23 : decode cX2_tradersWith 23 = .ok (.if_icmp .eq 14, 3) := by decide +kernel
theorem dX2_tradersWith_26 : decode cX2_tradersWith 26 = .ok (.aload_n 0, 1) := by decide +kernel
theorem dX2_tradersWith_27 : decode cX2_tradersWith 27 = .ok (.getfield 22, 3) := by decide +kernel
theorem dX2_tradersWith_30 : decode cX2_tradersWith 30 = .ok (.iload 5, 2) := by decide +kernel
theorem dX2_tradersWith_32 : decode cX2_tradersWith 32 = .ok (.iaload, 1) := by decide +kernel
theorem dX2_tradersWith_33 : decode cX2_tradersWith 33 = .ok (.iload_n 2, 1) := by decide +kernel
theorem dX2_tradersWith_34 : decode cX2_tradersWith 34 = .ok (.if_icmp .ne 7, 3) := by decide +kernel
theorem dX2_tradersWith_37 : decode cX2_tradersWith 37 = .ok (.iconst 1, 1) := by decide +kernel
theorem dX2_tradersWith_38 : decode cX2_tradersWith 38 = .ok (.goto 4, 3) := by decide +kernel
theorem dX2_tradersWith_41 : decode cX2_tradersWith 41 = .ok (.iconst 0, 1) := by decide +kernel
theorem dX2_tradersWith_42 : decode cX2_tradersWith 42 = .ok (.istore 6, 2) := by decide +kernel
theorem dX2_tradersWith_44 : decode cX2_tradersWith 44 = .ok (.aload_n 0, 1) := by decide +kernel
theorem dX2_tradersWith_45 : decode cX2_tradersWith 45 = .ok (.getfield 19, 3) := by decide +kernel
theorem dX2_tradersWith_48 : decode cX2_tradersWith 48 = .ok (.iload 5, 2) := by decide +kernel
theorem dX2_tradersWith_50 : decode cX2_tradersWith 50 = .ok (.iaload, 1) := by decide +kernel
theorem dX2_tradersWith_51 : decode cX2_tradersWith 51 = .ok (.iload_n 1, 1) := by decide +kernel
theorem dX2_tradersWith_52 : decode cX2_tradersWith 52 = .ok (.if_icmp .ne 33, 3) := by decide +kernel
theorem dX2_tradersWith_55 : decode cX2_tradersWith 55 = .ok (.iload 6, 2) := by decide +kernel
theorem dX2_tradersWith_57 : decode cX2_tradersWith 57 = .ok (.ifCond .eq 28, 3) := by decide +kernel
theorem dX2_tradersWith_60 : decode cX2_tradersWith 60 = .ok (.aload_n 0, 1) := by decide +kernel
theorem dX2_tradersWith_61 : decode cX2_tradersWith 61 = .ok (.iload 5, 2) := by decide +kernel
theorem dX2_tradersWith_63 : decode cX2_tradersWith 63 = .ok (.iload_n 3, 1) := by decide +kernel
theorem dX2_tradersWith_64 : decode cX2_tradersWith 64 = .ok (.invokevirtual 31, 3) := by decide +kernel
theorem dX2_tradersWith_67 : decode cX2_tradersWith 67 = .ok (.ifCond .eq 18, 3) := by decide +kernel
theorem dX2_tradersWith_70 : decode cX2_tradersWith 70 = .ok (.iload 4, 2) := by decide +kernel
theorem dX2_tradersWith_72 : decode cX2_tradersWith 72 = .ok (.aload_n 0, 1) := by decide +kernel
theorem dX2_tradersWith_73 : decode cX2_tradersWith 73 = .ok (.getfield 15, 3) := by decide +kernel
theorem dX2_tradersWith_76 : decode cX2_tradersWith 76 = .ok (.iload 5, 2) := by decide +kernel
theorem dX2_tradersWith_78 : decode cX2_tradersWith 78 = .ok (.iaload, 1) := by decide +kernel
theorem dX2_tradersWith_79 : decode cX2_tradersWith 79 = .ok (.invokestatic 35, 3) := by decide +kernel
theorem dX2_tradersWith_82 : decode cX2_tradersWith 82 = .ok (.ior, 1) := by decide +kernel
theorem dX2_tradersWith_83 : decode cX2_tradersWith 83 = .ok (.istore 4, 2) := by decide +kernel
theorem dX2_tradersWith_85 : decode cX2_tradersWith 85 = .ok (.iinc 5 1, 3) := by decide +kernel
theorem dX2_tradersWith_88 : decode cX2_tradersWith 88 = .ok (.goto (-82), 3) := by decide +kernel
theorem dX2_tradersWith_91 : decode cX2_tradersWith 91 = .ok (.iload 4, 2) := by decide +kernel
theorem dX2_tradersWith_93 : decode cX2_tradersWith 93 = .ok (.ireturn, 1) := by decide +kernel
theorem dX2_actsOf_0 : decode cX2_actsOf 0 = .ok (.iconst 0, 1) := by decide +kernel
theorem dX2_actsOf_1 : decode cX2_actsOf 1 = .ok (.istore_n 3, 1) := by decide +kernel
theorem dX2_actsOf_2 : decode cX2_actsOf 2 = .ok (.iconst 0, 1) := by decide +kernel
theorem dX2_actsOf_3 : decode cX2_actsOf 3 = .ok (.istore 4, 2) := by decide +kernel
theorem dX2_actsOf_5 : decode cX2_actsOf 5 = .ok (.iload 4, 2) := by decide +kernel
theorem dX2_actsOf_7 : decode cX2_actsOf 7 = .ok (.aload_n 0, 1) := by decide +kernel
theorem dX2_actsOf_8 : decode cX2_actsOf 8 = .ok (.getfield 9, 3) := by decide +kernel
theorem dX2_actsOf_11 : decode cX2_actsOf 11 = .ok (.if_icmp .ge 46, 3) := by decide +kernel
theorem dX2_actsOf_14 : decode cX2_actsOf 14 = .ok (.iload_n 1, 1) := by decide +kernel
theorem dX2_actsOf_15 : decode cX2_actsOf 15 = .ok (.aload_n 0, 1) := by decide +kernel
theorem dX2_actsOf_16 : decode cX2_actsOf 16 = .ok (.getfield 15, 3) := by decide +kernel
theorem dX2_actsOf_19 : decode cX2_actsOf 19 = .ok (.iload 4, 2) := by decide +kernel
theorem dX2_actsOf_21 : decode cX2_actsOf 21 = .ok (.iaload, 1) := by decide +kernel
theorem dX2_actsOf_22 : decode cX2_actsOf 22 = .ok (.invokestatic 39, 3) := by decide +kernel
theorem dX2_actsOf_25 : decode cX2_actsOf 25 = .ok (.ifCond .eq 26, 3) := by decide +kernel
theorem dX2_actsOf_28 : decode cX2_actsOf 28 = .ok (.aload_n 0, 1) := by decide +kernel
theorem dX2_actsOf_29 : decode cX2_actsOf 29 = .ok (.iload 4, 2) := by decide +kernel
theorem dX2_actsOf_31 : decode cX2_actsOf 31 = .ok (.iload_n 2, 1) := by decide +kernel
theorem dX2_actsOf_32 : decode cX2_actsOf 32 = .ok (.invokevirtual 31, 3) := by decide +kernel
theorem dX2_actsOf_35 : decode cX2_actsOf 35 = .ok (.ifCond .eq 16, 3) := by decide +kernel
theorem dX2_actsOf_38 : decode cX2_actsOf 38 = .ok (.iload_n 3, 1) := by decide +kernel
theorem dX2_actsOf_39 : decode cX2_actsOf 39 = .ok (.aload_n 0, 1) := by decide +kernel
theorem dX2_actsOf_40 : decode cX2_actsOf 40 = .ok (.getfield 19, 3) := by decide +kernel
theorem dX2_actsOf_43 : decode cX2_actsOf 43 = .ok (.iload 4, 2) := by decide +kernel
theorem dX2_actsOf_45 : decode cX2_actsOf 45 = .ok (.iaload, 1) := by decide +kernel
theorem dX2_actsOf_46 : decode cX2_actsOf 46 = .ok (.invokestatic 35, 3) := by decide +kernel
theorem dX2_actsOf_49 : decode cX2_actsOf 49 = .ok (.ior, 1) := by decide +kernel
theorem dX2_actsOf_50 : decode cX2_actsOf 50 = .ok (.istore_n 3, 1) := by decide +kernel
theorem dX2_actsOf_51 : decode cX2_actsOf 51 = .ok (.iinc 4 1, 3) := by decide +kernel
theorem dX2_actsOf_54 : decode cX2_actsOf 54 = .ok (.goto (-49), 3) := by decide +kernel
theorem dX2_actsOf_57 : decode cX2_actsOf 57 = .ok (.iload_n 3, 1) := by decide +kernel
theorem dX2_actsOf_58 : decode cX2_actsOf 58 = .ok (.ireturn, 1) := by decide +kernel
theorem dX2_isOnDay_0 : decode cX2_isOnDay 0 = .ok (.aload_n 0, 1) := by decide +kernel
theorem dX2_isOnDay_1 : decode cX2_isOnDay 1 = .ok (.getfield 25, 3) := by decide +kernel
theorem dX2_isOnDay_4 : decode cX2_isOnDay 4 = .ok (.iload_n 1, 1) := by decide +kernel
theorem dX2_isOnDay_5 : decode cX2_isOnDay 5 = .ok (.iaload, 1) := by decide +kernel
theorem dX2_isOnDay_6 : decode cX2_isOnDay 6 = .ok (.iload_n 2, 1) := by decide +kernel
theorem dX2_isOnDay_7 : decode cX2_isOnDay 7 = .ok (.if_icmp .gt 17, 3) := by decide +kernel
theorem dX2_isOnDay_10 : decode cX2_isOnDay 10 = .ok (.iload_n 2, 1) := by decide +kernel
theorem dX2_isOnDay_11 : decode cX2_isOnDay 11 = .ok (.aload_n 0, 1) := by decide +kernel
theorem dX2_isOnDay_12 : decode cX2_isOnDay 12 = .ok (.getfield 28, 3) := by decide +kernel
theorem dX2_isOnDay_15 : decode cX2_isOnDay 15 = .ok (.iload_n 1, 1) := by decide +kernel
theorem dX2_isOnDay_16 : decode cX2_isOnDay 16 = .ok (.iaload, 1) := by decide +kernel
theorem dX2_isOnDay_17 : decode cX2_isOnDay 17 = .ok (.if_icmp .gt 7, 3) := by decide +kernel
theorem dX2_isOnDay_20 : decode cX2_isOnDay 20 = .ok (.iconst 1, 1) := by decide +kernel
theorem dX2_isOnDay_21 : decode cX2_isOnDay 21 = .ok (.goto 4, 3) := by decide +kernel
theorem dX2_isOnDay_24 : decode cX2_isOnDay 24 = .ok (.iconst 0, 1) := by decide +kernel
theorem dX2_isOnDay_25 : decode cX2_isOnDay 25 = .ok (.ireturn, 1) := by decide +kernel
theorem dX3_init_0 : decode cX3_init 0 = .ok (.aload_n 0, 1) := by decide +kernel
theorem dX3_init_1 : decode cX3_init 1 = .ok (.invokespecial 3, 3) := by decide +kernel
theorem dX3_init_4 : decode cX3_init 4 = .ok (.aload_n 0, 1) := by decide +kernel
theorem dX3_init_5 : decode cX3_init 5 = .ok (.iconst 0, 1) := by decide +kernel
theorem dX3_init_6 : decode cX3_init 6 = .ok (.putfield 9, 3) := by decide +kernel
theorem dX3_init_9 : decode cX3_init 9 = .ok (.aload_n 0, 1) := by decide +kernel
theorem dX3_init_10 : decode cX3_init 10 = .ok (.bipush 60, 2) := by decide +kernel
theorem dX3_init_12 : decode cX3_init 12 = .ok (.newarray .int, 2) := by decide +kernel
theorem dX3_init_14 : decode cX3_init 14 = .ok (.putfield 15, 3) := by decide +kernel
theorem dX3_init_17 : decode cX3_init 17 = .ok (.aload_n 0, 1) := by decide +kernel
theorem dX3_init_18 : decode cX3_init 18 = .ok (.bipush 60, 2) := by decide +kernel
theorem dX3_init_20 : decode cX3_init 20 = .ok (.newarray .int, 2) := by decide +kernel
theorem dX3_init_22 : decode cX3_init 22 = .ok (.putfield 19, 3) := by decide +kernel
theorem dX3_init_25 : decode cX3_init 25 = .ok (.aload_n 0, 1) := by decide +kernel
theorem dX3_init_26 : decode cX3_init 26 = .ok (.bipush 60, 2) := by decide +kernel
theorem dX3_init_28 : decode cX3_init 28 = .ok (.newarray .boolean, 2) := by decide +kernel
theorem dX3_init_30 : decode cX3_init 30 = .ok (.putfield 22, 3) := by decide +kernel
theorem dX3_init_33 : decode cX3_init 33 = .ok (.return_, 1) := by decide +kernel
theorem dX3_append_0 : decode cX3_append 0 = .ok (.aload_n 0, 1) := by decide +kernel
theorem dX3_append_1 : decode cX3_append 1 = .ok (.getfield 15, 3) := by decide +kernel
theorem dX3_append_4 : decode cX3_append 4 = .ok (.aload_n 0, 1) := by decide +kernel
theorem dX3_append_5 : decode cX3_append 5 = .ok (.getfield 9, 3) := by decide +kernel
theorem dX3_append_8 : decode cX3_append 8 = .ok (.iload_n 1, 1) := by decide +kernel
theorem dX3_append_9 : decode cX3_append 9 = .ok (.iastore, 1) := by decide +kernel
theorem dX3_append_10 : decode cX3_append 10 = .ok (.aload_n 0, 1) := by decide +kernel
theorem dX3_append_11 : decode cX3_append 11 = .ok (.getfield 19, 3) := by decide +kernel
theorem dX3_append_14 : decode cX3_append 14 = .ok (.aload_n 0, 1) := by decide +kernel
theorem dX3_append_15 : decode cX3_append 15 = .ok (.getfield 9, 3) := by decide +kernel
theorem dX3_append_18 : decode cX3_append 18 = .ok (.iload_n 2, 1) := by decide +kernel
theorem dX3_append_19 : decode cX3_append 19 = .ok (.iastore, 1) := by decide +kernel
theorem dX3_append_20 : decode cX3_append 20 = .ok (.aload_n 0, 1) := by decide +kernel
theorem dX3_append_21 : decode cX3_append 21 = .ok (.getfield 22, 3) := by decide +kernel
theorem dX3_append_24 : decode cX3_append 24 = .ok (.aload_n 0, 1) := by decide +kernel
theorem dX3_append_25 : decode cX3_append 25 = .ok (.getfield 9, 3) := by decide +kernel
theorem dX3_append_28 : decode cX3_append 28 = .ok (.iload_n 3, 1) := by decide +kernel
theorem dX3_append_29 : decode cX3_append 29 = .ok (.bastore, 1) := by decide +kernel
theorem dX3_append_30 : decode cX3_append 30 = .ok (.aload_n 0, 1) := by decide +kernel
theorem dX3_append_31 : decode cX3_append 31 = .ok (.aload_n 0, 1) := by decide +kernel
theorem dX3_append_32 : decode cX3_append 32 = .ok (.getfield 9, 3) := by decide +kernel
theorem dX3_append_35 : decode cX3_append 35 = .ok (.iconst 1, 1) := by decide +kernel
theorem dX3_append_36 : decode cX3_append 36 = .ok (.iadd, 1) := by decide +kernel
theorem dX3_append_37 : decode cX3_append 37 = .ok (.putfield 9, 3) := by decide +kernel
theorem dX3_append_40 : decode cX3_append 40 = .ok (.return_, 1) := by decide +kernel
theorem dX3_isOn_0 : decode cX3_isOn 0 = .ok (.iconst 0, 1) := by decide +kernel
theorem dX3_isOn_1 : decode cX3_isOn 1 = .ok (.istore_n 3, 1) := by decide +kernel
theorem dX3_isOn_2 : decode cX3_isOn 2 = .ok (.iconst (-1), 1) := by decide +kernel
theorem dX3_isOn_3 : decode cX3_isOn 3 = .ok (.istore 4, 2) := by decide +kernel
theorem dX3_isOn_5 : decode cX3_isOn 5 = .ok (.iconst 0, 1) := by decide +kernel
theorem dX3_isOn_6 : decode cX3_isOn 6 = .ok (.istore 5, 2) := by decide +kernel
theorem dX3_isOn_8 : decode cX3_isOn 8 = .ok (.iload 5, 2) := by decide +kernel
theorem dX3_isOn_10 : decode cX3_isOn 10 = .ok (.aload_n 0, 1) := by decide +kernel
theorem dX3_isOn_11 : decode cX3_isOn 11 = .ok (.getfield 9, 3) := by decide +kernel
theorem dX3_isOn_14 : decode cX3_isOn 14 = .ok (.if_icmp .ge 60, 3) := by decide +kernel
theorem dX3_isOn_17 : decode cX3_isOn 17 = .ok (.aload_n 0, 1) := by decide +kernel
theorem dX3_isOn_18 : decode cX3_isOn 18 = .ok (.getfield 15, 3) := by decide +kernel
theorem dX3_isOn_21 : decode cX3_isOn 21 = .ok (.iload 5, 2) := by decide +kernel
theorem dX3_isOn_23 : decode cX3_isOn 23 = .ok (.iaload, 1) := by decide +kernel
theorem dX3_isOn_24 : decode cX3_isOn 24 = .ok (.iload_n 1, 1) := by decide +kernel
theorem dX3_isOn_25 : decode cX3_isOn 25 = .ok (.if_icmp .ne 43, 3) := by decide +kernel
theorem dX3_isOn_28 : decode cX3_isOn 28 = .ok (.aload_n 0, 1) := by decide +kernel
theorem dX3_isOn_29 : decode cX3_isOn 29 = .ok (.getfield 19, 3) := by decide +kernel
theorem dX3_isOn_32 : decode cX3_isOn 32 = .ok (.iload 5, 2) := by decide +kernel
theorem dX3_isOn_34 : decode cX3_isOn 34 = .ok (.iaload, 1) := by decide +kernel
theorem dX3_isOn_35 : decode cX3_isOn 35 = .ok (.iload_n 2, 1) := by decide +kernel
theorem dX3_isOn_36 : decode cX3_isOn 36 = .ok (.if_icmp .gt 32, 3) := by decide +kernel
theorem dX3_isOn_39 : decode cX3_isOn 39 = .ok (.aload_n 0, 1) := by decide +kernel
theorem dX3_isOn_40 : decode cX3_isOn 40 = .ok (.getfield 19, 3) := by decide +kernel
theorem dX3_isOn_43 : decode cX3_isOn 43 = .ok (.iload 5, 2) := by decide +kernel
theorem dX3_isOn_45 : decode cX3_isOn 45 = .ok (.iaload, 1) := by decide +kernel
theorem dX3_isOn_46 : decode cX3_isOn 46 = .ok (.iload 4, 2) := by decide +kernel
theorem dX3_isOn_48 : decode cX3_isOn 48 = .ok (.if_icmp .lt 20, 3) := by decide +kernel
theorem dX3_isOn_51 : decode cX3_isOn 51 = .ok (.aload_n 0, 1) := by decide +kernel
theorem dX3_isOn_52 : decode cX3_isOn 52 = .ok (.getfield 19, 3) := by decide +kernel
theorem dX3_isOn_55 : decode cX3_isOn 55 = .ok (.iload 5, 2) := by decide +kernel
theorem dX3_isOn_57 : decode cX3_isOn 57 = .ok (.iaload, 1) := by decide +kernel
theorem dX3_isOn_58 : decode cX3_isOn 58 = .ok (.istore 4, 2) := by decide +kernel
theorem dX3_isOn_60 : decode cX3_isOn 60 = .ok (.aload_n 0, 1) := by decide +kernel
theorem dX3_isOn_61 : decode cX3_isOn 61 = .ok (.getfield 22, 3) := by decide +kernel
theorem dX3_isOn_64 : decode cX3_isOn 64 = .ok (.iload 5, 2) := by decide +kernel
theorem dX3_isOn_66 : decode cX3_isOn 66 = .ok (.baload, 1) := by decide +kernel
theorem dX3_isOn_67 : decode cX3_isOn 67 = .ok (.istore_n 3, 1) := by decide +kernel
theorem dX3_isOn_68 : decode cX3_isOn 68 = .ok (.iinc 5 1, 3) := by decide +kernel
theorem dX3_isOn_71 : decode cX3_isOn 71 = .ok (.goto (-63), 3) := by decide +kernel
theorem dX3_isOn_74 : decode cX3_isOn 74 = .ok (.iload_n 3, 1) := by decide +kernel
theorem dX3_isOn_75 : decode cX3_isOn 75 = .ok (.ireturn, 1) := by decide +kernel
theorem dX4_init_0 : decode cX4_init 0 = .ok (.aload_n 0, 1) := by decide +kernel
theorem dX4_init_1 : decode cX4_init 1 = .ok (.invokespecial 1, 3) := by decide +kernel
theorem dX4_init_4 : decode cX4_init 4 = .ok (.aload_n 0, 1) := by decide +kernel
theorem dX4_init_5 : decode cX4_init 5 = .ok (.iconst 0, 1) := by decide +kernel
theorem dX4_init_6 : decode cX4_init 6 = .ok (.putfield 7, 3) := by decide +kernel
theorem dX4_init_9 : decode cX4_init 9 = .ok (.aload_n 0, 1) := by decide +kernel
theorem dX4_init_10 : decode cX4_init 10 = .ok (.iconst 0, 1) := by decide +kernel
theorem dX4_init_11 : decode cX4_init 11 = .ok (.putfield 13, 3) := by decide +kernel
theorem dX4_init_14 : decode cX4_init 14 = .ok (.aload_n 0, 1) := by decide +kernel
theorem dX4_init_15 : decode cX4_init 15 = .ok (.bipush 12, 2) := by decide +kernel
theorem dX4_init_17 : decode cX4_init 17 = .ok (.newarray .int, 2) := by decide +kernel
theorem dX4_init_19 : decode cX4_init 19 = .ok (.putfield 16, 3) := by decide +kernel
theorem dX4_init_22 : decode cX4_init 22 = .ok (.aload_n 0, 1) := by decide +kernel
theorem dX4_init_23 : decode cX4_init 23 = .ok (.bipush 12, 2) := by decide +kernel
theorem dX4_init_25 : decode cX4_init 25 = .ok (.newarray .int, 2) := by decide +kernel
theorem dX4_init_27 : decode cX4_init 27 = .ok (.putfield 20, 3) := by decide +kernel
theorem dX4_init_30 : decode cX4_init 30 = .ok (.aload_n 0, 1) := by decide +kernel
theorem dX4_init_31 : decode cX4_init 31 = .ok (.bipush 12, 2) := by decide +kernel
theorem dX4_init_33 : decode cX4_init 33 = .ok (.newarray .int, 2) := by decide +kernel
theorem dX4_init_35 : decode cX4_init 35 = .ok (.putfield 23, 3) := by decide +kernel
theorem dX4_init_38 : decode cX4_init 38 = .ok (.aload_n 0, 1) := by decide +kernel
theorem dX4_init_39 : decode cX4_init 39 = .ok (.bipush 12, 2) := by decide +kernel
theorem dX4_init_41 : decode cX4_init 41 = .ok (.newarray .int, 2) := by decide +kernel
theorem dX4_init_43 : decode cX4_init 43 = .ok (.putfield 26, 3) := by decide +kernel
theorem dX4_init_46 : decode cX4_init 46 = .ok (.aload_n 0, 1) := by decide +kernel
theorem dX4_init_47 : decode cX4_init 47 = .ok (.bipush 12, 2) := by decide +kernel
theorem dX4_init_49 : decode cX4_init 49 = .ok (.newarray .int, 2) := by decide +kernel
theorem dX4_init_51 : decode cX4_init 51 = .ok (.putfield 29, 3) := by decide +kernel
theorem dX4_init_54 : decode cX4_init 54 = .ok (.aload_n 0, 1) := by decide +kernel
theorem dX4_init_55 : decode cX4_init 55 = .ok (.getfield 23, 3) := by decide +kernel
theorem dX4_init_58 : decode cX4_init 58 = .ok (.iconst (-1), 1) := by decide +kernel
theorem dX4_init_59 : decode cX4_init 59 = .ok (.invokestatic 32, 3) := by decide +kernel
theorem dX4_init_62 : decode cX4_init 62 = .ok (.aload_n 0, 1) := by decide +kernel
theorem dX4_init_63 : decode cX4_init 63 = .ok (.getfield 26, 3) := by decide +kernel
theorem dX4_init_66 : decode cX4_init 66 = .ok (.iconst (-1), 1) := by decide +kernel
theorem dX4_init_67 : decode cX4_init 67 = .ok (.invokestatic 32, 3) := by decide +kernel
theorem dX4_init_70 : decode cX4_init 70 = .ok (.aload_n 0, 1) := by decide +kernel
theorem dX4_init_71 : decode cX4_init 71 = .ok (.getfield 29, 3) := by decide +kernel
theorem dX4_init_74 : decode cX4_init 74 = .ok (.iconst (-1), 1) := by decide +kernel
theorem dX4_init_75 : decode cX4_init 75 = .ok (.invokestatic 32, 3) := by decide +kernel
theorem dX4_init_78 : decode cX4_init 78 = .ok (.aload_n 0, 1) := by decide +kernel
theorem dX4_init_79 : decode cX4_init 79 = .ok (.new 38, 3) := by decide +kernel
theorem dX4_init_82 : decode cX4_init 82 = .ok (.dup, 1) := by decide +kernel
theorem dX4_init_83 : decode cX4_init 83 = .ok (.invokespecial 40, 3) := by decide +kernel
theorem dX4_init_86 : decode cX4_init 86 = .ok (.putfield 41, 3) := by decide +kernel
theorem dX4_init_89 : decode cX4_init 89 = .ok (.aload_n 0, 1) := by decide +kernel
theorem dX4_init_90 : decode cX4_init 90 = .ok (.new 45, 3) := by decide +kernel
theorem dX4_init_93 : decode cX4_init 93 = .ok (.dup, 1) := by decide +kernel
theorem dX4_init_94 : decode cX4_init 94 = .ok (.invokespecial 47, 3) := by decide +kernel
theorem dX4_init_97 : decode cX4_init 97 = .ok (.putfield 48, 3) := by decide +kernel
theorem dX4_init_100 : decode cX4_init 100 = .ok (.aload_n 0, 1) := by decide +kernel
theorem dX4_init_101 : decode cX4_init 101 = .ok (.new 52, 3) := by decide +kernel
theorem dX4_init_104 : decode cX4_init 104 = .ok (.dup, 1) := by decide +kernel
theorem dX4_init_105 : decode cX4_init 105 = .ok (.invokespecial 54, 3) := by decide +kernel
theorem dX4_init_108 : decode cX4_init 108 = .ok (.putfield 55, 3) := by decide +kernel
theorem dX4_init_111 : decode cX4_init 111 = .ok (.aload_n 0, 1) := by decide +kernel
theorem dX4_init_112 : decode cX4_init 112 = .ok (.new 59, 3) := by decide +kernel
theorem dX4_init_115 : decode cX4_init 115 = .ok (.dup, 1) := by decide +kernel
theorem dX4_init_116 : decode cX4_init 116 = .ok (.invokespecial 61, 3) := by decide +kernel
theorem dX4_init_119 : decode cX4_init 119 = .ok (.putfield 62, 3) := by decide +kernel
theorem dX4_init_122 : decode cX4_init 122 = .ok (.return_, 1) := by decide +kernel
theorem dX4_trader_0 : decode cX4_trader 0 = .ok (.aload_n 0, 1) := by decide +kernel
theorem dX4_trader_1 : decode cX4_trader 1 = .ok (.getfield 7, 3) := by decide +kernel
theorem dX4_trader_4 : decode cX4_trader 4 = .ok (.bipush 12, 2) := by decide +kernel
theorem dX4_trader_6 : decode cX4_trader 6 = .ok (.if_icmp .lt 13, 3) := by decide +kernel
theorem dX4_trader_9 : decode cX4_trader 9 = .ok (.new 66, 3) := by decide +kernel
theorem dX4_trader_12 : decode cX4_trader 12 = .ok (.dup, 1) := by decide +kernel
theorem dX4_trader_13 : decode cX4_trader 13 = .ok (.ldc 68, 2) := by decide +kernel
theorem dX4_trader_15 : decode cX4_trader 15 = .ok (.invokespecial 70, 3) := by decide +kernel
theorem dX4_trader_18 : decode cX4_trader 18 = .ok (.athrow, 1) := by decide +kernel
theorem dX4_trader_19 : decode cX4_trader 19 = .ok (.aload_n 0, 1) := by decide +kernel
theorem dX4_trader_20 : decode cX4_trader 20 = .ok (.getfield 7, 3) := by decide +kernel
theorem dX4_trader_23 : decode cX4_trader 23 = .ok (.istore_n 1, 1) := by decide +kernel
theorem dX4_trader_24 : decode cX4_trader 24 = .ok (.aload_n 0, 1) := by decide +kernel
theorem dX4_trader_25 : decode cX4_trader 25 = .ok (.aload_n 0, 1) := by decide +kernel
theorem dX4_trader_26 : decode cX4_trader 26 = .ok (.getfield 7, 3) := by decide +kernel
theorem dX4_trader_29 : decode cX4_trader 29 = .ok (.iconst 1, 1) := by decide +kernel
theorem dX4_trader_30 : decode cX4_trader 30 = .ok (.iadd, 1) := by decide +kernel
theorem dX4_trader_31 : decode cX4_trader 31 = .ok (.putfield 7, 3) := by decide +kernel
theorem dX4_trader_34 : decode cX4_trader 34 = .ok (.iload_n 1, 1) := by decide +kernel
theorem dX4_trader_35 : decode cX4_trader 35 = .ok (.ireturn, 1) := by decide +kernel
theorem dX4_right_0 : decode cX4_right 0 = .ok (.aload_n 0, 1) := by decide +kernel
theorem dX4_right_1 : decode cX4_right 1 = .ok (.iload_n 1, 1) := by decide +kernel
theorem dX4_right_2 : decode cX4_right 2 = .ok (.invokevirtual 73, 3) := by decide +kernel
theorem dX4_right_5 : decode cX4_right 5 = .ok (.ifCond .eq 22, 3) := by decide +kernel
theorem dX4_right_8 : decode cX4_right 8 = .ok (.iload_n 2, 1) := by decide +kernel
theorem dX4_right_9 : decode cX4_right 9 = .ok (.invokestatic 77, 3) := by decide +kernel
theorem dX4_right_12 : decode cX4_right 12 = .ok (.ifCond .eq 15, 3) := by decide +kernel
theorem dX4_right_15 : decode cX4_right 15 = .ok (.iload_n 3, 1) := by decide +kernel
theorem dX4_right_16 : decode cX4_right 16 = .ok (.iconst (-1), 1) := by decide +kernel
theorem dX4_right_17 : decode cX4_right 17 = .ok (.if_icmp .eq 20, 3) := by decide +kernel
theorem dX4_right_20 : decode cX4_right 20 = .ok (.iload_n 3, 1) := by decide +kernel
theorem dX4_right_21 : decode cX4_right 21 = .ok (.invokestatic 80, 3) := by decide +kernel
theorem dX4_right_24 : decode cX4_right 24 = .ok (.ifCond .ne 13, 3) := by decide +kernel
theorem dX4_right_27 : decode cX4_right 27 = .ok (.new 83, 3) := by decide +kernel
theorem dX4_right_30 : decode cX4_right 30 = .ok (.dup, 1) := by decide +kernel
theorem dX4_right_31 : decode cX4_right 31 = .ok (.ldc 85, 2) := by decide +kernel
theorem dX4_right_33 : decode cX4_right 33 = .ok (.invokespecial 87, 3) := by decide +kernel
theorem dX4_right_36 : decode cX4_right 36 = .ok (.athrow, 1) := by decide +kernel
theorem dX4_right_37 : decode cX4_right 37 = .ok (.iload 4, 2) := by decide +kernel
theorem dX4_right_39 : decode cX4_right 39 = .ok (.invokestatic 88, 3) := by decide +kernel
theorem dX4_right_42 : decode cX4_right 42 = .ok (.ifCond .eq 18, 3) := by decide +kernel
theorem dX4_right_45 : decode cX4_right 45 = .ok (.iload 5, 2) := by decide +kernel
theorem dX4_right_47 : decode cX4_right 47 = .ok (.invokestatic 88, 3) := by decide +kernel
theorem dX4_right_50 : decode cX4_right 50 = .ok (.ifCond .eq 10, 3) := by decide +kernel
theorem dX4_right_53 : decode cX4_right 53 = .ok (.iload 4, 2) := by decide +kernel
theorem dX4_right_55 : decode cX4_right 55 = .ok (.iload 5, 2) := by decide +kernel
theorem dX4_right_57 : decode cX4_right 57 = .ok (.if_icmp .le 13, 3) := by decide +kernel
theorem dX4_right_60 : decode cX4_right 60 = .ok (.new 83, 3) := by decide +kernel
theorem dX4_right_63 : decode cX4_right 63 = .ok (.dup, 1) := by decide +kernel
theorem dX4_right_64 : decode cX4_right 64 = .ok (.ldc 91, 2) := by decide +kernel
theorem dX4_right_66 : decode cX4_right 66 = .ok (.invokespecial 87, 3) := by decide +kernel
theorem dX4_right_69 : decode cX4_right 69 = .ok (.athrow, 1) := by decide +kernel
theorem dX4_right_70 : decode cX4_right 70 = .ok (.aload_n 0, 1) := by decide +kernel
theorem dX4_right_71 : decode cX4_right 71 = .ok (.getfield 41, 3) := by decide +kernel
theorem dX4_right_74 : decode cX4_right 74 = .ok (.getfield 93, 3) := by decide +kernel
theorem dX4_right_77 : decode cX4_right 77 = .ok (.bipush 60, 2) := by decide +kernel
theorem dX4_right_79 : decode cX4_right 79 = .ok (.if_icmp .lt 13, 3) := by decide +kernel
theorem dX4_right_82 : decode cX4_right 82 = .ok (.new 66, 3) := by decide +kernel
theorem dX4_right_85 : decode cX4_right 85 = .ok (.dup, 1) := by decide +kernel
theorem dX4_right_86 : decode cX4_right 86 = .ok (.ldc 96, 2) := by decide +kernel
theorem dX4_right_88 : decode cX4_right 88 = .ok (.invokespecial 70, 3) := by decide +kernel
theorem dX4_right_91 : decode cX4_right 91 = .ok (.athrow, 1) := by decide +kernel
theorem dX4_right_92 : decode cX4_right 92 = .ok (.aload_n 0, 1) := by decide +kernel
theorem dX4_right_93 : decode cX4_right 93 = .ok (.getfield 41, 3) := by decide +kernel
theorem dX4_right_96 : decode cX4_right 96 = .ok (.iload_n 1, 1) := by decide +kernel
theorem dX4_right_97 : decode cX4_right 97 = .ok (.iload_n 2, 1) := by decide +kernel
theorem dX4_right_98 : decode cX4_right 98 = .ok (.iload_n 3, 1) := by decide +kernel
theorem dX4_right_99 : decode cX4_right 99 = .ok (.iload 4, 2) := by decide +kernel
theorem dX4_right_101 : decode cX4_right 101 = .ok (.iload 5, 2) := by decide +kernel
theorem dX4_right_103 : decode cX4_right 103 = .ok (.invokevirtual 98, 3) := by decide +kernel
theorem dX4_right_106 : decode cX4_right 106 = .ok (.aload_n 0, 1) := by decide +kernel
theorem dX4_right_107 : decode cX4_right 107 = .ok (.getfield 41, 3) := by decide +kernel
theorem dX4_right_110 : decode cX4_right 110 = .ok (.getfield 93, 3) := by decide +kernel
theorem dX4_right_113 : decode cX4_right 113 = .ok (.ireturn, 1) := by decide +kernel
theorem dX4_forbid_0 : decode cX4_forbid 0 = .ok (.aload_n 0, 1) := by decide +kernel
theorem dX4_forbid_1 : decode cX4_forbid 1 = .ok (.iload_n 1, 1) := by decide +kernel
theorem dX4_forbid_2 : decode cX4_forbid 2 = .ok (.invokevirtual 73, 3) := by decide +kernel
theorem dX4_forbid_5 : decode cX4_forbid 5 = .ok (.ifCond .eq 20, 3) := by decide +kernel
theorem dX4_forbid_8 : decode cX4_forbid 8 = .ok (.iload_n 2, 1) := by decide +kernel
theorem dX4_forbid_9 : decode cX4_forbid 9 = .ok (.invokestatic 77, 3) := by decide +kernel
theorem dX4_forbid_12 : decode cX4_forbid 12 = .ok (.ifCond .eq 13, 3) := by decide +kernel
theorem dX4_forbid_15 : decode cX4_forbid 15 = .ok (.aload_n 0, 1) := by decide +kernel
theorem dX4_forbid_16 : decode cX4_forbid 16 = .ok (.iload_n 1, 1) := by decide +kernel
theorem dX4_forbid_17 : decode cX4_forbid 17 = .ok (.iload_n 2, 1) := by decide +kernel
theorem dX4_forbid_18 : decode cX4_forbid 18 = .ok (.invokevirtual 102, 3) := by decide +kernel
theorem dX4_forbid_21 : decode cX4_forbid 21 = .ok (.iload_n 3, 1) := by decide +kernel
theorem dX4_forbid_22 : decode cX4_forbid 22 = .ok (.if_icmp .ne 5, 3) := by decide +kernel
theorem dX4_forbid_25 : decode cX4_forbid 25 = .ok (.iconst 0, 1) := by decide +kernel
theorem dX4_forbid_26 : decode cX4_forbid 26 = .ok (.ireturn, 1) := by decide +kernel
theorem dX4_forbid_27 : decode cX4_forbid 27 = .ok (.aload_n 0, 1) := by decide +kernel
theorem dX4_forbid_28 : decode cX4_forbid 28 = .ok (.getfield 20, 3) := by decide +kernel
theorem dX4_forbid_31 : decode cX4_forbid 31 = .ok (.iload_n 1, 1) := by decide +kernel
theorem dX4_forbid_32 : decode cX4_forbid 32 = .ok (.aload_n 0, 1) := by decide +kernel
theorem dX4_forbid_33 : decode cX4_forbid 33 = .ok (.getfield 20, 3) := by decide +kernel
theorem dX4_forbid_36 : decode cX4_forbid 36 = .ok (.iload_n 1, 1) := by decide +kernel
theorem dX4_forbid_37 : decode cX4_forbid 37 = .ok (.iaload, 1) := by decide +kernel
theorem dX4_forbid_38 : decode cX4_forbid 38 = .ok (.iload_n 2, 1) := by decide +kernel
theorem dX4_forbid_39 : decode cX4_forbid 39 = .ok (.invokestatic 106, 3) := by decide +kernel
theorem dX4_forbid_42 : decode cX4_forbid 42 = .ok (.ixor, 1) := by decide +kernel
theorem dX4_forbid_43 : decode cX4_forbid 43 = .ok (.iastore, 1) := by decide +kernel
theorem dX4_forbid_44 : decode cX4_forbid 44 = .ok (.iconst 1, 1) := by decide +kernel
theorem dX4_forbid_45 : decode cX4_forbid 45 = .ok (.ireturn, 1) := by decide +kernel
theorem dX4_group_0 : decode cX4_group 0 = .ok (.aload_n 0, 1) := by decide +kernel
theorem dX4_group_1 : decode cX4_group 1 = .ok (.iload_n 1, 1) := by decide +kernel
theorem dX4_group_2 : decode cX4_group 2 = .ok (.iload_n 2, 1) := by decide +kernel
theorem dX4_group_3 : decode cX4_group 3 = .ok (.invokevirtual 110, 3) := by decide +kernel
theorem dX4_group_6 : decode cX4_group 6 = .ok (.ifCond .ne 13, 3) := by decide +kernel
theorem dX4_group_9 : decode cX4_group 9 = .ok (.new 83, 3) := by decide +kernel
theorem dX4_group_12 : decode cX4_group 12 = .ok (.dup, 1) := by decide +kernel
theorem dX4_group_13 : decode cX4_group 13 = .ok (.ldc 113, 2) := by decide +kernel
theorem dX4_group_15 : decode cX4_group 15 = .ok (.invokespecial 87, 3) := by decide +kernel
theorem dX4_group_18 : decode cX4_group 18 = .ok (.athrow, 1) := by decide +kernel
theorem dX4_group_19 : decode cX4_group 19 = .ok (.aload_n 0, 1) := by decide +kernel
theorem dX4_group_20 : decode cX4_group 20 = .ok (.getfield 16, 3) := by decide +kernel
theorem dX4_group_23 : decode cX4_group 23 = .ok (.iload_n 1, 1) := by decide +kernel
theorem dX4_group_24 : decode cX4_group 24 = .ok (.iaload, 1) := by decide +kernel
theorem dX4_group_25 : decode cX4_group 25 = .ok (.istore_n 3, 1) := by decide +kernel
theorem dX4_group_26 : decode cX4_group 26 = .ok (.aload_n 0, 1) := by decide +kernel
theorem dX4_group_27 : decode cX4_group 27 = .ok (.iload_n 2, 1) := by decide +kernel
theorem dX4_group_28 : decode cX4_group 28 = .ok (.aload_n 0, 1) := by decide +kernel
theorem dX4_group_29 : decode cX4_group 29 = .ok (.invokevirtual 115, 3) := by decide +kernel
theorem dX4_group_32 : decode cX4_group 32 = .ok (.invokevirtual 119, 3) := by decide +kernel
theorem dX4_group_35 : decode cX4_group 35 = .ok (.iload_n 1, 1) := by decide +kernel
theorem dX4_group_36 : decode cX4_group 36 = .ok (.invokestatic 123, 3) := by decide +kernel
theorem dX4_group_39 : decode cX4_group 39 = .ok (.istore 4, 2) := by decide +kernel
theorem dX4_group_41 : decode cX4_group 41 = .ok (.iload_n 3, 1) := by decide +kernel
theorem dX4_group_42 : decode cX4_group 42 = .ok (.iload_n 2, 1) := by decide +kernel
theorem dX4_group_43 : decode cX4_group 43 = .ok (.invokestatic 123, 3) := by decide +kernel
theorem dX4_group_46 : decode cX4_group 46 = .ok (.ifCond .ne 16, 3) := by decide +kernel
theorem dX4_group_49 : decode cX4_group 49 = .ok (.iload 4, 2) := by decide +kernel
theorem dX4_group_51 : decode cX4_group 51 = .ok (.ifCond .ne 11, 3) := by decide +kernel
theorem dX4_group_54 : decode cX4_group 54 = .ok (.iload_n 3, 1) := by decide +kernel
theorem dX4_group_55 : decode cX4_group 55 = .ok (.invokestatic 126, 3) := by decide +kernel
theorem dX4_group_58 : decode cX4_group 58 = .ok (.iconst 4, 1) := by decide +kernel
theorem dX4_group_59 : decode cX4_group 59 = .ok (.if_icmp .lt 5, 3) := by decide +kernel
theorem dX4_group_62 : decode cX4_group 62 = .ok (.iconst 0, 1) := by decide +kernel
theorem dX4_group_63 : decode cX4_group 63 = .ok (.ireturn, 1) := by decide +kernel
theorem dX4_group_64 : decode cX4_group 64 = .ok (.aload_n 0, 1) := by decide +kernel
theorem dX4_group_65 : decode cX4_group 65 = .ok (.getfield 16, 3) := by decide +kernel
theorem dX4_group_68 : decode cX4_group 68 = .ok (.iload_n 1, 1) := by decide +kernel
theorem dX4_group_69 : decode cX4_group 69 = .ok (.iload_n 3, 1) := by decide +kernel
theorem dX4_group_70 : decode cX4_group 70 = .ok (.iload_n 2, 1) := by decide +kernel
theorem dX4_group_71 : decode cX4_group 71 = .ok (.invokestatic 106, 3) := by decide +kernel
theorem dX4_group_74 : decode cX4_group 74 = .ok (.ior, 1) := by decide +kernel
theorem dX4_group_75 : decode cX4_group 75 = .ok (.iastore, 1) := by decide +kernel
theorem dX4_group_76 : decode cX4_group 76 = .ok (.iconst 1, 1) := by decide +kernel
theorem dX4_group_77 : decode cX4_group 77 = .ok (.ireturn, 1) := by decide +kernel
theorem dX4_deputy_0 : decode cX4_deputy 0 = .ok (.aload_n 0, 1) := by decide +kernel
theorem dX4_deputy_1 : decode cX4_deputy 1 = .ok (.iload_n 1, 1) := by decide +kernel
theorem dX4_deputy_2 : decode cX4_deputy 2 = .ok (.iload_n 2, 1) := by decide +kernel
theorem dX4_deputy_3 : decode cX4_deputy 3 = .ok (.invokevirtual 110, 3) := by decide +kernel
theorem dX4_deputy_6 : decode cX4_deputy 6 = .ok (.ifCond .ne 13, 3) := by decide +kernel
theorem dX4_deputy_9 : decode cX4_deputy 9 = .ok (.new 83, 3) := by decide +kernel
theorem dX4_deputy_12 : decode cX4_deputy 12 = .ok (.dup, 1) := by decide +kernel
theorem dX4_deputy_13 : decode cX4_deputy 13 = .ok (.ldc 113, 2) := by decide +kernel
theorem dX4_deputy_15 : decode cX4_deputy 15 = .ok (.invokespecial 87, 3) := by decide +kernel
theorem dX4_deputy_18 : decode cX4_deputy 18 = .ok (.athrow, 1) := by decide +kernel
theorem dX4_deputy_19 : decode cX4_deputy 19 = .ok (.aload_n 0, 1) := by decide +kernel
theorem dX4_deputy_20 : decode cX4_deputy 20 = .ok (.iload_n 1, 1) := by decide +kernel
theorem dX4_deputy_21 : decode cX4_deputy 21 = .ok (.invokevirtual 131, 3) := by decide +kernel
theorem dX4_deputy_24 : decode cX4_deputy 24 = .ok (.ifCond .ne 11, 3) := by decide +kernel
theorem dX4_deputy_27 : decode cX4_deputy 27 = .ok (.aload_n 0, 1) := by decide +kernel
theorem dX4_deputy_28 : decode cX4_deputy 28 = .ok (.iload_n 2, 1) := by decide +kernel
theorem dX4_deputy_29 : decode cX4_deputy 29 = .ok (.invokevirtual 131, 3) := by decide +kernel
theorem dX4_deputy_32 : decode cX4_deputy 32 = .ok (.ifCond .eq 5, 3) := by decide +kernel
theorem dX4_deputy_35 : decode cX4_deputy 35 = .ok (.iconst 0, 1) := by decide +kernel
theorem dX4_deputy_36 : decode cX4_deputy 36 = .ok (.ireturn, 1) := by decide +kernel
theorem dX4_deputy_37 : decode cX4_deputy 37 = .ok (.aload_n 0, 1) := by decide +kernel
theorem dX4_deputy_38 : decode cX4_deputy 38 = .ok (.getfield 23, 3) := by decide +kernel
theorem dX4_deputy_41 : decode cX4_deputy 41 = .ok (.iload_n 1, 1) := by decide +kernel
theorem dX4_deputy_42 : decode cX4_deputy 42 = .ok (.iload_n 2, 1) := by decide +kernel
theorem dX4_deputy_43 : decode cX4_deputy 43 = .ok (.iastore, 1) := by decide +kernel
theorem dX4_deputy_44 : decode cX4_deputy 44 = .ok (.aload_n 0, 1) := by decide +kernel
theorem dX4_deputy_45 : decode cX4_deputy 45 = .ok (.getfield 26, 3) := by decide +kernel
theorem dX4_deputy_48 : decode cX4_deputy 48 = .ok (.iload_n 2, 1) := by decide +kernel
theorem dX4_deputy_49 : decode cX4_deputy 49 = .ok (.iload_n 1, 1) := by decide +kernel
theorem dX4_deputy_50 : decode cX4_deputy 50 = .ok (.iastore, 1) := by decide +kernel
theorem dX4_deputy_51 : decode cX4_deputy 51 = .ok (.iconst 1, 1) := by decide +kernel
theorem dX4_deputy_52 : decode cX4_deputy 52 = .ok (.ireturn, 1) := by decide +kernel
theorem dX4_mandate_0 : decode cX4_mandate 0 = .ok (.aload_n 0, 1) := by decide +kernel
theorem dX4_mandate_1 : decode cX4_mandate 1 = .ok (.iload_n 1, 1) := by decide +kernel
theorem dX4_mandate_2 : decode cX4_mandate 2 = .ok (.iload_n 2, 1) := by decide +kernel
theorem dX4_mandate_3 : decode cX4_mandate 3 = .ok (.invokevirtual 110, 3) := by decide +kernel
theorem dX4_mandate_6 : decode cX4_mandate 6 = .ok (.ifCond .ne 13, 3) := by decide +kernel
theorem dX4_mandate_9 : decode cX4_mandate 9 = .ok (.new 83, 3) := by decide +kernel
theorem dX4_mandate_12 : decode cX4_mandate 12 = .ok (.dup, 1) := by decide +kernel
theorem dX4_mandate_13 : decode cX4_mandate 13 = .ok (.ldc 113, 2) := by decide +kernel
theorem dX4_mandate_15 : decode cX4_mandate 15 = .ok (.invokespecial 87, 3) := by decide +kernel
theorem dX4_mandate_18 : decode cX4_mandate 18 = .ok (.athrow, 1) := by decide +kernel
theorem dX4_mandate_19 : decode cX4_mandate 19 = .ok (.iload 4, 2) := by decide +kernel
theorem dX4_mandate_21 : decode cX4_mandate 21 = .ok (.invokestatic 88, 3) := by decide +kernel
theorem dX4_mandate_24 : decode cX4_mandate 24 = .ok (.ifCond .ne 13, 3) := by decide +kernel
theorem dX4_mandate_27 : decode cX4_mandate 27 = .ok (.new 83, 3) := by decide +kernel
theorem dX4_mandate_30 : decode cX4_mandate 30 = .ok (.dup, 1) := by decide +kernel
theorem dX4_mandate_31 : decode cX4_mandate 31 = .ok (.ldc 134, 2) := by decide +kernel
theorem dX4_mandate_33 : decode cX4_mandate 33 = .ok (.invokespecial 87, 3) := by decide +kernel
theorem dX4_mandate_36 : decode cX4_mandate 36 = .ok (.athrow, 1) := by decide +kernel
theorem dX4_mandate_37 : decode cX4_mandate 37 = .ok (.aload_n 0, 1) := by decide +kernel
theorem dX4_mandate_38 : decode cX4_mandate 38 = .ok (.getfield 48, 3) := by decide +kernel
theorem dX4_mandate_41 : decode cX4_mandate 41 = .ok (.getfield 136, 3) := by decide +kernel
theorem dX4_mandate_44 : decode cX4_mandate 44 = .ok (.bipush 60, 2) := by decide +kernel
theorem dX4_mandate_46 : decode cX4_mandate 46 = .ok (.if_icmp .lt 13, 3) := by decide +kernel
theorem dX4_mandate_49 : decode cX4_mandate 49 = .ok (.new 66, 3) := by decide +kernel
theorem dX4_mandate_52 : decode cX4_mandate 52 = .ok (.dup, 1) := by decide +kernel
theorem dX4_mandate_53 : decode cX4_mandate 53 = .ok (.ldc 137, 2) := by decide +kernel
theorem dX4_mandate_55 : decode cX4_mandate 55 = .ok (.invokespecial 70, 3) := by decide +kernel
theorem dX4_mandate_58 : decode cX4_mandate 58 = .ok (.athrow, 1) := by decide +kernel
theorem dX4_mandate_59 : decode cX4_mandate 59 = .ok (.aload_n 0, 1) := by decide +kernel
theorem dX4_mandate_60 : decode cX4_mandate 60 = .ok (.getfield 48, 3) := by decide +kernel
theorem dX4_mandate_63 : decode cX4_mandate 63 = .ok (.iload_n 1, 1) := by decide +kernel
theorem dX4_mandate_64 : decode cX4_mandate 64 = .ok (.iload_n 2, 1) := by decide +kernel
theorem dX4_mandate_65 : decode cX4_mandate 65 = .ok (.iload_n 3, 1) := by decide +kernel
theorem dX4_mandate_66 : decode cX4_mandate 66 = .ok (.iload 4, 2) := by decide +kernel
theorem dX4_mandate_68 : decode cX4_mandate 68 = .ok (.invokevirtual 139, 3) := by decide +kernel
theorem dX4_mandate_71 : decode cX4_mandate 71 = .ok (.aload_n 0, 1) := by decide +kernel
theorem dX4_mandate_72 : decode cX4_mandate 72 = .ok (.getfield 48, 3) := by decide +kernel
theorem dX4_mandate_75 : decode cX4_mandate 75 = .ok (.getfield 136, 3) := by decide +kernel
theorem dX4_mandate_78 : decode cX4_mandate 78 = .ok (.ireturn, 1) := by decide +kernel
theorem dX4_suspend_0 : decode cX4_suspend 0 = .ok (.aload_n 0, 1) := by decide +kernel
theorem dX4_suspend_1 : decode cX4_suspend 1 = .ok (.iload_n 1, 1) := by decide +kernel
theorem dX4_suspend_2 : decode cX4_suspend 2 = .ok (.invokevirtual 73, 3) := by decide +kernel
theorem dX4_suspend_5 : decode cX4_suspend 5 = .ok (.ifCond .eq 10, 3) := by decide +kernel
theorem dX4_suspend_8 : decode cX4_suspend 8 = .ok (.iload_n 2, 1) := by decide +kernel
theorem dX4_suspend_9 : decode cX4_suspend 9 = .ok (.invokestatic 88, 3) := by decide +kernel
theorem dX4_suspend_12 : decode cX4_suspend 12 = .ok (.ifCond .ne 13, 3) := by decide +kernel
theorem dX4_suspend_15 : decode cX4_suspend 15 = .ok (.new 83, 3) := by decide +kernel
theorem dX4_suspend_18 : decode cX4_suspend 18 = .ok (.dup, 1) := by decide +kernel
theorem dX4_suspend_19 : decode cX4_suspend 19 = .ok (.ldc 142, 2) := by decide +kernel
theorem dX4_suspend_21 : decode cX4_suspend 21 = .ok (.invokespecial 87, 3) := by decide +kernel
theorem dX4_suspend_24 : decode cX4_suspend 24 = .ok (.athrow, 1) := by decide +kernel
theorem dX4_suspend_25 : decode cX4_suspend 25 = .ok (.aload_n 0, 1) := by decide +kernel
theorem dX4_suspend_26 : decode cX4_suspend 26 = .ok (.getfield 55, 3) := by decide +kernel
theorem dX4_suspend_29 : decode cX4_suspend 29 = .ok (.getfield 144, 3) := by decide +kernel
theorem dX4_suspend_32 : decode cX4_suspend 32 = .ok (.bipush 60, 2) := by decide +kernel
theorem dX4_suspend_34 : decode cX4_suspend 34 = .ok (.if_icmp .lt 13, 3) := by decide +kernel
theorem dX4_suspend_37 : decode cX4_suspend 37 = .ok (.new 66, 3) := by decide +kernel
theorem dX4_suspend_40 : decode cX4_suspend 40 = .ok (.dup, 1) := by decide +kernel
theorem dX4_suspend_41 : decode cX4_suspend 41 = .ok (.ldc 145, 2) := by decide +kernel
theorem dX4_suspend_43 : decode cX4_suspend 43 = .ok (.invokespecial 70, 3) := by decide +kernel
theorem dX4_suspend_46 : decode cX4_suspend 46 = .ok (.athrow, 1) := by decide +kernel
theorem dX4_suspend_47 : decode cX4_suspend 47 = .ok (.aload_n 0, 1) := by decide +kernel
theorem dX4_suspend_48 : decode cX4_suspend 48 = .ok (.getfield 55, 3) := by decide +kernel
theorem dX4_suspend_51 : decode cX4_suspend 51 = .ok (.iload_n 1, 1) := by decide +kernel
theorem dX4_suspend_52 : decode cX4_suspend 52 = .ok (.iload_n 2, 1) := by decide +kernel
theorem dX4_suspend_53 : decode cX4_suspend 53 = .ok (.iload_n 3, 1) := by decide +kernel
theorem dX4_suspend_54 : decode cX4_suspend 54 = .ok (.invokevirtual 147, 3) := by decide +kernel
theorem dX4_suspend_57 : decode cX4_suspend 57 = .ok (.aload_n 0, 1) := by decide +kernel
theorem dX4_suspend_58 : decode cX4_suspend 58 = .ok (.getfield 55, 3) := by decide +kernel
theorem dX4_suspend_61 : decode cX4_suspend 61 = .ok (.getfield 144, 3) := by decide +kernel
theorem dX4_suspend_64 : decode cX4_suspend 64 = .ok (.ireturn, 1) := by decide +kernel
theorem dX4_end_0 : decode cX4_end 0 = .ok (.aload_n 0, 1) := by decide +kernel
theorem dX4_end_1 : decode cX4_end 1 = .ok (.iload_n 1, 1) := by decide +kernel
theorem dX4_end_2 : decode cX4_end 2 = .ok (.invokevirtual 73, 3) := by decide +kernel
theorem dX4_end_5 : decode cX4_end 5 = .ok (.ifCond .eq 20, 3) := by decide +kernel
theorem dX4_end_8 : decode cX4_end 8 = .ok (.iload_n 2, 1) := by decide +kernel
theorem dX4_end_9 : decode cX4_end 9 = .ok (.invokestatic 88, 3) := by decide +kernel
theorem dX4_end_12 : decode cX4_end 12 = .ok (.ifCond .eq 13, 3) := by decide +kernel
theorem dX4_end_15 : decode cX4_end 15 = .ok (.aload_n 0, 1) := by decide +kernel
theorem dX4_end_16 : decode cX4_end 16 = .ok (.getfield 29, 3) := by decide +kernel
theorem dX4_end_19 : decode cX4_end 19 = .ok (.iload_n 1, 1) := by decide +kernel
theorem dX4_end_20 : decode cX4_end 20 = .ok (.iaload, 1) := by decide +kernel
theorem dX4_end_21 : decode cX4_end 21 = .ok (.iconst (-1), 1) := by decide +kernel
theorem dX4_end_22 : decode cX4_end 22 = .ok (.if_icmp .eq 5, 3) := by decide +kernel
theorem dX4_end_25 : decode cX4_end 25 = .ok (.iconst 0, 1) := by decide +kernel
theorem dX4_end_26 : decode cX4_end 26 = .ok (.ireturn, 1) := by decide +kernel
theorem dX4_end_27 : decode cX4_end 27 = .ok (.aload_n 0, 1) := by decide +kernel
theorem dX4_end_28 : decode cX4_end 28 = .ok (.getfield 29, 3) := by decide +kernel
theorem dX4_end_31 : decode cX4_end 31 = .ok (.iload_n 1, 1) := by decide +kernel
theorem dX4_end_32 : decode cX4_end 32 = .ok (.iload_n 2, 1) := by decide +kernel
theorem dX4_end_33 : decode cX4_end 33 = .ok (.iastore, 1) := by decide +kernel
theorem dX4_end_34 : decode cX4_end 34 = .ok (.iconst 1, 1) := by decide +kernel
theorem dX4_end_35 : decode cX4_end 35 = .ok (.ireturn, 1) := by decide +kernel
theorem dX4_may_0 : decode cX4_may 0 = .ok (.aload_n 0, 1) := by decide +kernel
theorem dX4_may_1 : decode cX4_may 1 = .ok (.iload_n 1, 1) := by decide +kernel
theorem dX4_may_2 : decode cX4_may 2 = .ok (.invokevirtual 73, 3) := by decide +kernel
theorem dX4_may_5 : decode cX4_may 5 = .ok (.ifCond .eq 25, 3) := by decide +kernel
theorem dX4_may_8 : decode cX4_may 8 = .ok (.iload_n 2, 1) := by decide +kernel
theorem dX4_may_9 : decode cX4_may 9 = .ok (.invokestatic 77, 3) := by decide +kernel
theorem dX4_may_12 : decode cX4_may 12 = .ok (.ifCond .eq 18, 3) := by decide +kernel
theorem dX4_may_15 : decode cX4_may 15 = .ok (.iload_n 3, 1) := by decide +kernel
theorem dX4_may_16 : decode cX4_may 16 = .ok (.invokestatic 80, 3) := by decide +kernel
theorem dX4_may_19 : decode cX4_may 19 = .ok (.ifCond .eq 11, 3) := by decide +kernel
theorem dX4_may_22 : decode cX4_may 22 = .ok (.iload 4, 2) := by decide +kernel
theorem dX4_may_24 : decode cX4_may 24 = .ok (.invokestatic 88, 3) := by decide +kernel
theorem dX4_may_27 : decode cX4_may 27 = .ok (.ifCond .ne 5, 3) := by decide +kernel
theorem dX4_may_30 : decode cX4_may 30 = .ok (.iconst 1, 1) := by decide +kernel
theorem dX4_may_31 : decode cX4_may 31 = .ok (.ireturn, 1) := by decide +kernel
theorem dX4_may_32 : decode cX4_may 32 = .ok (.aload_n 0, 1) := by decide +kernel
theorem dX4_may_33 : decode cX4_may 33 = .ok (.iload_n 1, 1) := by decide +kernel
theorem dX4_may_34 : decode cX4_may 34 = .ok (.iload 4, 2) := by decide +kernel
theorem dX4_may_36 : decode cX4_may 36 = .ok (.invokevirtual 150, 3) := by decide +kernel
theorem dX4_may_39 : decode cX4_may 39 = .ok (.ifCond .eq 5, 3) := by decide +kernel
theorem dX4_may_42 : decode cX4_may 42 = .ok (.iconst 2, 1) := by decide +kernel
theorem dX4_may_43 : decode cX4_may 43 = .ok (.ireturn, 1) := by decide +kernel
theorem dX4_may_44 : decode cX4_may 44 = .ok (.aload_n 0, 1) := by decide +kernel
theorem dX4_may_45 : decode cX4_may 45 = .ok (.getfield 55, 3) := by decide +kernel
theorem dX4_may_48 : decode cX4_may 48 = .ok (.iload_n 1, 1) := by decide +kernel
theorem dX4_may_49 : decode cX4_may 49 = .ok (.iload 4, 2) := by decide +kernel
theorem dX4_may_51 : decode cX4_may 51 = .ok (.invokevirtual 153, 3) := by decide +kernel
theorem dX4_may_54 : decode cX4_may 54 = .ok (.ifCond .eq 5, 3) := by decide +kernel
theorem dX4_may_57 : decode cX4_may 57 = .ok (.iconst 3, 1) := by decide +kernel
theorem dX4_may_58 : decode cX4_may 58 = .ok (.ireturn, 1) := by decide +kernel
theorem dX4_may_59 : decode cX4_may 59 = .ok (.aload_n 0, 1) := by decide +kernel
theorem dX4_may_60 : decode cX4_may 60 = .ok (.iload_n 1, 1) := by decide +kernel
theorem dX4_may_61 : decode cX4_may 61 = .ok (.iload_n 2, 1) := by decide +kernel
theorem dX4_may_62 : decode cX4_may 62 = .ok (.iload_n 3, 1) := by decide +kernel
theorem dX4_may_63 : decode cX4_may 63 = .ok (.iload 4, 2) := by decide +kernel
theorem dX4_may_65 : decode cX4_may 65 = .ok (.invokevirtual 156, 3) := by decide +kernel
theorem dX4_may_68 : decode cX4_may 68 = .ok (.ireturn, 1) := by decide +kernel
theorem dX4_two_0 : decode cX4_two 0 = .ok (.iload_n 1, 1) := by decide +kernel
theorem dX4_two_1 : decode cX4_two 1 = .ok (.invokestatic 77, 3) := by decide +kernel
theorem dX4_two_4 : decode cX4_two 4 = .ok (.ifCond .eq 12, 3) := by decide +kernel
theorem dX4_two_7 : decode cX4_two 7 = .ok (.aload_n 0, 1) := by decide +kernel
theorem dX4_two_8 : decode cX4_two 8 = .ok (.iload_n 1, 1) := by decide +kernel
theorem dX4_two_9 : decode cX4_two 9 = .ok (.invokevirtual 160, 3) := by decide +kernel
theorem dX4_two_12 : decode cX4_two 12 = .ok (.iload_n 2, 1) := by decide +kernel
theorem dX4_two_13 : decode cX4_two 13 = .ok (.if_icmp .ne 5, 3) := by decide +kernel
theorem dX4_two_16 : decode cX4_two 16 = .ok (.iconst 0, 1) := by decide +kernel
theorem dX4_two_17 : decode cX4_two 17 = .ok (.ireturn, 1) := by decide +kernel
theorem dX4_two_18 : decode cX4_two 18 = .ok (.aload_n 0, 1) := by decide +kernel
theorem dX4_two_19 : decode cX4_two 19 = .ok (.aload_n 0, 1) := by decide +kernel
theorem dX4_two_20 : decode cX4_two 20 = .ok (.getfield 13, 3) := by decide +kernel
theorem dX4_two_23 : decode cX4_two 23 = .ok (.iload_n 1, 1) := by decide +kernel
theorem dX4_two_24 : decode cX4_two 24 = .ok (.invokestatic 106, 3) := by decide +kernel
theorem dX4_two_27 : decode cX4_two 27 = .ok (.ixor, 1) := by decide +kernel
theorem dX4_two_28 : decode cX4_two 28 = .ok (.putfield 13, 3) := by decide +kernel
theorem dX4_two_31 : decode cX4_two 31 = .ok (.iconst 1, 1) := by decide +kernel
theorem dX4_two_32 : decode cX4_two 32 = .ok (.ireturn, 1) := by decide +kernel
theorem dX4_done_0 : decode cX4_done 0 = .ok (.aload_n 0, 1) := by decide +kernel
theorem dX4_done_1 : decode cX4_done 1 = .ok (.iload 4, 2) := by decide +kernel
theorem dX4_done_3 : decode cX4_done 3 = .ok (.iload_n 1, 1) := by decide +kernel
theorem dX4_done_4 : decode cX4_done 4 = .ok (.iload_n 2, 1) := by decide +kernel
theorem dX4_done_5 : decode cX4_done 5 = .ok (.iload_n 3, 1) := by decide +kernel
theorem dX4_done_6 : decode cX4_done 6 = .ok (.invokevirtual 163, 3) := by decide +kernel
theorem dX4_done_9 : decode cX4_done 9 = .ok (.ifCond .eq 5, 3) := by decide +kernel
theorem dX4_done_12 : decode cX4_done 12 = .ok (.iconst 1, 1) := by decide +kernel
theorem dX4_done_13 : decode cX4_done 13 = .ok (.ireturn, 1) := by decide +kernel
theorem dX4_done_14 : decode cX4_done 14 = .ok (.aload_n 0, 1) := by decide +kernel
theorem dX4_done_15 : decode cX4_done 15 = .ok (.iload_n 1, 1) := by decide +kernel
theorem dX4_done_16 : decode cX4_done 16 = .ok (.invokevirtual 160, 3) := by decide +kernel
theorem dX4_done_19 : decode cX4_done 19 = .ok (.ifCond .ne 5, 3) := by decide +kernel
theorem dX4_done_22 : decode cX4_done 22 = .ok (.iconst 0, 1) := by decide +kernel
theorem dX4_done_23 : decode cX4_done 23 = .ok (.ireturn, 1) := by decide +kernel
theorem dX4_done_24 : decode cX4_done 24 = .ok (.aload_n 0, 1) := by decide +kernel
theorem dX4_done_25 : decode cX4_done 25 = .ok (.iload 5, 2) := by decide +kernel
theorem dX4_done_27 : decode cX4_done 27 = .ok (.iload_n 1, 1) := by decide +kernel
theorem dX4_done_28 : decode cX4_done 28 = .ok (.iload_n 2, 1) := by decide +kernel
theorem dX4_done_29 : decode cX4_done 29 = .ok (.iload_n 3, 1) := by decide +kernel
theorem dX4_done_30 : decode cX4_done 30 = .ok (.invokevirtual 163, 3) := by decide +kernel
theorem dX4_done_33 : decode cX4_done 33 = .ok (.ifCond .eq 5, 3) := by decide +kernel
theorem dX4_done_36 : decode cX4_done 36 = .ok (.iconst 2, 1) := by decide +kernel
theorem dX4_done_37 : decode cX4_done 37 = .ok (.ireturn, 1) := by decide +kernel
theorem dX4_done_38 : decode cX4_done 38 = .ok (.iload 4, 2) := by decide +kernel
theorem dX4_done_40 : decode cX4_done 40 = .ok (.iload 5, 2) := by decide +kernel
theorem dX4_done_42 : decode cX4_done 42 = .ok (.if_icmp .eq 27, 3) := by decide +kernel
theorem dX4_done_45 : decode cX4_done 45 = .ok (.aload_n 0, 1) := by decide +kernel
theorem dX4_done_46 : decode cX4_done 46 = .ok (.getfield 23, 3) := by decide +kernel
theorem dX4_done_49 : decode cX4_done 49 = .ok (.iload 4, 2) := by decide +kernel
theorem dX4_done_51 : decode cX4_done 51 = .ok (.iaload, 1) := by decide +kernel
theorem dX4_done_52 : decode cX4_done 52 = .ok (.iload 5, 2) := by decide +kernel
theorem dX4_done_54 : decode cX4_done 54 = .ok (.if_icmp .eq 15, 3) := by decide +kernel
theorem dX4_done_57 : decode cX4_done 57 = .ok (.aload_n 0, 1) := by decide +kernel
theorem dX4_done_58 : decode cX4_done 58 = .ok (.getfield 23, 3) := by decide +kernel
theorem dX4_done_61 : decode cX4_done 61 = .ok (.iload 5, 2) := by decide +kernel
theorem dX4_done_63 : decode cX4_done 63 = .ok (.iaload, 1) := by decide +kernel
theorem dX4_done_64 : decode cX4_done 64 = .ok (.iload 4, 2) := by decide +kernel
theorem dX4_done_66 : decode cX4_done 66 = .ok (.if_icmp .ne 5, 3) := by decide +kernel
theorem dX4_done_69 : decode cX4_done 69 = .ok (.iconst 3, 1) := by decide +kernel
theorem dX4_done_70 : decode cX4_done 70 = .ok (.ireturn, 1) := by decide +kernel
theorem dX4_done_71 : decode cX4_done 71 = .ok (.iconst 0, 1) := by decide +kernel
theorem dX4_done_72 : decode cX4_done 72 = .ok (.ireturn, 1) := by decide +kernel
theorem dX4_letter_0 : decode cX4_letter 0 = .ok (.iload_n 1, 1) := by decide +kernel
theorem dX4_letter_1 : decode cX4_letter 1 = .ok (.ifCond .lt 9, 3) := by decide +kernel
theorem dX4_letter_4 : decode cX4_letter 4 = .ok (.iload_n 1, 1) := by decide +kernel
theorem dX4_letter_5 : decode cX4_letter 5 = .ok (.ldc 166, 2) := by decide +kernel
theorem dX4_letter_7 : decode cX4_letter 7 = .ok (.if_icmp .le 13, 3) := by decide +kernel
theorem dX4_letter_10 : decode cX4_letter 10 = .ok (.new 83, 3) := by decide +kernel
theorem dX4_letter_13 : decode cX4_letter 13 = .ok (.dup, 1) := by decide +kernel
theorem dX4_letter_14 : decode cX4_letter 14 = .ok (.ldc 167, 2) := by decide +kernel
theorem dX4_letter_16 : decode cX4_letter 16 = .ok (.invokespecial 87, 3) := by decide +kernel
theorem dX4_letter_19 : decode cX4_letter 19 = .ok (.athrow, 1) := by decide +kernel
theorem dX4_letter_20 : decode cX4_letter 20 = .ok (.iload_n 2, 1) := by decide +kernel
theorem dX4_letter_21 : decode cX4_letter 21 = .ok (.ifCond .lt 9, 3) := by decide +kernel
theorem dX4_letter_24 : decode cX4_letter 24 = .ok (.iload_n 2, 1) := by decide +kernel
theorem dX4_letter_25 : decode cX4_letter 25 = .ok (.bipush 7, 2) := by decide +kernel
theorem dX4_letter_27 : decode cX4_letter 27 = .ok (.if_icmp .lt 13, 3) := by decide +kernel
theorem dX4_letter_30 : decode cX4_letter 30 = .ok (.new 169, 3) := by decide +kernel
theorem dX4_letter_33 : decode cX4_letter 33 = .ok (.dup, 1) := by decide +kernel
theorem dX4_letter_34 : decode cX4_letter 34 = .ok (.ldc 171, 2) := by decide +kernel
theorem dX4_letter_36 : decode cX4_letter 36 = .ok (.invokespecial 173, 3) := by decide +kernel
theorem dX4_letter_39 : decode cX4_letter 39 = .ok (.athrow, 1) := by decide +kernel
theorem dX4_letter_40 : decode cX4_letter 40 = .ok (.bipush 65, 2) := by decide +kernel
theorem dX4_letter_42 : decode cX4_letter 42 = .ok (.iload_n 2, 1) := by decide +kernel
theorem dX4_letter_43 : decode cX4_letter 43 = .ok (.bipush 6, 2) := by decide +kernel
theorem dX4_letter_45 : decode cX4_letter 45 = .ok (.if_icmp .ge 11, 3) := by decide +kernel
theorem dX4_letter_48 : decode cX4_letter 48 = .ok (.iload_n 1, 1) := by decide +kernel
theorem dX4_letter_49 : decode cX4_letter 49 = .ok (.iload_n 2, 1) := by decide +kernel
theorem dX4_letter_50 : decode cX4_letter 50 = .ok (.invokestatic 174, 3) := by decide +kernel
theorem dX4_letter_53 : decode cX4_letter 53 = .ok (.goto 7, 3) := by decide +kernel
theorem dX4_letter_56 : decode cX4_letter 56 = .ok (.iload_n 1, 1) := by decide +kernel
theorem dX4_letter_57 : decode cX4_letter 57 = .ok (.invokestatic 177, 3) := by decide +kernel
theorem dX4_letter_60 : decode cX4_letter 60 = .ok (.iadd, 1) := by decide +kernel
theorem dX4_letter_61 : decode cX4_letter 61 = .ok (.ireturn, 1) := by decide +kernel
theorem dX4_check_0 : decode cX4_check 0 = .ok (.aload_n 0, 1) := by decide +kernel
theorem dX4_check_1 : decode cX4_check 1 = .ok (.getfield 62, 3) := by decide +kernel
theorem dX4_check_4 : decode cX4_check 4 = .ok (.iload_n 1, 1) := by decide +kernel
theorem dX4_check_5 : decode cX4_check 5 = .ok (.invokevirtual 180, 3) := by decide +kernel
theorem dX4_check_8 : decode cX4_check 8 = .ok (.ireturn, 1) := by decide +kernel
theorem dX4_certified_0 : decode cX4_certified 0 = .ok (.aload_n 0, 1) := by decide +kernel
theorem dX4_certified_1 : decode cX4_certified 1 = .ok (.getfield 62, 3) := by decide +kernel
theorem dX4_certified_4 : decode cX4_certified 4 = .ok (.getfield 183, 3) := by decide +kernel
theorem dX4_certified_7 : decode cX4_certified 7 = .ok (.ireturn, 1) := by decide +kernel
theorem dX4_look_0 : decode cX4_look 0 = .ok (.aload_n 0, 1) := by decide +kernel
theorem dX4_look_1 : decode cX4_look 1 = .ok (.iload_n 1, 1) := by decide +kernel
theorem dX4_look_2 : decode cX4_look 2 = .ok (.invokevirtual 73, 3) := by decide +kernel
theorem dX4_look_5 : decode cX4_look 5 = .ok (.ifCond .eq 13, 3) := by decide +kernel
theorem dX4_look_8 : decode cX4_look 8 = .ok (.iload_n 3, 1) := by decide +kernel
theorem dX4_look_9 : decode cX4_look 9 = .ok (.ifCond .lt 9, 3) := by decide +kernel
theorem dX4_look_12 : decode cX4_look 12 = .ok (.iload_n 3, 1) := by decide +kernel
theorem dX4_look_13 : decode cX4_look 13 = .ok (.bipush 7, 2) := by decide +kernel
theorem dX4_look_15 : decode cX4_look 15 = .ok (.if_icmp .lt 13, 3) := by decide +kernel
theorem dX4_look_18 : decode cX4_look 18 = .ok (.new 169, 3) := by decide +kernel
theorem dX4_look_21 : decode cX4_look 21 = .ok (.dup, 1) := by decide +kernel
theorem dX4_look_22 : decode cX4_look 22 = .ok (.ldc 186, 2) := by decide +kernel
theorem dX4_look_24 : decode cX4_look 24 = .ok (.invokespecial 173, 3) := by decide +kernel
theorem dX4_look_27 : decode cX4_look 27 = .ok (.athrow, 1) := by decide +kernel
theorem dX4_look_28 : decode cX4_look 28 = .ok (.iload_n 2, 1) := by decide +kernel
theorem dX4_look_29 : decode cX4_look 29 = .ok (.invokestatic 88, 3) := by decide +kernel
theorem dX4_look_32 : decode cX4_look 32 = .ok (.ifCond .ne 13, 3) := by decide +kernel
theorem dX4_look_35 : decode cX4_look 35 = .ok (.new 83, 3) := by decide +kernel
theorem dX4_look_38 : decode cX4_look 38 = .ok (.dup, 1) := by decide +kernel
theorem dX4_look_39 : decode cX4_look 39 = .ok (.ldc 134, 2) := by decide +kernel
theorem dX4_look_41 : decode cX4_look 41 = .ok (.invokespecial 87, 3) := by decide +kernel
theorem dX4_look_44 : decode cX4_look 44 = .ok (.athrow, 1) := by decide +kernel
theorem dX4_look_45 : decode cX4_look 45 = .ok (.iload_n 3, 1) := by decide +kernel
theorem dX4_look_46 : decode cX4_look 46 = .ok (.tableswitch 109 0 5 #[38, 53, 71, 85, 95, 102], 38) := by decide +kernel
theorem dX4_look_84 : decode cX4_look 84 = .ok (.aload_n 0, 1) := by decide +kernel
theorem dX4_look_85 : decode cX4_look 85 = .ok (.iload_n 1, 1) := by decide +kernel
theorem dX4_look_86 : decode cX4_look 86 = .ok (.iload_n 2, 1) := by decide +kernel
theorem dX4_look_87 : decode cX4_look 87 = .ok (.invokevirtual 150, 3) := by decide +kernel
theorem dX4_look_90 : decode cX4_look 90 = .ok (.ifCond .eq 7, 3) := by decide +kernel
theorem dX4_look_93 : decode cX4_look 93 = .ok (.iconst 1, 1) := by decide +kernel
theorem dX4_look_94 : decode cX4_look 94 = .ok (.goto 4, 3) := by decide +kernel
theorem dX4_look_97 : decode cX4_look 97 = .ok (.iconst 0, 1) := by decide +kernel
theorem dX4_look_98 : decode cX4_look 98 = .ok (.ireturn, 1) := by decide +kernel
theorem dX4_look_99 : decode cX4_look 99 = .ok (.aload_n 0, 1) := by decide +kernel
theorem dX4_look_100 : decode cX4_look 100 = .ok (.getfield 55, 3) := by decide +kernel
theorem dX4_look_103 : decode cX4_look 103 = .ok (.iload_n 1, 1) := by decide +kernel
theorem dX4_look_104 : decode cX4_look 104 = .ok (.iload_n 2, 1) := by decide +kernel
theorem dX4_look_105 : decode cX4_look 105 = .ok (.invokevirtual 153, 3) := by decide +kernel
theorem dX4_look_108 : decode cX4_look 108 = .ok (.ifCond .eq 7, 3) := by decide +kernel
theorem dX4_look_111 : decode cX4_look 111 = .ok (.iconst 1, 1) := by decide +kernel
theorem dX4_look_112 : decode cX4_look 112 = .ok (.goto 4, 3) := by decide +kernel
theorem dX4_look_115 : decode cX4_look 115 = .ok (.iconst 0, 1) := by decide +kernel
theorem dX4_look_116 : decode cX4_look 116 = .ok (.ireturn, 1) := by decide +kernel
theorem dX4_look_117 : decode cX4_look 117 = .ok (.aload_n 0, 1) := by decide +kernel
theorem dX4_look_118 : decode cX4_look 118 = .ok (.iload_n 1, 1) := by decide +kernel
theorem dX4_look_119 : decode cX4_look 119 = .ok (.aload_n 0, 1) := by decide +kernel
theorem dX4_look_120 : decode cX4_look 120 = .ok (.iload_n 2, 1) := by decide +kernel
theorem dX4_look_121 : decode cX4_look 121 = .ok (.invokevirtual 188, 3) := by decide +kernel
theorem dX4_look_124 : decode cX4_look 124 = .ok (.invokevirtual 119, 3) := by decide +kernel
theorem dX4_look_127 : decode cX4_look 127 = .ok (.invokestatic 126, 3) := by decide +kernel
theorem dX4_look_130 : decode cX4_look 130 = .ok (.ireturn, 1) := by decide +kernel
theorem dX4_look_131 : decode cX4_look 131 = .ok (.aload_n 0, 1) := by decide +kernel
theorem dX4_look_132 : decode cX4_look 132 = .ok (.iload_n 1, 1) := by decide +kernel
theorem dX4_look_133 : decode cX4_look 133 = .ok (.iload_n 2, 1) := by decide +kernel
theorem dX4_look_134 : decode cX4_look 134 = .ok (.invokevirtual 191, 3) := by decide +kernel
theorem dX4_look_137 : decode cX4_look 137 = .ok (.invokestatic 126, 3) := by decide +kernel
theorem dX4_look_140 : decode cX4_look 140 = .ok (.ireturn, 1) := by decide +kernel
theorem dX4_look_141 : decode cX4_look 141 = .ok (.aload_n 0, 1) := by decide +kernel
theorem dX4_look_142 : decode cX4_look 142 = .ok (.getfield 23, 3) := by decide +kernel
theorem dX4_look_145 : decode cX4_look 145 = .ok (.iload_n 1, 1) := by decide +kernel
theorem dX4_look_146 : decode cX4_look 146 = .ok (.iaload, 1) := by decide +kernel
theorem dX4_look_147 : decode cX4_look 147 = .ok (.ireturn, 1) := by decide +kernel
theorem dX4_look_148 : decode cX4_look 148 = .ok (.aload_n 0, 1) := by decide +kernel
theorem dX4_look_149 : decode cX4_look 149 = .ok (.getfield 26, 3) := by decide +kernel
theorem dX4_look_152 : decode cX4_look 152 = .ok (.iload_n 1, 1) := by decide +kernel
theorem dX4_look_153 : decode cX4_look 153 = .ok (.iaload, 1) := by decide +kernel
theorem dX4_look_154 : decode cX4_look 154 = .ok (.ireturn, 1) := by decide +kernel
theorem dX4_look_155 : decode cX4_look 155 = .ok (.aload_n 0, 1) := by decide +kernel
theorem dX4_look_156 : decode cX4_look 156 = .ok (.getfield 48, 3) := by decide +kernel
theorem dX4_look_159 : decode cX4_look 159 = .ok (.iload_n 1, 1) := by decide +kernel
theorem dX4_look_160 : decode cX4_look 160 = .ok (.iload_n 2, 1) := by decide +kernel
theorem dX4_look_161 : decode cX4_look 161 = .ok (.invokevirtual 194, 3) := by decide +kernel
theorem dX4_look_164 : decode cX4_look 164 = .ok (.ireturn, 1) := by decide +kernel
theorem dX4_count_0 : decode cX4_count 0 = .ok (.iload_n 1, 1) := by decide +kernel
theorem dX4_count_1 : decode cX4_count 1 = .ok (.tableswitch 81 0 5 #[39, 44, 52, 60, 68, 73], 39) := by decide +kernel
theorem dX4_count_40 : decode cX4_count 40 = .ok (.aload_n 0, 1) := by decide +kernel
theorem dX4_count_41 : decode cX4_count 41 = .ok (.getfield 7, 3) := by decide +kernel
theorem dX4_count_44 : decode cX4_count 44 = .ok (.ireturn, 1) := by decide +kernel
theorem dX4_count_45 : decode cX4_count 45 = .ok (.aload_n 0, 1) := by decide +kernel
theorem dX4_count_46 : decode cX4_count 46 = .ok (.getfield 41, 3) := by decide +kernel
theorem dX4_count_49 : decode cX4_count 49 = .ok (.getfield 93, 3) := by decide +kernel
theorem dX4_count_52 : decode cX4_count 52 = .ok (.ireturn, 1) := by decide +kernel
theorem dX4_count_53 : decode cX4_count 53 = .ok (.aload_n 0, 1) := by decide +kernel
theorem dX4_count_54 : decode cX4_count 54 = .ok (.getfield 48, 3) := by decide +kernel
theorem dX4_count_57 : decode cX4_count 57 = .ok (.getfield 136, 3) := by decide +kernel
theorem dX4_count_60 : decode cX4_count 60 = .ok (.ireturn, 1) := by decide +kernel
theorem dX4_count_61 : decode cX4_count 61 = .ok (.aload_n 0, 1) := by decide +kernel
theorem dX4_count_62 : decode cX4_count 62 = .ok (.getfield 55, 3) := by decide +kernel
theorem dX4_count_65 : decode cX4_count 65 = .ok (.getfield 144, 3) := by decide +kernel
theorem dX4_count_68 : decode cX4_count 68 = .ok (.ireturn, 1) := by decide +kernel
theorem dX4_count_69 : decode cX4_count 69 = .ok (.aload_n 0, 1) := by decide +kernel
theorem dX4_count_70 : decode cX4_count 70 = .ok (.getfield 13, 3) := by decide +kernel
theorem dX4_count_73 : decode cX4_count 73 = .ok (.ireturn, 1) := by decide +kernel
theorem dX4_count_74 : decode cX4_count 74 = .ok (.aload_n 0, 1) := by decide +kernel
theorem dX4_count_75 : decode cX4_count 75 = .ok (.getfield 62, 3) := by decide +kernel
theorem dX4_count_78 : decode cX4_count 78 = .ok (.getfield 197, 3) := by decide +kernel
theorem dX4_count_81 : decode cX4_count 81 = .ok (.ireturn, 1) := by decide +kernel
theorem dX4_count_82 : decode cX4_count 82 = .ok (.iconst (-1), 1) := by decide +kernel
theorem dX4_count_83 : decode cX4_count 83 = .ok (.ireturn, 1) := by decide +kernel
theorem dX4_isTrader_0 : decode cX4_isTrader 0 = .ok (.iload_n 1, 1) := by decide +kernel
theorem dX4_isTrader_1 : decode cX4_isTrader 1 = .ok (.ifCond .lt 15, 3) := by decide +kernel
theorem dX4_isTrader_4 : decode cX4_isTrader 4 = .ok (.iload_n 1, 1) := by decide +kernel
theorem dX4_isTrader_5 : decode cX4_isTrader 5 = .ok (.aload_n 0, 1) := by decide +kernel
theorem dX4_isTrader_6 : decode cX4_isTrader 6 = .ok (.getfield 7, 3) := by decide +kernel
theorem dX4_isTrader_9 : decode cX4_isTrader 9 = .ok (.if_icmp .ge 7, 3) := by decide +kernel
theorem dX4_isTrader_12 : decode cX4_isTrader 12 = .ok (.iconst 1, 1) := by decide +kernel
theorem dX4_isTrader_13 : decode cX4_isTrader 13 = .ok (.goto 4, 3) := by decide +kernel
theorem dX4_isTrader_16 : decode cX4_isTrader 16 = .ok (.iconst 0, 1) := by decide +kernel
theorem dX4_isTrader_17 : decode cX4_isTrader 17 = .ok (.ireturn, 1) := by decide +kernel
theorem dX4_areTwoTraders_0 : decode cX4_areTwoTraders 0 = .ok (.aload_n 0, 1) := by decide +kernel
theorem dX4_areTwoTraders_1 : decode cX4_areTwoTraders 1 = .ok (.iload_n 1, 1) := by decide +kernel
theorem dX4_areTwoTraders_2 : decode cX4_areTwoTraders 2 = .ok (.invokevirtual 73, 3) := by decide +kernel
theorem dX4_areTwoTraders_5 : decode cX4_areTwoTraders 5 = .ok (.ifCond .eq 20, 3) := by decide +kernel
theorem dX4_areTwoTraders_8 : decode cX4_areTwoTraders 8 = .ok (.aload_n 0, 1) := by decide +kernel
theorem dX4_areTwoTraders_9 : decode cX4_areTwoTraders 9 = .ok (.iload_n 2, 1) := by decide +kernel
theorem dX4_areTwoTraders_10 : decode cX4_areTwoTraders 10 = .ok (.invokevirtual 73, 3) := by decide +kernel
theorem dX4_areTwoTraders_13 : decode cX4_areTwoTraders 13 = .ok (.ifCond .eq 12, 3) := by decide +kernel
theorem dX4_areTwoTraders_16 : decode cX4_areTwoTraders 16 = .ok (.iload_n 1, 1) := by decide +kernel
theorem dX4_areTwoTraders_17 : decode cX4_areTwoTraders 17 = .ok (.iload_n 2, 1) := by decide +kernel
theorem dX4_areTwoTraders_18 : decode cX4_areTwoTraders 18 = .ok (.if_icmp .eq 7, 3) := by decide +kernel
theorem dX4_areTwoTraders_21 : decode cX4_areTwoTraders 21 = .ok (.iconst 1, 1) := by decide +kernel
theorem dX4_areTwoTraders_22 : decode cX4_areTwoTraders 22 = .ok (.goto 4, 3) := by decide +kernel
theorem dX4_areTwoTraders_25 : decode cX4_areTwoTraders 25 = .ok (.iconst 0, 1) := by decide +kernel
theorem dX4_areTwoTraders_26 : decode cX4_areTwoTraders 26 = .ok (.ireturn, 1) := by decide +kernel
theorem dX4_isAct_0 : decode cX4_isAct 0 = .ok (.iload_n 0, 1) := by decide +kernel
theorem dX4_isAct_1 : decode cX4_isAct 1 = .ok (.ifCond .lt 13, 3) := by decide +kernel
theorem dX4_isAct_4 : decode cX4_isAct 4 = .ok (.iload_n 0, 1) := by decide +kernel
theorem dX4_isAct_5 : decode cX4_isAct 5 = .ok (.bipush 8, 2) := by decide +kernel
theorem dX4_isAct_7 : decode cX4_isAct 7 = .ok (.if_icmp .ge 7, 3) := by decide +kernel
theorem dX4_isAct_10 : decode cX4_isAct 10 = .ok (.iconst 1, 1) := by decide +kernel
theorem dX4_isAct_11 : decode cX4_isAct 11 = .ok (.goto 4, 3) := by decide +kernel
theorem dX4_isAct_14 : decode cX4_isAct 14 = .ok (.iconst 0, 1) := by decide +kernel
theorem dX4_isAct_15 : decode cX4_isAct 15 = .ok (.ireturn, 1) := by decide +kernel
theorem dX4_isPlace_0 : decode cX4_isPlace 0 = .ok (.iload_n 0, 1) := by decide +kernel
theorem dX4_isPlace_1 : decode cX4_isPlace 1 = .ok (.ifCond .lt 13, 3) := by decide +kernel
theorem dX4_isPlace_4 : decode cX4_isPlace 4 = .ok (.iload_n 0, 1) := by decide +kernel
theorem dX4_isPlace_5 : decode cX4_isPlace 5 = .ok (.bipush 8, 2) := by decide +kernel
theorem dX4_isPlace_7 : decode cX4_isPlace 7 = .ok (.if_icmp .ge 7, 3) := by decide +kernel
theorem dX4_isPlace_10 : decode cX4_isPlace 10 = .ok (.iconst 1, 1) := by decide +kernel
theorem dX4_isPlace_11 : decode cX4_isPlace 11 = .ok (.goto 4, 3) := by decide +kernel
theorem dX4_isPlace_14 : decode cX4_isPlace 14 = .ok (.iconst 0, 1) := by decide +kernel
theorem dX4_isPlace_15 : decode cX4_isPlace 15 = .ok (.ireturn, 1) := by decide +kernel
theorem dX4_isDay_0 : decode cX4_isDay 0 = .ok (.iload_n 0, 1) := by decide +kernel
theorem dX4_isDay_1 : decode cX4_isDay 1 = .ok (.ifCond .lt 13, 3) := by decide +kernel
theorem dX4_isDay_4 : decode cX4_isDay 4 = .ok (.iload_n 0, 1) := by decide +kernel
theorem dX4_isDay_5 : decode cX4_isDay 5 = .ok (.ldc 200, 2) := by decide +kernel
theorem dX4_isDay_7 : decode cX4_isDay 7 = .ok (.if_icmp .gt 7, 3) := by decide +kernel
theorem dX4_isDay_10 : decode cX4_isDay 10 = .ok (.iconst 1, 1) := by decide +kernel
theorem dX4_isDay_11 : decode cX4_isDay 11 = .ok (.goto 4, 3) := by decide +kernel
theorem dX4_isDay_14 : decode cX4_isDay 14 = .ok (.iconst 0, 1) := by decide +kernel
theorem dX4_isDay_15 : decode cX4_isDay 15 = .ok (.ireturn, 1) := by decide +kernel
theorem dX4_bit_0 : decode cX4_bit 0 = .ok (.iconst 1, 1) := by decide +kernel
theorem dX4_bit_1 : decode cX4_bit 1 = .ok (.iload_n 0, 1) := by decide +kernel
theorem dX4_bit_2 : decode cX4_bit 2 = .ok (.ishl, 1) := by decide +kernel
theorem dX4_bit_3 : decode cX4_bit 3 = .ok (.ireturn, 1) := by decide +kernel
theorem dX4_holds_0 : decode cX4_holds 0 = .ok (.iload_n 0, 1) := by decide +kernel
theorem dX4_holds_1 : decode cX4_holds 1 = .ok (.iload_n 1, 1) := by decide +kernel
theorem dX4_holds_2 : decode cX4_holds 2 = .ok (.ishr, 1) := by decide +kernel
theorem dX4_holds_3 : decode cX4_holds 3 = .ok (.iconst 1, 1) := by decide +kernel
theorem dX4_holds_4 : decode cX4_holds 4 = .ok (.iand, 1) := by decide +kernel
theorem dX4_holds_5 : decode cX4_holds 5 = .ok (.ifCond .eq 7, 3) := by decide +kernel
theorem dX4_holds_8 : decode cX4_holds 8 = .ok (.iconst 1, 1) := by decide +kernel
theorem dX4_holds_9 : decode cX4_holds 9 = .ok (.goto 4, 3) := by decide +kernel
theorem dX4_holds_12 : decode cX4_holds 12 = .ok (.iconst 0, 1) := by decide +kernel
theorem dX4_holds_13 : decode cX4_holds 13 = .ok (.ireturn, 1) := by decide +kernel
theorem dX4_everyTrader_0 : decode cX4_everyTrader 0 = .ok (.aload_n 0, 1) := by decide +kernel
theorem dX4_everyTrader_1 : decode cX4_everyTrader 1 = .ok (.getfield 7, 3) := by decide +kernel
theorem dX4_everyTrader_4 : decode cX4_everyTrader 4 = .ok (.invokestatic 106, 3) := by decide +kernel
theorem dX4_everyTrader_7 : decode cX4_everyTrader 7 = .ok (.iconst 1, 1) := by decide +kernel
theorem dX4_everyTrader_8 : decode cX4_everyTrader 8 = .ok (.isub, 1) := by decide +kernel
theorem dX4_everyTrader_9 : decode cX4_everyTrader 9 = .ok (.ireturn, 1) := by decide +kernel
theorem dX4_isForbidden_0 : decode cX4_isForbidden 0 = .ok (.aload_n 0, 1) := by decide +kernel
theorem dX4_isForbidden_1 : decode cX4_isForbidden 1 = .ok (.getfield 20, 3) := by decide +kernel
theorem dX4_isForbidden_4 : decode cX4_isForbidden 4 = .ok (.iload_n 1, 1) := by decide +kernel
theorem dX4_isForbidden_5 : decode cX4_isForbidden 5 = .ok (.iaload, 1) := by decide +kernel
theorem dX4_isForbidden_6 : decode cX4_isForbidden 6 = .ok (.iload_n 2, 1) := by decide +kernel
theorem dX4_isForbidden_7 : decode cX4_isForbidden 7 = .ok (.invokestatic 123, 3) := by decide +kernel
theorem dX4_isForbidden_10 : decode cX4_isForbidden 10 = .ok (.ireturn, 1) := by decide +kernel
theorem dX4_needsTwo_0 : decode cX4_needsTwo 0 = .ok (.aload_n 0, 1) := by decide +kernel
theorem dX4_needsTwo_1 : decode cX4_needsTwo 1 = .ok (.getfield 13, 3) := by decide +kernel
theorem dX4_needsTwo_4 : decode cX4_needsTwo 4 = .ok (.iload_n 1, 1) := by decide +kernel
theorem dX4_needsTwo_5 : decode cX4_needsTwo 5 = .ok (.invokestatic 123, 3) := by decide +kernel
theorem dX4_needsTwo_8 : decode cX4_needsTwo 8 = .ok (.ireturn, 1) := by decide +kernel
theorem dX4_isInDeputyPair_0 : decode cX4_isInDeputyPair 0 = .ok (.aload_n 0, 1) := by decide +kernel
theorem dX4_isInDeputyPair_1 : decode cX4_isInDeputyPair 1 = .ok (.getfield 23, 3) := by decide +kernel
theorem dX4_isInDeputyPair_4 : decode cX4_isInDeputyPair 4 = .ok (.iload_n 1, 1) := by decide +kernel
theorem dX4_isInDeputyPair_5 : decode cX4_isInDeputyPair 5 = .ok (.iaload, 1) := by decide +kernel
theorem dX4_isInDeputyPair_6 : decode cX4_isInDeputyPair 6 = .ok (.iconst (-1), 1) := by decide +kernel
theorem dX4_isInDeputyPair_7 : decode cX4_isInDeputyPair 7 = .ok (.if_icmp .ne 13, 3) := by decide +kernel
theorem dX4_isInDeputyPair_10 : decode cX4_isInDeputyPair 10 = .ok (.aload_n 0, 1) := by decide +kernel
theorem dX4_isInDeputyPair_11 : decode cX4_isInDeputyPair 11 = .ok (.getfield 26, 3) := by decide +kernel
theorem dX4_isInDeputyPair_14 : decode cX4_isInDeputyPair 14 = .ok (.iload_n 1, 1) := by decide +kernel
theorem dX4_isInDeputyPair_15 : decode cX4_isInDeputyPair 15 = .ok (.iaload, 1) := by decide +kernel
theorem dX4_isInDeputyPair_16 : decode cX4_isInDeputyPair 16 = .ok (.iconst (-1), 1) := by decide +kernel
theorem dX4_isInDeputyPair_17 : decode cX4_isInDeputyPair 17 = .ok (.if_icmp .eq 7, 3) := by decide +kernel
theorem dX4_isInDeputyPair_20 : decode cX4_isInDeputyPair 20 = .ok (.iconst 1, 1) := by decide +kernel
theorem dX4_isInDeputyPair_21 : decode cX4_isInDeputyPair 21 = .ok (.goto 4, 3) := by decide +kernel
theorem dX4_isInDeputyPair_24 : decode cX4_isInDeputyPair 24 = .ok (.iconst 0, 1) := by decide +kernel
theorem dX4_isInDeputyPair_25 : decode cX4_isInDeputyPair 25 = .ok (.ireturn, 1) := by decide +kernel
theorem dX4_isEnded_0 : decode cX4_isEnded 0 = .ok (.aload_n 0, 1) := by decide +kernel
theorem dX4_isEnded_1 : decode cX4_isEnded 1 = .ok (.getfield 29, 3) := by decide +kernel
theorem dX4_isEnded_4 : decode cX4_isEnded 4 = .ok (.iload_n 1, 1) := by decide +kernel
theorem dX4_isEnded_5 : decode cX4_isEnded 5 = .ok (.iaload, 1) := by decide +kernel
theorem dX4_isEnded_6 : decode cX4_isEnded 6 = .ok (.iconst (-1), 1) := by decide +kernel
theorem dX4_isEnded_7 : decode cX4_isEnded 7 = .ok (.if_icmp .eq 17, 3) := by decide +kernel
theorem dX4_isEnded_10 : decode cX4_isEnded 10 = .ok (.aload_n 0, 1) := by decide +kernel
theorem dX4_isEnded_11 : decode cX4_isEnded 11 = .ok (.getfield 29, 3) := by decide +kernel
theorem dX4_isEnded_14 : decode cX4_isEnded 14 = .ok (.iload_n 1, 1) := by decide +kernel
theorem dX4_isEnded_15 : decode cX4_isEnded 15 = .ok (.iaload, 1) := by decide +kernel
theorem dX4_isEnded_16 : decode cX4_isEnded 16 = .ok (.iload_n 2, 1) := by decide +kernel
theorem dX4_isEnded_17 : decode cX4_isEnded 17 = .ok (.if_icmp .gt 7, 3) := by decide +kernel
theorem dX4_isEnded_20 : decode cX4_isEnded 20 = .ok (.iconst 1, 1) := by decide +kernel
theorem dX4_isEnded_21 : decode cX4_isEnded 21 = .ok (.goto 4, 3) := by decide +kernel
theorem dX4_isEnded_24 : decode cX4_isEnded 24 = .ok (.iconst 0, 1) := by decide +kernel
theorem dX4_isEnded_25 : decode cX4_isEnded 25 = .ok (.ireturn, 1) := by decide +kernel
theorem dX4_aliveOn_0 : decode cX4_aliveOn 0 = .ok (.iconst 0, 1) := by decide +kernel
theorem dX4_aliveOn_1 : decode cX4_aliveOn 1 = .ok (.istore_n 2, 1) := by decide +kernel
theorem dX4_aliveOn_2 : decode cX4_aliveOn 2 = .ok (.iconst 0, 1) := by decide +kernel
theorem dX4_aliveOn_3 : decode cX4_aliveOn 3 = .ok (.istore_n 3, 1) := by decide +kernel
theorem dX4_aliveOn_4 : decode cX4_aliveOn 4 = .ok (.iload_n 3, 1) := by decide +kernel
theorem dX4_aliveOn_5 : decode cX4_aliveOn 5 = .ok (.aload_n 0, 1) := by decide +kernel
theorem dX4_aliveOn_6 : decode cX4_aliveOn 6 = .ok (.getfield 7, 3) := by decide +kernel
theorem dX4_aliveOn_9 : decode cX4_aliveOn 9 = .ok (.if_icmp .ge 37, 3) := by decide +kernel
theorem dX4_aliveOn_12 : decode cX4_aliveOn 12 = .ok (.aload_n 0, 1) := by decide +kernel
theorem dX4_aliveOn_13 : decode cX4_aliveOn 13 = .ok (.iload_n 3, 1) := by decide +kernel
theorem dX4_aliveOn_14 : decode cX4_aliveOn 14 = .ok (.iload_n 1, 1) := by decide +kernel
theorem dX4_aliveOn_15 : decode cX4_aliveOn 15 = .ok (.invokevirtual 150, 3) := by decide +kernel
theorem dX4_aliveOn_18 : decode cX4_aliveOn 18 = .ok (.ifCond .ne 22, 3) := by decide +kernel
theorem dX4_aliveOn_21 : decode cX4_aliveOn 21 = .ok (.aload_n 0, 1) := by decide +kernel
theorem dX4_aliveOn_22 : decode cX4_aliveOn 22 = .ok (.getfield 55, 3) := by decide +kernel
theorem dX4_aliveOn_25 : decode cX4_aliveOn 25 = .ok (.iload_n 3, 1) := by decide +kernel
theorem dX4_aliveOn_26 : decode cX4_aliveOn 26 = .ok (.iload_n 1, 1) := by decide +kernel
theorem dX4_aliveOn_27 : decode cX4_aliveOn 27 = .ok (.invokevirtual 153, 3) := by decide +kernel
theorem dX4_aliveOn_30 : decode cX4_aliveOn 30 = .ok (.ifCond .ne 10, 3) := by decide +kernel
theorem dX4_aliveOn_33 : decode cX4_aliveOn 33 = .ok (.iload_n 2, 1) := by decide +kernel
theorem dX4_aliveOn_34 : decode cX4_aliveOn 34 = .ok (.iload_n 3, 1) := by decide +kernel
theorem dX4_aliveOn_35 : decode cX4_aliveOn 35 = .ok (.invokestatic 106, 3) := by decide +kernel
theorem dX4_aliveOn_38 : decode cX4_aliveOn 38 = .ok (.ior, 1) := by decide +kernel
theorem dX4_aliveOn_39 : decode cX4_aliveOn 39 = .ok (.istore_n 2, 1) := by decide +kernel
theorem dX4_aliveOn_40 : decode cX4_aliveOn 40 = .ok (.iinc 3 1, 3) := by decide +kernel
theorem dX4_aliveOn_43 : decode cX4_aliveOn 43 = .ok (.goto (-39), 3) := by decide +kernel
theorem dX4_aliveOn_46 : decode cX4_aliveOn 46 = .ok (.iload_n 2, 1) := by decide +kernel
theorem dX4_aliveOn_47 : decode cX4_aliveOn 47 = .ok (.ireturn, 1) := by decide +kernel
theorem dX4_groupsAmong_0 : decode cX4_groupsAmong 0 = .ok (.aload_n 0, 1) := by decide +kernel
theorem dX4_groupsAmong_1 : decode cX4_groupsAmong 1 = .ok (.getfield 16, 3) := by decide +kernel
theorem dX4_groupsAmong_4 : decode cX4_groupsAmong 4 = .ok (.iload_n 1, 1) := by decide +kernel
theorem dX4_groupsAmong_5 : decode cX4_groupsAmong 5 = .ok (.iaload, 1) := by decide +kernel
theorem dX4_groupsAmong_6 : decode cX4_groupsAmong 6 = .ok (.iload_n 2, 1) := by decide +kernel
theorem dX4_groupsAmong_7 : decode cX4_groupsAmong 7 = .ok (.iand, 1) := by decide +kernel
theorem dX4_groupsAmong_8 : decode cX4_groupsAmong 8 = .ok (.istore_n 3, 1) := by decide +kernel
theorem dX4_groupsAmong_9 : decode cX4_groupsAmong 9 = .ok (.iconst 2, 1) := by decide +kernel
theorem dX4_groupsAmong_10 : decode cX4_groupsAmong 10 = .ok (.istore 4, 2) := by decide +kernel
theorem dX4_groupsAmong_12 : decode cX4_groupsAmong 12 = .ok (.iload 4, 2) := by decide +kernel
theorem dX4_groupsAmong_14 : decode cX4_groupsAmong 14 = .ok (.aload_n 0, 1) := by decide +kernel
theorem dX4_groupsAmong_15 : decode cX4_groupsAmong 15 = .ok (.getfield 7, 3) := by decide +kernel
theorem dX4_groupsAmong_18 : decode cX4_groupsAmong 18 = .ok (.if_icmp .ge 19, 3) := by decide +kernel
theorem dX4_groupsAmong_21 : decode cX4_groupsAmong 21 = .ok (.iload_n 3, 1) := by decide +kernel
theorem dX4_groupsAmong_22 : decode cX4_groupsAmong 22 = .ok (.aload_n 0, 1) := by decide +kernel
theorem dX4_groupsAmong_23 : decode cX4_groupsAmong 23 = .ok (.iload_n 3, 1) := by decide +kernel
theorem dX4_groupsAmong_24 : decode cX4_groupsAmong 24 = .ok (.invokevirtual 201, 3) := by decide +kernel
theorem dX4_groupsAmong_27 : decode cX4_groupsAmong 27 = .ok (.iload_n 2, 1) := by decide +kernel
theorem dX4_groupsAmong_28 : decode cX4_groupsAmong 28 = .ok (.iand, 1) := by decide +kernel
theorem dX4_groupsAmong_29 : decode cX4_groupsAmong 29 = .ok (.ior, 1) := by decide +kernel
theorem dX4_groupsAmong_30 : decode cX4_groupsAmong 30 = .ok (.istore_n 3, 1) := by decide +kernel
theorem dX4_groupsAmong_31 : decode cX4_groupsAmong 31 = .ok (.iinc 4 1, 3) := by decide +kernel
theorem dX4_groupsAmong_34 : decode cX4_groupsAmong 34 = .ok (.goto (-22), 3) := by decide +kernel
theorem dX4_groupsAmong_37 : decode cX4_groupsAmong 37 = .ok (.iload_n 3, 1) := by decide +kernel
theorem dX4_groupsAmong_38 : decode cX4_groupsAmong 38 = .ok (.ireturn, 1) := by decide +kernel
theorem dX4_groupsOfAll_0 : decode cX4_groupsOfAll 0 = .ok (.iconst 0, 1) := by decide +kernel
theorem dX4_groupsOfAll_1 : decode cX4_groupsOfAll 1 = .ok (.istore_n 2, 1) := by decide +kernel
theorem dX4_groupsOfAll_2 : decode cX4_groupsOfAll 2 = .ok (.iconst 0, 1) := by decide +kernel
theorem dX4_groupsOfAll_3 : decode cX4_groupsOfAll 3 = .ok (.istore_n 3, 1) := by decide +kernel
theorem dX4_groupsOfAll_4 : decode cX4_groupsOfAll 4 = .ok (.iload_n 3, 1) := by decide +kernel
theorem dX4_groupsOfAll_5 : decode cX4_groupsOfAll 5 = .ok (.aload_n 0, 1) := by decide +kernel
theorem dX4_groupsOfAll_6 : decode cX4_groupsOfAll 6 = .ok (.getfield 7, 3) := by decide +kernel
theorem dX4_groupsOfAll_9 : decode cX4_groupsOfAll 9 = .ok (.if_icmp .ge 26, 3) := by decide +kernel
theorem dX4_groupsOfAll_12 : decode cX4_groupsOfAll 12 = .ok (.iload_n 1, 1) := by decide +kernel
theorem dX4_groupsOfAll_13 : decode cX4_groupsOfAll 13 = .ok (.iload_n 3, 1) := by decide +kernel
theorem dX4_groupsOfAll_14 : decode cX4_groupsOfAll 14 = .ok (.invokestatic 123, 3) := by decide +kernel
theorem dX4_groupsOfAll_17 : decode cX4_groupsOfAll 17 = .ok (.ifCond .eq 12, 3) := by decide +kernel
theorem dX4_groupsOfAll_20 : decode cX4_groupsOfAll 20 = .ok (.iload_n 2, 1) := by decide +kernel
theorem dX4_groupsOfAll_21 : decode cX4_groupsOfAll 21 = .ok (.aload_n 0, 1) := by decide +kernel
theorem dX4_groupsOfAll_22 : decode cX4_groupsOfAll 22 = .ok (.getfield 16, 3) := by decide +kernel
theorem dX4_groupsOfAll_25 : decode cX4_groupsOfAll 25 = .ok (.iload_n 3, 1) := by decide +kernel
theorem dX4_groupsOfAll_26 : decode cX4_groupsOfAll 26 = .ok (.iaload, 1) := by decide +kernel
theorem dX4_groupsOfAll_27 : decode cX4_groupsOfAll 27 = .ok (.ior, 1) := by decide +kernel
theorem dX4_groupsOfAll_28 : decode cX4_groupsOfAll 28 = .ok (.istore_n 2, 1) := by decide +kernel
theorem dX4_groupsOfAll_29 : decode cX4_groupsOfAll 29 = .ok (.iinc 3 1, 3) := by decide +kernel
theorem dX4_groupsOfAll_32 : decode cX4_groupsOfAll 32 = .ok (.goto (-28), 3) := by decide +kernel
theorem dX4_groupsOfAll_35 : decode cX4_groupsOfAll 35 = .ok (.iload_n 2, 1) := by decide +kernel
theorem dX4_groupsOfAll_36 : decode cX4_groupsOfAll 36 = .ok (.ireturn, 1) := by decide +kernel
theorem dX4_ownersOf_0 : decode cX4_ownersOf 0 = .ok (.aload_n 0, 1) := by decide +kernel
theorem dX4_ownersOf_1 : decode cX4_ownersOf 1 = .ok (.getfield 41, 3) := by decide +kernel
theorem dX4_ownersOf_4 : decode cX4_ownersOf 4 = .ok (.iload_n 1, 1) := by decide +kernel
theorem dX4_ownersOf_5 : decode cX4_ownersOf 5 = .ok (.iload_n 2, 1) := by decide +kernel
theorem dX4_ownersOf_6 : decode cX4_ownersOf 6 = .ok (.iload_n 3, 1) := by decide +kernel
theorem dX4_ownersOf_7 : decode cX4_ownersOf 7 = .ok (.invokevirtual 204, 3) := by decide +kernel
theorem dX4_ownersOf_10 : decode cX4_ownersOf 10 = .ok (.istore 5, 2) := by decide +kernel
theorem dX4_ownersOf_12 : decode cX4_ownersOf 12 = .ok (.iconst 0, 1) := by decide +kernel
theorem dX4_ownersOf_13 : decode cX4_ownersOf 13 = .ok (.istore 6, 2) := by decide +kernel
theorem dX4_ownersOf_15 : decode cX4_ownersOf 15 = .ok (.iconst 0, 1) := by decide +kernel
theorem dX4_ownersOf_16 : decode cX4_ownersOf 16 = .ok (.istore 7, 2) := by decide +kernel
theorem dX4_ownersOf_18 : decode cX4_ownersOf 18 = .ok (.iload 7, 2) := by decide +kernel
theorem dX4_ownersOf_20 : decode cX4_ownersOf 20 = .ok (.aload_n 0, 1) := by decide +kernel
theorem dX4_ownersOf_21 : decode cX4_ownersOf 21 = .ok (.getfield 7, 3) := by decide +kernel
theorem dX4_ownersOf_24 : decode cX4_ownersOf 24 = .ok (.if_icmp .ge 53, 3) := by decide +kernel
theorem dX4_ownersOf_27 : decode cX4_ownersOf 27 = .ok (.iload 7, 2) := by decide +kernel
theorem dX4_ownersOf_29 : decode cX4_ownersOf 29 = .ok (.invokestatic 106, 3) := by decide +kernel
theorem dX4_ownersOf_32 : decode cX4_ownersOf 32 = .ok (.aload_n 0, 1) := by decide +kernel
theorem dX4_ownersOf_33 : decode cX4_ownersOf 33 = .ok (.iload 7, 2) := by decide +kernel
theorem dX4_ownersOf_35 : decode cX4_ownersOf 35 = .ok (.iload 4, 2) := by decide +kernel
theorem dX4_ownersOf_37 : decode cX4_ownersOf 37 = .ok (.invokevirtual 119, 3) := by decide +kernel
theorem dX4_ownersOf_40 : decode cX4_ownersOf 40 = .ok (.ior, 1) := by decide +kernel
theorem dX4_ownersOf_41 : decode cX4_ownersOf 41 = .ok (.istore 8, 2) := by decide +kernel
theorem dX4_ownersOf_43 : decode cX4_ownersOf 43 = .ok (.aload_n 0, 1) := by decide +kernel
theorem dX4_ownersOf_44 : decode cX4_ownersOf 44 = .ok (.iload 7, 2) := by decide +kernel
theorem dX4_ownersOf_46 : decode cX4_ownersOf 46 = .ok (.iload_n 1, 1) := by decide +kernel
theorem dX4_ownersOf_47 : decode cX4_ownersOf 47 = .ok (.invokevirtual 102, 3) := by decide +kernel
theorem dX4_ownersOf_50 : decode cX4_ownersOf 50 = .ok (.ifCond .ne 21, 3) := by decide +kernel
theorem dX4_ownersOf_53 : decode cX4_ownersOf 53 = .ok (.iload 8, 2) := by decide +kernel
theorem dX4_ownersOf_55 : decode cX4_ownersOf 55 = .ok (.iload 5, 2) := by decide +kernel
theorem dX4_ownersOf_57 : decode cX4_ownersOf 57 = .ok (.iand, 1) := by decide +kernel
theorem dX4_ownersOf_58 : decode cX4_ownersOf 58 = .ok (.ifCond .eq 13, 3) := by decide +kernel
theorem dX4_ownersOf_61 : decode cX4_ownersOf 61 = .ok (.iload 6, 2) := by decide +kernel
theorem dX4_ownersOf_63 : decode cX4_ownersOf 63 = .ok (.iload 7, 2) := by decide +kernel
theorem dX4_ownersOf_65 : decode cX4_ownersOf 65 = .ok (.invokestatic 106, 3) := by decide +kernel
theorem dX4_ownersOf_68 : decode cX4_ownersOf 68 = .ok (.ior, 1) := by decide +kernel
theorem dX4_ownersOf_69 : decode cX4_ownersOf 69 = .ok (.istore 6, 2) := by decide +kernel
theorem dX4_ownersOf_71 : decode cX4_ownersOf 71 = .ok (.iinc 7 1, 3) := by decide +kernel
theorem dX4_ownersOf_74 : decode cX4_ownersOf 74 = .ok (.goto (-56), 3) := by decide +kernel
theorem dX4_ownersOf_77 : decode cX4_ownersOf 77 = .ok (.iload 6, 2) := by decide +kernel
theorem dX4_ownersOf_79 : decode cX4_ownersOf 79 = .ok (.ireturn, 1) := by decide +kernel
theorem dX4_ownActs_0 : decode cX4_ownActs 0 = .ok (.iload_n 1, 1) := by decide +kernel
theorem dX4_ownActs_1 : decode cX4_ownActs 1 = .ok (.invokestatic 106, 3) := by decide +kernel
theorem dX4_ownActs_4 : decode cX4_ownActs 4 = .ok (.aload_n 0, 1) := by decide +kernel
theorem dX4_ownActs_5 : decode cX4_ownActs 5 = .ok (.iload_n 1, 1) := by decide +kernel
theorem dX4_ownActs_6 : decode cX4_ownActs 6 = .ok (.aload_n 0, 1) := by decide +kernel
theorem dX4_ownActs_7 : decode cX4_ownActs 7 = .ok (.iload_n 2, 1) := by decide +kernel
theorem dX4_ownActs_8 : decode cX4_ownActs 8 = .ok (.invokevirtual 188, 3) := by decide +kernel
theorem dX4_ownActs_11 : decode cX4_ownActs 11 = .ok (.invokevirtual 119, 3) := by decide +kernel
theorem dX4_ownActs_14 : decode cX4_ownActs 14 = .ok (.ior, 1) := by decide +kernel
theorem dX4_ownActs_15 : decode cX4_ownActs 15 = .ok (.istore_n 3, 1) := by decide +kernel
theorem dX4_ownActs_16 : decode cX4_ownActs 16 = .ok (.aload_n 0, 1) := by decide +kernel
theorem dX4_ownActs_17 : decode cX4_ownActs 17 = .ok (.getfield 41, 3) := by decide +kernel
theorem dX4_ownActs_20 : decode cX4_ownActs 20 = .ok (.iload_n 3, 1) := by decide +kernel
theorem dX4_ownActs_21 : decode cX4_ownActs 21 = .ok (.iload_n 2, 1) := by decide +kernel
theorem dX4_ownActs_22 : decode cX4_ownActs 22 = .ok (.invokevirtual 208, 3) := by decide +kernel
theorem dX4_ownActs_25 : decode cX4_ownActs 25 = .ok (.aload_n 0, 1) := by decide +kernel
theorem dX4_ownActs_26 : decode cX4_ownActs 26 = .ok (.getfield 20, 3) := by decide +kernel
theorem dX4_ownActs_29 : decode cX4_ownActs 29 = .ok (.iload_n 1, 1) := by decide +kernel
theorem dX4_ownActs_30 : decode cX4_ownActs 30 = .ok (.iaload, 1) := by decide +kernel
theorem dX4_ownActs_31 : decode cX4_ownActs 31 = .ok (.iconst (-1), 1) := by decide +kernel
theorem dX4_ownActs_32 : decode cX4_ownActs 32 = .ok (.ixor, 1) := by decide +kernel
theorem dX4_ownActs_33 : decode cX4_ownActs 33 = .ok (.iand, 1) := by decide +kernel
theorem dX4_ownActs_34 : decode cX4_ownActs 34 = .ok (.ireturn, 1) := by decide +kernel
theorem dX4_answerForAlive_0 : decode cX4_answerForAlive 0 = .ok (.aload_n 0, 1) := by decide +kernel
theorem dX4_answerForAlive_1 : decode cX4_answerForAlive 1 = .ok (.iload 4, 2) := by decide +kernel
theorem dX4_answerForAlive_3 : decode cX4_answerForAlive 3 = .ok (.invokevirtual 188, 3) := by decide +kernel
theorem dX4_answerForAlive_6 : decode cX4_answerForAlive 6 = .ok (.istore 5, 2) := by decide +kernel
theorem dX4_answerForAlive_8 : decode cX4_answerForAlive 8 = .ok (.aload_n 0, 1) := by decide +kernel
theorem dX4_answerForAlive_9 : decode cX4_answerForAlive 9 = .ok (.iload_n 2, 1) := by decide +kernel
theorem dX4_answerForAlive_10 : decode cX4_answerForAlive 10 = .ok (.iload_n 3, 1) := by decide +kernel
theorem dX4_answerForAlive_11 : decode cX4_answerForAlive 11 = .ok (.iload 4, 2) := by decide +kernel
theorem dX4_answerForAlive_13 : decode cX4_answerForAlive 13 = .ok (.iload 5, 2) := by decide +kernel
theorem dX4_answerForAlive_15 : decode cX4_answerForAlive 15 = .ok (.invokevirtual 211, 3) := by decide +kernel
theorem dX4_answerForAlive_18 : decode cX4_answerForAlive 18 = .ok (.istore 6, 2) := by decide +kernel
theorem dX4_answerForAlive_20 : decode cX4_answerForAlive 20 = .ok (.iload 6, 2) := by decide +kernel
theorem dX4_answerForAlive_22 : decode cX4_answerForAlive 22 = .ok (.iload_n 1, 1) := by decide +kernel
theorem dX4_answerForAlive_23 : decode cX4_answerForAlive 23 = .ok (.invokestatic 123, 3) := by decide +kernel
theorem dX4_answerForAlive_26 : decode cX4_answerForAlive 26 = .ok (.ifCond .eq 5, 3) := by decide +kernel
theorem dX4_answerForAlive_29 : decode cX4_answerForAlive 29 = .ok (.iconst 0, 1) := by decide +kernel
theorem dX4_answerForAlive_30 : decode cX4_answerForAlive 30 = .ok (.ireturn, 1) := by decide +kernel
theorem dX4_answerForAlive_31 : decode cX4_answerForAlive 31 = .ok (.iload 6, 2) := by decide +kernel
theorem dX4_answerForAlive_33 : decode cX4_answerForAlive 33 = .ok (.aload_n 0, 1) := by decide +kernel
theorem dX4_answerForAlive_34 : decode cX4_answerForAlive 34 = .ok (.iload_n 1, 1) := by decide +kernel
theorem dX4_answerForAlive_35 : decode cX4_answerForAlive 35 = .ok (.invokevirtual 214, 3) := by decide +kernel
theorem dX4_answerForAlive_38 : decode cX4_answerForAlive 38 = .ok (.aload_n 0, 1) := by decide +kernel
theorem dX4_answerForAlive_39 : decode cX4_answerForAlive 39 = .ok (.getfield 48, 3) := by decide +kernel
theorem dX4_answerForAlive_42 : decode cX4_answerForAlive 42 = .ok (.iload_n 1, 1) := by decide +kernel
theorem dX4_answerForAlive_43 : decode cX4_answerForAlive 43 = .ok (.iconst 1, 1) := by decide +kernel
theorem dX4_answerForAlive_44 : decode cX4_answerForAlive 44 = .ok (.iload 4, 2) := by decide +kernel
theorem dX4_answerForAlive_46 : decode cX4_answerForAlive 46 = .ok (.invokevirtual 217, 3) := by decide +kernel
theorem dX4_answerForAlive_49 : decode cX4_answerForAlive 49 = .ok (.ior, 1) := by decide +kernel
theorem dX4_answerForAlive_50 : decode cX4_answerForAlive 50 = .ok (.iand, 1) := by decide +kernel
theorem dX4_answerForAlive_51 : decode cX4_answerForAlive 51 = .ok (.istore 7, 2) := by decide +kernel
theorem dX4_answerForAlive_53 : decode cX4_answerForAlive 53 = .ok (.iload 6, 2) := by decide +kernel
theorem dX4_answerForAlive_55 : decode cX4_answerForAlive 55 = .ok (.aload_n 0, 1) := by decide +kernel
theorem dX4_answerForAlive_56 : decode cX4_answerForAlive 56 = .ok (.getfield 48, 3) := by decide +kernel
theorem dX4_answerForAlive_59 : decode cX4_answerForAlive 59 = .ok (.iload_n 1, 1) := by decide +kernel
theorem dX4_answerForAlive_60 : decode cX4_answerForAlive 60 = .ok (.iconst 0, 1) := by decide +kernel
theorem dX4_answerForAlive_61 : decode cX4_answerForAlive 61 = .ok (.iload 4, 2) := by decide +kernel
theorem dX4_answerForAlive_63 : decode cX4_answerForAlive 63 = .ok (.invokevirtual 217, 3) := by decide +kernel
theorem dX4_answerForAlive_66 : decode cX4_answerForAlive 66 = .ok (.iand, 1) := by decide +kernel
theorem dX4_answerForAlive_67 : decode cX4_answerForAlive 67 = .ok (.istore 8, 2) := by decide +kernel
theorem dX4_answerForAlive_69 : decode cX4_answerForAlive 69 = .ok (.iload 7, 2) := by decide +kernel
theorem dX4_answerForAlive_71 : decode cX4_answerForAlive 71 = .ok (.iload 5, 2) := by decide +kernel
theorem dX4_answerForAlive_73 : decode cX4_answerForAlive 73 = .ok (.iand, 1) := by decide +kernel
theorem dX4_answerForAlive_74 : decode cX4_answerForAlive 74 = .ok (.ifCond .eq 5, 3) := by decide +kernel
theorem dX4_answerForAlive_77 : decode cX4_answerForAlive 77 = .ok (.iconst 0, 1) := by decide +kernel
theorem dX4_answerForAlive_78 : decode cX4_answerForAlive 78 = .ok (.ireturn, 1) := by decide +kernel
theorem dX4_answerForAlive_79 : decode cX4_answerForAlive 79 = .ok (.iload 8, 2) := by decide +kernel
theorem dX4_answerForAlive_81 : decode cX4_answerForAlive 81 = .ok (.iload 5, 2) := by decide +kernel
theorem dX4_answerForAlive_83 : decode cX4_answerForAlive 83 = .ok (.iand, 1) := by decide +kernel
theorem dX4_answerForAlive_84 : decode cX4_answerForAlive 84 = .ok (.ifCond .eq 22, 3) := by decide +kernel
theorem dX4_answerForAlive_87 : decode cX4_answerForAlive 87 = .ok (.aload_n 0, 1) := by decide +kernel
theorem dX4_answerForAlive_88 : decode cX4_answerForAlive 88 = .ok (.iconst 0, 1) := by decide +kernel
theorem dX4_answerForAlive_89 : decode cX4_answerForAlive 89 = .ok (.iload_n 3, 1) := by decide +kernel
theorem dX4_answerForAlive_90 : decode cX4_answerForAlive 90 = .ok (.iload 4, 2) := by decide +kernel
theorem dX4_answerForAlive_92 : decode cX4_answerForAlive 92 = .ok (.iload 5, 2) := by decide +kernel
theorem dX4_answerForAlive_94 : decode cX4_answerForAlive 94 = .ok (.invokevirtual 211, 3) := by decide +kernel
theorem dX4_answerForAlive_97 : decode cX4_answerForAlive 97 = .ok (.iload_n 1, 1) := by decide +kernel
theorem dX4_answerForAlive_98 : decode cX4_answerForAlive 98 = .ok (.invokestatic 123, 3) := by decide +kernel
theorem dX4_answerForAlive_101 : decode cX4_answerForAlive 101 = .ok (.ifCond .eq 5, 3) := by decide +kernel
theorem dX4_answerForAlive_104 : decode cX4_answerForAlive 104 = .ok (.iconst 0, 1) := by decide +kernel
theorem dX4_answerForAlive_105 : decode cX4_answerForAlive 105 = .ok (.ireturn, 1) := by decide +kernel
theorem dX4_answerForAlive_106 : decode cX4_answerForAlive 106 = .ok (.aload_n 0, 1) := by decide +kernel
theorem dX4_answerForAlive_107 : decode cX4_answerForAlive 107 = .ok (.iload_n 1, 1) := by decide +kernel
theorem dX4_answerForAlive_108 : decode cX4_answerForAlive 108 = .ok (.iload_n 2, 1) := by decide +kernel
theorem dX4_answerForAlive_109 : decode cX4_answerForAlive 109 = .ok (.invokevirtual 102, 3) := by decide +kernel
theorem dX4_answerForAlive_112 : decode cX4_answerForAlive 112 = .ok (.ifCond .eq 5, 3) := by decide +kernel
theorem dX4_answerForAlive_115 : decode cX4_answerForAlive 115 = .ok (.iconst 4, 1) := by decide +kernel
theorem dX4_answerForAlive_116 : decode cX4_answerForAlive 116 = .ok (.ireturn, 1) := by decide +kernel
theorem dX4_answerForAlive_117 : decode cX4_answerForAlive 117 = .ok (.iload 8, 2) := by decide +kernel
theorem dX4_answerForAlive_119 : decode cX4_answerForAlive 119 = .ok (.iload 5, 2) := by decide +kernel
theorem dX4_answerForAlive_121 : decode cX4_answerForAlive 121 = .ok (.iand, 1) := by decide +kernel
theorem dX4_answerForAlive_122 : decode cX4_answerForAlive 122 = .ok (.ifCond .eq 5, 3) := by decide +kernel
theorem dX4_answerForAlive_125 : decode cX4_answerForAlive 125 = .ok (.iconst 5, 1) := by decide +kernel
theorem dX4_answerForAlive_126 : decode cX4_answerForAlive 126 = .ok (.ireturn, 1) := by decide +kernel
theorem dX4_answerForAlive_127 : decode cX4_answerForAlive 127 = .ok (.iload 7, 2) := by decide +kernel
theorem dX4_answerForAlive_129 : decode cX4_answerForAlive 129 = .ok (.iload 8, 2) := by decide +kernel
theorem dX4_answerForAlive_131 : decode cX4_answerForAlive 131 = .ok (.ior, 1) := by decide +kernel
theorem dX4_answerForAlive_132 : decode cX4_answerForAlive 132 = .ok (.ifCond .eq 8, 3) := by decide +kernel
theorem dX4_answerForAlive_135 : decode cX4_answerForAlive 135 = .ok (.bipush 6, 2) := by decide +kernel
theorem dX4_answerForAlive_137 : decode cX4_answerForAlive 137 = .ok (.goto 5, 3) := by decide +kernel
theorem dX4_answerForAlive_140 : decode cX4_answerForAlive 140 = .ok (.bipush 7, 2) := by decide +kernel
theorem dX4_answerForAlive_142 : decode cX4_answerForAlive 142 = .ok (.ireturn, 1) := by decide +kernel
theorem dX4_principalSet_0 : decode cX4_principalSet 0 = .ok (.aload_n 0, 1) := by decide +kernel
theorem dX4_principalSet_1 : decode cX4_principalSet 1 = .ok (.getfield 26, 3) := by decide +kernel
theorem dX4_principalSet_4 : decode cX4_principalSet 4 = .ok (.iload_n 1, 1) := by decide +kernel
theorem dX4_principalSet_5 : decode cX4_principalSet 5 = .ok (.iaload, 1) := by decide +kernel
theorem dX4_principalSet_6 : decode cX4_principalSet 6 = .ok (.iconst (-1), 1) := by decide +kernel
theorem dX4_principalSet_7 : decode cX4_principalSet 7 = .ok (.if_icmp .ne 7, 3) := by decide +kernel
theorem dX4_principalSet_10 : decode cX4_principalSet 10 = .ok (.iconst 0, 1) := by decide +kernel
theorem dX4_principalSet_11 : decode cX4_principalSet 11 = .ok (.goto 12, 3) := by decide +kernel
theorem dX4_principalSet_14 : decode cX4_principalSet 14 = .ok (.aload_n 0, 1) := by decide +kernel
theorem dX4_principalSet_15 : decode cX4_principalSet 15 = .ok (.getfield 26, 3) := by decide +kernel
theorem dX4_principalSet_18 : decode cX4_principalSet 18 = .ok (.iload_n 1, 1) := by decide +kernel
theorem dX4_principalSet_19 : decode cX4_principalSet 19 = .ok (.iaload, 1) := by decide +kernel
theorem dX4_principalSet_20 : decode cX4_principalSet 20 = .ok (.invokestatic 106, 3) := by decide +kernel
theorem dX4_principalSet_23 : decode cX4_principalSet 23 = .ok (.ireturn, 1) := by decide +kernel
theorem dX4_digit_0 : decode cX4_digit 0 = .ok (.iload_n 0, 1) := by decide +kernel
theorem dX4_digit_1 : decode cX4_digit 1 = .ok (.istore_n 2, 1) := by decide +kernel
theorem dX4_digit_2 : decode cX4_digit 2 = .ok (.iconst 5, 1) := by decide +kernel
theorem dX4_digit_3 : decode cX4_digit 3 = .ok (.istore_n 3, 1) := by decide +kernel
theorem dX4_digit_4 : decode cX4_digit 4 = .ok (.iload_n 3, 1) := by decide +kernel
theorem dX4_digit_5 : decode cX4_digit 5 = .ok (.iload_n 1, 1) := by decide +kernel
theorem dX4_digit_6 : decode cX4_digit 6 = .ok (.if_icmp .le 14, 3) := by decide +kernel
theorem dX4_digit_9 : decode cX4_digit 9 = .ok (.iload_n 2, 1) := by decide +kernel
theorem dX4_digit_10 : decode cX4_digit 10 = .ok (.bipush 26, 2) := by decide +kernel
theorem dX4_digit_12 : decode cX4_digit 12 = .ok (.idiv, 1) := by decide +kernel
theorem dX4_digit_13 : decode cX4_digit 13 = .ok (.istore_n 2, 1) := by decide +kernel
theorem dX4_digit_14 : decode cX4_digit 14 = .ok (.iinc 3 (-1), 3) := by decide +kernel
theorem dX4_digit_17 : decode cX4_digit 17 = .ok (.goto (-13), 3) := by decide +kernel
theorem dX4_digit_20 : decode cX4_digit 20 = .ok (.iload_n 2, 1) := by decide +kernel
theorem dX4_digit_21 : decode cX4_digit 21 = .ok (.bipush 26, 2) := by decide +kernel
theorem dX4_digit_23 : decode cX4_digit 23 = .ok (.irem, 1) := by decide +kernel
theorem dX4_digit_24 : decode cX4_digit 24 = .ok (.ireturn, 1) := by decide +kernel
theorem dX4_checkValue_0 : decode cX4_checkValue 0 = .ok (.iconst 0, 1) := by decide +kernel
theorem dX4_checkValue_1 : decode cX4_checkValue 1 = .ok (.istore_n 1, 1) := by decide +kernel
theorem dX4_checkValue_2 : decode cX4_checkValue 2 = .ok (.iconst 0, 1) := by decide +kernel
theorem dX4_checkValue_3 : decode cX4_checkValue 3 = .ok (.istore_n 2, 1) := by decide +kernel
theorem dX4_checkValue_4 : decode cX4_checkValue 4 = .ok (.iload_n 2, 1) := by decide +kernel
theorem dX4_checkValue_5 : decode cX4_checkValue 5 = .ok (.bipush 6, 2) := by decide +kernel
theorem dX4_checkValue_7 : decode cX4_checkValue 7 = .ok (.if_icmp .ge 21, 3) := by decide +kernel
theorem dX4_checkValue_10 : decode cX4_checkValue 10 = .ok (.iload_n 1, 1) := by decide +kernel
theorem dX4_checkValue_11 : decode cX4_checkValue 11 = .ok (.iload_n 2, 1) := by decide +kernel
theorem dX4_checkValue_12 : decode cX4_checkValue 12 = .ok (.iconst 1, 1) := by decide +kernel
theorem dX4_checkValue_13 : decode cX4_checkValue 13 = .ok (.iadd, 1) := by decide +kernel
theorem dX4_checkValue_14 : decode cX4_checkValue 14 = .ok (.iload_n 0, 1) := by decide +kernel
theorem dX4_checkValue_15 : decode cX4_checkValue 15 = .ok (.iload_n 2, 1) := by decide +kernel
theorem dX4_checkValue_16 : decode cX4_checkValue 16 = .ok (.invokestatic 174, 3) := by decide +kernel
theorem dX4_checkValue_19 : decode cX4_checkValue 19 = .ok (.imul, 1) := by decide +kernel
theorem dX4_checkValue_20 : decode cX4_checkValue 20 = .ok (.iadd, 1) := by decide +kernel
theorem dX4_checkValue_21 : decode cX4_checkValue 21 = .ok (.istore_n 1, 1) := by decide +kernel
theorem dX4_checkValue_22 : decode cX4_checkValue 22 = .ok (.iinc 2 1, 3) := by decide +kernel
theorem dX4_checkValue_25 : decode cX4_checkValue 25 = .ok (.goto (-21), 3) := by decide +kernel
theorem dX4_checkValue_28 : decode cX4_checkValue 28 = .ok (.iload_n 1, 1) := by decide +kernel
theorem dX4_checkValue_29 : decode cX4_checkValue 29 = .ok (.bipush 23, 2) := by decide +kernel
theorem dX4_checkValue_31 : decode cX4_checkValue 31 = .ok (.irem, 1) := by decide +kernel
theorem dX4_checkValue_32 : decode cX4_checkValue 32 = .ok (.ireturn, 1) := by decide +kernel
theorem dX5_init_0 : decode cX5_init 0 = .ok (.aload_n 0, 1) := by decide +kernel
theorem dX5_init_1 : decode cX5_init 1 = .ok (.invokespecial 1, 3) := by decide +kernel
theorem dX5_init_4 : decode cX5_init 4 = .ok (.aload_n 0, 1) := by decide +kernel
theorem dX5_init_5 : decode cX5_init 5 = .ok (.bipush 12, 2) := by decide +kernel
theorem dX5_init_7 : decode cX5_init 7 = .ok (.newarray .int, 2) := by decide +kernel
theorem dX5_init_9 : decode cX5_init 9 = .ok (.putfield 7, 3) := by decide +kernel
theorem dX5_init_12 : decode cX5_init 12 = .ok (.aload_n 0, 1) := by decide +kernel
theorem dX5_init_13 : decode cX5_init 13 = .ok (.bipush 12, 2) := by decide +kernel
theorem dX5_init_15 : decode cX5_init 15 = .ok (.newarray .int, 2) := by decide +kernel
theorem dX5_init_17 : decode cX5_init 17 = .ok (.putfield 13, 3) := by decide +kernel
theorem dX5_init_20 : decode cX5_init 20 = .ok (.aload_n 0, 1) := by decide +kernel
theorem dX5_init_21 : decode cX5_init 21 = .ok (.bipush 12, 2) := by decide +kernel
theorem dX5_init_23 : decode cX5_init 23 = .ok (.newarray .int, 2) := by decide +kernel
theorem dX5_init_25 : decode cX5_init 25 = .ok (.putfield 16, 3) := by decide +kernel
theorem dX5_init_28 : decode cX5_init 28 = .ok (.aload_n 0, 1) := by decide +kernel
theorem dX5_init_29 : decode cX5_init 29 = .ok (.bipush 12, 2) := by decide +kernel
theorem dX5_init_31 : decode cX5_init 31 = .ok (.newarray .int, 2) := by decide +kernel
theorem dX5_init_33 : decode cX5_init 33 = .ok (.putfield 19, 3) := by decide +kernel
theorem dX5_init_36 : decode cX5_init 36 = .ok (.aload_n 0, 1) := by decide +kernel
theorem dX5_init_37 : decode cX5_init 37 = .ok (.bipush 60, 2) := by decide +kernel
theorem dX5_init_39 : decode cX5_init 39 = .ok (.newarray .int, 2) := by decide +kernel
theorem dX5_init_41 : decode cX5_init 41 = .ok (.putfield 22, 3) := by decide +kernel
theorem dX5_init_44 : decode cX5_init 44 = .ok (.aload_n 0, 1) := by decide +kernel
theorem dX5_init_45 : decode cX5_init 45 = .ok (.bipush 60, 2) := by decide +kernel
theorem dX5_init_47 : decode cX5_init 47 = .ok (.newarray .int, 2) := by decide +kernel
theorem dX5_init_49 : decode cX5_init 49 = .ok (.putfield 25, 3) := by decide +kernel
theorem dX5_init_52 : decode cX5_init 52 = .ok (.aload_n 0, 1) := by decide +kernel
theorem dX5_init_53 : decode cX5_init 53 = .ok (.bipush 60, 2) := by decide +kernel
theorem dX5_init_55 : decode cX5_init 55 = .ok (.newarray .int, 2) := by decide +kernel
theorem dX5_init_57 : decode cX5_init 57 = .ok (.putfield 28, 3) := by decide +kernel
theorem dX5_init_60 : decode cX5_init 60 = .ok (.aload_n 0, 1) := by decide +kernel
theorem dX5_init_61 : decode cX5_init 61 = .ok (.bipush 60, 2) := by decide +kernel
theorem dX5_init_63 : decode cX5_init 63 = .ok (.newarray .int, 2) := by decide +kernel
theorem dX5_init_65 : decode cX5_init 65 = .ok (.putfield 31, 3) := by decide +kernel
theorem dX5_init_68 : decode cX5_init 68 = .ok (.aload_n 0, 1) := by decide +kernel
theorem dX5_init_69 : decode cX5_init 69 = .ok (.bipush 60, 2) := by decide +kernel
theorem dX5_init_71 : decode cX5_init 71 = .ok (.newarray .int, 2) := by decide +kernel
theorem dX5_init_73 : decode cX5_init 73 = .ok (.putfield 34, 3) := by decide +kernel
theorem dX5_init_76 : decode cX5_init 76 = .ok (.aload_n 0, 1) := by decide +kernel
theorem dX5_init_77 : decode cX5_init 77 = .ok (.bipush 60, 2) := by decide +kernel
theorem dX5_init_79 : decode cX5_init 79 = .ok (.newarray .int, 2) := by decide +kernel
theorem dX5_init_81 : decode cX5_init 81 = .ok (.putfield 37, 3) := by decide +kernel
theorem dX5_init_84 : decode cX5_init 84 = .ok (.aload_n 0, 1) := by decide +kernel
theorem dX5_init_85 : decode cX5_init 85 = .ok (.bipush 60, 2) := by decide +kernel
theorem dX5_init_87 : decode cX5_init 87 = .ok (.newarray .int, 2) := by decide +kernel
theorem dX5_init_89 : decode cX5_init 89 = .ok (.putfield 40, 3) := by decide +kernel
theorem dX5_init_92 : decode cX5_init 92 = .ok (.aload_n 0, 1) := by decide +kernel
theorem dX5_init_93 : decode cX5_init 93 = .ok (.bipush 60, 2) := by decide +kernel
theorem dX5_init_95 : decode cX5_init 95 = .ok (.newarray .boolean, 2) := by decide +kernel
theorem dX5_init_97 : decode cX5_init 97 = .ok (.putfield 43, 3) := by decide +kernel
theorem dX5_init_100 : decode cX5_init 100 = .ok (.aload_n 0, 1) := by decide +kernel
theorem dX5_init_101 : decode cX5_init 101 = .ok (.bipush 60, 2) := by decide +kernel
theorem dX5_init_103 : decode cX5_init 103 = .ok (.newarray .int, 2) := by decide +kernel
theorem dX5_init_105 : decode cX5_init 105 = .ok (.putfield 47, 3) := by decide +kernel
theorem dX5_init_108 : decode cX5_init 108 = .ok (.aload_n 0, 1) := by decide +kernel
theorem dX5_init_109 : decode cX5_init 109 = .ok (.bipush 60, 2) := by decide +kernel
theorem dX5_init_111 : decode cX5_init 111 = .ok (.newarray .int, 2) := by decide +kernel
theorem dX5_init_113 : decode cX5_init 113 = .ok (.putfield 50, 3) := by decide +kernel
theorem dX5_init_116 : decode cX5_init 116 = .ok (.aload_n 0, 1) := by decide +kernel
theorem dX5_init_117 : decode cX5_init 117 = .ok (.bipush 60, 2) := by decide +kernel
theorem dX5_init_119 : decode cX5_init 119 = .ok (.newarray .int, 2) := by decide +kernel
theorem dX5_init_121 : decode cX5_init 121 = .ok (.putfield 53, 3) := by decide +kernel
theorem dX5_init_124 : decode cX5_init 124 = .ok (.aload_n 0, 1) := by decide +kernel
theorem dX5_init_125 : decode cX5_init 125 = .ok (.bipush 60, 2) := by decide +kernel
theorem dX5_init_127 : decode cX5_init 127 = .ok (.newarray .boolean, 2) := by decide +kernel
theorem dX5_init_129 : decode cX5_init 129 = .ok (.putfield 56, 3) := by decide +kernel
theorem dX5_init_132 : decode cX5_init 132 = .ok (.aload_n 0, 1) := by decide +kernel
theorem dX5_init_133 : decode cX5_init 133 = .ok (.bipush 7, 2) := by decide +kernel
theorem dX5_init_135 : decode cX5_init 135 = .ok (.newarray .int, 2) := by decide +kernel
theorem dX5_init_137 : decode cX5_init 137 = .ok (.putfield 59, 3) := by decide +kernel
theorem dX5_init_140 : decode cX5_init 140 = .ok (.aload_n 0, 1) := by decide +kernel
theorem dX5_init_141 : decode cX5_init 141 = .ok (.iconst (-1), 1) := by decide +kernel
theorem dX5_init_142 : decode cX5_init 142 = .ok (.putfield 62, 3) := by decide +kernel
theorem dX5_init_145 : decode cX5_init 145 = .ok (.return_, 1) := by decide +kernel
theorem dX5_thrown_0 : decode cX5_thrown 0 = .ok (.aload_n 0, 1) := by decide +kernel
theorem dX5_thrown_1 : decode cX5_thrown 1 = .ok (.getfield 66, 3) := by decide +kernel
theorem dX5_thrown_4 : decode cX5_thrown 4 = .ok (.ireturn, 1) := by decide +kernel
theorem dX5_in_0 : decode cX5_in 0 = .ok (.iload_n 0, 1) := by decide +kernel
theorem dX5_in_1 : decode cX5_in 1 = .ok (.iload_n 1, 1) := by decide +kernel
theorem dX5_in_2 : decode cX5_in 2 = .ok (.if_icmp .lt 12, 3) := by decide +kernel
theorem dX5_in_5 : decode cX5_in 5 = .ok (.iload_n 0, 1) := by decide +kernel
theorem dX5_in_6 : decode cX5_in 6 = .ok (.iload_n 2, 1) := by decide +kernel
theorem dX5_in_7 : decode cX5_in 7 = .ok (.if_icmp .gt 7, 3) := by decide +kernel
theorem dX5_in_10 : decode cX5_in 10 = .ok (.iconst 1, 1) := by decide +kernel
theorem dX5_in_11 : decode cX5_in 11 = .ok (.goto 4, 3) := by decide +kernel
theorem dX5_in_14 : decode cX5_in 14 = .ok (.iconst 0, 1) := by decide +kernel
theorem dX5_in_15 : decode cX5_in 15 = .ok (.ireturn, 1) := by decide +kernel
theorem dX5_isTrader_0 : decode cX5_isTrader 0 = .ok (.iload_n 1, 1) := by decide +kernel
theorem dX5_isTrader_1 : decode cX5_isTrader 1 = .ok (.ifCond .lt 15, 3) := by decide +kernel
theorem dX5_isTrader_4 : decode cX5_isTrader 4 = .ok (.iload_n 1, 1) := by decide +kernel
theorem dX5_isTrader_5 : decode cX5_isTrader 5 = .ok (.aload_n 0, 1) := by decide +kernel
theorem dX5_isTrader_6 : decode cX5_isTrader 6 = .ok (.getfield 69, 3) := by decide +kernel
theorem dX5_isTrader_9 : decode cX5_isTrader 9 = .ok (.if_icmp .ge 7, 3) := by decide +kernel
theorem dX5_isTrader_12 : decode cX5_isTrader 12 = .ok (.iconst 1, 1) := by decide +kernel
theorem dX5_isTrader_13 : decode cX5_isTrader 13 = .ok (.goto 4, 3) := by decide +kernel
theorem dX5_isTrader_16 : decode cX5_isTrader 16 = .ok (.iconst 0, 1) := by decide +kernel
theorem dX5_isTrader_17 : decode cX5_isTrader 17 = .ok (.ireturn, 1) := by decide +kernel
theorem dX5_isDay_0 : decode cX5_isDay 0 = .ok (.iload_n 0, 1) := by decide +kernel
theorem dX5_isDay_1 : decode cX5_isDay 1 = .ok (.iconst 0, 1) := by decide +kernel
theorem dX5_isDay_2 : decode cX5_isDay 2 = .ok (.ldc 72, 2) := by decide +kernel
theorem dX5_isDay_4 : decode cX5_isDay 4 = .ok (.invokestatic 73, 3) := by decide +kernel
theorem dX5_isDay_7 : decode cX5_isDay 7 = .ok (.ireturn, 1) := by decide +kernel
theorem dX5_isEight_0 : decode cX5_isEight 0 = .ok (.iload_n 0, 1) := by decide +kernel
theorem dX5_isEight_1 : decode cX5_isEight 1 = .ok (.iconst 0, 1) := by decide +kernel
theorem dX5_isEight_2 : decode cX5_isEight 2 = .ok (.bipush 7, 2) := by decide +kernel
theorem dX5_isEight_4 : decode cX5_isEight 4 = .ok (.invokestatic 73, 3) := by decide +kernel
theorem dX5_isEight_7 : decode cX5_isEight 7 = .ok (.ireturn, 1) := by decide +kernel
theorem dX5_trader_0 : decode cX5_trader 0 = .ok (.aload_n 0, 1) := by decide +kernel
theorem dX5_trader_1 : decode cX5_trader 1 = .ok (.aload_n 0, 1) := by decide +kernel
theorem dX5_trader_2 : decode cX5_trader 2 = .ok (.getfield 69, 3) := by decide +kernel
theorem dX5_trader_5 : decode cX5_trader 5 = .ok (.bipush 12, 2) := by decide +kernel
theorem dX5_trader_7 : decode cX5_trader 7 = .ok (.if_icmp .ne 7, 3) := by decide +kernel
theorem dX5_trader_10 : decode cX5_trader 10 = .ok (.iconst 1, 1) := by decide +kernel
theorem dX5_trader_11 : decode cX5_trader 11 = .ok (.goto 4, 3) := by decide +kernel
theorem dX5_trader_14 : decode cX5_trader 14 = .ok (.iconst 0, 1) := by decide +kernel
theorem dX5_trader_15 : decode cX5_trader 15 = .ok (.putfield 66, 3) := by decide +kernel
theorem dX5_trader_18 : decode cX5_trader 18 = .ok (.aload_n 0, 1) := by decide +kernel
theorem dX5_trader_19 : decode cX5_trader 19 = .ok (.getfield 66, 3) := by decide +kernel
theorem dX5_trader_22 : decode cX5_trader 22 = .ok (.ifCond .le 5, 3) := by decide +kernel
theorem dX5_trader_25 : decode cX5_trader 25 = .ok (.iconst 0, 1) := by decide +kernel
theorem dX5_trader_26 : decode cX5_trader 26 = .ok (.ireturn, 1) := by decide +kernel
theorem dX5_trader_27 : decode cX5_trader 27 = .ok (.aload_n 0, 1) := by decide +kernel
theorem dX5_trader_28 : decode cX5_trader 28 = .ok (.getfield 16, 3) := by decide +kernel
theorem dX5_trader_31 : decode cX5_trader 31 = .ok (.aload_n 0, 1) := by decide +kernel
theorem dX5_trader_32 : decode cX5_trader 32 = .ok (.getfield 69, 3) := by decide +kernel
theorem dX5_trader_35 : decode cX5_trader 35 = .ok (.iconst (-1), 1) := by decide +kernel
theorem dX5_trader_36 : decode cX5_trader 36 = .ok (.iastore, 1) := by decide +kernel
theorem dX5_trader_37 : decode cX5_trader 37 = .ok (.aload_n 0, 1) := by decide +kernel
theorem dX5_trader_38 : decode cX5_trader 38 = .ok (.getfield 19, 3) := by decide +kernel
theorem dX5_trader_41 : decode cX5_trader 41 = .ok (.aload_n 0, 1) := by decide +kernel
theorem dX5_trader_42 : decode cX5_trader 42 = .ok (.getfield 69, 3) := by decide +kernel
theorem dX5_trader_45 : decode cX5_trader 45 = .ok (.iconst (-1), 1) := by decide +kernel
theorem dX5_trader_46 : decode cX5_trader 46 = .ok (.iastore, 1) := by decide +kernel
theorem dX5_trader_47 : decode cX5_trader 47 = .ok (.aload_n 0, 1) := by decide +kernel
theorem dX5_trader_48 : decode cX5_trader 48 = .ok (.dup, 1) := by decide +kernel
theorem dX5_trader_49 : decode cX5_trader 49 = .ok (.getfield 69, 3) := by decide +kernel
theorem dX5_trader_52 : decode cX5_trader 52 = .ok (.iconst 1, 1) := by decide +kernel
theorem dX5_trader_53 : decode cX5_trader 53 = .ok (.iadd, 1) := by decide +kernel
theorem dX5_trader_54 : decode cX5_trader 54 = .ok (.putfield 69, 3) := by decide +kernel
theorem dX5_trader_57 : decode cX5_trader 57 = .ok (.aload_n 0, 1) := by decide +kernel
theorem dX5_trader_58 : decode cX5_trader 58 = .ok (.getfield 69, 3) := by decide +kernel
theorem dX5_trader_61 : decode cX5_trader 61 = .ok (.iconst 1, 1) := by decide +kernel
theorem dX5_trader_62 : decode cX5_trader 62 = .ok (.isub, 1) := by decide +kernel
theorem dX5_trader_63 : decode cX5_trader 63 = .ok (.ireturn, 1) := by decide +kernel
theorem dX5_right_0 : decode cX5_right 0 = .ok (.aload_n 0, 1) := by decide +kernel
theorem dX5_right_1 : decode cX5_right 1 = .ok (.iload_n 1, 1) := by decide +kernel
theorem dX5_right_2 : decode cX5_right 2 = .ok (.invokevirtual 77, 3) := by decide +kernel
theorem dX5_right_5 : decode cX5_right 5 = .ok (.ifCond .eq 49, 3) := by decide +kernel
theorem dX5_right_8 : decode cX5_right 8 = .ok (.iload_n 2, 1) := by decide +kernel
theorem dX5_right_9 : decode cX5_right 9 = .ok (.invokestatic 81, 3) := by decide +kernel
theorem dX5_right_12 : decode cX5_right 12 = .ok (.ifCond .eq 42, 3) := by decide +kernel
theorem dX5_right_15 : decode cX5_right 15 = .ok (.iload_n 3, 1) := by decide +kernel
theorem dX5_right_16 : decode cX5_right 16 = .ok (.iconst (-1), 1) := by decide +kernel
theorem dX5_right_17 : decode cX5_right 17 = .ok (.if_icmp .eq 10, 3) := by decide +kernel
theorem dX5_right_20 : decode cX5_right 20 = .ok (.iload_n 3, 1) := by decide +kernel
theorem dX5_right_21 : decode cX5_right 21 = .ok (.invokestatic 81, 3) := by decide +kernel
theorem dX5_right_24 : decode cX5_right 24 = .ok (.ifCond .eq 30, 3) := by decide +kernel
theorem dX5_right_27 : decode cX5_right 27 = .ok (.iload 4, 2) := by decide +kernel
theorem dX5_right_29 : decode cX5_right 29 = .ok (.invokestatic 84, 3) := by decide +kernel
theorem dX5_right_32 : decode cX5_right 32 = .ok (.ifCond .eq 22, 3) := by decide +kernel
theorem dX5_right_35 : decode cX5_right 35 = .ok (.iload 5, 2) := by decide +kernel
theorem dX5_right_37 : decode cX5_right 37 = .ok (.invokestatic 84, 3) := by decide +kernel
theorem dX5_right_40 : decode cX5_right 40 = .ok (.ifCond .eq 14, 3) := by decide +kernel
theorem dX5_right_43 : decode cX5_right 43 = .ok (.iload 4, 2) := by decide +kernel
theorem dX5_right_45 : decode cX5_right 45 = .ok (.iload 5, 2) := by decide +kernel
theorem dX5_right_47 : decode cX5_right 47 = .ok (.if_icmp .gt 7, 3) := by decide +kernel
theorem dX5_right_50 : decode cX5_right 50 = .ok (.iconst 1, 1) := by decide +kernel
theorem dX5_right_51 : decode cX5_right 51 = .ok (.goto 4, 3) := by decide +kernel
theorem dX5_right_54 : decode cX5_right 54 = .ok (.iconst 0, 1) := by decide +kernel
theorem dX5_right_55 : decode cX5_right 55 = .ok (.istore 6, 2) := by decide +kernel
theorem dX5_right_57 : decode cX5_right 57 = .ok (.aload_n 0, 1) := by decide +kernel
theorem dX5_right_58 : decode cX5_right 58 = .ok (.iload 6, 2) := by decide +kernel
theorem dX5_right_60 : decode cX5_right 60 = .ok (.ifCond .ne 7, 3) := by decide +kernel
theorem dX5_right_63 : decode cX5_right 63 = .ok (.iconst 1, 1) := by decide +kernel
theorem dX5_right_64 : decode cX5_right 64 = .ok (.goto 17, 3) := by decide +kernel
theorem dX5_right_67 : decode cX5_right 67 = .ok (.aload_n 0, 1) := by decide +kernel
theorem dX5_right_68 : decode cX5_right 68 = .ok (.getfield 87, 3) := by decide +kernel
theorem dX5_right_71 : decode cX5_right 71 = .ok (.bipush 60, 2) := by decide +kernel
theorem dX5_right_73 : decode cX5_right 73 = .ok (.if_icmp .ne 7, 3) := by decide +kernel
theorem dX5_right_76 : decode cX5_right 76 = .ok (.iconst 2, 1) := by decide +kernel
theorem dX5_right_77 : decode cX5_right 77 = .ok (.goto 4, 3) := by decide +kernel
theorem dX5_right_80 : decode cX5_right 80 = .ok (.iconst 0, 1) := by decide +kernel
theorem dX5_right_81 : decode cX5_right 81 = .ok (.putfield 66, 3) := by decide +kernel
theorem dX5_right_84 : decode cX5_right 84 = .ok (.aload_n 0, 1) := by decide +kernel
theorem dX5_right_85 : decode cX5_right 85 = .ok (.getfield 66, 3) := by decide +kernel
theorem dX5_right_88 : decode cX5_right 88 = .ok (.ifCond .le 5, 3) := by decide +kernel
theorem dX5_right_91 : decode cX5_right 91 = .ok (.iconst 0, 1) := by decide +kernel
theorem dX5_right_92 : decode cX5_right 92 = .ok (.ireturn, 1) := by decide +kernel
theorem dX5_right_93 : decode cX5_right 93 = .ok (.aload_n 0, 1) := by decide +kernel
theorem dX5_right_94 : decode cX5_right 94 = .ok (.getfield 22, 3) := by decide +kernel
theorem dX5_right_97 : decode cX5_right 97 = .ok (.aload_n 0, 1) := by decide +kernel
theorem dX5_right_98 : decode cX5_right 98 = .ok (.getfield 87, 3) := by decide +kernel
theorem dX5_right_101 : decode cX5_right 101 = .ok (.iload_n 1, 1) := by decide +kernel
theorem dX5_right_102 : decode cX5_right 102 = .ok (.iastore, 1) := by decide +kernel
theorem dX5_right_103 : decode cX5_right 103 = .ok (.aload_n 0, 1) := by decide +kernel
theorem dX5_right_104 : decode cX5_right 104 = .ok (.getfield 25, 3) := by decide +kernel
theorem dX5_right_107 : decode cX5_right 107 = .ok (.aload_n 0, 1) := by decide +kernel
theorem dX5_right_108 : decode cX5_right 108 = .ok (.getfield 87, 3) := by decide +kernel
theorem dX5_right_111 : decode cX5_right 111 = .ok (.iload_n 2, 1) := by decide +kernel
theorem dX5_right_112 : decode cX5_right 112 = .ok (.iastore, 1) := by decide +kernel
theorem dX5_right_113 : decode cX5_right 113 = .ok (.aload_n 0, 1) := by decide +kernel
theorem dX5_right_114 : decode cX5_right 114 = .ok (.getfield 28, 3) := by decide +kernel
theorem dX5_right_117 : decode cX5_right 117 = .ok (.aload_n 0, 1) := by decide +kernel
theorem dX5_right_118 : decode cX5_right 118 = .ok (.getfield 87, 3) := by decide +kernel
theorem dX5_right_121 : decode cX5_right 121 = .ok (.iload_n 3, 1) := by decide +kernel
theorem dX5_right_122 : decode cX5_right 122 = .ok (.iastore, 1) := by decide +kernel
theorem dX5_right_123 : decode cX5_right 123 = .ok (.aload_n 0, 1) := by decide +kernel
theorem dX5_right_124 : decode cX5_right 124 = .ok (.getfield 31, 3) := by decide +kernel
theorem dX5_right_127 : decode cX5_right 127 = .ok (.aload_n 0, 1) := by decide +kernel
theorem dX5_right_128 : decode cX5_right 128 = .ok (.getfield 87, 3) := by decide +kernel
theorem dX5_right_131 : decode cX5_right 131 = .ok (.iload 4, 2) := by decide +kernel
theorem dX5_right_133 : decode cX5_right 133 = .ok (.iastore, 1) := by decide +kernel
theorem dX5_right_134 : decode cX5_right 134 = .ok (.aload_n 0, 1) := by decide +kernel
theorem dX5_right_135 : decode cX5_right 135 = .ok (.getfield 34, 3) := by decide +kernel
theorem dX5_right_138 : decode cX5_right 138 = .ok (.aload_n 0, 1) := by decide +kernel
theorem dX5_right_139 : decode cX5_right 139 = .ok (.getfield 87, 3) := by decide +kernel
theorem dX5_right_142 : decode cX5_right 142 = .ok (.iload 5, 2) := by decide +kernel
theorem dX5_right_144 : decode cX5_right 144 = .ok (.iastore, 1) := by decide +kernel
theorem dX5_right_145 : decode cX5_right 145 = .ok (.aload_n 0, 1) := by decide +kernel
theorem dX5_right_146 : decode cX5_right 146 = .ok (.dup, 1) := by decide +kernel
theorem dX5_right_147 : decode cX5_right 147 = .ok (.getfield 87, 3) := by decide +kernel
theorem dX5_right_150 : decode cX5_right 150 = .ok (.iconst 1, 1) := by decide +kernel
theorem dX5_right_151 : decode cX5_right 151 = .ok (.iadd, 1) := by decide +kernel
theorem dX5_right_152 : decode cX5_right 152 = .ok (.putfield 87, 3) := by decide +kernel
theorem dX5_right_155 : decode cX5_right 155 = .ok (.aload_n 0, 1) := by decide +kernel
theorem dX5_right_156 : decode cX5_right 156 = .ok (.getfield 87, 3) := by decide +kernel
theorem dX5_right_159 : decode cX5_right 159 = .ok (.ireturn, 1) := by decide +kernel
theorem dX5_isForbidden_0 : decode cX5_isForbidden 0 = .ok (.aload_n 0, 1) := by decide +kernel
theorem dX5_isForbidden_1 : decode cX5_isForbidden 1 = .ok (.getfield 13, 3) := by decide +kernel
theorem dX5_isForbidden_4 : decode cX5_isForbidden 4 = .ok (.iload_n 1, 1) := by decide +kernel
theorem dX5_isForbidden_5 : decode cX5_isForbidden 5 = .ok (.iaload, 1) := by decide +kernel
theorem dX5_isForbidden_6 : decode cX5_isForbidden 6 = .ok (.iload_n 2, 1) := by decide +kernel
theorem dX5_isForbidden_7 : decode cX5_isForbidden 7 = .ok (.ishr, 1) := by decide +kernel
theorem dX5_isForbidden_8 : decode cX5_isForbidden 8 = .ok (.iconst 1, 1) := by decide +kernel
theorem dX5_isForbidden_9 : decode cX5_isForbidden 9 = .ok (.iand, 1) := by decide +kernel
theorem dX5_isForbidden_10 : decode cX5_isForbidden 10 = .ok (.iconst 1, 1) := by decide +kernel
theorem dX5_isForbidden_11 : decode cX5_isForbidden 11 = .ok (.if_icmp .ne 7, 3) := by decide +kernel
theorem dX5_isForbidden_14 : decode cX5_isForbidden 14 = .ok (.iconst 1, 1) := by decide +kernel
theorem dX5_isForbidden_15 : decode cX5_isForbidden 15 = .ok (.goto 4, 3) := by decide +kernel
theorem dX5_isForbidden_18 : decode cX5_isForbidden 18 = .ok (.iconst 0, 1) := by decide +kernel
theorem dX5_isForbidden_19 : decode cX5_isForbidden 19 = .ok (.ireturn, 1) := by decide +kernel
theorem dX5_forbid_0 : decode cX5_forbid 0 = .ok (.aload_n 0, 1) := by decide +kernel
theorem dX5_forbid_1 : decode cX5_forbid 1 = .ok (.iconst 0, 1) := by decide +kernel
theorem dX5_forbid_2 : decode cX5_forbid 2 = .ok (.putfield 66, 3) := by decide +kernel
theorem dX5_forbid_5 : decode cX5_forbid 5 = .ok (.aload_n 0, 1) := by decide +kernel
theorem dX5_forbid_6 : decode cX5_forbid 6 = .ok (.iload_n 1, 1) := by decide +kernel
theorem dX5_forbid_7 : decode cX5_forbid 7 = .ok (.invokevirtual 77, 3) := by decide +kernel
theorem dX5_forbid_10 : decode cX5_forbid 10 = .ok (.ifCond .eq 20, 3) := by decide +kernel
theorem dX5_forbid_13 : decode cX5_forbid 13 = .ok (.iload_n 2, 1) := by decide +kernel
theorem dX5_forbid_14 : decode cX5_forbid 14 = .ok (.invokestatic 81, 3) := by decide +kernel
theorem dX5_forbid_17 : decode cX5_forbid 17 = .ok (.ifCond .eq 13, 3) := by decide +kernel
theorem dX5_forbid_20 : decode cX5_forbid 20 = .ok (.aload_n 0, 1) := by decide +kernel
theorem dX5_forbid_21 : decode cX5_forbid 21 = .ok (.iload_n 1, 1) := by decide +kernel
theorem dX5_forbid_22 : decode cX5_forbid 22 = .ok (.iload_n 2, 1) := by decide +kernel
theorem dX5_forbid_23 : decode cX5_forbid 23 = .ok (.invokevirtual 90, 3) := by decide +kernel
theorem dX5_forbid_26 : decode cX5_forbid 26 = .ok (.iload_n 3, 1) := by decide +kernel
theorem dX5_forbid_27 : decode cX5_forbid 27 = .ok (.if_icmp .ne 5, 3) := by decide +kernel
theorem dX5_forbid_30 : decode cX5_forbid 30 = .ok (.iconst 0, 1) := by decide +kernel
theorem dX5_forbid_31 : decode cX5_forbid 31 = .ok (.ireturn, 1) := by decide +kernel
theorem dX5_forbid_32 : decode cX5_forbid 32 = .ok (.aload_n 0, 1) := by decide +kernel
theorem dX5_forbid_33 : decode cX5_forbid 33 = .ok (.getfield 13, 3) := by decide +kernel
theorem dX5_forbid_36 : decode cX5_forbid 36 = .ok (.iload_n 1, 1) := by decide +kernel
theorem dX5_forbid_37 : decode cX5_forbid 37 = .ok (.dup2, 1) := by decide +kernel
theorem dX5_forbid_38 : decode cX5_forbid 38 = .ok (.iaload, 1) := by decide +kernel
theorem dX5_forbid_39 : decode cX5_forbid 39 = .ok (.iload_n 3, 1) := by decide +kernel
theorem dX5_forbid_40 : decode cX5_forbid 40 = .ok (.ifCond .eq 9, 3) := by decide +kernel
theorem dX5_forbid_43 : decode cX5_forbid 43 = .ok (.iconst 1, 1) := by decide +kernel
theorem dX5_forbid_44 : decode cX5_forbid 44 = .ok (.iload_n 2, 1) := by decide +kernel
theorem dX5_forbid_45 : decode cX5_forbid 45 = .ok (.ishl, 1) := by decide +kernel
theorem dX5_forbid_46 : decode cX5_forbid 46 = .ok (.goto 7, 3) := by decide +kernel
theorem dX5_forbid_49 : decode cX5_forbid 49 = .ok (.iconst 1, 1) := by decide +kernel
theorem dX5_forbid_50 : decode cX5_forbid 50 = .ok (.iload_n 2, 1) := by decide +kernel
theorem dX5_forbid_51 : decode cX5_forbid 51 = .ok (.ishl, 1) := by decide +kernel
theorem dX5_forbid_52 : decode cX5_forbid 52 = .ok (.ineg, 1) := by decide +kernel
theorem dX5_forbid_53 : decode cX5_forbid 53 = .ok (.iadd, 1) := by decide +kernel
theorem dX5_forbid_54 : decode cX5_forbid 54 = .ok (.iastore, 1) := by decide +kernel
theorem dX5_forbid_55 : decode cX5_forbid 55 = .ok (.iconst 1, 1) := by decide +kernel
theorem dX5_forbid_56 : decode cX5_forbid 56 = .ok (.ireturn, 1) := by decide +kernel
theorem dX5_reached_0 : decode cX5_reached 0 = .ok (.iconst 1, 1) := by decide +kernel
theorem dX5_reached_1 : decode cX5_reached 1 = .ok (.iload_n 1, 1) := by decide +kernel
theorem dX5_reached_2 : decode cX5_reached 2 = .ok (.ishl, 1) := by decide +kernel
theorem dX5_reached_3 : decode cX5_reached 3 = .ok (.istore_n 3, 1) := by decide +kernel
theorem dX5_reached_4 : decode cX5_reached 4 = .ok (.iconst 0, 1) := by decide +kernel
theorem dX5_reached_5 : decode cX5_reached 5 = .ok (.istore 4, 2) := by decide +kernel
theorem dX5_reached_7 : decode cX5_reached 7 = .ok (.iload 4, 2) := by decide +kernel
theorem dX5_reached_9 : decode cX5_reached 9 = .ok (.bipush 12, 2) := by decide +kernel
theorem dX5_reached_11 : decode cX5_reached 11 = .ok (.if_icmp .ge 93, 3) := by decide +kernel
theorem dX5_reached_14 : decode cX5_reached 14 = .ok (.iconst 0, 1) := by decide +kernel
theorem dX5_reached_15 : decode cX5_reached 15 = .ok (.istore 5, 2) := by decide +kernel
theorem dX5_reached_17 : decode cX5_reached 17 = .ok (.iload 5, 2) := by decide +kernel
theorem dX5_reached_19 : decode cX5_reached 19 = .ok (.aload_n 0, 1) := by decide +kernel
theorem dX5_reached_20 : decode cX5_reached 20 = .ok (.getfield 69, 3) := by decide +kernel
theorem dX5_reached_23 : decode cX5_reached 23 = .ok (.if_icmp .ge 75, 3) := by decide +kernel
theorem dX5_reached_26 : decode cX5_reached 26 = .ok (.iconst 0, 1) := by decide +kernel
theorem dX5_reached_27 : decode cX5_reached 27 = .ok (.istore 6, 2) := by decide +kernel
theorem dX5_reached_29 : decode cX5_reached 29 = .ok (.iload 6, 2) := by decide +kernel
theorem dX5_reached_31 : decode cX5_reached 31 = .ok (.aload_n 0, 1) := by decide +kernel
theorem dX5_reached_32 : decode cX5_reached 32 = .ok (.getfield 69, 3) := by decide +kernel
theorem dX5_reached_35 : decode cX5_reached 35 = .ok (.if_icmp .ge 57, 3) := by decide +kernel
theorem dX5_reached_38 : decode cX5_reached 38 = .ok (.iload_n 3, 1) := by decide +kernel
theorem dX5_reached_39 : decode cX5_reached 39 = .ok (.iload 5, 2) := by decide +kernel
theorem dX5_reached_41 : decode cX5_reached 41 = .ok (.ishr, 1) := by decide +kernel
theorem dX5_reached_42 : decode cX5_reached 42 = .ok (.iconst 1, 1) := by decide +kernel
theorem dX5_reached_43 : decode cX5_reached 43 = .ok (.iand, 1) := by decide +kernel
theorem dX5_reached_44 : decode cX5_reached 44 = .ok (.iconst 1, 1) := by decide +kernel
theorem dX5_reached_45 : decode cX5_reached 45 = .ok (.if_icmp .ne 47, 3) := by decide +kernel
theorem dX5_reached_48 : decode cX5_reached 48 = .ok (.aload_n 0, 1) := by decide +kernel
theorem dX5_reached_49 : decode cX5_reached 49 = .ok (.getfield 7, 3) := by decide +kernel
theorem dX5_reached_52 : decode cX5_reached 52 = .ok (.iload 5, 2) := by decide +kernel
theorem dX5_reached_54 : decode cX5_reached 54 = .ok (.iaload, 1) := by decide +kernel
theorem dX5_reached_55 : decode cX5_reached 55 = .ok (.iload 6, 2) := by decide +kernel
theorem dX5_reached_57 : decode cX5_reached 57 = .ok (.ishr, 1) := by decide +kernel
theorem dX5_reached_58 : decode cX5_reached 58 = .ok (.iconst 1, 1) := by decide +kernel
theorem dX5_reached_59 : decode cX5_reached 59 = .ok (.iand, 1) := by decide +kernel
theorem dX5_reached_60 : decode cX5_reached 60 = .ok (.iconst 1, 1) := by decide +kernel
theorem dX5_reached_61 : decode cX5_reached 61 = .ok (.if_icmp .ne 25, 3) := by decide +kernel
theorem dX5_reached_64 : decode cX5_reached 64 = .ok (.iload_n 2, 1) := by decide +kernel
theorem dX5_reached_65 : decode cX5_reached 65 = .ok (.iconst (-1), 1) := by decide +kernel
theorem dX5_reached_66 : decode cX5_reached 66 = .ok (.if_icmp .eq 13, 3) := by decide +kernel
theorem dX5_reached_69 : decode cX5_reached 69 = .ok (.aload_n 0, 1) := by decide +kernel
theorem dX5_reached_70 : decode cX5_reached 70 = .ok (.iload 6, 2) := by decide +kernel
theorem dX5_reached_72 : decode cX5_reached 72 = .ok (.iload_n 2, 1) := by decide +kernel
theorem dX5_reached_73 : decode cX5_reached 73 = .ok (.invokevirtual 94, 3) := by decide +kernel
theorem dX5_reached_76 : decode cX5_reached 76 = .ok (.ifCond .eq 10, 3) := by decide +kernel
theorem dX5_reached_79 : decode cX5_reached 79 = .ok (.iload_n 3, 1) := by decide +kernel
theorem dX5_reached_80 : decode cX5_reached 80 = .ok (.iconst 1, 1) := by decide +kernel
theorem dX5_reached_81 : decode cX5_reached 81 = .ok (.iload 6, 2) := by decide +kernel
theorem dX5_reached_83 : decode cX5_reached 83 = .ok (.ishl, 1) := by decide +kernel
theorem dX5_reached_84 : decode cX5_reached 84 = .ok (.ior, 1) := by decide +kernel
theorem dX5_reached_85 : decode cX5_reached 85 = .ok (.istore_n 3, 1) := by decide +kernel
theorem dX5_reached_86 : decode cX5_reached 86 = .ok (.iinc 6 1, 3) := by decide +kernel
theorem dX5_reached_89 : decode cX5_reached 89 = .ok (.goto (-60), 3) := by decide +kernel
theorem dX5_reached_92 : decode cX5_reached 92 = .ok (.iinc 5 1, 3) := by decide +kernel
theorem dX5_reached_95 : decode cX5_reached 95 = .ok (.goto (-78), 3) := by decide +kernel
theorem dX5_reached_98 : decode cX5_reached 98 = .ok (.iinc 4 1, 3) := by decide +kernel
theorem dX5_reached_101 : decode cX5_reached 101 = .ok (.goto (-94), 3) := by decide +kernel
theorem dX5_reached_104 : decode cX5_reached 104 = .ok (.iload_n 3, 1) := by decide +kernel
theorem dX5_reached_105 : decode cX5_reached 105 = .ok (.ireturn, 1) := by decide +kernel
theorem dX5_bits_0 : decode cX5_bits 0 = .ok (.iconst 0, 1) := by decide +kernel
theorem dX5_bits_1 : decode cX5_bits 1 = .ok (.istore_n 1, 1) := by decide +kernel
theorem dX5_bits_2 : decode cX5_bits 2 = .ok (.iconst 0, 1) := by decide +kernel
theorem dX5_bits_3 : decode cX5_bits 3 = .ok (.istore_n 2, 1) := by decide +kernel
theorem dX5_bits_4 : decode cX5_bits 4 = .ok (.iload_n 2, 1) := by decide +kernel
theorem dX5_bits_5 : decode cX5_bits 5 = .ok (.bipush 12, 2) := by decide +kernel
theorem dX5_bits_7 : decode cX5_bits 7 = .ok (.if_icmp .ge 17, 3) := by decide +kernel
theorem dX5_bits_10 : decode cX5_bits 10 = .ok (.iload_n 1, 1) := by decide +kernel
theorem dX5_bits_11 : decode cX5_bits 11 = .ok (.iload_n 0, 1) := by decide +kernel
theorem dX5_bits_12 : decode cX5_bits 12 = .ok (.iload_n 2, 1) := by decide +kernel
theorem dX5_bits_13 : decode cX5_bits 13 = .ok (.ishr, 1) := by decide +kernel
theorem dX5_bits_14 : decode cX5_bits 14 = .ok (.iconst 1, 1) := by decide +kernel
theorem dX5_bits_15 : decode cX5_bits 15 = .ok (.iand, 1) := by decide +kernel
theorem dX5_bits_16 : decode cX5_bits 16 = .ok (.iadd, 1) := by decide +kernel
theorem dX5_bits_17 : decode cX5_bits 17 = .ok (.istore_n 1, 1) := by decide +kernel
theorem dX5_bits_18 : decode cX5_bits 18 = .ok (.iinc 2 1, 3) := by decide +kernel
theorem dX5_bits_21 : decode cX5_bits 21 = .ok (.goto (-17), 3) := by decide +kernel
theorem dX5_bits_24 : decode cX5_bits 24 = .ok (.iload_n 1, 1) := by decide +kernel
theorem dX5_bits_25 : decode cX5_bits 25 = .ok (.ireturn, 1) := by decide +kernel
theorem dX5_areTwo_0 : decode cX5_areTwo 0 = .ok (.aload_n 0, 1) := by decide +kernel
theorem dX5_areTwo_1 : decode cX5_areTwo 1 = .ok (.iload_n 1, 1) := by decide +kernel
theorem dX5_areTwo_2 : decode cX5_areTwo 2 = .ok (.invokevirtual 77, 3) := by decide +kernel
theorem dX5_areTwo_5 : decode cX5_areTwo 5 = .ok (.ifCond .eq 20, 3) := by decide +kernel
theorem dX5_areTwo_8 : decode cX5_areTwo 8 = .ok (.aload_n 0, 1) := by decide +kernel
theorem dX5_areTwo_9 : decode cX5_areTwo 9 = .ok (.iload_n 2, 1) := by decide +kernel
theorem dX5_areTwo_10 : decode cX5_areTwo 10 = .ok (.invokevirtual 77, 3) := by decide +kernel
theorem dX5_areTwo_13 : decode cX5_areTwo 13 = .ok (.ifCond .eq 12, 3) := by decide +kernel
theorem dX5_areTwo_16 : decode cX5_areTwo 16 = .ok (.iload_n 1, 1) := by decide +kernel
theorem dX5_areTwo_17 : decode cX5_areTwo 17 = .ok (.iload_n 2, 1) := by decide +kernel
theorem dX5_areTwo_18 : decode cX5_areTwo 18 = .ok (.if_icmp .eq 7, 3) := by decide +kernel
theorem dX5_areTwo_21 : decode cX5_areTwo 21 = .ok (.iconst 1, 1) := by decide +kernel
theorem dX5_areTwo_22 : decode cX5_areTwo 22 = .ok (.goto 4, 3) := by decide +kernel
theorem dX5_areTwo_25 : decode cX5_areTwo 25 = .ok (.iconst 0, 1) := by decide +kernel
theorem dX5_areTwo_26 : decode cX5_areTwo 26 = .ok (.ireturn, 1) := by decide +kernel
theorem dX5_group_0 : decode cX5_group 0 = .ok (.aload_n 0, 1) := by decide +kernel
theorem dX5_group_1 : decode cX5_group 1 = .ok (.aload_n 0, 1) := by decide +kernel
theorem dX5_group_2 : decode cX5_group 2 = .ok (.iload_n 1, 1) := by decide +kernel
theorem dX5_group_3 : decode cX5_group 3 = .ok (.iload_n 2, 1) := by decide +kernel
theorem dX5_group_4 : decode cX5_group 4 = .ok (.invokevirtual 97, 3) := by decide +kernel
theorem dX5_group_7 : decode cX5_group 7 = .ok (.ifCond .eq 7, 3) := by decide +kernel
theorem dX5_group_10 : decode cX5_group 10 = .ok (.iconst 0, 1) := by decide +kernel
theorem dX5_group_11 : decode cX5_group 11 = .ok (.goto 4, 3) := by decide +kernel
theorem dX5_group_14 : decode cX5_group 14 = .ok (.iconst 1, 1) := by decide +kernel
theorem dX5_group_15 : decode cX5_group 15 = .ok (.putfield 66, 3) := by decide +kernel
theorem dX5_group_18 : decode cX5_group 18 = .ok (.aload_n 0, 1) := by decide +kernel
theorem dX5_group_19 : decode cX5_group 19 = .ok (.getfield 66, 3) := by decide +kernel
theorem dX5_group_22 : decode cX5_group 22 = .ok (.ifCond .gt 44, 3) := by decide +kernel
theorem dX5_group_25 : decode cX5_group 25 = .ok (.aload_n 0, 1) := by decide +kernel
theorem dX5_group_26 : decode cX5_group 26 = .ok (.getfield 7, 3) := by decide +kernel
theorem dX5_group_29 : decode cX5_group 29 = .ok (.iload_n 1, 1) := by decide +kernel
theorem dX5_group_30 : decode cX5_group 30 = .ok (.iaload, 1) := by decide +kernel
theorem dX5_group_31 : decode cX5_group 31 = .ok (.iload_n 2, 1) := by decide +kernel
theorem dX5_group_32 : decode cX5_group 32 = .ok (.ishr, 1) := by decide +kernel
theorem dX5_group_33 : decode cX5_group 33 = .ok (.iconst 1, 1) := by decide +kernel
theorem dX5_group_34 : decode cX5_group 34 = .ok (.iand, 1) := by decide +kernel
theorem dX5_group_35 : decode cX5_group 35 = .ok (.iconst 1, 1) := by decide +kernel
theorem dX5_group_36 : decode cX5_group 36 = .ok (.if_icmp .eq 30, 3) := by decide +kernel
theorem dX5_group_39 : decode cX5_group 39 = .ok (.aload_n 0, 1) := by decide +kernel
theorem dX5_group_40 : decode cX5_group 40 = .ok (.getfield 7, 3) := by decide +kernel
theorem dX5_group_43 : decode cX5_group 43 = .ok (.iload_n 1, 1) := by decide +kernel
theorem dX5_group_44 : decode cX5_group 44 = .ok (.iaload, 1) := by decide +kernel
theorem dX5_group_45 : decode cX5_group 45 = .ok (.invokestatic 100, 3) := by decide +kernel
theorem dX5_group_48 : decode cX5_group 48 = .ok (.iconst 4, 1) := by decide +kernel
theorem dX5_group_49 : decode cX5_group 49 = .ok (.if_icmp .eq 17, 3) := by decide +kernel
theorem dX5_group_52 : decode cX5_group 52 = .ok (.aload_n 0, 1) := by decide +kernel
theorem dX5_group_53 : decode cX5_group 53 = .ok (.iload_n 2, 1) := by decide +kernel
theorem dX5_group_54 : decode cX5_group 54 = .ok (.iconst (-1), 1) := by decide +kernel
theorem dX5_group_55 : decode cX5_group 55 = .ok (.invokevirtual 104, 3) := by decide +kernel
theorem dX5_group_58 : decode cX5_group 58 = .ok (.iload_n 1, 1) := by decide +kernel
theorem dX5_group_59 : decode cX5_group 59 = .ok (.ishr, 1) := by decide +kernel
theorem dX5_group_60 : decode cX5_group 60 = .ok (.iconst 1, 1) := by decide +kernel
theorem dX5_group_61 : decode cX5_group 61 = .ok (.iand, 1) := by decide +kernel
theorem dX5_group_62 : decode cX5_group 62 = .ok (.iconst 1, 1) := by decide +kernel
theorem dX5_group_63 : decode cX5_group 63 = .ok (.if_icmp .ne 5, 3) := by decide +kernel
theorem dX5_group_66 : decode cX5_group 66 = .ok (.iconst 0, 1) := by decide +kernel
theorem dX5_group_67 : decode cX5_group 67 = .ok (.ireturn, 1) := by decide +kernel
theorem dX5_group_68 : decode cX5_group 68 = .ok (.aload_n 0, 1) := by decide +kernel
theorem dX5_group_69 : decode cX5_group 69 = .ok (.getfield 7, 3) := by decide +kernel
theorem dX5_group_72 : decode cX5_group 72 = .ok (.iload_n 1, 1) := by decide +kernel
theorem dX5_group_73 : decode cX5_group 73 = .ok (.dup2, 1) := by decide +kernel
theorem dX5_group_74 : decode cX5_group 74 = .ok (.iaload, 1) := by decide +kernel
theorem dX5_group_75 : decode cX5_group 75 = .ok (.iconst 1, 1) := by decide +kernel
theorem dX5_group_76 : decode cX5_group 76 = .ok (.iload_n 2, 1) := by decide +kernel
theorem dX5_group_77 : decode cX5_group 77 = .ok (.ishl, 1) := by decide +kernel
theorem dX5_group_78 : decode cX5_group 78 = .ok (.ior, 1) := by decide +kernel
theorem dX5_group_79 : decode cX5_group 79 = .ok (.iastore, 1) := by decide +kernel
theorem dX5_group_80 : decode cX5_group 80 = .ok (.iconst 1, 1) := by decide +kernel
theorem dX5_group_81 : decode cX5_group 81 = .ok (.ireturn, 1) := by decide +kernel
theorem dX5_withDeputy_0 : decode cX5_withDeputy 0 = .ok (.iconst (-1), 1) := by decide +kernel
theorem dX5_withDeputy_1 : decode cX5_withDeputy 1 = .ok (.istore_n 2, 1) := by decide +kernel
theorem dX5_withDeputy_2 : decode cX5_withDeputy 2 = .ok (.iconst 0, 1) := by decide +kernel
theorem dX5_withDeputy_3 : decode cX5_withDeputy 3 = .ok (.istore_n 3, 1) := by decide +kernel
theorem dX5_withDeputy_4 : decode cX5_withDeputy 4 = .ok (.iload_n 3, 1) := by decide +kernel
theorem dX5_withDeputy_5 : decode cX5_withDeputy 5 = .ok (.aload_n 0, 1) := by decide +kernel
theorem dX5_withDeputy_6 : decode cX5_withDeputy 6 = .ok (.getfield 69, 3) := by decide +kernel
theorem dX5_withDeputy_9 : decode cX5_withDeputy 9 = .ok (.if_icmp .ge 25, 3) := by decide +kernel
theorem dX5_withDeputy_12 : decode cX5_withDeputy 12 = .ok (.aload_n 0, 1) := by decide +kernel
theorem dX5_withDeputy_13 : decode cX5_withDeputy 13 = .ok (.getfield 16, 3) := by decide +kernel
theorem dX5_withDeputy_16 : decode cX5_withDeputy 16 = .ok (.iload_n 3, 1) := by decide +kernel
theorem dX5_withDeputy_17 : decode cX5_withDeputy 17 = .ok (.iaload, 1) := by decide +kernel
theorem dX5_withDeputy_18 : decode cX5_withDeputy 18 = .ok (.iload_n 1, 1) := by decide +kernel
theorem dX5_withDeputy_19 : decode cX5_withDeputy 19 = .ok (.if_icmp .ne 7, 3) := by decide +kernel
theorem dX5_withDeputy_22 : decode cX5_withDeputy 22 = .ok (.iload_n 3, 1) := by decide +kernel
theorem dX5_withDeputy_23 : decode cX5_withDeputy 23 = .ok (.goto 4, 3) := by decide +kernel
theorem dX5_withDeputy_26 : decode cX5_withDeputy 26 = .ok (.iload_n 2, 1) := by decide +kernel
theorem dX5_withDeputy_27 : decode cX5_withDeputy 27 = .ok (.istore_n 2, 1) := by decide +kernel
theorem dX5_withDeputy_28 : decode cX5_withDeputy 28 = .ok (.iinc 3 1, 3) := by decide +kernel
theorem dX5_withDeputy_31 : decode cX5_withDeputy 31 = .ok (.goto (-27), 3) := by decide +kernel
theorem dX5_withDeputy_34 : decode cX5_withDeputy 34 = .ok (.iload_n 2, 1) := by decide +kernel
theorem dX5_withDeputy_35 : decode cX5_withDeputy 35 = .ok (.ireturn, 1) := by decide +kernel
theorem dX5_deputy_0 : decode cX5_deputy 0 = .ok (.aload_n 0, 1) := by decide +kernel
theorem dX5_deputy_1 : decode cX5_deputy 1 = .ok (.aload_n 0, 1) := by decide +kernel
theorem dX5_deputy_2 : decode cX5_deputy 2 = .ok (.iload_n 1, 1) := by decide +kernel
theorem dX5_deputy_3 : decode cX5_deputy 3 = .ok (.iload_n 2, 1) := by decide +kernel
theorem dX5_deputy_4 : decode cX5_deputy 4 = .ok (.invokevirtual 97, 3) := by decide +kernel
theorem dX5_deputy_7 : decode cX5_deputy 7 = .ok (.ifCond .eq 7, 3) := by decide +kernel
theorem dX5_deputy_10 : decode cX5_deputy 10 = .ok (.iconst 0, 1) := by decide +kernel
theorem dX5_deputy_11 : decode cX5_deputy 11 = .ok (.goto 4, 3) := by decide +kernel
theorem dX5_deputy_14 : decode cX5_deputy 14 = .ok (.iconst 1, 1) := by decide +kernel
theorem dX5_deputy_15 : decode cX5_deputy 15 = .ok (.putfield 66, 3) := by decide +kernel
theorem dX5_deputy_18 : decode cX5_deputy 18 = .ok (.aload_n 0, 1) := by decide +kernel
theorem dX5_deputy_19 : decode cX5_deputy 19 = .ok (.getfield 66, 3) := by decide +kernel
theorem dX5_deputy_22 : decode cX5_deputy 22 = .ok (.ifCond .gt 37, 3) := by decide +kernel
theorem dX5_deputy_25 : decode cX5_deputy 25 = .ok (.aload_n 0, 1) := by decide +kernel
theorem dX5_deputy_26 : decode cX5_deputy 26 = .ok (.getfield 16, 3) := by decide +kernel
theorem dX5_deputy_29 : decode cX5_deputy 29 = .ok (.iload_n 1, 1) := by decide +kernel
theorem dX5_deputy_30 : decode cX5_deputy 30 = .ok (.iaload, 1) := by decide +kernel
theorem dX5_deputy_31 : decode cX5_deputy 31 = .ok (.ifCond .ge 28, 3) := by decide +kernel
theorem dX5_deputy_34 : decode cX5_deputy 34 = .ok (.aload_n 0, 1) := by decide +kernel
theorem dX5_deputy_35 : decode cX5_deputy 35 = .ok (.getfield 16, 3) := by decide +kernel
theorem dX5_deputy_38 : decode cX5_deputy 38 = .ok (.iload_n 2, 1) := by decide +kernel
theorem dX5_deputy_39 : decode cX5_deputy 39 = .ok (.iaload, 1) := by decide +kernel
theorem dX5_deputy_40 : decode cX5_deputy 40 = .ok (.ifCond .ge 19, 3) := by decide +kernel
theorem dX5_deputy_43 : decode cX5_deputy 43 = .ok (.aload_n 0, 1) := by decide +kernel
theorem dX5_deputy_44 : decode cX5_deputy 44 = .ok (.iload_n 1, 1) := by decide +kernel
theorem dX5_deputy_45 : decode cX5_deputy 45 = .ok (.invokevirtual 108, 3) := by decide +kernel
theorem dX5_deputy_48 : decode cX5_deputy 48 = .ok (.ifCond .ge 11, 3) := by decide +kernel
theorem dX5_deputy_51 : decode cX5_deputy 51 = .ok (.aload_n 0, 1) := by decide +kernel
theorem dX5_deputy_52 : decode cX5_deputy 52 = .ok (.iload_n 2, 1) := by decide +kernel
theorem dX5_deputy_53 : decode cX5_deputy 53 = .ok (.invokevirtual 108, 3) := by decide +kernel
theorem dX5_deputy_56 : decode cX5_deputy 56 = .ok (.ifCond .lt 5, 3) := by decide +kernel
theorem dX5_deputy_59 : decode cX5_deputy 59 = .ok (.iconst 0, 1) := by decide +kernel
theorem dX5_deputy_60 : decode cX5_deputy 60 = .ok (.ireturn, 1) := by decide +kernel
theorem dX5_deputy_61 : decode cX5_deputy 61 = .ok (.aload_n 0, 1) := by decide +kernel
theorem dX5_deputy_62 : decode cX5_deputy 62 = .ok (.getfield 16, 3) := by decide +kernel
theorem dX5_deputy_65 : decode cX5_deputy 65 = .ok (.iload_n 2, 1) := by decide +kernel
theorem dX5_deputy_66 : decode cX5_deputy 66 = .ok (.iload_n 1, 1) := by decide +kernel
theorem dX5_deputy_67 : decode cX5_deputy 67 = .ok (.iastore, 1) := by decide +kernel
theorem dX5_deputy_68 : decode cX5_deputy 68 = .ok (.iconst 1, 1) := by decide +kernel
theorem dX5_deputy_69 : decode cX5_deputy 69 = .ok (.ireturn, 1) := by decide +kernel
theorem dX5_mandate_0 : decode cX5_mandate 0 = .ok (.aload_n 0, 1) := by decide +kernel
theorem dX5_mandate_1 : decode cX5_mandate 1 = .ok (.aload_n 0, 1) := by decide +kernel
theorem dX5_mandate_2 : decode cX5_mandate 2 = .ok (.iload_n 1, 1) := by decide +kernel
theorem dX5_mandate_3 : decode cX5_mandate 3 = .ok (.iload_n 2, 1) := by decide +kernel
theorem dX5_mandate_4 : decode cX5_mandate 4 = .ok (.invokevirtual 97, 3) := by decide +kernel
theorem dX5_mandate_7 : decode cX5_mandate 7 = .ok (.ifCond .eq 11, 3) := by decide +kernel
theorem dX5_mandate_10 : decode cX5_mandate 10 = .ok (.iload 4, 2) := by decide +kernel
theorem dX5_mandate_12 : decode cX5_mandate 12 = .ok (.invokestatic 84, 3) := by decide +kernel
theorem dX5_mandate_15 : decode cX5_mandate 15 = .ok (.ifCond .ne 7, 3) := by decide +kernel
theorem dX5_mandate_18 : decode cX5_mandate 18 = .ok (.iconst 1, 1) := by decide +kernel
theorem dX5_mandate_19 : decode cX5_mandate 19 = .ok (.goto 17, 3) := by decide +kernel
theorem dX5_mandate_22 : decode cX5_mandate 22 = .ok (.aload_n 0, 1) := by decide +kernel
theorem dX5_mandate_23 : decode cX5_mandate 23 = .ok (.getfield 111, 3) := by decide +kernel
theorem dX5_mandate_26 : decode cX5_mandate 26 = .ok (.bipush 60, 2) := by decide +kernel
theorem dX5_mandate_28 : decode cX5_mandate 28 = .ok (.if_icmp .ne 7, 3) := by decide +kernel
theorem dX5_mandate_31 : decode cX5_mandate 31 = .ok (.iconst 2, 1) := by decide +kernel
theorem dX5_mandate_32 : decode cX5_mandate 32 = .ok (.goto 4, 3) := by decide +kernel
theorem dX5_mandate_35 : decode cX5_mandate 35 = .ok (.iconst 0, 1) := by decide +kernel
theorem dX5_mandate_36 : decode cX5_mandate 36 = .ok (.putfield 66, 3) := by decide +kernel
theorem dX5_mandate_39 : decode cX5_mandate 39 = .ok (.aload_n 0, 1) := by decide +kernel
theorem dX5_mandate_40 : decode cX5_mandate 40 = .ok (.getfield 66, 3) := by decide +kernel
theorem dX5_mandate_43 : decode cX5_mandate 43 = .ok (.ifCond .le 5, 3) := by decide +kernel
theorem dX5_mandate_46 : decode cX5_mandate 46 = .ok (.iconst 0, 1) := by decide +kernel
theorem dX5_mandate_47 : decode cX5_mandate 47 = .ok (.ireturn, 1) := by decide +kernel
theorem dX5_mandate_48 : decode cX5_mandate 48 = .ok (.aload_n 0, 1) := by decide +kernel
theorem dX5_mandate_49 : decode cX5_mandate 49 = .ok (.getfield 37, 3) := by decide +kernel
theorem dX5_mandate_52 : decode cX5_mandate 52 = .ok (.aload_n 0, 1) := by decide +kernel
theorem dX5_mandate_53 : decode cX5_mandate 53 = .ok (.getfield 111, 3) := by decide +kernel
theorem dX5_mandate_56 : decode cX5_mandate 56 = .ok (.iload_n 1, 1) := by decide +kernel
theorem dX5_mandate_57 : decode cX5_mandate 57 = .ok (.iastore, 1) := by decide +kernel
theorem dX5_mandate_58 : decode cX5_mandate 58 = .ok (.aload_n 0, 1) := by decide +kernel
theorem dX5_mandate_59 : decode cX5_mandate 59 = .ok (.getfield 40, 3) := by decide +kernel
theorem dX5_mandate_62 : decode cX5_mandate 62 = .ok (.aload_n 0, 1) := by decide +kernel
theorem dX5_mandate_63 : decode cX5_mandate 63 = .ok (.getfield 111, 3) := by decide +kernel
theorem dX5_mandate_66 : decode cX5_mandate 66 = .ok (.iload_n 2, 1) := by decide +kernel
theorem dX5_mandate_67 : decode cX5_mandate 67 = .ok (.iastore, 1) := by decide +kernel
theorem dX5_mandate_68 : decode cX5_mandate 68 = .ok (.aload_n 0, 1) := by decide +kernel
theorem dX5_mandate_69 : decode cX5_mandate 69 = .ok (.getfield 43, 3) := by decide +kernel
theorem dX5_mandate_72 : decode cX5_mandate 72 = .ok (.aload_n 0, 1) := by decide +kernel
theorem dX5_mandate_73 : decode cX5_mandate 73 = .ok (.getfield 111, 3) := by decide +kernel
theorem dX5_mandate_76 : decode cX5_mandate 76 = .ok (.iload_n 3, 1) := by decide +kernel
theorem dX5_mandate_77 : decode cX5_mandate 77 = .ok (.bastore, 1) := by decide +kernel
theorem dX5_mandate_78 : decode cX5_mandate 78 = .ok (.aload_n 0, 1) := by decide +kernel
theorem dX5_mandate_79 : decode cX5_mandate 79 = .ok (.getfield 47, 3) := by decide +kernel
theorem dX5_mandate_82 : decode cX5_mandate 82 = .ok (.aload_n 0, 1) := by decide +kernel
theorem dX5_mandate_83 : decode cX5_mandate 83 = .ok (.getfield 111, 3) := by decide +kernel
theorem dX5_mandate_86 : decode cX5_mandate 86 = .ok (.iload 4, 2) := by decide +kernel
theorem dX5_mandate_88 : decode cX5_mandate 88 = .ok (.iastore, 1) := by decide +kernel
theorem dX5_mandate_89 : decode cX5_mandate 89 = .ok (.aload_n 0, 1) := by decide +kernel
theorem dX5_mandate_90 : decode cX5_mandate 90 = .ok (.dup, 1) := by decide +kernel
theorem dX5_mandate_91 : decode cX5_mandate 91 = .ok (.getfield 111, 3) := by decide +kernel
theorem dX5_mandate_94 : decode cX5_mandate 94 = .ok (.iconst 1, 1) := by decide +kernel
theorem dX5_mandate_95 : decode cX5_mandate 95 = .ok (.iadd, 1) := by decide +kernel
theorem dX5_mandate_96 : decode cX5_mandate 96 = .ok (.putfield 111, 3) := by decide +kernel
theorem dX5_mandate_99 : decode cX5_mandate 99 = .ok (.aload_n 0, 1) := by decide +kernel
theorem dX5_mandate_100 : decode cX5_mandate 100 = .ok (.getfield 111, 3) := by decide +kernel
theorem dX5_mandate_103 : decode cX5_mandate 103 = .ok (.ireturn, 1) := by decide +kernel
theorem dX5_suspend_0 : decode cX5_suspend 0 = .ok (.aload_n 0, 1) := by decide +kernel
theorem dX5_suspend_1 : decode cX5_suspend 1 = .ok (.aload_n 0, 1) := by decide +kernel
theorem dX5_suspend_2 : decode cX5_suspend 2 = .ok (.iload_n 1, 1) := by decide +kernel
theorem dX5_suspend_3 : decode cX5_suspend 3 = .ok (.invokevirtual 77, 3) := by decide +kernel
theorem dX5_suspend_6 : decode cX5_suspend 6 = .ok (.ifCond .eq 10, 3) := by decide +kernel
theorem dX5_suspend_9 : decode cX5_suspend 9 = .ok (.iload_n 2, 1) := by decide +kernel
theorem dX5_suspend_10 : decode cX5_suspend 10 = .ok (.invokestatic 84, 3) := by decide +kernel
theorem dX5_suspend_13 : decode cX5_suspend 13 = .ok (.ifCond .ne 7, 3) := by decide +kernel
theorem dX5_suspend_16 : decode cX5_suspend 16 = .ok (.iconst 1, 1) := by decide +kernel
theorem dX5_suspend_17 : decode cX5_suspend 17 = .ok (.goto 17, 3) := by decide +kernel
theorem dX5_suspend_20 : decode cX5_suspend 20 = .ok (.aload_n 0, 1) := by decide +kernel
theorem dX5_suspend_21 : decode cX5_suspend 21 = .ok (.getfield 114, 3) := by decide +kernel
theorem dX5_suspend_24 : decode cX5_suspend 24 = .ok (.bipush 60, 2) := by decide +kernel
theorem dX5_suspend_26 : decode cX5_suspend 26 = .ok (.if_icmp .ne 7, 3) := by decide +kernel
theorem dX5_suspend_29 : decode cX5_suspend 29 = .ok (.iconst 2, 1) := by decide +kernel
theorem dX5_suspend_30 : decode cX5_suspend 30 = .ok (.goto 4, 3) := by decide +kernel
theorem dX5_suspend_33 : decode cX5_suspend 33 = .ok (.iconst 0, 1) := by decide +kernel
theorem dX5_suspend_34 : decode cX5_suspend 34 = .ok (.putfield 66, 3) := by decide +kernel
theorem dX5_suspend_37 : decode cX5_suspend 37 = .ok (.aload_n 0, 1) := by decide +kernel
theorem dX5_suspend_38 : decode cX5_suspend 38 = .ok (.getfield 66, 3) := by decide +kernel
theorem dX5_suspend_41 : decode cX5_suspend 41 = .ok (.ifCond .le 5, 3) := by decide +kernel
theorem dX5_suspend_44 : decode cX5_suspend 44 = .ok (.iconst 0, 1) := by decide +kernel
theorem dX5_suspend_45 : decode cX5_suspend 45 = .ok (.ireturn, 1) := by decide +kernel
theorem dX5_suspend_46 : decode cX5_suspend 46 = .ok (.aload_n 0, 1) := by decide +kernel
theorem dX5_suspend_47 : decode cX5_suspend 47 = .ok (.getfield 50, 3) := by decide +kernel
theorem dX5_suspend_50 : decode cX5_suspend 50 = .ok (.aload_n 0, 1) := by decide +kernel
theorem dX5_suspend_51 : decode cX5_suspend 51 = .ok (.getfield 114, 3) := by decide +kernel
theorem dX5_suspend_54 : decode cX5_suspend 54 = .ok (.iload_n 1, 1) := by decide +kernel
theorem dX5_suspend_55 : decode cX5_suspend 55 = .ok (.iastore, 1) := by decide +kernel
theorem dX5_suspend_56 : decode cX5_suspend 56 = .ok (.aload_n 0, 1) := by decide +kernel
theorem dX5_suspend_57 : decode cX5_suspend 57 = .ok (.getfield 53, 3) := by decide +kernel
theorem dX5_suspend_60 : decode cX5_suspend 60 = .ok (.aload_n 0, 1) := by decide +kernel
theorem dX5_suspend_61 : decode cX5_suspend 61 = .ok (.getfield 114, 3) := by decide +kernel
theorem dX5_suspend_64 : decode cX5_suspend 64 = .ok (.iload_n 2, 1) := by decide +kernel
theorem dX5_suspend_65 : decode cX5_suspend 65 = .ok (.iastore, 1) := by decide +kernel
theorem dX5_suspend_66 : decode cX5_suspend 66 = .ok (.aload_n 0, 1) := by decide +kernel
theorem dX5_suspend_67 : decode cX5_suspend 67 = .ok (.getfield 56, 3) := by decide +kernel
theorem dX5_suspend_70 : decode cX5_suspend 70 = .ok (.aload_n 0, 1) := by decide +kernel
theorem dX5_suspend_71 : decode cX5_suspend 71 = .ok (.getfield 114, 3) := by decide +kernel
theorem dX5_suspend_74 : decode cX5_suspend 74 = .ok (.iload_n 3, 1) := by decide +kernel
theorem dX5_suspend_75 : decode cX5_suspend 75 = .ok (.bastore, 1) := by decide +kernel
theorem dX5_suspend_76 : decode cX5_suspend 76 = .ok (.aload_n 0, 1) := by decide +kernel
theorem dX5_suspend_77 : decode cX5_suspend 77 = .ok (.dup, 1) := by decide +kernel
theorem dX5_suspend_78 : decode cX5_suspend 78 = .ok (.getfield 114, 3) := by decide +kernel
theorem dX5_suspend_81 : decode cX5_suspend 81 = .ok (.iconst 1, 1) := by decide +kernel
theorem dX5_suspend_82 : decode cX5_suspend 82 = .ok (.iadd, 1) := by decide +kernel
theorem dX5_suspend_83 : decode cX5_suspend 83 = .ok (.putfield 114, 3) := by decide +kernel
theorem dX5_suspend_86 : decode cX5_suspend 86 = .ok (.aload_n 0, 1) := by decide +kernel
theorem dX5_suspend_87 : decode cX5_suspend 87 = .ok (.getfield 114, 3) := by decide +kernel
theorem dX5_suspend_90 : decode cX5_suspend 90 = .ok (.ireturn, 1) := by decide +kernel
theorem dX5_end_0 : decode cX5_end 0 = .ok (.aload_n 0, 1) := by decide +kernel
theorem dX5_end_1 : decode cX5_end 1 = .ok (.iconst 0, 1) := by decide +kernel
theorem dX5_end_2 : decode cX5_end 2 = .ok (.putfield 66, 3) := by decide +kernel
theorem dX5_end_5 : decode cX5_end 5 = .ok (.aload_n 0, 1) := by decide +kernel
theorem dX5_end_6 : decode cX5_end 6 = .ok (.iload_n 1, 1) := by decide +kernel
theorem dX5_end_7 : decode cX5_end 7 = .ok (.invokevirtual 77, 3) := by decide +kernel
theorem dX5_end_10 : decode cX5_end 10 = .ok (.ifCond .eq 19, 3) := by decide +kernel
theorem dX5_end_13 : decode cX5_end 13 = .ok (.iload_n 2, 1) := by decide +kernel
theorem dX5_end_14 : decode cX5_end 14 = .ok (.invokestatic 84, 3) := by decide +kernel
theorem dX5_end_17 : decode cX5_end 17 = .ok (.ifCond .eq 12, 3) := by decide +kernel
theorem dX5_end_20 : decode cX5_end 20 = .ok (.aload_n 0, 1) := by decide +kernel
theorem dX5_end_21 : decode cX5_end 21 = .ok (.getfield 19, 3) := by decide +kernel
theorem dX5_end_24 : decode cX5_end 24 = .ok (.iload_n 1, 1) := by decide +kernel
theorem dX5_end_25 : decode cX5_end 25 = .ok (.iaload, 1) := by decide +kernel
theorem dX5_end_26 : decode cX5_end 26 = .ok (.ifCond .lt 5, 3) := by decide +kernel
theorem dX5_end_29 : decode cX5_end 29 = .ok (.iconst 0, 1) := by decide +kernel
theorem dX5_end_30 : decode cX5_end 30 = .ok (.ireturn, 1) := by decide +kernel
theorem dX5_end_31 : decode cX5_end 31 = .ok (.aload_n 0, 1) := by decide +kernel
theorem dX5_end_32 : decode cX5_end 32 = .ok (.getfield 19, 3) := by decide +kernel
theorem dX5_end_35 : decode cX5_end 35 = .ok (.iload_n 1, 1) := by decide +kernel
theorem dX5_end_36 : decode cX5_end 36 = .ok (.iload_n 2, 1) := by decide +kernel
theorem dX5_end_37 : decode cX5_end 37 = .ok (.iastore, 1) := by decide +kernel
theorem dX5_end_38 : decode cX5_end 38 = .ok (.iconst 1, 1) := by decide +kernel
theorem dX5_end_39 : decode cX5_end 39 = .ok (.ireturn, 1) := by decide +kernel
theorem dX5_isEnded_0 : decode cX5_isEnded 0 = .ok (.aload_n 0, 1) := by decide +kernel
theorem dX5_isEnded_1 : decode cX5_isEnded 1 = .ok (.getfield 19, 3) := by decide +kernel
theorem dX5_isEnded_4 : decode cX5_isEnded 4 = .ok (.iload_n 1, 1) := by decide +kernel
theorem dX5_isEnded_5 : decode cX5_isEnded 5 = .ok (.iaload, 1) := by decide +kernel
theorem dX5_isEnded_6 : decode cX5_isEnded 6 = .ok (.ifCond .lt 17, 3) := by decide +kernel
theorem dX5_isEnded_9 : decode cX5_isEnded 9 = .ok (.aload_n 0, 1) := by decide +kernel
theorem dX5_isEnded_10 : decode cX5_isEnded 10 = .ok (.getfield 19, 3) := by decide +kernel
theorem dX5_isEnded_13 : decode cX5_isEnded 13 = .ok (.iload_n 1, 1) := by decide +kernel
theorem dX5_isEnded_14 : decode cX5_isEnded 14 = .ok (.iaload, 1) := by decide +kernel
theorem dX5_isEnded_15 : decode cX5_isEnded 15 = .ok (.iload_n 2, 1) := by decide +kernel
theorem dX5_isEnded_16 : decode cX5_isEnded 16 = .ok (.if_icmp .gt 7, 3) := by decide +kernel
theorem dX5_isEnded_19 : decode cX5_isEnded 19 = .ok (.iconst 1, 1) := by decide +kernel
theorem dX5_isEnded_20 : decode cX5_isEnded 20 = .ok (.goto 4, 3) := by decide +kernel
theorem dX5_isEnded_23 : decode cX5_isEnded 23 = .ok (.iconst 0, 1) := by decide +kernel
theorem dX5_isEnded_24 : decode cX5_isEnded 24 = .ok (.ireturn, 1) := by decide +kernel
theorem dX5_isSuspended_0 : decode cX5_isSuspended 0 = .ok (.iconst (-1), 1) := by decide +kernel
theorem dX5_isSuspended_1 : decode cX5_isSuspended 1 = .ok (.istore_n 3, 1) := by decide +kernel
theorem dX5_isSuspended_2 : decode cX5_isSuspended 2 = .ok (.iconst 0, 1) := by decide +kernel
theorem dX5_isSuspended_3 : decode cX5_isSuspended 3 = .ok (.istore 4, 2) := by decide +kernel
theorem dX5_isSuspended_5 : decode cX5_isSuspended 5 = .ok (.iconst 0, 1) := by decide +kernel
theorem dX5_isSuspended_6 : decode cX5_isSuspended 6 = .ok (.istore 5, 2) := by decide +kernel
theorem dX5_isSuspended_8 : decode cX5_isSuspended 8 = .ok (.iload 5, 2) := by decide +kernel
theorem dX5_isSuspended_10 : decode cX5_isSuspended 10 = .ok (.aload_n 0, 1) := by decide +kernel
theorem dX5_isSuspended_11 : decode cX5_isSuspended 11 = .ok (.getfield 114, 3) := by decide +kernel
theorem dX5_isSuspended_14 : decode cX5_isSuspended 14 = .ok (.if_icmp .ge 85, 3) := by decide +kernel
theorem dX5_isSuspended_17 : decode cX5_isSuspended 17 = .ok (.aload_n 0, 1) := by decide +kernel
theorem dX5_isSuspended_18 : decode cX5_isSuspended 18 = .ok (.getfield 50, 3) := by decide +kernel
theorem dX5_isSuspended_21 : decode cX5_isSuspended 21 = .ok (.iload 5, 2) := by decide +kernel
theorem dX5_isSuspended_23 : decode cX5_isSuspended 23 = .ok (.iaload, 1) := by decide +kernel
theorem dX5_isSuspended_24 : decode cX5_isSuspended 24 = .ok (.iload_n 1, 1) := by decide +kernel
theorem dX5_isSuspended_25 : decode cX5_isSuspended 25 = .ok (.if_icmp .ne 29, 3) := by decide +kernel
theorem dX5_isSuspended_28 : decode cX5_isSuspended 28 = .ok (.aload_n 0, 1) := by decide +kernel
theorem dX5_isSuspended_29 : decode cX5_isSuspended 29 = .ok (.getfield 53, 3) := by decide +kernel
theorem dX5_isSuspended_32 : decode cX5_isSuspended 32 = .ok (.iload 5, 2) := by decide +kernel
theorem dX5_isSuspended_34 : decode cX5_isSuspended 34 = .ok (.iaload, 1) := by decide +kernel
theorem dX5_isSuspended_35 : decode cX5_isSuspended 35 = .ok (.iload_n 2, 1) := by decide +kernel
theorem dX5_isSuspended_36 : decode cX5_isSuspended 36 = .ok (.if_icmp .gt 18, 3) := by decide +kernel
theorem dX5_isSuspended_39 : decode cX5_isSuspended 39 = .ok (.aload_n 0, 1) := by decide +kernel
theorem dX5_isSuspended_40 : decode cX5_isSuspended 40 = .ok (.getfield 53, 3) := by decide +kernel
theorem dX5_isSuspended_43 : decode cX5_isSuspended 43 = .ok (.iload 5, 2) := by decide +kernel
theorem dX5_isSuspended_45 : decode cX5_isSuspended 45 = .ok (.iaload, 1) := by decide +kernel
theorem dX5_isSuspended_46 : decode cX5_isSuspended 46 = .ok (.iload_n 3, 1) := by decide +kernel
theorem dX5_isSuspended_47 : decode cX5_isSuspended 47 = .ok (.if_icmp .lt 7, 3) := by decide +kernel
theorem dX5_isSuspended_50 : decode cX5_isSuspended 50 = .ok (.iconst 1, 1) := by decide +kernel
theorem dX5_isSuspended_51 : decode cX5_isSuspended 51 = .ok (.goto 4, 3) := by decide +kernel
theorem dX5_isSuspended_54 : decode cX5_isSuspended 54 = .ok (.iconst 0, 1) := by decide +kernel
theorem dX5_isSuspended_55 : decode cX5_isSuspended 55 = .ok (.istore 6, 2) := by decide +kernel
theorem dX5_isSuspended_57 : decode cX5_isSuspended 57 = .ok (.iload 6, 2) := by decide +kernel
theorem dX5_isSuspended_59 : decode cX5_isSuspended 59 = .ok (.ifCond .eq 13, 3) := by decide +kernel
theorem dX5_isSuspended_62 : decode cX5_isSuspended 62 = .ok (.aload_n 0, 1) := by decide +kernel
theorem dX5_isSuspended_63 : decode cX5_isSuspended 63 = .ok (.getfield 53, 3) := by decide +kernel
theorem dX5_isSuspended_66 : decode cX5_isSuspended 66 = .ok (.iload 5, 2) := by decide +kernel
theorem dX5_isSuspended_68 : decode cX5_isSuspended 68 = .ok (.iaload, 1) := by decide +kernel
theorem dX5_isSuspended_69 : decode cX5_isSuspended 69 = .ok (.goto 4, 3) := by decide +kernel
theorem dX5_isSuspended_72 : decode cX5_isSuspended 72 = .ok (.iload_n 3, 1) := by decide +kernel
theorem dX5_isSuspended_73 : decode cX5_isSuspended 73 = .ok (.istore_n 3, 1) := by decide +kernel
theorem dX5_isSuspended_74 : decode cX5_isSuspended 74 = .ok (.iload 6, 2) := by decide +kernel
theorem dX5_isSuspended_76 : decode cX5_isSuspended 76 = .ok (.ifCond .eq 13, 3) := by decide +kernel
theorem dX5_isSuspended_79 : decode cX5_isSuspended 79 = .ok (.aload_n 0, 1) := by decide +kernel
theorem dX5_isSuspended_80 : decode cX5_isSuspended 80 = .ok (.getfield 56, 3) := by decide +kernel
theorem dX5_isSuspended_83 : decode cX5_isSuspended 83 = .ok (.iload 5, 2) := by decide +kernel
theorem dX5_isSuspended_85 : decode cX5_isSuspended 85 = .ok (.baload, 1) := by decide +kernel
theorem dX5_isSuspended_86 : decode cX5_isSuspended 86 = .ok (.goto 5, 3) := by decide +kernel
theorem dX5_isSuspended_89 : decode cX5_isSuspended 89 = .ok (.iload 4, 2) := by decide +kernel
theorem dX5_isSuspended_91 : decode cX5_isSuspended 91 = .ok (.istore 4, 2) := by decide +kernel
theorem dX5_isSuspended_93 : decode cX5_isSuspended 93 = .ok (.iinc 5 1, 3) := by decide +kernel
theorem dX5_isSuspended_96 : decode cX5_isSuspended 96 = .ok (.goto (-88), 3) := by decide +kernel
theorem dX5_isSuspended_99 : decode cX5_isSuspended 99 = .ok (.iload 4, 2) := by decide +kernel
theorem dX5_isSuspended_101 : decode cX5_isSuspended 101 = .ok (.ireturn, 1) := by decide +kernel
theorem dX5_isAlive_0 : decode cX5_isAlive 0 = .ok (.aload_n 0, 1) := by decide +kernel
theorem dX5_isAlive_1 : decode cX5_isAlive 1 = .ok (.iload_n 1, 1) := by decide +kernel
theorem dX5_isAlive_2 : decode cX5_isAlive 2 = .ok (.iload_n 2, 1) := by decide +kernel
theorem dX5_isAlive_3 : decode cX5_isAlive 3 = .ok (.invokevirtual 117, 3) := by decide +kernel
theorem dX5_isAlive_6 : decode cX5_isAlive 6 = .ok (.ifCond .ne 16, 3) := by decide +kernel
theorem dX5_isAlive_9 : decode cX5_isAlive 9 = .ok (.aload_n 0, 1) := by decide +kernel
theorem dX5_isAlive_10 : decode cX5_isAlive 10 = .ok (.iload_n 1, 1) := by decide +kernel
theorem dX5_isAlive_11 : decode cX5_isAlive 11 = .ok (.iload_n 2, 1) := by decide +kernel
theorem dX5_isAlive_12 : decode cX5_isAlive 12 = .ok (.invokevirtual 120, 3) := by decide +kernel
theorem dX5_isAlive_15 : decode cX5_isAlive 15 = .ok (.ifCond .ne 7, 3) := by decide +kernel
theorem dX5_isAlive_18 : decode cX5_isAlive 18 = .ok (.iconst 1, 1) := by decide +kernel
theorem dX5_isAlive_19 : decode cX5_isAlive 19 = .ok (.goto 4, 3) := by decide +kernel
theorem dX5_isAlive_22 : decode cX5_isAlive 22 = .ok (.iconst 0, 1) := by decide +kernel
theorem dX5_isAlive_23 : decode cX5_isAlive 23 = .ok (.ireturn, 1) := by decide +kernel
theorem dX5_has_0 : decode cX5_has 0 = .ok (.aload_n 0, 1) := by decide +kernel
theorem dX5_has_1 : decode cX5_has 1 = .ok (.iload_n 1, 1) := by decide +kernel
theorem dX5_has_2 : decode cX5_has 2 = .ok (.iload 4, 2) := by decide +kernel
theorem dX5_has_4 : decode cX5_has 4 = .ok (.invokevirtual 104, 3) := by decide +kernel
theorem dX5_has_7 : decode cX5_has 7 = .ok (.istore 5, 2) := by decide +kernel
theorem dX5_has_9 : decode cX5_has 9 = .ok (.iconst 0, 1) := by decide +kernel
theorem dX5_has_10 : decode cX5_has 10 = .ok (.istore 6, 2) := by decide +kernel
theorem dX5_has_12 : decode cX5_has 12 = .ok (.iconst 0, 1) := by decide +kernel
theorem dX5_has_13 : decode cX5_has 13 = .ok (.istore 7, 2) := by decide +kernel
theorem dX5_has_15 : decode cX5_has 15 = .ok (.iload 7, 2) := by decide +kernel
theorem dX5_has_17 : decode cX5_has 17 = .ok (.aload_n 0, 1) := by decide +kernel
theorem dX5_has_18 : decode cX5_has 18 = .ok (.getfield 87, 3) := by decide +kernel
theorem dX5_has_21 : decode cX5_has 21 = .ok (.if_icmp .ge 104, 3) := by decide +kernel
theorem dX5_has_24 : decode cX5_has 24 = .ok (.aload_n 0, 1) := by decide +kernel
theorem dX5_has_25 : decode cX5_has 25 = .ok (.getfield 25, 3) := by decide +kernel
theorem dX5_has_28 : decode cX5_has 28 = .ok (.iload 7, 2) := by decide +kernel
theorem dX5_has_30 : decode cX5_has 30 = .ok (.iaload, 1) := by decide +kernel
theorem dX5_has_31 : decode cX5_has 31 = .ok (.iload_n 2, 1) := by decide +kernel
theorem dX5_has_32 : decode cX5_has 32 = .ok (.if_icmp .ne 51, 3) := by decide +kernel
theorem dX5_has_35 : decode cX5_has 35 = .ok (.aload_n 0, 1) := by decide +kernel
theorem dX5_has_36 : decode cX5_has 36 = .ok (.getfield 28, 3) := by decide +kernel
theorem dX5_has_39 : decode cX5_has 39 = .ok (.iload 7, 2) := by decide +kernel
theorem dX5_has_41 : decode cX5_has 41 = .ok (.iaload, 1) := by decide +kernel
theorem dX5_has_42 : decode cX5_has 42 = .ok (.iconst (-1), 1) := by decide +kernel
theorem dX5_has_43 : decode cX5_has 43 = .ok (.if_icmp .eq 14, 3) := by decide +kernel
theorem dX5_has_46 : decode cX5_has 46 = .ok (.aload_n 0, 1) := by decide +kernel
theorem dX5_has_47 : decode cX5_has 47 = .ok (.getfield 28, 3) := by decide +kernel
theorem dX5_has_50 : decode cX5_has 50 = .ok (.iload 7, 2) := by decide +kernel
theorem dX5_has_52 : decode cX5_has 52 = .ok (.iaload, 1) := by decide +kernel
theorem dX5_has_53 : decode cX5_has 53 = .ok (.iload_n 3, 1) := by decide +kernel
theorem dX5_has_54 : decode cX5_has 54 = .ok (.if_icmp .ne 29, 3) := by decide +kernel
theorem dX5_has_57 : decode cX5_has 57 = .ok (.iload 4, 2) := by decide +kernel
theorem dX5_has_59 : decode cX5_has 59 = .ok (.aload_n 0, 1) := by decide +kernel
theorem dX5_has_60 : decode cX5_has 60 = .ok (.getfield 31, 3) := by decide +kernel
theorem dX5_has_63 : decode cX5_has 63 = .ok (.iload 7, 2) := by decide +kernel
theorem dX5_has_65 : decode cX5_has 65 = .ok (.iaload, 1) := by decide +kernel
theorem dX5_has_66 : decode cX5_has 66 = .ok (.aload_n 0, 1) := by decide +kernel
theorem dX5_has_67 : decode cX5_has 67 = .ok (.getfield 34, 3) := by decide +kernel
theorem dX5_has_70 : decode cX5_has 70 = .ok (.iload 7, 2) := by decide +kernel
theorem dX5_has_72 : decode cX5_has 72 = .ok (.iaload, 1) := by decide +kernel
theorem dX5_has_73 : decode cX5_has 73 = .ok (.invokestatic 73, 3) := by decide +kernel
theorem dX5_has_76 : decode cX5_has 76 = .ok (.ifCond .eq 7, 3) := by decide +kernel
theorem dX5_has_79 : decode cX5_has 79 = .ok (.iconst 1, 1) := by decide +kernel
theorem dX5_has_80 : decode cX5_has 80 = .ok (.goto 4, 3) := by decide +kernel
theorem dX5_has_83 : decode cX5_has 83 = .ok (.iconst 0, 1) := by decide +kernel
theorem dX5_has_84 : decode cX5_has 84 = .ok (.istore 8, 2) := by decide +kernel
theorem dX5_has_86 : decode cX5_has 86 = .ok (.iload 6, 2) := by decide +kernel
theorem dX5_has_88 : decode cX5_has 88 = .ok (.ifCond .ne 24, 3) := by decide +kernel
theorem dX5_has_91 : decode cX5_has 91 = .ok (.iload 8, 2) := by decide +kernel
theorem dX5_has_93 : decode cX5_has 93 = .ok (.ifCond .eq 23, 3) := by decide +kernel
theorem dX5_has_96 : decode cX5_has 96 = .ok (.iload 5, 2) := by decide +kernel
theorem dX5_has_98 : decode cX5_has 98 = .ok (.aload_n 0, 1) := by decide +kernel
theorem dX5_has_99 : decode cX5_has 99 = .ok (.getfield 22, 3) := by decide +kernel
theorem dX5_has_102 : decode cX5_has 102 = .ok (.iload 7, 2) := by decide +kernel
theorem dX5_has_104 : decode cX5_has 104 = .ok (.iaload, 1) := by decide +kernel
theorem dX5_has_105 : decode cX5_has 105 = .ok (.ishr, 1) := by decide +kernel
theorem dX5_has_106 : decode cX5_has 106 = .ok (.iconst 1, 1) := by decide +kernel
theorem dX5_has_107 : decode cX5_has 107 = .ok (.iand, 1) := by decide +kernel
theorem dX5_has_108 : decode cX5_has 108 = .ok (.iconst 1, 1) := by decide +kernel
theorem dX5_has_109 : decode cX5_has 109 = .ok (.if_icmp .ne 7, 3) := by decide +kernel
theorem dX5_has_112 : decode cX5_has 112 = .ok (.iconst 1, 1) := by decide +kernel
theorem dX5_has_113 : decode cX5_has 113 = .ok (.goto 4, 3) := by decide +kernel
theorem dX5_has_116 : decode cX5_has 116 = .ok (.iconst 0, 1) := by decide +kernel
theorem dX5_has_117 : decode cX5_has 117 = .ok (.istore 6, 2) := by decide +kernel
theorem dX5_has_119 : decode cX5_has 119 = .ok (.iinc 7 1, 3) := by decide +kernel
theorem dX5_has_122 : decode cX5_has 122 = .ok (.goto (-107), 3) := by decide +kernel
theorem dX5_has_125 : decode cX5_has 125 = .ok (.iload 6, 2) := by decide +kernel
theorem dX5_has_127 : decode cX5_has 127 = .ok (.ifCond .eq 16, 3) := by decide +kernel
theorem dX5_has_130 : decode cX5_has 130 = .ok (.aload_n 0, 1) := by decide +kernel
theorem dX5_has_131 : decode cX5_has 131 = .ok (.iload_n 1, 1) := by decide +kernel
theorem dX5_has_132 : decode cX5_has 132 = .ok (.iload_n 2, 1) := by decide +kernel
theorem dX5_has_133 : decode cX5_has 133 = .ok (.invokevirtual 90, 3) := by decide +kernel
theorem dX5_has_136 : decode cX5_has 136 = .ok (.ifCond .ne 7, 3) := by decide +kernel
theorem dX5_has_139 : decode cX5_has 139 = .ok (.iconst 1, 1) := by decide +kernel
theorem dX5_has_140 : decode cX5_has 140 = .ok (.goto 4, 3) := by decide +kernel
theorem dX5_has_143 : decode cX5_has 143 = .ok (.iconst 0, 1) := by decide +kernel
theorem dX5_has_144 : decode cX5_has 144 = .ok (.ireturn, 1) := by decide +kernel
theorem dX5_through_0 : decode cX5_through 0 = .ok (.aload_n 0, 1) := by decide +kernel
theorem dX5_through_1 : decode cX5_through 1 = .ok (.iload_n 2, 1) := by decide +kernel
theorem dX5_through_2 : decode cX5_through 2 = .ok (.iload 4, 2) := by decide +kernel
theorem dX5_through_4 : decode cX5_through 4 = .ok (.iload 5, 2) := by decide +kernel
theorem dX5_through_6 : decode cX5_through 6 = .ok (.iload 6, 2) := by decide +kernel
theorem dX5_through_8 : decode cX5_through 8 = .ok (.invokevirtual 123, 3) := by decide +kernel
theorem dX5_through_11 : decode cX5_through 11 = .ok (.ifCond .ne 6, 3) := by decide +kernel
theorem dX5_through_14 : decode cX5_through 14 = .ok (.bipush 7, 2) := by decide +kernel
theorem dX5_through_16 : decode cX5_through 16 = .ok (.ireturn, 1) := by decide +kernel
theorem dX5_through_17 : decode cX5_through 17 = .ok (.aload_n 0, 1) := by decide +kernel
theorem dX5_through_18 : decode cX5_through 18 = .ok (.iload_n 2, 1) := by decide +kernel
theorem dX5_through_19 : decode cX5_through 19 = .ok (.iload 6, 2) := by decide +kernel
theorem dX5_through_21 : decode cX5_through 21 = .ok (.invokevirtual 94, 3) := by decide +kernel
theorem dX5_through_24 : decode cX5_through 24 = .ok (.ifCond .ne 6, 3) := by decide +kernel
theorem dX5_through_27 : decode cX5_through 27 = .ok (.bipush 6, 2) := by decide +kernel
theorem dX5_through_29 : decode cX5_through 29 = .ok (.ireturn, 1) := by decide +kernel
theorem dX5_through_30 : decode cX5_through 30 = .ok (.iload_n 3, 1) := by decide +kernel
theorem dX5_through_31 : decode cX5_through 31 = .ok (.ifCond .ne 16, 3) := by decide +kernel
theorem dX5_through_34 : decode cX5_through 34 = .ok (.aload_n 0, 1) := by decide +kernel
theorem dX5_through_35 : decode cX5_through 35 = .ok (.iload_n 1, 1) := by decide +kernel
theorem dX5_through_36 : decode cX5_through 36 = .ok (.iconst 0, 1) := by decide +kernel
theorem dX5_through_37 : decode cX5_through 37 = .ok (.iload 5, 2) := by decide +kernel
theorem dX5_through_39 : decode cX5_through 39 = .ok (.iload 6, 2) := by decide +kernel
theorem dX5_through_41 : decode cX5_through 41 = .ok (.invokevirtual 123, 3) := by decide +kernel
theorem dX5_through_44 : decode cX5_through 44 = .ok (.ifCond .eq 7, 3) := by decide +kernel
theorem dX5_through_47 : decode cX5_through 47 = .ok (.iconst 0, 1) := by decide +kernel
theorem dX5_through_48 : decode cX5_through 48 = .ok (.goto 4, 3) := by decide +kernel
theorem dX5_through_51 : decode cX5_through 51 = .ok (.iconst 5, 1) := by decide +kernel
theorem dX5_through_52 : decode cX5_through 52 = .ok (.ireturn, 1) := by decide +kernel
theorem dX5_answer_0 : decode cX5_answer 0 = .ok (.aload_n 0, 1) := by decide +kernel
theorem dX5_answer_1 : decode cX5_answer 1 = .ok (.iload_n 1, 1) := by decide +kernel
theorem dX5_answer_2 : decode cX5_answer 2 = .ok (.invokevirtual 77, 3) := by decide +kernel
theorem dX5_answer_5 : decode cX5_answer 5 = .ok (.ifCond .eq 25, 3) := by decide +kernel
theorem dX5_answer_8 : decode cX5_answer 8 = .ok (.iload_n 2, 1) := by decide +kernel
theorem dX5_answer_9 : decode cX5_answer 9 = .ok (.invokestatic 81, 3) := by decide +kernel
theorem dX5_answer_12 : decode cX5_answer 12 = .ok (.ifCond .eq 18, 3) := by decide +kernel
theorem dX5_answer_15 : decode cX5_answer 15 = .ok (.iload_n 3, 1) := by decide +kernel
theorem dX5_answer_16 : decode cX5_answer 16 = .ok (.invokestatic 81, 3) := by decide +kernel
theorem dX5_answer_19 : decode cX5_answer 19 = .ok (.ifCond .eq 11, 3) := by decide +kernel
theorem dX5_answer_22 : decode cX5_answer 22 = .ok (.iload 4, 2) := by decide +kernel
theorem dX5_answer_24 : decode cX5_answer 24 = .ok (.invokestatic 84, 3) := by decide +kernel
theorem dX5_answer_27 : decode cX5_answer 27 = .ok (.ifCond .ne 5, 3) := by decide +kernel
theorem dX5_answer_30 : decode cX5_answer 30 = .ok (.iconst 1, 1) := by decide +kernel
theorem dX5_answer_31 : decode cX5_answer 31 = .ok (.ireturn, 1) := by decide +kernel
theorem dX5_answer_32 : decode cX5_answer 32 = .ok (.aload_n 0, 1) := by decide +kernel
theorem dX5_answer_33 : decode cX5_answer 33 = .ok (.iload_n 1, 1) := by decide +kernel
theorem dX5_answer_34 : decode cX5_answer 34 = .ok (.iload 4, 2) := by decide +kernel
theorem dX5_answer_36 : decode cX5_answer 36 = .ok (.invokevirtual 117, 3) := by decide +kernel
theorem dX5_answer_39 : decode cX5_answer 39 = .ok (.ifCond .eq 5, 3) := by decide +kernel
theorem dX5_answer_42 : decode cX5_answer 42 = .ok (.iconst 2, 1) := by decide +kernel
theorem dX5_answer_43 : decode cX5_answer 43 = .ok (.ireturn, 1) := by decide +kernel
theorem dX5_answer_44 : decode cX5_answer 44 = .ok (.aload_n 0, 1) := by decide +kernel
theorem dX5_answer_45 : decode cX5_answer 45 = .ok (.iload_n 1, 1) := by decide +kernel
theorem dX5_answer_46 : decode cX5_answer 46 = .ok (.iload 4, 2) := by decide +kernel
theorem dX5_answer_48 : decode cX5_answer 48 = .ok (.invokevirtual 120, 3) := by decide +kernel
theorem dX5_answer_51 : decode cX5_answer 51 = .ok (.ifCond .eq 5, 3) := by decide +kernel
theorem dX5_answer_54 : decode cX5_answer 54 = .ok (.iconst 3, 1) := by decide +kernel
theorem dX5_answer_55 : decode cX5_answer 55 = .ok (.ireturn, 1) := by decide +kernel
theorem dX5_answer_56 : decode cX5_answer 56 = .ok (.aload_n 0, 1) := by decide +kernel
theorem dX5_answer_57 : decode cX5_answer 57 = .ok (.iload_n 1, 1) := by decide +kernel
theorem dX5_answer_58 : decode cX5_answer 58 = .ok (.iload_n 2, 1) := by decide +kernel
theorem dX5_answer_59 : decode cX5_answer 59 = .ok (.iload_n 3, 1) := by decide +kernel
theorem dX5_answer_60 : decode cX5_answer 60 = .ok (.iload 4, 2) := by decide +kernel
theorem dX5_answer_62 : decode cX5_answer 62 = .ok (.invokevirtual 123, 3) := by decide +kernel
theorem dX5_answer_65 : decode cX5_answer 65 = .ok (.ifCond .eq 5, 3) := by decide +kernel
theorem dX5_answer_68 : decode cX5_answer 68 = .ok (.iconst 0, 1) := by decide +kernel
theorem dX5_answer_69 : decode cX5_answer 69 = .ok (.ireturn, 1) := by decide +kernel
theorem dX5_answer_70 : decode cX5_answer 70 = .ok (.aload_n 0, 1) := by decide +kernel
theorem dX5_answer_71 : decode cX5_answer 71 = .ok (.getfield 16, 3) := by decide +kernel
theorem dX5_answer_74 : decode cX5_answer 74 = .ok (.iload_n 1, 1) := by decide +kernel
theorem dX5_answer_75 : decode cX5_answer 75 = .ok (.iaload, 1) := by decide +kernel
theorem dX5_answer_76 : decode cX5_answer 76 = .ok (.ifCond .lt 22, 3) := by decide +kernel
theorem dX5_answer_79 : decode cX5_answer 79 = .ok (.aload_n 0, 1) := by decide +kernel
theorem dX5_answer_80 : decode cX5_answer 80 = .ok (.iload_n 1, 1) := by decide +kernel
theorem dX5_answer_81 : decode cX5_answer 81 = .ok (.aload_n 0, 1) := by decide +kernel
theorem dX5_answer_82 : decode cX5_answer 82 = .ok (.getfield 16, 3) := by decide +kernel
theorem dX5_answer_85 : decode cX5_answer 85 = .ok (.iload_n 1, 1) := by decide +kernel
theorem dX5_answer_86 : decode cX5_answer 86 = .ok (.iaload, 1) := by decide +kernel
theorem dX5_answer_87 : decode cX5_answer 87 = .ok (.iconst 1, 1) := by decide +kernel
theorem dX5_answer_88 : decode cX5_answer 88 = .ok (.iload_n 2, 1) := by decide +kernel
theorem dX5_answer_89 : decode cX5_answer 89 = .ok (.iload_n 3, 1) := by decide +kernel
theorem dX5_answer_90 : decode cX5_answer 90 = .ok (.iload 4, 2) := by decide +kernel
theorem dX5_answer_92 : decode cX5_answer 92 = .ok (.invokevirtual 127, 3) := by decide +kernel
theorem dX5_answer_95 : decode cX5_answer 95 = .ok (.goto 5, 3) := by decide +kernel
theorem dX5_answer_98 : decode cX5_answer 98 = .ok (.bipush 7, 2) := by decide +kernel
theorem dX5_answer_100 : decode cX5_answer 100 = .ok (.istore 5, 2) := by decide +kernel
theorem dX5_answer_102 : decode cX5_answer 102 = .ok (.iconst 0, 1) := by decide +kernel
theorem dX5_answer_103 : decode cX5_answer 103 = .ok (.istore 6, 2) := by decide +kernel
theorem dX5_answer_105 : decode cX5_answer 105 = .ok (.iload 6, 2) := by decide +kernel
theorem dX5_answer_107 : decode cX5_answer 107 = .ok (.aload_n 0, 1) := by decide +kernel
theorem dX5_answer_108 : decode cX5_answer 108 = .ok (.getfield 111, 3) := by decide +kernel
theorem dX5_answer_111 : decode cX5_answer 111 = .ok (.if_icmp .ge 78, 3) := by decide +kernel
theorem dX5_answer_114 : decode cX5_answer 114 = .ok (.aload_n 0, 1) := by decide +kernel
theorem dX5_answer_115 : decode cX5_answer 115 = .ok (.getfield 40, 3) := by decide +kernel
theorem dX5_answer_118 : decode cX5_answer 118 = .ok (.iload 6, 2) := by decide +kernel
theorem dX5_answer_120 : decode cX5_answer 120 = .ok (.iaload, 1) := by decide +kernel
theorem dX5_answer_121 : decode cX5_answer 121 = .ok (.iload_n 1, 1) := by decide +kernel
theorem dX5_answer_122 : decode cX5_answer 122 = .ok (.if_icmp .ne 41, 3) := by decide +kernel
theorem dX5_answer_125 : decode cX5_answer 125 = .ok (.aload_n 0, 1) := by decide +kernel
theorem dX5_answer_126 : decode cX5_answer 126 = .ok (.getfield 47, 3) := by decide +kernel
theorem dX5_answer_129 : decode cX5_answer 129 = .ok (.iload 6, 2) := by decide +kernel
theorem dX5_answer_131 : decode cX5_answer 131 = .ok (.iaload, 1) := by decide +kernel
theorem dX5_answer_132 : decode cX5_answer 132 = .ok (.iload 4, 2) := by decide +kernel
theorem dX5_answer_134 : decode cX5_answer 134 = .ok (.if_icmp .lt 29, 3) := by decide +kernel
theorem dX5_answer_137 : decode cX5_answer 137 = .ok (.aload_n 0, 1) := by decide +kernel
theorem dX5_answer_138 : decode cX5_answer 138 = .ok (.iload_n 1, 1) := by decide +kernel
theorem dX5_answer_139 : decode cX5_answer 139 = .ok (.aload_n 0, 1) := by decide +kernel
theorem dX5_answer_140 : decode cX5_answer 140 = .ok (.getfield 37, 3) := by decide +kernel
theorem dX5_answer_143 : decode cX5_answer 143 = .ok (.iload 6, 2) := by decide +kernel
theorem dX5_answer_145 : decode cX5_answer 145 = .ok (.iaload, 1) := by decide +kernel
theorem dX5_answer_146 : decode cX5_answer 146 = .ok (.aload_n 0, 1) := by decide +kernel
theorem dX5_answer_147 : decode cX5_answer 147 = .ok (.getfield 43, 3) := by decide +kernel
theorem dX5_answer_150 : decode cX5_answer 150 = .ok (.iload 6, 2) := by decide +kernel
theorem dX5_answer_152 : decode cX5_answer 152 = .ok (.baload, 1) := by decide +kernel
theorem dX5_answer_153 : decode cX5_answer 153 = .ok (.iload_n 2, 1) := by decide +kernel
theorem dX5_answer_154 : decode cX5_answer 154 = .ok (.iload_n 3, 1) := by decide +kernel
theorem dX5_answer_155 : decode cX5_answer 155 = .ok (.iload 4, 2) := by decide +kernel
theorem dX5_answer_157 : decode cX5_answer 157 = .ok (.invokevirtual 127, 3) := by decide +kernel
theorem dX5_answer_160 : decode cX5_answer 160 = .ok (.goto 5, 3) := by decide +kernel
theorem dX5_answer_163 : decode cX5_answer 163 = .ok (.bipush 7, 2) := by decide +kernel
theorem dX5_answer_165 : decode cX5_answer 165 = .ok (.istore 7, 2) := by decide +kernel
theorem dX5_answer_167 : decode cX5_answer 167 = .ok (.iload 7, 2) := by decide +kernel
theorem dX5_answer_169 : decode cX5_answer 169 = .ok (.iload 5, 2) := by decide +kernel
theorem dX5_answer_171 : decode cX5_answer 171 = .ok (.if_icmp .ge 8, 3) := by decide +kernel
theorem dX5_answer_174 : decode cX5_answer 174 = .ok (.iload 7, 2) := by decide +kernel
theorem dX5_answer_176 : decode cX5_answer 176 = .ok (.goto 5, 3) := by decide +kernel
theorem dX5_answer_179 : decode cX5_answer 179 = .ok (.iload 5, 2) := by decide +kernel
theorem dX5_answer_181 : decode cX5_answer 181 = .ok (.istore 5, 2) := by decide +kernel
theorem dX5_answer_183 : decode cX5_answer 183 = .ok (.iinc 6 1, 3) := by decide +kernel
theorem dX5_answer_186 : decode cX5_answer 186 = .ok (.goto (-81), 3) := by decide +kernel
theorem dX5_answer_189 : decode cX5_answer 189 = .ok (.iload 5, 2) := by decide +kernel
theorem dX5_answer_191 : decode cX5_answer 191 = .ok (.iconst 4, 1) := by decide +kernel
theorem dX5_answer_192 : decode cX5_answer 192 = .ok (.if_icmp .le 16, 3) := by decide +kernel
theorem dX5_answer_195 : decode cX5_answer 195 = .ok (.aload_n 0, 1) := by decide +kernel
theorem dX5_answer_196 : decode cX5_answer 196 = .ok (.iload_n 1, 1) := by decide +kernel
theorem dX5_answer_197 : decode cX5_answer 197 = .ok (.iload_n 2, 1) := by decide +kernel
theorem dX5_answer_198 : decode cX5_answer 198 = .ok (.invokevirtual 90, 3) := by decide +kernel
theorem dX5_answer_201 : decode cX5_answer 201 = .ok (.ifCond .eq 7, 3) := by decide +kernel
theorem dX5_answer_204 : decode cX5_answer 204 = .ok (.iconst 4, 1) := by decide +kernel
theorem dX5_answer_205 : decode cX5_answer 205 = .ok (.goto 5, 3) := by decide +kernel
theorem dX5_answer_208 : decode cX5_answer 208 = .ok (.iload 5, 2) := by decide +kernel
theorem dX5_answer_210 : decode cX5_answer 210 = .ok (.ireturn, 1) := by decide +kernel
theorem dX5_may_0 : decode cX5_may 0 = .ok (.aload_n 0, 1) := by decide +kernel
theorem dX5_may_1 : decode cX5_may 1 = .ok (.iconst 0, 1) := by decide +kernel
theorem dX5_may_2 : decode cX5_may 2 = .ok (.putfield 66, 3) := by decide +kernel
theorem dX5_may_5 : decode cX5_may 5 = .ok (.aload_n 0, 1) := by decide +kernel
theorem dX5_may_6 : decode cX5_may 6 = .ok (.iload_n 1, 1) := by decide +kernel
theorem dX5_may_7 : decode cX5_may 7 = .ok (.iload_n 2, 1) := by decide +kernel
theorem dX5_may_8 : decode cX5_may 8 = .ok (.iload_n 3, 1) := by decide +kernel
theorem dX5_may_9 : decode cX5_may 9 = .ok (.iload 4, 2) := by decide +kernel
theorem dX5_may_11 : decode cX5_may 11 = .ok (.invokevirtual 131, 3) := by decide +kernel
theorem dX5_may_14 : decode cX5_may 14 = .ok (.ireturn, 1) := by decide +kernel
theorem dX5_two_0 : decode cX5_two 0 = .ok (.aload_n 0, 1) := by decide +kernel
theorem dX5_two_1 : decode cX5_two 1 = .ok (.iconst 0, 1) := by decide +kernel
theorem dX5_two_2 : decode cX5_two 2 = .ok (.putfield 66, 3) := by decide +kernel
theorem dX5_two_5 : decode cX5_two 5 = .ok (.iload_n 1, 1) := by decide +kernel
theorem dX5_two_6 : decode cX5_two 6 = .ok (.invokestatic 81, 3) := by decide +kernel
theorem dX5_two_9 : decode cX5_two 9 = .ok (.ifCond .eq 24, 3) := by decide +kernel
theorem dX5_two_12 : decode cX5_two 12 = .ok (.aload_n 0, 1) := by decide +kernel
theorem dX5_two_13 : decode cX5_two 13 = .ok (.getfield 135, 3) := by decide +kernel
theorem dX5_two_16 : decode cX5_two 16 = .ok (.iload_n 1, 1) := by decide +kernel
theorem dX5_two_17 : decode cX5_two 17 = .ok (.ishr, 1) := by decide +kernel
theorem dX5_two_18 : decode cX5_two 18 = .ok (.iconst 1, 1) := by decide +kernel
theorem dX5_two_19 : decode cX5_two 19 = .ok (.iand, 1) := by decide +kernel
theorem dX5_two_20 : decode cX5_two 20 = .ok (.iconst 1, 1) := by decide +kernel
theorem dX5_two_21 : decode cX5_two 21 = .ok (.if_icmp .ne 7, 3) := by decide +kernel
theorem dX5_two_24 : decode cX5_two 24 = .ok (.iconst 1, 1) := by decide +kernel
theorem dX5_two_25 : decode cX5_two 25 = .ok (.goto 4, 3) := by decide +kernel
theorem dX5_two_28 : decode cX5_two 28 = .ok (.iconst 0, 1) := by decide +kernel
theorem dX5_two_29 : decode cX5_two 29 = .ok (.iload_n 2, 1) := by decide +kernel
theorem dX5_two_30 : decode cX5_two 30 = .ok (.if_icmp .ne 5, 3) := by decide +kernel
theorem dX5_two_33 : decode cX5_two 33 = .ok (.iconst 0, 1) := by decide +kernel
theorem dX5_two_34 : decode cX5_two 34 = .ok (.ireturn, 1) := by decide +kernel
theorem dX5_two_35 : decode cX5_two 35 = .ok (.aload_n 0, 1) := by decide +kernel
theorem dX5_two_36 : decode cX5_two 36 = .ok (.dup, 1) := by decide +kernel
theorem dX5_two_37 : decode cX5_two 37 = .ok (.getfield 135, 3) := by decide +kernel
theorem dX5_two_40 : decode cX5_two 40 = .ok (.iload_n 2, 1) := by decide +kernel
theorem dX5_two_41 : decode cX5_two 41 = .ok (.ifCond .eq 9, 3) := by decide +kernel
theorem dX5_two_44 : decode cX5_two 44 = .ok (.iconst 1, 1) := by decide +kernel
theorem dX5_two_45 : decode cX5_two 45 = .ok (.iload_n 1, 1) := by decide +kernel
theorem dX5_two_46 : decode cX5_two 46 = .ok (.ishl, 1) := by decide +kernel
theorem dX5_two_47 : decode cX5_two 47 = .ok (.goto 7, 3) := by decide +kernel
theorem dX5_two_50 : decode cX5_two 50 = .ok (.iconst 1, 1) := by decide +kernel
theorem dX5_two_51 : decode cX5_two 51 = .ok (.iload_n 1, 1) := by decide +kernel
theorem dX5_two_52 : decode cX5_two 52 = .ok (.ishl, 1) := by decide +kernel
theorem dX5_two_53 : decode cX5_two 53 = .ok (.ineg, 1) := by decide +kernel
theorem dX5_two_54 : decode cX5_two 54 = .ok (.iadd, 1) := by decide +kernel
theorem dX5_two_55 : decode cX5_two 55 = .ok (.putfield 135, 3) := by decide +kernel
theorem dX5_two_58 : decode cX5_two 58 = .ok (.iconst 1, 1) := by decide +kernel
theorem dX5_two_59 : decode cX5_two 59 = .ok (.ireturn, 1) := by decide +kernel
theorem dX5_done_0 : decode cX5_done 0 = .ok (.aload_n 0, 1) := by decide +kernel
theorem dX5_done_1 : decode cX5_done 1 = .ok (.iconst 0, 1) := by decide +kernel
theorem dX5_done_2 : decode cX5_done 2 = .ok (.putfield 66, 3) := by decide +kernel
theorem dX5_done_5 : decode cX5_done 5 = .ok (.aload_n 0, 1) := by decide +kernel
theorem dX5_done_6 : decode cX5_done 6 = .ok (.iload 4, 2) := by decide +kernel
theorem dX5_done_8 : decode cX5_done 8 = .ok (.iload_n 1, 1) := by decide +kernel
theorem dX5_done_9 : decode cX5_done 9 = .ok (.iload_n 2, 1) := by decide +kernel
theorem dX5_done_10 : decode cX5_done 10 = .ok (.iload_n 3, 1) := by decide +kernel
theorem dX5_done_11 : decode cX5_done 11 = .ok (.invokevirtual 131, 3) := by decide +kernel
theorem dX5_done_14 : decode cX5_done 14 = .ok (.ifCond .le 5, 3) := by decide +kernel
theorem dX5_done_17 : decode cX5_done 17 = .ok (.iconst 1, 1) := by decide +kernel
theorem dX5_done_18 : decode cX5_done 18 = .ok (.ireturn, 1) := by decide +kernel
theorem dX5_done_19 : decode cX5_done 19 = .ok (.aload_n 0, 1) := by decide +kernel
theorem dX5_done_20 : decode cX5_done 20 = .ok (.getfield 135, 3) := by decide +kernel
theorem dX5_done_23 : decode cX5_done 23 = .ok (.iload_n 1, 1) := by decide +kernel
theorem dX5_done_24 : decode cX5_done 24 = .ok (.ishr, 1) := by decide +kernel
theorem dX5_done_25 : decode cX5_done 25 = .ok (.iconst 1, 1) := by decide +kernel
theorem dX5_done_26 : decode cX5_done 26 = .ok (.iand, 1) := by decide +kernel
theorem dX5_done_27 : decode cX5_done 27 = .ok (.ifCond .ne 5, 3) := by decide +kernel
theorem dX5_done_30 : decode cX5_done 30 = .ok (.iconst 0, 1) := by decide +kernel
theorem dX5_done_31 : decode cX5_done 31 = .ok (.ireturn, 1) := by decide +kernel
theorem dX5_done_32 : decode cX5_done 32 = .ok (.aload_n 0, 1) := by decide +kernel
theorem dX5_done_33 : decode cX5_done 33 = .ok (.iload 5, 2) := by decide +kernel
theorem dX5_done_35 : decode cX5_done 35 = .ok (.iload_n 1, 1) := by decide +kernel
theorem dX5_done_36 : decode cX5_done 36 = .ok (.iload_n 2, 1) := by decide +kernel
theorem dX5_done_37 : decode cX5_done 37 = .ok (.iload_n 3, 1) := by decide +kernel
theorem dX5_done_38 : decode cX5_done 38 = .ok (.invokevirtual 131, 3) := by decide +kernel
theorem dX5_done_41 : decode cX5_done 41 = .ok (.ifCond .le 5, 3) := by decide +kernel
theorem dX5_done_44 : decode cX5_done 44 = .ok (.iconst 2, 1) := by decide +kernel
theorem dX5_done_45 : decode cX5_done 45 = .ok (.ireturn, 1) := by decide +kernel
theorem dX5_done_46 : decode cX5_done 46 = .ok (.iload 4, 2) := by decide +kernel
theorem dX5_done_48 : decode cX5_done 48 = .ok (.iload 5, 2) := by decide +kernel
theorem dX5_done_50 : decode cX5_done 50 = .ok (.if_icmp .eq 27, 3) := by decide +kernel
theorem dX5_done_53 : decode cX5_done 53 = .ok (.aload_n 0, 1) := by decide +kernel
theorem dX5_done_54 : decode cX5_done 54 = .ok (.getfield 16, 3) := by decide +kernel
theorem dX5_done_57 : decode cX5_done 57 = .ok (.iload 4, 2) := by decide +kernel
theorem dX5_done_59 : decode cX5_done 59 = .ok (.iaload, 1) := by decide +kernel
theorem dX5_done_60 : decode cX5_done 60 = .ok (.iload 5, 2) := by decide +kernel
theorem dX5_done_62 : decode cX5_done 62 = .ok (.if_icmp .eq 15, 3) := by decide +kernel
theorem dX5_done_65 : decode cX5_done 65 = .ok (.aload_n 0, 1) := by decide +kernel
theorem dX5_done_66 : decode cX5_done 66 = .ok (.getfield 16, 3) := by decide +kernel
theorem dX5_done_69 : decode cX5_done 69 = .ok (.iload 5, 2) := by decide +kernel
theorem dX5_done_71 : decode cX5_done 71 = .ok (.iaload, 1) := by decide +kernel
theorem dX5_done_72 : decode cX5_done 72 = .ok (.iload 4, 2) := by decide +kernel
theorem dX5_done_74 : decode cX5_done 74 = .ok (.if_icmp .ne 7, 3) := by decide +kernel
theorem dX5_done_77 : decode cX5_done 77 = .ok (.iconst 3, 1) := by decide +kernel
theorem dX5_done_78 : decode cX5_done 78 = .ok (.goto 4, 3) := by decide +kernel
theorem dX5_done_81 : decode cX5_done 81 = .ok (.iconst 0, 1) := by decide +kernel
theorem dX5_done_82 : decode cX5_done 82 = .ok (.ireturn, 1) := by decide +kernel
theorem dX5_power_0 : decode cX5_power 0 = .ok (.iconst 1, 1) := by decide +kernel
theorem dX5_power_1 : decode cX5_power 1 = .ok (.istore_n 1, 1) := by decide +kernel
theorem dX5_power_2 : decode cX5_power 2 = .ok (.iconst 0, 1) := by decide +kernel
theorem dX5_power_3 : decode cX5_power 3 = .ok (.istore_n 2, 1) := by decide +kernel
theorem dX5_power_4 : decode cX5_power 4 = .ok (.iload_n 2, 1) := by decide +kernel
theorem dX5_power_5 : decode cX5_power 5 = .ok (.iload_n 0, 1) := by decide +kernel
theorem dX5_power_6 : decode cX5_power 6 = .ok (.if_icmp .ge 14, 3) := by decide +kernel
theorem dX5_power_9 : decode cX5_power 9 = .ok (.iload_n 1, 1) := by decide +kernel
theorem dX5_power_10 : decode cX5_power 10 = .ok (.bipush 26, 2) := by decide +kernel
theorem dX5_power_12 : decode cX5_power 12 = .ok (.imul, 1) := by decide +kernel
theorem dX5_power_13 : decode cX5_power 13 = .ok (.istore_n 1, 1) := by decide +kernel
theorem dX5_power_14 : decode cX5_power 14 = .ok (.iinc 2 1, 3) := by decide +kernel
theorem dX5_power_17 : decode cX5_power 17 = .ok (.goto (-13), 3) := by decide +kernel
theorem dX5_power_20 : decode cX5_power 20 = .ok (.iload_n 1, 1) := by decide +kernel
theorem dX5_power_21 : decode cX5_power 21 = .ok (.ireturn, 1) := by decide +kernel
theorem dX5_digit_0 : decode cX5_digit 0 = .ok (.iload_n 0, 1) := by decide +kernel
theorem dX5_digit_1 : decode cX5_digit 1 = .ok (.iconst 5, 1) := by decide +kernel
theorem dX5_digit_2 : decode cX5_digit 2 = .ok (.iload_n 1, 1) := by decide +kernel
theorem dX5_digit_3 : decode cX5_digit 3 = .ok (.isub, 1) := by decide +kernel
theorem dX5_digit_4 : decode cX5_digit 4 = .ok (.invokestatic 138, 3) := by decide +kernel
theorem dX5_digit_7 : decode cX5_digit 7 = .ok (.idiv, 1) := by decide +kernel
theorem dX5_digit_8 : decode cX5_digit 8 = .ok (.bipush 26, 2) := by decide +kernel
theorem dX5_digit_10 : decode cX5_digit 10 = .ok (.irem, 1) := by decide +kernel
theorem dX5_digit_11 : decode cX5_digit 11 = .ok (.ireturn, 1) := by decide +kernel
theorem dX5_letter_0 : decode cX5_letter 0 = .ok (.aload_n 0, 1) := by decide +kernel
theorem dX5_letter_1 : decode cX5_letter 1 = .ok (.iload_n 1, 1) := by decide +kernel
theorem dX5_letter_2 : decode cX5_letter 2 = .ok (.iconst 0, 1) := by decide +kernel
theorem dX5_letter_3 : decode cX5_letter 3 = .ok (.ldc 141, 2) := by decide +kernel
theorem dX5_letter_5 : decode cX5_letter 5 = .ok (.invokestatic 73, 3) := by decide +kernel
theorem dX5_letter_8 : decode cX5_letter 8 = .ok (.ifCond .ne 7, 3) := by decide +kernel
theorem dX5_letter_11 : decode cX5_letter 11 = .ok (.iconst 1, 1) := by decide +kernel
theorem dX5_letter_12 : decode cX5_letter 12 = .ok (.goto 18, 3) := by decide +kernel
theorem dX5_letter_15 : decode cX5_letter 15 = .ok (.iload_n 2, 1) := by decide +kernel
theorem dX5_letter_16 : decode cX5_letter 16 = .ok (.iconst 0, 1) := by decide +kernel
theorem dX5_letter_17 : decode cX5_letter 17 = .ok (.bipush 6, 2) := by decide +kernel
theorem dX5_letter_19 : decode cX5_letter 19 = .ok (.invokestatic 73, 3) := by decide +kernel
theorem dX5_letter_22 : decode cX5_letter 22 = .ok (.ifCond .ne 7, 3) := by decide +kernel
theorem dX5_letter_25 : decode cX5_letter 25 = .ok (.iconst 2, 1) := by decide +kernel
theorem dX5_letter_26 : decode cX5_letter 26 = .ok (.goto 4, 3) := by decide +kernel
theorem dX5_letter_29 : decode cX5_letter 29 = .ok (.iconst 0, 1) := by decide +kernel
theorem dX5_letter_30 : decode cX5_letter 30 = .ok (.putfield 66, 3) := by decide +kernel
theorem dX5_letter_33 : decode cX5_letter 33 = .ok (.aload_n 0, 1) := by decide +kernel
theorem dX5_letter_34 : decode cX5_letter 34 = .ok (.getfield 66, 3) := by decide +kernel
theorem dX5_letter_37 : decode cX5_letter 37 = .ok (.ifCond .le 5, 3) := by decide +kernel
theorem dX5_letter_40 : decode cX5_letter 40 = .ok (.iconst 0, 1) := by decide +kernel
theorem dX5_letter_41 : decode cX5_letter 41 = .ok (.ireturn, 1) := by decide +kernel
theorem dX5_letter_42 : decode cX5_letter 42 = .ok (.iconst 0, 1) := by decide +kernel
theorem dX5_letter_43 : decode cX5_letter 43 = .ok (.istore_n 3, 1) := by decide +kernel
theorem dX5_letter_44 : decode cX5_letter 44 = .ok (.iconst 0, 1) := by decide +kernel
theorem dX5_letter_45 : decode cX5_letter 45 = .ok (.istore 4, 2) := by decide +kernel
theorem dX5_letter_47 : decode cX5_letter 47 = .ok (.iload 4, 2) := by decide +kernel
theorem dX5_letter_49 : decode cX5_letter 49 = .ok (.bipush 6, 2) := by decide +kernel
theorem dX5_letter_51 : decode cX5_letter 51 = .ok (.if_icmp .ge 23, 3) := by decide +kernel
theorem dX5_letter_54 : decode cX5_letter 54 = .ok (.iload_n 3, 1) := by decide +kernel
theorem dX5_letter_55 : decode cX5_letter 55 = .ok (.iload 4, 2) := by decide +kernel
theorem dX5_letter_57 : decode cX5_letter 57 = .ok (.iconst 1, 1) := by decide +kernel
theorem dX5_letter_58 : decode cX5_letter 58 = .ok (.iadd, 1) := by decide +kernel
theorem dX5_letter_59 : decode cX5_letter 59 = .ok (.iload_n 1, 1) := by decide +kernel
theorem dX5_letter_60 : decode cX5_letter 60 = .ok (.iload 4, 2) := by decide +kernel
theorem dX5_letter_62 : decode cX5_letter 62 = .ok (.invokestatic 142, 3) := by decide +kernel
theorem dX5_letter_65 : decode cX5_letter 65 = .ok (.imul, 1) := by decide +kernel
theorem dX5_letter_66 : decode cX5_letter 66 = .ok (.iadd, 1) := by decide +kernel
theorem dX5_letter_67 : decode cX5_letter 67 = .ok (.istore_n 3, 1) := by decide +kernel
theorem dX5_letter_68 : decode cX5_letter 68 = .ok (.iinc 4 1, 3) := by decide +kernel
theorem dX5_letter_71 : decode cX5_letter 71 = .ok (.goto (-24), 3) := by decide +kernel
theorem dX5_letter_74 : decode cX5_letter 74 = .ok (.bipush 65, 2) := by decide +kernel
theorem dX5_letter_76 : decode cX5_letter 76 = .ok (.iload_n 2, 1) := by decide +kernel
theorem dX5_letter_77 : decode cX5_letter 77 = .ok (.bipush 6, 2) := by decide +kernel
theorem dX5_letter_79 : decode cX5_letter 79 = .ok (.if_icmp .ne 10, 3) := by decide +kernel
theorem dX5_letter_82 : decode cX5_letter 82 = .ok (.iload_n 3, 1) := by decide +kernel
theorem dX5_letter_83 : decode cX5_letter 83 = .ok (.bipush 23, 2) := by decide +kernel
theorem dX5_letter_85 : decode cX5_letter 85 = .ok (.irem, 1) := by decide +kernel
theorem dX5_letter_86 : decode cX5_letter 86 = .ok (.goto 8, 3) := by decide +kernel
theorem dX5_letter_89 : decode cX5_letter 89 = .ok (.iload_n 1, 1) := by decide +kernel
theorem dX5_letter_90 : decode cX5_letter 90 = .ok (.iload_n 2, 1) := by decide +kernel
theorem dX5_letter_91 : decode cX5_letter 91 = .ok (.invokestatic 142, 3) := by decide +kernel
theorem dX5_letter_94 : decode cX5_letter 94 = .ok (.iadd, 1) := by decide +kernel
theorem dX5_letter_95 : decode cX5_letter 95 = .ok (.ireturn, 1) := by decide +kernel
theorem dX5_check_0 : decode cX5_check 0 = .ok (.aload_n 0, 1) := by decide +kernel
theorem dX5_check_1 : decode cX5_check 1 = .ok (.iconst 0, 1) := by decide +kernel
theorem dX5_check_2 : decode cX5_check 2 = .ok (.putfield 66, 3) := by decide +kernel
theorem dX5_check_5 : decode cX5_check 5 = .ok (.iload_n 1, 1) := by decide +kernel
theorem dX5_check_6 : decode cX5_check 6 = .ok (.bipush 65, 2) := by decide +kernel
theorem dX5_check_8 : decode cX5_check 8 = .ok (.bipush 90, 2) := by decide +kernel
theorem dX5_check_10 : decode cX5_check 10 = .ok (.invokestatic 73, 3) := by decide +kernel
theorem dX5_check_13 : decode cX5_check 13 = .ok (.ifCond .ne 10, 3) := by decide +kernel
theorem dX5_check_16 : decode cX5_check 16 = .ok (.aload_n 0, 1) := by decide +kernel
theorem dX5_check_17 : decode cX5_check 17 = .ok (.iconst 0, 1) := by decide +kernel
theorem dX5_check_18 : decode cX5_check 18 = .ok (.putfield 145, 3) := by decide +kernel
theorem dX5_check_21 : decode cX5_check 21 = .ok (.iconst (-1), 1) := by decide +kernel
theorem dX5_check_22 : decode cX5_check 22 = .ok (.ireturn, 1) := by decide +kernel
theorem dX5_check_23 : decode cX5_check 23 = .ok (.aload_n 0, 1) := by decide +kernel
theorem dX5_check_24 : decode cX5_check 24 = .ok (.getfield 59, 3) := by decide +kernel
theorem dX5_check_27 : decode cX5_check 27 = .ok (.aload_n 0, 1) := by decide +kernel
theorem dX5_check_28 : decode cX5_check 28 = .ok (.getfield 145, 3) := by decide +kernel
theorem dX5_check_31 : decode cX5_check 31 = .ok (.iload_n 1, 1) := by decide +kernel
theorem dX5_check_32 : decode cX5_check 32 = .ok (.bipush 65, 2) := by decide +kernel
theorem dX5_check_34 : decode cX5_check 34 = .ok (.isub, 1) := by decide +kernel
theorem dX5_check_35 : decode cX5_check 35 = .ok (.iastore, 1) := by decide +kernel
theorem dX5_check_36 : decode cX5_check 36 = .ok (.aload_n 0, 1) := by decide +kernel
theorem dX5_check_37 : decode cX5_check 37 = .ok (.dup, 1) := by decide +kernel
theorem dX5_check_38 : decode cX5_check 38 = .ok (.getfield 145, 3) := by decide +kernel
theorem dX5_check_41 : decode cX5_check 41 = .ok (.iconst 1, 1) := by decide +kernel
theorem dX5_check_42 : decode cX5_check 42 = .ok (.iadd, 1) := by decide +kernel
theorem dX5_check_43 : decode cX5_check 43 = .ok (.putfield 145, 3) := by decide +kernel
theorem dX5_check_46 : decode cX5_check 46 = .ok (.aload_n 0, 1) := by decide +kernel
theorem dX5_check_47 : decode cX5_check 47 = .ok (.getfield 145, 3) := by decide +kernel
theorem dX5_check_50 : decode cX5_check 50 = .ok (.bipush 7, 2) := by decide +kernel
theorem dX5_check_52 : decode cX5_check 52 = .ok (.if_icmp .ge 5, 3) := by decide +kernel
theorem dX5_check_55 : decode cX5_check 55 = .ok (.iconst 0, 1) := by decide +kernel
theorem dX5_check_56 : decode cX5_check 56 = .ok (.ireturn, 1) := by decide +kernel
theorem dX5_check_57 : decode cX5_check 57 = .ok (.aload_n 0, 1) := by decide +kernel
theorem dX5_check_58 : decode cX5_check 58 = .ok (.iconst 0, 1) := by decide +kernel
theorem dX5_check_59 : decode cX5_check 59 = .ok (.putfield 145, 3) := by decide +kernel
theorem dX5_check_62 : decode cX5_check 62 = .ok (.iconst 0, 1) := by decide +kernel
theorem dX5_check_63 : decode cX5_check 63 = .ok (.istore_n 2, 1) := by decide +kernel
theorem dX5_check_64 : decode cX5_check 64 = .ok (.iconst 0, 1) := by decide +kernel
theorem dX5_check_65 : decode cX5_check 65 = .ok (.istore_n 3, 1) := by decide +kernel
theorem dX5_check_66 : decode cX5_check 66 = .ok (.iconst 0, 1) := by decide +kernel
theorem dX5_check_67 : decode cX5_check 67 = .ok (.istore 4, 2) := by decide +kernel
theorem dX5_check_69 : decode cX5_check 69 = .ok (.iload 4, 2) := by decide +kernel
theorem dX5_check_71 : decode cX5_check 71 = .ok (.bipush 6, 2) := by decide +kernel
theorem dX5_check_73 : decode cX5_check 73 = .ok (.if_icmp .ge 42, 3) := by decide +kernel
theorem dX5_check_76 : decode cX5_check 76 = .ok (.iload_n 2, 1) := by decide +kernel
theorem dX5_check_77 : decode cX5_check 77 = .ok (.aload_n 0, 1) := by decide +kernel
theorem dX5_check_78 : decode cX5_check 78 = .ok (.getfield 59, 3) := by decide +kernel
theorem dX5_check_81 : decode cX5_check 81 = .ok (.iload 4, 2) := by decide +kernel
theorem dX5_check_83 : decode cX5_check 83 = .ok (.iaload, 1) := by decide +kernel
theorem dX5_check_84 : decode cX5_check 84 = .ok (.iconst 5, 1) := by decide +kernel
theorem dX5_check_85 : decode cX5_check 85 = .ok (.iload 4, 2) := by decide +kernel
theorem dX5_check_87 : decode cX5_check 87 = .ok (.isub, 1) := by decide +kernel
theorem dX5_check_88 : decode cX5_check 88 = .ok (.invokestatic 138, 3) := by decide +kernel
theorem dX5_check_91 : decode cX5_check 91 = .ok (.imul, 1) := by decide +kernel
theorem dX5_check_92 : decode cX5_check 92 = .ok (.iadd, 1) := by decide +kernel
theorem dX5_check_93 : decode cX5_check 93 = .ok (.istore_n 2, 1) := by decide +kernel
theorem dX5_check_94 : decode cX5_check 94 = .ok (.iload_n 3, 1) := by decide +kernel
theorem dX5_check_95 : decode cX5_check 95 = .ok (.iload 4, 2) := by decide +kernel
theorem dX5_check_97 : decode cX5_check 97 = .ok (.iconst 1, 1) := by decide +kernel
theorem dX5_check_98 : decode cX5_check 98 = .ok (.iadd, 1) := by decide +kernel
theorem dX5_check_99 : decode cX5_check 99 = .ok (.aload_n 0, 1) := by decide +kernel
theorem dX5_check_100 : decode cX5_check 100 = .ok (.getfield 59, 3) := by decide +kernel
theorem dX5_check_103 : decode cX5_check 103 = .ok (.iload 4, 2) := by decide +kernel
theorem dX5_check_105 : decode cX5_check 105 = .ok (.iaload, 1) := by decide +kernel
theorem dX5_check_106 : decode cX5_check 106 = .ok (.imul, 1) := by decide +kernel
theorem dX5_check_107 : decode cX5_check 107 = .ok (.iadd, 1) := by decide +kernel
theorem dX5_check_108 : decode cX5_check 108 = .ok (.istore_n 3, 1) := by decide +kernel
theorem dX5_check_109 : decode cX5_check 109 = .ok (.iinc 4 1, 3) := by decide +kernel
theorem dX5_check_112 : decode cX5_check 112 = .ok (.goto (-43), 3) := by decide +kernel
theorem dX5_check_115 : decode cX5_check 115 = .ok (.iload_n 2, 1) := by decide +kernel
theorem dX5_check_116 : decode cX5_check 116 = .ok (.ldc 148, 2) := by decide +kernel
theorem dX5_check_118 : decode cX5_check 118 = .ok (.if_icmp .ge 21, 3) := by decide +kernel
theorem dX5_check_121 : decode cX5_check 121 = .ok (.aload_n 0, 1) := by decide +kernel
theorem dX5_check_122 : decode cX5_check 122 = .ok (.getfield 59, 3) := by decide +kernel
theorem dX5_check_125 : decode cX5_check 125 = .ok (.bipush 6, 2) := by decide +kernel
theorem dX5_check_127 : decode cX5_check 127 = .ok (.iaload, 1) := by decide +kernel
theorem dX5_check_128 : decode cX5_check 128 = .ok (.iload_n 3, 1) := by decide +kernel
theorem dX5_check_129 : decode cX5_check 129 = .ok (.bipush 23, 2) := by decide +kernel
theorem dX5_check_131 : decode cX5_check 131 = .ok (.irem, 1) := by decide +kernel
theorem dX5_check_132 : decode cX5_check 132 = .ok (.if_icmp .ne 7, 3) := by decide +kernel
theorem dX5_check_135 : decode cX5_check 135 = .ok (.iconst 1, 1) := by decide +kernel
theorem dX5_check_136 : decode cX5_check 136 = .ok (.goto 4, 3) := by decide +kernel
theorem dX5_check_139 : decode cX5_check 139 = .ok (.iconst 0, 1) := by decide +kernel
theorem dX5_check_140 : decode cX5_check 140 = .ok (.istore 4, 2) := by decide +kernel
theorem dX5_check_142 : decode cX5_check 142 = .ok (.aload_n 0, 1) := by decide +kernel
theorem dX5_check_143 : decode cX5_check 143 = .ok (.iload 4, 2) := by decide +kernel
theorem dX5_check_145 : decode cX5_check 145 = .ok (.ifCond .eq 7, 3) := by decide +kernel
theorem dX5_check_148 : decode cX5_check 148 = .ok (.iload_n 2, 1) := by decide +kernel
theorem dX5_check_149 : decode cX5_check 149 = .ok (.goto 7, 3) := by decide +kernel
theorem dX5_check_152 : decode cX5_check 152 = .ok (.aload_n 0, 1) := by decide +kernel
theorem dX5_check_153 : decode cX5_check 153 = .ok (.getfield 62, 3) := by decide +kernel
theorem dX5_check_156 : decode cX5_check 156 = .ok (.putfield 62, 3) := by decide +kernel
theorem dX5_check_159 : decode cX5_check 159 = .ok (.iload 4, 2) := by decide +kernel
theorem dX5_check_161 : decode cX5_check 161 = .ok (.ifCond .eq 7, 3) := by decide +kernel
theorem dX5_check_164 : decode cX5_check 164 = .ok (.iconst 1, 1) := by decide +kernel
theorem dX5_check_165 : decode cX5_check 165 = .ok (.goto 4, 3) := by decide +kernel
theorem dX5_check_168 : decode cX5_check 168 = .ok (.iconst (-1), 1) := by decide +kernel
theorem dX5_check_169 : decode cX5_check 169 = .ok (.ireturn, 1) := by decide +kernel
theorem dX5_certified_0 : decode cX5_certified 0 = .ok (.aload_n 0, 1) := by decide +kernel
theorem dX5_certified_1 : decode cX5_certified 1 = .ok (.iconst 0, 1) := by decide +kernel
theorem dX5_certified_2 : decode cX5_certified 2 = .ok (.putfield 66, 3) := by decide +kernel
theorem dX5_certified_5 : decode cX5_certified 5 = .ok (.aload_n 0, 1) := by decide +kernel
theorem dX5_certified_6 : decode cX5_certified 6 = .ok (.getfield 62, 3) := by decide +kernel
theorem dX5_certified_9 : decode cX5_certified 9 = .ok (.ireturn, 1) := by decide +kernel
theorem dX5_acts_0 : decode cX5_acts 0 = .ok (.iconst 0, 1) := by decide +kernel
theorem dX5_acts_1 : decode cX5_acts 1 = .ok (.istore_n 3, 1) := by decide +kernel
theorem dX5_acts_2 : decode cX5_acts 2 = .ok (.iconst 0, 1) := by decide +kernel
theorem dX5_acts_3 : decode cX5_acts 3 = .ok (.istore 4, 2) := by decide +kernel
theorem dX5_acts_5 : decode cX5_acts 5 = .ok (.iload 4, 2) := by decide +kernel
theorem dX5_acts_7 : decode cX5_acts 7 = .ok (.bipush 8, 2) := by decide +kernel
theorem dX5_acts_9 : decode cX5_acts 9 = .ok (.if_icmp .ge 66, 3) := by decide +kernel
theorem dX5_acts_12 : decode cX5_acts 12 = .ok (.iconst 0, 1) := by decide +kernel
theorem dX5_acts_13 : decode cX5_acts 13 = .ok (.istore 5, 2) := by decide +kernel
theorem dX5_acts_15 : decode cX5_acts 15 = .ok (.iconst 0, 1) := by decide +kernel
theorem dX5_acts_16 : decode cX5_acts 16 = .ok (.istore 6, 2) := by decide +kernel
theorem dX5_acts_18 : decode cX5_acts 18 = .ok (.iload 6, 2) := by decide +kernel
theorem dX5_acts_20 : decode cX5_acts 20 = .ok (.bipush 8, 2) := by decide +kernel
theorem dX5_acts_22 : decode cX5_acts 22 = .ok (.if_icmp .ge 34, 3) := by decide +kernel
theorem dX5_acts_25 : decode cX5_acts 25 = .ok (.iload 5, 2) := by decide +kernel
theorem dX5_acts_27 : decode cX5_acts 27 = .ok (.ifCond .ne 16, 3) := by decide +kernel
theorem dX5_acts_30 : decode cX5_acts 30 = .ok (.aload_n 0, 1) := by decide +kernel
theorem dX5_acts_31 : decode cX5_acts 31 = .ok (.iload_n 1, 1) := by decide +kernel
theorem dX5_acts_32 : decode cX5_acts 32 = .ok (.iload 4, 2) := by decide +kernel
theorem dX5_acts_34 : decode cX5_acts 34 = .ok (.iload 6, 2) := by decide +kernel
theorem dX5_acts_36 : decode cX5_acts 36 = .ok (.iload_n 2, 1) := by decide +kernel
theorem dX5_acts_37 : decode cX5_acts 37 = .ok (.invokevirtual 123, 3) := by decide +kernel
theorem dX5_acts_40 : decode cX5_acts 40 = .ok (.ifCond .eq 7, 3) := by decide +kernel
theorem dX5_acts_43 : decode cX5_acts 43 = .ok (.iconst 1, 1) := by decide +kernel
theorem dX5_acts_44 : decode cX5_acts 44 = .ok (.goto 4, 3) := by decide +kernel
theorem dX5_acts_47 : decode cX5_acts 47 = .ok (.iconst 0, 1) := by decide +kernel
theorem dX5_acts_48 : decode cX5_acts 48 = .ok (.istore 5, 2) := by decide +kernel
theorem dX5_acts_50 : decode cX5_acts 50 = .ok (.iinc 6 1, 3) := by decide +kernel
theorem dX5_acts_53 : decode cX5_acts 53 = .ok (.goto (-35), 3) := by decide +kernel
theorem dX5_acts_56 : decode cX5_acts 56 = .ok (.iload_n 3, 1) := by decide +kernel
theorem dX5_acts_57 : decode cX5_acts 57 = .ok (.iload 5, 2) := by decide +kernel
theorem dX5_acts_59 : decode cX5_acts 59 = .ok (.ifCond .eq 7, 3) := by decide +kernel
theorem dX5_acts_62 : decode cX5_acts 62 = .ok (.iconst 1, 1) := by decide +kernel
theorem dX5_acts_63 : decode cX5_acts 63 = .ok (.goto 4, 3) := by decide +kernel
theorem dX5_acts_66 : decode cX5_acts 66 = .ok (.iconst 0, 1) := by decide +kernel
theorem dX5_acts_67 : decode cX5_acts 67 = .ok (.iadd, 1) := by decide +kernel
theorem dX5_acts_68 : decode cX5_acts 68 = .ok (.istore_n 3, 1) := by decide +kernel
theorem dX5_acts_69 : decode cX5_acts 69 = .ok (.iinc 4 1, 3) := by decide +kernel
theorem dX5_acts_72 : decode cX5_acts 72 = .ok (.goto (-67), 3) := by decide +kernel
theorem dX5_acts_75 : decode cX5_acts 75 = .ok (.iload_n 3, 1) := by decide +kernel
theorem dX5_acts_76 : decode cX5_acts 76 = .ok (.ireturn, 1) := by decide +kernel
theorem dX5_standing_0 : decode cX5_standing 0 = .ok (.iconst 0, 1) := by decide +kernel
theorem dX5_standing_1 : decode cX5_standing 1 = .ok (.istore_n 3, 1) := by decide +kernel
theorem dX5_standing_2 : decode cX5_standing 2 = .ok (.iconst 0, 1) := by decide +kernel
theorem dX5_standing_3 : decode cX5_standing 3 = .ok (.istore 4, 2) := by decide +kernel
theorem dX5_standing_5 : decode cX5_standing 5 = .ok (.iload 4, 2) := by decide +kernel
theorem dX5_standing_7 : decode cX5_standing 7 = .ok (.aload_n 0, 1) := by decide +kernel
theorem dX5_standing_8 : decode cX5_standing 8 = .ok (.getfield 111, 3) := by decide +kernel
theorem dX5_standing_11 : decode cX5_standing 11 = .ok (.if_icmp .ge 39, 3) := by decide +kernel
theorem dX5_standing_14 : decode cX5_standing 14 = .ok (.iload_n 3, 1) := by decide +kernel
theorem dX5_standing_15 : decode cX5_standing 15 = .ok (.aload_n 0, 1) := by decide +kernel
theorem dX5_standing_16 : decode cX5_standing 16 = .ok (.getfield 40, 3) := by decide +kernel
theorem dX5_standing_19 : decode cX5_standing 19 = .ok (.iload 4, 2) := by decide +kernel
theorem dX5_standing_21 : decode cX5_standing 21 = .ok (.iaload, 1) := by decide +kernel
theorem dX5_standing_22 : decode cX5_standing 22 = .ok (.iload_n 1, 1) := by decide +kernel
theorem dX5_standing_23 : decode cX5_standing 23 = .ok (.if_icmp .ne 18, 3) := by decide +kernel
theorem dX5_standing_26 : decode cX5_standing 26 = .ok (.aload_n 0, 1) := by decide +kernel
theorem dX5_standing_27 : decode cX5_standing 27 = .ok (.getfield 47, 3) := by decide +kernel
theorem dX5_standing_30 : decode cX5_standing 30 = .ok (.iload 4, 2) := by decide +kernel
theorem dX5_standing_32 : decode cX5_standing 32 = .ok (.iaload, 1) := by decide +kernel
theorem dX5_standing_33 : decode cX5_standing 33 = .ok (.iload_n 2, 1) := by decide +kernel
theorem dX5_standing_34 : decode cX5_standing 34 = .ok (.if_icmp .lt 7, 3) := by decide +kernel
theorem dX5_standing_37 : decode cX5_standing 37 = .ok (.iconst 1, 1) := by decide +kernel
theorem dX5_standing_38 : decode cX5_standing 38 = .ok (.goto 4, 3) := by decide +kernel
theorem dX5_standing_41 : decode cX5_standing 41 = .ok (.iconst 0, 1) := by decide +kernel
theorem dX5_standing_42 : decode cX5_standing 42 = .ok (.iadd, 1) := by decide +kernel
theorem dX5_standing_43 : decode cX5_standing 43 = .ok (.istore_n 3, 1) := by decide +kernel
theorem dX5_standing_44 : decode cX5_standing 44 = .ok (.iinc 4 1, 3) := by decide +kernel
theorem dX5_standing_47 : decode cX5_standing 47 = .ok (.goto (-42), 3) := by decide +kernel
theorem dX5_standing_50 : decode cX5_standing 50 = .ok (.iload_n 3, 1) := by decide +kernel
theorem dX5_standing_51 : decode cX5_standing 51 = .ok (.ireturn, 1) := by decide +kernel
theorem dX5_look_0 : decode cX5_look 0 = .ok (.aload_n 0, 1) := by decide +kernel
theorem dX5_look_1 : decode cX5_look 1 = .ok (.aload_n 0, 1) := by decide +kernel
theorem dX5_look_2 : decode cX5_look 2 = .ok (.iload_n 1, 1) := by decide +kernel
theorem dX5_look_3 : decode cX5_look 3 = .ok (.invokevirtual 77, 3) := by decide +kernel
theorem dX5_look_6 : decode cX5_look 6 = .ok (.ifCond .eq 13, 3) := by decide +kernel
theorem dX5_look_9 : decode cX5_look 9 = .ok (.iload_n 3, 1) := by decide +kernel
theorem dX5_look_10 : decode cX5_look 10 = .ok (.iconst 0, 1) := by decide +kernel
theorem dX5_look_11 : decode cX5_look 11 = .ok (.bipush 6, 2) := by decide +kernel
theorem dX5_look_13 : decode cX5_look 13 = .ok (.invokestatic 73, 3) := by decide +kernel
theorem dX5_look_16 : decode cX5_look 16 = .ok (.ifCond .ne 7, 3) := by decide +kernel
theorem dX5_look_19 : decode cX5_look 19 = .ok (.iconst 1, 1) := by decide +kernel
theorem dX5_look_20 : decode cX5_look 20 = .ok (.goto 15, 3) := by decide +kernel
theorem dX5_look_23 : decode cX5_look 23 = .ok (.iload_n 2, 1) := by decide +kernel
theorem dX5_look_24 : decode cX5_look 24 = .ok (.invokestatic 84, 3) := by decide +kernel
theorem dX5_look_27 : decode cX5_look 27 = .ok (.ifCond .ne 7, 3) := by decide +kernel
theorem dX5_look_30 : decode cX5_look 30 = .ok (.iconst 2, 1) := by decide +kernel
theorem dX5_look_31 : decode cX5_look 31 = .ok (.goto 4, 3) := by decide +kernel
theorem dX5_look_34 : decode cX5_look 34 = .ok (.iconst 0, 1) := by decide +kernel
theorem dX5_look_35 : decode cX5_look 35 = .ok (.putfield 66, 3) := by decide +kernel
theorem dX5_look_38 : decode cX5_look 38 = .ok (.aload_n 0, 1) := by decide +kernel
theorem dX5_look_39 : decode cX5_look 39 = .ok (.getfield 66, 3) := by decide +kernel
theorem dX5_look_42 : decode cX5_look 42 = .ok (.ifCond .le 5, 3) := by decide +kernel
theorem dX5_look_45 : decode cX5_look 45 = .ok (.iconst 0, 1) := by decide +kernel
theorem dX5_look_46 : decode cX5_look 46 = .ok (.ireturn, 1) := by decide +kernel
theorem dX5_look_47 : decode cX5_look 47 = .ok (.iload_n 3, 1) := by decide +kernel
theorem dX5_look_48 : decode cX5_look 48 = .ok (.tableswitch 102 0 5 #[40, 55, 70, 82, 89, 95], 40) := by decide +kernel
theorem dX5_look_88 : decode cX5_look 88 = .ok (.aload_n 0, 1) := by decide +kernel
theorem dX5_look_89 : decode cX5_look 89 = .ok (.iload_n 1, 1) := by decide +kernel
theorem dX5_look_90 : decode cX5_look 90 = .ok (.iload_n 2, 1) := by decide +kernel
theorem dX5_look_91 : decode cX5_look 91 = .ok (.invokevirtual 117, 3) := by decide +kernel
theorem dX5_look_94 : decode cX5_look 94 = .ok (.ifCond .eq 7, 3) := by decide +kernel
theorem dX5_look_97 : decode cX5_look 97 = .ok (.iconst 1, 1) := by decide +kernel
theorem dX5_look_98 : decode cX5_look 98 = .ok (.goto 4, 3) := by decide +kernel
theorem dX5_look_101 : decode cX5_look 101 = .ok (.iconst 0, 1) := by decide +kernel
theorem dX5_look_102 : decode cX5_look 102 = .ok (.ireturn, 1) := by decide +kernel
theorem dX5_look_103 : decode cX5_look 103 = .ok (.aload_n 0, 1) := by decide +kernel
theorem dX5_look_104 : decode cX5_look 104 = .ok (.iload_n 1, 1) := by decide +kernel
theorem dX5_look_105 : decode cX5_look 105 = .ok (.iload_n 2, 1) := by decide +kernel
theorem dX5_look_106 : decode cX5_look 106 = .ok (.invokevirtual 120, 3) := by decide +kernel
theorem dX5_look_109 : decode cX5_look 109 = .ok (.ifCond .eq 7, 3) := by decide +kernel
theorem dX5_look_112 : decode cX5_look 112 = .ok (.iconst 1, 1) := by decide +kernel
theorem dX5_look_113 : decode cX5_look 113 = .ok (.goto 4, 3) := by decide +kernel
theorem dX5_look_116 : decode cX5_look 116 = .ok (.iconst 0, 1) := by decide +kernel
theorem dX5_look_117 : decode cX5_look 117 = .ok (.ireturn, 1) := by decide +kernel
theorem dX5_look_118 : decode cX5_look 118 = .ok (.aload_n 0, 1) := by decide +kernel
theorem dX5_look_119 : decode cX5_look 119 = .ok (.iload_n 1, 1) := by decide +kernel
theorem dX5_look_120 : decode cX5_look 120 = .ok (.iload_n 2, 1) := by decide +kernel
theorem dX5_look_121 : decode cX5_look 121 = .ok (.invokevirtual 104, 3) := by decide +kernel
theorem dX5_look_124 : decode cX5_look 124 = .ok (.invokestatic 100, 3) := by decide +kernel
theorem dX5_look_127 : decode cX5_look 127 = .ok (.iconst 1, 1) := by decide +kernel
theorem dX5_look_128 : decode cX5_look 128 = .ok (.isub, 1) := by decide +kernel
theorem dX5_look_129 : decode cX5_look 129 = .ok (.ireturn, 1) := by decide +kernel
theorem dX5_look_130 : decode cX5_look 130 = .ok (.aload_n 0, 1) := by decide +kernel
theorem dX5_look_131 : decode cX5_look 131 = .ok (.iload_n 1, 1) := by decide +kernel
theorem dX5_look_132 : decode cX5_look 132 = .ok (.iload_n 2, 1) := by decide +kernel
theorem dX5_look_133 : decode cX5_look 133 = .ok (.invokevirtual 149, 3) := by decide +kernel
theorem dX5_look_136 : decode cX5_look 136 = .ok (.ireturn, 1) := by decide +kernel
theorem dX5_look_137 : decode cX5_look 137 = .ok (.aload_n 0, 1) := by decide +kernel
theorem dX5_look_138 : decode cX5_look 138 = .ok (.iload_n 1, 1) := by decide +kernel
theorem dX5_look_139 : decode cX5_look 139 = .ok (.invokevirtual 108, 3) := by decide +kernel
theorem dX5_look_142 : decode cX5_look 142 = .ok (.ireturn, 1) := by decide +kernel
theorem dX5_look_143 : decode cX5_look 143 = .ok (.aload_n 0, 1) := by decide +kernel
theorem dX5_look_144 : decode cX5_look 144 = .ok (.getfield 16, 3) := by decide +kernel
theorem dX5_look_147 : decode cX5_look 147 = .ok (.iload_n 1, 1) := by decide +kernel
theorem dX5_look_148 : decode cX5_look 148 = .ok (.iaload, 1) := by decide +kernel
theorem dX5_look_149 : decode cX5_look 149 = .ok (.ireturn, 1) := by decide +kernel
theorem dX5_look_150 : decode cX5_look 150 = .ok (.aload_n 0, 1) := by decide +kernel
theorem dX5_look_151 : decode cX5_look 151 = .ok (.iload_n 1, 1) := by decide +kernel
theorem dX5_look_152 : decode cX5_look 152 = .ok (.iload_n 2, 1) := by decide +kernel
theorem dX5_look_153 : decode cX5_look 153 = .ok (.invokevirtual 152, 3) := by decide +kernel
theorem dX5_look_156 : decode cX5_look 156 = .ok (.ireturn, 1) := by decide +kernel
theorem dX5_count_0 : decode cX5_count 0 = .ok (.aload_n 0, 1) := by decide +kernel
theorem dX5_count_1 : decode cX5_count 1 = .ok (.iconst 0, 1) := by decide +kernel
theorem dX5_count_2 : decode cX5_count 2 = .ok (.putfield 66, 3) := by decide +kernel
theorem dX5_count_5 : decode cX5_count 5 = .ok (.iload_n 1, 1) := by decide +kernel
theorem dX5_count_6 : decode cX5_count 6 = .ok (.tableswitch 68 0 5 #[38, 43, 48, 53, 58, 63], 38) := by decide +kernel
theorem dX5_count_44 : decode cX5_count 44 = .ok (.aload_n 0, 1) := by decide +kernel
theorem dX5_count_45 : decode cX5_count 45 = .ok (.getfield 69, 3) := by decide +kernel
theorem dX5_count_48 : decode cX5_count 48 = .ok (.ireturn, 1) := by decide +kernel
theorem dX5_count_49 : decode cX5_count 49 = .ok (.aload_n 0, 1) := by decide +kernel
theorem dX5_count_50 : decode cX5_count 50 = .ok (.getfield 87, 3) := by decide +kernel
theorem dX5_count_53 : decode cX5_count 53 = .ok (.ireturn, 1) := by decide +kernel
theorem dX5_count_54 : decode cX5_count 54 = .ok (.aload_n 0, 1) := by decide +kernel
theorem dX5_count_55 : decode cX5_count 55 = .ok (.getfield 111, 3) := by decide +kernel
theorem dX5_count_58 : decode cX5_count 58 = .ok (.ireturn, 1) := by decide +kernel
theorem dX5_count_59 : decode cX5_count 59 = .ok (.aload_n 0, 1) := by decide +kernel
theorem dX5_count_60 : decode cX5_count 60 = .ok (.getfield 114, 3) := by decide +kernel
theorem dX5_count_63 : decode cX5_count 63 = .ok (.ireturn, 1) := by decide +kernel
theorem dX5_count_64 : decode cX5_count 64 = .ok (.aload_n 0, 1) := by decide +kernel
theorem dX5_count_65 : decode cX5_count 65 = .ok (.getfield 135, 3) := by decide +kernel
theorem dX5_count_68 : decode cX5_count 68 = .ok (.ireturn, 1) := by decide +kernel
theorem dX5_count_69 : decode cX5_count 69 = .ok (.aload_n 0, 1) := by decide +kernel
theorem dX5_count_70 : decode cX5_count 70 = .ok (.getfield 145, 3) := by decide +kernel
theorem dX5_count_73 : decode cX5_count 73 = .ok (.ireturn, 1) := by decide +kernel
theorem dX5_count_74 : decode cX5_count 74 = .ok (.iconst (-1), 1) := by decide +kernel
theorem dX5_count_75 : decode cX5_count 75 = .ok (.ireturn, 1) := by decide +kernel
theorem dJ6_bitCount_0f7a4_0 : decode cJ6_bitCount_0f7a4 0 = .ok (.iload_n 0, 1) := by decide +kernel
theorem dJ6_bitCount_0f7a4_1 : decode cJ6_bitCount_0f7a4 1 = .ok (.iload_n 0, 1) := by decide +kernel
theorem dJ6_bitCount_0f7a4_2 : decode cJ6_bitCount_0f7a4 2 = .ok (.iconst 1, 1) := by decide +kernel
theorem dJ6_bitCount_0f7a4_3 : decode cJ6_bitCount_0f7a4 3 = .ok (.iushr, 1) := by decide +kernel
theorem dJ6_bitCount_0f7a4_4 : decode cJ6_bitCount_0f7a4 4 = .ok (.ldc_w 265, 3) := by decide +kernel
theorem dJ6_bitCount_0f7a4_7 : decode cJ6_bitCount_0f7a4 7 = .ok (.iand, 1) := by decide +kernel
theorem dJ6_bitCount_0f7a4_8 : decode cJ6_bitCount_0f7a4 8 = .ok (.isub, 1) := by decide +kernel
theorem dJ6_bitCount_0f7a4_9 : decode cJ6_bitCount_0f7a4 9 = .ok (.istore_n 0, 1) := by decide +kernel
theorem dJ6_bitCount_0f7a4_10 : decode cJ6_bitCount_0f7a4 10 = .ok (.iload_n 0, 1) := by decide +kernel
theorem dJ6_bitCount_0f7a4_11 : decode cJ6_bitCount_0f7a4 11 = .ok (.ldc_w 266, 3) := by decide +kernel
theorem dJ6_bitCount_0f7a4_14 : decode cJ6_bitCount_0f7a4 14 = .ok (.iand, 1) := by decide +kernel
theorem dJ6_bitCount_0f7a4_15 : decode cJ6_bitCount_0f7a4 15 = .ok (.iload_n 0, 1) := by decide +kernel
theorem dJ6_bitCount_0f7a4_16 : decode cJ6_bitCount_0f7a4 16 = .ok (.iconst 2, 1) := by decide +kernel
theorem dJ6_bitCount_0f7a4_17 : decode cJ6_bitCount_0f7a4 17 = .ok (.iushr, 1) := by decide +kernel
theorem dJ6_bitCount_0f7a4_18 : decode cJ6_bitCount_0f7a4 18 = .ok (.ldc_w 266, 3) := by decide +kernel
theorem dJ6_bitCount_0f7a4_21 : decode cJ6_bitCount_0f7a4 21 = .ok (.iand, 1) := by decide +kernel
theorem dJ6_bitCount_0f7a4_22 : decode cJ6_bitCount_0f7a4 22 = .ok (.iadd, 1) := by decide +kernel
theorem dJ6_bitCount_0f7a4_23 : decode cJ6_bitCount_0f7a4 23 = .ok (.istore_n 0, 1) := by decide +kernel
theorem dJ6_bitCount_0f7a4_24 : decode cJ6_bitCount_0f7a4 24 = .ok (.iload_n 0, 1) := by decide +kernel
theorem dJ6_bitCount_0f7a4_25 : decode cJ6_bitCount_0f7a4 25 = .ok (.iload_n 0, 1) := by decide +kernel
theorem dJ6_bitCount_0f7a4_26 : decode cJ6_bitCount_0f7a4 26 = .ok (.iconst 4, 1) := by decide +kernel
theorem dJ6_bitCount_0f7a4_27 : decode cJ6_bitCount_0f7a4 27 = .ok (.iushr, 1) := by decide +kernel
theorem dJ6_bitCount_0f7a4_28 : decode cJ6_bitCount_0f7a4 28 = .ok (.iadd, 1) := by decide +kernel
theorem dJ6_bitCount_0f7a4_29 : decode cJ6_bitCount_0f7a4 29 = .ok (.ldc_w 267, 3) := by decide +kernel
theorem dJ6_bitCount_0f7a4_32 : decode cJ6_bitCount_0f7a4 32 = .ok (.iand, 1) := by decide +kernel
theorem dJ6_bitCount_0f7a4_33 : decode cJ6_bitCount_0f7a4 33 = .ok (.istore_n 0, 1) := by decide +kernel
theorem dJ6_bitCount_0f7a4_34 : decode cJ6_bitCount_0f7a4 34 = .ok (.iload_n 0, 1) := by decide +kernel
theorem dJ6_bitCount_0f7a4_35 : decode cJ6_bitCount_0f7a4 35 = .ok (.iload_n 0, 1) := by decide +kernel
theorem dJ6_bitCount_0f7a4_36 : decode cJ6_bitCount_0f7a4 36 = .ok (.bipush 8, 2) := by decide +kernel
theorem dJ6_bitCount_0f7a4_38 : decode cJ6_bitCount_0f7a4 38 = .ok (.iushr, 1) := by decide +kernel
theorem dJ6_bitCount_0f7a4_39 : decode cJ6_bitCount_0f7a4 39 = .ok (.iadd, 1) := by decide +kernel
theorem dJ6_bitCount_0f7a4_40 : decode cJ6_bitCount_0f7a4 40 = .ok (.istore_n 0, 1) := by decide +kernel
theorem dJ6_bitCount_0f7a4_41 : decode cJ6_bitCount_0f7a4 41 = .ok (.iload_n 0, 1) := by decide +kernel
theorem dJ6_bitCount_0f7a4_42 : decode cJ6_bitCount_0f7a4 42 = .ok (.iload_n 0, 1) := by decide +kernel
theorem dJ6_bitCount_0f7a4_43 : decode cJ6_bitCount_0f7a4 43 = .ok (.bipush 16, 2) := by decide +kernel
theorem dJ6_bitCount_0f7a4_45 : decode cJ6_bitCount_0f7a4 45 = .ok (.iushr, 1) := by decide +kernel
theorem dJ6_bitCount_0f7a4_46 : decode cJ6_bitCount_0f7a4 46 = .ok (.iadd, 1) := by decide +kernel
theorem dJ6_bitCount_0f7a4_47 : decode cJ6_bitCount_0f7a4 47 = .ok (.istore_n 0, 1) := by decide +kernel
theorem dJ6_bitCount_0f7a4_48 : decode cJ6_bitCount_0f7a4 48 = .ok (.iload_n 0, 1) := by decide +kernel
theorem dJ6_bitCount_0f7a4_49 : decode cJ6_bitCount_0f7a4 49 = .ok (.bipush 63, 2) := by decide +kernel
theorem dJ6_bitCount_0f7a4_51 : decode cJ6_bitCount_0f7a4 51 = .ok (.iand, 1) := by decide +kernel
theorem dJ6_bitCount_0f7a4_52 : decode cJ6_bitCount_0f7a4 52 = .ok (.ireturn, 1) := by decide +kernel
theorem dJ7_fill_53178_0 : decode cJ7_fill_53178 0 = .ok (.iconst 0, 1) := by decide +kernel
theorem dJ7_fill_53178_1 : decode cJ7_fill_53178 1 = .ok (.istore_n 2, 1) := by decide +kernel
theorem dJ7_fill_53178_2 : decode cJ7_fill_53178 2 = .ok (.aload_n 0, 1) := by decide +kernel
theorem dJ7_fill_53178_3 : decode cJ7_fill_53178 3 = .ok (.arraylength, 1) := by decide +kernel
theorem dJ7_fill_53178_4 : decode cJ7_fill_53178 4 = .ok (.istore_n 3, 1) := by decide +kernel
theorem dJ7_fill_53178_5 : decode cJ7_fill_53178 5 = .ok (.iload_n 2, 1) := by decide +kernel
theorem dJ7_fill_53178_6 : decode cJ7_fill_53178 6 = .ok (.iload_n 3, 1) := by decide +kernel
theorem dJ7_fill_53178_7 : decode cJ7_fill_53178 7 = .ok (.if_icmp .ge 13, 3) := by decide +kernel
theorem dJ7_fill_53178_10 : decode cJ7_fill_53178 10 = .ok (.aload_n 0, 1) := by decide +kernel
theorem dJ7_fill_53178_11 : decode cJ7_fill_53178 11 = .ok (.iload_n 2, 1) := by decide +kernel
theorem dJ7_fill_53178_12 : decode cJ7_fill_53178 12 = .ok (.iload_n 1, 1) := by decide +kernel
theorem dJ7_fill_53178_13 : decode cJ7_fill_53178 13 = .ok (.iastore, 1) := by decide +kernel
theorem dJ7_fill_53178_14 : decode cJ7_fill_53178 14 = .ok (.iinc 2 1, 3) := by decide +kernel
theorem dJ7_fill_53178_17 : decode cJ7_fill_53178 17 = .ok (.goto (-12), 3) := by decide +kernel
theorem dJ7_fill_53178_20 : decode cJ7_fill_53178 20 = .ok (.return_, 1) := by decide +kernel
theorem dL_trader_0 : decode cL_trader 0 = .ok (.aload_n 1, 1) := by decide +kernel
theorem dL_trader_1 : decode cL_trader 1 = .ok (.iconst 0, 1) := by decide +kernel
theorem dL_trader_2 : decode cL_trader 2 = .ok (.aload_n 0, 1) := by decide +kernel
theorem dL_trader_3 : decode cL_trader 3 = .ok (.invokevirtual 7, 3) := by decide +kernel
theorem dL_trader_6 : decode cL_trader 6 = .ok (.i2l, 1) := by decide +kernel
theorem dL_trader_7 : decode cL_trader 7 = .ok (.lastore, 1) := by decide +kernel
theorem dL_trader_8 : decode cL_trader 8 = .ok (.goto 6, 3) := by decide +kernel
theorem dL_trader_11 : decode cL_trader 11 = .ok (.astore_n 2, 1) := by decide +kernel
theorem dL_trader_12 : decode cL_trader 12 = .ok (.iconst 1, 1) := by decide +kernel
theorem dL_trader_13 : decode cL_trader 13 = .ok (.ireturn, 1) := by decide +kernel
theorem dL_trader_14 : decode cL_trader 14 = .ok (.iconst 0, 1) := by decide +kernel
theorem dL_trader_15 : decode cL_trader 15 = .ok (.ireturn, 1) := by decide +kernel
theorem dL_right_0 : decode cL_right 0 = .ok (.aload 6, 2) := by decide +kernel
theorem dL_right_2 : decode cL_right 2 = .ok (.iconst 0, 1) := by decide +kernel
theorem dL_right_3 : decode cL_right 3 = .ok (.aload_n 0, 1) := by decide +kernel
theorem dL_right_4 : decode cL_right 4 = .ok (.iload_n 1, 1) := by decide +kernel
theorem dL_right_5 : decode cL_right 5 = .ok (.iload_n 2, 1) := by decide +kernel
theorem dL_right_6 : decode cL_right 6 = .ok (.iload_n 3, 1) := by decide +kernel
theorem dL_right_7 : decode cL_right 7 = .ok (.iload 4, 2) := by decide +kernel
theorem dL_right_9 : decode cL_right 9 = .ok (.iload 5, 2) := by decide +kernel
theorem dL_right_11 : decode cL_right 11 = .ok (.invokevirtual 15, 3) := by decide +kernel
theorem dL_right_14 : decode cL_right 14 = .ok (.i2l, 1) := by decide +kernel
theorem dL_right_15 : decode cL_right 15 = .ok (.lastore, 1) := by decide +kernel
theorem dL_right_16 : decode cL_right 16 = .ok (.goto 11, 3) := by decide +kernel
theorem dL_right_19 : decode cL_right 19 = .ok (.astore 7, 2) := by decide +kernel
theorem dL_right_21 : decode cL_right 21 = .ok (.iconst 1, 1) := by decide +kernel
theorem dL_right_22 : decode cL_right 22 = .ok (.ireturn, 1) := by decide +kernel
theorem dL_right_23 : decode cL_right 23 = .ok (.astore 7, 2) := by decide +kernel
theorem dL_right_25 : decode cL_right 25 = .ok (.iconst 2, 1) := by decide +kernel
theorem dL_right_26 : decode cL_right 26 = .ok (.ireturn, 1) := by decide +kernel
theorem dL_right_27 : decode cL_right 27 = .ok (.iconst 0, 1) := by decide +kernel
theorem dL_right_28 : decode cL_right 28 = .ok (.ireturn, 1) := by decide +kernel
theorem dL_group_0 : decode cL_group 0 = .ok (.aload_n 3, 1) := by decide +kernel
theorem dL_group_1 : decode cL_group 1 = .ok (.iconst 0, 1) := by decide +kernel
theorem dL_group_2 : decode cL_group 2 = .ok (.aload_n 0, 1) := by decide +kernel
theorem dL_group_3 : decode cL_group 3 = .ok (.iload_n 1, 1) := by decide +kernel
theorem dL_group_4 : decode cL_group 4 = .ok (.iload_n 2, 1) := by decide +kernel
theorem dL_group_5 : decode cL_group 5 = .ok (.invokevirtual 21, 3) := by decide +kernel
theorem dL_group_8 : decode cL_group 8 = .ok (.i2l, 1) := by decide +kernel
theorem dL_group_9 : decode cL_group 9 = .ok (.lastore, 1) := by decide +kernel
theorem dL_group_10 : decode cL_group 10 = .ok (.goto 7, 3) := by decide +kernel
theorem dL_group_13 : decode cL_group 13 = .ok (.astore 4, 2) := by decide +kernel
theorem dL_group_15 : decode cL_group 15 = .ok (.iconst 1, 1) := by decide +kernel
theorem dL_group_16 : decode cL_group 16 = .ok (.ireturn, 1) := by decide +kernel
theorem dL_group_17 : decode cL_group 17 = .ok (.iconst 0, 1) := by decide +kernel
theorem dL_group_18 : decode cL_group 18 = .ok (.ireturn, 1) := by decide +kernel
theorem dL_deputy_0 : decode cL_deputy 0 = .ok (.aload_n 3, 1) := by decide +kernel
theorem dL_deputy_1 : decode cL_deputy 1 = .ok (.iconst 0, 1) := by decide +kernel
theorem dL_deputy_2 : decode cL_deputy 2 = .ok (.aload_n 0, 1) := by decide +kernel
theorem dL_deputy_3 : decode cL_deputy 3 = .ok (.iload_n 1, 1) := by decide +kernel
theorem dL_deputy_4 : decode cL_deputy 4 = .ok (.iload_n 2, 1) := by decide +kernel
theorem dL_deputy_5 : decode cL_deputy 5 = .ok (.invokevirtual 25, 3) := by decide +kernel
theorem dL_deputy_8 : decode cL_deputy 8 = .ok (.i2l, 1) := by decide +kernel
theorem dL_deputy_9 : decode cL_deputy 9 = .ok (.lastore, 1) := by decide +kernel
theorem dL_deputy_10 : decode cL_deputy 10 = .ok (.goto 7, 3) := by decide +kernel
theorem dL_deputy_13 : decode cL_deputy 13 = .ok (.astore 4, 2) := by decide +kernel
theorem dL_deputy_15 : decode cL_deputy 15 = .ok (.iconst 1, 1) := by decide +kernel
theorem dL_deputy_16 : decode cL_deputy 16 = .ok (.ireturn, 1) := by decide +kernel
theorem dL_deputy_17 : decode cL_deputy 17 = .ok (.iconst 0, 1) := by decide +kernel
theorem dL_deputy_18 : decode cL_deputy 18 = .ok (.ireturn, 1) := by decide +kernel
theorem dL_mandate_0 : decode cL_mandate 0 = .ok (.aload 5, 2) := by decide +kernel
theorem dL_mandate_2 : decode cL_mandate 2 = .ok (.iconst 0, 1) := by decide +kernel
theorem dL_mandate_3 : decode cL_mandate 3 = .ok (.aload_n 0, 1) := by decide +kernel
theorem dL_mandate_4 : decode cL_mandate 4 = .ok (.iload_n 1, 1) := by decide +kernel
theorem dL_mandate_5 : decode cL_mandate 5 = .ok (.iload_n 2, 1) := by decide +kernel
theorem dL_mandate_6 : decode cL_mandate 6 = .ok (.iload_n 3, 1) := by decide +kernel
theorem dL_mandate_7 : decode cL_mandate 7 = .ok (.iload 4, 2) := by decide +kernel
theorem dL_mandate_9 : decode cL_mandate 9 = .ok (.invokevirtual 28, 3) := by decide +kernel
theorem dL_mandate_12 : decode cL_mandate 12 = .ok (.i2l, 1) := by decide +kernel
theorem dL_mandate_13 : decode cL_mandate 13 = .ok (.lastore, 1) := by decide +kernel
theorem dL_mandate_14 : decode cL_mandate 14 = .ok (.goto 11, 3) := by decide +kernel
theorem dL_mandate_17 : decode cL_mandate 17 = .ok (.astore 6, 2) := by decide +kernel
theorem dL_mandate_19 : decode cL_mandate 19 = .ok (.iconst 1, 1) := by decide +kernel
theorem dL_mandate_20 : decode cL_mandate 20 = .ok (.ireturn, 1) := by decide +kernel
theorem dL_mandate_21 : decode cL_mandate 21 = .ok (.astore 6, 2) := by decide +kernel
theorem dL_mandate_23 : decode cL_mandate 23 = .ok (.iconst 2, 1) := by decide +kernel
theorem dL_mandate_24 : decode cL_mandate 24 = .ok (.ireturn, 1) := by decide +kernel
theorem dL_mandate_25 : decode cL_mandate 25 = .ok (.iconst 0, 1) := by decide +kernel
theorem dL_mandate_26 : decode cL_mandate 26 = .ok (.ireturn, 1) := by decide +kernel
theorem dL_suspend_0 : decode cL_suspend 0 = .ok (.aload 4, 2) := by decide +kernel
theorem dL_suspend_2 : decode cL_suspend 2 = .ok (.iconst 0, 1) := by decide +kernel
theorem dL_suspend_3 : decode cL_suspend 3 = .ok (.aload_n 0, 1) := by decide +kernel
theorem dL_suspend_4 : decode cL_suspend 4 = .ok (.iload_n 1, 1) := by decide +kernel
theorem dL_suspend_5 : decode cL_suspend 5 = .ok (.iload_n 2, 1) := by decide +kernel
theorem dL_suspend_6 : decode cL_suspend 6 = .ok (.iload_n 3, 1) := by decide +kernel
theorem dL_suspend_7 : decode cL_suspend 7 = .ok (.invokevirtual 32, 3) := by decide +kernel
theorem dL_suspend_10 : decode cL_suspend 10 = .ok (.i2l, 1) := by decide +kernel
theorem dL_suspend_11 : decode cL_suspend 11 = .ok (.lastore, 1) := by decide +kernel
theorem dL_suspend_12 : decode cL_suspend 12 = .ok (.goto 11, 3) := by decide +kernel
theorem dL_suspend_15 : decode cL_suspend 15 = .ok (.astore 5, 2) := by decide +kernel
theorem dL_suspend_17 : decode cL_suspend 17 = .ok (.iconst 1, 1) := by decide +kernel
theorem dL_suspend_18 : decode cL_suspend 18 = .ok (.ireturn, 1) := by decide +kernel
theorem dL_suspend_19 : decode cL_suspend 19 = .ok (.astore 5, 2) := by decide +kernel
theorem dL_suspend_21 : decode cL_suspend 21 = .ok (.iconst 2, 1) := by decide +kernel
theorem dL_suspend_22 : decode cL_suspend 22 = .ok (.ireturn, 1) := by decide +kernel
theorem dL_suspend_23 : decode cL_suspend 23 = .ok (.iconst 0, 1) := by decide +kernel
theorem dL_suspend_24 : decode cL_suspend 24 = .ok (.ireturn, 1) := by decide +kernel
theorem dL_letter_0 : decode cL_letter 0 = .ok (.aload_n 3, 1) := by decide +kernel
theorem dL_letter_1 : decode cL_letter 1 = .ok (.iconst 0, 1) := by decide +kernel
theorem dL_letter_2 : decode cL_letter 2 = .ok (.aload_n 0, 1) := by decide +kernel
theorem dL_letter_3 : decode cL_letter 3 = .ok (.iload_n 1, 1) := by decide +kernel
theorem dL_letter_4 : decode cL_letter 4 = .ok (.iload_n 2, 1) := by decide +kernel
theorem dL_letter_5 : decode cL_letter 5 = .ok (.invokevirtual 36, 3) := by decide +kernel
theorem dL_letter_8 : decode cL_letter 8 = .ok (.i2l, 1) := by decide +kernel
theorem dL_letter_9 : decode cL_letter 9 = .ok (.lastore, 1) := by decide +kernel
theorem dL_letter_10 : decode cL_letter 10 = .ok (.goto 11, 3) := by decide +kernel
theorem dL_letter_13 : decode cL_letter 13 = .ok (.astore 4, 2) := by decide +kernel
theorem dL_letter_15 : decode cL_letter 15 = .ok (.iconst 1, 1) := by decide +kernel
theorem dL_letter_16 : decode cL_letter 16 = .ok (.ireturn, 1) := by decide +kernel
theorem dL_letter_17 : decode cL_letter 17 = .ok (.astore 4, 2) := by decide +kernel
theorem dL_letter_19 : decode cL_letter 19 = .ok (.iconst 2, 1) := by decide +kernel
theorem dL_letter_20 : decode cL_letter 20 = .ok (.ireturn, 1) := by decide +kernel
theorem dL_letter_21 : decode cL_letter 21 = .ok (.iconst 0, 1) := by decide +kernel
theorem dL_letter_22 : decode cL_letter 22 = .ok (.ireturn, 1) := by decide +kernel
theorem dL_look_0 : decode cL_look 0 = .ok (.aload 4, 2) := by decide +kernel
theorem dL_look_2 : decode cL_look 2 = .ok (.iconst 0, 1) := by decide +kernel
theorem dL_look_3 : decode cL_look 3 = .ok (.aload_n 0, 1) := by decide +kernel
theorem dL_look_4 : decode cL_look 4 = .ok (.iload_n 1, 1) := by decide +kernel
theorem dL_look_5 : decode cL_look 5 = .ok (.iload_n 2, 1) := by decide +kernel
theorem dL_look_6 : decode cL_look 6 = .ok (.iload_n 3, 1) := by decide +kernel
theorem dL_look_7 : decode cL_look 7 = .ok (.invokevirtual 41, 3) := by decide +kernel
theorem dL_look_10 : decode cL_look 10 = .ok (.i2l, 1) := by decide +kernel
theorem dL_look_11 : decode cL_look 11 = .ok (.lastore, 1) := by decide +kernel
theorem dL_look_12 : decode cL_look 12 = .ok (.goto 11, 3) := by decide +kernel
theorem dL_look_15 : decode cL_look 15 = .ok (.astore 5, 2) := by decide +kernel
theorem dL_look_17 : decode cL_look 17 = .ok (.iconst 1, 1) := by decide +kernel
theorem dL_look_18 : decode cL_look 18 = .ok (.ireturn, 1) := by decide +kernel
theorem dL_look_19 : decode cL_look 19 = .ok (.astore 5, 2) := by decide +kernel
theorem dL_look_21 : decode cL_look 21 = .ok (.iconst 2, 1) := by decide +kernel
theorem dL_look_22 : decode cL_look 22 = .ok (.ireturn, 1) := by decide +kernel
theorem dL_look_23 : decode cL_look 23 = .ok (.iconst 0, 1) := by decide +kernel
theorem dL_look_24 : decode cL_look 24 = .ok (.ireturn, 1) := by decide +kernel
end
section
set_option maxRecDepth 20000 in
theorem ggX0_giversTo_X4_bit : GoodIn wsX0_giversTo wsX4_bit := goodIn_r _ [8] (by decide +kernel) (by decide +kernel)
set_option maxRecDepth 20000 in
theorem gX0_giversTo_X4_bit_n29 : GoodIn wsX0_giversTo (wsX4_bit) := ggX0_giversTo_X4_bit
set_option maxRecDepth 20000 in
theorem ggX1_read_X1_restart : GoodIn wsX1_read wsX1_restart := goodIn_r _ [9, 1, 2, 16, 17, 18] (by decide +kernel) (by decide +kernel)
set_option maxRecDepth 20000 in
theorem gX1_read_X1_restart : GoodIn wsX1_read (wsV RX1 21 RX1 yX1_restart wsX1_restart) := goodIn_app (goodIn_of _ (by decide +kernel)) ggX1_read_X1_restart
set_option maxRecDepth 20000 in
theorem ggX1_read_X4_checkValue : GoodIn wsX1_read wsX4_checkValue := goodIn_r _ [12, 13, 14, 11, 15] (by decide +kernel) (by decide +kernel)
set_option maxRecDepth 20000 in
theorem gX1_read_X4_checkValue_n25 : GoodIn wsX1_read (wsX4_checkValue) := ggX1_read_X4_checkValue
set_option maxRecDepth 20000 in
theorem ggX2_tradersWith_X2_isOnDay : GoodIn wsX2_tradersWith wsX2_isOnDay := goodIn_r _ [9, 10, 11, 15, 16, 17, 18, 19, 20] (by decide +kernel) (by decide +kernel)
set_option maxRecDepth 20000 in
theorem gX2_tradersWith_X2_isOnDay : GoodIn wsX2_tradersWith (wsV RX2 31 RX2 yX2_isOnDay wsX2_isOnDay) := goodIn_app (goodIn_of _ (by decide +kernel)) ggX2_tradersWith_X2_isOnDay
set_option maxRecDepth 20000 in
theorem ggX2_tradersWith_X4_bit : GoodIn wsX2_tradersWith wsX4_bit := goodIn_r _ [14] (by decide +kernel) (by decide +kernel)
set_option maxRecDepth 20000 in
theorem gX2_tradersWith_X4_bit_n35 : GoodIn wsX2_tradersWith (wsX4_bit) := ggX2_tradersWith_X4_bit
set_option maxRecDepth 20000 in
theorem ggX2_actsOf_X4_holds : GoodIn wsX2_actsOf wsX4_holds := goodIn_r _ [6] (by decide +kernel) (by decide +kernel)
set_option maxRecDepth 20000 in
theorem gX2_actsOf_X4_holds_n39 : GoodIn wsX2_actsOf (wsX4_holds) := ggX2_actsOf_X4_holds
set_option maxRecDepth 20000 in
theorem ggX2_actsOf_X2_isOnDay : GoodIn wsX2_actsOf wsX2_isOnDay := goodIn_r _ [11, 12, 13, 16, 17, 18, 19, 20, 21] (by decide +kernel) (by decide +kernel)
set_option maxRecDepth 20000 in
theorem gX2_actsOf_X2_isOnDay : GoodIn wsX2_actsOf (wsV RX2 31 RX2 yX2_isOnDay wsX2_isOnDay) := goodIn_app (goodIn_of _ (by decide +kernel)) ggX2_actsOf_X2_isOnDay
set_option maxRecDepth 20000 in
theorem ggX2_actsOf_X4_bit : GoodIn wsX2_actsOf wsX4_bit := goodIn_r _ [15] (by decide +kernel) (by decide +kernel)
set_option maxRecDepth 20000 in
theorem gX2_actsOf_X4_bit_n35 : GoodIn wsX2_actsOf (wsX4_bit) := ggX2_actsOf_X4_bit
set_option maxRecDepth 20000 in
theorem ggX4_init_J7_fill_53178 : GoodIn wsX4_init wsJ7_fill_53178 := goodIn_r _ [31] (by decide +kernel) (by decide +kernel)
set_option maxRecDepth 20000 in
theorem gX4_init_J7_fill_53178 : GoodIn wsX4_init (va_wsS RX4 32 yJ7_fill_53178 wsJ7_fill_53178) := goodIn_app (goodIn_of _ (by decide +kernel)) ggX4_init_J7_fill_53178
set_option maxRecDepth 20000 in
theorem ggX4_init_X2_init : GoodIn wsX4_init wsX2_init := goodIn_r _ [33, 34, 2, 3, 35, 6, 36, 37, 38, 39, 40, 74, 75, 76, 77, 78, 79] (by decide +kernel) (by decide +kernel)
set_option maxRecDepth 20000 in
theorem gX4_init_X2_init_n40 : GoodIn wsX4_init (wsX2_init) := ggX4_init_X2_init
set_option maxRecDepth 20000 in
theorem ggX4_init_X0_init : GoodIn wsX4_init wsX0_init := goodIn_r _ [42, 43, 2, 3, 44, 6, 45, 46, 47, 48, 49, 80, 81, 82, 83, 84] (by decide +kernel) (by decide +kernel)
set_option maxRecDepth 20000 in
theorem gX4_init_X0_init_n47 : GoodIn wsX4_init (wsX0_init) := ggX4_init_X0_init
set_option maxRecDepth 20000 in
theorem ggX4_init_X3_init : GoodIn wsX4_init wsX3_init := goodIn_r _ [51, 52, 2, 3, 53, 6, 54, 55, 47, 56, 85, 86, 87, 88] (by decide +kernel) (by decide +kernel)
set_option maxRecDepth 20000 in
theorem gX4_init_X3_init_n54 : GoodIn wsX4_init (wsX3_init) := ggX4_init_X3_init
set_option maxRecDepth 20000 in
theorem ggX4_init_X1_init : GoodIn wsX4_init wsX1_init := goodIn_r _ [58, 59, 2, 3, 60, 61, 62, 89, 90, 91] (by decide +kernel) (by decide +kernel)
set_option maxRecDepth 20000 in
theorem gX4_init_X1_init_n61 : GoodIn wsX4_init (wsX1_init) := ggX4_init_X1_init
set_option maxRecDepth 20000 in
theorem ggX4_right_X4_isTrader : GoodIn wsX4_right wsX4_isTrader := goodIn_r _ [10, 11, 32, 33, 34, 35, 36, 37, 38, 39, 40, 41, 42] (by decide +kernel) (by decide +kernel)
set_option maxRecDepth 20000 in
theorem gX4_right_X4_isTrader : GoodIn wsX4_right (wsV RX4 73 RX4 yX4_isTrader wsX4_isTrader) := goodIn_app (goodIn_of _ (by decide +kernel)) ggX4_right_X4_isTrader
set_option maxRecDepth 20000 in
theorem ggX4_right_X4_isAct : GoodIn wsX4_right wsX4_isAct := goodIn_r _ [14] (by decide +kernel) (by decide +kernel)
set_option maxRecDepth 20000 in
theorem gX4_right_X4_isAct : GoodIn wsX4_right (va_wsS RX4 77 yX4_isAct wsX4_isAct) := goodIn_app (goodIn_of _ (by decide +kernel)) ggX4_right_X4_isAct
set_option maxRecDepth 20000 in
theorem ggX4_right_X4_isPlace : GoodIn wsX4_right wsX4_isPlace := goodIn_r _ [17] (by decide +kernel) (by decide +kernel)
set_option maxRecDepth 20000 in
theorem gX4_right_X4_isPlace : GoodIn wsX4_right (va_wsS RX4 80 yX4_isPlace wsX4_isPlace) := goodIn_app (goodIn_of _ (by decide +kernel)) ggX4_right_X4_isPlace
set_option maxRecDepth 20000 in
theorem ggX4_right_X4_isDay : GoodIn wsX4_right wsX4_isDay := goodIn_r _ [20, 21] (by decide +kernel) (by decide +kernel)
set_option maxRecDepth 20000 in
theorem gX4_right_X4_isDay : GoodIn wsX4_right (va_wsS RX4 88 yX4_isDay wsX4_isDay) := goodIn_app (goodIn_of _ (by decide +kernel)) ggX4_right_X4_isDay
set_option maxRecDepth 20000 in
theorem ggX4_right_X2_append : GoodIn wsX4_right wsX2_append := goodIn_r _ [25, 26, 27, 28, 29, 30, 31, 43, 44, 45, 46, 47, 48] (by decide +kernel) (by decide +kernel)
set_option maxRecDepth 20000 in
theorem gX4_right_X2_append_n98 : GoodIn wsX4_right (wsX2_append) := ggX4_right_X2_append
set_option maxRecDepth 20000 in
theorem ggX4_forbid_X4_isTrader : GoodIn wsX4_forbid wsX4_isTrader := goodIn_r _ [6, 7, 21, 22, 23, 24, 25, 26, 27, 28, 29, 30, 31] (by decide +kernel) (by decide +kernel)
set_option maxRecDepth 20000 in
theorem gX4_forbid_X4_isTrader : GoodIn wsX4_forbid (wsV RX4 73 RX4 yX4_isTrader wsX4_isTrader) := goodIn_app (goodIn_of _ (by decide +kernel)) ggX4_forbid_X4_isTrader
set_option maxRecDepth 20000 in
theorem ggX4_forbid_X4_isAct : GoodIn wsX4_forbid wsX4_isAct := goodIn_r _ [10] (by decide +kernel) (by decide +kernel)
set_option maxRecDepth 20000 in
theorem gX4_forbid_X4_isAct : GoodIn wsX4_forbid (va_wsS RX4 77 yX4_isAct wsX4_isAct) := goodIn_app (goodIn_of _ (by decide +kernel)) ggX4_forbid_X4_isAct
set_option maxRecDepth 20000 in
theorem ggX4_forbid_X4_isForbidden : GoodIn wsX4_forbid wsX4_isForbidden := goodIn_r _ [14, 1, 15, 16, 5, 17, 21, 22, 23, 24, 25, 26, 27, 28, 29, 30, 31] (by decide +kernel) (by decide +kernel)
set_option maxRecDepth 20000 in
theorem gX4_forbid_X4_isForbidden : GoodIn wsX4_forbid (wsV RX4 102 RX4 yX4_isForbidden wsX4_isForbidden) := goodIn_app (goodIn_of _ (by decide +kernel)) ggX4_forbid_X4_isForbidden
set_option maxRecDepth 20000 in
theorem ggX4_forbid_X4_bit : GoodIn wsX4_forbid wsX4_bit := goodIn_r _ [20] (by decide +kernel) (by decide +kernel)
set_option maxRecDepth 20000 in
theorem gX4_forbid_X4_bit : GoodIn wsX4_forbid (va_wsS RX4 106 yX4_bit wsX4_bit) := goodIn_app (goodIn_of _ (by decide +kernel)) ggX4_forbid_X4_bit
set_option maxRecDepth 20000 in
theorem ggX4_group_X4_areTwoTraders : GoodIn wsX4_group wsX4_areTwoTraders := goodIn_r _ [8, 9, 10, 11, 7, 12, 13, 39, 40, 41, 42, 43, 44, 45, 46, 47, 48, 49] (by decide +kernel) (by decide +kernel)
set_option maxRecDepth 20000 in
theorem gX4_group_X4_areTwoTraders : GoodIn wsX4_group (wsV RX4 110 RX4 yX4_areTwoTraders wsX4_areTwoTraders) := goodIn_app (goodIn_of _ (by decide +kernel)) ggX4_group_X4_areTwoTraders
set_option maxRecDepth 20000 in
theorem ggX4_group_X4_everyTrader : GoodIn wsX4_group wsX4_everyTrader := goodIn_r _ [17, 13, 18, 19, 7, 20, 39, 40, 41, 42, 43, 44, 45, 46, 47, 48, 49] (by decide +kernel) (by decide +kernel)
set_option maxRecDepth 20000 in
theorem gX4_group_X4_everyTrader : GoodIn wsX4_group (wsV RX4 115 RX4 yX4_everyTrader wsX4_everyTrader) := goodIn_app (goodIn_of _ (by decide +kernel)) ggX4_group_X4_everyTrader
set_option maxRecDepth 20000 in
theorem ggX4_group_X4_groupsAmong : GoodIn wsX4_group wsX4_groupsAmong := goodIn_r _ [24, 3, 13, 25, 26, 27, 7, 28, 29, 30, 31, 39, 40, 41, 42, 43, 44, 45, 46, 47, 48, 49] (by decide +kernel) (by decide +kernel)
set_option maxRecDepth 20000 in
theorem gX4_group_X4_groupsAmong : GoodIn wsX4_group (wsV RX4 119 RX4 yX4_groupsAmong wsX4_groupsAmong) := goodIn_app (goodIn_of _ (by decide +kernel)) ggX4_group_X4_groupsAmong
set_option maxRecDepth 20000 in
theorem ggX4_group_X4_holds : GoodIn wsX4_group wsX4_holds := goodIn_r _ [31] (by decide +kernel) (by decide +kernel)
set_option maxRecDepth 20000 in
theorem gX4_group_X4_holds : GoodIn wsX4_group (va_wsS RX4 123 yX4_holds wsX4_holds) := goodIn_app (goodIn_of _ (by decide +kernel)) ggX4_group_X4_holds
set_option maxRecDepth 20000 in
theorem ggX4_group_J6_bitCount_0f7a4 : GoodIn wsX4_group wsJ6_bitCount_0f7a4 := goodIn_r _ [35, 36, 37, 38] (by decide +kernel) (by decide +kernel)
set_option maxRecDepth 20000 in
theorem gX4_group_J6_bitCount_0f7a4 : GoodIn wsX4_group (va_wsS RX4 126 yJ6_bitCount_0f7a4 wsJ6_bitCount_0f7a4) := goodIn_app (goodIn_of _ (by decide +kernel)) ggX4_group_J6_bitCount_0f7a4
set_option maxRecDepth 20000 in
theorem ggX4_group_X4_bit : GoodIn wsX4_group wsX4_bit := goodIn_r _ [20] (by decide +kernel) (by decide +kernel)
set_option maxRecDepth 20000 in
theorem gX4_group_X4_bit : GoodIn wsX4_group (va_wsS RX4 106 yX4_bit wsX4_bit) := goodIn_app (goodIn_of _ (by decide +kernel)) ggX4_group_X4_bit
set_option maxRecDepth 20000 in
theorem ggX4_deputy_X4_areTwoTraders : GoodIn wsX4_deputy wsX4_areTwoTraders := goodIn_r _ [9, 10, 11, 12, 8, 13, 14, 19, 20, 21, 22, 23, 24, 25, 26, 27, 28, 29] (by decide +kernel) (by decide +kernel)
set_option maxRecDepth 20000 in
theorem gX4_deputy_X4_areTwoTraders : GoodIn wsX4_deputy (wsV RX4 110 RX4 yX4_areTwoTraders wsX4_areTwoTraders) := goodIn_app (goodIn_of _ (by decide +kernel)) ggX4_deputy_X4_areTwoTraders
set_option maxRecDepth 20000 in
theorem ggX4_deputy_X4_isInDeputyPair : GoodIn wsX4_deputy wsX4_isInDeputyPair := goodIn_r _ [18, 3, 4, 19, 20, 21, 22, 23, 24, 25, 26, 27, 28, 29] (by decide +kernel) (by decide +kernel)
set_option maxRecDepth 20000 in
theorem gX4_deputy_X4_isInDeputyPair : GoodIn wsX4_deputy (wsV RX4 131 RX4 yX4_isInDeputyPair wsX4_isInDeputyPair) := goodIn_app (goodIn_of _ (by decide +kernel)) ggX4_deputy_X4_isInDeputyPair
set_option maxRecDepth 20000 in
theorem ggX4_mandate_X4_areTwoTraders : GoodIn wsX4_mandate wsX4_areTwoTraders := goodIn_r _ [10, 11, 12, 13, 9, 14, 15, 29, 30, 31, 32, 33, 34, 35, 36, 37, 38, 39] (by decide +kernel) (by decide +kernel)
set_option maxRecDepth 20000 in
theorem gX4_mandate_X4_areTwoTraders : GoodIn wsX4_mandate (wsV RX4 110 RX4 yX4_areTwoTraders wsX4_areTwoTraders) := goodIn_app (goodIn_of _ (by decide +kernel)) ggX4_mandate_X4_areTwoTraders
set_option maxRecDepth 20000 in
theorem ggX4_mandate_X4_isDay : GoodIn wsX4_mandate wsX4_isDay := goodIn_r _ [18, 19] (by decide +kernel) (by decide +kernel)
set_option maxRecDepth 20000 in
theorem gX4_mandate_X4_isDay : GoodIn wsX4_mandate (va_wsS RX4 88 yX4_isDay wsX4_isDay) := goodIn_app (goodIn_of _ (by decide +kernel)) ggX4_mandate_X4_isDay
set_option maxRecDepth 20000 in
theorem ggX4_mandate_X0_append : GoodIn wsX4_mandate wsX0_append := goodIn_r _ [23, 24, 25, 26, 27, 28, 40, 41, 42, 43, 44] (by decide +kernel) (by decide +kernel)
set_option maxRecDepth 20000 in
theorem gX4_mandate_X0_append_n139 : GoodIn wsX4_mandate (wsX0_append) := ggX4_mandate_X0_append
set_option maxRecDepth 20000 in
theorem ggX4_suspend_X4_isTrader : GoodIn wsX4_suspend wsX4_isTrader := goodIn_r _ [10, 11, 24, 25, 26, 27, 28, 29, 30, 31, 32, 33, 34] (by decide +kernel) (by decide +kernel)
set_option maxRecDepth 20000 in
theorem gX4_suspend_X4_isTrader : GoodIn wsX4_suspend (wsV RX4 73 RX4 yX4_isTrader wsX4_isTrader) := goodIn_app (goodIn_of _ (by decide +kernel)) ggX4_suspend_X4_isTrader
set_option maxRecDepth 20000 in
theorem ggX4_suspend_X4_isDay : GoodIn wsX4_suspend wsX4_isDay := goodIn_r _ [14, 15] (by decide +kernel) (by decide +kernel)
set_option maxRecDepth 20000 in
theorem gX4_suspend_X4_isDay : GoodIn wsX4_suspend (va_wsS RX4 88 yX4_isDay wsX4_isDay) := goodIn_app (goodIn_of _ (by decide +kernel)) ggX4_suspend_X4_isDay
set_option maxRecDepth 20000 in
theorem ggX4_suspend_X3_append : GoodIn wsX4_suspend wsX3_append := goodIn_r _ [19, 20, 21, 22, 23, 35, 36, 37, 38] (by decide +kernel) (by decide +kernel)
set_option maxRecDepth 20000 in
theorem gX4_suspend_X3_append_n147 : GoodIn wsX4_suspend (wsX3_append) := ggX4_suspend_X3_append
set_option maxRecDepth 20000 in
theorem ggX4_end_X4_isTrader : GoodIn wsX4_end wsX4_isTrader := goodIn_r _ [6, 7, 12, 13, 14, 15, 16, 17, 18, 19, 20, 21, 22] (by decide +kernel) (by decide +kernel)
set_option maxRecDepth 20000 in
theorem gX4_end_X4_isTrader : GoodIn wsX4_end (wsV RX4 73 RX4 yX4_isTrader wsX4_isTrader) := goodIn_app (goodIn_of _ (by decide +kernel)) ggX4_end_X4_isTrader
set_option maxRecDepth 20000 in
theorem ggX4_end_X4_isDay : GoodIn wsX4_end wsX4_isDay := goodIn_r _ [10, 11] (by decide +kernel) (by decide +kernel)
set_option maxRecDepth 20000 in
theorem gX4_end_X4_isDay : GoodIn wsX4_end (va_wsS RX4 88 yX4_isDay wsX4_isDay) := goodIn_app (goodIn_of _ (by decide +kernel)) ggX4_end_X4_isDay
set_option maxRecDepth 20000 in
theorem ggX4_may_X4_isTrader : GoodIn wsX4_may wsX4_isTrader := goodIn_r _ [6, 7, 93, 94, 95, 96, 97, 98, 99, 100, 101, 102, 103] (by decide +kernel) (by decide +kernel)
set_option maxRecDepth 20000 in
theorem gX4_may_X4_isTrader : GoodIn wsX4_may (wsV RX4 73 RX4 yX4_isTrader wsX4_isTrader) := goodIn_app (goodIn_of _ (by decide +kernel)) ggX4_may_X4_isTrader
set_option maxRecDepth 20000 in
theorem ggX4_may_X4_isAct : GoodIn wsX4_may wsX4_isAct := goodIn_r _ [10] (by decide +kernel) (by decide +kernel)
set_option maxRecDepth 20000 in
theorem gX4_may_X4_isAct : GoodIn wsX4_may (va_wsS RX4 77 yX4_isAct wsX4_isAct) := goodIn_app (goodIn_of _ (by decide +kernel)) ggX4_may_X4_isAct
set_option maxRecDepth 20000 in
theorem ggX4_may_X4_isPlace : GoodIn wsX4_may wsX4_isPlace := goodIn_r _ [13] (by decide +kernel) (by decide +kernel)
set_option maxRecDepth 20000 in
theorem gX4_may_X4_isPlace : GoodIn wsX4_may (va_wsS RX4 80 yX4_isPlace wsX4_isPlace) := goodIn_app (goodIn_of _ (by decide +kernel)) ggX4_may_X4_isPlace
set_option maxRecDepth 20000 in
theorem ggX4_may_X4_isDay : GoodIn wsX4_may wsX4_isDay := goodIn_r _ [16, 17] (by decide +kernel) (by decide +kernel)
set_option maxRecDepth 20000 in
theorem gX4_may_X4_isDay : GoodIn wsX4_may (va_wsS RX4 88 yX4_isDay wsX4_isDay) := goodIn_app (goodIn_of _ (by decide +kernel)) ggX4_may_X4_isDay
set_option maxRecDepth 20000 in
theorem ggX4_may_X4_isEnded : GoodIn wsX4_may wsX4_isEnded := goodIn_r _ [21, 22, 93, 94, 95, 96, 97, 98, 99, 100, 101, 102, 103] (by decide +kernel) (by decide +kernel)
set_option maxRecDepth 20000 in
theorem gX4_may_X4_isEnded : GoodIn wsX4_may (wsV RX4 150 RX4 yX4_isEnded wsX4_isEnded) := goodIn_app (goodIn_of _ (by decide +kernel)) ggX4_may_X4_isEnded
set_option maxRecDepth 20000 in
theorem ggX4_may_X3_isOn : GoodIn wsX4_may wsX3_isOn := goodIn_r _ [26, 27, 28, 29, 30, 104, 105, 106, 107] (by decide +kernel) (by decide +kernel)
set_option maxRecDepth 20000 in
theorem gX4_may_X3_isOn_n153 : GoodIn wsX4_may (wsX3_isOn) := ggX4_may_X3_isOn
set_option maxRecDepth 20000 in
theorem ggX4_may_X4_answerForAlive : GoodIn wsX4_may wsX4_answerForAlive := goodIn_r _ [34, 35, 36, 37, 38, 5, 39, 7, 1, 18, 19, 20, 21, 22, 23, 24, 25, 26, 27, 28, 29, 30, 40, 41, 42, 43, 44, 45, 46, 47, 48, 49, 50, 51, 52, 53, 54, 55, 56, 57, 58, 59, 60, 61, 62, 63, 64, 65, 66, 67, 68, 69, 70, 71, 72, 73, 74, 75, 76, 77, 78, 79, 80, 81, 82, 83, 84, 85, 86, 87, 88, 89, 90, 91, 92, 93, 94, 95, 96, 97, 98, 99, 100, 101, 102, 103, 104, 105, 106, 107, 108, 109, 110, 111, 112, 113, 114, 115, 116, 117, 118] (by decide +kernel) (by decide +kernel)
set_option maxRecDepth 20000 in
theorem gX4_may_X4_answerForAlive : GoodIn wsX4_may (wsV RX4 156 RX4 yX4_answerForAlive wsX4_answerForAlive) := goodIn_app (goodIn_of _ (by decide +kernel)) ggX4_may_X4_answerForAlive
set_option maxRecDepth 20000 in
theorem ggX4_two_X4_isAct : GoodIn wsX4_two wsX4_isAct := goodIn_r _ [5] (by decide +kernel) (by decide +kernel)
set_option maxRecDepth 20000 in
theorem gX4_two_X4_isAct : GoodIn wsX4_two (va_wsS RX4 77 yX4_isAct wsX4_isAct) := goodIn_app (goodIn_of _ (by decide +kernel)) ggX4_two_X4_isAct
set_option maxRecDepth 20000 in
theorem ggX4_two_X4_needsTwo : GoodIn wsX4_two wsX4_needsTwo := goodIn_r _ [9, 1, 10, 11, 4, 12, 16, 17, 18, 19, 20, 21, 22, 23, 24, 25, 26] (by decide +kernel) (by decide +kernel)
set_option maxRecDepth 20000 in
theorem gX4_two_X4_needsTwo : GoodIn wsX4_two (wsV RX4 160 RX4 yX4_needsTwo wsX4_needsTwo) := goodIn_app (goodIn_of _ (by decide +kernel)) ggX4_two_X4_needsTwo
set_option maxRecDepth 20000 in
theorem ggX4_two_X4_bit : GoodIn wsX4_two wsX4_bit := goodIn_r _ [15] (by decide +kernel) (by decide +kernel)
set_option maxRecDepth 20000 in
theorem gX4_two_X4_bit : GoodIn wsX4_two (va_wsS RX4 106 yX4_bit wsX4_bit) := goodIn_app (goodIn_of _ (by decide +kernel)) ggX4_two_X4_bit
set_option maxRecDepth 20000 in
theorem ggX4_done_X4_may : GoodIn wsX4_done wsX4_may := goodIn_r _ [6, 7, 8, 9, 10, 5, 11, 12, 13, 14, 15, 16, 17, 18, 19, 20, 21, 22, 23, 24, 25, 26, 27, 28, 29, 30, 31, 32, 33, 34, 35, 36, 37, 38, 39, 40, 41, 42, 43, 44, 45, 46, 47, 48, 49, 50, 51, 52, 53, 54, 55, 56, 57, 58, 59, 60, 61, 62, 63, 64, 65, 66, 67, 68, 69, 70, 71, 72, 73, 74, 75, 76, 77, 78, 79, 80, 81, 82, 83, 84, 85, 86, 87, 88, 89, 90, 91, 92, 93, 94, 95, 96, 97, 103, 104, 105, 106, 107, 108, 109, 110, 111, 112, 113, 114, 115, 116, 117, 118, 119, 120, 121, 122, 123, 124, 125, 126, 127, 128] (by decide +kernel) (by decide +kernel)
set_option maxRecDepth 20000 in
theorem gX4_done_X4_may : GoodIn wsX4_done (wsV RX4 163 RX4 yX4_may wsX4_may) := goodIn_app (goodIn_of _ (by decide +kernel)) ggX4_done_X4_may
set_option maxRecDepth 20000 in
theorem ggX4_done_X4_needsTwo : GoodIn wsX4_done wsX4_needsTwo := goodIn_r _ [101, 102, 76, 77, 5, 78, 103, 104, 105, 106, 107, 108, 109, 110, 111, 112, 113] (by decide +kernel) (by decide +kernel)
set_option maxRecDepth 20000 in
theorem gX4_done_X4_needsTwo : GoodIn wsX4_done (wsV RX4 160 RX4 yX4_needsTwo wsX4_needsTwo) := goodIn_app (goodIn_of _ (by decide +kernel)) ggX4_done_X4_needsTwo
set_option maxRecDepth 20000 in
theorem ggX4_letter_X4_digit : GoodIn wsX4_letter wsX4_digit := goodIn_r _ [9] (by decide +kernel) (by decide +kernel)
set_option maxRecDepth 20000 in
theorem gX4_letter_X4_digit : GoodIn wsX4_letter (va_wsS RX4 174 yX4_digit wsX4_digit) := goodIn_app (goodIn_of _ (by decide +kernel)) ggX4_letter_X4_digit
set_option maxRecDepth 20000 in
theorem ggX4_letter_X4_checkValue : GoodIn wsX4_letter wsX4_checkValue := goodIn_r _ [12, 6, 7, 8, 9] (by decide +kernel) (by decide +kernel)
set_option maxRecDepth 20000 in
theorem gX4_letter_X4_checkValue : GoodIn wsX4_letter (va_wsS RX4 177 yX4_checkValue wsX4_checkValue) := goodIn_app (goodIn_of _ (by decide +kernel)) ggX4_letter_X4_checkValue
set_option maxRecDepth 20000 in
theorem ggX4_check_X1_read : GoodIn wsX4_check wsX1_read := goodIn_r _ [5, 6, 7, 8, 9, 10, 11, 12, 3, 13, 14, 15, 16, 17, 18, 19, 31, 32, 33] (by decide +kernel) (by decide +kernel)
set_option maxRecDepth 20000 in
theorem gX4_check_X1_read_n180 : GoodIn wsX4_check (wsX1_read) := ggX4_check_X1_read
set_option maxRecDepth 20000 in
theorem ggX4_look_X4_isTrader : GoodIn wsX4_look wsX4_isTrader := goodIn_r _ [13, 14, 84, 85, 86, 87, 88, 89, 90, 91, 92, 93, 94] (by decide +kernel) (by decide +kernel)
set_option maxRecDepth 20000 in
theorem gX4_look_X4_isTrader : GoodIn wsX4_look (wsV RX4 73 RX4 yX4_isTrader wsX4_isTrader) := goodIn_app (goodIn_of _ (by decide +kernel)) ggX4_look_X4_isTrader
set_option maxRecDepth 20000 in
theorem ggX4_look_X4_isDay : GoodIn wsX4_look wsX4_isDay := goodIn_r _ [17, 18] (by decide +kernel) (by decide +kernel)
set_option maxRecDepth 20000 in
theorem gX4_look_X4_isDay : GoodIn wsX4_look (va_wsS RX4 88 yX4_isDay wsX4_isDay) := goodIn_app (goodIn_of _ (by decide +kernel)) ggX4_look_X4_isDay
set_option maxRecDepth 20000 in
theorem ggX4_look_X4_isEnded : GoodIn wsX4_look wsX4_isEnded := goodIn_r _ [22, 23, 84, 85, 86, 87, 88, 89, 90, 91, 92, 93, 94] (by decide +kernel) (by decide +kernel)
set_option maxRecDepth 20000 in
theorem gX4_look_X4_isEnded : GoodIn wsX4_look (wsV RX4 150 RX4 yX4_isEnded wsX4_isEnded) := goodIn_app (goodIn_of _ (by decide +kernel)) ggX4_look_X4_isEnded
set_option maxRecDepth 20000 in
theorem ggX4_look_X3_isOn : GoodIn wsX4_look wsX3_isOn := goodIn_r _ [27, 28, 29, 30, 31, 95, 96, 97, 98] (by decide +kernel) (by decide +kernel)
set_option maxRecDepth 20000 in
theorem gX4_look_X3_isOn_n153 : GoodIn wsX4_look (wsX3_isOn) := ggX4_look_X3_isOn
set_option maxRecDepth 20000 in
theorem ggX4_look_X4_aliveOn : GoodIn wsX4_look wsX4_aliveOn := goodIn_r _ [35, 14, 5, 19, 20, 21, 12, 22, 23, 24, 25, 26, 27, 28, 29, 30, 31, 36, 37, 38, 84, 85, 86, 87, 88, 89, 90, 91, 92, 93, 94, 95, 96, 97, 98] (by decide +kernel) (by decide +kernel)
set_option maxRecDepth 20000 in
theorem gX4_look_X4_aliveOn : GoodIn wsX4_look (wsV RX4 188 RX4 yX4_aliveOn wsX4_aliveOn) := goodIn_app (goodIn_of _ (by decide +kernel)) ggX4_look_X4_aliveOn
set_option maxRecDepth 20000 in
theorem ggX4_look_X4_groupsAmong : GoodIn wsX4_look wsX4_groupsAmong := goodIn_r _ [42, 43, 14, 44, 45, 46, 12, 47, 48, 49, 50, 84, 85, 86, 87, 88, 89, 90, 91, 92, 93, 94] (by decide +kernel) (by decide +kernel)
set_option maxRecDepth 20000 in
theorem gX4_look_X4_groupsAmong : GoodIn wsX4_look (wsV RX4 119 RX4 yX4_groupsAmong wsX4_groupsAmong) := goodIn_app (goodIn_of _ (by decide +kernel)) ggX4_look_X4_groupsAmong
set_option maxRecDepth 20000 in
theorem ggX4_look_J6_bitCount_0f7a4 : GoodIn wsX4_look wsJ6_bitCount_0f7a4 := goodIn_r _ [54, 55, 56, 57] (by decide +kernel) (by decide +kernel)
set_option maxRecDepth 20000 in
theorem gX4_look_J6_bitCount_0f7a4 : GoodIn wsX4_look (va_wsS RX4 126 yJ6_bitCount_0f7a4 wsJ6_bitCount_0f7a4) := goodIn_app (goodIn_of _ (by decide +kernel)) ggX4_look_J6_bitCount_0f7a4
set_option maxRecDepth 20000 in
theorem ggX4_look_X4_ownActs : GoodIn wsX4_look wsX4_ownActs := goodIn_r _ [61, 62, 63, 36, 37, 12, 38, 32, 33, 34, 35, 14, 5, 19, 20, 21, 22, 23, 24, 25, 26, 27, 28, 29, 30, 31, 39, 40, 41, 42, 43, 44, 45, 46, 47, 48, 49, 50, 64, 65, 66, 67, 68, 69, 70, 71, 72, 73, 74, 75, 76, 84, 85, 86, 87, 88, 89, 90, 91, 92, 93, 94, 95, 96, 97, 98, 99, 100, 101, 102, 103, 104] (by decide +kernel) (by decide +kernel)
set_option maxRecDepth 20000 in
theorem gX4_look_X4_ownActs : GoodIn wsX4_look (wsV RX4 191 RX4 yX4_ownActs wsX4_ownActs) := goodIn_app (goodIn_of _ (by decide +kernel)) ggX4_look_X4_ownActs
set_option maxRecDepth 20000 in
theorem ggX4_look_X0_sizeOf : GoodIn wsX4_look wsX0_sizeOf := goodIn_r _ [80, 81, 82, 83, 105, 106, 107, 108, 109] (by decide +kernel) (by decide +kernel)
set_option maxRecDepth 20000 in
theorem gX4_look_X0_sizeOf_n194 : GoodIn wsX4_look (wsX0_sizeOf) := ggX4_look_X0_sizeOf
set_option maxRecDepth 20000 in
theorem ggX4_areTwoTraders_X4_isTrader : GoodIn wsX4_areTwoTraders wsX4_isTrader := goodIn_r _ [5, 6, 7, 8, 9, 10, 11, 12, 13, 14, 15, 16, 17] (by decide +kernel) (by decide +kernel)
set_option maxRecDepth 20000 in
theorem gX4_areTwoTraders_X4_isTrader : GoodIn wsX4_areTwoTraders (wsV RX4 73 RX4 yX4_isTrader wsX4_isTrader) := goodIn_app (goodIn_of _ (by decide +kernel)) ggX4_areTwoTraders_X4_isTrader
set_option maxRecDepth 20000 in
theorem ggX4_everyTrader_X4_bit : GoodIn wsX4_everyTrader wsX4_bit := goodIn_r _ [5] (by decide +kernel) (by decide +kernel)
set_option maxRecDepth 20000 in
theorem gX4_everyTrader_X4_bit : GoodIn wsX4_everyTrader (va_wsS RX4 106 yX4_bit wsX4_bit) := goodIn_app (goodIn_of _ (by decide +kernel)) ggX4_everyTrader_X4_bit
set_option maxRecDepth 20000 in
theorem ggX4_isForbidden_X4_holds : GoodIn wsX4_isForbidden wsX4_holds := goodIn_r _ [5] (by decide +kernel) (by decide +kernel)
set_option maxRecDepth 20000 in
theorem gX4_isForbidden_X4_holds : GoodIn wsX4_isForbidden (va_wsS RX4 123 yX4_holds wsX4_holds) := goodIn_app (goodIn_of _ (by decide +kernel)) ggX4_isForbidden_X4_holds
set_option maxRecDepth 20000 in
theorem ggX4_needsTwo_X4_holds : GoodIn wsX4_needsTwo wsX4_holds := goodIn_r _ [5] (by decide +kernel) (by decide +kernel)
set_option maxRecDepth 20000 in
theorem gX4_needsTwo_X4_holds : GoodIn wsX4_needsTwo (va_wsS RX4 123 yX4_holds wsX4_holds) := goodIn_app (goodIn_of _ (by decide +kernel)) ggX4_needsTwo_X4_holds
set_option maxRecDepth 20000 in
theorem ggX4_aliveOn_X4_isEnded : GoodIn wsX4_aliveOn wsX4_isEnded := goodIn_r _ [7, 8, 20, 21, 22, 23, 24, 25, 26, 27, 28, 29, 30] (by decide +kernel) (by decide +kernel)
set_option maxRecDepth 20000 in
theorem gX4_aliveOn_X4_isEnded : GoodIn wsX4_aliveOn (wsV RX4 150 RX4 yX4_isEnded wsX4_isEnded) := goodIn_app (goodIn_of _ (by decide +kernel)) ggX4_aliveOn_X4_isEnded
set_option maxRecDepth 20000 in
theorem ggX4_aliveOn_X3_isOn : GoodIn wsX4_aliveOn wsX3_isOn := goodIn_r _ [12, 13, 14, 15, 16, 31, 32, 33, 34] (by decide +kernel) (by decide +kernel)
set_option maxRecDepth 20000 in
theorem gX4_aliveOn_X3_isOn_n153 : GoodIn wsX4_aliveOn (wsX3_isOn) := ggX4_aliveOn_X3_isOn
set_option maxRecDepth 20000 in
theorem ggX4_aliveOn_X4_bit : GoodIn wsX4_aliveOn wsX4_bit := goodIn_r _ [19] (by decide +kernel) (by decide +kernel)
set_option maxRecDepth 20000 in
theorem gX4_aliveOn_X4_bit : GoodIn wsX4_aliveOn (va_wsS RX4 106 yX4_bit wsX4_bit) := goodIn_app (goodIn_of _ (by decide +kernel)) ggX4_aliveOn_X4_bit
set_option maxRecDepth 20000 in
theorem ggX4_groupsAmong_X4_groupsOfAll : GoodIn wsX4_groupsAmong wsX4_groupsOfAll := goodIn_r _ [7, 2, 1, 8, 9, 6, 10, 11, 12, 13, 14, 15, 16, 17, 18, 19, 20, 21] (by decide +kernel) (by decide +kernel)
set_option maxRecDepth 20000 in
theorem gX4_groupsAmong_X4_groupsOfAll : GoodIn wsX4_groupsAmong (wsV RX4 201 RX4 yX4_groupsOfAll wsX4_groupsOfAll) := goodIn_app (goodIn_of _ (by decide +kernel)) ggX4_groupsAmong_X4_groupsOfAll
set_option maxRecDepth 20000 in
theorem ggX4_groupsOfAll_X4_holds : GoodIn wsX4_groupsOfAll wsX4_holds := goodIn_r _ [6] (by decide +kernel) (by decide +kernel)
set_option maxRecDepth 20000 in
theorem gX4_groupsOfAll_X4_holds : GoodIn wsX4_groupsOfAll (va_wsS RX4 123 yX4_holds wsX4_holds) := goodIn_app (goodIn_of _ (by decide +kernel)) ggX4_groupsOfAll_X4_holds
set_option maxRecDepth 20000 in
theorem ggX4_ownersOf_X2_tradersWith : GoodIn wsX4_ownersOf wsX2_tradersWith := goodIn_r _ [6, 7, 8, 9, 10, 11, 12, 13, 4, 14, 15, 16, 17, 18, 19, 49, 50, 51, 52, 53, 54] (by decide +kernel) (by decide +kernel)
set_option maxRecDepth 20000 in
theorem gX4_ownersOf_X2_tradersWith_n204 : GoodIn wsX4_ownersOf (wsX2_tradersWith) := ggX4_ownersOf_X2_tradersWith
set_option maxRecDepth 20000 in
theorem ggX4_ownersOf_X4_bit : GoodIn wsX4_ownersOf wsX4_bit := goodIn_r _ [19] (by decide +kernel) (by decide +kernel)
set_option maxRecDepth 20000 in
theorem gX4_ownersOf_X4_bit : GoodIn wsX4_ownersOf (va_wsS RX4 106 yX4_bit wsX4_bit) := goodIn_app (goodIn_of _ (by decide +kernel)) ggX4_ownersOf_X4_bit
set_option maxRecDepth 20000 in
theorem ggX4_ownersOf_X4_groupsAmong : GoodIn wsX4_ownersOf wsX4_groupsAmong := goodIn_r _ [24, 25, 2, 26, 27, 28, 18, 29, 30, 31, 32, 38, 39, 40, 41, 42, 43, 44, 45, 46, 47, 48] (by decide +kernel) (by decide +kernel)
set_option maxRecDepth 20000 in
theorem gX4_ownersOf_X4_groupsAmong : GoodIn wsX4_ownersOf (wsV RX4 119 RX4 yX4_groupsAmong wsX4_groupsAmong) := goodIn_app (goodIn_of _ (by decide +kernel)) ggX4_ownersOf_X4_groupsAmong
set_option maxRecDepth 20000 in
theorem ggX4_ownersOf_X4_isForbidden : GoodIn wsX4_ownersOf wsX4_isForbidden := goodIn_r _ [36, 37, 30, 31, 18, 32, 38, 39, 40, 41, 42, 43, 44, 45, 46, 47, 48] (by decide +kernel) (by decide +kernel)
set_option maxRecDepth 20000 in
theorem gX4_ownersOf_X4_isForbidden : GoodIn wsX4_ownersOf (wsV RX4 102 RX4 yX4_isForbidden wsX4_isForbidden) := goodIn_app (goodIn_of _ (by decide +kernel)) ggX4_ownersOf_X4_isForbidden
set_option maxRecDepth 20000 in
theorem ggX4_ownActs_X4_bit : GoodIn wsX4_ownActs wsX4_bit := goodIn_r _ [6] (by decide +kernel) (by decide +kernel)
set_option maxRecDepth 20000 in
theorem gX4_ownActs_X4_bit : GoodIn wsX4_ownActs (va_wsS RX4 106 yX4_bit wsX4_bit) := goodIn_app (goodIn_of _ (by decide +kernel)) ggX4_ownActs_X4_bit
set_option maxRecDepth 20000 in
theorem ggX4_ownActs_X4_aliveOn : GoodIn wsX4_ownActs wsX4_aliveOn := goodIn_r _ [10, 11, 12, 13, 14, 15, 5, 16, 17, 18, 19, 20, 21, 22, 23, 24, 25, 3, 4, 6, 51, 52, 53, 54, 55, 56, 57, 58, 59, 60, 61, 62, 63, 64, 65] (by decide +kernel) (by decide +kernel)
set_option maxRecDepth 20000 in
theorem gX4_ownActs_X4_aliveOn : GoodIn wsX4_ownActs (wsV RX4 188 RX4 yX4_aliveOn wsX4_aliveOn) := goodIn_app (goodIn_of _ (by decide +kernel)) ggX4_ownActs_X4_aliveOn
set_option maxRecDepth 20000 in
theorem ggX4_ownActs_X4_groupsAmong : GoodIn wsX4_ownActs wsX4_groupsAmong := goodIn_r _ [29, 30, 11, 31, 32, 33, 5, 34, 35, 36, 37, 51, 52, 53, 54, 55, 56, 57, 58, 59, 60, 61] (by decide +kernel) (by decide +kernel)
set_option maxRecDepth 20000 in
theorem gX4_ownActs_X4_groupsAmong : GoodIn wsX4_ownActs (wsV RX4 119 RX4 yX4_groupsAmong wsX4_groupsAmong) := goodIn_app (goodIn_of _ (by decide +kernel)) ggX4_ownActs_X4_groupsAmong
set_option maxRecDepth 20000 in
theorem ggX4_ownActs_X2_actsOf : GoodIn wsX4_ownActs wsX2_actsOf := goodIn_r _ [41, 42, 43, 44, 36, 5, 37, 45, 46, 47, 39, 48, 49, 50, 4, 6, 66, 67, 68, 69, 70, 71] (by decide +kernel) (by decide +kernel)
set_option maxRecDepth 20000 in
theorem gX4_ownActs_X2_actsOf_n208 : GoodIn wsX4_ownActs (wsX2_actsOf) := ggX4_ownActs_X2_actsOf
set_option maxRecDepth 20000 in
theorem ggX4_answerForAlive_X4_aliveOn : GoodIn wsX4_answerForAlive wsX4_aliveOn := goodIn_r _ [6, 7, 8, 9, 10, 11, 5, 12, 13, 14, 15, 16, 17, 18, 19, 20, 21, 22, 23, 24, 75, 76, 77, 78, 79, 80, 81, 82, 83, 84, 85, 86, 87, 88, 89] (by decide +kernel) (by decide +kernel)
set_option maxRecDepth 20000 in
theorem gX4_answerForAlive_X4_aliveOn : GoodIn wsX4_answerForAlive (wsV RX4 188 RX4 yX4_aliveOn wsX4_aliveOn) := goodIn_app (goodIn_of _ (by decide +kernel)) ggX4_answerForAlive_X4_aliveOn
set_option maxRecDepth 20000 in
theorem ggX4_answerForAlive_X4_ownersOf : GoodIn wsX4_answerForAlive wsX4_ownersOf := goodIn_r _ [28, 29, 7, 30, 31, 32, 33, 34, 35, 36, 37, 38, 39, 40, 41, 42, 43, 23, 5, 24, 22, 44, 45, 46, 47, 48, 49, 50, 51, 52, 53, 54, 55, 56, 57, 58, 59, 60, 75, 76, 77, 78, 79, 80, 81, 82, 83, 84, 85, 90, 91, 92, 93, 94, 95] (by decide +kernel) (by decide +kernel)
set_option maxRecDepth 20000 in
theorem gX4_answerForAlive_X4_ownersOf : GoodIn wsX4_answerForAlive (wsV RX4 211 RX4 yX4_ownersOf wsX4_ownersOf) := goodIn_app (goodIn_of _ (by decide +kernel)) ggX4_answerForAlive_X4_ownersOf
set_option maxRecDepth 20000 in
theorem ggX4_answerForAlive_X4_holds : GoodIn wsX4_answerForAlive wsX4_holds := goodIn_r _ [55] (by decide +kernel) (by decide +kernel)
set_option maxRecDepth 20000 in
theorem gX4_answerForAlive_X4_holds : GoodIn wsX4_answerForAlive (va_wsS RX4 123 yX4_holds wsX4_holds) := goodIn_app (goodIn_of _ (by decide +kernel)) ggX4_answerForAlive_X4_holds
set_option maxRecDepth 20000 in
theorem ggX4_answerForAlive_X4_principalSet : GoodIn wsX4_answerForAlive wsX4_principalSet := goodIn_r _ [64, 65, 22, 23, 5, 24, 75, 76, 77, 78, 79, 80, 81, 82, 83, 84, 85] (by decide +kernel) (by decide +kernel)
set_option maxRecDepth 20000 in
theorem gX4_answerForAlive_X4_principalSet : GoodIn wsX4_answerForAlive (wsV RX4 214 RX4 yX4_principalSet wsX4_principalSet) := goodIn_app (goodIn_of _ (by decide +kernel)) ggX4_answerForAlive_X4_principalSet
set_option maxRecDepth 20000 in
theorem ggX4_answerForAlive_X0_giversTo : GoodIn wsX4_answerForAlive wsX0_giversTo := goodIn_r _ [69, 70, 71, 72, 73, 74, 23, 5, 24, 96, 97, 98, 99, 100] (by decide +kernel) (by decide +kernel)
set_option maxRecDepth 20000 in
theorem gX4_answerForAlive_X0_giversTo_n217 : GoodIn wsX4_answerForAlive (wsX0_giversTo) := ggX4_answerForAlive_X0_giversTo
set_option maxRecDepth 20000 in
theorem ggX4_answerForAlive_X4_isForbidden : GoodIn wsX4_answerForAlive wsX4_isForbidden := goodIn_r _ [59, 60, 53, 54, 5, 55, 75, 76, 77, 78, 79, 80, 81, 82, 83, 84, 85] (by decide +kernel) (by decide +kernel)
set_option maxRecDepth 20000 in
theorem gX4_answerForAlive_X4_isForbidden : GoodIn wsX4_answerForAlive (wsV RX4 102 RX4 yX4_isForbidden wsX4_isForbidden) := goodIn_app (goodIn_of _ (by decide +kernel)) ggX4_answerForAlive_X4_isForbidden
set_option maxRecDepth 20000 in
theorem ggX4_principalSet_X4_bit : GoodIn wsX4_principalSet wsX4_bit := goodIn_r _ [5] (by decide +kernel) (by decide +kernel)
set_option maxRecDepth 20000 in
theorem gX4_principalSet_X4_bit : GoodIn wsX4_principalSet (va_wsS RX4 106 yX4_bit wsX4_bit) := goodIn_app (goodIn_of _ (by decide +kernel)) ggX4_principalSet_X4_bit
set_option maxRecDepth 20000 in
theorem ggX4_checkValue_X4_digit : GoodIn wsX4_checkValue wsX4_digit := goodIn_r _ [4] (by decide +kernel) (by decide +kernel)
set_option maxRecDepth 20000 in
theorem gX4_checkValue_X4_digit : GoodIn wsX4_checkValue (va_wsS RX4 174 yX4_digit wsX4_digit) := goodIn_app (goodIn_of _ (by decide +kernel)) ggX4_checkValue_X4_digit
set_option maxRecDepth 20000 in
theorem ggX5_isDay_X5_in : GoodIn wsX5_isDay wsX5_in := goodIn_r _ [5] (by decide +kernel) (by decide +kernel)
set_option maxRecDepth 20000 in
theorem gX5_isDay_X5_in : GoodIn wsX5_isDay (va_wsS RX5 73 yX5_in wsX5_in) := goodIn_app (goodIn_of _ (by decide +kernel)) ggX5_isDay_X5_in
set_option maxRecDepth 20000 in
theorem ggX5_isEight_X5_in : GoodIn wsX5_isEight wsX5_in := goodIn_r _ [4] (by decide +kernel) (by decide +kernel)
set_option maxRecDepth 20000 in
theorem gX5_isEight_X5_in : GoodIn wsX5_isEight (va_wsS RX5 73 yX5_in wsX5_in) := goodIn_app (goodIn_of _ (by decide +kernel)) ggX5_isEight_X5_in
set_option maxRecDepth 20000 in
theorem ggX5_right_X5_isTrader : GoodIn wsX5_right wsX5_isTrader := goodIn_r _ [12, 13, 24, 25, 26, 27, 28, 29, 30, 31, 32, 33, 34, 35, 36, 37, 38, 39, 40, 41, 42, 43, 44, 45, 46, 47, 48] (by decide +kernel) (by decide +kernel)
set_option maxRecDepth 20000 in
theorem gX5_right_X5_isTrader : GoodIn wsX5_right (wsV RX5 77 RX5 yX5_isTrader wsX5_isTrader) := goodIn_app (goodIn_of _ (by decide +kernel)) ggX5_right_X5_isTrader
set_option maxRecDepth 20000 in
theorem ggX5_right_X5_isEight : GoodIn wsX5_right wsX5_isEight := goodIn_r _ [16, 17, 18, 11, 19] (by decide +kernel) (by decide +kernel)
set_option maxRecDepth 20000 in
theorem gX5_right_X5_isEight : GoodIn wsX5_right (va_wsS RX5 81 yX5_isEight wsX5_isEight) := goodIn_app (goodIn_of _ (by decide +kernel)) ggX5_right_X5_isEight
set_option maxRecDepth 20000 in
theorem ggX5_right_X5_isDay : GoodIn wsX5_right wsX5_isDay := goodIn_r _ [22, 23, 17, 18, 11, 19] (by decide +kernel) (by decide +kernel)
set_option maxRecDepth 20000 in
theorem gX5_right_X5_isDay : GoodIn wsX5_right (va_wsS RX5 84 yX5_isDay wsX5_isDay) := goodIn_app (goodIn_of _ (by decide +kernel)) ggX5_right_X5_isDay
set_option maxRecDepth 20000 in
theorem ggX5_forbid_X5_isTrader : GoodIn wsX5_forbid wsX5_isTrader := goodIn_r _ [7, 8, 19, 20, 21, 22, 23, 24, 25, 26, 27, 28, 29, 30, 31, 32, 33, 34, 35, 36, 37, 38, 39, 40, 41, 42, 43] (by decide +kernel) (by decide +kernel)
set_option maxRecDepth 20000 in
theorem gX5_forbid_X5_isTrader : GoodIn wsX5_forbid (wsV RX5 77 RX5 yX5_isTrader wsX5_isTrader) := goodIn_app (goodIn_of _ (by decide +kernel)) ggX5_forbid_X5_isTrader
set_option maxRecDepth 20000 in
theorem ggX5_forbid_X5_isEight : GoodIn wsX5_forbid wsX5_isEight := goodIn_r _ [11, 12, 13, 6, 14] (by decide +kernel) (by decide +kernel)
set_option maxRecDepth 20000 in
theorem gX5_forbid_X5_isEight : GoodIn wsX5_forbid (va_wsS RX5 81 yX5_isEight wsX5_isEight) := goodIn_app (goodIn_of _ (by decide +kernel)) ggX5_forbid_X5_isEight
set_option maxRecDepth 20000 in
theorem ggX5_forbid_X5_isForbidden : GoodIn wsX5_forbid wsX5_isForbidden := goodIn_r _ [18, 2, 19, 20, 21, 22, 23, 24, 25, 26, 27, 28, 29, 30, 31, 32, 33, 34, 35, 36, 37, 38, 39, 40, 41, 42, 43] (by decide +kernel) (by decide +kernel)
set_option maxRecDepth 20000 in
theorem gX5_forbid_X5_isForbidden : GoodIn wsX5_forbid (wsV RX5 90 RX5 yX5_isForbidden wsX5_isForbidden) := goodIn_app (goodIn_of _ (by decide +kernel)) ggX5_forbid_X5_isForbidden
set_option maxRecDepth 20000 in
theorem ggX5_reached_X5_isAlive : GoodIn wsX5_reached wsX5_isAlive := goodIn_r _ [7, 8, 9, 10, 6, 11, 12, 13, 14, 15, 16, 17, 18, 19, 20, 21, 22, 23, 24, 25, 26, 27, 28, 29, 30, 31, 32, 33, 34, 35, 36, 37, 38, 39, 40, 41, 42, 43, 44, 45] (by decide +kernel) (by decide +kernel)
set_option maxRecDepth 20000 in
theorem gX5_reached_X5_isAlive : GoodIn wsX5_reached (wsV RX5 94 RX5 yX5_isAlive wsX5_isAlive) := goodIn_app (goodIn_of _ (by decide +kernel)) ggX5_reached_X5_isAlive
set_option maxRecDepth 20000 in
theorem ggX5_areTwo_X5_isTrader : GoodIn wsX5_areTwo wsX5_isTrader := goodIn_r _ [5, 6, 7, 8, 9, 10, 11, 12, 13, 14, 15, 16, 17, 18, 19, 20, 21, 22, 23, 24, 25, 26, 27, 28, 29, 30, 31] (by decide +kernel) (by decide +kernel)
set_option maxRecDepth 20000 in
theorem gX5_areTwo_X5_isTrader : GoodIn wsX5_areTwo (wsV RX5 77 RX5 yX5_isTrader wsX5_isTrader) := goodIn_app (goodIn_of _ (by decide +kernel)) ggX5_areTwo_X5_isTrader
set_option maxRecDepth 20000 in
theorem ggX5_group_X5_areTwo : GoodIn wsX5_group wsX5_areTwo := goodIn_r _ [7, 8, 9, 10, 6, 11, 12, 37, 38, 39, 40, 41, 42, 43, 44, 45, 46, 47, 48, 49, 50, 51, 52, 53, 54, 55, 56, 57, 58, 59, 60, 61] (by decide +kernel) (by decide +kernel)
set_option maxRecDepth 20000 in
theorem gX5_group_X5_areTwo : GoodIn wsX5_group (wsV RX5 97 RX5 yX5_areTwo wsX5_areTwo) := goodIn_app (goodIn_of _ (by decide +kernel)) ggX5_group_X5_areTwo
set_option maxRecDepth 20000 in
theorem ggX5_group_X5_bits : GoodIn wsX5_group wsX5_bits := goodIn_r _ [15] (by decide +kernel) (by decide +kernel)
set_option maxRecDepth 20000 in
theorem gX5_group_X5_bits : GoodIn wsX5_group (va_wsS RX5 100 yX5_bits wsX5_bits) := goodIn_app (goodIn_of _ (by decide +kernel)) ggX5_group_X5_bits
set_option maxRecDepth 20000 in
theorem ggX5_group_X5_reached : GoodIn wsX5_group wsX5_reached := goodIn_r _ [19, 12, 2, 20, 21, 22, 6, 23, 24, 25, 26, 27, 28, 29, 30, 31, 32, 33, 34, 35, 36, 37, 38, 39, 40, 41, 42, 43, 44, 45, 46, 47, 48, 49, 50, 51, 52, 53, 54, 55, 56, 57, 58, 59, 60, 61] (by decide +kernel) (by decide +kernel)
set_option maxRecDepth 20000 in
theorem gX5_group_X5_reached : GoodIn wsX5_group (wsV RX5 104 RX5 yX5_reached wsX5_reached) := goodIn_app (goodIn_of _ (by decide +kernel)) ggX5_group_X5_reached
set_option maxRecDepth 20000 in
theorem ggX5_deputy_X5_areTwo : GoodIn wsX5_deputy wsX5_areTwo := goodIn_r _ [7, 8, 9, 10, 6, 11, 12, 17, 18, 19, 20, 21, 22, 23, 24, 25, 26, 27, 28, 29, 30, 31, 32, 33, 34, 35, 36, 37, 38, 39, 40, 41] (by decide +kernel) (by decide +kernel)
set_option maxRecDepth 20000 in
theorem gX5_deputy_X5_areTwo : GoodIn wsX5_deputy (wsV RX5 97 RX5 yX5_areTwo wsX5_areTwo) := goodIn_app (goodIn_of _ (by decide +kernel)) ggX5_deputy_X5_areTwo
set_option maxRecDepth 20000 in
theorem ggX5_deputy_X5_withDeputy : GoodIn wsX5_deputy wsX5_withDeputy := goodIn_r _ [16, 12, 2, 17, 18, 19, 20, 21, 22, 23, 24, 25, 26, 27, 28, 29, 30, 31, 32, 33, 34, 35, 36, 37, 38, 39, 40, 41] (by decide +kernel) (by decide +kernel)
set_option maxRecDepth 20000 in
theorem gX5_deputy_X5_withDeputy : GoodIn wsX5_deputy (wsV RX5 108 RX5 yX5_withDeputy wsX5_withDeputy) := goodIn_app (goodIn_of _ (by decide +kernel)) ggX5_deputy_X5_withDeputy
set_option maxRecDepth 20000 in
theorem ggX5_mandate_X5_areTwo : GoodIn wsX5_mandate wsX5_areTwo := goodIn_r _ [11, 12, 13, 14, 10, 15, 16, 24, 25, 26, 27, 28, 29, 30, 31, 32, 33, 34, 35, 36, 37, 38, 39, 40, 41, 42, 43, 44, 45, 46, 47, 48] (by decide +kernel) (by decide +kernel)
set_option maxRecDepth 20000 in
theorem gX5_mandate_X5_areTwo : GoodIn wsX5_mandate (wsV RX5 97 RX5 yX5_areTwo wsX5_areTwo) := goodIn_app (goodIn_of _ (by decide +kernel)) ggX5_mandate_X5_areTwo
set_option maxRecDepth 20000 in
theorem ggX5_mandate_X5_isDay : GoodIn wsX5_mandate wsX5_isDay := goodIn_r _ [19, 20, 21, 22, 10, 23] (by decide +kernel) (by decide +kernel)
set_option maxRecDepth 20000 in
theorem gX5_mandate_X5_isDay : GoodIn wsX5_mandate (va_wsS RX5 84 yX5_isDay wsX5_isDay) := goodIn_app (goodIn_of _ (by decide +kernel)) ggX5_mandate_X5_isDay
set_option maxRecDepth 20000 in
theorem ggX5_suspend_X5_isTrader : GoodIn wsX5_suspend wsX5_isTrader := goodIn_r _ [10, 11, 19, 20, 21, 22, 23, 24, 25, 26, 27, 28, 29, 30, 31, 32, 33, 34, 35, 36, 37, 38, 39, 40, 41, 42, 43] (by decide +kernel) (by decide +kernel)
set_option maxRecDepth 20000 in
theorem gX5_suspend_X5_isTrader : GoodIn wsX5_suspend (wsV RX5 77 RX5 yX5_isTrader wsX5_isTrader) := goodIn_app (goodIn_of _ (by decide +kernel)) ggX5_suspend_X5_isTrader
set_option maxRecDepth 20000 in
theorem ggX5_suspend_X5_isDay : GoodIn wsX5_suspend wsX5_isDay := goodIn_r _ [14, 15, 16, 17, 9, 18] (by decide +kernel) (by decide +kernel)
set_option maxRecDepth 20000 in
theorem gX5_suspend_X5_isDay : GoodIn wsX5_suspend (va_wsS RX5 84 yX5_isDay wsX5_isDay) := goodIn_app (goodIn_of _ (by decide +kernel)) ggX5_suspend_X5_isDay
set_option maxRecDepth 20000 in
theorem ggX5_end_X5_isTrader : GoodIn wsX5_end wsX5_isTrader := goodIn_r _ [7, 8, 16, 17, 18, 19, 20, 21, 22, 23, 24, 25, 26, 27, 28, 29, 30, 31, 32, 33, 34, 35, 36, 37, 38, 39, 40] (by decide +kernel) (by decide +kernel)
set_option maxRecDepth 20000 in
theorem gX5_end_X5_isTrader : GoodIn wsX5_end (wsV RX5 77 RX5 yX5_isTrader wsX5_isTrader) := goodIn_app (goodIn_of _ (by decide +kernel)) ggX5_end_X5_isTrader
set_option maxRecDepth 20000 in
theorem ggX5_end_X5_isDay : GoodIn wsX5_end wsX5_isDay := goodIn_r _ [11, 12, 13, 14, 6, 15] (by decide +kernel) (by decide +kernel)
set_option maxRecDepth 20000 in
theorem gX5_end_X5_isDay : GoodIn wsX5_end (va_wsS RX5 84 yX5_isDay wsX5_isDay) := goodIn_app (goodIn_of _ (by decide +kernel)) ggX5_end_X5_isDay
set_option maxRecDepth 20000 in
theorem ggX5_isAlive_X5_isEnded : GoodIn wsX5_isAlive wsX5_isEnded := goodIn_r _ [5, 6, 15, 16, 17, 18, 19, 20, 21, 22, 23, 24, 25, 26, 27, 28, 29, 30, 31, 32, 33, 34, 35, 36, 37, 38, 39] (by decide +kernel) (by decide +kernel)
set_option maxRecDepth 20000 in
theorem gX5_isAlive_X5_isEnded : GoodIn wsX5_isAlive (wsV RX5 117 RX5 yX5_isEnded wsX5_isEnded) := goodIn_app (goodIn_of _ (by decide +kernel)) ggX5_isAlive_X5_isEnded
set_option maxRecDepth 20000 in
theorem ggX5_isAlive_X5_isSuspended : GoodIn wsX5_isAlive wsX5_isSuspended := goodIn_r _ [10, 11, 12, 13, 14, 15, 16, 17, 18, 19, 20, 21, 22, 23, 24, 25, 26, 27, 28, 29, 30, 31, 32, 33, 34, 35, 36, 37, 38, 39] (by decide +kernel) (by decide +kernel)
set_option maxRecDepth 20000 in
theorem gX5_isAlive_X5_isSuspended : GoodIn wsX5_isAlive (wsV RX5 120 RX5 yX5_isSuspended wsX5_isSuspended) := goodIn_app (goodIn_of _ (by decide +kernel)) ggX5_isAlive_X5_isSuspended
set_option maxRecDepth 20000 in
theorem ggX5_has_X5_reached : GoodIn wsX5_has wsX5_reached := goodIn_r _ [11, 12, 13, 14, 15, 16, 10, 17, 18, 19, 20, 21, 22, 23, 24, 25, 26, 27, 28, 29, 30, 39, 40, 41, 42, 43, 44, 45, 46, 47, 48, 49, 50, 51, 52, 53, 54, 55, 56, 57, 58, 59, 60, 61, 62, 63] (by decide +kernel) (by decide +kernel)
set_option maxRecDepth 20000 in
theorem gX5_has_X5_reached : GoodIn wsX5_has (wsV RX5 104 RX5 yX5_reached wsX5_reached) := goodIn_app (goodIn_of _ (by decide +kernel)) ggX5_has_X5_reached
set_option maxRecDepth 20000 in
theorem ggX5_has_X5_in : GoodIn wsX5_has wsX5_in := goodIn_r _ [33] (by decide +kernel) (by decide +kernel)
set_option maxRecDepth 20000 in
theorem gX5_has_X5_in : GoodIn wsX5_has (va_wsS RX5 73 yX5_in wsX5_in) := goodIn_app (goodIn_of _ (by decide +kernel)) ggX5_has_X5_in
set_option maxRecDepth 20000 in
theorem ggX5_has_X5_isForbidden : GoodIn wsX5_has wsX5_isForbidden := goodIn_r _ [37, 38, 39, 40, 41, 42, 43, 44, 45, 46, 47, 48, 49, 50, 51, 52, 53, 54, 55, 56, 57, 58, 59, 60, 61, 62, 63] (by decide +kernel) (by decide +kernel)
set_option maxRecDepth 20000 in
theorem gX5_has_X5_isForbidden : GoodIn wsX5_has (wsV RX5 90 RX5 yX5_isForbidden wsX5_isForbidden) := goodIn_app (goodIn_of _ (by decide +kernel)) ggX5_has_X5_isForbidden
set_option maxRecDepth 20000 in
theorem ggX5_through_X5_has : GoodIn wsX5_through wsX5_has := goodIn_r _ [5, 6, 7, 8, 9, 10, 11, 12, 13, 14, 4, 15, 16, 17, 18, 19, 20, 21, 22, 23, 24, 25, 26, 27, 28, 29, 30, 31, 32, 33, 34, 35, 36, 37, 38, 39, 40, 41, 42, 43, 44, 45, 46, 47, 48, 49, 50, 51, 52, 53, 54, 55, 56, 57, 58, 59, 60, 61, 62, 63, 64, 65, 66, 67] (by decide +kernel) (by decide +kernel)
set_option maxRecDepth 20000 in
theorem gX5_through_X5_has : GoodIn wsX5_through (wsV RX5 123 RX5 yX5_has wsX5_has) := goodIn_app (goodIn_of _ (by decide +kernel)) ggX5_through_X5_has
set_option maxRecDepth 20000 in
theorem ggX5_through_X5_isAlive : GoodIn wsX5_through wsX5_isAlive := goodIn_r _ [21, 22, 23, 24, 4, 25, 26, 27, 28, 29, 30, 31, 32, 33, 34, 43, 44, 45, 46, 47, 48, 49, 50, 51, 52, 53, 54, 55, 56, 57, 58, 59, 60, 61, 62, 63, 64, 65, 66, 67] (by decide +kernel) (by decide +kernel)
set_option maxRecDepth 20000 in
theorem gX5_through_X5_isAlive : GoodIn wsX5_through (wsV RX5 94 RX5 yX5_isAlive wsX5_isAlive) := goodIn_app (goodIn_of _ (by decide +kernel)) ggX5_through_X5_isAlive
set_option maxRecDepth 20000 in
theorem ggX5_answer_X5_isTrader : GoodIn wsX5_answer wsX5_isTrader := goodIn_r _ [11, 12, 64, 65, 66, 67, 68, 69, 70, 71, 72, 73, 74, 75, 76, 77, 78, 79, 80, 81, 82, 83, 84, 85, 86, 87, 88] (by decide +kernel) (by decide +kernel)
set_option maxRecDepth 20000 in
theorem gX5_answer_X5_isTrader : GoodIn wsX5_answer (wsV RX5 77 RX5 yX5_isTrader wsX5_isTrader) := goodIn_app (goodIn_of _ (by decide +kernel)) ggX5_answer_X5_isTrader
set_option maxRecDepth 20000 in
theorem ggX5_answer_X5_isEight : GoodIn wsX5_answer wsX5_isEight := goodIn_r _ [15, 16, 17, 10, 18] (by decide +kernel) (by decide +kernel)
set_option maxRecDepth 20000 in
theorem gX5_answer_X5_isEight : GoodIn wsX5_answer (va_wsS RX5 81 yX5_isEight wsX5_isEight) := goodIn_app (goodIn_of _ (by decide +kernel)) ggX5_answer_X5_isEight
set_option maxRecDepth 20000 in
theorem ggX5_answer_X5_isDay : GoodIn wsX5_answer wsX5_isDay := goodIn_r _ [21, 22, 16, 17, 10, 18] (by decide +kernel) (by decide +kernel)
set_option maxRecDepth 20000 in
theorem gX5_answer_X5_isDay : GoodIn wsX5_answer (va_wsS RX5 84 yX5_isDay wsX5_isDay) := goodIn_app (goodIn_of _ (by decide +kernel)) ggX5_answer_X5_isDay
set_option maxRecDepth 20000 in
theorem ggX5_answer_X5_isEnded : GoodIn wsX5_answer wsX5_isEnded := goodIn_r _ [26, 27, 64, 65, 66, 67, 68, 69, 70, 71, 72, 73, 74, 75, 76, 77, 78, 79, 80, 81, 82, 83, 84, 85, 86, 87, 88] (by decide +kernel) (by decide +kernel)
set_option maxRecDepth 20000 in
theorem gX5_answer_X5_isEnded : GoodIn wsX5_answer (wsV RX5 117 RX5 yX5_isEnded wsX5_isEnded) := goodIn_app (goodIn_of _ (by decide +kernel)) ggX5_answer_X5_isEnded
set_option maxRecDepth 20000 in
theorem ggX5_answer_X5_isSuspended : GoodIn wsX5_answer wsX5_isSuspended := goodIn_r _ [31, 32, 33, 34, 35, 64, 65, 66, 67, 68, 69, 70, 71, 72, 73, 74, 75, 76, 77, 78, 79, 80, 81, 82, 83, 84, 85, 86, 87, 88] (by decide +kernel) (by decide +kernel)
set_option maxRecDepth 20000 in
theorem gX5_answer_X5_isSuspended : GoodIn wsX5_answer (wsV RX5 120 RX5 yX5_isSuspended wsX5_isSuspended) := goodIn_app (goodIn_of _ (by decide +kernel)) ggX5_answer_X5_isSuspended
set_option maxRecDepth 20000 in
theorem ggX5_answer_X5_has : GoodIn wsX5_answer wsX5_has := goodIn_r _ [39, 40, 41, 42, 43, 44, 45, 46, 47, 48, 10, 49, 12, 50, 51, 52, 53, 54, 23, 24, 25, 26, 27, 28, 29, 30, 31, 32, 33, 34, 35, 16, 17, 18, 55, 56, 57, 58, 59, 64, 65, 66, 67, 68, 69, 70, 71, 72, 73, 74, 75, 76, 77, 78, 79, 80, 81, 82, 83, 84, 85, 86, 87, 88] (by decide +kernel) (by decide +kernel)
set_option maxRecDepth 20000 in
theorem gX5_answer_X5_has : GoodIn wsX5_answer (wsV RX5 123 RX5 yX5_has wsX5_has) := goodIn_app (goodIn_of _ (by decide +kernel)) ggX5_answer_X5_has
set_option maxRecDepth 20000 in
theorem ggX5_answer_X5_through : GoodIn wsX5_answer wsX5_through := goodIn_r _ [63, 36, 37, 38, 10, 39, 40, 41, 42, 43, 44, 45, 46, 47, 48, 49, 12, 50, 51, 52, 53, 54, 23, 24, 25, 26, 27, 28, 29, 30, 31, 32, 33, 34, 35, 16, 17, 18, 55, 56, 57, 58, 59, 64, 65, 66, 67, 68, 69, 70, 71, 72, 73, 74, 75, 76, 77, 78, 79, 80, 81, 82, 83, 84, 85, 86, 87, 88] (by decide +kernel) (by decide +kernel)
set_option maxRecDepth 20000 in
theorem gX5_answer_X5_through : GoodIn wsX5_answer (wsV RX5 127 RX5 yX5_through wsX5_through) := goodIn_app (goodIn_of _ (by decide +kernel)) ggX5_answer_X5_through
set_option maxRecDepth 20000 in
theorem ggX5_answer_X5_isForbidden : GoodIn wsX5_answer wsX5_isForbidden := goodIn_r _ [58, 59, 64, 65, 66, 67, 68, 69, 70, 71, 72, 73, 74, 75, 76, 77, 78, 79, 80, 81, 82, 83, 84, 85, 86, 87, 88] (by decide +kernel) (by decide +kernel)
set_option maxRecDepth 20000 in
theorem gX5_answer_X5_isForbidden : GoodIn wsX5_answer (wsV RX5 90 RX5 yX5_isForbidden wsX5_isForbidden) := goodIn_app (goodIn_of _ (by decide +kernel)) ggX5_answer_X5_isForbidden
set_option maxRecDepth 20000 in
theorem ggX5_may_X5_answer : GoodIn wsX5_may wsX5_answer := goodIn_r _ [6, 7, 8, 9, 10, 11, 12, 13, 14, 15, 5, 16, 17, 18, 19, 20, 21, 22, 23, 24, 25, 26, 27, 28, 29, 30, 31, 32, 33, 34, 35, 36, 37, 38, 39, 40, 41, 42, 43, 44, 45, 46, 47, 48, 49, 50, 51, 52, 53, 54, 55, 56, 57, 58, 59, 60, 61, 62, 63, 64, 65, 66, 67, 68, 69, 70, 71, 72, 73, 74, 75, 76, 77, 78, 79, 80, 81, 82, 83, 84, 85, 86, 87, 88, 89, 90, 91, 92, 93] (by decide +kernel) (by decide +kernel)
set_option maxRecDepth 20000 in
theorem gX5_may_X5_answer : GoodIn wsX5_may (wsV RX5 131 RX5 yX5_answer wsX5_answer) := goodIn_app (goodIn_of _ (by decide +kernel)) ggX5_may_X5_answer
set_option maxRecDepth 20000 in
theorem ggX5_two_X5_isEight : GoodIn wsX5_two wsX5_isEight := goodIn_r _ [6, 7, 8, 5, 9] (by decide +kernel) (by decide +kernel)
set_option maxRecDepth 20000 in
theorem gX5_two_X5_isEight : GoodIn wsX5_two (va_wsS RX5 81 yX5_isEight wsX5_isEight) := goodIn_app (goodIn_of _ (by decide +kernel)) ggX5_two_X5_isEight
set_option maxRecDepth 20000 in
theorem ggX5_done_X5_answer : GoodIn wsX5_done wsX5_answer := goodIn_r _ [8, 3, 9, 10, 11, 12, 13, 14, 15, 16, 7, 17, 18, 19, 20, 21, 22, 23, 24, 25, 26, 27, 28, 29, 30, 31, 32, 33, 34, 35, 36, 37, 38, 39, 40, 41, 42, 43, 44, 45, 46, 47, 48, 49, 50, 51, 52, 53, 54, 55, 56, 57, 58, 59, 60, 61, 62, 63, 64, 65, 66, 67, 68, 69, 70, 71, 72, 73, 74, 75, 76, 77, 78, 79, 80, 81, 82, 83, 84, 85, 86, 87, 88, 89, 90, 91, 92, 93, 94] (by decide +kernel) (by decide +kernel)
set_option maxRecDepth 20000 in
theorem gX5_done_X5_answer : GoodIn wsX5_done (wsV RX5 131 RX5 yX5_answer wsX5_answer) := goodIn_app (goodIn_of _ (by decide +kernel)) ggX5_done_X5_answer
set_option maxRecDepth 20000 in
theorem ggX5_digit_X5_power : GoodIn wsX5_digit wsX5_power := goodIn_r _ [4] (by decide +kernel) (by decide +kernel)
set_option maxRecDepth 20000 in
theorem gX5_digit_X5_power : GoodIn wsX5_digit (va_wsS RX5 138 yX5_power wsX5_power) := goodIn_app (goodIn_of _ (by decide +kernel)) ggX5_digit_X5_power
set_option maxRecDepth 20000 in
theorem ggX5_letter_X5_in : GoodIn wsX5_letter wsX5_in := goodIn_r _ [6] (by decide +kernel) (by decide +kernel)
set_option maxRecDepth 20000 in
theorem gX5_letter_X5_in : GoodIn wsX5_letter (va_wsS RX5 73 yX5_in wsX5_in) := goodIn_app (goodIn_of _ (by decide +kernel)) ggX5_letter_X5_in
set_option maxRecDepth 20000 in
theorem ggX5_letter_X5_digit : GoodIn wsX5_letter wsX5_digit := goodIn_r _ [9, 10, 11, 5, 12] (by decide +kernel) (by decide +kernel)
set_option maxRecDepth 20000 in
theorem gX5_letter_X5_digit : GoodIn wsX5_letter (va_wsS RX5 142 yX5_digit wsX5_digit) := goodIn_app (goodIn_of _ (by decide +kernel)) ggX5_letter_X5_digit
set_option maxRecDepth 20000 in
theorem ggX5_check_X5_in : GoodIn wsX5_check wsX5_in := goodIn_r _ [9] (by decide +kernel) (by decide +kernel)
set_option maxRecDepth 20000 in
theorem gX5_check_X5_in : GoodIn wsX5_check (va_wsS RX5 73 yX5_in wsX5_in) := goodIn_app (goodIn_of _ (by decide +kernel)) ggX5_check_X5_in
set_option maxRecDepth 20000 in
theorem ggX5_check_X5_power : GoodIn wsX5_check wsX5_power := goodIn_r _ [12] (by decide +kernel) (by decide +kernel)
set_option maxRecDepth 20000 in
theorem gX5_check_X5_power : GoodIn wsX5_check (va_wsS RX5 138 yX5_power wsX5_power) := goodIn_app (goodIn_of _ (by decide +kernel)) ggX5_check_X5_power
set_option maxRecDepth 20000 in
theorem ggX5_acts_X5_has : GoodIn wsX5_acts wsX5_has := goodIn_r _ [5, 6, 7, 8, 9, 10, 11, 12, 13, 14, 4, 15, 16, 17, 18, 19, 20, 21, 22, 23, 24, 25, 26, 27, 28, 29, 30, 31, 32, 33, 34, 35, 36, 37, 38, 39, 40, 41, 42, 43, 44, 45, 46, 47, 48, 49, 50, 51, 52, 53, 54, 55, 56, 57, 58, 59, 60, 61, 62, 63, 64, 65, 66, 67] (by decide +kernel) (by decide +kernel)
set_option maxRecDepth 20000 in
theorem gX5_acts_X5_has : GoodIn wsX5_acts (wsV RX5 123 RX5 yX5_has wsX5_has) := goodIn_app (goodIn_of _ (by decide +kernel)) ggX5_acts_X5_has
set_option maxRecDepth 20000 in
theorem ggX5_look_X5_isTrader : GoodIn wsX5_look wsX5_isTrader := goodIn_r _ [7, 8, 71, 72, 73, 74, 75, 76, 77, 78, 79, 80, 81, 82, 83, 84, 85, 86, 87, 88, 89, 90, 91, 92, 93, 94, 95] (by decide +kernel) (by decide +kernel)
set_option maxRecDepth 20000 in
theorem gX5_look_X5_isTrader : GoodIn wsX5_look (wsV RX5 77 RX5 yX5_isTrader wsX5_isTrader) := goodIn_app (goodIn_of _ (by decide +kernel)) ggX5_look_X5_isTrader
set_option maxRecDepth 20000 in
theorem ggX5_look_X5_in : GoodIn wsX5_look wsX5_in := goodIn_r _ [11] (by decide +kernel) (by decide +kernel)
set_option maxRecDepth 20000 in
theorem gX5_look_X5_in : GoodIn wsX5_look (va_wsS RX5 73 yX5_in wsX5_in) := goodIn_app (goodIn_of _ (by decide +kernel)) ggX5_look_X5_in
set_option maxRecDepth 20000 in
theorem ggX5_look_X5_isDay : GoodIn wsX5_look wsX5_isDay := goodIn_r _ [14, 15, 9, 10, 6, 11] (by decide +kernel) (by decide +kernel)
set_option maxRecDepth 20000 in
theorem gX5_look_X5_isDay : GoodIn wsX5_look (va_wsS RX5 84 yX5_isDay wsX5_isDay) := goodIn_app (goodIn_of _ (by decide +kernel)) ggX5_look_X5_isDay
set_option maxRecDepth 20000 in
theorem ggX5_look_X5_isEnded : GoodIn wsX5_look wsX5_isEnded := goodIn_r _ [19, 20, 71, 72, 73, 74, 75, 76, 77, 78, 79, 80, 81, 82, 83, 84, 85, 86, 87, 88, 89, 90, 91, 92, 93, 94, 95] (by decide +kernel) (by decide +kernel)
set_option maxRecDepth 20000 in
theorem gX5_look_X5_isEnded : GoodIn wsX5_look (wsV RX5 117 RX5 yX5_isEnded wsX5_isEnded) := goodIn_app (goodIn_of _ (by decide +kernel)) ggX5_look_X5_isEnded
set_option maxRecDepth 20000 in
theorem ggX5_look_X5_isSuspended : GoodIn wsX5_look wsX5_isSuspended := goodIn_r _ [24, 25, 26, 27, 28, 71, 72, 73, 74, 75, 76, 77, 78, 79, 80, 81, 82, 83, 84, 85, 86, 87, 88, 89, 90, 91, 92, 93, 94, 95] (by decide +kernel) (by decide +kernel)
set_option maxRecDepth 20000 in
theorem gX5_look_X5_isSuspended : GoodIn wsX5_look (wsV RX5 120 RX5 yX5_isSuspended wsX5_isSuspended) := goodIn_app (goodIn_of _ (by decide +kernel)) ggX5_look_X5_isSuspended
set_option maxRecDepth 20000 in
theorem ggX5_look_X5_reached : GoodIn wsX5_look wsX5_reached := goodIn_r _ [32, 8, 33, 34, 35, 36, 6, 37, 16, 17, 18, 19, 20, 21, 22, 23, 24, 25, 26, 27, 28, 71, 72, 73, 74, 75, 76, 77, 78, 79, 80, 81, 82, 83, 84, 85, 86, 87, 88, 89, 90, 91, 92, 93, 94, 95] (by decide +kernel) (by decide +kernel)
set_option maxRecDepth 20000 in
theorem gX5_look_X5_reached : GoodIn wsX5_look (wsV RX5 104 RX5 yX5_reached wsX5_reached) := goodIn_app (goodIn_of _ (by decide +kernel)) ggX5_look_X5_reached
set_option maxRecDepth 20000 in
theorem ggX5_look_X5_bits : GoodIn wsX5_look wsX5_bits := goodIn_r _ [40] (by decide +kernel) (by decide +kernel)
set_option maxRecDepth 20000 in
theorem gX5_look_X5_bits : GoodIn wsX5_look (va_wsS RX5 100 yX5_bits wsX5_bits) := goodIn_app (goodIn_of _ (by decide +kernel)) ggX5_look_X5_bits
set_option maxRecDepth 20000 in
theorem ggX5_look_X5_acts : GoodIn wsX5_look wsX5_acts := goodIn_r _ [44, 45, 46, 47, 6, 48, 49, 50, 51, 52, 53, 54, 29, 30, 31, 32, 8, 33, 34, 35, 36, 37, 16, 17, 18, 19, 20, 21, 22, 23, 24, 25, 26, 27, 28, 9, 10, 11, 55, 56, 57, 58, 59, 71, 72, 73, 74, 75, 76, 77, 78, 79, 80, 81, 82, 83, 84, 85, 86, 87, 88, 89, 90, 91, 92, 93, 94, 95] (by decide +kernel) (by decide +kernel)
set_option maxRecDepth 20000 in
theorem gX5_look_X5_acts : GoodIn wsX5_look (wsV RX5 149 RX5 yX5_acts wsX5_acts) := goodIn_app (goodIn_of _ (by decide +kernel)) ggX5_look_X5_acts
set_option maxRecDepth 20000 in
theorem ggX5_look_X5_withDeputy : GoodIn wsX5_look wsX5_withDeputy := goodIn_r _ [63, 8, 2, 71, 72, 73, 74, 75, 76, 77, 78, 79, 80, 81, 82, 83, 84, 85, 86, 87, 88, 89, 90, 91, 92, 93, 94, 95] (by decide +kernel) (by decide +kernel)
set_option maxRecDepth 20000 in
theorem gX5_look_X5_withDeputy : GoodIn wsX5_look (wsV RX5 108 RX5 yX5_withDeputy wsX5_withDeputy) := goodIn_app (goodIn_of _ (by decide +kernel)) ggX5_look_X5_withDeputy
set_option maxRecDepth 20000 in
theorem ggX5_look_X5_standing : GoodIn wsX5_look wsX5_standing := goodIn_r _ [67, 68, 69, 70, 71, 72, 73, 74, 75, 76, 77, 78, 79, 80, 81, 82, 83, 84, 85, 86, 87, 88, 89, 90, 91, 92, 93, 94, 95] (by decide +kernel) (by decide +kernel)
set_option maxRecDepth 20000 in
theorem gX5_look_X5_standing : GoodIn wsX5_look (wsV RX5 152 RX5 yX5_standing wsX5_standing) := goodIn_app (goodIn_of _ (by decide +kernel)) ggX5_look_X5_standing
set_option maxRecDepth 20000 in
theorem ggL_trader_X4_trader : GoodIn wsL_trader wsX4_trader := goodIn_ca (goodIn_r _ [6, 7, 8, 9, 10, 11, 12, 13, 14, 15, 16, 17, 18, 19, 20] (by decide +kernel) (by decide +kernel)) (goodIn_sub (fun _ h => List.mem_cons_of_mem _ (List.mem_append_right _ h)) (by decide +kernel))
set_option maxRecDepth 20000 in
theorem gL_trader_X4_trader : GoodIn wsL_trader (wsV RL 7 RX4 yX4_trader wsX4_trader) := goodIn_app (goodIn_of _ (by decide +kernel)) ggL_trader_X4_trader
set_option maxRecDepth 20000 in
theorem ggL_right_X4_right : GoodIn wsL_right wsX4_right := goodIn_ca (goodIn_ca (goodIn_r _ [7, 8, 9, 10, 11, 12, 13, 14, 15, 6, 16, 17, 18, 19, 20, 21, 22, 23, 24, 25, 26, 27, 28, 29, 30, 31, 32, 33, 34, 35, 36, 37, 38, 39, 40, 41, 42, 43, 44, 45, 46, 47, 48, 49, 50, 51, 52, 53, 54] (by decide +kernel) (by decide +kernel)) (goodIn_sub (fun _ h => List.mem_cons_of_mem _ (List.mem_append_left _ (List.mem_append_right _ h))) (by decide +kernel))) (goodIn_sub (fun _ h => List.mem_cons_of_mem _ (List.mem_append_right _ h)) (by decide +kernel))
set_option maxRecDepth 20000 in
theorem gL_right_X4_right : GoodIn wsL_right (wsV RL 15 RX4 yX4_right wsX4_right) := goodIn_app (goodIn_of _ (by decide +kernel)) ggL_right_X4_right
set_option maxRecDepth 20000 in
theorem ggL_group_X4_group : GoodIn wsL_group wsX4_group := goodIn_ca (goodIn_r _ [6, 7, 8, 9, 10, 11, 12, 5, 13, 14, 15, 16, 17, 18, 19, 20, 21, 22, 23, 24, 25, 26, 27, 28, 29, 30, 31, 32, 33, 34, 35, 36, 37, 38, 39, 40, 41, 42, 43, 44, 45, 46, 47, 48, 49, 50, 51, 52, 53, 54] (by decide +kernel) (by decide +kernel)) (goodIn_sub (fun _ h => List.mem_cons_of_mem _ (List.mem_append_right _ h)) (by decide +kernel))
set_option maxRecDepth 20000 in
theorem gL_group_X4_group : GoodIn wsL_group (wsV RL 21 RX4 yX4_group wsX4_group) := goodIn_app (goodIn_of _ (by decide +kernel)) ggL_group_X4_group
set_option maxRecDepth 20000 in
theorem ggL_deputy_X4_deputy : GoodIn wsL_deputy wsX4_deputy := goodIn_ca (goodIn_r _ [6, 7, 8, 9, 10, 11, 12, 13, 5, 14, 15, 16, 17, 18, 19, 20, 21, 22, 23, 24, 25, 26, 27, 28, 29, 30, 31, 32, 33, 34] (by decide +kernel) (by decide +kernel)) (goodIn_sub (fun _ h => List.mem_cons_of_mem _ (List.mem_append_right _ h)) (by decide +kernel))
set_option maxRecDepth 20000 in
theorem gL_deputy_X4_deputy : GoodIn wsL_deputy (wsV RL 25 RX4 yX4_deputy wsX4_deputy) := goodIn_app (goodIn_of _ (by decide +kernel)) ggL_deputy_X4_deputy
set_option maxRecDepth 20000 in
theorem ggL_mandate_X4_mandate : GoodIn wsL_mandate wsX4_mandate := goodIn_ca (goodIn_ca (goodIn_r _ [7, 8, 9, 10, 11, 12, 13, 14, 15, 6, 16, 17, 18, 19, 20, 21, 22, 23, 24, 25, 26, 27, 28, 29, 30, 31, 32, 33, 34, 35, 36, 37, 38, 39, 40, 41, 42, 43, 44, 45, 46, 47, 48, 49, 50] (by decide +kernel) (by decide +kernel)) (goodIn_sub (fun _ h => List.mem_cons_of_mem _ (List.mem_append_left _ (List.mem_append_right _ h))) (by decide +kernel))) (goodIn_sub (fun _ h => List.mem_cons_of_mem _ (List.mem_append_right _ h)) (by decide +kernel))
set_option maxRecDepth 20000 in
theorem gL_mandate_X4_mandate : GoodIn wsL_mandate (wsV RL 28 RX4 yX4_mandate wsX4_mandate) := goodIn_app (goodIn_of _ (by decide +kernel)) ggL_mandate_X4_mandate
set_option maxRecDepth 20000 in
theorem ggL_suspend_X4_suspend : GoodIn wsL_suspend wsX4_suspend := goodIn_ca (goodIn_ca (goodIn_r _ [7, 8, 9, 10, 11, 12, 13, 14, 15, 6, 16, 17, 18, 19, 20, 21, 22, 23, 24, 25, 26, 27, 28, 29, 30, 31, 32, 33, 34, 35, 36, 37, 38, 39, 40, 41, 42, 43, 44] (by decide +kernel) (by decide +kernel)) (goodIn_sub (fun _ h => List.mem_cons_of_mem _ (List.mem_append_left _ (List.mem_append_right _ h))) (by decide +kernel))) (goodIn_sub (fun _ h => List.mem_cons_of_mem _ (List.mem_append_right _ h)) (by decide +kernel))
set_option maxRecDepth 20000 in
theorem gL_suspend_X4_suspend : GoodIn wsL_suspend (wsV RL 32 RX4 yX4_suspend wsX4_suspend) := goodIn_app (goodIn_of _ (by decide +kernel)) ggL_suspend_X4_suspend
set_option maxRecDepth 20000 in
theorem ggL_letter_X4_letter : GoodIn wsL_letter wsX4_letter := goodIn_ca (goodIn_ca (goodIn_r _ [7, 8, 9, 10, 11, 12, 13, 14, 6, 15, 16, 17, 18] (by decide +kernel) (by decide +kernel)) (goodIn_sub (fun _ h => List.mem_cons_of_mem _ (List.mem_append_left _ (List.mem_append_right _ h))) (by decide +kernel))) (goodIn_sub (fun _ h => List.mem_cons_of_mem _ (List.mem_append_right _ h)) (by decide +kernel))
set_option maxRecDepth 20000 in
theorem gL_letter_X4_letter : GoodIn wsL_letter (wsV RL 36 RX4 yX4_letter wsX4_letter) := goodIn_app (goodIn_of _ (by decide +kernel)) ggL_letter_X4_letter
set_option maxRecDepth 20000 in
theorem ggL_look_X4_look : GoodIn wsL_look wsX4_look := goodIn_ca (goodIn_ca (goodIn_r _ [7, 8, 9, 10, 11, 12, 13, 14, 15, 16, 17, 18, 6, 19, 20, 21, 22, 23, 24, 25, 26, 27, 28, 29, 30, 31, 32, 33, 34, 35, 36, 37, 38, 39, 40, 41, 42, 43, 44, 45, 46, 47, 48, 49, 50, 51, 52, 53, 54, 55, 56, 57, 58, 59, 60, 61, 62, 63, 64, 65, 66, 67, 68, 69, 70, 71, 72, 73, 74, 75, 76, 77, 78, 79, 80, 81, 82, 83, 84, 85, 86, 87, 88, 89, 90, 91, 92, 93, 94, 95, 96, 97, 98, 99, 100, 101, 102, 103, 104, 105, 106, 107, 108, 109, 110, 111, 112, 113, 114, 115] (by decide +kernel) (by decide +kernel)) (goodIn_sub (fun _ h => List.mem_cons_of_mem _ (List.mem_append_left _ (List.mem_append_right _ h))) (by decide +kernel))) (goodIn_sub (fun _ h => List.mem_cons_of_mem _ (List.mem_append_right _ h)) (by decide +kernel))
set_option maxRecDepth 20000 in
theorem gL_look_X4_look : GoodIn wsL_look (wsV RL 41 RX4 yX4_look wsX4_look) := goodIn_app (goodIn_of _ (by decide +kernel)) ggL_look_X4_look
end
section
/-! my kit: nest words, the worlds of class (wX) and reference (wM), rows of small steps -/
def nwL : List Cond := [.methodLinkNest RX4 40 yX2_init "TraderRights", .fieldLinkNest RX4 93 "TraderRights$Rights" "size" "I" "TraderRights", .methodLinkNest RX4 47 yX0_init "TraderRights", .fieldLinkNest RX4 136 "TraderRights$Mandates" "size" "I" "TraderRights", .methodLinkNest RX4 54 yX3_init "TraderRights", .fieldLinkNest RX4 144 "TraderRights$Suspensions" "size" "I" "TraderRights", .methodLinkNest RX4 61 yX1_init "TraderRights", .fieldLinkNest RX4 183 "TraderRights$Reader" "latest" "I" "TraderRights", .fieldLinkNest RX4 197 "TraderRights$Reader" "lettersRead" "I" "TraderRights", .methodLinkNest RX4 153 yX3_isOn "TraderRights", .methodLinkNest RX4 204 yX2_tradersWith "TraderRights", .methodLinkNest RX2 35 yX4_bit "TraderRights", .methodLinkNest RX4 217 yX0_giversTo "TraderRights", .methodLinkNest RX0 29 yX4_bit "TraderRights", .methodLinkNest RX4 180 yX1_read "TraderRights", .methodLinkNest RX1 25 yX4_checkValue "TraderRights", .methodLinkNest RX4 98 yX2_append "TraderRights", .methodLinkNest RX4 139 yX0_append "TraderRights", .methodLinkNest RX4 147 yX3_append "TraderRights", .methodLinkNest RX4 208 yX2_actsOf "TraderRights", .methodLinkNest RX2 39 yX4_holds "TraderRights", .methodLinkNest RX4 194 yX0_sizeOf "TraderRights"]
def nwB (w : Cond) : Bool := match w with
  | .fieldLinkNest _ _ _ _ _ _ => true
  | .methodLinkNest _ _ _ _ => true
  | _ => false
theorem nwL_all : ∀ w ∈ nwL, nwB w = true := by decide +kernel
theorem nw_tab {w : Cond} (h : nwB w = true) : w.onTables = true := by
  cases w <;> first | rfl | (exact absurd h (by simp [nwB]))
theorem nw_warm {w : Cond} (h : nwB w = true) {s U : State} (hW : s.WarmedH U.vm) (hz : va_Nw w s) : va_Nw w U := by
  cases w <;> first | exact va_Nw.warmF hW hz | exact va_Nw.warmM hW hz | (exact absurd h (by simp [nwB]))
def nW (U : State) : Prop := ∀ w ∈ nwL, va_Nw w U
theorem nW.warm {s U : State} (h : nW s) (hW : s.WarmedH U.vm) : nW U := fun w hw => nw_warm (nwL_all w hw) hW (h w hw)
theorem nW.same {s U : State} (h : nW s) (e : s.vm = U.vm) : nW U := fun w hw => va_Nw.same (nw_tab (nwL_all w hw)) e (h w hw)
theorem nW.use {s : State} {args : Array Value} (h : nW s) {w : Cond} (hw : w ∈ nwL) : w.before args s = true := va_Nw.use (nw_tab (nwL_all w hw)) (h w hw)
theorem nW.of {s : State} {args : Array Value} {Ts : List Cond} (hts : ∀ w ∈ Ts, w.before args s = true) (h : ∀ w ∈ nwL, w ∈ Ts) : nW s := fun w hw => va_Nw.of (nw_tab (nwL_all w hw)) (hts w (h w hw))
def uu {α : Type} (g : Nat → α) (k : Nat) (x : α) : Nat → α := fun j => bif Nat.beq j k then x else g j
theorem va_D.fst {A : Nat → Prop} {ws ws' : va_W} (h : ws.map Prod.fst = ws'.map Prod.fst) (hD : va_D A ws) : va_D A ws' := by
  have key : ∀ (i : Nat) (q : Nat × va_E), ws'[i]? = some q → ∃ q', ws[i]? = some q' ∧ q'.1 = q.1 := by
    intro i q hq
    have h1 : (ws'.map Prod.fst)[i]? = some q.1 := by rw [List.getElem?_map, hq]; rfl
    rw [← h, List.getElem?_map] at h1
    cases h2 : ws[i]? with
    | none => rw [h2] at h1; cases h1
    | some q' => rw [h2] at h1; exact ⟨q', rfl, Option.some.inj h1⟩
  refine ⟨fun i j p q hp hq e => ?_, fun k q hq => ?_⟩
  · obtain ⟨p', a1, a2⟩ := key i p hp
    obtain ⟨q', b1, b2⟩ := key j q hq
    exact hD.1 i j p' q' a1 b1 (by rw [a2, b2, e])
  · obtain ⟨q', b1, b2⟩ := key k q hq
    rw [← b2]
    exact hD.2 k q' b1
def wX (ad : Nat → Nat) (cI cZ : ClassId) (z : Nat → Nat) (v : Nat → Int32) (f : Nat → Nat → Int32) : va_W := [(ad 0, .inr (4, [.int (nI (z 0)), .int (v 0), .ref (ad 1), .ref (ad 2), .ref (ad 3), .ref (ad 4), .ref (ad 5), .ref (ad 6), .ref (ad 12), .ref (ad 17), .ref (ad 21)])), (ad 1, .inl (cI, 12, .inl (f 0))), (ad 2, .inl (cI, 12, .inl (f 1))), (ad 3, .inl (cI, 12, .inl (f 2))), (ad 4, .inl (cI, 12, .inl (f 3))), (ad 5, .inl (cI, 12, .inl (f 4))), (ad 6, .inr (2, [.int (nI (z 1)), .ref (ad 7), .ref (ad 8), .ref (ad 9), .ref (ad 10), .ref (ad 11)])), (ad 7, .inl (cI, 60, .inl (f 5))), (ad 8, .inl (cI, 60, .inl (f 6))), (ad 9, .inl (cI, 60, .inl (f 7))), (ad 10, .inl (cI, 60, .inl (f 8))), (ad 11, .inl (cI, 60, .inl (f 9))), (ad 12, .inr (0, [.int (nI (z 2)), .ref (ad 13), .ref (ad 14), .ref (ad 15), .ref (ad 16)])), (ad 13, .inl (cI, 60, .inl (f 10))), (ad 14, .inl (cI, 60, .inl (f 11))), (ad 15, .inl (cZ, 60, .inl (f 12))), (ad 16, .inl (cI, 60, .inl (f 13))), (ad 17, .inr (3, [.int (nI (z 3)), .ref (ad 18), .ref (ad 19), .ref (ad 20)])), (ad 18, .inl (cI, 60, .inl (f 14))), (ad 19, .inl (cI, 60, .inl (f 15))), (ad 20, .inl (cZ, 60, .inl (f 16))), (ad 21, .inr (1, [.int (v 1), .int (nI (z 4)), .int (v 2)]))]
def kX (dC : Nat → ClassId) (dI : Nat → Nat → Nat) (ad : Nat → Nat) (cI cZ : ClassId) (z : Nat → Nat) (v : Nat → Int32) (f : Nat → Nat → Int32) (U : State) : Prop :=
  va_P (dC, dI) vwCl (wX ad cI cZ z v f) U.heap ∧ va_K (dC, dI) vwCl [(cI, .int), (cZ, .boolean)] U ∧ nW U
section KX
variable {dC : Nat → ClassId} {dI : Nat → Nat → Nat} {ad : Nat → Nat} {cI cZ : ClassId} {z : Nat → Nat} {v : Nat → Int32} {f : Nat → Nat → Int32}
theorem kX.at {s : State} {H : Heap} (hP : va_P (dC, dI) vwCl (wX ad cI cZ z v f) H) (hK : va_K (dC, dI) vwCl [(cI, .int), (cZ, .boolean)] s) (hN : nW s) : ∀ U : State, U.heap = H → s.WarmedH U.vm → kX dC dI ad cI cZ z v f U :=
  fun U hU hW => ⟨by rw [hU]; exact hP, va_K.moved hW.alike hK, hN.warm hW⟩
theorem kX.blind (av : List Value) : FrameBlind (va_Pc av (kX dC dI ad cI cZ z v f)) :=
  fun x U g mk q => ⟨q.1, q.2.1, va_K.moved (u := U) (U := U.calling g mk x) (Vm.Alike.refl U.vm) q.2.2.1, nW.same (U := U.calling g mk x) q.2.2.2 rfl⟩
theorem preX {s : State} {H : Heap} {C : String} {b ci q0 : Nat} {q : vw_C} {fs As : List Value} (hP : va_P (dC, dI) vwCl (wX ad cI cZ z v f) H) (hK : va_K (dC, dI) vwCl [(cI, .int), (cZ, .boolean)] s) (hN : nW s)
    (hc : vwCl[ci]? = some q) (hq : q.1 = C) (he : (wX ad cI cZ z v f)[q0]? = some (b, .inr (ci, fs))) : PreV s H C b (va_Pc (.ref b :: As) (kX dC dI ad cI cZ z v f)) As :=
  ⟨kX.blind _, by rw [← hq]; exact va_recv hK hP hc he, fun U hU hW => ⟨rfl, kX.at hP hK hN U hU hW⟩⟩
end KX
def wM (am : Nat → Nat) (cI cZ : ClassId) (th : Int32) (z : Nat → Nat) (v : Nat → Int32) (f : Nat → Nat → Int32) : va_W := [(am 0, .inr (5, [.int th, .int (nI (z 0)), .int (nI (z 1)), .int (nI (z 2)), .int (nI (z 3)), .int (v 1), .ref (am 1), .ref (am 2), .ref (am 3), .ref (am 4), .ref (am 5), .ref (am 6), .ref (am 7), .ref (am 8), .ref (am 9), .ref (am 10), .ref (am 11), .ref (am 12), .ref (am 13), .ref (am 14), .ref (am 15), .ref (am 16), .ref (am 17), .int (nI (z 4)), .int (v 2)])), (am 1, .inl (cI, 12, .inl (f 0))), (am 2, .inl (cI, 12, .inl (f 1))), (am 3, .inl (cI, 12, .inl (f 2))), (am 4, .inl (cI, 12, .inl (f 3))), (am 5, .inl (cI, 60, .inl (f 4))), (am 6, .inl (cI, 60, .inl (f 5))), (am 7, .inl (cI, 60, .inl (f 6))), (am 8, .inl (cI, 60, .inl (f 7))), (am 9, .inl (cI, 60, .inl (f 8))), (am 10, .inl (cI, 60, .inl (f 9))), (am 11, .inl (cI, 60, .inl (f 10))), (am 12, .inl (cZ, 60, .inl (f 11))), (am 13, .inl (cI, 60, .inl (f 12))), (am 14, .inl (cI, 60, .inl (f 13))), (am 15, .inl (cI, 60, .inl (f 14))), (am 16, .inl (cZ, 60, .inl (f 15))), (am 17, .inl (cI, 7, .inl (f 16)))]
def kM (dC : Nat → ClassId) (dI : Nat → Nat → Nat) (am : Nat → Nat) (cI cZ : ClassId) (th : Int32) (z : Nat → Nat) (v : Nat → Int32) (f : Nat → Nat → Int32) (U : State) : Prop :=
  va_P (dC, dI) vwCl (wM am cI cZ th z v f) U.heap ∧ va_K (dC, dI) vwCl [(cI, .int), (cZ, .boolean)] U ∧ nW U
section KM
variable {dC : Nat → ClassId} {dI : Nat → Nat → Nat} {am : Nat → Nat} {cI cZ : ClassId} {th : Int32} {z : Nat → Nat} {v : Nat → Int32} {f : Nat → Nat → Int32}
theorem kM.at {s : State} {H : Heap} (hP : va_P (dC, dI) vwCl (wM am cI cZ th z v f) H) (hK : va_K (dC, dI) vwCl [(cI, .int), (cZ, .boolean)] s) (hN : nW s) : ∀ U : State, U.heap = H → s.WarmedH U.vm → kM dC dI am cI cZ th z v f U :=
  fun U hU hW => ⟨by rw [hU]; exact hP, va_K.moved hW.alike hK, hN.warm hW⟩
theorem kM.blind (av : List Value) : FrameBlind (va_Pc av (kM dC dI am cI cZ th z v f)) :=
  fun x U g mk q => ⟨q.1, q.2.1, va_K.moved (u := U) (U := U.calling g mk x) (Vm.Alike.refl U.vm) q.2.2.1, nW.same (U := U.calling g mk x) q.2.2.2 rfl⟩
theorem preM {s : State} {H : Heap} {C : String} {b ci q0 : Nat} {q : vw_C} {fs As : List Value} (hP : va_P (dC, dI) vwCl (wM am cI cZ th z v f) H) (hK : va_K (dC, dI) vwCl [(cI, .int), (cZ, .boolean)] s) (hN : nW s)
    (hc : vwCl[ci]? = some q) (hq : q.1 = C) (he : (wM am cI cZ th z v f)[q0]? = some (b, .inr (ci, fs))) : PreV s H C b (va_Pc (.ref b :: As) (kM dC dI am cI cZ th z v f)) As :=
  ⟨kM.blind _, by rw [← hq]; exact va_recv hK hP hc he, fun U hU hW => ⟨rfl, kM.at hP hK hN U hU hW⟩⟩
end KM
theorem preT {s : State} {H : Heap} {As : List Value} : PreS s H (va_Pc As (fun _ => True)) As := ⟨fun _ _ _ _ q => q, fun _ _ _ => ⟨rfl, trivial⟩⟩
theorem xi_inc (k : Nat) : nI k + Int32.ofInt 1 = nI (k + 1) := by rw [nI_succ]; rfl
theorem xi_add1 (x : Int32) : x + Int32.ofInt 1 = x + 1 := rfl
theorem xi_sub1 (x : Int32) : x + Int32.ofInt (-1) = x - 1 := by
  rw [Int32.sub_eq_add_neg]; rfl
section XR
variable {p : Program} {l : Launch} {e : Env} {R : Room} {s : State} {m : MethodId} {args : Array Value} {below : List Frame} {meth : Method} {c : Code} {H : Heap} {locs : List Loc} {cells slots : Nat} {Q : State → Prop}
variable {cc : ByteArray} {pc a : Nat} {ls : Array Slot} {rest : List Value} {D : va_G} {cl : List vw_C} {tys : List (ClassId × FieldType)} {ws : va_W} {A : Nat → Prop} {H0 : Heap}
theorem xe_top {x y : Int32} (e1 : x = y) (k : W p l e R s m args below meth c H locs cells slots Q (F0 m pc ls (.int y :: rest))) : W p l e R s m args below meth c H locs cells slots Q (F0 m pc ls (.int x :: rest)) := e1 ▸ k
theorem xa_ild (hexec : p.tables.exec = Jvm.exec) (hb : c.code = cc) (hK : va_K D cl tys s) (hP : va_P D cl ws H) (q0 t0 : Nat) {cA : ClassId} {n : Nat} {f : Nat → Int32} (ha : ws[q0]? = some (a, .inl (cA, n, .inl f))) (ht : tys[t0]? = some (cA, .int)) {k : Nat} (hk : k < n) (hn : n < 2 ^ 31) (hdg : decode cc pc = .ok (.iaload, 1))
    (kk : W p l e R s m args below meth c H locs cells slots Q (F0 m (pc + 1) ls (.int (f k) :: rest))) : W p l e R s m args below meth c H locs cells slots Q (F0 m pc ls (.int (nI k) :: .ref a :: rest)) :=
  va_iald hexec hb hK hP q0 t0 ha ht (vp_in_nI hk hn) hdg (by rw [nI_clamp (Nat.lt_trans hk hn)]; exact kk)
theorem xa_zld (hexec : p.tables.exec = Jvm.exec) (hb : c.code = cc) (hK : va_K D cl tys s) (hP : va_P D cl ws H) (q0 t0 : Nat) {cA : ClassId} {n : Nat} {f : Nat → Int32} (ha : ws[q0]? = some (a, .inl (cA, n, .inl f))) (ht : tys[t0]? = some (cA, .boolean)) {k : Nat} (hk : k < n) (hn : n < 2 ^ 31) (hdg : decode cc pc = .ok (.baload, 1))
    (kk : W p l e R s m args below meth c H locs cells slots Q (F0 m (pc + 1) ls (.int (f k) :: rest))) : W p l e R s m args below meth c H locs cells slots Q (F0 m pc ls (.int (nI k) :: .ref a :: rest)) :=
  va_zald hexec hb hK hP q0 t0 ha ht (vp_in_nI hk hn) hdg (by rw [nI_clamp (Nat.lt_trans hk hn)]; exact kk)
theorem xa_ist (hexec : p.tables.exec = Jvm.exec) (hb : c.code = cc) (hK : va_K D cl tys s) (hP : va_P D cl ws H) (hD : va_D A ws) (hS : va_S A H0 H locs) (q0 t0 : Nat) {cA : ClassId} {n : Nat} {f : Nat → Int32} (ha : ws[q0]? = some (a, .inl (cA, n, .inl f))) (ht : tys[t0]? = some (cA, .int)) {k : Nat} {x : Int32} (hk : k < n) (hn : n < 2 ^ 31) (hdg : decode cc pc = .ok (.iastore, 1))
    (kk : ∀ (H1 : Heap) (locs1 : List Loc), va_P D cl (ws.set q0 (a, .inl (cA, n, .inl (upd f k x)))) H1 → va_D A (ws.set q0 (a, .inl (cA, n, .inl (upd f k x)))) → va_S A H0 H1 locs1 → W p l e R s m args below meth c H1 locs1 cells slots Q (F0 m (pc + 1) ls rest)) : W p l e R s m args below meth c H locs cells slots Q (F0 m pc ls (.int x :: .int (nI k) :: .ref a :: rest)) :=
  va_iast hexec hb hK hP hD hS q0 t0 ha ht (vp_in_nI hk hn) hdg (by rw [nI_clamp (Nat.lt_trans hk hn)]; exact kk)
theorem xa_zst (hexec : p.tables.exec = Jvm.exec) (hb : c.code = cc) (hK : va_K D cl tys s) (hP : va_P D cl ws H) (hD : va_D A ws) (hS : va_S A H0 H locs) (q0 t0 : Nat) {cA : ClassId} {n : Nat} {f : Nat → Int32} (ha : ws[q0]? = some (a, .inl (cA, n, .inl f))) (ht : tys[t0]? = some (cA, .boolean)) {k : Nat} {x : Int32} (hx : vp_nar .boolean x = x) (hk : k < n) (hn : n < 2 ^ 31) (hdg : decode cc pc = .ok (.bastore, 1))
    (kk : ∀ (H1 : Heap) (locs1 : List Loc), va_P D cl (ws.set q0 (a, .inl (cA, n, .inl (upd f k x)))) H1 → va_D A (ws.set q0 (a, .inl (cA, n, .inl (upd f k x)))) → va_S A H0 H1 locs1 → W p l e R s m args below meth c H1 locs1 cells slots Q (F0 m (pc + 1) ls rest)) : W p l e R s m args below meth c H locs cells slots Q (F0 m pc ls (.int x :: .int (nI k) :: .ref a :: rest)) :=
  va_zast hexec hb hK hP hD hS q0 t0 ha ht (vp_in_nI hk hn) hdg (by rw [nI_clamp (Nat.lt_trans hk hn), hx]; exact kk)
end XR
/-- a number that a boolean may be -/
def zB (x : Int32) : Prop := narrow .boolean (.int x) = .int x
theorem zB_0 : zB 0 := rfl
theorem zB_1 : zB 1 := rfl
theorem zB_nar {x : Int32} (h : zB x) : vp_nar .boolean x = x := by
  have h2 : narrow .boolean (.int x) = .int x := h
  unfold vp_nar
  rw [h2]
end
section
/-- what the class's state keeps: bounds, and booleans that are 0 or 1 -/
def okX (z : Nat → Nat) (v : Nat → Int32) (f : Nat → Nat → Int32) : Prop := z 0 ≤ 12 ∧ z 1 ≤ 60 ∧ z 2 ≤ 60 ∧ z 3 ≤ 60 ∧ z 4 ≤ 6 ∧ (∀ k, zB (f 12 k)) ∧ (∀ k, zB (f 16 k))
/-- what the reference's state keeps -/
def okM (z : Nat → Nat) (v : Nat → Int32) (f : Nat → Nat → Int32) : Prop := z 0 ≤ 12 ∧ z 1 ≤ 60 ∧ z 2 ≤ 60 ∧ z 3 ≤ 60 ∧ z 4 ≤ 6 ∧ (∀ k, zB (f 11 k)) ∧ (∀ k, zB (f 15 k)) ∧ (∀ k, k < z 0 → f 2 k < 0 ∨ vp_in (f 2 k) 12) ∧ (∀ k, k < z 2 → vp_in (f 9 k) 12)
def F_X4_isAct (a : Int32) : Int32 :=
  if a < 0 then
    0
  else
    if 8 ≤ a then
      0
    else
      1
set_option maxHeartbeats 4000000 in
set_option maxRecDepth 100000 in
theorem c_X4_isAct (l : Launch) (a : Int32) : Met l yX4_isAct wsX4_isAct ({ frames := 0, cells := 0, slots := 0, locals := 0 }) (va_Pc [.int a] (fun _ => True)) (vp_Si (fun r => r = F_X4_isAct a)) 0 0 (fun _ => False) := by
  refine Met.ofW (cc := cX4_isAct) (maxL := 1) (ret := (some .boolean)) (by decide) rfl ?_
  intro p e s m args below meth c s₁ B hml hv
  obtain ⟨rfl, -⟩ := hv
  have hx := B.exec
  have hb := B.bytes
  have hr := B.returns
  have hts := atoms_spec (ws := wsX4_isAct) B.pre
  have hown : s.vm.findClass RX4 = some m.cls := findClass_of_methodNamed B.named
  have hlocks := B.notSynchronized
  have hl := lv_entry ([.int a]) (n := 1) (Nat.le_of_ble_eq_true rfl)
  rw [lg_entry_eq]
  generalize (lg_sl ([.int a]) ++ List.replicate (1 - (lg_sl ([.int a])).length) Slot.unset).toArray = ls at hl ⊢
  have hl : lv_has ls 1 [(0, .int a)] := hl
  generalize hF : F_X4_isAct a = R9
  generalize hQ9 : MQ below (vp_Si (fun r => r = R9)) _ s 0 0 (fun _ => False) = Q9
  rw [F_X4_isAct] at hF
  refine lv_iload_n hx hb dX4_isAct_0 rfl (lv_at hl 0 rfl) ?_
  refine lv_if_lt (tgt := 14) hx hb dX4_isAct_1 (by decide) (fun c1 => ?_) (fun c1 => ?_)
  · rw [if_pos c1] at hF
    refine lv_iconst (v := 0) hx hb dX4_isAct_14 (by decide) ?_
    subst hQ9
    exact W.zret (ty := .boolean) hx hb hr rfl (fun t ht hW => ⟨_, rfl, hF, ht⟩) (fun q h => by cases h) dX4_isAct_15
  · rw [if_neg c1] at hF
    refine lv_iload_n hx hb dX4_isAct_4 rfl (lv_at hl 0 rfl) ?_
    refine lv_bipush (v := 8) hx hb dX4_isAct_5 (by decide) ?_
    refine lv_icmp_ge (tgt := 14) hx hb dX4_isAct_7 (by decide) (fun c2 => ?_) (fun c2 => ?_)
    · rw [if_pos c2] at hF
      refine lv_iconst (v := 0) hx hb dX4_isAct_14 (by decide) ?_
      subst hQ9
      exact W.zret (ty := .boolean) hx hb hr rfl (fun t ht hW => ⟨_, rfl, hF, ht⟩) (fun q h => by cases h) dX4_isAct_15
    · rw [if_neg c2] at hF
      refine lv_iconst (v := 1) hx hb dX4_isAct_10 (by decide) ?_
      refine lv_goto (tgt := 15) hx hb dX4_isAct_11 (by decide) ?_
      subst hQ9
      exact W.zret (ty := .boolean) hx hb hr rfl (fun t ht hW => ⟨_, rfl, hF, ht⟩) (fun q h => by cases h) dX4_isAct_15
def F_X4_isPlace (a : Int32) : Int32 :=
  if a < 0 then
    0
  else
    if 8 ≤ a then
      0
    else
      1
set_option maxHeartbeats 4000000 in
set_option maxRecDepth 100000 in
theorem c_X4_isPlace (l : Launch) (a : Int32) : Met l yX4_isPlace wsX4_isPlace ({ frames := 0, cells := 0, slots := 0, locals := 0 }) (va_Pc [.int a] (fun _ => True)) (vp_Si (fun r => r = F_X4_isPlace a)) 0 0 (fun _ => False) := by
  refine Met.ofW (cc := cX4_isPlace) (maxL := 1) (ret := (some .boolean)) (by decide) rfl ?_
  intro p e s m args below meth c s₁ B hml hv
  obtain ⟨rfl, -⟩ := hv
  have hx := B.exec
  have hb := B.bytes
  have hr := B.returns
  have hts := atoms_spec (ws := wsX4_isPlace) B.pre
  have hown : s.vm.findClass RX4 = some m.cls := findClass_of_methodNamed B.named
  have hlocks := B.notSynchronized
  have hl := lv_entry ([.int a]) (n := 1) (Nat.le_of_ble_eq_true rfl)
  rw [lg_entry_eq]
  generalize (lg_sl ([.int a]) ++ List.replicate (1 - (lg_sl ([.int a])).length) Slot.unset).toArray = ls at hl ⊢
  have hl : lv_has ls 1 [(0, .int a)] := hl
  generalize hF : F_X4_isPlace a = R9
  generalize hQ9 : MQ below (vp_Si (fun r => r = R9)) _ s 0 0 (fun _ => False) = Q9
  rw [F_X4_isPlace] at hF
  refine lv_iload_n hx hb dX4_isPlace_0 rfl (lv_at hl 0 rfl) ?_
  refine lv_if_lt (tgt := 14) hx hb dX4_isPlace_1 (by decide) (fun c1 => ?_) (fun c1 => ?_)
  · rw [if_pos c1] at hF
    refine lv_iconst (v := 0) hx hb dX4_isPlace_14 (by decide) ?_
    subst hQ9
    exact W.zret (ty := .boolean) hx hb hr rfl (fun t ht hW => ⟨_, rfl, hF, ht⟩) (fun q h => by cases h) dX4_isPlace_15
  · rw [if_neg c1] at hF
    refine lv_iload_n hx hb dX4_isPlace_4 rfl (lv_at hl 0 rfl) ?_
    refine lv_bipush (v := 8) hx hb dX4_isPlace_5 (by decide) ?_
    refine lv_icmp_ge (tgt := 14) hx hb dX4_isPlace_7 (by decide) (fun c2 => ?_) (fun c2 => ?_)
    · rw [if_pos c2] at hF
      refine lv_iconst (v := 0) hx hb dX4_isPlace_14 (by decide) ?_
      subst hQ9
      exact W.zret (ty := .boolean) hx hb hr rfl (fun t ht hW => ⟨_, rfl, hF, ht⟩) (fun q h => by cases h) dX4_isPlace_15
    · rw [if_neg c2] at hF
      refine lv_iconst (v := 1) hx hb dX4_isPlace_10 (by decide) ?_
      refine lv_goto (tgt := 15) hx hb dX4_isPlace_11 (by decide) ?_
      subst hQ9
      exact W.zret (ty := .boolean) hx hb hr rfl (fun t ht hW => ⟨_, rfl, hF, ht⟩) (fun q h => by cases h) dX4_isPlace_15
def F_X4_isDay (a : Int32) : Int32 :=
  if a < 0 then
    0
  else
    if 100000 < a then
      0
    else
      1
set_option maxHeartbeats 4000000 in
set_option maxRecDepth 100000 in
theorem c_X4_isDay (l : Launch) (a : Int32) : Met l yX4_isDay wsX4_isDay ({ frames := 0, cells := 0, slots := 0, locals := 0 }) (va_Pc [.int a] (fun _ => True)) (vp_Si (fun r => r = F_X4_isDay a)) 0 0 (fun _ => False) := by
  refine Met.ofW (cc := cX4_isDay) (maxL := 1) (ret := (some .boolean)) (by decide) rfl ?_
  intro p e s m args below meth c s₁ B hml hv
  obtain ⟨rfl, -⟩ := hv
  have hx := B.exec
  have hb := B.bytes
  have hr := B.returns
  have hts := atoms_spec (ws := wsX4_isDay) B.pre
  have hown : s.vm.findClass RX4 = some m.cls := findClass_of_methodNamed B.named
  have hlocks := B.notSynchronized
  have hcn200 := hts (.constant RX4 200 (100000)) (List.mem_of_getElem? (i := 1) rfl)
  have hl := lv_entry ([.int a]) (n := 1) (Nat.le_of_ble_eq_true rfl)
  rw [lg_entry_eq]
  generalize (lg_sl ([.int a]) ++ List.replicate (1 - (lg_sl ([.int a])).length) Slot.unset).toArray = ls at hl ⊢
  have hl : lv_has ls 1 [(0, .int a)] := hl
  generalize hF : F_X4_isDay a = R9
  generalize hQ9 : MQ below (vp_Si (fun r => r = R9)) _ s 0 0 (fun _ => False) = Q9
  rw [F_X4_isDay] at hF
  refine lv_iload_n hx hb dX4_isDay_0 rfl (lv_at hl 0 rfl) ?_
  refine lv_if_lt (tgt := 14) hx hb dX4_isDay_1 (by decide) (fun c1 => ?_) (fun c1 => ?_)
  · rw [if_pos c1] at hF
    refine lv_iconst (v := 0) hx hb dX4_isDay_14 (by decide) ?_
    subst hQ9
    exact W.zret (ty := .boolean) hx hb hr rfl (fun t ht hW => ⟨_, rfl, hF, ht⟩) (fun q h => by cases h) dX4_isDay_15
  · rw [if_neg c1] at hF
    refine lv_iload_n hx hb dX4_isDay_4 rfl (lv_at hl 0 rfl) ?_
    refine lv_ldc (v := 100000) hx hb hown hcn200 dX4_isDay_5 ?_
    refine lv_icmp_gt (tgt := 14) hx hb dX4_isDay_7 (by decide) (fun c2 => ?_) (fun c2 => ?_)
    · rw [if_pos c2] at hF
      refine lv_iconst (v := 0) hx hb dX4_isDay_14 (by decide) ?_
      subst hQ9
      exact W.zret (ty := .boolean) hx hb hr rfl (fun t ht hW => ⟨_, rfl, hF, ht⟩) (fun q h => by cases h) dX4_isDay_15
    · rw [if_neg c2] at hF
      refine lv_iconst (v := 1) hx hb dX4_isDay_10 (by decide) ?_
      refine lv_goto (tgt := 15) hx hb dX4_isDay_11 (by decide) ?_
      subst hQ9
      exact W.zret (ty := .boolean) hx hb hr rfl (fun t ht hW => ⟨_, rfl, hF, ht⟩) (fun q h => by cases h) dX4_isDay_15
def F_X4_bit (a : Int32) : Int32 :=
  1 <<< (a &&& 31)
set_option maxHeartbeats 4000000 in
set_option maxRecDepth 100000 in
theorem c_X4_bit (l : Launch) (a : Int32) : Met l yX4_bit wsX4_bit ({ frames := 0, cells := 0, slots := 0, locals := 0 }) (va_Pc [.int a] (fun _ => True)) (vp_Si (fun r => r = F_X4_bit a)) 0 0 (fun _ => False) := by
  refine Met.ofW (cc := cX4_bit) (maxL := 1) (ret := (some .int)) (by decide) rfl ?_
  intro p e s m args below meth c s₁ B hml hv
  obtain ⟨rfl, -⟩ := hv
  have hx := B.exec
  have hb := B.bytes
  have hr := B.returns
  have hts := atoms_spec (ws := wsX4_bit) B.pre
  have hown : s.vm.findClass RX4 = some m.cls := findClass_of_methodNamed B.named
  have hlocks := B.notSynchronized
  have hl := lv_entry ([.int a]) (n := 1) (Nat.le_of_ble_eq_true rfl)
  rw [lg_entry_eq]
  generalize (lg_sl ([.int a]) ++ List.replicate (1 - (lg_sl ([.int a])).length) Slot.unset).toArray = ls at hl ⊢
  have hl : lv_has ls 1 [(0, .int a)] := hl
  generalize hF : F_X4_bit a = R9
  generalize hQ9 : MQ below (vp_Si (fun r => r = R9)) _ s 0 0 (fun _ => False) = Q9
  rw [F_X4_bit] at hF
  refine lv_iconst (v := 1) hx hb dX4_bit_0 (by decide) ?_
  refine lv_iload_n hx hb dX4_bit_1 rfl (lv_at hl 0 rfl) ?_
  refine lv_ishl hx hb dX4_bit_2 ?_
  subst hQ9
  exact W.iret hx hb hr (fun t ht hW => ⟨_, rfl, hF, ht⟩) (fun q h => by cases h) dX4_bit_3
def F_X4_holds (a b : Int32) : Int32 :=
  if ((a >>> (b &&& 31)) &&& 1) = 0 then
    0
  else
    1
set_option maxHeartbeats 4000000 in
set_option maxRecDepth 100000 in
theorem c_X4_holds (l : Launch) (a b : Int32) : Met l yX4_holds wsX4_holds ({ frames := 0, cells := 0, slots := 0, locals := 0 }) (va_Pc [.int a, .int b] (fun _ => True)) (vp_Si (fun r => r = F_X4_holds a b)) 0 0 (fun _ => False) := by
  refine Met.ofW (cc := cX4_holds) (maxL := 2) (ret := (some .boolean)) (by decide) rfl ?_
  intro p e s m args below meth c s₁ B hml hv
  obtain ⟨rfl, -⟩ := hv
  have hx := B.exec
  have hb := B.bytes
  have hr := B.returns
  have hts := atoms_spec (ws := wsX4_holds) B.pre
  have hown : s.vm.findClass RX4 = some m.cls := findClass_of_methodNamed B.named
  have hlocks := B.notSynchronized
  have hl := lv_entry ([.int a, .int b]) (n := 2) (Nat.le_of_ble_eq_true rfl)
  rw [lg_entry_eq]
  generalize (lg_sl ([.int a, .int b]) ++ List.replicate (2 - (lg_sl ([.int a, .int b])).length) Slot.unset).toArray = ls at hl ⊢
  have hl : lv_has ls 2 [(0, .int a), (1, .int b)] := hl
  generalize hF : F_X4_holds a b = R9
  generalize hQ9 : MQ below (vp_Si (fun r => r = R9)) _ s 0 0 (fun _ => False) = Q9
  rw [F_X4_holds] at hF
  refine lv_iload_n hx hb dX4_holds_0 rfl (lv_at hl 0 rfl) ?_
  refine lv_iload_n hx hb dX4_holds_1 rfl (lv_at hl 1 rfl) ?_
  refine lv_ishr hx hb dX4_holds_2 ?_
  refine lv_iconst (v := 1) hx hb dX4_holds_3 (by decide) ?_
  refine lv_iand hx hb dX4_holds_4 ?_
  refine lv_if_eq (tgt := 12) hx hb dX4_holds_5 (by decide) (fun c1 => ?_) (fun c1 => ?_)
  · rw [if_pos c1] at hF
    refine lv_iconst (v := 0) hx hb dX4_holds_12 (by decide) ?_
    subst hQ9
    exact W.zret (ty := .boolean) hx hb hr rfl (fun t ht hW => ⟨_, rfl, hF, ht⟩) (fun q h => by cases h) dX4_holds_13
  · rw [if_neg c1] at hF
    refine lv_iconst (v := 1) hx hb dX4_holds_8 (by decide) ?_
    refine lv_goto (tgt := 13) hx hb dX4_holds_9 (by decide) ?_
    subst hQ9
    exact W.zret (ty := .boolean) hx hb hr rfl (fun t ht hW => ⟨_, rfl, hF, ht⟩) (fun q h => by cases h) dX4_holds_13
def F_X4_isTrader (z : Nat → Nat) (v : Nat → Int32) (f : Nat → Nat → Int32) (t : Int32) : Int32 :=
  if t < 0 then
    0
  else
    if nI (z 0) ≤ t then
      0
    else
      1
set_option maxHeartbeats 4000000 in
set_option maxRecDepth 100000 in
theorem c_X4_isTrader (l : Launch) (dC : Nat → ClassId) (dI : Nat → Nat → Nat) (ad : Nat → Nat) (cI cZ : ClassId) (z : Nat → Nat) (v : Nat → Int32) (f : Nat → Nat → Int32) (t : Int32) (hok : okX z v f) : Met l yX4_isTrader wsX4_isTrader ({ frames := 0, cells := 0, slots := 0, locals := 0 }) (va_Pc [.ref (ad 0), .int t] (kX dC dI ad cI cZ z v f)) (vp_Si (fun r => r = F_X4_isTrader z v f t)) 0 0 (fun _ => False) := by
  refine Met.ofW (cc := cX4_isTrader) (maxL := 2) (ret := (some .boolean)) (by decide) rfl ?_
  intro p e s m args below meth c s₁ B hml hv
  obtain ⟨rfl, hP, hK, hN⟩ := hv
  have hx := B.exec
  have hb := B.bytes
  have hr := B.returns
  have hts := atoms_spec (ws := wsX4_isTrader) B.pre
  have hown : s.vm.findClass RX4 = some m.cls := findClass_of_methodNamed B.named
  have hlocks := B.notSynchronized
  have hok9 := hok
  obtain ⟨hz0, hz1, hz2, hz3, hz4, hbz, hbs⟩ := hok9
  have hfl7 := hts (.fieldLink RX4 7 "TraderRights" "traders" "I") (List.mem_of_getElem? (i := 1) rfl)
  have hinX4 : ∀ w ∈ u_ws RX4 TX4 11, w ∈ wsX4_isTrader := fun w h => List.mem_cons_of_mem _ (List.mem_append_right _ h)
  have hl := lv_entry ([.ref (ad 0), .int t]) (n := 2) (Nat.le_of_ble_eq_true rfl)
  rw [lg_entry_eq]
  generalize (lg_sl ([.ref (ad 0), .int t]) ++ List.replicate (2 - (lg_sl ([.ref (ad 0), .int t])).length) Slot.unset).toArray = ls at hl ⊢
  have hl : lv_has ls 2 [(0, .ref (ad 0)), (1, .int t)] := hl
  generalize hF : F_X4_isTrader z v f t = R9
  generalize hQ9 : MQ below (vp_Si (fun r => r = R9)) _ s 0 0 (fun _ => False) = Q9
  rw [F_X4_isTrader] at hF
  refine lv_iload_n hx hb dX4_isTrader_0 rfl (lv_at hl 1 rfl) ?_
  refine lv_if_lt (tgt := 16) hx hb dX4_isTrader_1 (by decide) (fun c1 => ?_) (fun c1 => ?_)
  · rw [if_pos c1] at hF
    refine lv_iconst (v := 0) hx hb dX4_isTrader_16 (by decide) ?_
    subst hQ9
    exact W.zret (ty := .boolean) hx hb hr rfl (fun t ht hW => ⟨_, rfl, hF, ht⟩) (fun q h => by cases h) dX4_isTrader_17
  · rw [if_neg c1] at hF
    refine lv_iload_n hx hb dX4_isTrader_4 rfl (lv_at hl 1 rfl) ?_
    refine lv_aload_n hx hb dX4_isTrader_5 rfl (lv_at hl 0 rfl) ?_
    refine va_get (D := (dC, dI)) (ci := 4) (v := .int (nI (z 0))) (C := RX4) (T := TX4) (N := 11) hx hb hts hinX4 hown hK hP 0 rfl rfl 0 (by decide) hfl7 (fun _ h9 => h9) rfl dX4_isTrader_6 ?_
    refine lv_icmp_ge (tgt := 16) hx hb dX4_isTrader_9 (by decide) (fun c2 => ?_) (fun c2 => ?_)
    · rw [if_pos c2] at hF
      refine lv_iconst (v := 0) hx hb dX4_isTrader_16 (by decide) ?_
      subst hQ9
      exact W.zret (ty := .boolean) hx hb hr rfl (fun t ht hW => ⟨_, rfl, hF, ht⟩) (fun q h => by cases h) dX4_isTrader_17
    · rw [if_neg c2] at hF
      refine lv_iconst (v := 1) hx hb dX4_isTrader_12 (by decide) ?_
      refine lv_goto (tgt := 17) hx hb dX4_isTrader_13 (by decide) ?_
      subst hQ9
      exact W.zret (ty := .boolean) hx hb hr rfl (fun t ht hW => ⟨_, rfl, hF, ht⟩) (fun q h => by cases h) dX4_isTrader_17
theorem zB_holds (a b : Int32) : zB (F_X4_holds a b) := by
  rw [F_X4_holds]; split <;> first | exact zB_0 | exact zB_1
theorem in_of {t : Int32} {n N : Nat} (h0 : ¬ t < 0) (h1 : ¬ nI n ≤ t) (hn : n ≤ N) (hN : N < 2 ^ 31) : vp_in t N := by
  rw [vp_in_iff]
  rw [Int32.lt_iff_toInt_lt] at h0
  rw [Int32.le_iff_toInt_le, nI_toInt (by omega)] at h1
  have e0 : (0 : Int32).toInt = 0 := rfl
  omega
theorem in_isTX {z : Nat → Nat} {v : Nat → Int32} {f : Nat → Nat → Int32} {t : Int32} (hok : okX z v f) (h : ¬ F_X4_isTrader z v f t = 0) : vp_in t 12 := by
  rw [F_X4_isTrader] at h
  split at h
  · exact absurd rfl h
  · split at h
    · exact absurd rfl h
    · exact in_of (by assumption) (by assumption) hok.1 (by decide)
def F_X3_isOn_L8 (z : Nat → Nat) (v : Nat → Int32) (f : Nat → Nat → Int32) (who day : Int32)  : Nat → Int32 → Int32 → Nat → Int32
  | 0, on, gr, k => on
  | n8 + 1, on, gr, k =>
    if z 3 ≤ k then
      on
    else
      if f 14 k = who then
        if day < f 15 k then
          F_X3_isOn_L8 z v f who day n8 on gr (k + 1)
        else
          if f 15 k < gr then
            F_X3_isOn_L8 z v f who day n8 on gr (k + 1)
          else
            F_X3_isOn_L8 z v f who day n8 (f 16 k) (f 15 k) (k + 1)
      else
        F_X3_isOn_L8 z v f who day n8 on gr (k + 1)
def F_X3_isOn (z : Nat → Nat) (v : Nat → Int32) (f : Nat → Nat → Int32) (who day : Int32) : Int32 :=
  (F_X3_isOn_L8 z v f who day (z 3 + 1) 0 (-1) 0)
theorem zB_X3_isOn {z : Nat → Nat} {v : Nat → Int32} {f : Nat → Nat → Int32} (hok : okX z v f) (who day : Int32) : ∀ (n : Nat) (on gr : Int32) (k : Nat), zB on → zB (F_X3_isOn_L8 z v f who day n on gr k) := by
  obtain ⟨-, -, -, -, -, -, hbs⟩ := hok
  intro n
  induction n with
  | zero => intro on gr k h; exact h
  | succ n ih =>
    intro on gr k h
    rw [F_X3_isOn_L8]
    repeat' split
    all_goals first | assumption | exact ih _ _ _ h | exact ih _ _ _ (hbs _)
set_option maxHeartbeats 4000000 in
set_option maxRecDepth 100000 in
theorem c_X3_isOn (l : Launch) (dC : Nat → ClassId) (dI : Nat → Nat → Nat) (ad : Nat → Nat) (cI cZ : ClassId) (z : Nat → Nat) (v : Nat → Int32) (f : Nat → Nat → Int32) (who day : Int32) (hok : okX z v f) : Met l yX3_isOn wsX3_isOn ({ frames := 0, cells := 0, slots := 0, locals := 0 }) (va_Pc [.ref (ad 17), .int who, .int day] (kX dC dI ad cI cZ z v f)) (vp_Si (fun r => r = F_X3_isOn z v f who day)) 0 0 (fun _ => False) := by
  refine Met.ofW (cc := cX3_isOn) (maxL := 6) (ret := (some .boolean)) (by decide) rfl ?_
  intro p e s m args below meth c s₁ B hml hv
  obtain ⟨rfl, hP, hK, hN⟩ := hv
  have hx := B.exec
  have hb := B.bytes
  have hr := B.returns
  have hts := atoms_spec (ws := wsX3_isOn) B.pre
  have hown : s.vm.findClass RX3 = some m.cls := findClass_of_methodNamed B.named
  have hlocks := B.notSynchronized
  have hok9 := hok
  obtain ⟨hz0, hz1, hz2, hz3, hz4, hbz, hbs⟩ := hok9
  have hfl15 := hts (.fieldLink RX3 15 "TraderRights$Suspensions" "trader" "[I") (List.mem_of_getElem? (i := 2) rfl)
  have hfl19 := hts (.fieldLink RX3 19 "TraderRights$Suspensions" "from" "[I") (List.mem_of_getElem? (i := 3) rfl)
  have hfl22 := hts (.fieldLink RX3 22 "TraderRights$Suspensions" "isSuspending" "[Z") (List.mem_of_getElem? (i := 4) rfl)
  have hfl9 := hts (.fieldLink RX3 9 "TraderRights$Suspensions" "size" "I") (List.mem_of_getElem? (i := 1) rfl)
  have hinX3 : ∀ w ∈ u_ws RX3 TX3 4, w ∈ wsX3_isOn := fun w h => List.mem_cons_of_mem _ (List.mem_append_right _ h)
  have hl := lv_entry ([.ref (ad 17), .int who, .int day]) (n := 6) (Nat.le_of_ble_eq_true rfl)
  rw [lg_entry_eq]
  generalize (lg_sl ([.ref (ad 17), .int who, .int day]) ++ List.replicate (6 - (lg_sl ([.ref (ad 17), .int who, .int day])).length) Slot.unset).toArray = ls at hl ⊢
  have hl : lv_has ls 6 [(0, .ref (ad 17)), (1, .int who), (2, .int day)] := hl
  generalize hF : F_X3_isOn z v f who day = R9
  generalize hQ9 : MQ below (vp_Si (fun r => r = R9)) _ s 0 0 (fun _ => False) = Q9
  rw [F_X3_isOn] at hF
  refine lv_iconst (v := 0) hx hb dX3_isOn_0 (by decide) ?_
  refine lv_istore_n (lv' := [(3, .int 0), (0, .ref (ad 17)), (1, .int who), (2, .int day)]) hx hb dX3_isOn_1 rfl hl (by decide) rfl (fun ls hl => ?_)
  refine lv_iconst (v := (-1)) hx hb dX3_isOn_2 (by decide) ?_
  refine lv_istore (lv' := [(4, .int (-1)), (3, .int 0), (0, .ref (ad 17)), (1, .int who), (2, .int day)]) hx hb dX3_isOn_3 hl (by decide) rfl (fun ls hl => ?_)
  refine lv_iconst (v := 0) hx hb dX3_isOn_5 (by decide) ?_
  refine lv_istore (lv' := [(5, .int 0), (4, .int (-1)), (3, .int 0), (0, .ref (ad 17)), (1, .int who), (2, .int day)]) hx hb dX3_isOn_6 hl (by decide) rfl (fun ls hl => ?_)
  have lp8 : ∀ (n8 : Nat) (on : Int32) (gr : Int32) (k : Nat) (ls : Array Slot), k ≤ z 3 → z 3 < k + n8 → lv_has ls 6 [(0, .ref (ad 17)), (1, .int who), (2, .int day), (3, .int on), (4, .int gr), (5, .int (nI k))] → (∀ ls : Array Slot, lv_has ls 6 [(0, .ref (ad 17)), (1, .int who), (2, .int day), (3, .int (F_X3_isOn_L8 z v f who day n8 on gr k))] → W p l e (headSpec wsX3_isOn ({ frames := 0, cells := 0, slots := 0, locals := 0 })).room s m ([.ref (ad 17), .int who, .int day] : List Value).toArray below meth c s.heap [] 0 0 Q9 (F0 m 74 ls [])) → W p l e (headSpec wsX3_isOn ({ frames := 0, cells := 0, slots := 0, locals := 0 })).room s m ([.ref (ad 17), .int who, .int day] : List Value).toArray below meth c s.heap [] 0 0 Q9 (F0 m 8 ls []) := by
    intro n8
    induction n8 with
    | zero =>
      intro on gr k ls hk8 hn8
      exact absurd hn8 (by omega)
    | succ n8 ih8 =>
      intro on gr k ls hk8 hn8 hl hq8
      generalize hF8 : F_X3_isOn_L8 z v f who day (n8 + 1) on gr k = R8 at hq8
      rw [F_X3_isOn_L8] at hF8
      refine lv_iload hx hb dX3_isOn_8 (lv_at hl 5 rfl) ?_
      refine lv_aload_n hx hb dX3_isOn_10 rfl (lv_at hl 0 rfl) ?_
      refine va_get (D := (dC, dI)) (ci := 3) (v := .int (nI (z 3))) (C := RX3) (T := TX3) (N := 4) hx hb hts hinX3 hown hK hP 17 rfl rfl 0 (by decide) hfl9 (fun _ h9 => h9) rfl dX3_isOn_11 ?_
      refine lv_icmp_ge (tgt := 74) hx hb dX3_isOn_14 (by decide) (fun c1 => ?_) (fun c1 => ?_)
      · have c1 : z 3 ≤ k := (nI_leI (a := z 3) (b := k) (by omega) (by omega)).mp c1
        rw [if_pos c1] at hF8
        subst hF8
        exact hq8 ls (lv_sub hl [0, 1, 2, 3] rfl)
      · have c1 : ¬ z 3 ≤ k := fun h9 => c1 ((nI_leI (a := z 3) (b := k) (by omega) (by omega)).mpr h9)
        rw [if_neg c1] at hF8
        refine lv_aload_n hx hb dX3_isOn_17 rfl (lv_at hl 0 rfl) ?_
        refine va_get (D := (dC, dI)) (ci := 3) (v := .ref (ad 18)) (C := RX3) (T := TX3) (N := 4) hx hb hts hinX3 hown hK hP 17 rfl rfl 1 (by decide) hfl15 (fun _ h9 => h9) rfl dX3_isOn_18 ?_
        refine lv_iload hx hb dX3_isOn_21 (lv_at hl 5 rfl) ?_
        refine xa_ild hx hb hK hP 18 0 rfl rfl (by omega) (by decide) dX3_isOn_23 ?_
        refine lv_iload_n hx hb dX3_isOn_24 rfl (lv_at hl 1 rfl) ?_
        refine lv_icmp_ne (tgt := 68) hx hb dX3_isOn_25 (by decide) (fun c2 => ?_) (fun c2 => ?_)
        · rw [if_neg c2] at hF8
          refine lv_iinc (v := nI (k + 1)) (lv' := [(5, .int (nI (k + 1))), (0, .ref (ad 17)), (1, .int who), (2, .int day), (3, .int on), (4, .int gr)]) hx hb dX3_isOn_68 hl (k := 5) rfl (xi_inc _) (by decide) rfl (fun ls hl => ?_)
          refine lv_goto (tgt := 8) hx hb dX3_isOn_71 (by decide) ?_
          exact ih8 on gr (k + 1) ls (by omega) (by omega) (lv_sub hl [1, 2, 3, 4, 5, 0] rfl) (by rw [hF8]; exact hq8)
        · rw [if_pos c2] at hF8
          refine lv_aload_n hx hb dX3_isOn_28 rfl (lv_at hl 0 rfl) ?_
          refine va_get (D := (dC, dI)) (ci := 3) (v := .ref (ad 19)) (C := RX3) (T := TX3) (N := 4) hx hb hts hinX3 hown hK hP 17 rfl rfl 2 (by decide) hfl19 (fun _ h9 => h9) rfl dX3_isOn_29 ?_
          refine lv_iload hx hb dX3_isOn_32 (lv_at hl 5 rfl) ?_
          refine xa_ild hx hb hK hP 19 0 rfl rfl (by omega) (by decide) dX3_isOn_34 ?_
          refine lv_iload_n hx hb dX3_isOn_35 rfl (lv_at hl 2 rfl) ?_
          refine lv_icmp_gt (tgt := 68) hx hb dX3_isOn_36 (by decide) (fun c3 => ?_) (fun c3 => ?_)
          · rw [if_pos c3] at hF8
            refine lv_iinc (v := nI (k + 1)) (lv' := [(5, .int (nI (k + 1))), (0, .ref (ad 17)), (1, .int who), (2, .int day), (3, .int on), (4, .int gr)]) hx hb dX3_isOn_68 hl (k := 5) rfl (xi_inc _) (by decide) rfl (fun ls hl => ?_)
            refine lv_goto (tgt := 8) hx hb dX3_isOn_71 (by decide) ?_
            exact ih8 on gr (k + 1) ls (by omega) (by omega) (lv_sub hl [1, 2, 3, 4, 5, 0] rfl) (by rw [hF8]; exact hq8)
          · rw [if_neg c3] at hF8
            refine lv_aload_n hx hb dX3_isOn_39 rfl (lv_at hl 0 rfl) ?_
            refine va_get (D := (dC, dI)) (ci := 3) (v := .ref (ad 19)) (C := RX3) (T := TX3) (N := 4) hx hb hts hinX3 hown hK hP 17 rfl rfl 2 (by decide) hfl19 (fun _ h9 => h9) rfl dX3_isOn_40 ?_
            refine lv_iload hx hb dX3_isOn_43 (lv_at hl 5 rfl) ?_
            refine xa_ild hx hb hK hP 19 0 rfl rfl (by omega) (by decide) dX3_isOn_45 ?_
            refine lv_iload hx hb dX3_isOn_46 (lv_at hl 4 rfl) ?_
            refine lv_icmp_lt (tgt := 68) hx hb dX3_isOn_48 (by decide) (fun c4 => ?_) (fun c4 => ?_)
            · rw [if_pos c4] at hF8
              refine lv_iinc (v := nI (k + 1)) (lv' := [(5, .int (nI (k + 1))), (0, .ref (ad 17)), (1, .int who), (2, .int day), (3, .int on), (4, .int gr)]) hx hb dX3_isOn_68 hl (k := 5) rfl (xi_inc _) (by decide) rfl (fun ls hl => ?_)
              refine lv_goto (tgt := 8) hx hb dX3_isOn_71 (by decide) ?_
              exact ih8 on gr (k + 1) ls (by omega) (by omega) (lv_sub hl [1, 2, 3, 4, 5, 0] rfl) (by rw [hF8]; exact hq8)
            · rw [if_neg c4] at hF8
              refine lv_aload_n hx hb dX3_isOn_51 rfl (lv_at hl 0 rfl) ?_
              refine va_get (D := (dC, dI)) (ci := 3) (v := .ref (ad 19)) (C := RX3) (T := TX3) (N := 4) hx hb hts hinX3 hown hK hP 17 rfl rfl 2 (by decide) hfl19 (fun _ h9 => h9) rfl dX3_isOn_52 ?_
              refine lv_iload hx hb dX3_isOn_55 (lv_at hl 5 rfl) ?_
              refine xa_ild hx hb hK hP 19 0 rfl rfl (by omega) (by decide) dX3_isOn_57 ?_
              refine lv_istore (lv' := [(4, .int (f 15 k)), (0, .ref (ad 17)), (1, .int who), (2, .int day), (3, .int on), (5, .int (nI k))]) hx hb dX3_isOn_58 hl (by decide) rfl (fun ls hl => ?_)
              refine lv_aload_n hx hb dX3_isOn_60 rfl (lv_at hl 1 rfl) ?_
              refine va_get (D := (dC, dI)) (ci := 3) (v := .ref (ad 20)) (C := RX3) (T := TX3) (N := 4) hx hb hts hinX3 hown hK hP 17 rfl rfl 3 (by decide) hfl22 (fun _ h9 => h9) rfl dX3_isOn_61 ?_
              refine lv_iload hx hb dX3_isOn_64 (lv_at hl 5 rfl) ?_
              refine xa_zld hx hb hK hP 20 1 rfl rfl (by omega) (by decide) dX3_isOn_66 ?_
              refine lv_istore_n (lv' := [(3, .int (f 16 k)), (4, .int (f 15 k)), (0, .ref (ad 17)), (1, .int who), (2, .int day), (5, .int (nI k))]) hx hb dX3_isOn_67 rfl hl (by decide) rfl (fun ls hl => ?_)
              refine lv_iinc (v := nI (k + 1)) (lv' := [(5, .int (nI (k + 1))), (3, .int (f 16 k)), (4, .int (f 15 k)), (0, .ref (ad 17)), (1, .int who), (2, .int day)]) hx hb dX3_isOn_68 hl (k := 5) rfl (xi_inc _) (by decide) rfl (fun ls hl => ?_)
              refine lv_goto (tgt := 8) hx hb dX3_isOn_71 (by decide) ?_
              exact ih8 (f 16 k) (f 15 k) (k + 1) ls (by omega) (by omega) (lv_sub hl [3, 4, 5, 1, 2, 0] rfl) (by rw [hF8]; exact hq8)
  refine lp8 (z 3 + 1) 0 (-1) 0 ls (by omega) (by omega) (lv_sub hl [3, 4, 5, 2, 1, 0] rfl) (fun ls hl => ?_)
  obtain ⟨r5, hr5⟩ : ∃ y, y = (F_X3_isOn_L8 z v f who day (z 3 + 1) 0 (-1) 0) := ⟨_, rfl⟩
  rw [← hr5] at hl
  try rw [← hr5] at hF
  refine lv_iload_n hx hb dX3_isOn_74 rfl (lv_at hl 3 rfl) ?_
  subst hQ9
  exact W.zret (ty := .boolean) hx hb hr (by rw [hr5]; exact (zB_X3_isOn hok _ _ _ _ _ _ zB_0)) (fun t ht hW => ⟨_, rfl, hF, ht⟩) (fun q h => by cases h) dX3_isOn_75
end
section
def F_X4_areTwoTraders (z : Nat → Nat) (v : Nat → Int32) (f : Nat → Nat → Int32) (t u : Int32) : Int32 :=
  if F_X4_isTrader z v f t = 0 then
    0
  else
    if F_X4_isTrader z v f u = 0 then
      0
    else
      if t = u then
        0
      else
        1
set_option maxHeartbeats 4000000 in
set_option maxRecDepth 100000 in
theorem c_X4_areTwoTraders (l : Launch) (dC : Nat → ClassId) (dI : Nat → Nat → Nat) (ad : Nat → Nat) (cI cZ : ClassId) (z : Nat → Nat) (v : Nat → Int32) (f : Nat → Nat → Int32) (t u : Int32) (hok : okX z v f) : Met l yX4_areTwoTraders wsX4_areTwoTraders ({ frames := 1, cells := 0, slots := 0, locals := 21 }) (va_Pc [.ref (ad 0), .int t, .int u] (kX dC dI ad cI cZ z v f)) (vp_Si (fun r => r = F_X4_areTwoTraders z v f t u)) 0 0 (fun _ => False) := by
  refine Met.ofW (cc := cX4_areTwoTraders) (maxL := 3) (ret := (some .boolean)) (by decide) rfl ?_
  intro p e s m args below meth c s₁ B hml hv
  obtain ⟨rfl, hP, hK, hN⟩ := hv
  have hx := B.exec
  have hb := B.bytes
  have hr := B.returns
  have hts := atoms_spec (ws := wsX4_areTwoTraders) B.pre
  have hown : s.vm.findClass RX4 = some m.cls := findClass_of_methodNamed B.named
  have hlocks := B.notSynchronized
  have hok9 := hok
  obtain ⟨hz0, hz1, hz2, hz3, hz4, hbz, hbs⟩ := hok9
  have hl := lv_entry ([.ref (ad 0), .int t, .int u]) (n := 3) (Nat.le_of_ble_eq_true rfl)
  rw [lg_entry_eq]
  generalize (lg_sl ([.ref (ad 0), .int t, .int u]) ++ List.replicate (3 - (lg_sl ([.ref (ad 0), .int t, .int u])).length) Slot.unset).toArray = ls at hl ⊢
  have hl : lv_has ls 3 [(0, .ref (ad 0)), (1, .int t), (2, .int u)] := hl
  generalize hF : F_X4_areTwoTraders z v f t u = R9
  generalize hQ9 : MQ below (vp_Si (fun r => r = R9)) _ s 0 0 (fun _ => False) = Q9
  rw [F_X4_areTwoTraders] at hF
  refine lv_aload_n hx hb dX4_areTwoTraders_0 rfl (lv_at hl 0 rfl) ?_
  refine lv_iload_n hx hb dX4_areTwoTraders_1 rfl (lv_at hl 1 rfl) ?_
  refine vp_callSi (W.runV (As := [.int t]) (rest := []) ⟨hx, hb, hml, hown, hts⟩ (c_X4_isTrader l dC dI ad cI cZ z v f t hok) (cwV 1 hts gX4_areTwoTraders_X4_isTrader rfl rfl rfl (by decide +kernel) ⟨Nat.le_of_ble_eq_true rfl, Nat.le_of_ble_eq_true rfl⟩) (preX (ci := 4) (q0 := 0) hP hK hN rfl rfl rfl) rfl rfl hl.1 rfl (lv_room (Nat.le_of_ble_eq_true rfl)) dX4_areTwoTraders_2 ⟨Nat.zero_le _, Nat.zero_le _⟩) (fun r1 h9 => ?_)
  have hr1 : r1 = F_X4_isTrader z v f t := h9
  try rw [← hr1] at hF
  refine lv_if_eq (tgt := 25) hx hb dX4_areTwoTraders_5 (by decide) (fun c2 => ?_) (fun c2 => ?_)
  · rw [if_pos c2] at hF
    have c2f : F_X4_isTrader z v f t = 0 := by rw [← hr1]; exact c2
    refine lv_iconst (v := 0) hx hb dX4_areTwoTraders_25 (by decide) ?_
    subst hQ9
    exact W.zret (ty := .boolean) hx hb hr rfl (fun t ht hW => ⟨_, rfl, hF, ht⟩) (fun q h => by cases h) dX4_areTwoTraders_26
  · rw [if_neg c2] at hF
    have c2f : ¬ F_X4_isTrader z v f t = 0 := by rw [← hr1]; exact c2
    refine lv_aload_n hx hb dX4_areTwoTraders_8 rfl (lv_at hl 0 rfl) ?_
    refine lv_iload_n hx hb dX4_areTwoTraders_9 rfl (lv_at hl 2 rfl) ?_
    refine vp_callSi (W.runV (As := [.int u]) (rest := []) ⟨hx, hb, hml, hown, hts⟩ (c_X4_isTrader l dC dI ad cI cZ z v f u hok) (cwV 1 hts gX4_areTwoTraders_X4_isTrader rfl rfl rfl (by decide +kernel) ⟨Nat.le_of_ble_eq_true rfl, Nat.le_of_ble_eq_true rfl⟩) (preX (ci := 4) (q0 := 0) hP hK hN rfl rfl rfl) rfl rfl hl.1 rfl (lv_room (Nat.le_of_ble_eq_true rfl)) dX4_areTwoTraders_10 ⟨Nat.zero_le _, Nat.zero_le _⟩) (fun r3 h9 => ?_)
    have hr3 : r3 = F_X4_isTrader z v f u := h9
    try rw [← hr3] at hF
    refine lv_if_eq (tgt := 25) hx hb dX4_areTwoTraders_13 (by decide) (fun c4 => ?_) (fun c4 => ?_)
    · rw [if_pos c4] at hF
      have c4f : F_X4_isTrader z v f u = 0 := by rw [← hr3]; exact c4
      refine lv_iconst (v := 0) hx hb dX4_areTwoTraders_25 (by decide) ?_
      subst hQ9
      exact W.zret (ty := .boolean) hx hb hr rfl (fun t ht hW => ⟨_, rfl, hF, ht⟩) (fun q h => by cases h) dX4_areTwoTraders_26
    · rw [if_neg c4] at hF
      have c4f : ¬ F_X4_isTrader z v f u = 0 := by rw [← hr3]; exact c4
      refine lv_iload_n hx hb dX4_areTwoTraders_16 rfl (lv_at hl 1 rfl) ?_
      refine lv_iload_n hx hb dX4_areTwoTraders_17 rfl (lv_at hl 2 rfl) ?_
      refine lv_icmp_eq (tgt := 25) hx hb dX4_areTwoTraders_18 (by decide) (fun c5 => ?_) (fun c5 => ?_)
      · rw [if_pos c5] at hF
        refine lv_iconst (v := 0) hx hb dX4_areTwoTraders_25 (by decide) ?_
        subst hQ9
        exact W.zret (ty := .boolean) hx hb hr rfl (fun t ht hW => ⟨_, rfl, hF, ht⟩) (fun q h => by cases h) dX4_areTwoTraders_26
      · rw [if_neg c5] at hF
        refine lv_iconst (v := 1) hx hb dX4_areTwoTraders_21 (by decide) ?_
        refine lv_goto (tgt := 26) hx hb dX4_areTwoTraders_22 (by decide) ?_
        subst hQ9
        exact W.zret (ty := .boolean) hx hb hr rfl (fun t ht hW => ⟨_, rfl, hF, ht⟩) (fun q h => by cases h) dX4_areTwoTraders_26
theorem in_twoX {z : Nat → Nat} {v : Nat → Int32} {f : Nat → Nat → Int32} {t u : Int32} (hok : okX z v f) (h : ¬ F_X4_areTwoTraders z v f t u = 0) : vp_in t 12 := by
  rw [F_X4_areTwoTraders] at h
  split at h
  · exact absurd rfl h
  · exact in_isTX hok (by assumption)
theorem in_towX {z : Nat → Nat} {v : Nat → Int32} {f : Nat → Nat → Int32} {t u : Int32} (hok : okX z v f) (h : ¬ F_X4_areTwoTraders z v f t u = 0) : vp_in u 12 := by
  rw [F_X4_areTwoTraders] at h
  split at h
  · exact absurd rfl h
  · split at h
    · exact absurd rfl h
    · exact in_isTX hok (by assumption)
def F_X4_isEnded (z : Nat → Nat) (v : Nat → Int32) (f : Nat → Nat → Int32) (t day : Int32) : Int32 :=
  if f 4 t.toNatClampNeg = (-1) then
    0
  else
    if day < f 4 t.toNatClampNeg then
      0
    else
      1
set_option maxHeartbeats 4000000 in
set_option maxRecDepth 100000 in
theorem c_X4_isEnded (l : Launch) (dC : Nat → ClassId) (dI : Nat → Nat → Nat) (ad : Nat → Nat) (cI cZ : ClassId) (z : Nat → Nat) (v : Nat → Int32) (f : Nat → Nat → Int32) (t day : Int32) (hok : okX z v f) (ht : vp_in t 12) : Met l yX4_isEnded wsX4_isEnded ({ frames := 0, cells := 0, slots := 0, locals := 0 }) (va_Pc [.ref (ad 0), .int t, .int day] (kX dC dI ad cI cZ z v f)) (vp_Si (fun r => r = F_X4_isEnded z v f t day)) 0 0 (fun _ => False) := by
  refine Met.ofW (cc := cX4_isEnded) (maxL := 3) (ret := (some .boolean)) (by decide) rfl ?_
  intro p e s m args below meth c s₁ B hml hv
  obtain ⟨rfl, hP, hK, hN⟩ := hv
  have hx := B.exec
  have hb := B.bytes
  have hr := B.returns
  have hts := atoms_spec (ws := wsX4_isEnded) B.pre
  have hown : s.vm.findClass RX4 = some m.cls := findClass_of_methodNamed B.named
  have hlocks := B.notSynchronized
  have hok9 := hok
  obtain ⟨hz0, hz1, hz2, hz3, hz4, hbz, hbs⟩ := hok9
  have hfl29 := hts (.fieldLink RX4 29 "TraderRights" "endDays" "[I") (List.mem_of_getElem? (i := 1) rfl)
  have hinX4 : ∀ w ∈ u_ws RX4 TX4 11, w ∈ wsX4_isEnded := fun w h => List.mem_cons_of_mem _ (List.mem_append_right _ h)
  have hl := lv_entry ([.ref (ad 0), .int t, .int day]) (n := 3) (Nat.le_of_ble_eq_true rfl)
  rw [lg_entry_eq]
  generalize (lg_sl ([.ref (ad 0), .int t, .int day]) ++ List.replicate (3 - (lg_sl ([.ref (ad 0), .int t, .int day])).length) Slot.unset).toArray = ls at hl ⊢
  have hl : lv_has ls 3 [(0, .ref (ad 0)), (1, .int t), (2, .int day)] := hl
  generalize hF : F_X4_isEnded z v f t day = R9
  generalize hQ9 : MQ below (vp_Si (fun r => r = R9)) _ s 0 0 (fun _ => False) = Q9
  rw [F_X4_isEnded] at hF
  refine lv_aload_n hx hb dX4_isEnded_0 rfl (lv_at hl 0 rfl) ?_
  refine va_get (D := (dC, dI)) (ci := 4) (v := .ref (ad 5)) (C := RX4) (T := TX4) (N := 11) hx hb hts hinX4 hown hK hP 0 rfl rfl 6 (by decide) hfl29 (fun _ h9 => h9) rfl dX4_isEnded_1 ?_
  refine lv_iload_n hx hb dX4_isEnded_4 rfl (lv_at hl 1 rfl) ?_
  refine va_iald hx hb hK hP 5 0 rfl rfl ht dX4_isEnded_5 ?_
  refine lv_iconst (v := (-1)) hx hb dX4_isEnded_6 (by decide) ?_
  refine lv_icmp_eq (tgt := 24) hx hb dX4_isEnded_7 (by decide) (fun c1 => ?_) (fun c1 => ?_)
  · rw [if_pos c1] at hF
    refine lv_iconst (v := 0) hx hb dX4_isEnded_24 (by decide) ?_
    subst hQ9
    exact W.zret (ty := .boolean) hx hb hr rfl (fun t ht hW => ⟨_, rfl, hF, ht⟩) (fun q h => by cases h) dX4_isEnded_25
  · rw [if_neg c1] at hF
    refine lv_aload_n hx hb dX4_isEnded_10 rfl (lv_at hl 0 rfl) ?_
    refine va_get (D := (dC, dI)) (ci := 4) (v := .ref (ad 5)) (C := RX4) (T := TX4) (N := 11) hx hb hts hinX4 hown hK hP 0 rfl rfl 6 (by decide) hfl29 (fun _ h9 => h9) rfl dX4_isEnded_11 ?_
    refine lv_iload_n hx hb dX4_isEnded_14 rfl (lv_at hl 1 rfl) ?_
    refine va_iald hx hb hK hP 5 0 rfl rfl ht dX4_isEnded_15 ?_
    refine lv_iload_n hx hb dX4_isEnded_16 rfl (lv_at hl 2 rfl) ?_
    refine lv_icmp_gt (tgt := 24) hx hb dX4_isEnded_17 (by decide) (fun c2 => ?_) (fun c2 => ?_)
    · rw [if_pos c2] at hF
      refine lv_iconst (v := 0) hx hb dX4_isEnded_24 (by decide) ?_
      subst hQ9
      exact W.zret (ty := .boolean) hx hb hr rfl (fun t ht hW => ⟨_, rfl, hF, ht⟩) (fun q h => by cases h) dX4_isEnded_25
    · rw [if_neg c2] at hF
      refine lv_iconst (v := 1) hx hb dX4_isEnded_20 (by decide) ?_
      refine lv_goto (tgt := 25) hx hb dX4_isEnded_21 (by decide) ?_
      subst hQ9
      exact W.zret (ty := .boolean) hx hb hr rfl (fun t ht hW => ⟨_, rfl, hF, ht⟩) (fun q h => by cases h) dX4_isEnded_25
def F_X4_isForbidden (z : Nat → Nat) (v : Nat → Int32) (f : Nat → Nat → Int32) (t a : Int32) : Int32 :=
  F_X4_holds (f 1 t.toNatClampNeg) a
set_option maxHeartbeats 4000000 in
set_option maxRecDepth 100000 in
theorem c_X4_isForbidden (l : Launch) (dC : Nat → ClassId) (dI : Nat → Nat → Nat) (ad : Nat → Nat) (cI cZ : ClassId) (z : Nat → Nat) (v : Nat → Int32) (f : Nat → Nat → Int32) (t a : Int32) (hok : okX z v f) (ht : vp_in t 12) : Met l yX4_isForbidden wsX4_isForbidden ({ frames := 1, cells := 0, slots := 0, locals := 21 }) (va_Pc [.ref (ad 0), .int t, .int a] (kX dC dI ad cI cZ z v f)) (vp_Si (fun r => r = F_X4_isForbidden z v f t a)) 0 0 (fun _ => False) := by
  refine Met.ofW (cc := cX4_isForbidden) (maxL := 3) (ret := (some .boolean)) (by decide) rfl ?_
  intro p e s m args below meth c s₁ B hml hv
  obtain ⟨rfl, hP, hK, hN⟩ := hv
  have hx := B.exec
  have hb := B.bytes
  have hr := B.returns
  have hts := atoms_spec (ws := wsX4_isForbidden) B.pre
  have hown : s.vm.findClass RX4 = some m.cls := findClass_of_methodNamed B.named
  have hlocks := B.notSynchronized
  have hok9 := hok
  obtain ⟨hz0, hz1, hz2, hz3, hz4, hbz, hbs⟩ := hok9
  have hfl20 := hts (.fieldLink RX4 20 "TraderRights" "forbiddenActs" "[I") (List.mem_of_getElem? (i := 1) rfl)
  have hinX4 : ∀ w ∈ u_ws RX4 TX4 11, w ∈ wsX4_isForbidden := fun w h => List.mem_cons_of_mem _ (List.mem_append_right _ h)
  have hl := lv_entry ([.ref (ad 0), .int t, .int a]) (n := 3) (Nat.le_of_ble_eq_true rfl)
  rw [lg_entry_eq]
  generalize (lg_sl ([.ref (ad 0), .int t, .int a]) ++ List.replicate (3 - (lg_sl ([.ref (ad 0), .int t, .int a])).length) Slot.unset).toArray = ls at hl ⊢
  have hl : lv_has ls 3 [(0, .ref (ad 0)), (1, .int t), (2, .int a)] := hl
  generalize hF : F_X4_isForbidden z v f t a = R9
  generalize hQ9 : MQ below (vp_Si (fun r => r = R9)) _ s 0 0 (fun _ => False) = Q9
  rw [F_X4_isForbidden] at hF
  refine lv_aload_n hx hb dX4_isForbidden_0 rfl (lv_at hl 0 rfl) ?_
  refine va_get (D := (dC, dI)) (ci := 4) (v := .ref (ad 2)) (C := RX4) (T := TX4) (N := 11) hx hb hts hinX4 hown hK hP 0 rfl rfl 3 (by decide) hfl20 (fun _ h9 => h9) rfl dX4_isForbidden_1 ?_
  refine lv_iload_n hx hb dX4_isForbidden_4 rfl (lv_at hl 1 rfl) ?_
  refine va_iald hx hb hK hP 2 0 rfl rfl ht dX4_isForbidden_5 ?_
  refine lv_iload_n hx hb dX4_isForbidden_6 rfl (lv_at hl 2 rfl) ?_
  refine vp_callSi (W.runS (As := [.int (f 1 t.toNatClampNeg), .int a]) (rest := []) ⟨hx, hb, hml, hown, hts⟩ (c_X4_holds l (f 1 t.toNatClampNeg) a) (cwS 2 hts gX4_isForbidden_X4_holds rfl rfl rfl (by decide +kernel) ⟨Nat.le_of_ble_eq_true rfl, Nat.le_of_ble_eq_true rfl⟩) preT rfl rfl hl.1 rfl (lv_room (Nat.le_of_ble_eq_true rfl)) dX4_isForbidden_7 ⟨Nat.zero_le _, Nat.zero_le _⟩) (fun r1 h9 => ?_)
  have hr1 : r1 = F_X4_holds (f 1 t.toNatClampNeg) a := h9
  try rw [← hr1] at hF
  subst hQ9
  exact W.zret (ty := .boolean) hx hb hr (by rw [hr1]; exact (zB_holds _ _)) (fun t ht hW => ⟨_, rfl, hF, ht⟩) (fun q h => by cases h) dX4_isForbidden_10
def F_X4_needsTwo (z : Nat → Nat) (v : Nat → Int32) (f : Nat → Nat → Int32) (a : Int32) : Int32 :=
  F_X4_holds (v 0) a
set_option maxHeartbeats 4000000 in
set_option maxRecDepth 100000 in
theorem c_X4_needsTwo (l : Launch) (dC : Nat → ClassId) (dI : Nat → Nat → Nat) (ad : Nat → Nat) (cI cZ : ClassId) (z : Nat → Nat) (v : Nat → Int32) (f : Nat → Nat → Int32) (a : Int32) (hok : okX z v f) : Met l yX4_needsTwo wsX4_needsTwo ({ frames := 1, cells := 0, slots := 0, locals := 21 }) (va_Pc [.ref (ad 0), .int a] (kX dC dI ad cI cZ z v f)) (vp_Si (fun r => r = F_X4_needsTwo z v f a)) 0 0 (fun _ => False) := by
  refine Met.ofW (cc := cX4_needsTwo) (maxL := 2) (ret := (some .boolean)) (by decide) rfl ?_
  intro p e s m args below meth c s₁ B hml hv
  obtain ⟨rfl, hP, hK, hN⟩ := hv
  have hx := B.exec
  have hb := B.bytes
  have hr := B.returns
  have hts := atoms_spec (ws := wsX4_needsTwo) B.pre
  have hown : s.vm.findClass RX4 = some m.cls := findClass_of_methodNamed B.named
  have hlocks := B.notSynchronized
  have hok9 := hok
  obtain ⟨hz0, hz1, hz2, hz3, hz4, hbz, hbs⟩ := hok9
  have hfl13 := hts (.fieldLink RX4 13 "TraderRights" "actsOfTwo" "I") (List.mem_of_getElem? (i := 1) rfl)
  have hinX4 : ∀ w ∈ u_ws RX4 TX4 11, w ∈ wsX4_needsTwo := fun w h => List.mem_cons_of_mem _ (List.mem_append_right _ h)
  have hl := lv_entry ([.ref (ad 0), .int a]) (n := 2) (Nat.le_of_ble_eq_true rfl)
  rw [lg_entry_eq]
  generalize (lg_sl ([.ref (ad 0), .int a]) ++ List.replicate (2 - (lg_sl ([.ref (ad 0), .int a])).length) Slot.unset).toArray = ls at hl ⊢
  have hl : lv_has ls 2 [(0, .ref (ad 0)), (1, .int a)] := hl
  generalize hF : F_X4_needsTwo z v f a = R9
  generalize hQ9 : MQ below (vp_Si (fun r => r = R9)) _ s 0 0 (fun _ => False) = Q9
  rw [F_X4_needsTwo] at hF
  refine lv_aload_n hx hb dX4_needsTwo_0 rfl (lv_at hl 0 rfl) ?_
  refine va_get (D := (dC, dI)) (ci := 4) (v := .int (v 0)) (C := RX4) (T := TX4) (N := 11) hx hb hts hinX4 hown hK hP 0 rfl rfl 1 (by decide) hfl13 (fun _ h9 => h9) rfl dX4_needsTwo_1 ?_
  refine lv_iload_n hx hb dX4_needsTwo_4 rfl (lv_at hl 1 rfl) ?_
  refine vp_callSi (W.runS (As := [.int (v 0), .int a]) (rest := []) ⟨hx, hb, hml, hown, hts⟩ (c_X4_holds l (v 0) a) (cwS 2 hts gX4_needsTwo_X4_holds rfl rfl rfl (by decide +kernel) ⟨Nat.le_of_ble_eq_true rfl, Nat.le_of_ble_eq_true rfl⟩) preT rfl rfl hl.1 rfl (lv_room (Nat.le_of_ble_eq_true rfl)) dX4_needsTwo_5 ⟨Nat.zero_le _, Nat.zero_le _⟩) (fun r1 h9 => ?_)
  have hr1 : r1 = F_X4_holds (v 0) a := h9
  try rw [← hr1] at hF
  subst hQ9
  exact W.zret (ty := .boolean) hx hb hr (by rw [hr1]; exact (zB_holds _ _)) (fun t ht hW => ⟨_, rfl, hF, ht⟩) (fun q h => by cases h) dX4_needsTwo_8
def F_X4_everyTrader (z : Nat → Nat) (v : Nat → Int32) (f : Nat → Nat → Int32)  : Int32 :=
  (F_X4_bit (nI (z 0))) - 1
set_option maxHeartbeats 4000000 in
set_option maxRecDepth 100000 in
theorem c_X4_everyTrader (l : Launch) (dC : Nat → ClassId) (dI : Nat → Nat → Nat) (ad : Nat → Nat) (cI cZ : ClassId) (z : Nat → Nat) (v : Nat → Int32) (f : Nat → Nat → Int32) (hok : okX z v f) : Met l yX4_everyTrader wsX4_everyTrader ({ frames := 1, cells := 0, slots := 0, locals := 20 }) (va_Pc [.ref (ad 0)] (kX dC dI ad cI cZ z v f)) (vp_Si (fun r => r = F_X4_everyTrader z v f )) 0 0 (fun _ => False) := by
  refine Met.ofW (cc := cX4_everyTrader) (maxL := 1) (ret := (some .int)) (by decide) rfl ?_
  intro p e s m args below meth c s₁ B hml hv
  obtain ⟨rfl, hP, hK, hN⟩ := hv
  have hx := B.exec
  have hb := B.bytes
  have hr := B.returns
  have hts := atoms_spec (ws := wsX4_everyTrader) B.pre
  have hown : s.vm.findClass RX4 = some m.cls := findClass_of_methodNamed B.named
  have hlocks := B.notSynchronized
  have hok9 := hok
  obtain ⟨hz0, hz1, hz2, hz3, hz4, hbz, hbs⟩ := hok9
  have hfl7 := hts (.fieldLink RX4 7 "TraderRights" "traders" "I") (List.mem_of_getElem? (i := 1) rfl)
  have hinX4 : ∀ w ∈ u_ws RX4 TX4 11, w ∈ wsX4_everyTrader := fun w h => List.mem_cons_of_mem _ (List.mem_append_right _ h)
  have hl := lv_entry ([.ref (ad 0)]) (n := 1) (Nat.le_of_ble_eq_true rfl)
  rw [lg_entry_eq]
  generalize (lg_sl ([.ref (ad 0)]) ++ List.replicate (1 - (lg_sl ([.ref (ad 0)])).length) Slot.unset).toArray = ls at hl ⊢
  have hl : lv_has ls 1 [(0, .ref (ad 0))] := hl
  generalize hF : F_X4_everyTrader z v f  = R9
  generalize hQ9 : MQ below (vp_Si (fun r => r = R9)) _ s 0 0 (fun _ => False) = Q9
  rw [F_X4_everyTrader] at hF
  refine lv_aload_n hx hb dX4_everyTrader_0 rfl (lv_at hl 0 rfl) ?_
  refine va_get (D := (dC, dI)) (ci := 4) (v := .int (nI (z 0))) (C := RX4) (T := TX4) (N := 11) hx hb hts hinX4 hown hK hP 0 rfl rfl 0 (by decide) hfl7 (fun _ h9 => h9) rfl dX4_everyTrader_1 ?_
  refine vp_callSi (W.runS (As := [.int (nI (z 0))]) (rest := []) ⟨hx, hb, hml, hown, hts⟩ (c_X4_bit l (nI (z 0))) (cwS 1 hts gX4_everyTrader_X4_bit rfl rfl rfl (by decide +kernel) ⟨Nat.le_of_ble_eq_true rfl, Nat.le_of_ble_eq_true rfl⟩) preT rfl rfl hl.1 rfl (lv_room (Nat.le_of_ble_eq_true rfl)) dX4_everyTrader_4 ⟨Nat.zero_le _, Nat.zero_le _⟩) (fun r1 h9 => ?_)
  have hr1 : r1 = F_X4_bit (nI (z 0)) := h9
  try rw [← hr1] at hF
  refine lv_iconst (v := 1) hx hb dX4_everyTrader_7 (by decide) ?_
  refine lv_isub hx hb dX4_everyTrader_8 ?_
  subst hQ9
  exact W.iret hx hb hr (fun t ht hW => ⟨_, rfl, hF, ht⟩) (fun q h => by cases h) dX4_everyTrader_9
def F_X4_isInDeputyPair (z : Nat → Nat) (v : Nat → Int32) (f : Nat → Nat → Int32) (t : Int32) : Int32 :=
  if f 2 t.toNatClampNeg = (-1) then
    if f 3 t.toNatClampNeg = (-1) then
      0
    else
      1
  else
    1
set_option maxHeartbeats 4000000 in
set_option maxRecDepth 100000 in
theorem c_X4_isInDeputyPair (l : Launch) (dC : Nat → ClassId) (dI : Nat → Nat → Nat) (ad : Nat → Nat) (cI cZ : ClassId) (z : Nat → Nat) (v : Nat → Int32) (f : Nat → Nat → Int32) (t : Int32) (hok : okX z v f) (ht : vp_in t 12) : Met l yX4_isInDeputyPair wsX4_isInDeputyPair ({ frames := 0, cells := 0, slots := 0, locals := 0 }) (va_Pc [.ref (ad 0), .int t] (kX dC dI ad cI cZ z v f)) (vp_Si (fun r => r = F_X4_isInDeputyPair z v f t)) 0 0 (fun _ => False) := by
  refine Met.ofW (cc := cX4_isInDeputyPair) (maxL := 2) (ret := (some .boolean)) (by decide) rfl ?_
  intro p e s m args below meth c s₁ B hml hv
  obtain ⟨rfl, hP, hK, hN⟩ := hv
  have hx := B.exec
  have hb := B.bytes
  have hr := B.returns
  have hts := atoms_spec (ws := wsX4_isInDeputyPair) B.pre
  have hown : s.vm.findClass RX4 = some m.cls := findClass_of_methodNamed B.named
  have hlocks := B.notSynchronized
  have hok9 := hok
  obtain ⟨hz0, hz1, hz2, hz3, hz4, hbz, hbs⟩ := hok9
  have hfl23 := hts (.fieldLink RX4 23 "TraderRights" "deputies" "[I") (List.mem_of_getElem? (i := 1) rfl)
  have hfl26 := hts (.fieldLink RX4 26 "TraderRights" "principals" "[I") (List.mem_of_getElem? (i := 2) rfl)
  have hinX4 : ∀ w ∈ u_ws RX4 TX4 11, w ∈ wsX4_isInDeputyPair := fun w h => List.mem_cons_of_mem _ (List.mem_append_right _ h)
  have hl := lv_entry ([.ref (ad 0), .int t]) (n := 2) (Nat.le_of_ble_eq_true rfl)
  rw [lg_entry_eq]
  generalize (lg_sl ([.ref (ad 0), .int t]) ++ List.replicate (2 - (lg_sl ([.ref (ad 0), .int t])).length) Slot.unset).toArray = ls at hl ⊢
  have hl : lv_has ls 2 [(0, .ref (ad 0)), (1, .int t)] := hl
  generalize hF : F_X4_isInDeputyPair z v f t = R9
  generalize hQ9 : MQ below (vp_Si (fun r => r = R9)) _ s 0 0 (fun _ => False) = Q9
  rw [F_X4_isInDeputyPair] at hF
  refine lv_aload_n hx hb dX4_isInDeputyPair_0 rfl (lv_at hl 0 rfl) ?_
  refine va_get (D := (dC, dI)) (ci := 4) (v := .ref (ad 3)) (C := RX4) (T := TX4) (N := 11) hx hb hts hinX4 hown hK hP 0 rfl rfl 4 (by decide) hfl23 (fun _ h9 => h9) rfl dX4_isInDeputyPair_1 ?_
  refine lv_iload_n hx hb dX4_isInDeputyPair_4 rfl (lv_at hl 1 rfl) ?_
  refine va_iald hx hb hK hP 3 0 rfl rfl ht dX4_isInDeputyPair_5 ?_
  refine lv_iconst (v := (-1)) hx hb dX4_isInDeputyPair_6 (by decide) ?_
  refine lv_icmp_ne (tgt := 20) hx hb dX4_isInDeputyPair_7 (by decide) (fun c1 => ?_) (fun c1 => ?_)
  · rw [if_neg c1] at hF
    refine lv_iconst (v := 1) hx hb dX4_isInDeputyPair_20 (by decide) ?_
    refine lv_goto (tgt := 25) hx hb dX4_isInDeputyPair_21 (by decide) ?_
    subst hQ9
    exact W.zret (ty := .boolean) hx hb hr rfl (fun t ht hW => ⟨_, rfl, hF, ht⟩) (fun q h => by cases h) dX4_isInDeputyPair_25
  · rw [if_pos c1] at hF
    refine lv_aload_n hx hb dX4_isInDeputyPair_10 rfl (lv_at hl 0 rfl) ?_
    refine va_get (D := (dC, dI)) (ci := 4) (v := .ref (ad 4)) (C := RX4) (T := TX4) (N := 11) hx hb hts hinX4 hown hK hP 0 rfl rfl 5 (by decide) hfl26 (fun _ h9 => h9) rfl dX4_isInDeputyPair_11 ?_
    refine lv_iload_n hx hb dX4_isInDeputyPair_14 rfl (lv_at hl 1 rfl) ?_
    refine va_iald hx hb hK hP 4 0 rfl rfl ht dX4_isInDeputyPair_15 ?_
    refine lv_iconst (v := (-1)) hx hb dX4_isInDeputyPair_16 (by decide) ?_
    refine lv_icmp_eq (tgt := 24) hx hb dX4_isInDeputyPair_17 (by decide) (fun c2 => ?_) (fun c2 => ?_)
    · rw [if_pos c2] at hF
      refine lv_iconst (v := 0) hx hb dX4_isInDeputyPair_24 (by decide) ?_
      subst hQ9
      exact W.zret (ty := .boolean) hx hb hr rfl (fun t ht hW => ⟨_, rfl, hF, ht⟩) (fun q h => by cases h) dX4_isInDeputyPair_25
    · rw [if_neg c2] at hF
      refine lv_iconst (v := 1) hx hb dX4_isInDeputyPair_20 (by decide) ?_
      refine lv_goto (tgt := 25) hx hb dX4_isInDeputyPair_21 (by decide) ?_
      subst hQ9
      exact W.zret (ty := .boolean) hx hb hr rfl (fun t ht hW => ⟨_, rfl, hF, ht⟩) (fun q h => by cases h) dX4_isInDeputyPair_25
def F_X4_principalSet (z : Nat → Nat) (v : Nat → Int32) (f : Nat → Nat → Int32) (t : Int32) : Int32 :=
  if f 3 t.toNatClampNeg = (-1) then
    0
  else
    F_X4_bit (f 3 t.toNatClampNeg)
set_option maxHeartbeats 4000000 in
set_option maxRecDepth 100000 in
theorem c_X4_principalSet (l : Launch) (dC : Nat → ClassId) (dI : Nat → Nat → Nat) (ad : Nat → Nat) (cI cZ : ClassId) (z : Nat → Nat) (v : Nat → Int32) (f : Nat → Nat → Int32) (t : Int32) (hok : okX z v f) (ht : vp_in t 12) : Met l yX4_principalSet wsX4_principalSet ({ frames := 1, cells := 0, slots := 0, locals := 20 }) (va_Pc [.ref (ad 0), .int t] (kX dC dI ad cI cZ z v f)) (vp_Si (fun r => r = F_X4_principalSet z v f t)) 0 0 (fun _ => False) := by
  refine Met.ofW (cc := cX4_principalSet) (maxL := 2) (ret := (some .int)) (by decide) rfl ?_
  intro p e s m args below meth c s₁ B hml hv
  obtain ⟨rfl, hP, hK, hN⟩ := hv
  have hx := B.exec
  have hb := B.bytes
  have hr := B.returns
  have hts := atoms_spec (ws := wsX4_principalSet) B.pre
  have hown : s.vm.findClass RX4 = some m.cls := findClass_of_methodNamed B.named
  have hlocks := B.notSynchronized
  have hok9 := hok
  obtain ⟨hz0, hz1, hz2, hz3, hz4, hbz, hbs⟩ := hok9
  have hfl26 := hts (.fieldLink RX4 26 "TraderRights" "principals" "[I") (List.mem_of_getElem? (i := 1) rfl)
  have hinX4 : ∀ w ∈ u_ws RX4 TX4 11, w ∈ wsX4_principalSet := fun w h => List.mem_cons_of_mem _ (List.mem_append_right _ h)
  have hl := lv_entry ([.ref (ad 0), .int t]) (n := 2) (Nat.le_of_ble_eq_true rfl)
  rw [lg_entry_eq]
  generalize (lg_sl ([.ref (ad 0), .int t]) ++ List.replicate (2 - (lg_sl ([.ref (ad 0), .int t])).length) Slot.unset).toArray = ls at hl ⊢
  have hl : lv_has ls 2 [(0, .ref (ad 0)), (1, .int t)] := hl
  generalize hF : F_X4_principalSet z v f t = R9
  generalize hQ9 : MQ below (vp_Si (fun r => r = R9)) _ s 0 0 (fun _ => False) = Q9
  rw [F_X4_principalSet] at hF
  refine lv_aload_n hx hb dX4_principalSet_0 rfl (lv_at hl 0 rfl) ?_
  refine va_get (D := (dC, dI)) (ci := 4) (v := .ref (ad 4)) (C := RX4) (T := TX4) (N := 11) hx hb hts hinX4 hown hK hP 0 rfl rfl 5 (by decide) hfl26 (fun _ h9 => h9) rfl dX4_principalSet_1 ?_
  refine lv_iload_n hx hb dX4_principalSet_4 rfl (lv_at hl 1 rfl) ?_
  refine va_iald hx hb hK hP 4 0 rfl rfl ht dX4_principalSet_5 ?_
  refine lv_iconst (v := (-1)) hx hb dX4_principalSet_6 (by decide) ?_
  refine lv_icmp_ne (tgt := 14) hx hb dX4_principalSet_7 (by decide) (fun c1 => ?_) (fun c1 => ?_)
  · rw [if_neg c1] at hF
    refine lv_aload_n hx hb dX4_principalSet_14 rfl (lv_at hl 0 rfl) ?_
    refine va_get (D := (dC, dI)) (ci := 4) (v := .ref (ad 4)) (C := RX4) (T := TX4) (N := 11) hx hb hts hinX4 hown hK hP 0 rfl rfl 5 (by decide) hfl26 (fun _ h9 => h9) rfl dX4_principalSet_15 ?_
    refine lv_iload_n hx hb dX4_principalSet_18 rfl (lv_at hl 1 rfl) ?_
    refine va_iald hx hb hK hP 4 0 rfl rfl ht dX4_principalSet_19 ?_
    refine vp_callSi (W.runS (As := [.int (f 3 t.toNatClampNeg)]) (rest := []) ⟨hx, hb, hml, hown, hts⟩ (c_X4_bit l (f 3 t.toNatClampNeg)) (cwS 1 hts gX4_principalSet_X4_bit rfl rfl rfl (by decide +kernel) ⟨Nat.le_of_ble_eq_true rfl, Nat.le_of_ble_eq_true rfl⟩) preT rfl rfl hl.1 rfl (lv_room (Nat.le_of_ble_eq_true rfl)) dX4_principalSet_20 ⟨Nat.zero_le _, Nat.zero_le _⟩) (fun r2 h9 => ?_)
    have hr2 : r2 = F_X4_bit (f 3 t.toNatClampNeg) := h9
    try rw [← hr2] at hF
    subst hQ9
    exact W.iret hx hb hr (fun t ht hW => ⟨_, rfl, hF, ht⟩) (fun q h => by cases h) dX4_principalSet_23
  · rw [if_pos c1] at hF
    refine lv_iconst (v := 0) hx hb dX4_principalSet_10 (by decide) ?_
    refine lv_goto (tgt := 23) hx hb dX4_principalSet_11 (by decide) ?_
    subst hQ9
    exact W.iret hx hb hr (fun t ht hW => ⟨_, rfl, hF, ht⟩) (fun q h => by cases h) dX4_principalSet_23
def F_X4_aliveOn_L4 (z : Nat → Nat) (v : Nat → Int32) (f : Nat → Nat → Int32) (day : Int32)  : Nat → Int32 → Nat → Int32
  | 0, al, k => al
  | n4 + 1, al, k =>
    if z 0 ≤ k then
      al
    else
      if F_X4_isEnded z v f (nI k) day = 0 then
        if F_X3_isOn z v f (nI k) day = 0 then
          F_X4_aliveOn_L4 z v f day n4 (al ||| (F_X4_bit (nI k))) (k + 1)
        else
          F_X4_aliveOn_L4 z v f day n4 al (k + 1)
      else
        F_X4_aliveOn_L4 z v f day n4 al (k + 1)
def F_X4_aliveOn (z : Nat → Nat) (v : Nat → Int32) (f : Nat → Nat → Int32) (day : Int32) : Int32 :=
  (F_X4_aliveOn_L4 z v f day (z 0 + 1) 0 0)
set_option maxHeartbeats 4000000 in
set_option maxRecDepth 100000 in
theorem c_X4_aliveOn (l : Launch) (dC : Nat → ClassId) (dI : Nat → Nat → Nat) (ad : Nat → Nat) (cI cZ : ClassId) (z : Nat → Nat) (v : Nat → Int32) (f : Nat → Nat → Int32) (day : Int32) (hok : okX z v f) : Met l yX4_aliveOn wsX4_aliveOn ({ frames := 1, cells := 0, slots := 0, locals := 25 }) (va_Pc [.ref (ad 0), .int day] (kX dC dI ad cI cZ z v f)) (vp_Si (fun r => r = F_X4_aliveOn z v f day)) 0 0 (fun _ => False) := by
  refine Met.ofW (cc := cX4_aliveOn) (maxL := 4) (ret := (some .int)) (by decide) rfl ?_
  intro p e s m args below meth c s₁ B hml hv
  obtain ⟨rfl, hP, hK, hN⟩ := hv
  have hx := B.exec
  have hb := B.bytes
  have hr := B.returns
  have hts := atoms_spec (ws := wsX4_aliveOn) B.pre
  have hown : s.vm.findClass RX4 = some m.cls := findClass_of_methodNamed B.named
  have hlocks := B.notSynchronized
  have hok9 := hok
  obtain ⟨hz0, hz1, hz2, hz3, hz4, hbz, hbs⟩ := hok9
  have hfl55 := hts (.fieldLink RX4 55 "TraderRights" "suspensions" "LTraderRights$Suspensions;") (List.mem_of_getElem? (i := 2) rfl)
  have hfl7 := hts (.fieldLink RX4 7 "TraderRights" "traders" "I") (List.mem_of_getElem? (i := 1) rfl)
  have himX3_isOn := hts (.instanceMethod yX3_isOn) (List.mem_of_getElem? (i := 9) rfl)
  have hinX4 : ∀ w ∈ u_ws RX4 TX4 11, w ∈ wsX4_aliveOn := fun w h => List.mem_cons_of_mem _ (List.mem_append_left _ (List.mem_append_right _ h))
  have hiniX3 := hts (.initialized RX3) (List.mem_of_getElem? (i := 10) rfl)
  have hnw153 := hN (.methodLinkNest RX4 153 yX3_isOn "TraderRights") (by decide +kernel)
  have hseX3_isOn := hts (.selects RX3 yX3_isOn yX3_isOn) (List.mem_of_getElem? (i := 11) rfl)
  have hl := lv_entry ([.ref (ad 0), .int day]) (n := 4) (Nat.le_of_ble_eq_true rfl)
  rw [lg_entry_eq]
  generalize (lg_sl ([.ref (ad 0), .int day]) ++ List.replicate (4 - (lg_sl ([.ref (ad 0), .int day])).length) Slot.unset).toArray = ls at hl ⊢
  have hl : lv_has ls 4 [(0, .ref (ad 0)), (1, .int day)] := hl
  generalize hF : F_X4_aliveOn z v f day = R9
  generalize hQ9 : MQ below (vp_Si (fun r => r = R9)) _ s 0 0 (fun _ => False) = Q9
  rw [F_X4_aliveOn] at hF
  refine lv_iconst (v := 0) hx hb dX4_aliveOn_0 (by decide) ?_
  refine lv_istore_n (lv' := [(2, .int 0), (0, .ref (ad 0)), (1, .int day)]) hx hb dX4_aliveOn_1 rfl hl (by decide) rfl (fun ls hl => ?_)
  refine lv_iconst (v := 0) hx hb dX4_aliveOn_2 (by decide) ?_
  refine lv_istore_n (lv' := [(3, .int 0), (2, .int 0), (0, .ref (ad 0)), (1, .int day)]) hx hb dX4_aliveOn_3 rfl hl (by decide) rfl (fun ls hl => ?_)
  have lp4 : ∀ (n4 : Nat) (al : Int32) (k : Nat) (ls : Array Slot), k ≤ z 0 → z 0 < k + n4 → lv_has ls 4 [(0, .ref (ad 0)), (1, .int day), (2, .int al), (3, .int (nI k))] → (∀ ls : Array Slot, lv_has ls 4 [(0, .ref (ad 0)), (1, .int day), (2, .int (F_X4_aliveOn_L4 z v f day n4 al k))] → W p l e (headSpec wsX4_aliveOn ({ frames := 1, cells := 0, slots := 0, locals := 25 })).room s m ([.ref (ad 0), .int day] : List Value).toArray below meth c s.heap [] 0 0 Q9 (F0 m 46 ls [])) → W p l e (headSpec wsX4_aliveOn ({ frames := 1, cells := 0, slots := 0, locals := 25 })).room s m ([.ref (ad 0), .int day] : List Value).toArray below meth c s.heap [] 0 0 Q9 (F0 m 4 ls []) := by
    intro n4
    induction n4 with
    | zero =>
      intro al k ls hk4 hn4
      exact absurd hn4 (by omega)
    | succ n4 ih4 =>
      intro al k ls hk4 hn4 hl hq4
      generalize hF4 : F_X4_aliveOn_L4 z v f day (n4 + 1) al k = R4 at hq4
      rw [F_X4_aliveOn_L4] at hF4
      refine lv_iload_n hx hb dX4_aliveOn_4 rfl (lv_at hl 3 rfl) ?_
      refine lv_aload_n hx hb dX4_aliveOn_5 rfl (lv_at hl 0 rfl) ?_
      refine va_get (D := (dC, dI)) (ci := 4) (v := .int (nI (z 0))) (C := RX4) (T := TX4) (N := 11) hx hb hts hinX4 hown hK hP 0 rfl rfl 0 (by decide) hfl7 (fun _ h9 => h9) rfl dX4_aliveOn_6 ?_
      refine lv_icmp_ge (tgt := 46) hx hb dX4_aliveOn_9 (by decide) (fun c1 => ?_) (fun c1 => ?_)
      · have c1 : z 0 ≤ k := (nI_leI (a := z 0) (b := k) (by omega) (by omega)).mp c1
        rw [if_pos c1] at hF4
        subst hF4
        exact hq4 ls (lv_sub hl [0, 1, 2] rfl)
      · have c1 : ¬ z 0 ≤ k := fun h9 => c1 ((nI_leI (a := z 0) (b := k) (by omega) (by omega)).mpr h9)
        rw [if_neg c1] at hF4
        refine lv_aload_n hx hb dX4_aliveOn_12 rfl (lv_at hl 0 rfl) ?_
        refine lv_iload_n hx hb dX4_aliveOn_13 rfl (lv_at hl 3 rfl) ?_
        refine lv_iload_n hx hb dX4_aliveOn_14 rfl (lv_at hl 1 rfl) ?_
        refine vp_callSi (W.runV (As := [.int (nI k), .int day]) (rest := []) ⟨hx, hb, hml, hown, hts⟩ (c_X4_isEnded l dC dI ad cI cZ z v f (nI k) day hok (vp_in_nI (by omega) (by omega))) (cwV 2 hts gX4_aliveOn_X4_isEnded rfl rfl rfl (by decide +kernel) ⟨Nat.le_of_ble_eq_true rfl, Nat.le_of_ble_eq_true rfl⟩) (preX (ci := 4) (q0 := 0) hP hK hN rfl rfl rfl) rfl rfl hl.1 rfl (lv_room (Nat.le_of_ble_eq_true rfl)) dX4_aliveOn_15 ⟨Nat.zero_le _, Nat.zero_le _⟩) (fun r2 h9 => ?_)
        have hr2 : r2 = F_X4_isEnded z v f (nI k) day := h9
        try rw [← hr2] at hF
        try rw [← hr2] at hF4
        refine lv_if_ne (tgt := 40) hx hb dX4_aliveOn_18 (by decide) (fun c3 => ?_) (fun c3 => ?_)
        · rw [if_neg c3] at hF4
          have c3f : ¬ F_X4_isEnded z v f (nI k) day = 0 := by rw [← hr2]; exact c3
          refine lv_iinc (v := nI (k + 1)) (lv' := [(3, .int (nI (k + 1))), (0, .ref (ad 0)), (1, .int day), (2, .int al)]) hx hb dX4_aliveOn_40 hl (k := 3) rfl (xi_inc _) (by decide) rfl (fun ls hl => ?_)
          refine lv_goto (tgt := 4) hx hb dX4_aliveOn_43 (by decide) ?_
          exact ih4 al (k + 1) ls (by omega) (by omega) (lv_sub hl [1, 2, 3, 0] rfl) (by rw [hF4]; exact hq4)
        · rw [if_pos c3] at hF4
          have c3f : F_X4_isEnded z v f (nI k) day = 0 := by rw [← hr2]; exact c3
          refine lv_aload_n hx hb dX4_aliveOn_21 rfl (lv_at hl 0 rfl) ?_
          refine va_get (D := (dC, dI)) (ci := 4) (v := .ref (ad 17)) (C := RX4) (T := TX4) (N := 11) hx hb hts hinX4 hown hK hP 0 rfl rfl 9 (by decide) hfl55 (fun _ h9 => h9) rfl dX4_aliveOn_22 ?_
          refine lv_iload_n hx hb dX4_aliveOn_25 rfl (lv_at hl 3 rfl) ?_
          refine lv_iload_n hx hb dX4_aliveOn_26 rfl (lv_at hl 1 rfl) ?_
          refine vp_callSi (va_Run.run (va_runVN (As := [.int (nI k), .int day]) (rest := []) ⟨hx, hb, hml, hown, hts⟩ (c_X3_isOn l dC dI ad cI cZ z v f (nI k) day hok) ⟨(va_cnB 2 hts gX4_aliveOn_X3_isOn_n153 rfl rfl rfl hnw153 hiniX3 (by decide +kernel) ⟨Nat.le_of_ble_eq_true rfl, Nat.le_of_ble_eq_true rfl⟩), himX3_isOn, hseX3_isOn⟩ (preX (ci := 3) (q0 := 17) hP hK hN rfl rfl rfl) rfl rfl hl.1 rfl (lv_room (Nat.le_of_ble_eq_true rfl)) dX4_aliveOn_27 ⟨Nat.zero_le _, Nat.zero_le _⟩)) (fun r4 h9 => ?_)
          have hr4 : r4 = F_X3_isOn z v f (nI k) day := h9
          try rw [← hr4] at hF
          try rw [← hr4] at hF4
          refine lv_if_ne (tgt := 40) hx hb dX4_aliveOn_30 (by decide) (fun c5 => ?_) (fun c5 => ?_)
          · rw [if_neg c5] at hF4
            have c5f : ¬ F_X3_isOn z v f (nI k) day = 0 := by rw [← hr4]; exact c5
            refine lv_iinc (v := nI (k + 1)) (lv' := [(3, .int (nI (k + 1))), (0, .ref (ad 0)), (1, .int day), (2, .int al)]) hx hb dX4_aliveOn_40 hl (k := 3) rfl (xi_inc _) (by decide) rfl (fun ls hl => ?_)
            refine lv_goto (tgt := 4) hx hb dX4_aliveOn_43 (by decide) ?_
            exact ih4 al (k + 1) ls (by omega) (by omega) (lv_sub hl [1, 2, 3, 0] rfl) (by rw [hF4]; exact hq4)
          · rw [if_pos c5] at hF4
            have c5f : F_X3_isOn z v f (nI k) day = 0 := by rw [← hr4]; exact c5
            refine lv_iload_n hx hb dX4_aliveOn_33 rfl (lv_at hl 2 rfl) ?_
            refine lv_iload_n hx hb dX4_aliveOn_34 rfl (lv_at hl 3 rfl) ?_
            refine vp_callSi (W.runS (As := [.int (nI k)]) (rest := [.int al]) ⟨hx, hb, hml, hown, hts⟩ (c_X4_bit l (nI k)) (cwS 1 hts gX4_aliveOn_X4_bit rfl rfl rfl (by decide +kernel) ⟨Nat.le_of_ble_eq_true rfl, Nat.le_of_ble_eq_true rfl⟩) preT rfl rfl hl.1 rfl (lv_room (Nat.le_of_ble_eq_true rfl)) dX4_aliveOn_35 ⟨Nat.zero_le _, Nat.zero_le _⟩) (fun r6 h9 => ?_)
            have hr6 : r6 = F_X4_bit (nI k) := h9
            try rw [← hr6] at hF
            try rw [← hr6] at hF4
            refine lv_ior hx hb dX4_aliveOn_38 ?_
            refine lv_istore_n (lv' := [(2, .int (al ||| r6)), (0, .ref (ad 0)), (1, .int day), (3, .int (nI k))]) hx hb dX4_aliveOn_39 rfl hl (by decide) rfl (fun ls hl => ?_)
            refine lv_iinc (v := nI (k + 1)) (lv' := [(3, .int (nI (k + 1))), (2, .int (al ||| r6)), (0, .ref (ad 0)), (1, .int day)]) hx hb dX4_aliveOn_40 hl (k := 3) rfl (xi_inc _) (by decide) rfl (fun ls hl => ?_)
            refine lv_goto (tgt := 4) hx hb dX4_aliveOn_43 (by decide) ?_
            exact ih4 (al ||| r6) (k + 1) ls (by omega) (by omega) (lv_sub hl [2, 3, 1, 0] rfl) (by rw [hF4]; exact hq4)
  refine lp4 (z 0 + 1) 0 0 ls (by omega) (by omega) (lv_sub hl [2, 3, 1, 0] rfl) (fun ls hl => ?_)
  obtain ⟨r7, hr7⟩ : ∃ y, y = (F_X4_aliveOn_L4 z v f day (z 0 + 1) 0 0) := ⟨_, rfl⟩
  rw [← hr7] at hl
  try rw [← hr7] at hF
  refine lv_iload_n hx hb dX4_aliveOn_46 rfl (lv_at hl 2 rfl) ?_
  subst hQ9
  exact W.iret hx hb hr (fun t ht hW => ⟨_, rfl, hF, ht⟩) (fun q h => by cases h) dX4_aliveOn_47
def F_X4_groupsOfAll_L4 (z : Nat → Nat) (v : Nat → Int32) (f : Nat → Nat → Int32) (ms : Int32)  : Nat → Int32 → Nat → Int32
  | 0, al, k => al
  | n4 + 1, al, k =>
    if z 0 ≤ k then
      al
    else
      if F_X4_holds ms (nI k) = 0 then
        F_X4_groupsOfAll_L4 z v f ms n4 al (k + 1)
      else
        F_X4_groupsOfAll_L4 z v f ms n4 (al ||| (f 0 k)) (k + 1)
def F_X4_groupsOfAll (z : Nat → Nat) (v : Nat → Int32) (f : Nat → Nat → Int32) (ms : Int32) : Int32 :=
  (F_X4_groupsOfAll_L4 z v f ms (z 0 + 1) 0 0)
set_option maxHeartbeats 4000000 in
set_option maxRecDepth 100000 in
theorem c_X4_groupsOfAll (l : Launch) (dC : Nat → ClassId) (dI : Nat → Nat → Nat) (ad : Nat → Nat) (cI cZ : ClassId) (z : Nat → Nat) (v : Nat → Int32) (f : Nat → Nat → Int32) (ms : Int32) (hok : okX z v f) : Met l yX4_groupsOfAll wsX4_groupsOfAll ({ frames := 1, cells := 0, slots := 0, locals := 21 }) (va_Pc [.ref (ad 0), .int ms] (kX dC dI ad cI cZ z v f)) (vp_Si (fun r => r = F_X4_groupsOfAll z v f ms)) 0 0 (fun _ => False) := by
  refine Met.ofW (cc := cX4_groupsOfAll) (maxL := 4) (ret := (some .int)) (by decide) rfl ?_
  intro p e s m args below meth c s₁ B hml hv
  obtain ⟨rfl, hP, hK, hN⟩ := hv
  have hx := B.exec
  have hb := B.bytes
  have hr := B.returns
  have hts := atoms_spec (ws := wsX4_groupsOfAll) B.pre
  have hown : s.vm.findClass RX4 = some m.cls := findClass_of_methodNamed B.named
  have hlocks := B.notSynchronized
  have hok9 := hok
  obtain ⟨hz0, hz1, hz2, hz3, hz4, hbz, hbs⟩ := hok9
  have hfl16 := hts (.fieldLink RX4 16 "TraderRights" "directGroups" "[I") (List.mem_of_getElem? (i := 2) rfl)
  have hfl7 := hts (.fieldLink RX4 7 "TraderRights" "traders" "I") (List.mem_of_getElem? (i := 1) rfl)
  have hinX4 : ∀ w ∈ u_ws RX4 TX4 11, w ∈ wsX4_groupsOfAll := fun w h => List.mem_cons_of_mem _ (List.mem_append_right _ h)
  have hl := lv_entry ([.ref (ad 0), .int ms]) (n := 4) (Nat.le_of_ble_eq_true rfl)
  rw [lg_entry_eq]
  generalize (lg_sl ([.ref (ad 0), .int ms]) ++ List.replicate (4 - (lg_sl ([.ref (ad 0), .int ms])).length) Slot.unset).toArray = ls at hl ⊢
  have hl : lv_has ls 4 [(0, .ref (ad 0)), (1, .int ms)] := hl
  generalize hF : F_X4_groupsOfAll z v f ms = R9
  generalize hQ9 : MQ below (vp_Si (fun r => r = R9)) _ s 0 0 (fun _ => False) = Q9
  rw [F_X4_groupsOfAll] at hF
  refine lv_iconst (v := 0) hx hb dX4_groupsOfAll_0 (by decide) ?_
  refine lv_istore_n (lv' := [(2, .int 0), (0, .ref (ad 0)), (1, .int ms)]) hx hb dX4_groupsOfAll_1 rfl hl (by decide) rfl (fun ls hl => ?_)
  refine lv_iconst (v := 0) hx hb dX4_groupsOfAll_2 (by decide) ?_
  refine lv_istore_n (lv' := [(3, .int 0), (2, .int 0), (0, .ref (ad 0)), (1, .int ms)]) hx hb dX4_groupsOfAll_3 rfl hl (by decide) rfl (fun ls hl => ?_)
  have lp4 : ∀ (n4 : Nat) (al : Int32) (k : Nat) (ls : Array Slot), k ≤ z 0 → z 0 < k + n4 → lv_has ls 4 [(0, .ref (ad 0)), (1, .int ms), (2, .int al), (3, .int (nI k))] → (∀ ls : Array Slot, lv_has ls 4 [(0, .ref (ad 0)), (1, .int ms), (2, .int (F_X4_groupsOfAll_L4 z v f ms n4 al k))] → W p l e (headSpec wsX4_groupsOfAll ({ frames := 1, cells := 0, slots := 0, locals := 21 })).room s m ([.ref (ad 0), .int ms] : List Value).toArray below meth c s.heap [] 0 0 Q9 (F0 m 35 ls [])) → W p l e (headSpec wsX4_groupsOfAll ({ frames := 1, cells := 0, slots := 0, locals := 21 })).room s m ([.ref (ad 0), .int ms] : List Value).toArray below meth c s.heap [] 0 0 Q9 (F0 m 4 ls []) := by
    intro n4
    induction n4 with
    | zero =>
      intro al k ls hk4 hn4
      exact absurd hn4 (by omega)
    | succ n4 ih4 =>
      intro al k ls hk4 hn4 hl hq4
      generalize hF4 : F_X4_groupsOfAll_L4 z v f ms (n4 + 1) al k = R4 at hq4
      rw [F_X4_groupsOfAll_L4] at hF4
      refine lv_iload_n hx hb dX4_groupsOfAll_4 rfl (lv_at hl 3 rfl) ?_
      refine lv_aload_n hx hb dX4_groupsOfAll_5 rfl (lv_at hl 0 rfl) ?_
      refine va_get (D := (dC, dI)) (ci := 4) (v := .int (nI (z 0))) (C := RX4) (T := TX4) (N := 11) hx hb hts hinX4 hown hK hP 0 rfl rfl 0 (by decide) hfl7 (fun _ h9 => h9) rfl dX4_groupsOfAll_6 ?_
      refine lv_icmp_ge (tgt := 35) hx hb dX4_groupsOfAll_9 (by decide) (fun c1 => ?_) (fun c1 => ?_)
      · have c1 : z 0 ≤ k := (nI_leI (a := z 0) (b := k) (by omega) (by omega)).mp c1
        rw [if_pos c1] at hF4
        subst hF4
        exact hq4 ls (lv_sub hl [0, 1, 2] rfl)
      · have c1 : ¬ z 0 ≤ k := fun h9 => c1 ((nI_leI (a := z 0) (b := k) (by omega) (by omega)).mpr h9)
        rw [if_neg c1] at hF4
        refine lv_iload_n hx hb dX4_groupsOfAll_12 rfl (lv_at hl 1 rfl) ?_
        refine lv_iload_n hx hb dX4_groupsOfAll_13 rfl (lv_at hl 3 rfl) ?_
        refine vp_callSi (W.runS (As := [.int ms, .int (nI k)]) (rest := []) ⟨hx, hb, hml, hown, hts⟩ (c_X4_holds l ms (nI k)) (cwS 2 hts gX4_groupsOfAll_X4_holds rfl rfl rfl (by decide +kernel) ⟨Nat.le_of_ble_eq_true rfl, Nat.le_of_ble_eq_true rfl⟩) preT rfl rfl hl.1 rfl (lv_room (Nat.le_of_ble_eq_true rfl)) dX4_groupsOfAll_14 ⟨Nat.zero_le _, Nat.zero_le _⟩) (fun r2 h9 => ?_)
        have hr2 : r2 = F_X4_holds ms (nI k) := h9
        try rw [← hr2] at hF
        try rw [← hr2] at hF4
        refine lv_if_eq (tgt := 29) hx hb dX4_groupsOfAll_17 (by decide) (fun c3 => ?_) (fun c3 => ?_)
        · rw [if_pos c3] at hF4
          have c3f : F_X4_holds ms (nI k) = 0 := by rw [← hr2]; exact c3
          refine lv_iinc (v := nI (k + 1)) (lv' := [(3, .int (nI (k + 1))), (0, .ref (ad 0)), (1, .int ms), (2, .int al)]) hx hb dX4_groupsOfAll_29 hl (k := 3) rfl (xi_inc _) (by decide) rfl (fun ls hl => ?_)
          refine lv_goto (tgt := 4) hx hb dX4_groupsOfAll_32 (by decide) ?_
          exact ih4 al (k + 1) ls (by omega) (by omega) (lv_sub hl [1, 2, 3, 0] rfl) (by rw [hF4]; exact hq4)
        · rw [if_neg c3] at hF4
          have c3f : ¬ F_X4_holds ms (nI k) = 0 := by rw [← hr2]; exact c3
          refine lv_iload_n hx hb dX4_groupsOfAll_20 rfl (lv_at hl 2 rfl) ?_
          refine lv_aload_n hx hb dX4_groupsOfAll_21 rfl (lv_at hl 0 rfl) ?_
          refine va_get (D := (dC, dI)) (ci := 4) (v := .ref (ad 1)) (C := RX4) (T := TX4) (N := 11) hx hb hts hinX4 hown hK hP 0 rfl rfl 2 (by decide) hfl16 (fun _ h9 => h9) rfl dX4_groupsOfAll_22 ?_
          refine lv_iload_n hx hb dX4_groupsOfAll_25 rfl (lv_at hl 3 rfl) ?_
          refine xa_ild hx hb hK hP 1 0 rfl rfl (by omega) (by decide) dX4_groupsOfAll_26 ?_
          refine lv_ior hx hb dX4_groupsOfAll_27 ?_
          refine lv_istore_n (lv' := [(2, .int (al ||| (f 0 k))), (0, .ref (ad 0)), (1, .int ms), (3, .int (nI k))]) hx hb dX4_groupsOfAll_28 rfl hl (by decide) rfl (fun ls hl => ?_)
          refine lv_iinc (v := nI (k + 1)) (lv' := [(3, .int (nI (k + 1))), (2, .int (al ||| (f 0 k))), (0, .ref (ad 0)), (1, .int ms)]) hx hb dX4_groupsOfAll_29 hl (k := 3) rfl (xi_inc _) (by decide) rfl (fun ls hl => ?_)
          refine lv_goto (tgt := 4) hx hb dX4_groupsOfAll_32 (by decide) ?_
          exact ih4 (al ||| (f 0 k)) (k + 1) ls (by omega) (by omega) (lv_sub hl [2, 3, 1, 0] rfl) (by rw [hF4]; exact hq4)
  refine lp4 (z 0 + 1) 0 0 ls (by omega) (by omega) (lv_sub hl [2, 3, 1, 0] rfl) (fun ls hl => ?_)
  obtain ⟨r4, hr4⟩ : ∃ y, y = (F_X4_groupsOfAll_L4 z v f ms (z 0 + 1) 0 0) := ⟨_, rfl⟩
  rw [← hr4] at hl
  try rw [← hr4] at hF
  refine lv_iload_n hx hb dX4_groupsOfAll_35 rfl (lv_at hl 2 rfl) ?_
  subst hQ9
  exact W.iret hx hb hr (fun t ht hW => ⟨_, rfl, hF, ht⟩) (fun q h => by cases h) dX4_groupsOfAll_36
def F_X4_groupsAmong_L12 (z : Nat → Nat) (v : Nat → Int32) (f : Nat → Nat → Int32) (t aw : Int32)  : Nat → Int32 → Nat → Int32
  | 0, fo, k => fo
  | n12 + 1, fo, k =>
    if z 0 ≤ k then
      fo
    else
      F_X4_groupsAmong_L12 z v f t aw n12 (fo ||| ((F_X4_groupsOfAll z v f fo) &&& aw)) (k + 1)
def F_X4_groupsAmong (z : Nat → Nat) (v : Nat → Int32) (f : Nat → Nat → Int32) (t aw : Int32) : Int32 :=
  (F_X4_groupsAmong_L12 z v f t aw (z 0 + 1) ((f 0 t.toNatClampNeg) &&& aw) 2)
set_option maxHeartbeats 4000000 in
set_option maxRecDepth 100000 in
theorem c_X4_groupsAmong (l : Launch) (dC : Nat → ClassId) (dI : Nat → Nat → Nat) (ad : Nat → Nat) (cI cZ : ClassId) (z : Nat → Nat) (v : Nat → Int32) (f : Nat → Nat → Int32) (t aw : Int32) (hok : okX z v f) (ht : vp_in t 12) : Met l yX4_groupsAmong wsX4_groupsAmong ({ frames := 2, cells := 0, slots := 0, locals := 44 }) (va_Pc [.ref (ad 0), .int t, .int aw] (kX dC dI ad cI cZ z v f)) (vp_Si (fun r => r = F_X4_groupsAmong z v f t aw)) 0 0 (fun _ => False) := by
  refine Met.ofW (cc := cX4_groupsAmong) (maxL := 5) (ret := (some .int)) (by decide) rfl ?_
  intro p e s m args below meth c s₁ B hml hv
  obtain ⟨rfl, hP, hK, hN⟩ := hv
  have hx := B.exec
  have hb := B.bytes
  have hr := B.returns
  have hts := atoms_spec (ws := wsX4_groupsAmong) B.pre
  have hown : s.vm.findClass RX4 = some m.cls := findClass_of_methodNamed B.named
  have hlocks := B.notSynchronized
  have hok9 := hok
  obtain ⟨hz0, hz1, hz2, hz3, hz4, hbz, hbs⟩ := hok9
  have hfl16 := hts (.fieldLink RX4 16 "TraderRights" "directGroups" "[I") (List.mem_of_getElem? (i := 1) rfl)
  have hfl7 := hts (.fieldLink RX4 7 "TraderRights" "traders" "I") (List.mem_of_getElem? (i := 2) rfl)
  have hinX4 : ∀ w ∈ u_ws RX4 TX4 11, w ∈ wsX4_groupsAmong := fun w h => List.mem_cons_of_mem _ (List.mem_append_right _ h)
  have hl := lv_entry ([.ref (ad 0), .int t, .int aw]) (n := 5) (Nat.le_of_ble_eq_true rfl)
  rw [lg_entry_eq]
  generalize (lg_sl ([.ref (ad 0), .int t, .int aw]) ++ List.replicate (5 - (lg_sl ([.ref (ad 0), .int t, .int aw])).length) Slot.unset).toArray = ls at hl ⊢
  have hl : lv_has ls 5 [(0, .ref (ad 0)), (1, .int t), (2, .int aw)] := hl
  generalize hF : F_X4_groupsAmong z v f t aw = R9
  generalize hQ9 : MQ below (vp_Si (fun r => r = R9)) _ s 0 0 (fun _ => False) = Q9
  rw [F_X4_groupsAmong] at hF
  refine lv_aload_n hx hb dX4_groupsAmong_0 rfl (lv_at hl 0 rfl) ?_
  refine va_get (D := (dC, dI)) (ci := 4) (v := .ref (ad 1)) (C := RX4) (T := TX4) (N := 11) hx hb hts hinX4 hown hK hP 0 rfl rfl 2 (by decide) hfl16 (fun _ h9 => h9) rfl dX4_groupsAmong_1 ?_
  refine lv_iload_n hx hb dX4_groupsAmong_4 rfl (lv_at hl 1 rfl) ?_
  refine va_iald hx hb hK hP 1 0 rfl rfl ht dX4_groupsAmong_5 ?_
  refine lv_iload_n hx hb dX4_groupsAmong_6 rfl (lv_at hl 2 rfl) ?_
  refine lv_iand hx hb dX4_groupsAmong_7 ?_
  refine lv_istore_n (lv' := [(3, .int ((f 0 t.toNatClampNeg) &&& aw)), (0, .ref (ad 0)), (1, .int t), (2, .int aw)]) hx hb dX4_groupsAmong_8 rfl hl (by decide) rfl (fun ls hl => ?_)
  refine lv_iconst (v := 2) hx hb dX4_groupsAmong_9 (by decide) ?_
  refine lv_istore (lv' := [(4, .int 2), (3, .int ((f 0 t.toNatClampNeg) &&& aw)), (0, .ref (ad 0)), (1, .int t), (2, .int aw)]) hx hb dX4_groupsAmong_10 hl (by decide) rfl (fun ls hl => ?_)
  have lp12 : ∀ (n12 : Nat) (fo : Int32) (k : Nat) (ls : Array Slot), k ≤ z 0 + 2 → z 0 + 2 < k + n12 → lv_has ls 5 [(0, .ref (ad 0)), (1, .int t), (2, .int aw), (3, .int fo), (4, .int (nI k))] → (∀ ls : Array Slot, lv_has ls 5 [(0, .ref (ad 0)), (1, .int t), (2, .int aw), (3, .int (F_X4_groupsAmong_L12 z v f t aw n12 fo k))] → W p l e (headSpec wsX4_groupsAmong ({ frames := 2, cells := 0, slots := 0, locals := 44 })).room s m ([.ref (ad 0), .int t, .int aw] : List Value).toArray below meth c s.heap [] 0 0 Q9 (F0 m 37 ls [])) → W p l e (headSpec wsX4_groupsAmong ({ frames := 2, cells := 0, slots := 0, locals := 44 })).room s m ([.ref (ad 0), .int t, .int aw] : List Value).toArray below meth c s.heap [] 0 0 Q9 (F0 m 12 ls []) := by
    intro n12
    induction n12 with
    | zero =>
      intro fo k ls hk12 hn12
      exact absurd hn12 (by omega)
    | succ n12 ih12 =>
      intro fo k ls hk12 hn12 hl hq12
      generalize hF12 : F_X4_groupsAmong_L12 z v f t aw (n12 + 1) fo k = R12 at hq12
      rw [F_X4_groupsAmong_L12] at hF12
      refine lv_iload hx hb dX4_groupsAmong_12 (lv_at hl 4 rfl) ?_
      refine lv_aload_n hx hb dX4_groupsAmong_14 rfl (lv_at hl 0 rfl) ?_
      refine va_get (D := (dC, dI)) (ci := 4) (v := .int (nI (z 0))) (C := RX4) (T := TX4) (N := 11) hx hb hts hinX4 hown hK hP 0 rfl rfl 0 (by decide) hfl7 (fun _ h9 => h9) rfl dX4_groupsAmong_15 ?_
      refine lv_icmp_ge (tgt := 37) hx hb dX4_groupsAmong_18 (by decide) (fun c1 => ?_) (fun c1 => ?_)
      · have c1 : z 0 ≤ k := (nI_leI (a := z 0) (b := k) (by omega) (by omega)).mp c1
        rw [if_pos c1] at hF12
        subst hF12
        exact hq12 ls (lv_sub hl [0, 1, 2, 3] rfl)
      · have c1 : ¬ z 0 ≤ k := fun h9 => c1 ((nI_leI (a := z 0) (b := k) (by omega) (by omega)).mpr h9)
        rw [if_neg c1] at hF12
        refine lv_iload_n hx hb dX4_groupsAmong_21 rfl (lv_at hl 3 rfl) ?_
        refine lv_aload_n hx hb dX4_groupsAmong_22 rfl (lv_at hl 0 rfl) ?_
        refine lv_iload_n hx hb dX4_groupsAmong_23 rfl (lv_at hl 3 rfl) ?_
        refine vp_callSi (W.runV (As := [.int fo]) (rest := [.int fo]) ⟨hx, hb, hml, hown, hts⟩ (c_X4_groupsOfAll l dC dI ad cI cZ z v f fo hok) (cwV 1 hts gX4_groupsAmong_X4_groupsOfAll rfl rfl rfl (by decide +kernel) ⟨Nat.le_of_ble_eq_true rfl, Nat.le_of_ble_eq_true rfl⟩) (preX (ci := 4) (q0 := 0) hP hK hN rfl rfl rfl) rfl rfl hl.1 rfl (lv_room (Nat.le_of_ble_eq_true rfl)) dX4_groupsAmong_24 ⟨Nat.zero_le _, Nat.zero_le _⟩) (fun r2 h9 => ?_)
        have hr2 : r2 = F_X4_groupsOfAll z v f fo := h9
        try rw [← hr2] at hF
        try rw [← hr2] at hF12
        refine lv_iload_n hx hb dX4_groupsAmong_27 rfl (lv_at hl 2 rfl) ?_
        refine lv_iand hx hb dX4_groupsAmong_28 ?_
        refine lv_ior hx hb dX4_groupsAmong_29 ?_
        refine lv_istore_n (lv' := [(3, .int (fo ||| (r2 &&& aw))), (0, .ref (ad 0)), (1, .int t), (2, .int aw), (4, .int (nI k))]) hx hb dX4_groupsAmong_30 rfl hl (by decide) rfl (fun ls hl => ?_)
        refine lv_iinc (v := nI (k + 1)) (lv' := [(4, .int (nI (k + 1))), (3, .int (fo ||| (r2 &&& aw))), (0, .ref (ad 0)), (1, .int t), (2, .int aw)]) hx hb dX4_groupsAmong_31 hl (k := 4) rfl (xi_inc _) (by decide) rfl (fun ls hl => ?_)
        refine lv_goto (tgt := 12) hx hb dX4_groupsAmong_34 (by decide) ?_
        exact ih12 (fo ||| (r2 &&& aw)) (k + 1) ls (by omega) (by omega) (lv_sub hl [2, 3, 4, 1, 0] rfl) (by rw [hF12]; exact hq12)
  refine lp12 (z 0 + 1) ((f 0 t.toNatClampNeg) &&& aw) 2 ls (by omega) (by omega) (lv_sub hl [2, 3, 4, 1, 0] rfl) (fun ls hl => ?_)
  obtain ⟨r3, hr3⟩ : ∃ y, y = (F_X4_groupsAmong_L12 z v f t aw (z 0 + 1) ((f 0 t.toNatClampNeg) &&& aw) 2) := ⟨_, rfl⟩
  rw [← hr3] at hl
  try rw [← hr3] at hF
  refine lv_iload_n hx hb dX4_groupsAmong_37 rfl (lv_at hl 3 rfl) ?_
  subst hQ9
  exact W.iret hx hb hr (fun t ht hW => ⟨_, rfl, hF, ht⟩) (fun q h => by cases h) dX4_groupsAmong_38
end
section
def F_X2_isOnDay (z : Nat → Nat) (v : Nat → Int32) (f : Nat → Nat → Int32) (i day : Int32) : Int32 :=
  if day < f 8 i.toNatClampNeg then
    0
  else
    if f 9 i.toNatClampNeg < day then
      0
    else
      1
set_option maxHeartbeats 4000000 in
set_option maxRecDepth 100000 in
theorem c_X2_isOnDay (l : Launch) (dC : Nat → ClassId) (dI : Nat → Nat → Nat) (ad : Nat → Nat) (cI cZ : ClassId) (z : Nat → Nat) (v : Nat → Int32) (f : Nat → Nat → Int32) (i day : Int32) (hok : okX z v f) (hi : vp_in i 60) : Met l yX2_isOnDay wsX2_isOnDay ({ frames := 0, cells := 0, slots := 0, locals := 0 }) (va_Pc [.ref (ad 6), .int i, .int day] (kX dC dI ad cI cZ z v f)) (vp_Si (fun r => r = F_X2_isOnDay z v f i day)) 0 0 (fun _ => False) := by
  refine Met.ofW (cc := cX2_isOnDay) (maxL := 3) (ret := (some .boolean)) (by decide) rfl ?_
  intro p e s m args below meth c s₁ B hml hv
  obtain ⟨rfl, hP, hK, hN⟩ := hv
  have hx := B.exec
  have hb := B.bytes
  have hr := B.returns
  have hts := atoms_spec (ws := wsX2_isOnDay) B.pre
  have hown : s.vm.findClass RX2 = some m.cls := findClass_of_methodNamed B.named
  have hlocks := B.notSynchronized
  have hok9 := hok
  obtain ⟨hz0, hz1, hz2, hz3, hz4, hbz, hbs⟩ := hok9
  have hfl25 := hts (.fieldLink RX2 25 "TraderRights$Rights" "from" "[I") (List.mem_of_getElem? (i := 1) rfl)
  have hfl28 := hts (.fieldLink RX2 28 "TraderRights$Rights" "to" "[I") (List.mem_of_getElem? (i := 2) rfl)
  have hinX2 : ∀ w ∈ u_ws RX2 TX2 6, w ∈ wsX2_isOnDay := fun w h => List.mem_cons_of_mem _ (List.mem_append_right _ h)
  have hl := lv_entry ([.ref (ad 6), .int i, .int day]) (n := 3) (Nat.le_of_ble_eq_true rfl)
  rw [lg_entry_eq]
  generalize (lg_sl ([.ref (ad 6), .int i, .int day]) ++ List.replicate (3 - (lg_sl ([.ref (ad 6), .int i, .int day])).length) Slot.unset).toArray = ls at hl ⊢
  have hl : lv_has ls 3 [(0, .ref (ad 6)), (1, .int i), (2, .int day)] := hl
  generalize hF : F_X2_isOnDay z v f i day = R9
  generalize hQ9 : MQ below (vp_Si (fun r => r = R9)) _ s 0 0 (fun _ => False) = Q9
  rw [F_X2_isOnDay] at hF
  refine lv_aload_n hx hb dX2_isOnDay_0 rfl (lv_at hl 0 rfl) ?_
  refine va_get (D := (dC, dI)) (ci := 2) (v := .ref (ad 10)) (C := RX2) (T := TX2) (N := 6) hx hb hts hinX2 hown hK hP 6 rfl rfl 4 (by decide) hfl25 (fun _ h9 => h9) rfl dX2_isOnDay_1 ?_
  refine lv_iload_n hx hb dX2_isOnDay_4 rfl (lv_at hl 1 rfl) ?_
  refine va_iald hx hb hK hP 10 0 rfl rfl hi dX2_isOnDay_5 ?_
  refine lv_iload_n hx hb dX2_isOnDay_6 rfl (lv_at hl 2 rfl) ?_
  refine lv_icmp_gt (tgt := 24) hx hb dX2_isOnDay_7 (by decide) (fun c1 => ?_) (fun c1 => ?_)
  · rw [if_pos c1] at hF
    refine lv_iconst (v := 0) hx hb dX2_isOnDay_24 (by decide) ?_
    subst hQ9
    exact W.zret (ty := .boolean) hx hb hr rfl (fun t ht hW => ⟨_, rfl, hF, ht⟩) (fun q h => by cases h) dX2_isOnDay_25
  · rw [if_neg c1] at hF
    refine lv_iload_n hx hb dX2_isOnDay_10 rfl (lv_at hl 2 rfl) ?_
    refine lv_aload_n hx hb dX2_isOnDay_11 rfl (lv_at hl 0 rfl) ?_
    refine va_get (D := (dC, dI)) (ci := 2) (v := .ref (ad 11)) (C := RX2) (T := TX2) (N := 6) hx hb hts hinX2 hown hK hP 6 rfl rfl 5 (by decide) hfl28 (fun _ h9 => h9) rfl dX2_isOnDay_12 ?_
    refine lv_iload_n hx hb dX2_isOnDay_15 rfl (lv_at hl 1 rfl) ?_
    refine va_iald hx hb hK hP 11 0 rfl rfl hi dX2_isOnDay_16 ?_
    refine lv_icmp_gt (tgt := 24) hx hb dX2_isOnDay_17 (by decide) (fun c2 => ?_) (fun c2 => ?_)
    · rw [if_pos c2] at hF
      refine lv_iconst (v := 0) hx hb dX2_isOnDay_24 (by decide) ?_
      subst hQ9
      exact W.zret (ty := .boolean) hx hb hr rfl (fun t ht hW => ⟨_, rfl, hF, ht⟩) (fun q h => by cases h) dX2_isOnDay_25
    · rw [if_neg c2] at hF
      refine lv_iconst (v := 1) hx hb dX2_isOnDay_20 (by decide) ?_
      refine lv_goto (tgt := 25) hx hb dX2_isOnDay_21 (by decide) ?_
      subst hQ9
      exact W.zret (ty := .boolean) hx hb hr rfl (fun t ht hW => ⟨_, rfl, hF, ht⟩) (fun q h => by cases h) dX2_isOnDay_25
def F_X2_tradersWith_L6 (z : Nat → Nat) (v : Nat → Int32) (f : Nat → Nat → Int32) (a pl day : Int32)  : Nat → Int32 → Nat → Int32
  | 0, fo, k => fo
  | n6 + 1, fo, k =>
    if z 1 ≤ k then
      fo
    else
      if f 7 k = (-1) then
        if f 6 k = a then
          if F_X2_isOnDay z v f (nI k) day = 0 then
            F_X2_tradersWith_L6 z v f a pl day n6 fo (k + 1)
          else
            F_X2_tradersWith_L6 z v f a pl day n6 (fo ||| (F_X4_bit (f 5 k))) (k + 1)
        else
          F_X2_tradersWith_L6 z v f a pl day n6 fo (k + 1)
      else
        if f 7 k = pl then
          if f 6 k = a then
            if F_X2_isOnDay z v f (nI k) day = 0 then
              F_X2_tradersWith_L6 z v f a pl day n6 fo (k + 1)
            else
              F_X2_tradersWith_L6 z v f a pl day n6 (fo ||| (F_X4_bit (f 5 k))) (k + 1)
          else
            F_X2_tradersWith_L6 z v f a pl day n6 fo (k + 1)
        else
          if f 6 k = a then
            F_X2_tradersWith_L6 z v f a pl day n6 fo (k + 1)
          else
            F_X2_tradersWith_L6 z v f a pl day n6 fo (k + 1)
def F_X2_tradersWith (z : Nat → Nat) (v : Nat → Int32) (f : Nat → Nat → Int32) (a pl day : Int32) : Int32 :=
  (F_X2_tradersWith_L6 z v f a pl day (z 1 + 1) 0 0)
set_option maxHeartbeats 4000000 in
set_option maxRecDepth 100000 in
theorem c_X2_tradersWith (l : Launch) (dC : Nat → ClassId) (dI : Nat → Nat → Nat) (ad : Nat → Nat) (cI cZ : ClassId) (z : Nat → Nat) (v : Nat → Int32) (f : Nat → Nat → Int32) (a pl day : Int32) (hok : okX z v f) : Met l yX2_tradersWith wsX2_tradersWith ({ frames := 1, cells := 0, slots := 0, locals := 22 }) (va_Pc [.ref (ad 6), .int a, .int pl, .int day] (kX dC dI ad cI cZ z v f)) (vp_Si (fun r => r = F_X2_tradersWith z v f a pl day)) 0 0 (fun _ => False) := by
  refine Met.ofW (cc := cX2_tradersWith) (maxL := 7) (ret := (some .int)) (by decide) rfl ?_
  intro p e s m args below meth c s₁ B hml hv
  obtain ⟨rfl, hP, hK, hN⟩ := hv
  have hx := B.exec
  have hb := B.bytes
  have hr := B.returns
  have hts := atoms_spec (ws := wsX2_tradersWith) B.pre
  have hown : s.vm.findClass RX2 = some m.cls := findClass_of_methodNamed B.named
  have hlocks := B.notSynchronized
  have hok9 := hok
  obtain ⟨hz0, hz1, hz2, hz3, hz4, hbz, hbs⟩ := hok9
  have hfl15 := hts (.fieldLink RX2 15 "TraderRights$Rights" "trader" "[I") (List.mem_of_getElem? (i := 4) rfl)
  have hfl19 := hts (.fieldLink RX2 19 "TraderRights$Rights" "act" "[I") (List.mem_of_getElem? (i := 3) rfl)
  have hfl22 := hts (.fieldLink RX2 22 "TraderRights$Rights" "place" "[I") (List.mem_of_getElem? (i := 2) rfl)
  have hfl9 := hts (.fieldLink RX2 9 "TraderRights$Rights" "size" "I") (List.mem_of_getElem? (i := 1) rfl)
  have hinX2 : ∀ w ∈ u_ws RX2 TX2 6, w ∈ wsX2_tradersWith := fun w h => List.mem_cons_of_mem _ (List.mem_append_right _ h)
  have hiniX4 := hts (.initialized RX4) (List.mem_of_getElem? (i := 13) rfl)
  have hnw35 := hN (.methodLinkNest RX2 35 yX4_bit "TraderRights") (by decide +kernel)
  have hstX4_bit := hts (.static yX4_bit) (List.mem_of_getElem? (i := 12) rfl)
  have hl := lv_entry ([.ref (ad 6), .int a, .int pl, .int day]) (n := 7) (Nat.le_of_ble_eq_true rfl)
  rw [lg_entry_eq]
  generalize (lg_sl ([.ref (ad 6), .int a, .int pl, .int day]) ++ List.replicate (7 - (lg_sl ([.ref (ad 6), .int a, .int pl, .int day])).length) Slot.unset).toArray = ls at hl ⊢
  have hl : lv_has ls 7 [(0, .ref (ad 6)), (1, .int a), (2, .int pl), (3, .int day)] := hl
  generalize hF : F_X2_tradersWith z v f a pl day = R9
  generalize hQ9 : MQ below (vp_Si (fun r => r = R9)) _ s 0 0 (fun _ => False) = Q9
  rw [F_X2_tradersWith] at hF
  refine lv_iconst (v := 0) hx hb dX2_tradersWith_0 (by decide) ?_
  refine lv_istore (lv' := [(4, .int 0), (0, .ref (ad 6)), (1, .int a), (2, .int pl), (3, .int day)]) hx hb dX2_tradersWith_1 hl (by decide) rfl (fun ls hl => ?_)
  refine lv_iconst (v := 0) hx hb dX2_tradersWith_3 (by decide) ?_
  refine lv_istore (lv' := [(5, .int 0), (4, .int 0), (0, .ref (ad 6)), (1, .int a), (2, .int pl), (3, .int day)]) hx hb dX2_tradersWith_4 hl (by decide) rfl (fun ls hl => ?_)
  have lp6 : ∀ (n6 : Nat) (fo : Int32) (k : Nat) (ls : Array Slot), k ≤ z 1 → z 1 < k + n6 → lv_has ls 7 [(0, .ref (ad 6)), (1, .int a), (2, .int pl), (3, .int day), (4, .int fo), (5, .int (nI k))] → (∀ ls : Array Slot, lv_has ls 7 [(0, .ref (ad 6)), (1, .int a), (2, .int pl), (3, .int day), (4, .int (F_X2_tradersWith_L6 z v f a pl day n6 fo k))] → W p l e (headSpec wsX2_tradersWith ({ frames := 1, cells := 0, slots := 0, locals := 22 })).room s m ([.ref (ad 6), .int a, .int pl, .int day] : List Value).toArray below meth c s.heap [] 0 0 Q9 (F0 m 91 ls [])) → W p l e (headSpec wsX2_tradersWith ({ frames := 1, cells := 0, slots := 0, locals := 22 })).room s m ([.ref (ad 6), .int a, .int pl, .int day] : List Value).toArray below meth c s.heap [] 0 0 Q9 (F0 m 6 ls []) := by
    intro n6
    induction n6 with
    | zero =>
      intro fo k ls hk6 hn6
      exact absurd hn6 (by omega)
    | succ n6 ih6 =>
      intro fo k ls hk6 hn6 hl hq6
      generalize hF6 : F_X2_tradersWith_L6 z v f a pl day (n6 + 1) fo k = R6 at hq6
      rw [F_X2_tradersWith_L6] at hF6
      refine lv_iload hx hb dX2_tradersWith_6 (lv_at hl 5 rfl) ?_
      refine lv_aload_n hx hb dX2_tradersWith_8 rfl (lv_at hl 0 rfl) ?_
      refine va_get (D := (dC, dI)) (ci := 2) (v := .int (nI (z 1))) (C := RX2) (T := TX2) (N := 6) hx hb hts hinX2 hown hK hP 6 rfl rfl 0 (by decide) hfl9 (fun _ h9 => h9) rfl dX2_tradersWith_9 ?_
      refine lv_icmp_ge (tgt := 91) hx hb dX2_tradersWith_12 (by decide) (fun c1 => ?_) (fun c1 => ?_)
      · have c1 : z 1 ≤ k := (nI_leI (a := z 1) (b := k) (by omega) (by omega)).mp c1
        rw [if_pos c1] at hF6
        subst hF6
        exact hq6 ls (lv_sub hl [0, 1, 2, 3, 4] rfl)
      · have c1 : ¬ z 1 ≤ k := fun h9 => c1 ((nI_leI (a := z 1) (b := k) (by omega) (by omega)).mpr h9)
        rw [if_neg c1] at hF6
        refine lv_aload_n hx hb dX2_tradersWith_15 rfl (lv_at hl 0 rfl) ?_
        refine va_get (D := (dC, dI)) (ci := 2) (v := .ref (ad 9)) (C := RX2) (T := TX2) (N := 6) hx hb hts hinX2 hown hK hP 6 rfl rfl 3 (by decide) hfl22 (fun _ h9 => h9) rfl dX2_tradersWith_16 ?_
        refine lv_iload hx hb dX2_tradersWith_19 (lv_at hl 5 rfl) ?_
        refine xa_ild hx hb hK hP 9 0 rfl rfl (by omega) (by decide) dX2_tradersWith_21 ?_
        refine lv_iconst (v := (-1)) hx hb dX2_tradersWith_22 (by decide) ?_
        refine lv_icmp_eq (tgt := 37) hx hb dX2_tradersWith_23 (by decide) (fun c2 => ?_) (fun c2 => ?_)
        · rw [if_pos c2] at hF6
          refine lv_iconst (v := 1) hx hb dX2_tradersWith_37 (by decide) ?_
          refine lv_goto (tgt := 42) hx hb dX2_tradersWith_38 (by decide) ?_
          refine lv_istore (lv' := [(6, .int 1), (0, .ref (ad 6)), (1, .int a), (2, .int pl), (3, .int day), (4, .int fo), (5, .int (nI k))]) hx hb dX2_tradersWith_42 hl (by decide) rfl (fun ls hl => ?_)
          refine lv_aload_n hx hb dX2_tradersWith_44 rfl (lv_at hl 1 rfl) ?_
          refine va_get (D := (dC, dI)) (ci := 2) (v := .ref (ad 8)) (C := RX2) (T := TX2) (N := 6) hx hb hts hinX2 hown hK hP 6 rfl rfl 2 (by decide) hfl19 (fun _ h9 => h9) rfl dX2_tradersWith_45 ?_
          refine lv_iload hx hb dX2_tradersWith_48 (lv_at hl 6 rfl) ?_
          refine xa_ild hx hb hK hP 8 0 rfl rfl (by omega) (by decide) dX2_tradersWith_50 ?_
          refine lv_iload_n hx hb dX2_tradersWith_51 rfl (lv_at hl 2 rfl) ?_
          refine lv_icmp_ne (tgt := 85) hx hb dX2_tradersWith_52 (by decide) (fun c3 => ?_) (fun c3 => ?_)
          · rw [if_neg c3] at hF6
            refine lv_iinc (v := nI (k + 1)) (lv' := [(5, .int (nI (k + 1))), (6, .int 1), (0, .ref (ad 6)), (1, .int a), (2, .int pl), (3, .int day), (4, .int fo)]) hx hb dX2_tradersWith_85 hl (k := 6) rfl (xi_inc _) (by decide) rfl (fun ls hl => ?_)
            refine lv_goto (tgt := 6) hx hb dX2_tradersWith_88 (by decide) ?_
            exact ih6 fo (k + 1) ls (by omega) (by omega) (lv_sub hl [2, 3, 4, 5, 6, 0] rfl) (by rw [hF6]; exact hq6)
          · rw [if_pos c3] at hF6
            refine lv_iload hx hb dX2_tradersWith_55 (lv_at hl 0 rfl) ?_
            refine lv_if_eq (tgt := 85) hx hb dX2_tradersWith_57 (by decide) (fun c9 => absurd c9 (by decide)) (fun _ => ?_)
            refine lv_aload_n hx hb dX2_tradersWith_60 rfl (lv_at hl 1 rfl) ?_
            refine lv_iload hx hb dX2_tradersWith_61 (lv_at hl 6 rfl) ?_
            refine lv_iload_n hx hb dX2_tradersWith_63 rfl (lv_at hl 4 rfl) ?_
            refine vp_callSi (W.runV (As := [.int (nI k), .int day]) (rest := []) ⟨hx, hb, hml, hown, hts⟩ (c_X2_isOnDay l dC dI ad cI cZ z v f (nI k) day hok (vp_in_nI (by omega) (by omega))) (cwV 2 hts gX2_tradersWith_X2_isOnDay rfl rfl rfl (by decide +kernel) ⟨Nat.le_of_ble_eq_true rfl, Nat.le_of_ble_eq_true rfl⟩) (preX (ci := 2) (q0 := 6) hP hK hN rfl rfl rfl) rfl rfl hl.1 rfl (lv_room (Nat.le_of_ble_eq_true rfl)) dX2_tradersWith_64 ⟨Nat.zero_le _, Nat.zero_le _⟩) (fun r4 h9 => ?_)
            have hr4 : r4 = F_X2_isOnDay z v f (nI k) day := h9
            try rw [← hr4] at hF
            try rw [← hr4] at hF6
            refine lv_if_eq (tgt := 85) hx hb dX2_tradersWith_67 (by decide) (fun c5 => ?_) (fun c5 => ?_)
            · rw [if_pos c5] at hF6
              have c5f : F_X2_isOnDay z v f (nI k) day = 0 := by rw [← hr4]; exact c5
              refine lv_iinc (v := nI (k + 1)) (lv' := [(5, .int (nI (k + 1))), (6, .int 1), (0, .ref (ad 6)), (1, .int a), (2, .int pl), (3, .int day), (4, .int fo)]) hx hb dX2_tradersWith_85 hl (k := 6) rfl (xi_inc _) (by decide) rfl (fun ls hl => ?_)
              refine lv_goto (tgt := 6) hx hb dX2_tradersWith_88 (by decide) ?_
              exact ih6 fo (k + 1) ls (by omega) (by omega) (lv_sub hl [2, 3, 4, 5, 6, 0] rfl) (by rw [hF6]; exact hq6)
            · rw [if_neg c5] at hF6
              have c5f : ¬ F_X2_isOnDay z v f (nI k) day = 0 := by rw [← hr4]; exact c5
              refine lv_iload hx hb dX2_tradersWith_70 (lv_at hl 5 rfl) ?_
              refine lv_aload_n hx hb dX2_tradersWith_72 rfl (lv_at hl 1 rfl) ?_
              refine va_get (D := (dC, dI)) (ci := 2) (v := .ref (ad 7)) (C := RX2) (T := TX2) (N := 6) hx hb hts hinX2 hown hK hP 6 rfl rfl 1 (by decide) hfl15 (fun _ h9 => h9) rfl dX2_tradersWith_73 ?_
              refine lv_iload hx hb dX2_tradersWith_76 (lv_at hl 6 rfl) ?_
              refine xa_ild hx hb hK hP 7 0 rfl rfl (by omega) (by decide) dX2_tradersWith_78 ?_
              refine vp_callSi (va_Run.run (va_runSN (As := [.int (f 5 k)]) (rest := [.int fo]) ⟨hx, hb, hml, hown, hts⟩ (c_X4_bit l (f 5 k)) ⟨(va_cnB 1 hts gX2_tradersWith_X4_bit_n35 rfl rfl rfl hnw35 hiniX4 (by decide +kernel) ⟨Nat.le_of_ble_eq_true rfl, Nat.le_of_ble_eq_true rfl⟩), hstX4_bit, trivial⟩ preT rfl rfl hl.1 rfl (lv_room (Nat.le_of_ble_eq_true rfl)) dX2_tradersWith_79 ⟨Nat.zero_le _, Nat.zero_le _⟩)) (fun r6 h9 => ?_)
              have hr6 : r6 = F_X4_bit (f 5 k) := h9
              try rw [← hr6] at hF
              try rw [← hr6] at hF6
              refine lv_ior hx hb dX2_tradersWith_82 ?_
              refine lv_istore (lv' := [(4, .int (fo ||| r6)), (6, .int 1), (0, .ref (ad 6)), (1, .int a), (2, .int pl), (3, .int day), (5, .int (nI k))]) hx hb dX2_tradersWith_83 hl (by decide) rfl (fun ls hl => ?_)
              refine lv_iinc (v := nI (k + 1)) (lv' := [(5, .int (nI (k + 1))), (4, .int (fo ||| r6)), (6, .int 1), (0, .ref (ad 6)), (1, .int a), (2, .int pl), (3, .int day)]) hx hb dX2_tradersWith_85 hl (k := 6) rfl (xi_inc _) (by decide) rfl (fun ls hl => ?_)
              refine lv_goto (tgt := 6) hx hb dX2_tradersWith_88 (by decide) ?_
              exact ih6 (fo ||| r6) (k + 1) ls (by omega) (by omega) (lv_sub hl [3, 4, 5, 6, 1, 0] rfl) (by rw [hF6]; exact hq6)
        · rw [if_neg c2] at hF6
          refine lv_aload_n hx hb dX2_tradersWith_26 rfl (lv_at hl 0 rfl) ?_
          refine va_get (D := (dC, dI)) (ci := 2) (v := .ref (ad 9)) (C := RX2) (T := TX2) (N := 6) hx hb hts hinX2 hown hK hP 6 rfl rfl 3 (by decide) hfl22 (fun _ h9 => h9) rfl dX2_tradersWith_27 ?_
          refine lv_iload hx hb dX2_tradersWith_30 (lv_at hl 5 rfl) ?_
          refine xa_ild hx hb hK hP 9 0 rfl rfl (by omega) (by decide) dX2_tradersWith_32 ?_
          refine lv_iload_n hx hb dX2_tradersWith_33 rfl (lv_at hl 2 rfl) ?_
          refine lv_icmp_ne (tgt := 41) hx hb dX2_tradersWith_34 (by decide) (fun c7 => ?_) (fun c7 => ?_)
          · rw [if_neg c7] at hF6
            refine lv_iconst (v := 0) hx hb dX2_tradersWith_41 (by decide) ?_
            refine lv_istore (lv' := [(6, .int 0), (0, .ref (ad 6)), (1, .int a), (2, .int pl), (3, .int day), (4, .int fo), (5, .int (nI k))]) hx hb dX2_tradersWith_42 hl (by decide) rfl (fun ls hl => ?_)
            refine lv_aload_n hx hb dX2_tradersWith_44 rfl (lv_at hl 1 rfl) ?_
            refine va_get (D := (dC, dI)) (ci := 2) (v := .ref (ad 8)) (C := RX2) (T := TX2) (N := 6) hx hb hts hinX2 hown hK hP 6 rfl rfl 2 (by decide) hfl19 (fun _ h9 => h9) rfl dX2_tradersWith_45 ?_
            refine lv_iload hx hb dX2_tradersWith_48 (lv_at hl 6 rfl) ?_
            refine xa_ild hx hb hK hP 8 0 rfl rfl (by omega) (by decide) dX2_tradersWith_50 ?_
            refine lv_iload_n hx hb dX2_tradersWith_51 rfl (lv_at hl 2 rfl) ?_
            refine lv_icmp_ne (tgt := 85) hx hb dX2_tradersWith_52 (by decide) (fun c8 => ?_) (fun c8 => ?_)
            · rw [if_neg c8] at hF6
              refine lv_iinc (v := nI (k + 1)) (lv' := [(5, .int (nI (k + 1))), (6, .int 0), (0, .ref (ad 6)), (1, .int a), (2, .int pl), (3, .int day), (4, .int fo)]) hx hb dX2_tradersWith_85 hl (k := 6) rfl (xi_inc _) (by decide) rfl (fun ls hl => ?_)
              refine lv_goto (tgt := 6) hx hb dX2_tradersWith_88 (by decide) ?_
              exact ih6 fo (k + 1) ls (by omega) (by omega) (lv_sub hl [2, 3, 4, 5, 6, 0] rfl) (by rw [hF6]; exact hq6)
            · rw [if_pos c8] at hF6
              refine lv_iload hx hb dX2_tradersWith_55 (lv_at hl 0 rfl) ?_
              refine lv_if_eq (tgt := 85) hx hb dX2_tradersWith_57 (by decide) (fun _ => ?_) (fun c9 => absurd c9 (by decide))
              refine lv_iinc (v := nI (k + 1)) (lv' := [(5, .int (nI (k + 1))), (6, .int 0), (0, .ref (ad 6)), (1, .int a), (2, .int pl), (3, .int day), (4, .int fo)]) hx hb dX2_tradersWith_85 hl (k := 6) rfl (xi_inc _) (by decide) rfl (fun ls hl => ?_)
              refine lv_goto (tgt := 6) hx hb dX2_tradersWith_88 (by decide) ?_
              exact ih6 fo (k + 1) ls (by omega) (by omega) (lv_sub hl [2, 3, 4, 5, 6, 0] rfl) (by rw [hF6]; exact hq6)
          · rw [if_pos c7] at hF6
            refine lv_iconst (v := 1) hx hb dX2_tradersWith_37 (by decide) ?_
            refine lv_goto (tgt := 42) hx hb dX2_tradersWith_38 (by decide) ?_
            refine lv_istore (lv' := [(6, .int 1), (0, .ref (ad 6)), (1, .int a), (2, .int pl), (3, .int day), (4, .int fo), (5, .int (nI k))]) hx hb dX2_tradersWith_42 hl (by decide) rfl (fun ls hl => ?_)
            refine lv_aload_n hx hb dX2_tradersWith_44 rfl (lv_at hl 1 rfl) ?_
            refine va_get (D := (dC, dI)) (ci := 2) (v := .ref (ad 8)) (C := RX2) (T := TX2) (N := 6) hx hb hts hinX2 hown hK hP 6 rfl rfl 2 (by decide) hfl19 (fun _ h9 => h9) rfl dX2_tradersWith_45 ?_
            refine lv_iload hx hb dX2_tradersWith_48 (lv_at hl 6 rfl) ?_
            refine xa_ild hx hb hK hP 8 0 rfl rfl (by omega) (by decide) dX2_tradersWith_50 ?_
            refine lv_iload_n hx hb dX2_tradersWith_51 rfl (lv_at hl 2 rfl) ?_
            refine lv_icmp_ne (tgt := 85) hx hb dX2_tradersWith_52 (by decide) (fun c9 => ?_) (fun c9 => ?_)
            · rw [if_neg c9] at hF6
              refine lv_iinc (v := nI (k + 1)) (lv' := [(5, .int (nI (k + 1))), (6, .int 1), (0, .ref (ad 6)), (1, .int a), (2, .int pl), (3, .int day), (4, .int fo)]) hx hb dX2_tradersWith_85 hl (k := 6) rfl (xi_inc _) (by decide) rfl (fun ls hl => ?_)
              refine lv_goto (tgt := 6) hx hb dX2_tradersWith_88 (by decide) ?_
              exact ih6 fo (k + 1) ls (by omega) (by omega) (lv_sub hl [2, 3, 4, 5, 6, 0] rfl) (by rw [hF6]; exact hq6)
            · rw [if_pos c9] at hF6
              refine lv_iload hx hb dX2_tradersWith_55 (lv_at hl 0 rfl) ?_
              refine lv_if_eq (tgt := 85) hx hb dX2_tradersWith_57 (by decide) (fun c9 => absurd c9 (by decide)) (fun _ => ?_)
              refine lv_aload_n hx hb dX2_tradersWith_60 rfl (lv_at hl 1 rfl) ?_
              refine lv_iload hx hb dX2_tradersWith_61 (lv_at hl 6 rfl) ?_
              refine lv_iload_n hx hb dX2_tradersWith_63 rfl (lv_at hl 4 rfl) ?_
              refine vp_callSi (W.runV (As := [.int (nI k), .int day]) (rest := []) ⟨hx, hb, hml, hown, hts⟩ (c_X2_isOnDay l dC dI ad cI cZ z v f (nI k) day hok (vp_in_nI (by omega) (by omega))) (cwV 2 hts gX2_tradersWith_X2_isOnDay rfl rfl rfl (by decide +kernel) ⟨Nat.le_of_ble_eq_true rfl, Nat.le_of_ble_eq_true rfl⟩) (preX (ci := 2) (q0 := 6) hP hK hN rfl rfl rfl) rfl rfl hl.1 rfl (lv_room (Nat.le_of_ble_eq_true rfl)) dX2_tradersWith_64 ⟨Nat.zero_le _, Nat.zero_le _⟩) (fun r10 h9 => ?_)
              have hr10 : r10 = F_X2_isOnDay z v f (nI k) day := h9
              try rw [← hr10] at hF
              try rw [← hr10] at hF6
              refine lv_if_eq (tgt := 85) hx hb dX2_tradersWith_67 (by decide) (fun c11 => ?_) (fun c11 => ?_)
              · rw [if_pos c11] at hF6
                have c11f : F_X2_isOnDay z v f (nI k) day = 0 := by rw [← hr10]; exact c11
                refine lv_iinc (v := nI (k + 1)) (lv' := [(5, .int (nI (k + 1))), (6, .int 1), (0, .ref (ad 6)), (1, .int a), (2, .int pl), (3, .int day), (4, .int fo)]) hx hb dX2_tradersWith_85 hl (k := 6) rfl (xi_inc _) (by decide) rfl (fun ls hl => ?_)
                refine lv_goto (tgt := 6) hx hb dX2_tradersWith_88 (by decide) ?_
                exact ih6 fo (k + 1) ls (by omega) (by omega) (lv_sub hl [2, 3, 4, 5, 6, 0] rfl) (by rw [hF6]; exact hq6)
              · rw [if_neg c11] at hF6
                have c11f : ¬ F_X2_isOnDay z v f (nI k) day = 0 := by rw [← hr10]; exact c11
                refine lv_iload hx hb dX2_tradersWith_70 (lv_at hl 5 rfl) ?_
                refine lv_aload_n hx hb dX2_tradersWith_72 rfl (lv_at hl 1 rfl) ?_
                refine va_get (D := (dC, dI)) (ci := 2) (v := .ref (ad 7)) (C := RX2) (T := TX2) (N := 6) hx hb hts hinX2 hown hK hP 6 rfl rfl 1 (by decide) hfl15 (fun _ h9 => h9) rfl dX2_tradersWith_73 ?_
                refine lv_iload hx hb dX2_tradersWith_76 (lv_at hl 6 rfl) ?_
                refine xa_ild hx hb hK hP 7 0 rfl rfl (by omega) (by decide) dX2_tradersWith_78 ?_
                refine vp_callSi (va_Run.run (va_runSN (As := [.int (f 5 k)]) (rest := [.int fo]) ⟨hx, hb, hml, hown, hts⟩ (c_X4_bit l (f 5 k)) ⟨(va_cnB 1 hts gX2_tradersWith_X4_bit_n35 rfl rfl rfl hnw35 hiniX4 (by decide +kernel) ⟨Nat.le_of_ble_eq_true rfl, Nat.le_of_ble_eq_true rfl⟩), hstX4_bit, trivial⟩ preT rfl rfl hl.1 rfl (lv_room (Nat.le_of_ble_eq_true rfl)) dX2_tradersWith_79 ⟨Nat.zero_le _, Nat.zero_le _⟩)) (fun r12 h9 => ?_)
                have hr12 : r12 = F_X4_bit (f 5 k) := h9
                try rw [← hr12] at hF
                try rw [← hr12] at hF6
                refine lv_ior hx hb dX2_tradersWith_82 ?_
                refine lv_istore (lv' := [(4, .int (fo ||| r12)), (6, .int 1), (0, .ref (ad 6)), (1, .int a), (2, .int pl), (3, .int day), (5, .int (nI k))]) hx hb dX2_tradersWith_83 hl (by decide) rfl (fun ls hl => ?_)
                refine lv_iinc (v := nI (k + 1)) (lv' := [(5, .int (nI (k + 1))), (4, .int (fo ||| r12)), (6, .int 1), (0, .ref (ad 6)), (1, .int a), (2, .int pl), (3, .int day)]) hx hb dX2_tradersWith_85 hl (k := 6) rfl (xi_inc _) (by decide) rfl (fun ls hl => ?_)
                refine lv_goto (tgt := 6) hx hb dX2_tradersWith_88 (by decide) ?_
                exact ih6 (fo ||| r12) (k + 1) ls (by omega) (by omega) (lv_sub hl [3, 4, 5, 6, 1, 0] rfl) (by rw [hF6]; exact hq6)
  refine lp6 (z 1 + 1) 0 0 ls (by omega) (by omega) (lv_sub hl [2, 3, 4, 5, 1, 0] rfl) (fun ls hl => ?_)
  obtain ⟨r13, hr13⟩ : ∃ y, y = (F_X2_tradersWith_L6 z v f a pl day (z 1 + 1) 0 0) := ⟨_, rfl⟩
  rw [← hr13] at hl
  try rw [← hr13] at hF
  refine lv_iload hx hb dX2_tradersWith_91 (lv_at hl 4 rfl) ?_
  subst hQ9
  exact W.iret hx hb hr (fun t ht hW => ⟨_, rfl, hF, ht⟩) (fun q h => by cases h) dX2_tradersWith_93
def F_X2_actsOf_L5 (z : Nat → Nat) (v : Nat → Int32) (f : Nat → Nat → Int32) (so day : Int32)  : Nat → Int32 → Nat → Int32
  | 0, fo, k => fo
  | n5 + 1, fo, k =>
    if z 1 ≤ k then
      fo
    else
      if F_X4_holds so (f 5 k) = 0 then
        F_X2_actsOf_L5 z v f so day n5 fo (k + 1)
      else
        if F_X2_isOnDay z v f (nI k) day = 0 then
          F_X2_actsOf_L5 z v f so day n5 fo (k + 1)
        else
          F_X2_actsOf_L5 z v f so day n5 (fo ||| (F_X4_bit (f 6 k))) (k + 1)
def F_X2_actsOf (z : Nat → Nat) (v : Nat → Int32) (f : Nat → Nat → Int32) (so day : Int32) : Int32 :=
  (F_X2_actsOf_L5 z v f so day (z 1 + 1) 0 0)
set_option maxHeartbeats 4000000 in
set_option maxRecDepth 100000 in
theorem c_X2_actsOf (l : Launch) (dC : Nat → ClassId) (dI : Nat → Nat → Nat) (ad : Nat → Nat) (cI cZ : ClassId) (z : Nat → Nat) (v : Nat → Int32) (f : Nat → Nat → Int32) (so day : Int32) (hok : okX z v f) : Met l yX2_actsOf wsX2_actsOf ({ frames := 1, cells := 0, slots := 0, locals := 22 }) (va_Pc [.ref (ad 6), .int so, .int day] (kX dC dI ad cI cZ z v f)) (vp_Si (fun r => r = F_X2_actsOf z v f so day)) 0 0 (fun _ => False) := by
  refine Met.ofW (cc := cX2_actsOf) (maxL := 5) (ret := (some .int)) (by decide) rfl ?_
  intro p e s m args below meth c s₁ B hml hv
  obtain ⟨rfl, hP, hK, hN⟩ := hv
  have hx := B.exec
  have hb := B.bytes
  have hr := B.returns
  have hts := atoms_spec (ws := wsX2_actsOf) B.pre
  have hown : s.vm.findClass RX2 = some m.cls := findClass_of_methodNamed B.named
  have hlocks := B.notSynchronized
  have hok9 := hok
  obtain ⟨hz0, hz1, hz2, hz3, hz4, hbz, hbs⟩ := hok9
  have hfl15 := hts (.fieldLink RX2 15 "TraderRights$Rights" "trader" "[I") (List.mem_of_getElem? (i := 2) rfl)
  have hfl19 := hts (.fieldLink RX2 19 "TraderRights$Rights" "act" "[I") (List.mem_of_getElem? (i := 3) rfl)
  have hfl9 := hts (.fieldLink RX2 9 "TraderRights$Rights" "size" "I") (List.mem_of_getElem? (i := 1) rfl)
  have hinX2 : ∀ w ∈ u_ws RX2 TX2 6, w ∈ wsX2_actsOf := fun w h => List.mem_cons_of_mem _ (List.mem_append_right _ h)
  have hiniX4 := hts (.initialized RX4) (List.mem_of_getElem? (i := 5) rfl)
  have hnw35 := hN (.methodLinkNest RX2 35 yX4_bit "TraderRights") (by decide +kernel)
  have hnw39 := hN (.methodLinkNest RX2 39 yX4_holds "TraderRights") (by decide +kernel)
  have hstX4_bit := hts (.static yX4_bit) (List.mem_of_getElem? (i := 14) rfl)
  have hstX4_holds := hts (.static yX4_holds) (List.mem_of_getElem? (i := 4) rfl)
  have hl := lv_entry ([.ref (ad 6), .int so, .int day]) (n := 5) (Nat.le_of_ble_eq_true rfl)
  rw [lg_entry_eq]
  generalize (lg_sl ([.ref (ad 6), .int so, .int day]) ++ List.replicate (5 - (lg_sl ([.ref (ad 6), .int so, .int day])).length) Slot.unset).toArray = ls at hl ⊢
  have hl : lv_has ls 5 [(0, .ref (ad 6)), (1, .int so), (2, .int day)] := hl
  generalize hF : F_X2_actsOf z v f so day = R9
  generalize hQ9 : MQ below (vp_Si (fun r => r = R9)) _ s 0 0 (fun _ => False) = Q9
  rw [F_X2_actsOf] at hF
  refine lv_iconst (v := 0) hx hb dX2_actsOf_0 (by decide) ?_
  refine lv_istore_n (lv' := [(3, .int 0), (0, .ref (ad 6)), (1, .int so), (2, .int day)]) hx hb dX2_actsOf_1 rfl hl (by decide) rfl (fun ls hl => ?_)
  refine lv_iconst (v := 0) hx hb dX2_actsOf_2 (by decide) ?_
  refine lv_istore (lv' := [(4, .int 0), (3, .int 0), (0, .ref (ad 6)), (1, .int so), (2, .int day)]) hx hb dX2_actsOf_3 hl (by decide) rfl (fun ls hl => ?_)
  have lp5 : ∀ (n5 : Nat) (fo : Int32) (k : Nat) (ls : Array Slot), k ≤ z 1 → z 1 < k + n5 → lv_has ls 5 [(0, .ref (ad 6)), (1, .int so), (2, .int day), (3, .int fo), (4, .int (nI k))] → (∀ ls : Array Slot, lv_has ls 5 [(0, .ref (ad 6)), (1, .int so), (2, .int day), (3, .int (F_X2_actsOf_L5 z v f so day n5 fo k))] → W p l e (headSpec wsX2_actsOf ({ frames := 1, cells := 0, slots := 0, locals := 22 })).room s m ([.ref (ad 6), .int so, .int day] : List Value).toArray below meth c s.heap [] 0 0 Q9 (F0 m 57 ls [])) → W p l e (headSpec wsX2_actsOf ({ frames := 1, cells := 0, slots := 0, locals := 22 })).room s m ([.ref (ad 6), .int so, .int day] : List Value).toArray below meth c s.heap [] 0 0 Q9 (F0 m 5 ls []) := by
    intro n5
    induction n5 with
    | zero =>
      intro fo k ls hk5 hn5
      exact absurd hn5 (by omega)
    | succ n5 ih5 =>
      intro fo k ls hk5 hn5 hl hq5
      generalize hF5 : F_X2_actsOf_L5 z v f so day (n5 + 1) fo k = R5 at hq5
      rw [F_X2_actsOf_L5] at hF5
      refine lv_iload hx hb dX2_actsOf_5 (lv_at hl 4 rfl) ?_
      refine lv_aload_n hx hb dX2_actsOf_7 rfl (lv_at hl 0 rfl) ?_
      refine va_get (D := (dC, dI)) (ci := 2) (v := .int (nI (z 1))) (C := RX2) (T := TX2) (N := 6) hx hb hts hinX2 hown hK hP 6 rfl rfl 0 (by decide) hfl9 (fun _ h9 => h9) rfl dX2_actsOf_8 ?_
      refine lv_icmp_ge (tgt := 57) hx hb dX2_actsOf_11 (by decide) (fun c1 => ?_) (fun c1 => ?_)
      · have c1 : z 1 ≤ k := (nI_leI (a := z 1) (b := k) (by omega) (by omega)).mp c1
        rw [if_pos c1] at hF5
        subst hF5
        exact hq5 ls (lv_sub hl [0, 1, 2, 3] rfl)
      · have c1 : ¬ z 1 ≤ k := fun h9 => c1 ((nI_leI (a := z 1) (b := k) (by omega) (by omega)).mpr h9)
        rw [if_neg c1] at hF5
        refine lv_iload_n hx hb dX2_actsOf_14 rfl (lv_at hl 1 rfl) ?_
        refine lv_aload_n hx hb dX2_actsOf_15 rfl (lv_at hl 0 rfl) ?_
        refine va_get (D := (dC, dI)) (ci := 2) (v := .ref (ad 7)) (C := RX2) (T := TX2) (N := 6) hx hb hts hinX2 hown hK hP 6 rfl rfl 1 (by decide) hfl15 (fun _ h9 => h9) rfl dX2_actsOf_16 ?_
        refine lv_iload hx hb dX2_actsOf_19 (lv_at hl 4 rfl) ?_
        refine xa_ild hx hb hK hP 7 0 rfl rfl (by omega) (by decide) dX2_actsOf_21 ?_
        refine vp_callSi (va_Run.run (va_runSN (As := [.int so, .int (f 5 k)]) (rest := []) ⟨hx, hb, hml, hown, hts⟩ (c_X4_holds l so (f 5 k)) ⟨(va_cnB 2 hts gX2_actsOf_X4_holds_n39 rfl rfl rfl hnw39 hiniX4 (by decide +kernel) ⟨Nat.le_of_ble_eq_true rfl, Nat.le_of_ble_eq_true rfl⟩), hstX4_holds, trivial⟩ preT rfl rfl hl.1 rfl (lv_room (Nat.le_of_ble_eq_true rfl)) dX2_actsOf_22 ⟨Nat.zero_le _, Nat.zero_le _⟩)) (fun r2 h9 => ?_)
        have hr2 : r2 = F_X4_holds so (f 5 k) := h9
        try rw [← hr2] at hF
        try rw [← hr2] at hF5
        refine lv_if_eq (tgt := 51) hx hb dX2_actsOf_25 (by decide) (fun c3 => ?_) (fun c3 => ?_)
        · rw [if_pos c3] at hF5
          have c3f : F_X4_holds so (f 5 k) = 0 := by rw [← hr2]; exact c3
          refine lv_iinc (v := nI (k + 1)) (lv' := [(4, .int (nI (k + 1))), (0, .ref (ad 6)), (1, .int so), (2, .int day), (3, .int fo)]) hx hb dX2_actsOf_51 hl (k := 4) rfl (xi_inc _) (by decide) rfl (fun ls hl => ?_)
          refine lv_goto (tgt := 5) hx hb dX2_actsOf_54 (by decide) ?_
          exact ih5 fo (k + 1) ls (by omega) (by omega) (lv_sub hl [1, 2, 3, 4, 0] rfl) (by rw [hF5]; exact hq5)
        · rw [if_neg c3] at hF5
          have c3f : ¬ F_X4_holds so (f 5 k) = 0 := by rw [← hr2]; exact c3
          refine lv_aload_n hx hb dX2_actsOf_28 rfl (lv_at hl 0 rfl) ?_
          refine lv_iload hx hb dX2_actsOf_29 (lv_at hl 4 rfl) ?_
          refine lv_iload_n hx hb dX2_actsOf_31 rfl (lv_at hl 2 rfl) ?_
          refine vp_callSi (W.runV (As := [.int (nI k), .int day]) (rest := []) ⟨hx, hb, hml, hown, hts⟩ (c_X2_isOnDay l dC dI ad cI cZ z v f (nI k) day hok (vp_in_nI (by omega) (by omega))) (cwV 2 hts gX2_actsOf_X2_isOnDay rfl rfl rfl (by decide +kernel) ⟨Nat.le_of_ble_eq_true rfl, Nat.le_of_ble_eq_true rfl⟩) (preX (ci := 2) (q0 := 6) hP hK hN rfl rfl rfl) rfl rfl hl.1 rfl (lv_room (Nat.le_of_ble_eq_true rfl)) dX2_actsOf_32 ⟨Nat.zero_le _, Nat.zero_le _⟩) (fun r4 h9 => ?_)
          have hr4 : r4 = F_X2_isOnDay z v f (nI k) day := h9
          try rw [← hr4] at hF
          try rw [← hr4] at hF5
          refine lv_if_eq (tgt := 51) hx hb dX2_actsOf_35 (by decide) (fun c5 => ?_) (fun c5 => ?_)
          · rw [if_pos c5] at hF5
            have c5f : F_X2_isOnDay z v f (nI k) day = 0 := by rw [← hr4]; exact c5
            refine lv_iinc (v := nI (k + 1)) (lv' := [(4, .int (nI (k + 1))), (0, .ref (ad 6)), (1, .int so), (2, .int day), (3, .int fo)]) hx hb dX2_actsOf_51 hl (k := 4) rfl (xi_inc _) (by decide) rfl (fun ls hl => ?_)
            refine lv_goto (tgt := 5) hx hb dX2_actsOf_54 (by decide) ?_
            exact ih5 fo (k + 1) ls (by omega) (by omega) (lv_sub hl [1, 2, 3, 4, 0] rfl) (by rw [hF5]; exact hq5)
          · rw [if_neg c5] at hF5
            have c5f : ¬ F_X2_isOnDay z v f (nI k) day = 0 := by rw [← hr4]; exact c5
            refine lv_iload_n hx hb dX2_actsOf_38 rfl (lv_at hl 3 rfl) ?_
            refine lv_aload_n hx hb dX2_actsOf_39 rfl (lv_at hl 0 rfl) ?_
            refine va_get (D := (dC, dI)) (ci := 2) (v := .ref (ad 8)) (C := RX2) (T := TX2) (N := 6) hx hb hts hinX2 hown hK hP 6 rfl rfl 2 (by decide) hfl19 (fun _ h9 => h9) rfl dX2_actsOf_40 ?_
            refine lv_iload hx hb dX2_actsOf_43 (lv_at hl 4 rfl) ?_
            refine xa_ild hx hb hK hP 8 0 rfl rfl (by omega) (by decide) dX2_actsOf_45 ?_
            refine vp_callSi (va_Run.run (va_runSN (As := [.int (f 6 k)]) (rest := [.int fo]) ⟨hx, hb, hml, hown, hts⟩ (c_X4_bit l (f 6 k)) ⟨(va_cnB 1 hts gX2_actsOf_X4_bit_n35 rfl rfl rfl hnw35 hiniX4 (by decide +kernel) ⟨Nat.le_of_ble_eq_true rfl, Nat.le_of_ble_eq_true rfl⟩), hstX4_bit, trivial⟩ preT rfl rfl hl.1 rfl (lv_room (Nat.le_of_ble_eq_true rfl)) dX2_actsOf_46 ⟨Nat.zero_le _, Nat.zero_le _⟩)) (fun r6 h9 => ?_)
            have hr6 : r6 = F_X4_bit (f 6 k) := h9
            try rw [← hr6] at hF
            try rw [← hr6] at hF5
            refine lv_ior hx hb dX2_actsOf_49 ?_
            refine lv_istore_n (lv' := [(3, .int (fo ||| r6)), (0, .ref (ad 6)), (1, .int so), (2, .int day), (4, .int (nI k))]) hx hb dX2_actsOf_50 rfl hl (by decide) rfl (fun ls hl => ?_)
            refine lv_iinc (v := nI (k + 1)) (lv' := [(4, .int (nI (k + 1))), (3, .int (fo ||| r6)), (0, .ref (ad 6)), (1, .int so), (2, .int day)]) hx hb dX2_actsOf_51 hl (k := 4) rfl (xi_inc _) (by decide) rfl (fun ls hl => ?_)
            refine lv_goto (tgt := 5) hx hb dX2_actsOf_54 (by decide) ?_
            exact ih5 (fo ||| r6) (k + 1) ls (by omega) (by omega) (lv_sub hl [2, 3, 4, 1, 0] rfl) (by rw [hF5]; exact hq5)
  refine lp5 (z 1 + 1) 0 0 ls (by omega) (by omega) (lv_sub hl [2, 3, 4, 1, 0] rfl) (fun ls hl => ?_)
  obtain ⟨r7, hr7⟩ : ∃ y, y = (F_X2_actsOf_L5 z v f so day (z 1 + 1) 0 0) := ⟨_, rfl⟩
  rw [← hr7] at hl
  try rw [← hr7] at hF
  refine lv_iload_n hx hb dX2_actsOf_57 rfl (lv_at hl 3 rfl) ?_
  subst hQ9
  exact W.iret hx hb hr (fun t ht hW => ⟨_, rfl, hF, ht⟩) (fun q h => by cases h) dX2_actsOf_58
def F_X0_giversTo_L6 (z : Nat → Nat) (v : Nat → Int32) (f : Nat → Nat → Int32) (who di day : Int32)  : Nat → Int32 → Nat → Int32
  | 0, fo, k => fo
  | n6 + 1, fo, k =>
    if z 2 ≤ k then
      fo
    else
      if f 11 k = who then
        if f 12 k = di then
          if f 13 k < day then
            F_X0_giversTo_L6 z v f who di day n6 fo (k + 1)
          else
            F_X0_giversTo_L6 z v f who di day n6 (fo ||| (F_X4_bit (f 10 k))) (k + 1)
        else
          F_X0_giversTo_L6 z v f who di day n6 fo (k + 1)
      else
        F_X0_giversTo_L6 z v f who di day n6 fo (k + 1)
def F_X0_giversTo (z : Nat → Nat) (v : Nat → Int32) (f : Nat → Nat → Int32) (who di day : Int32) : Int32 :=
  (F_X0_giversTo_L6 z v f who di day (z 2 + 1) 0 0)
set_option maxHeartbeats 4000000 in
set_option maxRecDepth 100000 in
theorem c_X0_giversTo (l : Launch) (dC : Nat → ClassId) (dI : Nat → Nat → Nat) (ad : Nat → Nat) (cI cZ : ClassId) (z : Nat → Nat) (v : Nat → Int32) (f : Nat → Nat → Int32) (who di day : Int32) (hok : okX z v f) : Met l yX0_giversTo wsX0_giversTo ({ frames := 1, cells := 0, slots := 0, locals := 20 }) (va_Pc [.ref (ad 12), .int who, .int di, .int day] (kX dC dI ad cI cZ z v f)) (vp_Si (fun r => r = F_X0_giversTo z v f who di day)) 0 0 (fun _ => False) := by
  refine Met.ofW (cc := cX0_giversTo) (maxL := 6) (ret := (some .int)) (by decide) rfl ?_
  intro p e s m args below meth c s₁ B hml hv
  obtain ⟨rfl, hP, hK, hN⟩ := hv
  have hx := B.exec
  have hb := B.bytes
  have hr := B.returns
  have hts := atoms_spec (ws := wsX0_giversTo) B.pre
  have hown : s.vm.findClass RX0 = some m.cls := findClass_of_methodNamed B.named
  have hlocks := B.notSynchronized
  have hok9 := hok
  obtain ⟨hz0, hz1, hz2, hz3, hz4, hbz, hbs⟩ := hok9
  have hfl15 := hts (.fieldLink RX0 15 "TraderRights$Mandates" "giver" "[I") (List.mem_of_getElem? (i := 5) rfl)
  have hfl19 := hts (.fieldLink RX0 19 "TraderRights$Mandates" "taker" "[I") (List.mem_of_getElem? (i := 2) rfl)
  have hfl22 := hts (.fieldLink RX0 22 "TraderRights$Mandates" "isDirect" "[Z") (List.mem_of_getElem? (i := 3) rfl)
  have hfl26 := hts (.fieldLink RX0 26 "TraderRights$Mandates" "until" "[I") (List.mem_of_getElem? (i := 4) rfl)
  have hfl9 := hts (.fieldLink RX0 9 "TraderRights$Mandates" "size" "I") (List.mem_of_getElem? (i := 1) rfl)
  have hinX0 : ∀ w ∈ u_ws RX0 TX0 5, w ∈ wsX0_giversTo := fun w h => List.mem_cons_of_mem _ (List.mem_append_right _ h)
  have hiniX4 := hts (.initialized RX4) (List.mem_of_getElem? (i := 7) rfl)
  have hnw29 := hN (.methodLinkNest RX0 29 yX4_bit "TraderRights") (by decide +kernel)
  have hstX4_bit := hts (.static yX4_bit) (List.mem_of_getElem? (i := 6) rfl)
  have hl := lv_entry ([.ref (ad 12), .int who, .int di, .int day]) (n := 6) (Nat.le_of_ble_eq_true rfl)
  rw [lg_entry_eq]
  generalize (lg_sl ([.ref (ad 12), .int who, .int di, .int day]) ++ List.replicate (6 - (lg_sl ([.ref (ad 12), .int who, .int di, .int day])).length) Slot.unset).toArray = ls at hl ⊢
  have hl : lv_has ls 6 [(0, .ref (ad 12)), (1, .int who), (2, .int di), (3, .int day)] := hl
  generalize hF : F_X0_giversTo z v f who di day = R9
  generalize hQ9 : MQ below (vp_Si (fun r => r = R9)) _ s 0 0 (fun _ => False) = Q9
  rw [F_X0_giversTo] at hF
  refine lv_iconst (v := 0) hx hb dX0_giversTo_0 (by decide) ?_
  refine lv_istore (lv' := [(4, .int 0), (0, .ref (ad 12)), (1, .int who), (2, .int di), (3, .int day)]) hx hb dX0_giversTo_1 hl (by decide) rfl (fun ls hl => ?_)
  refine lv_iconst (v := 0) hx hb dX0_giversTo_3 (by decide) ?_
  refine lv_istore (lv' := [(5, .int 0), (4, .int 0), (0, .ref (ad 12)), (1, .int who), (2, .int di), (3, .int day)]) hx hb dX0_giversTo_4 hl (by decide) rfl (fun ls hl => ?_)
  have lp6 : ∀ (n6 : Nat) (fo : Int32) (k : Nat) (ls : Array Slot), k ≤ z 2 → z 2 < k + n6 → lv_has ls 6 [(0, .ref (ad 12)), (1, .int who), (2, .int di), (3, .int day), (4, .int fo), (5, .int (nI k))] → (∀ ls : Array Slot, lv_has ls 6 [(0, .ref (ad 12)), (1, .int who), (2, .int di), (3, .int day), (4, .int (F_X0_giversTo_L6 z v f who di day n6 fo k))] → W p l e (headSpec wsX0_giversTo ({ frames := 1, cells := 0, slots := 0, locals := 20 })).room s m ([.ref (ad 12), .int who, .int di, .int day] : List Value).toArray below meth c s.heap [] 0 0 Q9 (F0 m 69 ls [])) → W p l e (headSpec wsX0_giversTo ({ frames := 1, cells := 0, slots := 0, locals := 20 })).room s m ([.ref (ad 12), .int who, .int di, .int day] : List Value).toArray below meth c s.heap [] 0 0 Q9 (F0 m 6 ls []) := by
    intro n6
    induction n6 with
    | zero =>
      intro fo k ls hk6 hn6
      exact absurd hn6 (by omega)
    | succ n6 ih6 =>
      intro fo k ls hk6 hn6 hl hq6
      generalize hF6 : F_X0_giversTo_L6 z v f who di day (n6 + 1) fo k = R6 at hq6
      rw [F_X0_giversTo_L6] at hF6
      refine lv_iload hx hb dX0_giversTo_6 (lv_at hl 5 rfl) ?_
      refine lv_aload_n hx hb dX0_giversTo_8 rfl (lv_at hl 0 rfl) ?_
      refine va_get (D := (dC, dI)) (ci := 0) (v := .int (nI (z 2))) (C := RX0) (T := TX0) (N := 5) hx hb hts hinX0 hown hK hP 12 rfl rfl 0 (by decide) hfl9 (fun _ h9 => h9) rfl dX0_giversTo_9 ?_
      refine lv_icmp_ge (tgt := 69) hx hb dX0_giversTo_12 (by decide) (fun c1 => ?_) (fun c1 => ?_)
      · have c1 : z 2 ≤ k := (nI_leI (a := z 2) (b := k) (by omega) (by omega)).mp c1
        rw [if_pos c1] at hF6
        subst hF6
        exact hq6 ls (lv_sub hl [0, 1, 2, 3, 4] rfl)
      · have c1 : ¬ z 2 ≤ k := fun h9 => c1 ((nI_leI (a := z 2) (b := k) (by omega) (by omega)).mpr h9)
        rw [if_neg c1] at hF6
        refine lv_aload_n hx hb dX0_giversTo_15 rfl (lv_at hl 0 rfl) ?_
        refine va_get (D := (dC, dI)) (ci := 0) (v := .ref (ad 14)) (C := RX0) (T := TX0) (N := 5) hx hb hts hinX0 hown hK hP 12 rfl rfl 2 (by decide) hfl19 (fun _ h9 => h9) rfl dX0_giversTo_16 ?_
        refine lv_iload hx hb dX0_giversTo_19 (lv_at hl 5 rfl) ?_
        refine xa_ild hx hb hK hP 14 0 rfl rfl (by omega) (by decide) dX0_giversTo_21 ?_
        refine lv_iload_n hx hb dX0_giversTo_22 rfl (lv_at hl 1 rfl) ?_
        refine lv_icmp_ne (tgt := 63) hx hb dX0_giversTo_23 (by decide) (fun c2 => ?_) (fun c2 => ?_)
        · rw [if_neg c2] at hF6
          refine lv_iinc (v := nI (k + 1)) (lv' := [(5, .int (nI (k + 1))), (0, .ref (ad 12)), (1, .int who), (2, .int di), (3, .int day), (4, .int fo)]) hx hb dX0_giversTo_63 hl (k := 5) rfl (xi_inc _) (by decide) rfl (fun ls hl => ?_)
          refine lv_goto (tgt := 6) hx hb dX0_giversTo_66 (by decide) ?_
          exact ih6 fo (k + 1) ls (by omega) (by omega) (lv_sub hl [1, 2, 3, 4, 5, 0] rfl) (by rw [hF6]; exact hq6)
        · rw [if_pos c2] at hF6
          refine lv_aload_n hx hb dX0_giversTo_26 rfl (lv_at hl 0 rfl) ?_
          refine va_get (D := (dC, dI)) (ci := 0) (v := .ref (ad 15)) (C := RX0) (T := TX0) (N := 5) hx hb hts hinX0 hown hK hP 12 rfl rfl 3 (by decide) hfl22 (fun _ h9 => h9) rfl dX0_giversTo_27 ?_
          refine lv_iload hx hb dX0_giversTo_30 (lv_at hl 5 rfl) ?_
          refine xa_zld hx hb hK hP 15 1 rfl rfl (by omega) (by decide) dX0_giversTo_32 ?_
          refine lv_iload_n hx hb dX0_giversTo_33 rfl (lv_at hl 2 rfl) ?_
          refine lv_icmp_ne (tgt := 63) hx hb dX0_giversTo_34 (by decide) (fun c3 => ?_) (fun c3 => ?_)
          · rw [if_neg c3] at hF6
            refine lv_iinc (v := nI (k + 1)) (lv' := [(5, .int (nI (k + 1))), (0, .ref (ad 12)), (1, .int who), (2, .int di), (3, .int day), (4, .int fo)]) hx hb dX0_giversTo_63 hl (k := 5) rfl (xi_inc _) (by decide) rfl (fun ls hl => ?_)
            refine lv_goto (tgt := 6) hx hb dX0_giversTo_66 (by decide) ?_
            exact ih6 fo (k + 1) ls (by omega) (by omega) (lv_sub hl [1, 2, 3, 4, 5, 0] rfl) (by rw [hF6]; exact hq6)
          · rw [if_pos c3] at hF6
            refine lv_iload_n hx hb dX0_giversTo_37 rfl (lv_at hl 3 rfl) ?_
            refine lv_aload_n hx hb dX0_giversTo_38 rfl (lv_at hl 0 rfl) ?_
            refine va_get (D := (dC, dI)) (ci := 0) (v := .ref (ad 16)) (C := RX0) (T := TX0) (N := 5) hx hb hts hinX0 hown hK hP 12 rfl rfl 4 (by decide) hfl26 (fun _ h9 => h9) rfl dX0_giversTo_39 ?_
            refine lv_iload hx hb dX0_giversTo_42 (lv_at hl 5 rfl) ?_
            refine xa_ild hx hb hK hP 16 0 rfl rfl (by omega) (by decide) dX0_giversTo_44 ?_
            refine lv_icmp_gt (tgt := 63) hx hb dX0_giversTo_45 (by decide) (fun c4 => ?_) (fun c4 => ?_)
            · rw [if_pos c4] at hF6
              refine lv_iinc (v := nI (k + 1)) (lv' := [(5, .int (nI (k + 1))), (0, .ref (ad 12)), (1, .int who), (2, .int di), (3, .int day), (4, .int fo)]) hx hb dX0_giversTo_63 hl (k := 5) rfl (xi_inc _) (by decide) rfl (fun ls hl => ?_)
              refine lv_goto (tgt := 6) hx hb dX0_giversTo_66 (by decide) ?_
              exact ih6 fo (k + 1) ls (by omega) (by omega) (lv_sub hl [1, 2, 3, 4, 5, 0] rfl) (by rw [hF6]; exact hq6)
            · rw [if_neg c4] at hF6
              refine lv_iload hx hb dX0_giversTo_48 (lv_at hl 4 rfl) ?_
              refine lv_aload_n hx hb dX0_giversTo_50 rfl (lv_at hl 0 rfl) ?_
              refine va_get (D := (dC, dI)) (ci := 0) (v := .ref (ad 13)) (C := RX0) (T := TX0) (N := 5) hx hb hts hinX0 hown hK hP 12 rfl rfl 1 (by decide) hfl15 (fun _ h9 => h9) rfl dX0_giversTo_51 ?_
              refine lv_iload hx hb dX0_giversTo_54 (lv_at hl 5 rfl) ?_
              refine xa_ild hx hb hK hP 13 0 rfl rfl (by omega) (by decide) dX0_giversTo_56 ?_
              refine vp_callSi (va_Run.run (va_runSN (As := [.int (f 10 k)]) (rest := [.int fo]) ⟨hx, hb, hml, hown, hts⟩ (c_X4_bit l (f 10 k)) ⟨(va_cnB 1 hts gX0_giversTo_X4_bit_n29 rfl rfl rfl hnw29 hiniX4 (by decide +kernel) ⟨Nat.le_of_ble_eq_true rfl, Nat.le_of_ble_eq_true rfl⟩), hstX4_bit, trivial⟩ preT rfl rfl hl.1 rfl (lv_room (Nat.le_of_ble_eq_true rfl)) dX0_giversTo_57 ⟨Nat.zero_le _, Nat.zero_le _⟩)) (fun r5 h9 => ?_)
              have hr5 : r5 = F_X4_bit (f 10 k) := h9
              try rw [← hr5] at hF
              try rw [← hr5] at hF6
              refine lv_ior hx hb dX0_giversTo_60 ?_
              refine lv_istore (lv' := [(4, .int (fo ||| r5)), (0, .ref (ad 12)), (1, .int who), (2, .int di), (3, .int day), (5, .int (nI k))]) hx hb dX0_giversTo_61 hl (by decide) rfl (fun ls hl => ?_)
              refine lv_iinc (v := nI (k + 1)) (lv' := [(5, .int (nI (k + 1))), (4, .int (fo ||| r5)), (0, .ref (ad 12)), (1, .int who), (2, .int di), (3, .int day)]) hx hb dX0_giversTo_63 hl (k := 5) rfl (xi_inc _) (by decide) rfl (fun ls hl => ?_)
              refine lv_goto (tgt := 6) hx hb dX0_giversTo_66 (by decide) ?_
              exact ih6 (fo ||| r5) (k + 1) ls (by omega) (by omega) (lv_sub hl [2, 3, 4, 5, 1, 0] rfl) (by rw [hF6]; exact hq6)
  refine lp6 (z 2 + 1) 0 0 ls (by omega) (by omega) (lv_sub hl [2, 3, 4, 5, 1, 0] rfl) (fun ls hl => ?_)
  obtain ⟨r6, hr6⟩ : ∃ y, y = (F_X0_giversTo_L6 z v f who di day (z 2 + 1) 0 0) := ⟨_, rfl⟩
  rw [← hr6] at hl
  try rw [← hr6] at hF
  refine lv_iload hx hb dX0_giversTo_69 (lv_at hl 4 rfl) ?_
  subst hQ9
  exact W.iret hx hb hr (fun t ht hW => ⟨_, rfl, hF, ht⟩) (fun q h => by cases h) dX0_giversTo_71
def F_X0_sizeOf_L5 (z : Nat → Nat) (v : Nat → Int32) (f : Nat → Nat → Int32) (who day : Int32)  : Nat → Int32 → Nat → Int32
  | 0, fo, k => fo
  | n5 + 1, fo, k =>
    if z 2 ≤ k then
      fo
    else
      if f 11 k = who then
        if f 13 k < day then
          F_X0_sizeOf_L5 z v f who day n5 fo (k + 1)
        else
          F_X0_sizeOf_L5 z v f who day n5 (fo + 1) (k + 1)
      else
        F_X0_sizeOf_L5 z v f who day n5 fo (k + 1)
def F_X0_sizeOf (z : Nat → Nat) (v : Nat → Int32) (f : Nat → Nat → Int32) (who day : Int32) : Int32 :=
  (F_X0_sizeOf_L5 z v f who day (z 2 + 1) 0 0)
set_option maxHeartbeats 4000000 in
set_option maxRecDepth 100000 in
theorem c_X0_sizeOf (l : Launch) (dC : Nat → ClassId) (dI : Nat → Nat → Nat) (ad : Nat → Nat) (cI cZ : ClassId) (z : Nat → Nat) (v : Nat → Int32) (f : Nat → Nat → Int32) (who day : Int32) (hok : okX z v f) : Met l yX0_sizeOf wsX0_sizeOf ({ frames := 0, cells := 0, slots := 0, locals := 0 }) (va_Pc [.ref (ad 12), .int who, .int day] (kX dC dI ad cI cZ z v f)) (vp_Si (fun r => r = F_X0_sizeOf z v f who day)) 0 0 (fun _ => False) := by
  refine Met.ofW (cc := cX0_sizeOf) (maxL := 5) (ret := (some .int)) (by decide) rfl ?_
  intro p e s m args below meth c s₁ B hml hv
  obtain ⟨rfl, hP, hK, hN⟩ := hv
  have hx := B.exec
  have hb := B.bytes
  have hr := B.returns
  have hts := atoms_spec (ws := wsX0_sizeOf) B.pre
  have hown : s.vm.findClass RX0 = some m.cls := findClass_of_methodNamed B.named
  have hlocks := B.notSynchronized
  have hok9 := hok
  obtain ⟨hz0, hz1, hz2, hz3, hz4, hbz, hbs⟩ := hok9
  have hfl19 := hts (.fieldLink RX0 19 "TraderRights$Mandates" "taker" "[I") (List.mem_of_getElem? (i := 2) rfl)
  have hfl26 := hts (.fieldLink RX0 26 "TraderRights$Mandates" "until" "[I") (List.mem_of_getElem? (i := 3) rfl)
  have hfl9 := hts (.fieldLink RX0 9 "TraderRights$Mandates" "size" "I") (List.mem_of_getElem? (i := 1) rfl)
  have hinX0 : ∀ w ∈ u_ws RX0 TX0 5, w ∈ wsX0_sizeOf := fun w h => List.mem_cons_of_mem _ (List.mem_append_right _ h)
  have hl := lv_entry ([.ref (ad 12), .int who, .int day]) (n := 5) (Nat.le_of_ble_eq_true rfl)
  rw [lg_entry_eq]
  generalize (lg_sl ([.ref (ad 12), .int who, .int day]) ++ List.replicate (5 - (lg_sl ([.ref (ad 12), .int who, .int day])).length) Slot.unset).toArray = ls at hl ⊢
  have hl : lv_has ls 5 [(0, .ref (ad 12)), (1, .int who), (2, .int day)] := hl
  generalize hF : F_X0_sizeOf z v f who day = R9
  generalize hQ9 : MQ below (vp_Si (fun r => r = R9)) _ s 0 0 (fun _ => False) = Q9
  rw [F_X0_sizeOf] at hF
  refine lv_iconst (v := 0) hx hb dX0_sizeOf_0 (by decide) ?_
  refine lv_istore_n (lv' := [(3, .int 0), (0, .ref (ad 12)), (1, .int who), (2, .int day)]) hx hb dX0_sizeOf_1 rfl hl (by decide) rfl (fun ls hl => ?_)
  refine lv_iconst (v := 0) hx hb dX0_sizeOf_2 (by decide) ?_
  refine lv_istore (lv' := [(4, .int 0), (3, .int 0), (0, .ref (ad 12)), (1, .int who), (2, .int day)]) hx hb dX0_sizeOf_3 hl (by decide) rfl (fun ls hl => ?_)
  have lp5 : ∀ (n5 : Nat) (fo : Int32) (k : Nat) (ls : Array Slot), k ≤ z 2 → z 2 < k + n5 → lv_has ls 5 [(0, .ref (ad 12)), (1, .int who), (2, .int day), (3, .int fo), (4, .int (nI k))] → (∀ ls : Array Slot, lv_has ls 5 [(0, .ref (ad 12)), (1, .int who), (2, .int day), (3, .int (F_X0_sizeOf_L5 z v f who day n5 fo k))] → W p l e (headSpec wsX0_sizeOf ({ frames := 0, cells := 0, slots := 0, locals := 0 })).room s m ([.ref (ad 12), .int who, .int day] : List Value).toArray below meth c s.heap [] 0 0 Q9 (F0 m 46 ls [])) → W p l e (headSpec wsX0_sizeOf ({ frames := 0, cells := 0, slots := 0, locals := 0 })).room s m ([.ref (ad 12), .int who, .int day] : List Value).toArray below meth c s.heap [] 0 0 Q9 (F0 m 5 ls []) := by
    intro n5
    induction n5 with
    | zero =>
      intro fo k ls hk5 hn5
      exact absurd hn5 (by omega)
    | succ n5 ih5 =>
      intro fo k ls hk5 hn5 hl hq5
      generalize hF5 : F_X0_sizeOf_L5 z v f who day (n5 + 1) fo k = R5 at hq5
      rw [F_X0_sizeOf_L5] at hF5
      refine lv_iload hx hb dX0_sizeOf_5 (lv_at hl 4 rfl) ?_
      refine lv_aload_n hx hb dX0_sizeOf_7 rfl (lv_at hl 0 rfl) ?_
      refine va_get (D := (dC, dI)) (ci := 0) (v := .int (nI (z 2))) (C := RX0) (T := TX0) (N := 5) hx hb hts hinX0 hown hK hP 12 rfl rfl 0 (by decide) hfl9 (fun _ h9 => h9) rfl dX0_sizeOf_8 ?_
      refine lv_icmp_ge (tgt := 46) hx hb dX0_sizeOf_11 (by decide) (fun c1 => ?_) (fun c1 => ?_)
      · have c1 : z 2 ≤ k := (nI_leI (a := z 2) (b := k) (by omega) (by omega)).mp c1
        rw [if_pos c1] at hF5
        subst hF5
        exact hq5 ls (lv_sub hl [0, 1, 2, 3] rfl)
      · have c1 : ¬ z 2 ≤ k := fun h9 => c1 ((nI_leI (a := z 2) (b := k) (by omega) (by omega)).mpr h9)
        rw [if_neg c1] at hF5
        refine lv_aload_n hx hb dX0_sizeOf_14 rfl (lv_at hl 0 rfl) ?_
        refine va_get (D := (dC, dI)) (ci := 0) (v := .ref (ad 14)) (C := RX0) (T := TX0) (N := 5) hx hb hts hinX0 hown hK hP 12 rfl rfl 2 (by decide) hfl19 (fun _ h9 => h9) rfl dX0_sizeOf_15 ?_
        refine lv_iload hx hb dX0_sizeOf_18 (lv_at hl 4 rfl) ?_
        refine xa_ild hx hb hK hP 14 0 rfl rfl (by omega) (by decide) dX0_sizeOf_20 ?_
        refine lv_iload_n hx hb dX0_sizeOf_21 rfl (lv_at hl 1 rfl) ?_
        refine lv_icmp_ne (tgt := 40) hx hb dX0_sizeOf_22 (by decide) (fun c2 => ?_) (fun c2 => ?_)
        · rw [if_neg c2] at hF5
          refine lv_iinc (v := nI (k + 1)) (lv' := [(4, .int (nI (k + 1))), (0, .ref (ad 12)), (1, .int who), (2, .int day), (3, .int fo)]) hx hb dX0_sizeOf_40 hl (k := 4) rfl (xi_inc _) (by decide) rfl (fun ls hl => ?_)
          refine lv_goto (tgt := 5) hx hb dX0_sizeOf_43 (by decide) ?_
          exact ih5 fo (k + 1) ls (by omega) (by omega) (lv_sub hl [1, 2, 3, 4, 0] rfl) (by rw [hF5]; exact hq5)
        · rw [if_pos c2] at hF5
          refine lv_iload_n hx hb dX0_sizeOf_25 rfl (lv_at hl 2 rfl) ?_
          refine lv_aload_n hx hb dX0_sizeOf_26 rfl (lv_at hl 0 rfl) ?_
          refine va_get (D := (dC, dI)) (ci := 0) (v := .ref (ad 16)) (C := RX0) (T := TX0) (N := 5) hx hb hts hinX0 hown hK hP 12 rfl rfl 4 (by decide) hfl26 (fun _ h9 => h9) rfl dX0_sizeOf_27 ?_
          refine lv_iload hx hb dX0_sizeOf_30 (lv_at hl 4 rfl) ?_
          refine xa_ild hx hb hK hP 16 0 rfl rfl (by omega) (by decide) dX0_sizeOf_32 ?_
          refine lv_icmp_gt (tgt := 40) hx hb dX0_sizeOf_33 (by decide) (fun c3 => ?_) (fun c3 => ?_)
          · rw [if_pos c3] at hF5
            refine lv_iinc (v := nI (k + 1)) (lv' := [(4, .int (nI (k + 1))), (0, .ref (ad 12)), (1, .int who), (2, .int day), (3, .int fo)]) hx hb dX0_sizeOf_40 hl (k := 4) rfl (xi_inc _) (by decide) rfl (fun ls hl => ?_)
            refine lv_goto (tgt := 5) hx hb dX0_sizeOf_43 (by decide) ?_
            exact ih5 fo (k + 1) ls (by omega) (by omega) (lv_sub hl [1, 2, 3, 4, 0] rfl) (by rw [hF5]; exact hq5)
          · rw [if_neg c3] at hF5
            refine lv_iload_n hx hb dX0_sizeOf_36 rfl (lv_at hl 3 rfl) ?_
            refine lv_iconst (v := 1) hx hb dX0_sizeOf_37 (by decide) ?_
            refine lv_iadd hx hb dX0_sizeOf_38 ?_
            refine lv_istore_n (lv' := [(3, .int (fo + 1)), (0, .ref (ad 12)), (1, .int who), (2, .int day), (4, .int (nI k))]) hx hb dX0_sizeOf_39 rfl hl (by decide) rfl (fun ls hl => ?_)
            refine lv_iinc (v := nI (k + 1)) (lv' := [(4, .int (nI (k + 1))), (3, .int (fo + 1)), (0, .ref (ad 12)), (1, .int who), (2, .int day)]) hx hb dX0_sizeOf_40 hl (k := 4) rfl (xi_inc _) (by decide) rfl (fun ls hl => ?_)
            refine lv_goto (tgt := 5) hx hb dX0_sizeOf_43 (by decide) ?_
            exact ih5 (fo + 1) (k + 1) ls (by omega) (by omega) (lv_sub hl [2, 3, 4, 1, 0] rfl) (by rw [hF5]; exact hq5)
  refine lp5 (z 2 + 1) 0 0 ls (by omega) (by omega) (lv_sub hl [2, 3, 4, 1, 0] rfl) (fun ls hl => ?_)
  obtain ⟨r4, hr4⟩ : ∃ y, y = (F_X0_sizeOf_L5 z v f who day (z 2 + 1) 0 0) := ⟨_, rfl⟩
  rw [← hr4] at hl
  try rw [← hr4] at hF
  refine lv_iload_n hx hb dX0_sizeOf_46 rfl (lv_at hl 3 rfl) ?_
  subst hQ9
  exact W.iret hx hb hr (fun t ht hW => ⟨_, rfl, hF, ht⟩) (fun q h => by cases h) dX0_sizeOf_47
end
section
def F_X4_ownersOf_L18 (z : Nat → Nat) (v : Nat → Int32) (f : Nat → Nat → Int32) (a pl day aw : Int32)  (x5 : Int32) : Nat → Int32 → Nat → Int32
  | 0, ow, k => ow
  | n18 + 1, ow, k =>
    if z 0 ≤ k then
      ow
    else
      if F_X4_isForbidden z v f (nI k) a = 0 then
        if (((F_X4_bit (nI k)) ||| (F_X4_groupsAmong z v f (nI k) aw)) &&& x5) = 0 then
          F_X4_ownersOf_L18 z v f a pl day aw x5 n18 ow (k + 1)
        else
          F_X4_ownersOf_L18 z v f a pl day aw x5 n18 (ow ||| (F_X4_bit (nI k))) (k + 1)
      else
        F_X4_ownersOf_L18 z v f a pl day aw x5 n18 ow (k + 1)
def F_X4_ownersOf (z : Nat → Nat) (v : Nat → Int32) (f : Nat → Nat → Int32) (a pl day aw : Int32) : Int32 :=
  (F_X4_ownersOf_L18 z v f a pl day aw (F_X2_tradersWith z v f a pl day) (z 0 + 1) 0 0)
set_option maxHeartbeats 4000000 in
set_option maxRecDepth 100000 in
theorem c_X4_ownersOf (l : Launch) (dC : Nat → ClassId) (dI : Nat → Nat → Nat) (ad : Nat → Nat) (cI cZ : ClassId) (z : Nat → Nat) (v : Nat → Int32) (f : Nat → Nat → Int32) (a pl day aw : Int32) (hok : okX z v f) : Met l yX4_ownersOf wsX4_ownersOf ({ frames := 3, cells := 0, slots := 0, locals := 68 }) (va_Pc [.ref (ad 0), .int a, .int pl, .int day, .int aw] (kX dC dI ad cI cZ z v f)) (vp_Si (fun r => r = F_X4_ownersOf z v f a pl day aw)) 0 0 (fun _ => False) := by
  refine Met.ofW (cc := cX4_ownersOf) (maxL := 9) (ret := (some .int)) (by decide) rfl ?_
  intro p e s m args below meth c s₁ B hml hv
  obtain ⟨rfl, hP, hK, hN⟩ := hv
  have hx := B.exec
  have hb := B.bytes
  have hr := B.returns
  have hts := atoms_spec (ws := wsX4_ownersOf) B.pre
  have hown : s.vm.findClass RX4 = some m.cls := findClass_of_methodNamed B.named
  have hlocks := B.notSynchronized
  have hok9 := hok
  obtain ⟨hz0, hz1, hz2, hz3, hz4, hbz, hbs⟩ := hok9
  have hfl41 := hts (.fieldLink RX4 41 "TraderRights" "rights" "LTraderRights$Rights;") (List.mem_of_getElem? (i := 1) rfl)
  have hfl7 := hts (.fieldLink RX4 7 "TraderRights" "traders" "I") (List.mem_of_getElem? (i := 2) rfl)
  have himX2_tradersWith := hts (.instanceMethod yX2_tradersWith) (List.mem_of_getElem? (i := 3) rfl)
  have hinX4 : ∀ w ∈ u_ws RX4 TX4 11, w ∈ wsX4_ownersOf := fun w h => List.mem_cons_of_mem _ (List.mem_append_left _ (List.mem_append_right _ h))
  have hiniX2 := hts (.initialized RX2) (List.mem_of_getElem? (i := 4) rfl)
  have hnw204 := hN (.methodLinkNest RX4 204 yX2_tradersWith "TraderRights") (by decide +kernel)
  have hseX2_tradersWith := hts (.selects RX2 yX2_tradersWith yX2_tradersWith) (List.mem_of_getElem? (i := 5) rfl)
  have hl := lv_entry ([.ref (ad 0), .int a, .int pl, .int day, .int aw]) (n := 9) (Nat.le_of_ble_eq_true rfl)
  rw [lg_entry_eq]
  generalize (lg_sl ([.ref (ad 0), .int a, .int pl, .int day, .int aw]) ++ List.replicate (9 - (lg_sl ([.ref (ad 0), .int a, .int pl, .int day, .int aw])).length) Slot.unset).toArray = ls at hl ⊢
  have hl : lv_has ls 9 [(0, .ref (ad 0)), (1, .int a), (2, .int pl), (3, .int day), (4, .int aw)] := hl
  generalize hF : F_X4_ownersOf z v f a pl day aw = R9
  generalize hQ9 : MQ below (vp_Si (fun r => r = R9)) _ s 0 0 (fun _ => False) = Q9
  rw [F_X4_ownersOf] at hF
  refine lv_aload_n hx hb dX4_ownersOf_0 rfl (lv_at hl 0 rfl) ?_
  refine va_get (D := (dC, dI)) (ci := 4) (v := .ref (ad 6)) (C := RX4) (T := TX4) (N := 11) hx hb hts hinX4 hown hK hP 0 rfl rfl 7 (by decide) hfl41 (fun _ h9 => h9) rfl dX4_ownersOf_1 ?_
  refine lv_iload_n hx hb dX4_ownersOf_4 rfl (lv_at hl 1 rfl) ?_
  refine lv_iload_n hx hb dX4_ownersOf_5 rfl (lv_at hl 2 rfl) ?_
  refine lv_iload_n hx hb dX4_ownersOf_6 rfl (lv_at hl 3 rfl) ?_
  refine vp_callSi (va_Run.run (va_runVN (As := [.int a, .int pl, .int day]) (rest := []) ⟨hx, hb, hml, hown, hts⟩ (c_X2_tradersWith l dC dI ad cI cZ z v f a pl day hok) ⟨(va_cnB 3 hts gX4_ownersOf_X2_tradersWith_n204 rfl rfl rfl hnw204 hiniX2 (by decide +kernel) ⟨Nat.le_of_ble_eq_true rfl, Nat.le_of_ble_eq_true rfl⟩), himX2_tradersWith, hseX2_tradersWith⟩ (preX (ci := 2) (q0 := 6) hP hK hN rfl rfl rfl) rfl rfl hl.1 rfl (lv_room (Nat.le_of_ble_eq_true rfl)) dX4_ownersOf_7 ⟨Nat.zero_le _, Nat.zero_le _⟩)) (fun r1 h9 => ?_)
  have hr1 : r1 = F_X2_tradersWith z v f a pl day := h9
  try rw [← hr1] at hF
  refine lv_istore (lv' := [(5, .int r1), (0, .ref (ad 0)), (1, .int a), (2, .int pl), (3, .int day), (4, .int aw)]) hx hb dX4_ownersOf_10 hl (by decide) rfl (fun ls hl => ?_)
  refine lv_iconst (v := 0) hx hb dX4_ownersOf_12 (by decide) ?_
  refine lv_istore (lv' := [(6, .int 0), (5, .int r1), (0, .ref (ad 0)), (1, .int a), (2, .int pl), (3, .int day), (4, .int aw)]) hx hb dX4_ownersOf_13 hl (by decide) rfl (fun ls hl => ?_)
  refine lv_iconst (v := 0) hx hb dX4_ownersOf_15 (by decide) ?_
  refine lv_istore (lv' := [(7, .int 0), (6, .int 0), (5, .int r1), (0, .ref (ad 0)), (1, .int a), (2, .int pl), (3, .int day), (4, .int aw)]) hx hb dX4_ownersOf_16 hl (by decide) rfl (fun ls hl => ?_)
  have lp18 : ∀ (n18 : Nat) (ow : Int32) (k : Nat) (ls : Array Slot), k ≤ z 0 → z 0 < k + n18 → lv_has ls 9 [(0, .ref (ad 0)), (1, .int a), (2, .int pl), (3, .int day), (4, .int aw), (5, .int r1), (6, .int ow), (7, .int (nI k))] → (∀ ls : Array Slot, lv_has ls 9 [(0, .ref (ad 0)), (1, .int a), (2, .int pl), (3, .int day), (4, .int aw), (5, .int r1), (6, .int (F_X4_ownersOf_L18 z v f a pl day aw r1 n18 ow k))] → W p l e (headSpec wsX4_ownersOf ({ frames := 3, cells := 0, slots := 0, locals := 68 })).room s m ([.ref (ad 0), .int a, .int pl, .int day, .int aw] : List Value).toArray below meth c s.heap [] 0 0 Q9 (F0 m 77 ls [])) → W p l e (headSpec wsX4_ownersOf ({ frames := 3, cells := 0, slots := 0, locals := 68 })).room s m ([.ref (ad 0), .int a, .int pl, .int day, .int aw] : List Value).toArray below meth c s.heap [] 0 0 Q9 (F0 m 18 ls []) := by
    intro n18
    induction n18 with
    | zero =>
      intro ow k ls hk18 hn18
      exact absurd hn18 (by omega)
    | succ n18 ih18 =>
      intro ow k ls hk18 hn18 hl hq18
      generalize hF18 : F_X4_ownersOf_L18 z v f a pl day aw r1 (n18 + 1) ow k = R18 at hq18
      rw [F_X4_ownersOf_L18] at hF18
      refine lv_iload hx hb dX4_ownersOf_18 (lv_at hl 7 rfl) ?_
      refine lv_aload_n hx hb dX4_ownersOf_20 rfl (lv_at hl 0 rfl) ?_
      refine va_get (D := (dC, dI)) (ci := 4) (v := .int (nI (z 0))) (C := RX4) (T := TX4) (N := 11) hx hb hts hinX4 hown hK hP 0 rfl rfl 0 (by decide) hfl7 (fun _ h9 => h9) rfl dX4_ownersOf_21 ?_
      refine lv_icmp_ge (tgt := 77) hx hb dX4_ownersOf_24 (by decide) (fun c2 => ?_) (fun c2 => ?_)
      · have c2 : z 0 ≤ k := (nI_leI (a := z 0) (b := k) (by omega) (by omega)).mp c2
        rw [if_pos c2] at hF18
        subst hF18
        exact hq18 ls (lv_sub hl [0, 1, 2, 3, 4, 5, 6] rfl)
      · have c2 : ¬ z 0 ≤ k := fun h9 => c2 ((nI_leI (a := z 0) (b := k) (by omega) (by omega)).mpr h9)
        rw [if_neg c2] at hF18
        refine lv_iload hx hb dX4_ownersOf_27 (lv_at hl 7 rfl) ?_
        refine vp_callSi (W.runS (As := [.int (nI k)]) (rest := []) ⟨hx, hb, hml, hown, hts⟩ (c_X4_bit l (nI k)) (cwS 1 hts gX4_ownersOf_X4_bit rfl rfl rfl (by decide +kernel) ⟨Nat.le_of_ble_eq_true rfl, Nat.le_of_ble_eq_true rfl⟩) preT rfl rfl hl.1 rfl (lv_room (Nat.le_of_ble_eq_true rfl)) dX4_ownersOf_29 ⟨Nat.zero_le _, Nat.zero_le _⟩) (fun r3 h9 => ?_)
        have hr3 : r3 = F_X4_bit (nI k) := h9
        try rw [← hr3] at hF
        try rw [← hr3] at hF18
        refine lv_aload_n hx hb dX4_ownersOf_32 rfl (lv_at hl 0 rfl) ?_
        refine lv_iload hx hb dX4_ownersOf_33 (lv_at hl 7 rfl) ?_
        refine lv_iload hx hb dX4_ownersOf_35 (lv_at hl 4 rfl) ?_
        refine vp_callSi (W.runV (As := [.int (nI k), .int aw]) (rest := [.int r3]) ⟨hx, hb, hml, hown, hts⟩ (c_X4_groupsAmong l dC dI ad cI cZ z v f (nI k) aw hok (vp_in_nI (by omega) (by omega))) (cwV 2 hts gX4_ownersOf_X4_groupsAmong rfl rfl rfl (by decide +kernel) ⟨Nat.le_of_ble_eq_true rfl, Nat.le_of_ble_eq_true rfl⟩) (preX (ci := 4) (q0 := 0) hP hK hN rfl rfl rfl) rfl rfl hl.1 rfl (lv_room (Nat.le_of_ble_eq_true rfl)) dX4_ownersOf_37 ⟨Nat.zero_le _, Nat.zero_le _⟩) (fun r4 h9 => ?_)
        have hr4 : r4 = F_X4_groupsAmong z v f (nI k) aw := h9
        try rw [← hr4] at hF
        try rw [← hr4] at hF18
        refine lv_ior hx hb dX4_ownersOf_40 ?_
        refine lv_istore (lv' := [(8, .int (r3 ||| r4)), (0, .ref (ad 0)), (1, .int a), (2, .int pl), (3, .int day), (4, .int aw), (5, .int r1), (6, .int ow), (7, .int (nI k))]) hx hb dX4_ownersOf_41 hl (by decide) rfl (fun ls hl => ?_)
        refine lv_aload_n hx hb dX4_ownersOf_43 rfl (lv_at hl 1 rfl) ?_
        refine lv_iload hx hb dX4_ownersOf_44 (lv_at hl 8 rfl) ?_
        refine lv_iload_n hx hb dX4_ownersOf_46 rfl (lv_at hl 2 rfl) ?_
        refine vp_callSi (W.runV (As := [.int (nI k), .int a]) (rest := []) ⟨hx, hb, hml, hown, hts⟩ (c_X4_isForbidden l dC dI ad cI cZ z v f (nI k) a hok (vp_in_nI (by omega) (by omega))) (cwV 2 hts gX4_ownersOf_X4_isForbidden rfl rfl rfl (by decide +kernel) ⟨Nat.le_of_ble_eq_true rfl, Nat.le_of_ble_eq_true rfl⟩) (preX (ci := 4) (q0 := 0) hP hK hN rfl rfl rfl) rfl rfl hl.1 rfl (lv_room (Nat.le_of_ble_eq_true rfl)) dX4_ownersOf_47 ⟨Nat.zero_le _, Nat.zero_le _⟩) (fun r5 h9 => ?_)
        have hr5 : r5 = F_X4_isForbidden z v f (nI k) a := h9
        try rw [← hr5] at hF
        try rw [← hr5] at hF18
        refine lv_if_ne (tgt := 71) hx hb dX4_ownersOf_50 (by decide) (fun c6 => ?_) (fun c6 => ?_)
        · rw [if_neg c6] at hF18
          have c6f : ¬ F_X4_isForbidden z v f (nI k) a = 0 := by rw [← hr5]; exact c6
          refine lv_iinc (v := nI (k + 1)) (lv' := [(7, .int (nI (k + 1))), (8, .int (r3 ||| r4)), (0, .ref (ad 0)), (1, .int a), (2, .int pl), (3, .int day), (4, .int aw), (5, .int r1), (6, .int ow)]) hx hb dX4_ownersOf_71 hl (k := 8) rfl (xi_inc _) (by decide) rfl (fun ls hl => ?_)
          refine lv_goto (tgt := 18) hx hb dX4_ownersOf_74 (by decide) ?_
          exact ih18 ow (k + 1) ls (by omega) (by omega) (lv_sub hl [2, 3, 4, 5, 6, 7, 8, 0] rfl) (by rw [hF18]; exact hq18)
        · rw [if_pos c6] at hF18
          have c6f : F_X4_isForbidden z v f (nI k) a = 0 := by rw [← hr5]; exact c6
          refine lv_iload hx hb dX4_ownersOf_53 (lv_at hl 0 rfl) ?_
          refine lv_iload hx hb dX4_ownersOf_55 (lv_at hl 6 rfl) ?_
          refine lv_iand hx hb dX4_ownersOf_57 ?_
          refine lv_if_eq (tgt := 71) hx hb dX4_ownersOf_58 (by decide) (fun c7 => ?_) (fun c7 => ?_)
          · rw [if_pos c7] at hF18
            refine lv_iinc (v := nI (k + 1)) (lv' := [(7, .int (nI (k + 1))), (8, .int (r3 ||| r4)), (0, .ref (ad 0)), (1, .int a), (2, .int pl), (3, .int day), (4, .int aw), (5, .int r1), (6, .int ow)]) hx hb dX4_ownersOf_71 hl (k := 8) rfl (xi_inc _) (by decide) rfl (fun ls hl => ?_)
            refine lv_goto (tgt := 18) hx hb dX4_ownersOf_74 (by decide) ?_
            exact ih18 ow (k + 1) ls (by omega) (by omega) (lv_sub hl [2, 3, 4, 5, 6, 7, 8, 0] rfl) (by rw [hF18]; exact hq18)
          · rw [if_neg c7] at hF18
            refine lv_iload hx hb dX4_ownersOf_61 (lv_at hl 7 rfl) ?_
            refine lv_iload hx hb dX4_ownersOf_63 (lv_at hl 8 rfl) ?_
            refine vp_callSi (W.runS (As := [.int (nI k)]) (rest := [.int ow]) ⟨hx, hb, hml, hown, hts⟩ (c_X4_bit l (nI k)) (cwS 1 hts gX4_ownersOf_X4_bit rfl rfl rfl (by decide +kernel) ⟨Nat.le_of_ble_eq_true rfl, Nat.le_of_ble_eq_true rfl⟩) preT rfl rfl hl.1 rfl (lv_room (Nat.le_of_ble_eq_true rfl)) dX4_ownersOf_65 ⟨Nat.zero_le _, Nat.zero_le _⟩) (fun r8 h9 => ?_)
            have e9 : r8 = r3 := h9.trans hr3.symm
            rw [e9]
            refine lv_ior hx hb dX4_ownersOf_68 ?_
            refine lv_istore (lv' := [(6, .int (ow ||| r3)), (8, .int (r3 ||| r4)), (0, .ref (ad 0)), (1, .int a), (2, .int pl), (3, .int day), (4, .int aw), (5, .int r1), (7, .int (nI k))]) hx hb dX4_ownersOf_69 hl (by decide) rfl (fun ls hl => ?_)
            refine lv_iinc (v := nI (k + 1)) (lv' := [(7, .int (nI (k + 1))), (6, .int (ow ||| r3)), (8, .int (r3 ||| r4)), (0, .ref (ad 0)), (1, .int a), (2, .int pl), (3, .int day), (4, .int aw), (5, .int r1)]) hx hb dX4_ownersOf_71 hl (k := 8) rfl (xi_inc _) (by decide) rfl (fun ls hl => ?_)
            refine lv_goto (tgt := 18) hx hb dX4_ownersOf_74 (by decide) ?_
            exact ih18 (ow ||| r3) (k + 1) ls (by omega) (by omega) (lv_sub hl [3, 4, 5, 6, 7, 8, 1, 0] rfl) (by rw [hF18]; exact hq18)
  refine lp18 (z 0 + 1) 0 0 ls (by omega) (by omega) (lv_sub hl [3, 4, 5, 6, 7, 2, 1, 0] rfl) (fun ls hl => ?_)
  obtain ⟨r9, hr9⟩ : ∃ y, y = (F_X4_ownersOf_L18 z v f a pl day aw r1 (z 0 + 1) 0 0) := ⟨_, rfl⟩
  rw [← hr9] at hl
  try rw [← hr9] at hF
  refine lv_iload hx hb dX4_ownersOf_77 (lv_at hl 6 rfl) ?_
  subst hQ9
  exact W.iret hx hb hr (fun t ht hW => ⟨_, rfl, hF, ht⟩) (fun q h => by cases h) dX4_ownersOf_79
end
section
def F_X4_ownActs (z : Nat → Nat) (v : Nat → Int32) (f : Nat → Nat → Int32) (t day : Int32) : Int32 :=
  (F_X2_actsOf z v f ((F_X4_bit t) ||| (F_X4_groupsAmong z v f t (F_X4_aliveOn z v f day))) day) &&& ((f 1 t.toNatClampNeg) ^^^ (-1))
set_option maxHeartbeats 4000000 in
set_option maxRecDepth 100000 in
theorem c_X4_ownActs (l : Launch) (dC : Nat → ClassId) (dI : Nat → Nat → Nat) (ad : Nat → Nat) (cI cZ : ClassId) (z : Nat → Nat) (v : Nat → Int32) (f : Nat → Nat → Int32) (t day : Int32) (hok : okX z v f) (ht : vp_in t 12) : Met l yX4_ownActs wsX4_ownActs ({ frames := 3, cells := 0, slots := 0, locals := 68 }) (va_Pc [.ref (ad 0), .int t, .int day] (kX dC dI ad cI cZ z v f)) (vp_Si (fun r => r = F_X4_ownActs z v f t day)) 0 0 (fun _ => False) := by
  refine Met.ofW (cc := cX4_ownActs) (maxL := 4) (ret := (some .int)) (by decide) rfl ?_
  intro p e s m args below meth c s₁ B hml hv
  obtain ⟨rfl, hP, hK, hN⟩ := hv
  have hx := B.exec
  have hb := B.bytes
  have hr := B.returns
  have hts := atoms_spec (ws := wsX4_ownActs) B.pre
  have hown : s.vm.findClass RX4 = some m.cls := findClass_of_methodNamed B.named
  have hlocks := B.notSynchronized
  have hok9 := hok
  obtain ⟨hz0, hz1, hz2, hz3, hz4, hbz, hbs⟩ := hok9
  have hfl20 := hts (.fieldLink RX4 20 "TraderRights" "forbiddenActs" "[I") (List.mem_of_getElem? (i := 2) rfl)
  have hfl41 := hts (.fieldLink RX4 41 "TraderRights" "rights" "LTraderRights$Rights;") (List.mem_of_getElem? (i := 1) rfl)
  have himX2_actsOf := hts (.instanceMethod yX2_actsOf) (List.mem_of_getElem? (i := 38) rfl)
  have hinX4 : ∀ w ∈ u_ws RX4 TX4 11, w ∈ wsX4_ownActs := fun w h => List.mem_cons_of_mem _ (List.mem_append_left _ (List.mem_append_left _ (List.mem_append_right _ h)))
  have hiniX2 := hts (.initialized RX2) (List.mem_of_getElem? (i := 39) rfl)
  have hnw208 := hN (.methodLinkNest RX4 208 yX2_actsOf "TraderRights") (by decide +kernel)
  have hseX2_actsOf := hts (.selects RX2 yX2_actsOf yX2_actsOf) (List.mem_of_getElem? (i := 40) rfl)
  have hl := lv_entry ([.ref (ad 0), .int t, .int day]) (n := 4) (Nat.le_of_ble_eq_true rfl)
  rw [lg_entry_eq]
  generalize (lg_sl ([.ref (ad 0), .int t, .int day]) ++ List.replicate (4 - (lg_sl ([.ref (ad 0), .int t, .int day])).length) Slot.unset).toArray = ls at hl ⊢
  have hl : lv_has ls 4 [(0, .ref (ad 0)), (1, .int t), (2, .int day)] := hl
  generalize hF : F_X4_ownActs z v f t day = R9
  generalize hQ9 : MQ below (vp_Si (fun r => r = R9)) _ s 0 0 (fun _ => False) = Q9
  rw [F_X4_ownActs] at hF
  refine lv_iload_n hx hb dX4_ownActs_0 rfl (lv_at hl 1 rfl) ?_
  refine vp_callSi (W.runS (As := [.int t]) (rest := []) ⟨hx, hb, hml, hown, hts⟩ (c_X4_bit l t) (cwS 1 hts gX4_ownActs_X4_bit rfl rfl rfl (by decide +kernel) ⟨Nat.le_of_ble_eq_true rfl, Nat.le_of_ble_eq_true rfl⟩) preT rfl rfl hl.1 rfl (lv_room (Nat.le_of_ble_eq_true rfl)) dX4_ownActs_1 ⟨Nat.zero_le _, Nat.zero_le _⟩) (fun r1 h9 => ?_)
  have hr1 : r1 = F_X4_bit t := h9
  try rw [← hr1] at hF
  refine lv_aload_n hx hb dX4_ownActs_4 rfl (lv_at hl 0 rfl) ?_
  refine lv_iload_n hx hb dX4_ownActs_5 rfl (lv_at hl 1 rfl) ?_
  refine lv_aload_n hx hb dX4_ownActs_6 rfl (lv_at hl 0 rfl) ?_
  refine lv_iload_n hx hb dX4_ownActs_7 rfl (lv_at hl 2 rfl) ?_
  refine vp_callSi (W.runV (As := [.int day]) (rest := [.int t, .ref (ad 0), .int r1]) ⟨hx, hb, hml, hown, hts⟩ (c_X4_aliveOn l dC dI ad cI cZ z v f day hok) (cwV 1 hts gX4_ownActs_X4_aliveOn rfl rfl rfl (by decide +kernel) ⟨Nat.le_of_ble_eq_true rfl, Nat.le_of_ble_eq_true rfl⟩) (preX (ci := 4) (q0 := 0) hP hK hN rfl rfl rfl) rfl rfl hl.1 rfl (lv_room (Nat.le_of_ble_eq_true rfl)) dX4_ownActs_8 ⟨Nat.zero_le _, Nat.zero_le _⟩) (fun r2 h9 => ?_)
  have hr2 : r2 = F_X4_aliveOn z v f day := h9
  try rw [← hr2] at hF
  refine vp_callSi (W.runV (As := [.int t, .int r2]) (rest := [.int r1]) ⟨hx, hb, hml, hown, hts⟩ (c_X4_groupsAmong l dC dI ad cI cZ z v f t r2 hok ht) (cwV 2 hts gX4_ownActs_X4_groupsAmong rfl rfl rfl (by decide +kernel) ⟨Nat.le_of_ble_eq_true rfl, Nat.le_of_ble_eq_true rfl⟩) (preX (ci := 4) (q0 := 0) hP hK hN rfl rfl rfl) rfl rfl hl.1 rfl (lv_room (Nat.le_of_ble_eq_true rfl)) dX4_ownActs_11 ⟨Nat.zero_le _, Nat.zero_le _⟩) (fun r3 h9 => ?_)
  have hr3 : r3 = F_X4_groupsAmong z v f t r2 := h9
  try rw [← hr3] at hF
  refine lv_ior hx hb dX4_ownActs_14 ?_
  refine lv_istore_n (lv' := [(3, .int (r1 ||| r3)), (0, .ref (ad 0)), (1, .int t), (2, .int day)]) hx hb dX4_ownActs_15 rfl hl (by decide) rfl (fun ls hl => ?_)
  refine lv_aload_n hx hb dX4_ownActs_16 rfl (lv_at hl 1 rfl) ?_
  refine va_get (D := (dC, dI)) (ci := 4) (v := .ref (ad 6)) (C := RX4) (T := TX4) (N := 11) hx hb hts hinX4 hown hK hP 0 rfl rfl 7 (by decide) hfl41 (fun _ h9 => h9) rfl dX4_ownActs_17 ?_
  refine lv_iload_n hx hb dX4_ownActs_20 rfl (lv_at hl 0 rfl) ?_
  refine lv_iload_n hx hb dX4_ownActs_21 rfl (lv_at hl 3 rfl) ?_
  refine vp_callSi (va_Run.run (va_runVN (As := [.int (r1 ||| r3), .int day]) (rest := []) ⟨hx, hb, hml, hown, hts⟩ (c_X2_actsOf l dC dI ad cI cZ z v f (r1 ||| r3) day hok) ⟨(va_cnB 2 hts gX4_ownActs_X2_actsOf_n208 rfl rfl rfl hnw208 hiniX2 (by decide +kernel) ⟨Nat.le_of_ble_eq_true rfl, Nat.le_of_ble_eq_true rfl⟩), himX2_actsOf, hseX2_actsOf⟩ (preX (ci := 2) (q0 := 6) hP hK hN rfl rfl rfl) rfl rfl hl.1 rfl (lv_room (Nat.le_of_ble_eq_true rfl)) dX4_ownActs_22 ⟨Nat.zero_le _, Nat.zero_le _⟩)) (fun r4 h9 => ?_)
  have hr4 : r4 = F_X2_actsOf z v f (r1 ||| r3) day := h9
  try rw [← hr4] at hF
  refine lv_aload_n hx hb dX4_ownActs_25 rfl (lv_at hl 1 rfl) ?_
  refine va_get (D := (dC, dI)) (ci := 4) (v := .ref (ad 2)) (C := RX4) (T := TX4) (N := 11) hx hb hts hinX4 hown hK hP 0 rfl rfl 3 (by decide) hfl20 (fun _ h9 => h9) rfl dX4_ownActs_26 ?_
  refine lv_iload_n hx hb dX4_ownActs_29 rfl (lv_at hl 2 rfl) ?_
  refine va_iald hx hb hK hP 2 0 rfl rfl ht dX4_ownActs_30 ?_
  refine lv_iconst (v := (-1)) hx hb dX4_ownActs_31 (by decide) ?_
  refine lv_ixor hx hb dX4_ownActs_32 ?_
  refine lv_iand hx hb dX4_ownActs_33 ?_
  subst hQ9
  exact W.iret hx hb hr (fun t ht hW => ⟨_, rfl, hF, ht⟩) (fun q h => by cases h) dX4_ownActs_34
end
section
def F_X4_answerForAlive (z : Nat → Nat) (v : Nat → Int32) (f : Nat → Nat → Int32) (t a pl day : Int32) : Int32 :=
  if F_X4_holds (F_X4_ownersOf z v f a pl day (F_X4_aliveOn z v f day)) t = 0 then
    if (((F_X4_ownersOf z v f a pl day (F_X4_aliveOn z v f day)) &&& ((F_X4_principalSet z v f t) ||| (F_X0_giversTo z v f t 1 day))) &&& (F_X4_aliveOn z v f day)) = 0 then
      if (((F_X4_ownersOf z v f a pl day (F_X4_aliveOn z v f day)) &&& (F_X0_giversTo z v f t 0 day)) &&& (F_X4_aliveOn z v f day)) = 0 then
        if F_X4_isForbidden z v f t a = 0 then
          if (((F_X4_ownersOf z v f a pl day (F_X4_aliveOn z v f day)) &&& (F_X0_giversTo z v f t 0 day)) &&& (F_X4_aliveOn z v f day)) = 0 then
            if (((F_X4_ownersOf z v f a pl day (F_X4_aliveOn z v f day)) &&& ((F_X4_principalSet z v f t) ||| (F_X0_giversTo z v f t 1 day))) ||| ((F_X4_ownersOf z v f a pl day (F_X4_aliveOn z v f day)) &&& (F_X0_giversTo z v f t 0 day))) = 0 then
              7
            else
              6
          else
            5
        else
          4
      else
        if F_X4_holds (F_X4_ownersOf z v f 0 pl day (F_X4_aliveOn z v f day)) t = 0 then
          if F_X4_isForbidden z v f t a = 0 then
            if (((F_X4_ownersOf z v f a pl day (F_X4_aliveOn z v f day)) &&& (F_X0_giversTo z v f t 0 day)) &&& (F_X4_aliveOn z v f day)) = 0 then
              if (((F_X4_ownersOf z v f a pl day (F_X4_aliveOn z v f day)) &&& ((F_X4_principalSet z v f t) ||| (F_X0_giversTo z v f t 1 day))) ||| ((F_X4_ownersOf z v f a pl day (F_X4_aliveOn z v f day)) &&& (F_X0_giversTo z v f t 0 day))) = 0 then
                7
              else
                6
            else
              5
          else
            4
        else
          0
    else
      0
  else
    0
set_option maxHeartbeats 4000000 in
set_option maxRecDepth 100000 in
theorem c_X4_answerForAlive (l : Launch) (dC : Nat → ClassId) (dI : Nat → Nat → Nat) (ad : Nat → Nat) (cI cZ : ClassId) (z : Nat → Nat) (v : Nat → Int32) (f : Nat → Nat → Int32) (t a pl day : Int32) (hok : okX z v f) (ht : vp_in t 12) : Met l yX4_answerForAlive wsX4_answerForAlive ({ frames := 4, cells := 0, slots := 0, locals := 96 }) (va_Pc [.ref (ad 0), .int t, .int a, .int pl, .int day] (kX dC dI ad cI cZ z v f)) (vp_Si (fun r => r = F_X4_answerForAlive z v f t a pl day)) 0 0 (fun _ => False) := by
  refine Met.ofW (cc := cX4_answerForAlive) (maxL := 9) (ret := (some .int)) (by decide) rfl ?_
  intro p e s m args below meth c s₁ B hml hv
  obtain ⟨rfl, hP, hK, hN⟩ := hv
  have hx := B.exec
  have hb := B.bytes
  have hr := B.returns
  have hts := atoms_spec (ws := wsX4_answerForAlive) B.pre
  have hown : s.vm.findClass RX4 = some m.cls := findClass_of_methodNamed B.named
  have hlocks := B.notSynchronized
  have hok9 := hok
  obtain ⟨hz0, hz1, hz2, hz3, hz4, hbz, hbs⟩ := hok9
  have hfl48 := hts (.fieldLink RX4 48 "TraderRights" "mandates" "LTraderRights$Mandates;") (List.mem_of_getElem? (i := 1) rfl)
  have himX0_giversTo := hts (.instanceMethod yX0_giversTo) (List.mem_of_getElem? (i := 66) rfl)
  have hinX4 : ∀ w ∈ u_ws RX4 TX4 11, w ∈ wsX4_answerForAlive := fun w h => List.mem_cons_of_mem _ (List.mem_append_left _ (List.mem_append_left _ (List.mem_append_left _ (List.mem_append_right _ h))))
  have hiniX0 := hts (.initialized RX0) (List.mem_of_getElem? (i := 67) rfl)
  have hnw217 := hN (.methodLinkNest RX4 217 yX0_giversTo "TraderRights") (by decide +kernel)
  have hseX0_giversTo := hts (.selects RX0 yX0_giversTo yX0_giversTo) (List.mem_of_getElem? (i := 68) rfl)
  have hl := lv_entry ([.ref (ad 0), .int t, .int a, .int pl, .int day]) (n := 9) (Nat.le_of_ble_eq_true rfl)
  rw [lg_entry_eq]
  generalize (lg_sl ([.ref (ad 0), .int t, .int a, .int pl, .int day]) ++ List.replicate (9 - (lg_sl ([.ref (ad 0), .int t, .int a, .int pl, .int day])).length) Slot.unset).toArray = ls at hl ⊢
  have hl : lv_has ls 9 [(0, .ref (ad 0)), (1, .int t), (2, .int a), (3, .int pl), (4, .int day)] := hl
  generalize hF : F_X4_answerForAlive z v f t a pl day = R9
  generalize hQ9 : MQ below (vp_Si (fun r => r = R9)) _ s 0 0 (fun _ => False) = Q9
  rw [F_X4_answerForAlive] at hF
  refine lv_aload_n hx hb dX4_answerForAlive_0 rfl (lv_at hl 0 rfl) ?_
  refine lv_iload hx hb dX4_answerForAlive_1 (lv_at hl 4 rfl) ?_
  refine vp_callSi (W.runV (As := [.int day]) (rest := []) ⟨hx, hb, hml, hown, hts⟩ (c_X4_aliveOn l dC dI ad cI cZ z v f day hok) (cwV 1 hts gX4_answerForAlive_X4_aliveOn rfl rfl rfl (by decide +kernel) ⟨Nat.le_of_ble_eq_true rfl, Nat.le_of_ble_eq_true rfl⟩) (preX (ci := 4) (q0 := 0) hP hK hN rfl rfl rfl) rfl rfl hl.1 rfl (lv_room (Nat.le_of_ble_eq_true rfl)) dX4_answerForAlive_3 ⟨Nat.zero_le _, Nat.zero_le _⟩) (fun r1 h9 => ?_)
  have hr1 : r1 = F_X4_aliveOn z v f day := h9
  try rw [← hr1] at hF
  refine lv_istore (lv' := [(5, .int r1), (0, .ref (ad 0)), (1, .int t), (2, .int a), (3, .int pl), (4, .int day)]) hx hb dX4_answerForAlive_6 hl (by decide) rfl (fun ls hl => ?_)
  refine lv_aload_n hx hb dX4_answerForAlive_8 rfl (lv_at hl 1 rfl) ?_
  refine lv_iload_n hx hb dX4_answerForAlive_9 rfl (lv_at hl 3 rfl) ?_
  refine lv_iload_n hx hb dX4_answerForAlive_10 rfl (lv_at hl 4 rfl) ?_
  refine lv_iload hx hb dX4_answerForAlive_11 (lv_at hl 5 rfl) ?_
  refine lv_iload hx hb dX4_answerForAlive_13 (lv_at hl 0 rfl) ?_
  refine vp_callSi (W.runV (As := [.int a, .int pl, .int day, .int r1]) (rest := []) ⟨hx, hb, hml, hown, hts⟩ (c_X4_ownersOf l dC dI ad cI cZ z v f a pl day r1 hok) (cwV 4 hts gX4_answerForAlive_X4_ownersOf rfl rfl rfl (by decide +kernel) ⟨Nat.le_of_ble_eq_true rfl, Nat.le_of_ble_eq_true rfl⟩) (preX (ci := 4) (q0 := 0) hP hK hN rfl rfl rfl) rfl rfl hl.1 rfl (lv_room (Nat.le_of_ble_eq_true rfl)) dX4_answerForAlive_15 ⟨Nat.zero_le _, Nat.zero_le _⟩) (fun r2 h9 => ?_)
  have hr2 : r2 = F_X4_ownersOf z v f a pl day r1 := h9
  try rw [← hr2] at hF
  refine lv_istore (lv' := [(6, .int r2), (5, .int r1), (0, .ref (ad 0)), (1, .int t), (2, .int a), (3, .int pl), (4, .int day)]) hx hb dX4_answerForAlive_18 hl (by decide) rfl (fun ls hl => ?_)
  refine lv_iload hx hb dX4_answerForAlive_20 (lv_at hl 0 rfl) ?_
  refine lv_iload_n hx hb dX4_answerForAlive_22 rfl (lv_at hl 3 rfl) ?_
  refine vp_callSi (W.runS (As := [.int r2, .int t]) (rest := []) ⟨hx, hb, hml, hown, hts⟩ (c_X4_holds l r2 t) (cwS 2 hts gX4_answerForAlive_X4_holds rfl rfl rfl (by decide +kernel) ⟨Nat.le_of_ble_eq_true rfl, Nat.le_of_ble_eq_true rfl⟩) preT rfl rfl hl.1 rfl (lv_room (Nat.le_of_ble_eq_true rfl)) dX4_answerForAlive_23 ⟨Nat.zero_le _, Nat.zero_le _⟩) (fun r3 h9 => ?_)
  have hr3 : r3 = F_X4_holds r2 t := h9
  try rw [← hr3] at hF
  refine lv_if_eq (tgt := 31) hx hb dX4_answerForAlive_26 (by decide) (fun c4 => ?_) (fun c4 => ?_)
  · rw [if_pos c4] at hF
    have c4f : F_X4_holds r2 t = 0 := by rw [← hr3]; exact c4
    refine lv_iload hx hb dX4_answerForAlive_31 (lv_at hl 0 rfl) ?_
    refine lv_aload_n hx hb dX4_answerForAlive_33 rfl (lv_at hl 2 rfl) ?_
    refine lv_iload_n hx hb dX4_answerForAlive_34 rfl (lv_at hl 3 rfl) ?_
    refine vp_callSi (W.runV (As := [.int t]) (rest := [.int r2]) ⟨hx, hb, hml, hown, hts⟩ (c_X4_principalSet l dC dI ad cI cZ z v f t hok ht) (cwV 1 hts gX4_answerForAlive_X4_principalSet rfl rfl rfl (by decide +kernel) ⟨Nat.le_of_ble_eq_true rfl, Nat.le_of_ble_eq_true rfl⟩) (preX (ci := 4) (q0 := 0) hP hK hN rfl rfl rfl) rfl rfl hl.1 rfl (lv_room (Nat.le_of_ble_eq_true rfl)) dX4_answerForAlive_35 ⟨Nat.zero_le _, Nat.zero_le _⟩) (fun r5 h9 => ?_)
    have hr5 : r5 = F_X4_principalSet z v f t := h9
    try rw [← hr5] at hF
    refine lv_aload_n hx hb dX4_answerForAlive_38 rfl (lv_at hl 2 rfl) ?_
    refine va_get (D := (dC, dI)) (ci := 4) (v := .ref (ad 12)) (C := RX4) (T := TX4) (N := 11) hx hb hts hinX4 hown hK hP 0 rfl rfl 8 (by decide) hfl48 (fun _ h9 => h9) rfl dX4_answerForAlive_39 ?_
    refine lv_iload_n hx hb dX4_answerForAlive_42 rfl (lv_at hl 3 rfl) ?_
    refine lv_iconst (v := 1) hx hb dX4_answerForAlive_43 (by decide) ?_
    refine lv_iload hx hb dX4_answerForAlive_44 (lv_at hl 6 rfl) ?_
    refine vp_callSi (va_Run.run (va_runVN (As := [.int t, .int 1, .int day]) (rest := [.int r5, .int r2]) ⟨hx, hb, hml, hown, hts⟩ (c_X0_giversTo l dC dI ad cI cZ z v f t 1 day hok) ⟨(va_cnB 3 hts gX4_answerForAlive_X0_giversTo_n217 rfl rfl rfl hnw217 hiniX0 (by decide +kernel) ⟨Nat.le_of_ble_eq_true rfl, Nat.le_of_ble_eq_true rfl⟩), himX0_giversTo, hseX0_giversTo⟩ (preX (ci := 0) (q0 := 12) hP hK hN rfl rfl rfl) rfl rfl hl.1 rfl (lv_room (Nat.le_of_ble_eq_true rfl)) dX4_answerForAlive_46 ⟨Nat.zero_le _, Nat.zero_le _⟩)) (fun r6 h9 => ?_)
    have hr6 : r6 = F_X0_giversTo z v f t 1 day := h9
    try rw [← hr6] at hF
    refine lv_ior hx hb dX4_answerForAlive_49 ?_
    refine lv_iand hx hb dX4_answerForAlive_50 ?_
    refine lv_istore (lv' := [(7, .int (r2 &&& (r5 ||| r6))), (6, .int r2), (5, .int r1), (0, .ref (ad 0)), (1, .int t), (2, .int a), (3, .int pl), (4, .int day)]) hx hb dX4_answerForAlive_51 hl (by decide) rfl (fun ls hl => ?_)
    refine lv_iload hx hb dX4_answerForAlive_53 (lv_at hl 1 rfl) ?_
    refine lv_aload_n hx hb dX4_answerForAlive_55 rfl (lv_at hl 3 rfl) ?_
    refine va_get (D := (dC, dI)) (ci := 4) (v := .ref (ad 12)) (C := RX4) (T := TX4) (N := 11) hx hb hts hinX4 hown hK hP 0 rfl rfl 8 (by decide) hfl48 (fun _ h9 => h9) rfl dX4_answerForAlive_56 ?_
    refine lv_iload_n hx hb dX4_answerForAlive_59 rfl (lv_at hl 4 rfl) ?_
    refine lv_iconst (v := 0) hx hb dX4_answerForAlive_60 (by decide) ?_
    refine lv_iload hx hb dX4_answerForAlive_61 (lv_at hl 7 rfl) ?_
    refine vp_callSi (va_Run.run (va_runVN (As := [.int t, .int 0, .int day]) (rest := [.int r2]) ⟨hx, hb, hml, hown, hts⟩ (c_X0_giversTo l dC dI ad cI cZ z v f t 0 day hok) ⟨(va_cnB 3 hts gX4_answerForAlive_X0_giversTo_n217 rfl rfl rfl hnw217 hiniX0 (by decide +kernel) ⟨Nat.le_of_ble_eq_true rfl, Nat.le_of_ble_eq_true rfl⟩), himX0_giversTo, hseX0_giversTo⟩ (preX (ci := 0) (q0 := 12) hP hK hN rfl rfl rfl) rfl rfl hl.1 rfl (lv_room (Nat.le_of_ble_eq_true rfl)) dX4_answerForAlive_63 ⟨Nat.zero_le _, Nat.zero_le _⟩)) (fun r7 h9 => ?_)
    have hr7 : r7 = F_X0_giversTo z v f t 0 day := h9
    try rw [← hr7] at hF
    refine lv_iand hx hb dX4_answerForAlive_66 ?_
    refine lv_istore (lv' := [(8, .int (r2 &&& r7)), (7, .int (r2 &&& (r5 ||| r6))), (6, .int r2), (5, .int r1), (0, .ref (ad 0)), (1, .int t), (2, .int a), (3, .int pl), (4, .int day)]) hx hb dX4_answerForAlive_67 hl (by decide) rfl (fun ls hl => ?_)
    refine lv_iload hx hb dX4_answerForAlive_69 (lv_at hl 1 rfl) ?_
    refine lv_iload hx hb dX4_answerForAlive_71 (lv_at hl 3 rfl) ?_
    refine lv_iand hx hb dX4_answerForAlive_73 ?_
    refine lv_if_eq (tgt := 79) hx hb dX4_answerForAlive_74 (by decide) (fun c8 => ?_) (fun c8 => ?_)
    · rw [if_pos c8] at hF
      refine lv_iload hx hb dX4_answerForAlive_79 (lv_at hl 0 rfl) ?_
      refine lv_iload hx hb dX4_answerForAlive_81 (lv_at hl 3 rfl) ?_
      refine lv_iand hx hb dX4_answerForAlive_83 ?_
      refine lv_if_eq (tgt := 106) hx hb dX4_answerForAlive_84 (by decide) (fun c9 => ?_) (fun c9 => ?_)
      · rw [if_pos c9] at hF
        refine lv_aload_n hx hb dX4_answerForAlive_106 rfl (lv_at hl 4 rfl) ?_
        refine lv_iload_n hx hb dX4_answerForAlive_107 rfl (lv_at hl 5 rfl) ?_
        refine lv_iload_n hx hb dX4_answerForAlive_108 rfl (lv_at hl 6 rfl) ?_
        refine vp_callSi (W.runV (As := [.int t, .int a]) (rest := []) ⟨hx, hb, hml, hown, hts⟩ (c_X4_isForbidden l dC dI ad cI cZ z v f t a hok ht) (cwV 2 hts gX4_answerForAlive_X4_isForbidden rfl rfl rfl (by decide +kernel) ⟨Nat.le_of_ble_eq_true rfl, Nat.le_of_ble_eq_true rfl⟩) (preX (ci := 4) (q0 := 0) hP hK hN rfl rfl rfl) rfl rfl hl.1 rfl (lv_room (Nat.le_of_ble_eq_true rfl)) dX4_answerForAlive_109 ⟨Nat.zero_le _, Nat.zero_le _⟩) (fun r10 h9 => ?_)
        have hr10 : r10 = F_X4_isForbidden z v f t a := h9
        try rw [← hr10] at hF
        refine lv_if_eq (tgt := 117) hx hb dX4_answerForAlive_112 (by decide) (fun c11 => ?_) (fun c11 => ?_)
        · rw [if_pos c11] at hF
          have c11f : F_X4_isForbidden z v f t a = 0 := by rw [← hr10]; exact c11
          refine lv_iload hx hb dX4_answerForAlive_117 (lv_at hl 0 rfl) ?_
          refine lv_iload hx hb dX4_answerForAlive_119 (lv_at hl 3 rfl) ?_
          refine lv_iand hx hb dX4_answerForAlive_121 ?_
          refine lv_if_eq (tgt := 127) hx hb dX4_answerForAlive_122 (by decide) (fun c12 => ?_) (fun c12 => ?_)
          · rw [if_pos c12] at hF
            refine lv_iload hx hb dX4_answerForAlive_127 (lv_at hl 1 rfl) ?_
            refine lv_iload hx hb dX4_answerForAlive_129 (lv_at hl 0 rfl) ?_
            refine lv_ior hx hb dX4_answerForAlive_131 ?_
            refine lv_if_eq (tgt := 140) hx hb dX4_answerForAlive_132 (by decide) (fun c13 => ?_) (fun c13 => ?_)
            · rw [if_pos c13] at hF
              refine lv_bipush (v := 7) hx hb dX4_answerForAlive_140 (by decide) ?_
              subst hQ9
              exact W.iret hx hb hr (fun t ht hW => ⟨_, rfl, hF, ht⟩) (fun q h => by cases h) dX4_answerForAlive_142
            · rw [if_neg c13] at hF
              refine lv_bipush (v := 6) hx hb dX4_answerForAlive_135 (by decide) ?_
              refine lv_goto (tgt := 142) hx hb dX4_answerForAlive_137 (by decide) ?_
              subst hQ9
              exact W.iret hx hb hr (fun t ht hW => ⟨_, rfl, hF, ht⟩) (fun q h => by cases h) dX4_answerForAlive_142
          · rw [if_neg c12] at hF
            refine lv_iconst (v := 5) hx hb dX4_answerForAlive_125 (by decide) ?_
            subst hQ9
            exact W.iret hx hb hr (fun t ht hW => ⟨_, rfl, hF, ht⟩) (fun q h => by cases h) dX4_answerForAlive_126
        · rw [if_neg c11] at hF
          have c11f : ¬ F_X4_isForbidden z v f t a = 0 := by rw [← hr10]; exact c11
          refine lv_iconst (v := 4) hx hb dX4_answerForAlive_115 (by decide) ?_
          subst hQ9
          exact W.iret hx hb hr (fun t ht hW => ⟨_, rfl, hF, ht⟩) (fun q h => by cases h) dX4_answerForAlive_116
      · rw [if_neg c9] at hF
        refine lv_aload_n hx hb dX4_answerForAlive_87 rfl (lv_at hl 4 rfl) ?_
        refine lv_iconst (v := 0) hx hb dX4_answerForAlive_88 (by decide) ?_
        refine lv_iload_n hx hb dX4_answerForAlive_89 rfl (lv_at hl 7 rfl) ?_
        refine lv_iload hx hb dX4_answerForAlive_90 (lv_at hl 8 rfl) ?_
        refine lv_iload hx hb dX4_answerForAlive_92 (lv_at hl 3 rfl) ?_
        refine vp_callSi (W.runV (As := [.int 0, .int pl, .int day, .int r1]) (rest := []) ⟨hx, hb, hml, hown, hts⟩ (c_X4_ownersOf l dC dI ad cI cZ z v f 0 pl day r1 hok) (cwV 4 hts gX4_answerForAlive_X4_ownersOf rfl rfl rfl (by decide +kernel) ⟨Nat.le_of_ble_eq_true rfl, Nat.le_of_ble_eq_true rfl⟩) (preX (ci := 4) (q0 := 0) hP hK hN rfl rfl rfl) rfl rfl hl.1 rfl (lv_room (Nat.le_of_ble_eq_true rfl)) dX4_answerForAlive_94 ⟨Nat.zero_le _, Nat.zero_le _⟩) (fun r14 h9 => ?_)
        have hr14 : r14 = F_X4_ownersOf z v f 0 pl day r1 := h9
        try rw [← hr14] at hF
        refine lv_iload_n hx hb dX4_answerForAlive_97 rfl (lv_at hl 5 rfl) ?_
        refine vp_callSi (W.runS (As := [.int r14, .int t]) (rest := []) ⟨hx, hb, hml, hown, hts⟩ (c_X4_holds l r14 t) (cwS 2 hts gX4_answerForAlive_X4_holds rfl rfl rfl (by decide +kernel) ⟨Nat.le_of_ble_eq_true rfl, Nat.le_of_ble_eq_true rfl⟩) preT rfl rfl hl.1 rfl (lv_room (Nat.le_of_ble_eq_true rfl)) dX4_answerForAlive_98 ⟨Nat.zero_le _, Nat.zero_le _⟩) (fun r15 h9 => ?_)
        have hr15 : r15 = F_X4_holds r14 t := h9
        try rw [← hr15] at hF
        refine lv_if_eq (tgt := 106) hx hb dX4_answerForAlive_101 (by decide) (fun c16 => ?_) (fun c16 => ?_)
        · rw [if_pos c16] at hF
          have c16f : F_X4_holds r14 t = 0 := by rw [← hr15]; exact c16
          refine lv_aload_n hx hb dX4_answerForAlive_106 rfl (lv_at hl 4 rfl) ?_
          refine lv_iload_n hx hb dX4_answerForAlive_107 rfl (lv_at hl 5 rfl) ?_
          refine lv_iload_n hx hb dX4_answerForAlive_108 rfl (lv_at hl 6 rfl) ?_
          refine vp_callSi (W.runV (As := [.int t, .int a]) (rest := []) ⟨hx, hb, hml, hown, hts⟩ (c_X4_isForbidden l dC dI ad cI cZ z v f t a hok ht) (cwV 2 hts gX4_answerForAlive_X4_isForbidden rfl rfl rfl (by decide +kernel) ⟨Nat.le_of_ble_eq_true rfl, Nat.le_of_ble_eq_true rfl⟩) (preX (ci := 4) (q0 := 0) hP hK hN rfl rfl rfl) rfl rfl hl.1 rfl (lv_room (Nat.le_of_ble_eq_true rfl)) dX4_answerForAlive_109 ⟨Nat.zero_le _, Nat.zero_le _⟩) (fun r17 h9 => ?_)
          have hr17 : r17 = F_X4_isForbidden z v f t a := h9
          try rw [← hr17] at hF
          refine lv_if_eq (tgt := 117) hx hb dX4_answerForAlive_112 (by decide) (fun c18 => ?_) (fun c18 => ?_)
          · rw [if_pos c18] at hF
            have c18f : F_X4_isForbidden z v f t a = 0 := by rw [← hr17]; exact c18
            refine lv_iload hx hb dX4_answerForAlive_117 (lv_at hl 0 rfl) ?_
            refine lv_iload hx hb dX4_answerForAlive_119 (lv_at hl 3 rfl) ?_
            refine lv_iand hx hb dX4_answerForAlive_121 ?_
            refine lv_if_eq (tgt := 127) hx hb dX4_answerForAlive_122 (by decide) (fun c19 => ?_) (fun c19 => ?_)
            · rw [if_pos c19] at hF
              refine lv_iload hx hb dX4_answerForAlive_127 (lv_at hl 1 rfl) ?_
              refine lv_iload hx hb dX4_answerForAlive_129 (lv_at hl 0 rfl) ?_
              refine lv_ior hx hb dX4_answerForAlive_131 ?_
              refine lv_if_eq (tgt := 140) hx hb dX4_answerForAlive_132 (by decide) (fun c20 => ?_) (fun c20 => ?_)
              · rw [if_pos c20] at hF
                refine lv_bipush (v := 7) hx hb dX4_answerForAlive_140 (by decide) ?_
                subst hQ9
                exact W.iret hx hb hr (fun t ht hW => ⟨_, rfl, hF, ht⟩) (fun q h => by cases h) dX4_answerForAlive_142
              · rw [if_neg c20] at hF
                refine lv_bipush (v := 6) hx hb dX4_answerForAlive_135 (by decide) ?_
                refine lv_goto (tgt := 142) hx hb dX4_answerForAlive_137 (by decide) ?_
                subst hQ9
                exact W.iret hx hb hr (fun t ht hW => ⟨_, rfl, hF, ht⟩) (fun q h => by cases h) dX4_answerForAlive_142
            · rw [if_neg c19] at hF
              refine lv_iconst (v := 5) hx hb dX4_answerForAlive_125 (by decide) ?_
              subst hQ9
              exact W.iret hx hb hr (fun t ht hW => ⟨_, rfl, hF, ht⟩) (fun q h => by cases h) dX4_answerForAlive_126
          · rw [if_neg c18] at hF
            have c18f : ¬ F_X4_isForbidden z v f t a = 0 := by rw [← hr17]; exact c18
            refine lv_iconst (v := 4) hx hb dX4_answerForAlive_115 (by decide) ?_
            subst hQ9
            exact W.iret hx hb hr (fun t ht hW => ⟨_, rfl, hF, ht⟩) (fun q h => by cases h) dX4_answerForAlive_116
        · rw [if_neg c16] at hF
          have c16f : ¬ F_X4_holds r14 t = 0 := by rw [← hr15]; exact c16
          refine lv_iconst (v := 0) hx hb dX4_answerForAlive_104 (by decide) ?_
          subst hQ9
          exact W.iret hx hb hr (fun t ht hW => ⟨_, rfl, hF, ht⟩) (fun q h => by cases h) dX4_answerForAlive_105
    · rw [if_neg c8] at hF
      refine lv_iconst (v := 0) hx hb dX4_answerForAlive_77 (by decide) ?_
      subst hQ9
      exact W.iret hx hb hr (fun t ht hW => ⟨_, rfl, hF, ht⟩) (fun q h => by cases h) dX4_answerForAlive_78
  · rw [if_neg c4] at hF
    have c4f : ¬ F_X4_holds r2 t = 0 := by rw [← hr3]; exact c4
    refine lv_iconst (v := 0) hx hb dX4_answerForAlive_29 (by decide) ?_
    subst hQ9
    exact W.iret hx hb hr (fun t ht hW => ⟨_, rfl, hF, ht⟩) (fun q h => by cases h) dX4_answerForAlive_30
end
section
def F_X4_may (z : Nat → Nat) (v : Nat → Int32) (f : Nat → Nat → Int32) (t a pl day : Int32) : Int32 :=
  if F_X4_isTrader z v f t = 0 then
    1
  else
    if F_X4_isAct a = 0 then
      1
    else
      if F_X4_isPlace pl = 0 then
        1
      else
        if F_X4_isDay day = 0 then
          1
        else
          if F_X4_isEnded z v f t day = 0 then
            if F_X3_isOn z v f t day = 0 then
              F_X4_answerForAlive z v f t a pl day
            else
              3
          else
            2
set_option maxHeartbeats 4000000 in
set_option maxRecDepth 100000 in
theorem c_X4_may (l : Launch) (dC : Nat → ClassId) (dI : Nat → Nat → Nat) (ad : Nat → Nat) (cI cZ : ClassId) (z : Nat → Nat) (v : Nat → Int32) (f : Nat → Nat → Int32) (t a pl day : Int32) (hok : okX z v f) : Met l yX4_may wsX4_may ({ frames := 5, cells := 0, slots := 0, locals := 124 }) (va_Pc [.ref (ad 0), .int t, .int a, .int pl, .int day] (kX dC dI ad cI cZ z v f)) (vp_Si (fun r => r = F_X4_may z v f t a pl day)) 0 0 (fun _ => False) := by
  refine Met.ofW (cc := cX4_may) (maxL := 5) (ret := (some .int)) (by decide) rfl ?_
  intro p e s m args below meth c s₁ B hml hv
  obtain ⟨rfl, hP, hK, hN⟩ := hv
  have hx := B.exec
  have hb := B.bytes
  have hr := B.returns
  have hts := atoms_spec (ws := wsX4_may) B.pre
  have hown : s.vm.findClass RX4 = some m.cls := findClass_of_methodNamed B.named
  have hlocks := B.notSynchronized
  have hok9 := hok
  obtain ⟨hz0, hz1, hz2, hz3, hz4, hbz, hbs⟩ := hok9
  have hfl55 := hts (.fieldLink RX4 55 "TraderRights" "suspensions" "LTraderRights$Suspensions;") (List.mem_of_getElem? (i := 1) rfl)
  have himX3_isOn := hts (.instanceMethod yX3_isOn) (List.mem_of_getElem? (i := 23) rfl)
  have hinX4 : ∀ w ∈ u_ws RX4 TX4 11, w ∈ wsX4_may := fun w h => List.mem_cons_of_mem _ (List.mem_append_left _ (List.mem_append_left _ (List.mem_append_left _ (List.mem_append_right _ h))))
  have hiniX3 := hts (.initialized RX3) (List.mem_of_getElem? (i := 24) rfl)
  have hnw153 := hN (.methodLinkNest RX4 153 yX3_isOn "TraderRights") (by decide +kernel)
  have hseX3_isOn := hts (.selects RX3 yX3_isOn yX3_isOn) (List.mem_of_getElem? (i := 25) rfl)
  have hl := lv_entry ([.ref (ad 0), .int t, .int a, .int pl, .int day]) (n := 5) (Nat.le_of_ble_eq_true rfl)
  rw [lg_entry_eq]
  generalize (lg_sl ([.ref (ad 0), .int t, .int a, .int pl, .int day]) ++ List.replicate (5 - (lg_sl ([.ref (ad 0), .int t, .int a, .int pl, .int day])).length) Slot.unset).toArray = ls at hl ⊢
  have hl : lv_has ls 5 [(0, .ref (ad 0)), (1, .int t), (2, .int a), (3, .int pl), (4, .int day)] := hl
  generalize hF : F_X4_may z v f t a pl day = R9
  generalize hQ9 : MQ below (vp_Si (fun r => r = R9)) _ s 0 0 (fun _ => False) = Q9
  rw [F_X4_may] at hF
  refine lv_aload_n hx hb dX4_may_0 rfl (lv_at hl 0 rfl) ?_
  refine lv_iload_n hx hb dX4_may_1 rfl (lv_at hl 1 rfl) ?_
  refine vp_callSi (W.runV (As := [.int t]) (rest := []) ⟨hx, hb, hml, hown, hts⟩ (c_X4_isTrader l dC dI ad cI cZ z v f t hok) (cwV 1 hts gX4_may_X4_isTrader rfl rfl rfl (by decide +kernel) ⟨Nat.le_of_ble_eq_true rfl, Nat.le_of_ble_eq_true rfl⟩) (preX (ci := 4) (q0 := 0) hP hK hN rfl rfl rfl) rfl rfl hl.1 rfl (lv_room (Nat.le_of_ble_eq_true rfl)) dX4_may_2 ⟨Nat.zero_le _, Nat.zero_le _⟩) (fun r1 h9 => ?_)
  have hr1 : r1 = F_X4_isTrader z v f t := h9
  try rw [← hr1] at hF
  refine lv_if_eq (tgt := 30) hx hb dX4_may_5 (by decide) (fun c2 => ?_) (fun c2 => ?_)
  · rw [if_pos c2] at hF
    have c2f : F_X4_isTrader z v f t = 0 := by rw [← hr1]; exact c2
    refine lv_iconst (v := 1) hx hb dX4_may_30 (by decide) ?_
    subst hQ9
    exact W.iret hx hb hr (fun t ht hW => ⟨_, rfl, hF, ht⟩) (fun q h => by cases h) dX4_may_31
  · rw [if_neg c2] at hF
    have c2f : ¬ F_X4_isTrader z v f t = 0 := by rw [← hr1]; exact c2
    refine lv_iload_n hx hb dX4_may_8 rfl (lv_at hl 2 rfl) ?_
    refine vp_callSi (W.runS (As := [.int a]) (rest := []) ⟨hx, hb, hml, hown, hts⟩ (c_X4_isAct l a) (cwS 1 hts gX4_may_X4_isAct rfl rfl rfl (by decide +kernel) ⟨Nat.le_of_ble_eq_true rfl, Nat.le_of_ble_eq_true rfl⟩) preT rfl rfl hl.1 rfl (lv_room (Nat.le_of_ble_eq_true rfl)) dX4_may_9 ⟨Nat.zero_le _, Nat.zero_le _⟩) (fun r3 h9 => ?_)
    have hr3 : r3 = F_X4_isAct a := h9
    try rw [← hr3] at hF
    refine lv_if_eq (tgt := 30) hx hb dX4_may_12 (by decide) (fun c4 => ?_) (fun c4 => ?_)
    · rw [if_pos c4] at hF
      have c4f : F_X4_isAct a = 0 := by rw [← hr3]; exact c4
      refine lv_iconst (v := 1) hx hb dX4_may_30 (by decide) ?_
      subst hQ9
      exact W.iret hx hb hr (fun t ht hW => ⟨_, rfl, hF, ht⟩) (fun q h => by cases h) dX4_may_31
    · rw [if_neg c4] at hF
      have c4f : ¬ F_X4_isAct a = 0 := by rw [← hr3]; exact c4
      refine lv_iload_n hx hb dX4_may_15 rfl (lv_at hl 3 rfl) ?_
      refine vp_callSi (W.runS (As := [.int pl]) (rest := []) ⟨hx, hb, hml, hown, hts⟩ (c_X4_isPlace l pl) (cwS 1 hts gX4_may_X4_isPlace rfl rfl rfl (by decide +kernel) ⟨Nat.le_of_ble_eq_true rfl, Nat.le_of_ble_eq_true rfl⟩) preT rfl rfl hl.1 rfl (lv_room (Nat.le_of_ble_eq_true rfl)) dX4_may_16 ⟨Nat.zero_le _, Nat.zero_le _⟩) (fun r5 h9 => ?_)
      have hr5 : r5 = F_X4_isPlace pl := h9
      try rw [← hr5] at hF
      refine lv_if_eq (tgt := 30) hx hb dX4_may_19 (by decide) (fun c6 => ?_) (fun c6 => ?_)
      · rw [if_pos c6] at hF
        have c6f : F_X4_isPlace pl = 0 := by rw [← hr5]; exact c6
        refine lv_iconst (v := 1) hx hb dX4_may_30 (by decide) ?_
        subst hQ9
        exact W.iret hx hb hr (fun t ht hW => ⟨_, rfl, hF, ht⟩) (fun q h => by cases h) dX4_may_31
      · rw [if_neg c6] at hF
        have c6f : ¬ F_X4_isPlace pl = 0 := by rw [← hr5]; exact c6
        refine lv_iload hx hb dX4_may_22 (lv_at hl 4 rfl) ?_
        refine vp_callSi (W.runS (As := [.int day]) (rest := []) ⟨hx, hb, hml, hown, hts⟩ (c_X4_isDay l day) (cwS 1 hts gX4_may_X4_isDay rfl rfl rfl (by decide +kernel) ⟨Nat.le_of_ble_eq_true rfl, Nat.le_of_ble_eq_true rfl⟩) preT rfl rfl hl.1 rfl (lv_room (Nat.le_of_ble_eq_true rfl)) dX4_may_24 ⟨Nat.zero_le _, Nat.zero_le _⟩) (fun r7 h9 => ?_)
        have hr7 : r7 = F_X4_isDay day := h9
        try rw [← hr7] at hF
        refine lv_if_ne (tgt := 32) hx hb dX4_may_27 (by decide) (fun c8 => ?_) (fun c8 => ?_)
        · rw [if_neg c8] at hF
          have c8f : ¬ F_X4_isDay day = 0 := by rw [← hr7]; exact c8
          refine lv_aload_n hx hb dX4_may_32 rfl (lv_at hl 0 rfl) ?_
          refine lv_iload_n hx hb dX4_may_33 rfl (lv_at hl 1 rfl) ?_
          refine lv_iload hx hb dX4_may_34 (lv_at hl 4 rfl) ?_
          refine vp_callSi (W.runV (As := [.int t, .int day]) (rest := []) ⟨hx, hb, hml, hown, hts⟩ (c_X4_isEnded l dC dI ad cI cZ z v f t day hok (in_isTX hok c2f)) (cwV 2 hts gX4_may_X4_isEnded rfl rfl rfl (by decide +kernel) ⟨Nat.le_of_ble_eq_true rfl, Nat.le_of_ble_eq_true rfl⟩) (preX (ci := 4) (q0 := 0) hP hK hN rfl rfl rfl) rfl rfl hl.1 rfl (lv_room (Nat.le_of_ble_eq_true rfl)) dX4_may_36 ⟨Nat.zero_le _, Nat.zero_le _⟩) (fun r9 h9 => ?_)
          have hr9 : r9 = F_X4_isEnded z v f t day := h9
          try rw [← hr9] at hF
          refine lv_if_eq (tgt := 44) hx hb dX4_may_39 (by decide) (fun c10 => ?_) (fun c10 => ?_)
          · rw [if_pos c10] at hF
            have c10f : F_X4_isEnded z v f t day = 0 := by rw [← hr9]; exact c10
            refine lv_aload_n hx hb dX4_may_44 rfl (lv_at hl 0 rfl) ?_
            refine va_get (D := (dC, dI)) (ci := 4) (v := .ref (ad 17)) (C := RX4) (T := TX4) (N := 11) hx hb hts hinX4 hown hK hP 0 rfl rfl 9 (by decide) hfl55 (fun _ h9 => h9) rfl dX4_may_45 ?_
            refine lv_iload_n hx hb dX4_may_48 rfl (lv_at hl 1 rfl) ?_
            refine lv_iload hx hb dX4_may_49 (lv_at hl 4 rfl) ?_
            refine vp_callSi (va_Run.run (va_runVN (As := [.int t, .int day]) (rest := []) ⟨hx, hb, hml, hown, hts⟩ (c_X3_isOn l dC dI ad cI cZ z v f t day hok) ⟨(va_cnB 2 hts gX4_may_X3_isOn_n153 rfl rfl rfl hnw153 hiniX3 (by decide +kernel) ⟨Nat.le_of_ble_eq_true rfl, Nat.le_of_ble_eq_true rfl⟩), himX3_isOn, hseX3_isOn⟩ (preX (ci := 3) (q0 := 17) hP hK hN rfl rfl rfl) rfl rfl hl.1 rfl (lv_room (Nat.le_of_ble_eq_true rfl)) dX4_may_51 ⟨Nat.zero_le _, Nat.zero_le _⟩)) (fun r11 h9 => ?_)
            have hr11 : r11 = F_X3_isOn z v f t day := h9
            try rw [← hr11] at hF
            refine lv_if_eq (tgt := 59) hx hb dX4_may_54 (by decide) (fun c12 => ?_) (fun c12 => ?_)
            · rw [if_pos c12] at hF
              have c12f : F_X3_isOn z v f t day = 0 := by rw [← hr11]; exact c12
              refine lv_aload_n hx hb dX4_may_59 rfl (lv_at hl 0 rfl) ?_
              refine lv_iload_n hx hb dX4_may_60 rfl (lv_at hl 1 rfl) ?_
              refine lv_iload_n hx hb dX4_may_61 rfl (lv_at hl 2 rfl) ?_
              refine lv_iload_n hx hb dX4_may_62 rfl (lv_at hl 3 rfl) ?_
              refine lv_iload hx hb dX4_may_63 (lv_at hl 4 rfl) ?_
              refine vp_callSi (W.runV (As := [.int t, .int a, .int pl, .int day]) (rest := []) ⟨hx, hb, hml, hown, hts⟩ (c_X4_answerForAlive l dC dI ad cI cZ z v f t a pl day hok (in_isTX hok c2f)) (cwV 4 hts gX4_may_X4_answerForAlive rfl rfl rfl (by decide +kernel) ⟨Nat.le_of_ble_eq_true rfl, Nat.le_of_ble_eq_true rfl⟩) (preX (ci := 4) (q0 := 0) hP hK hN rfl rfl rfl) rfl rfl hl.1 rfl (lv_room (Nat.le_of_ble_eq_true rfl)) dX4_may_65 ⟨Nat.zero_le _, Nat.zero_le _⟩) (fun r13 h9 => ?_)
              have hr13 : r13 = F_X4_answerForAlive z v f t a pl day := h9
              try rw [← hr13] at hF
              subst hQ9
              exact W.iret hx hb hr (fun t ht hW => ⟨_, rfl, hF, ht⟩) (fun q h => by cases h) dX4_may_68
            · rw [if_neg c12] at hF
              have c12f : ¬ F_X3_isOn z v f t day = 0 := by rw [← hr11]; exact c12
              refine lv_iconst (v := 3) hx hb dX4_may_57 (by decide) ?_
              subst hQ9
              exact W.iret hx hb hr (fun t ht hW => ⟨_, rfl, hF, ht⟩) (fun q h => by cases h) dX4_may_58
          · rw [if_neg c10] at hF
            have c10f : ¬ F_X4_isEnded z v f t day = 0 := by rw [← hr9]; exact c10
            refine lv_iconst (v := 2) hx hb dX4_may_42 (by decide) ?_
            subst hQ9
            exact W.iret hx hb hr (fun t ht hW => ⟨_, rfl, hF, ht⟩) (fun q h => by cases h) dX4_may_43
        · rw [if_pos c8] at hF
          have c8f : F_X4_isDay day = 0 := by rw [← hr7]; exact c8
          refine lv_iconst (v := 1) hx hb dX4_may_30 (by decide) ?_
          subst hQ9
          exact W.iret hx hb hr (fun t ht hW => ⟨_, rfl, hF, ht⟩) (fun q h => by cases h) dX4_may_31
theorem in_mayX {z : Nat → Nat} {v : Nat → Int32} {f : Nat → Nat → Int32} {t a pl day : Int32} (hok : okX z v f) (h : F_X4_may z v f t a pl day = 0) : vp_in t 12 := by
  rw [F_X4_may] at h
  split at h
  · exact absurd h (by decide)
  · exact in_isTX hok (by assumption)
end
section
def F_X4_done (z : Nat → Nat) (v : Nat → Int32) (f : Nat → Nat → Int32) (a pl day t u : Int32) : Int32 :=
  if F_X4_may z v f t a pl day = 0 then
    if F_X4_needsTwo z v f a = 0 then
      0
    else
      if F_X4_may z v f u a pl day = 0 then
        if t = u then
          3
        else
          if f 2 t.toNatClampNeg = u then
            3
          else
            if f 2 u.toNatClampNeg = t then
              3
            else
              0
      else
        2
  else
    1
set_option maxHeartbeats 4000000 in
set_option maxRecDepth 100000 in
theorem c_X4_done (l : Launch) (dC : Nat → ClassId) (dI : Nat → Nat → Nat) (ad : Nat → Nat) (cI cZ : ClassId) (z : Nat → Nat) (v : Nat → Int32) (f : Nat → Nat → Int32) (a pl day t u : Int32) (hok : okX z v f) : Met l yX4_done wsX4_done ({ frames := 6, cells := 0, slots := 0, locals := 148 }) (va_Pc [.ref (ad 0), .int a, .int pl, .int day, .int t, .int u] (kX dC dI ad cI cZ z v f)) (vp_Si (fun r => r = F_X4_done z v f a pl day t u)) 0 0 (fun _ => False) := by
  refine Met.ofW (cc := cX4_done) (maxL := 6) (ret := (some .int)) (by decide) rfl ?_
  intro p e s m args below meth c s₁ B hml hv
  obtain ⟨rfl, hP, hK, hN⟩ := hv
  have hx := B.exec
  have hb := B.bytes
  have hr := B.returns
  have hts := atoms_spec (ws := wsX4_done) B.pre
  have hown : s.vm.findClass RX4 = some m.cls := findClass_of_methodNamed B.named
  have hlocks := B.notSynchronized
  have hok9 := hok
  obtain ⟨hz0, hz1, hz2, hz3, hz4, hbz, hbs⟩ := hok9
  have hfl23 := hts (.fieldLink RX4 23 "TraderRights" "deputies" "[I") (List.mem_of_getElem? (i := 1) rfl)
  have hinX4 : ∀ w ∈ u_ws RX4 TX4 11, w ∈ wsX4_done := fun w h => List.mem_cons_of_mem _ (List.mem_append_left _ (List.mem_append_left _ (List.mem_append_left _ (List.mem_append_right _ h))))
  have hl := lv_entry ([.ref (ad 0), .int a, .int pl, .int day, .int t, .int u]) (n := 6) (Nat.le_of_ble_eq_true rfl)
  rw [lg_entry_eq]
  generalize (lg_sl ([.ref (ad 0), .int a, .int pl, .int day, .int t, .int u]) ++ List.replicate (6 - (lg_sl ([.ref (ad 0), .int a, .int pl, .int day, .int t, .int u])).length) Slot.unset).toArray = ls at hl ⊢
  have hl : lv_has ls 6 [(0, .ref (ad 0)), (1, .int a), (2, .int pl), (3, .int day), (4, .int t), (5, .int u)] := hl
  generalize hF : F_X4_done z v f a pl day t u = R9
  generalize hQ9 : MQ below (vp_Si (fun r => r = R9)) _ s 0 0 (fun _ => False) = Q9
  rw [F_X4_done] at hF
  refine lv_aload_n hx hb dX4_done_0 rfl (lv_at hl 0 rfl) ?_
  refine lv_iload hx hb dX4_done_1 (lv_at hl 4 rfl) ?_
  refine lv_iload_n hx hb dX4_done_3 rfl (lv_at hl 1 rfl) ?_
  refine lv_iload_n hx hb dX4_done_4 rfl (lv_at hl 2 rfl) ?_
  refine lv_iload_n hx hb dX4_done_5 rfl (lv_at hl 3 rfl) ?_
  refine vp_callSi (W.runV (As := [.int t, .int a, .int pl, .int day]) (rest := []) ⟨hx, hb, hml, hown, hts⟩ (c_X4_may l dC dI ad cI cZ z v f t a pl day hok) (cwV 4 hts gX4_done_X4_may rfl rfl rfl (by decide +kernel) ⟨Nat.le_of_ble_eq_true rfl, Nat.le_of_ble_eq_true rfl⟩) (preX (ci := 4) (q0 := 0) hP hK hN rfl rfl rfl) rfl rfl hl.1 rfl (lv_room (Nat.le_of_ble_eq_true rfl)) dX4_done_6 ⟨Nat.zero_le _, Nat.zero_le _⟩) (fun r1 h9 => ?_)
  have hr1 : r1 = F_X4_may z v f t a pl day := h9
  try rw [← hr1] at hF
  refine lv_if_eq (tgt := 14) hx hb dX4_done_9 (by decide) (fun c2 => ?_) (fun c2 => ?_)
  · rw [if_pos c2] at hF
    have c2f : F_X4_may z v f t a pl day = 0 := by rw [← hr1]; exact c2
    refine lv_aload_n hx hb dX4_done_14 rfl (lv_at hl 0 rfl) ?_
    refine lv_iload_n hx hb dX4_done_15 rfl (lv_at hl 1 rfl) ?_
    refine vp_callSi (W.runV (As := [.int a]) (rest := []) ⟨hx, hb, hml, hown, hts⟩ (c_X4_needsTwo l dC dI ad cI cZ z v f a hok) (cwV 1 hts gX4_done_X4_needsTwo rfl rfl rfl (by decide +kernel) ⟨Nat.le_of_ble_eq_true rfl, Nat.le_of_ble_eq_true rfl⟩) (preX (ci := 4) (q0 := 0) hP hK hN rfl rfl rfl) rfl rfl hl.1 rfl (lv_room (Nat.le_of_ble_eq_true rfl)) dX4_done_16 ⟨Nat.zero_le _, Nat.zero_le _⟩) (fun r3 h9 => ?_)
    have hr3 : r3 = F_X4_needsTwo z v f a := h9
    try rw [← hr3] at hF
    refine lv_if_ne (tgt := 24) hx hb dX4_done_19 (by decide) (fun c4 => ?_) (fun c4 => ?_)
    · rw [if_neg c4] at hF
      have c4f : ¬ F_X4_needsTwo z v f a = 0 := by rw [← hr3]; exact c4
      refine lv_aload_n hx hb dX4_done_24 rfl (lv_at hl 0 rfl) ?_
      refine lv_iload hx hb dX4_done_25 (lv_at hl 5 rfl) ?_
      refine lv_iload_n hx hb dX4_done_27 rfl (lv_at hl 1 rfl) ?_
      refine lv_iload_n hx hb dX4_done_28 rfl (lv_at hl 2 rfl) ?_
      refine lv_iload_n hx hb dX4_done_29 rfl (lv_at hl 3 rfl) ?_
      refine vp_callSi (W.runV (As := [.int u, .int a, .int pl, .int day]) (rest := []) ⟨hx, hb, hml, hown, hts⟩ (c_X4_may l dC dI ad cI cZ z v f u a pl day hok) (cwV 4 hts gX4_done_X4_may rfl rfl rfl (by decide +kernel) ⟨Nat.le_of_ble_eq_true rfl, Nat.le_of_ble_eq_true rfl⟩) (preX (ci := 4) (q0 := 0) hP hK hN rfl rfl rfl) rfl rfl hl.1 rfl (lv_room (Nat.le_of_ble_eq_true rfl)) dX4_done_30 ⟨Nat.zero_le _, Nat.zero_le _⟩) (fun r5 h9 => ?_)
      have hr5 : r5 = F_X4_may z v f u a pl day := h9
      try rw [← hr5] at hF
      refine lv_if_eq (tgt := 38) hx hb dX4_done_33 (by decide) (fun c6 => ?_) (fun c6 => ?_)
      · rw [if_pos c6] at hF
        have c6f : F_X4_may z v f u a pl day = 0 := by rw [← hr5]; exact c6
        refine lv_iload hx hb dX4_done_38 (lv_at hl 4 rfl) ?_
        refine lv_iload hx hb dX4_done_40 (lv_at hl 5 rfl) ?_
        refine lv_icmp_eq (tgt := 69) hx hb dX4_done_42 (by decide) (fun c7 => ?_) (fun c7 => ?_)
        · rw [if_pos c7] at hF
          refine lv_iconst (v := 3) hx hb dX4_done_69 (by decide) ?_
          subst hQ9
          exact W.iret hx hb hr (fun t ht hW => ⟨_, rfl, hF, ht⟩) (fun q h => by cases h) dX4_done_70
        · rw [if_neg c7] at hF
          refine lv_aload_n hx hb dX4_done_45 rfl (lv_at hl 0 rfl) ?_
          refine va_get (D := (dC, dI)) (ci := 4) (v := .ref (ad 3)) (C := RX4) (T := TX4) (N := 11) hx hb hts hinX4 hown hK hP 0 rfl rfl 4 (by decide) hfl23 (fun _ h9 => h9) rfl dX4_done_46 ?_
          refine lv_iload hx hb dX4_done_49 (lv_at hl 4 rfl) ?_
          refine va_iald hx hb hK hP 3 0 rfl rfl (in_mayX hok c2f) dX4_done_51 ?_
          refine lv_iload hx hb dX4_done_52 (lv_at hl 5 rfl) ?_
          refine lv_icmp_eq (tgt := 69) hx hb dX4_done_54 (by decide) (fun c8 => ?_) (fun c8 => ?_)
          · rw [if_pos c8] at hF
            refine lv_iconst (v := 3) hx hb dX4_done_69 (by decide) ?_
            subst hQ9
            exact W.iret hx hb hr (fun t ht hW => ⟨_, rfl, hF, ht⟩) (fun q h => by cases h) dX4_done_70
          · rw [if_neg c8] at hF
            refine lv_aload_n hx hb dX4_done_57 rfl (lv_at hl 0 rfl) ?_
            refine va_get (D := (dC, dI)) (ci := 4) (v := .ref (ad 3)) (C := RX4) (T := TX4) (N := 11) hx hb hts hinX4 hown hK hP 0 rfl rfl 4 (by decide) hfl23 (fun _ h9 => h9) rfl dX4_done_58 ?_
            refine lv_iload hx hb dX4_done_61 (lv_at hl 5 rfl) ?_
            refine va_iald hx hb hK hP 3 0 rfl rfl (in_mayX hok c6f) dX4_done_63 ?_
            refine lv_iload hx hb dX4_done_64 (lv_at hl 4 rfl) ?_
            refine lv_icmp_ne (tgt := 71) hx hb dX4_done_66 (by decide) (fun c9 => ?_) (fun c9 => ?_)
            · rw [if_neg c9] at hF
              refine lv_iconst (v := 0) hx hb dX4_done_71 (by decide) ?_
              subst hQ9
              exact W.iret hx hb hr (fun t ht hW => ⟨_, rfl, hF, ht⟩) (fun q h => by cases h) dX4_done_72
            · rw [if_pos c9] at hF
              refine lv_iconst (v := 3) hx hb dX4_done_69 (by decide) ?_
              subst hQ9
              exact W.iret hx hb hr (fun t ht hW => ⟨_, rfl, hF, ht⟩) (fun q h => by cases h) dX4_done_70
      · rw [if_neg c6] at hF
        have c6f : ¬ F_X4_may z v f u a pl day = 0 := by rw [← hr5]; exact c6
        refine lv_iconst (v := 2) hx hb dX4_done_36 (by decide) ?_
        subst hQ9
        exact W.iret hx hb hr (fun t ht hW => ⟨_, rfl, hF, ht⟩) (fun q h => by cases h) dX4_done_37
    · rw [if_pos c4] at hF
      have c4f : F_X4_needsTwo z v f a = 0 := by rw [← hr3]; exact c4
      refine lv_iconst (v := 0) hx hb dX4_done_22 (by decide) ?_
      subst hQ9
      exact W.iret hx hb hr (fun t ht hW => ⟨_, rfl, hF, ht⟩) (fun q h => by cases h) dX4_done_23
  · rw [if_neg c2] at hF
    have c2f : ¬ F_X4_may z v f t a pl day = 0 := by rw [← hr1]; exact c2
    refine lv_iconst (v := 1) hx hb dX4_done_12 (by decide) ?_
    subst hQ9
    exact W.iret hx hb hr (fun t ht hW => ⟨_, rfl, hF, ht⟩) (fun q h => by cases h) dX4_done_13
end
section
def F_X5_in (x a b : Int32) : Int32 :=
  if x < a then
    0
  else
    if b < x then
      0
    else
      1
set_option maxHeartbeats 4000000 in
set_option maxRecDepth 100000 in
theorem c_X5_in (l : Launch) (x a b : Int32) : Met l yX5_in wsX5_in ({ frames := 0, cells := 0, slots := 0, locals := 0 }) (va_Pc [.int x, .int a, .int b] (fun _ => True)) (vp_Si (fun r => r = F_X5_in x a b)) 0 0 (fun _ => False) := by
  refine Met.ofW (cc := cX5_in) (maxL := 3) (ret := (some .boolean)) (by decide) rfl ?_
  intro p e s m args below meth c s₁ B hml hv
  obtain ⟨rfl, -⟩ := hv
  have hx := B.exec
  have hb := B.bytes
  have hr := B.returns
  have hts := atoms_spec (ws := wsX5_in) B.pre
  have hown : s.vm.findClass RX5 = some m.cls := findClass_of_methodNamed B.named
  have hlocks := B.notSynchronized
  have hl := lv_entry ([.int x, .int a, .int b]) (n := 3) (Nat.le_of_ble_eq_true rfl)
  rw [lg_entry_eq]
  generalize (lg_sl ([.int x, .int a, .int b]) ++ List.replicate (3 - (lg_sl ([.int x, .int a, .int b])).length) Slot.unset).toArray = ls at hl ⊢
  have hl : lv_has ls 3 [(0, .int x), (1, .int a), (2, .int b)] := hl
  generalize hF : F_X5_in x a b = R9
  generalize hQ9 : MQ below (vp_Si (fun r => r = R9)) _ s 0 0 (fun _ => False) = Q9
  rw [F_X5_in] at hF
  refine lv_iload_n hx hb dX5_in_0 rfl (lv_at hl 0 rfl) ?_
  refine lv_iload_n hx hb dX5_in_1 rfl (lv_at hl 1 rfl) ?_
  refine lv_icmp_lt (tgt := 14) hx hb dX5_in_2 (by decide) (fun c1 => ?_) (fun c1 => ?_)
  · rw [if_pos c1] at hF
    refine lv_iconst (v := 0) hx hb dX5_in_14 (by decide) ?_
    subst hQ9
    exact W.zret (ty := .boolean) hx hb hr rfl (fun t ht hW => ⟨_, rfl, hF, ht⟩) (fun q h => by cases h) dX5_in_15
  · rw [if_neg c1] at hF
    refine lv_iload_n hx hb dX5_in_5 rfl (lv_at hl 0 rfl) ?_
    refine lv_iload_n hx hb dX5_in_6 rfl (lv_at hl 2 rfl) ?_
    refine lv_icmp_gt (tgt := 14) hx hb dX5_in_7 (by decide) (fun c2 => ?_) (fun c2 => ?_)
    · rw [if_pos c2] at hF
      refine lv_iconst (v := 0) hx hb dX5_in_14 (by decide) ?_
      subst hQ9
      exact W.zret (ty := .boolean) hx hb hr rfl (fun t ht hW => ⟨_, rfl, hF, ht⟩) (fun q h => by cases h) dX5_in_15
    · rw [if_neg c2] at hF
      refine lv_iconst (v := 1) hx hb dX5_in_10 (by decide) ?_
      refine lv_goto (tgt := 15) hx hb dX5_in_11 (by decide) ?_
      subst hQ9
      exact W.zret (ty := .boolean) hx hb hr rfl (fun t ht hW => ⟨_, rfl, hF, ht⟩) (fun q h => by cases h) dX5_in_15
theorem zB_in (x a b : Int32) : zB (F_X5_in x a b) := by
  rw [F_X5_in]; repeat' split
  all_goals first | exact zB_0 | exact zB_1
def F_X5_isDay (a : Int32) : Int32 :=
  F_X5_in a 0 100000
set_option maxHeartbeats 4000000 in
set_option maxRecDepth 100000 in
theorem c_X5_isDay (l : Launch) (a : Int32) : Met l yX5_isDay wsX5_isDay ({ frames := 1, cells := 0, slots := 0, locals := 22 }) (va_Pc [.int a] (fun _ => True)) (vp_Si (fun r => r = F_X5_isDay a)) 0 0 (fun _ => False) := by
  refine Met.ofW (cc := cX5_isDay) (maxL := 1) (ret := (some .boolean)) (by decide) rfl ?_
  intro p e s m args below meth c s₁ B hml hv
  obtain ⟨rfl, -⟩ := hv
  have hx := B.exec
  have hb := B.bytes
  have hr := B.returns
  have hts := atoms_spec (ws := wsX5_isDay) B.pre
  have hown : s.vm.findClass RX5 = some m.cls := findClass_of_methodNamed B.named
  have hlocks := B.notSynchronized
  have hcn72 := hts (.constant RX5 72 (100000)) (List.mem_of_getElem? (i := 1) rfl)
  have hl := lv_entry ([.int a]) (n := 1) (Nat.le_of_ble_eq_true rfl)
  rw [lg_entry_eq]
  generalize (lg_sl ([.int a]) ++ List.replicate (1 - (lg_sl ([.int a])).length) Slot.unset).toArray = ls at hl ⊢
  have hl : lv_has ls 1 [(0, .int a)] := hl
  generalize hF : F_X5_isDay a = R9
  generalize hQ9 : MQ below (vp_Si (fun r => r = R9)) _ s 0 0 (fun _ => False) = Q9
  rw [F_X5_isDay] at hF
  refine lv_iload_n hx hb dX5_isDay_0 rfl (lv_at hl 0 rfl) ?_
  refine lv_iconst (v := 0) hx hb dX5_isDay_1 (by decide) ?_
  refine lv_ldc (v := 100000) hx hb hown hcn72 dX5_isDay_2 ?_
  refine vp_callSi (W.runS (As := [.int a, .int 0, .int 100000]) (rest := []) ⟨hx, hb, hml, hown, hts⟩ (c_X5_in l a 0 100000) (cwS 3 hts gX5_isDay_X5_in rfl rfl rfl (by decide +kernel) ⟨Nat.le_of_ble_eq_true rfl, Nat.le_of_ble_eq_true rfl⟩) preT rfl rfl hl.1 rfl (lv_room (Nat.le_of_ble_eq_true rfl)) dX5_isDay_4 ⟨Nat.zero_le _, Nat.zero_le _⟩) (fun r1 h9 => ?_)
  have hr1 : r1 = F_X5_in a 0 100000 := h9
  try rw [← hr1] at hF
  subst hQ9
  exact W.zret (ty := .boolean) hx hb hr (by rw [hr1]; exact (zB_in _ _ _)) (fun t ht hW => ⟨_, rfl, hF, ht⟩) (fun q h => by cases h) dX5_isDay_7
def F_X5_isEight (a : Int32) : Int32 :=
  F_X5_in a 0 7
set_option maxHeartbeats 4000000 in
set_option maxRecDepth 100000 in
theorem c_X5_isEight (l : Launch) (a : Int32) : Met l yX5_isEight wsX5_isEight ({ frames := 1, cells := 0, slots := 0, locals := 22 }) (va_Pc [.int a] (fun _ => True)) (vp_Si (fun r => r = F_X5_isEight a)) 0 0 (fun _ => False) := by
  refine Met.ofW (cc := cX5_isEight) (maxL := 1) (ret := (some .boolean)) (by decide) rfl ?_
  intro p e s m args below meth c s₁ B hml hv
  obtain ⟨rfl, -⟩ := hv
  have hx := B.exec
  have hb := B.bytes
  have hr := B.returns
  have hts := atoms_spec (ws := wsX5_isEight) B.pre
  have hown : s.vm.findClass RX5 = some m.cls := findClass_of_methodNamed B.named
  have hlocks := B.notSynchronized
  have hl := lv_entry ([.int a]) (n := 1) (Nat.le_of_ble_eq_true rfl)
  rw [lg_entry_eq]
  generalize (lg_sl ([.int a]) ++ List.replicate (1 - (lg_sl ([.int a])).length) Slot.unset).toArray = ls at hl ⊢
  have hl : lv_has ls 1 [(0, .int a)] := hl
  generalize hF : F_X5_isEight a = R9
  generalize hQ9 : MQ below (vp_Si (fun r => r = R9)) _ s 0 0 (fun _ => False) = Q9
  rw [F_X5_isEight] at hF
  refine lv_iload_n hx hb dX5_isEight_0 rfl (lv_at hl 0 rfl) ?_
  refine lv_iconst (v := 0) hx hb dX5_isEight_1 (by decide) ?_
  refine lv_bipush (v := 7) hx hb dX5_isEight_2 (by decide) ?_
  refine vp_callSi (W.runS (As := [.int a, .int 0, .int 7]) (rest := []) ⟨hx, hb, hml, hown, hts⟩ (c_X5_in l a 0 7) (cwS 3 hts gX5_isEight_X5_in rfl rfl rfl (by decide +kernel) ⟨Nat.le_of_ble_eq_true rfl, Nat.le_of_ble_eq_true rfl⟩) preT rfl rfl hl.1 rfl (lv_room (Nat.le_of_ble_eq_true rfl)) dX5_isEight_4 ⟨Nat.zero_le _, Nat.zero_le _⟩) (fun r1 h9 => ?_)
  have hr1 : r1 = F_X5_in a 0 7 := h9
  try rw [← hr1] at hF
  subst hQ9
  exact W.zret (ty := .boolean) hx hb hr (by rw [hr1]; exact (zB_in _ _ _)) (fun t ht hW => ⟨_, rfl, hF, ht⟩) (fun q h => by cases h) dX5_isEight_7
def F_X5_bits_L4 (x : Int32)  : Nat → Int32 → Nat → Int32
  | 0, nb, k => nb
  | n4 + 1, nb, k =>
    if 12 ≤ k then
      nb
    else
      F_X5_bits_L4 x n4 (nb + ((x >>> ((nI k) &&& 31)) &&& 1)) (k + 1)
def F_X5_bits (x : Int32) : Int32 :=
  (F_X5_bits_L4 x (12 + 1) 0 0)
set_option maxHeartbeats 4000000 in
set_option maxRecDepth 100000 in
theorem c_X5_bits (l : Launch) (x : Int32) : Met l yX5_bits wsX5_bits ({ frames := 0, cells := 0, slots := 0, locals := 0 }) (va_Pc [.int x] (fun _ => True)) (vp_Si (fun r => r = F_X5_bits x)) 0 0 (fun _ => False) := by
  refine Met.ofW (cc := cX5_bits) (maxL := 3) (ret := (some .int)) (by decide) rfl ?_
  intro p e s m args below meth c s₁ B hml hv
  obtain ⟨rfl, -⟩ := hv
  have hx := B.exec
  have hb := B.bytes
  have hr := B.returns
  have hts := atoms_spec (ws := wsX5_bits) B.pre
  have hown : s.vm.findClass RX5 = some m.cls := findClass_of_methodNamed B.named
  have hlocks := B.notSynchronized
  have hl := lv_entry ([.int x]) (n := 3) (Nat.le_of_ble_eq_true rfl)
  rw [lg_entry_eq]
  generalize (lg_sl ([.int x]) ++ List.replicate (3 - (lg_sl ([.int x])).length) Slot.unset).toArray = ls at hl ⊢
  have hl : lv_has ls 3 [(0, .int x)] := hl
  generalize hF : F_X5_bits x = R9
  generalize hQ9 : MQ below (vp_Si (fun r => r = R9)) _ s 0 0 (fun _ => False) = Q9
  rw [F_X5_bits] at hF
  refine lv_iconst (v := 0) hx hb dX5_bits_0 (by decide) ?_
  refine lv_istore_n (lv' := [(1, .int 0), (0, .int x)]) hx hb dX5_bits_1 rfl hl (by decide) rfl (fun ls hl => ?_)
  refine lv_iconst (v := 0) hx hb dX5_bits_2 (by decide) ?_
  refine lv_istore_n (lv' := [(2, .int 0), (1, .int 0), (0, .int x)]) hx hb dX5_bits_3 rfl hl (by decide) rfl (fun ls hl => ?_)
  have lp4 : ∀ (n4 : Nat) (nb : Int32) (k : Nat) (ls : Array Slot), k ≤ 12 → 12 < k + n4 → lv_has ls 3 [(0, .int x), (1, .int nb), (2, .int (nI k))] → (∀ ls : Array Slot, lv_has ls 3 [(0, .int x), (1, .int (F_X5_bits_L4 x n4 nb k))] → W p l e (headSpec wsX5_bits ({ frames := 0, cells := 0, slots := 0, locals := 0 })).room s m ([.int x] : List Value).toArray below meth c s.heap [] 0 0 Q9 (F0 m 24 ls [])) → W p l e (headSpec wsX5_bits ({ frames := 0, cells := 0, slots := 0, locals := 0 })).room s m ([.int x] : List Value).toArray below meth c s.heap [] 0 0 Q9 (F0 m 4 ls []) := by
    intro n4
    induction n4 with
    | zero =>
      intro nb k ls hk4 hn4
      exact absurd hn4 (by omega)
    | succ n4 ih4 =>
      intro nb k ls hk4 hn4 hl hq4
      generalize hF4 : F_X5_bits_L4 x (n4 + 1) nb k = R4 at hq4
      rw [F_X5_bits_L4] at hF4
      refine lv_iload_n hx hb dX5_bits_4 rfl (lv_at hl 2 rfl) ?_
      refine lv_bipush (v := 12) hx hb dX5_bits_5 (by decide) ?_
      refine lv_icmp_ge (tgt := 24) hx hb dX5_bits_7 (by decide) (fun c1 => ?_) (fun c1 => ?_)
      · have c1 : 12 ≤ k := (nI_leI (a := 12) (b := k) (by omega) (by omega)).mp c1
        rw [if_pos c1] at hF4
        subst hF4
        exact hq4 ls (lv_sub hl [0, 1] rfl)
      · have c1 : ¬ 12 ≤ k := fun h9 => c1 ((nI_leI (a := 12) (b := k) (by omega) (by omega)).mpr h9)
        rw [if_neg c1] at hF4
        refine lv_iload_n hx hb dX5_bits_10 rfl (lv_at hl 1 rfl) ?_
        refine lv_iload_n hx hb dX5_bits_11 rfl (lv_at hl 0 rfl) ?_
        refine lv_iload_n hx hb dX5_bits_12 rfl (lv_at hl 2 rfl) ?_
        refine lv_ishr hx hb dX5_bits_13 ?_
        refine lv_iconst (v := 1) hx hb dX5_bits_14 (by decide) ?_
        refine lv_iand hx hb dX5_bits_15 ?_
        refine lv_iadd hx hb dX5_bits_16 ?_
        refine lv_istore_n (lv' := [(1, .int (nb + ((x >>> ((nI k) &&& 31)) &&& 1))), (0, .int x), (2, .int (nI k))]) hx hb dX5_bits_17 rfl hl (by decide) rfl (fun ls hl => ?_)
        refine lv_iinc (v := nI (k + 1)) (lv' := [(2, .int (nI (k + 1))), (1, .int (nb + ((x >>> ((nI k) &&& 31)) &&& 1))), (0, .int x)]) hx hb dX5_bits_18 hl (k := 2) rfl (xi_inc _) (by decide) rfl (fun ls hl => ?_)
        refine lv_goto (tgt := 4) hx hb dX5_bits_21 (by decide) ?_
        exact ih4 (nb + ((x >>> ((nI k) &&& 31)) &&& 1)) (k + 1) ls (by omega) (by omega) (lv_sub hl [2, 1, 0] rfl) (by rw [hF4]; exact hq4)
  refine lp4 (12 + 1) 0 0 ls (by omega) (by omega) (lv_sub hl [2, 1, 0] rfl) (fun ls hl => ?_)
  obtain ⟨r2, hr2⟩ : ∃ y, y = (F_X5_bits_L4 x (12 + 1) 0 0) := ⟨_, rfl⟩
  rw [← hr2] at hl
  try rw [← hr2] at hF
  refine lv_iload_n hx hb dX5_bits_24 rfl (lv_at hl 1 rfl) ?_
  subst hQ9
  exact W.iret hx hb hr (fun t ht hW => ⟨_, rfl, hF, ht⟩) (fun q h => by cases h) dX5_bits_25
def F_X5_isTrader (z : Nat → Nat) (v : Nat → Int32) (f : Nat → Nat → Int32) (t : Int32) : Int32 :=
  if t < 0 then
    0
  else
    if nI (z 0) ≤ t then
      0
    else
      1
set_option maxHeartbeats 4000000 in
set_option maxRecDepth 100000 in
theorem c_X5_isTrader (l : Launch) (dC : Nat → ClassId) (dI : Nat → Nat → Nat) (am : Nat → Nat) (cI cZ : ClassId) (th : Int32) (z : Nat → Nat) (v : Nat → Int32) (f : Nat → Nat → Int32) (t : Int32) (hok : okM z v f) : Met l yX5_isTrader wsX5_isTrader ({ frames := 0, cells := 0, slots := 0, locals := 0 }) (va_Pc [.ref (am 0), .int t] (kM dC dI am cI cZ th z v f)) (vp_Si (fun r => r = F_X5_isTrader z v f t)) 0 0 (fun _ => False) := by
  refine Met.ofW (cc := cX5_isTrader) (maxL := 2) (ret := (some .boolean)) (by decide) rfl ?_
  intro p e s m args below meth c s₁ B hml hv
  obtain ⟨rfl, hP, hK, hN⟩ := hv
  have hx := B.exec
  have hb := B.bytes
  have hr := B.returns
  have hts := atoms_spec (ws := wsX5_isTrader) B.pre
  have hown : s.vm.findClass RX5 = some m.cls := findClass_of_methodNamed B.named
  have hlocks := B.notSynchronized
  have hok9 := hok
  obtain ⟨hz0, hz1, hz2, hz3, hz4, hbz, hbs, hdp, hgv⟩ := hok9
  have hfl69 := hts (.fieldLink RX5 69 "TraderRightsModel" "traders" "I") (List.mem_of_getElem? (i := 1) rfl)
  have hinX5 : ∀ w ∈ u_ws RX5 TX5 25, w ∈ wsX5_isTrader := fun w h => List.mem_cons_of_mem _ (List.mem_append_right _ h)
  have hl := lv_entry ([.ref (am 0), .int t]) (n := 2) (Nat.le_of_ble_eq_true rfl)
  rw [lg_entry_eq]
  generalize (lg_sl ([.ref (am 0), .int t]) ++ List.replicate (2 - (lg_sl ([.ref (am 0), .int t])).length) Slot.unset).toArray = ls at hl ⊢
  have hl : lv_has ls 2 [(0, .ref (am 0)), (1, .int t)] := hl
  generalize hF : F_X5_isTrader z v f t = R9
  generalize hQ9 : MQ below (vp_Si (fun r => r = R9)) _ s 0 0 (fun _ => False) = Q9
  rw [F_X5_isTrader] at hF
  refine lv_iload_n hx hb dX5_isTrader_0 rfl (lv_at hl 1 rfl) ?_
  refine lv_if_lt (tgt := 16) hx hb dX5_isTrader_1 (by decide) (fun c1 => ?_) (fun c1 => ?_)
  · rw [if_pos c1] at hF
    refine lv_iconst (v := 0) hx hb dX5_isTrader_16 (by decide) ?_
    subst hQ9
    exact W.zret (ty := .boolean) hx hb hr rfl (fun t ht hW => ⟨_, rfl, hF, ht⟩) (fun q h => by cases h) dX5_isTrader_17
  · rw [if_neg c1] at hF
    refine lv_iload_n hx hb dX5_isTrader_4 rfl (lv_at hl 1 rfl) ?_
    refine lv_aload_n hx hb dX5_isTrader_5 rfl (lv_at hl 0 rfl) ?_
    refine va_get (D := (dC, dI)) (ci := 5) (v := .int (nI (z 0))) (C := RX5) (T := TX5) (N := 25) hx hb hts hinX5 hown hK hP 0 rfl rfl 1 (by decide) hfl69 (fun _ h9 => h9) rfl dX5_isTrader_6 ?_
    refine lv_icmp_ge (tgt := 16) hx hb dX5_isTrader_9 (by decide) (fun c2 => ?_) (fun c2 => ?_)
    · rw [if_pos c2] at hF
      refine lv_iconst (v := 0) hx hb dX5_isTrader_16 (by decide) ?_
      subst hQ9
      exact W.zret (ty := .boolean) hx hb hr rfl (fun t ht hW => ⟨_, rfl, hF, ht⟩) (fun q h => by cases h) dX5_isTrader_17
    · rw [if_neg c2] at hF
      refine lv_iconst (v := 1) hx hb dX5_isTrader_12 (by decide) ?_
      refine lv_goto (tgt := 17) hx hb dX5_isTrader_13 (by decide) ?_
      subst hQ9
      exact W.zret (ty := .boolean) hx hb hr rfl (fun t ht hW => ⟨_, rfl, hF, ht⟩) (fun q h => by cases h) dX5_isTrader_17
theorem in_isTM {z : Nat → Nat} {v : Nat → Int32} {f : Nat → Nat → Int32} {t : Int32} (hok : okM z v f) (h : ¬ F_X5_isTrader z v f t = 0) : vp_in t 12 := by
  rw [F_X5_isTrader] at h
  split at h
  · exact absurd rfl h
  · split at h
    · exact absurd rfl h
    · exact in_of (by assumption) (by assumption) hok.1 (by decide)
def F_X5_areTwo (z : Nat → Nat) (v : Nat → Int32) (f : Nat → Nat → Int32) (t u : Int32) : Int32 :=
  if F_X5_isTrader z v f t = 0 then
    0
  else
    if F_X5_isTrader z v f u = 0 then
      0
    else
      if t = u then
        0
      else
        1
set_option maxHeartbeats 4000000 in
set_option maxRecDepth 100000 in
theorem c_X5_areTwo (l : Launch) (dC : Nat → ClassId) (dI : Nat → Nat → Nat) (am : Nat → Nat) (cI cZ : ClassId) (th : Int32) (z : Nat → Nat) (v : Nat → Int32) (f : Nat → Nat → Int32) (t u : Int32) (hok : okM z v f) : Met l yX5_areTwo wsX5_areTwo ({ frames := 1, cells := 0, slots := 0, locals := 21 }) (va_Pc [.ref (am 0), .int t, .int u] (kM dC dI am cI cZ th z v f)) (vp_Si (fun r => r = F_X5_areTwo z v f t u)) 0 0 (fun _ => False) := by
  refine Met.ofW (cc := cX5_areTwo) (maxL := 3) (ret := (some .boolean)) (by decide) rfl ?_
  intro p e s m args below meth c s₁ B hml hv
  obtain ⟨rfl, hP, hK, hN⟩ := hv
  have hx := B.exec
  have hb := B.bytes
  have hr := B.returns
  have hts := atoms_spec (ws := wsX5_areTwo) B.pre
  have hown : s.vm.findClass RX5 = some m.cls := findClass_of_methodNamed B.named
  have hlocks := B.notSynchronized
  have hok9 := hok
  obtain ⟨hz0, hz1, hz2, hz3, hz4, hbz, hbs, hdp, hgv⟩ := hok9
  have hl := lv_entry ([.ref (am 0), .int t, .int u]) (n := 3) (Nat.le_of_ble_eq_true rfl)
  rw [lg_entry_eq]
  generalize (lg_sl ([.ref (am 0), .int t, .int u]) ++ List.replicate (3 - (lg_sl ([.ref (am 0), .int t, .int u])).length) Slot.unset).toArray = ls at hl ⊢
  have hl : lv_has ls 3 [(0, .ref (am 0)), (1, .int t), (2, .int u)] := hl
  generalize hF : F_X5_areTwo z v f t u = R9
  generalize hQ9 : MQ below (vp_Si (fun r => r = R9)) _ s 0 0 (fun _ => False) = Q9
  rw [F_X5_areTwo] at hF
  refine lv_aload_n hx hb dX5_areTwo_0 rfl (lv_at hl 0 rfl) ?_
  refine lv_iload_n hx hb dX5_areTwo_1 rfl (lv_at hl 1 rfl) ?_
  refine vp_callSi (W.runV (As := [.int t]) (rest := []) ⟨hx, hb, hml, hown, hts⟩ (c_X5_isTrader l dC dI am cI cZ th z v f t hok) (cwV 1 hts gX5_areTwo_X5_isTrader rfl rfl rfl (by decide +kernel) ⟨Nat.le_of_ble_eq_true rfl, Nat.le_of_ble_eq_true rfl⟩) (preM (ci := 5) (q0 := 0) hP hK hN rfl rfl rfl) rfl rfl hl.1 rfl (lv_room (Nat.le_of_ble_eq_true rfl)) dX5_areTwo_2 ⟨Nat.zero_le _, Nat.zero_le _⟩) (fun r1 h9 => ?_)
  have hr1 : r1 = F_X5_isTrader z v f t := h9
  try rw [← hr1] at hF
  refine lv_if_eq (tgt := 25) hx hb dX5_areTwo_5 (by decide) (fun c2 => ?_) (fun c2 => ?_)
  · rw [if_pos c2] at hF
    have c2f : F_X5_isTrader z v f t = 0 := by rw [← hr1]; exact c2
    refine lv_iconst (v := 0) hx hb dX5_areTwo_25 (by decide) ?_
    subst hQ9
    exact W.zret (ty := .boolean) hx hb hr rfl (fun t ht hW => ⟨_, rfl, hF, ht⟩) (fun q h => by cases h) dX5_areTwo_26
  · rw [if_neg c2] at hF
    have c2f : ¬ F_X5_isTrader z v f t = 0 := by rw [← hr1]; exact c2
    refine lv_aload_n hx hb dX5_areTwo_8 rfl (lv_at hl 0 rfl) ?_
    refine lv_iload_n hx hb dX5_areTwo_9 rfl (lv_at hl 2 rfl) ?_
    refine vp_callSi (W.runV (As := [.int u]) (rest := []) ⟨hx, hb, hml, hown, hts⟩ (c_X5_isTrader l dC dI am cI cZ th z v f u hok) (cwV 1 hts gX5_areTwo_X5_isTrader rfl rfl rfl (by decide +kernel) ⟨Nat.le_of_ble_eq_true rfl, Nat.le_of_ble_eq_true rfl⟩) (preM (ci := 5) (q0 := 0) hP hK hN rfl rfl rfl) rfl rfl hl.1 rfl (lv_room (Nat.le_of_ble_eq_true rfl)) dX5_areTwo_10 ⟨Nat.zero_le _, Nat.zero_le _⟩) (fun r3 h9 => ?_)
    have hr3 : r3 = F_X5_isTrader z v f u := h9
    try rw [← hr3] at hF
    refine lv_if_eq (tgt := 25) hx hb dX5_areTwo_13 (by decide) (fun c4 => ?_) (fun c4 => ?_)
    · rw [if_pos c4] at hF
      have c4f : F_X5_isTrader z v f u = 0 := by rw [← hr3]; exact c4
      refine lv_iconst (v := 0) hx hb dX5_areTwo_25 (by decide) ?_
      subst hQ9
      exact W.zret (ty := .boolean) hx hb hr rfl (fun t ht hW => ⟨_, rfl, hF, ht⟩) (fun q h => by cases h) dX5_areTwo_26
    · rw [if_neg c4] at hF
      have c4f : ¬ F_X5_isTrader z v f u = 0 := by rw [← hr3]; exact c4
      refine lv_iload_n hx hb dX5_areTwo_16 rfl (lv_at hl 1 rfl) ?_
      refine lv_iload_n hx hb dX5_areTwo_17 rfl (lv_at hl 2 rfl) ?_
      refine lv_icmp_eq (tgt := 25) hx hb dX5_areTwo_18 (by decide) (fun c5 => ?_) (fun c5 => ?_)
      · rw [if_pos c5] at hF
        refine lv_iconst (v := 0) hx hb dX5_areTwo_25 (by decide) ?_
        subst hQ9
        exact W.zret (ty := .boolean) hx hb hr rfl (fun t ht hW => ⟨_, rfl, hF, ht⟩) (fun q h => by cases h) dX5_areTwo_26
      · rw [if_neg c5] at hF
        refine lv_iconst (v := 1) hx hb dX5_areTwo_21 (by decide) ?_
        refine lv_goto (tgt := 26) hx hb dX5_areTwo_22 (by decide) ?_
        subst hQ9
        exact W.zret (ty := .boolean) hx hb hr rfl (fun t ht hW => ⟨_, rfl, hF, ht⟩) (fun q h => by cases h) dX5_areTwo_26
theorem in_twoM {z : Nat → Nat} {v : Nat → Int32} {f : Nat → Nat → Int32} {t u : Int32} (hok : okM z v f) (h : ¬ F_X5_areTwo z v f t u = 0) : vp_in t 12 := by
  rw [F_X5_areTwo] at h
  split at h
  · exact absurd rfl h
  · exact in_isTM hok (by assumption)
theorem in_towM {z : Nat → Nat} {v : Nat → Int32} {f : Nat → Nat → Int32} {t u : Int32} (hok : okM z v f) (h : ¬ F_X5_areTwo z v f t u = 0) : vp_in u 12 := by
  rw [F_X5_areTwo] at h
  split at h
  · exact absurd rfl h
  · split at h
    · exact absurd rfl h
    · exact in_isTM hok (by assumption)
def F_X5_isForbidden (z : Nat → Nat) (v : Nat → Int32) (f : Nat → Nat → Int32) (t a : Int32) : Int32 :=
  if (((f 1 t.toNatClampNeg) >>> (a &&& 31)) &&& 1) = 1 then
    1
  else
    0
set_option maxHeartbeats 4000000 in
set_option maxRecDepth 100000 in
theorem c_X5_isForbidden (l : Launch) (dC : Nat → ClassId) (dI : Nat → Nat → Nat) (am : Nat → Nat) (cI cZ : ClassId) (th : Int32) (z : Nat → Nat) (v : Nat → Int32) (f : Nat → Nat → Int32) (t a : Int32) (hok : okM z v f) (ht : vp_in t 12) : Met l yX5_isForbidden wsX5_isForbidden ({ frames := 0, cells := 0, slots := 0, locals := 0 }) (va_Pc [.ref (am 0), .int t, .int a] (kM dC dI am cI cZ th z v f)) (vp_Si (fun r => r = F_X5_isForbidden z v f t a)) 0 0 (fun _ => False) := by
  refine Met.ofW (cc := cX5_isForbidden) (maxL := 3) (ret := (some .boolean)) (by decide) rfl ?_
  intro p e s m args below meth c s₁ B hml hv
  obtain ⟨rfl, hP, hK, hN⟩ := hv
  have hx := B.exec
  have hb := B.bytes
  have hr := B.returns
  have hts := atoms_spec (ws := wsX5_isForbidden) B.pre
  have hown : s.vm.findClass RX5 = some m.cls := findClass_of_methodNamed B.named
  have hlocks := B.notSynchronized
  have hok9 := hok
  obtain ⟨hz0, hz1, hz2, hz3, hz4, hbz, hbs, hdp, hgv⟩ := hok9
  have hfl13 := hts (.fieldLink RX5 13 "TraderRightsModel" "forbidden" "[I") (List.mem_of_getElem? (i := 1) rfl)
  have hinX5 : ∀ w ∈ u_ws RX5 TX5 25, w ∈ wsX5_isForbidden := fun w h => List.mem_cons_of_mem _ (List.mem_append_right _ h)
  have hl := lv_entry ([.ref (am 0), .int t, .int a]) (n := 3) (Nat.le_of_ble_eq_true rfl)
  rw [lg_entry_eq]
  generalize (lg_sl ([.ref (am 0), .int t, .int a]) ++ List.replicate (3 - (lg_sl ([.ref (am 0), .int t, .int a])).length) Slot.unset).toArray = ls at hl ⊢
  have hl : lv_has ls 3 [(0, .ref (am 0)), (1, .int t), (2, .int a)] := hl
  generalize hF : F_X5_isForbidden z v f t a = R9
  generalize hQ9 : MQ below (vp_Si (fun r => r = R9)) _ s 0 0 (fun _ => False) = Q9
  rw [F_X5_isForbidden] at hF
  refine lv_aload_n hx hb dX5_isForbidden_0 rfl (lv_at hl 0 rfl) ?_
  refine va_get (D := (dC, dI)) (ci := 5) (v := .ref (am 2)) (C := RX5) (T := TX5) (N := 25) hx hb hts hinX5 hown hK hP 0 rfl rfl 7 (by decide) hfl13 (fun _ h9 => h9) rfl dX5_isForbidden_1 ?_
  refine lv_iload_n hx hb dX5_isForbidden_4 rfl (lv_at hl 1 rfl) ?_
  refine va_iald hx hb hK hP 2 0 rfl rfl ht dX5_isForbidden_5 ?_
  refine lv_iload_n hx hb dX5_isForbidden_6 rfl (lv_at hl 2 rfl) ?_
  refine lv_ishr hx hb dX5_isForbidden_7 ?_
  refine lv_iconst (v := 1) hx hb dX5_isForbidden_8 (by decide) ?_
  refine lv_iand hx hb dX5_isForbidden_9 ?_
  refine lv_iconst (v := 1) hx hb dX5_isForbidden_10 (by decide) ?_
  refine lv_icmp_ne (tgt := 18) hx hb dX5_isForbidden_11 (by decide) (fun c1 => ?_) (fun c1 => ?_)
  · rw [if_neg c1] at hF
    refine lv_iconst (v := 0) hx hb dX5_isForbidden_18 (by decide) ?_
    subst hQ9
    exact W.zret (ty := .boolean) hx hb hr rfl (fun t ht hW => ⟨_, rfl, hF, ht⟩) (fun q h => by cases h) dX5_isForbidden_19
  · rw [if_pos c1] at hF
    refine lv_iconst (v := 1) hx hb dX5_isForbidden_14 (by decide) ?_
    refine lv_goto (tgt := 19) hx hb dX5_isForbidden_15 (by decide) ?_
    subst hQ9
    exact W.zret (ty := .boolean) hx hb hr rfl (fun t ht hW => ⟨_, rfl, hF, ht⟩) (fun q h => by cases h) dX5_isForbidden_19
def F_X5_isEnded (z : Nat → Nat) (v : Nat → Int32) (f : Nat → Nat → Int32) (t day : Int32) : Int32 :=
  if f 3 t.toNatClampNeg < 0 then
    0
  else
    if day < f 3 t.toNatClampNeg then
      0
    else
      1
set_option maxHeartbeats 4000000 in
set_option maxRecDepth 100000 in
theorem c_X5_isEnded (l : Launch) (dC : Nat → ClassId) (dI : Nat → Nat → Nat) (am : Nat → Nat) (cI cZ : ClassId) (th : Int32) (z : Nat → Nat) (v : Nat → Int32) (f : Nat → Nat → Int32) (t day : Int32) (hok : okM z v f) (ht : vp_in t 12) : Met l yX5_isEnded wsX5_isEnded ({ frames := 0, cells := 0, slots := 0, locals := 0 }) (va_Pc [.ref (am 0), .int t, .int day] (kM dC dI am cI cZ th z v f)) (vp_Si (fun r => r = F_X5_isEnded z v f t day)) 0 0 (fun _ => False) := by
  refine Met.ofW (cc := cX5_isEnded) (maxL := 3) (ret := (some .boolean)) (by decide) rfl ?_
  intro p e s m args below meth c s₁ B hml hv
  obtain ⟨rfl, hP, hK, hN⟩ := hv
  have hx := B.exec
  have hb := B.bytes
  have hr := B.returns
  have hts := atoms_spec (ws := wsX5_isEnded) B.pre
  have hown : s.vm.findClass RX5 = some m.cls := findClass_of_methodNamed B.named
  have hlocks := B.notSynchronized
  have hok9 := hok
  obtain ⟨hz0, hz1, hz2, hz3, hz4, hbz, hbs, hdp, hgv⟩ := hok9
  have hfl19 := hts (.fieldLink RX5 19 "TraderRightsModel" "endsAt" "[I") (List.mem_of_getElem? (i := 1) rfl)
  have hinX5 : ∀ w ∈ u_ws RX5 TX5 25, w ∈ wsX5_isEnded := fun w h => List.mem_cons_of_mem _ (List.mem_append_right _ h)
  have hl := lv_entry ([.ref (am 0), .int t, .int day]) (n := 3) (Nat.le_of_ble_eq_true rfl)
  rw [lg_entry_eq]
  generalize (lg_sl ([.ref (am 0), .int t, .int day]) ++ List.replicate (3 - (lg_sl ([.ref (am 0), .int t, .int day])).length) Slot.unset).toArray = ls at hl ⊢
  have hl : lv_has ls 3 [(0, .ref (am 0)), (1, .int t), (2, .int day)] := hl
  generalize hF : F_X5_isEnded z v f t day = R9
  generalize hQ9 : MQ below (vp_Si (fun r => r = R9)) _ s 0 0 (fun _ => False) = Q9
  rw [F_X5_isEnded] at hF
  refine lv_aload_n hx hb dX5_isEnded_0 rfl (lv_at hl 0 rfl) ?_
  refine va_get (D := (dC, dI)) (ci := 5) (v := .ref (am 4)) (C := RX5) (T := TX5) (N := 25) hx hb hts hinX5 hown hK hP 0 rfl rfl 9 (by decide) hfl19 (fun _ h9 => h9) rfl dX5_isEnded_1 ?_
  refine lv_iload_n hx hb dX5_isEnded_4 rfl (lv_at hl 1 rfl) ?_
  refine va_iald hx hb hK hP 4 0 rfl rfl ht dX5_isEnded_5 ?_
  refine lv_if_lt (tgt := 23) hx hb dX5_isEnded_6 (by decide) (fun c1 => ?_) (fun c1 => ?_)
  · rw [if_pos c1] at hF
    refine lv_iconst (v := 0) hx hb dX5_isEnded_23 (by decide) ?_
    subst hQ9
    exact W.zret (ty := .boolean) hx hb hr rfl (fun t ht hW => ⟨_, rfl, hF, ht⟩) (fun q h => by cases h) dX5_isEnded_24
  · rw [if_neg c1] at hF
    refine lv_aload_n hx hb dX5_isEnded_9 rfl (lv_at hl 0 rfl) ?_
    refine va_get (D := (dC, dI)) (ci := 5) (v := .ref (am 4)) (C := RX5) (T := TX5) (N := 25) hx hb hts hinX5 hown hK hP 0 rfl rfl 9 (by decide) hfl19 (fun _ h9 => h9) rfl dX5_isEnded_10 ?_
    refine lv_iload_n hx hb dX5_isEnded_13 rfl (lv_at hl 1 rfl) ?_
    refine va_iald hx hb hK hP 4 0 rfl rfl ht dX5_isEnded_14 ?_
    refine lv_iload_n hx hb dX5_isEnded_15 rfl (lv_at hl 2 rfl) ?_
    refine lv_icmp_gt (tgt := 23) hx hb dX5_isEnded_16 (by decide) (fun c2 => ?_) (fun c2 => ?_)
    · rw [if_pos c2] at hF
      refine lv_iconst (v := 0) hx hb dX5_isEnded_23 (by decide) ?_
      subst hQ9
      exact W.zret (ty := .boolean) hx hb hr rfl (fun t ht hW => ⟨_, rfl, hF, ht⟩) (fun q h => by cases h) dX5_isEnded_24
    · rw [if_neg c2] at hF
      refine lv_iconst (v := 1) hx hb dX5_isEnded_19 (by decide) ?_
      refine lv_goto (tgt := 24) hx hb dX5_isEnded_20 (by decide) ?_
      subst hQ9
      exact W.zret (ty := .boolean) hx hb hr rfl (fun t ht hW => ⟨_, rfl, hF, ht⟩) (fun q h => by cases h) dX5_isEnded_24
def F_X5_withDeputy_L4 (z : Nat → Nat) (v : Nat → Int32) (f : Nat → Nat → Int32) (t : Int32)  : Nat → Int32 → Nat → Int32
  | 0, fo, k => fo
  | n4 + 1, fo, k =>
    if z 0 ≤ k then
      fo
    else
      if f 2 k = t then
        F_X5_withDeputy_L4 z v f t n4 (nI k) (k + 1)
      else
        F_X5_withDeputy_L4 z v f t n4 fo (k + 1)
def F_X5_withDeputy (z : Nat → Nat) (v : Nat → Int32) (f : Nat → Nat → Int32) (t : Int32) : Int32 :=
  (F_X5_withDeputy_L4 z v f t (z 0 + 1) (-1) 0)
set_option maxHeartbeats 4000000 in
set_option maxRecDepth 100000 in
theorem c_X5_withDeputy (l : Launch) (dC : Nat → ClassId) (dI : Nat → Nat → Nat) (am : Nat → Nat) (cI cZ : ClassId) (th : Int32) (z : Nat → Nat) (v : Nat → Int32) (f : Nat → Nat → Int32) (t : Int32) (hok : okM z v f) : Met l yX5_withDeputy wsX5_withDeputy ({ frames := 0, cells := 0, slots := 0, locals := 0 }) (va_Pc [.ref (am 0), .int t] (kM dC dI am cI cZ th z v f)) (vp_Si (fun r => r = F_X5_withDeputy z v f t)) 0 0 (fun _ => False) := by
  refine Met.ofW (cc := cX5_withDeputy) (maxL := 4) (ret := (some .int)) (by decide) rfl ?_
  intro p e s m args below meth c s₁ B hml hv
  obtain ⟨rfl, hP, hK, hN⟩ := hv
  have hx := B.exec
  have hb := B.bytes
  have hr := B.returns
  have hts := atoms_spec (ws := wsX5_withDeputy) B.pre
  have hown : s.vm.findClass RX5 = some m.cls := findClass_of_methodNamed B.named
  have hlocks := B.notSynchronized
  have hok9 := hok
  obtain ⟨hz0, hz1, hz2, hz3, hz4, hbz, hbs, hdp, hgv⟩ := hok9
  have hfl16 := hts (.fieldLink RX5 16 "TraderRightsModel" "deputyOf" "[I") (List.mem_of_getElem? (i := 2) rfl)
  have hfl69 := hts (.fieldLink RX5 69 "TraderRightsModel" "traders" "I") (List.mem_of_getElem? (i := 1) rfl)
  have hinX5 : ∀ w ∈ u_ws RX5 TX5 25, w ∈ wsX5_withDeputy := fun w h => List.mem_cons_of_mem _ (List.mem_append_right _ h)
  have hl := lv_entry ([.ref (am 0), .int t]) (n := 4) (Nat.le_of_ble_eq_true rfl)
  rw [lg_entry_eq]
  generalize (lg_sl ([.ref (am 0), .int t]) ++ List.replicate (4 - (lg_sl ([.ref (am 0), .int t])).length) Slot.unset).toArray = ls at hl ⊢
  have hl : lv_has ls 4 [(0, .ref (am 0)), (1, .int t)] := hl
  generalize hF : F_X5_withDeputy z v f t = R9
  generalize hQ9 : MQ below (vp_Si (fun r => r = R9)) _ s 0 0 (fun _ => False) = Q9
  rw [F_X5_withDeputy] at hF
  refine lv_iconst (v := (-1)) hx hb dX5_withDeputy_0 (by decide) ?_
  refine lv_istore_n (lv' := [(2, .int (-1)), (0, .ref (am 0)), (1, .int t)]) hx hb dX5_withDeputy_1 rfl hl (by decide) rfl (fun ls hl => ?_)
  refine lv_iconst (v := 0) hx hb dX5_withDeputy_2 (by decide) ?_
  refine lv_istore_n (lv' := [(3, .int 0), (2, .int (-1)), (0, .ref (am 0)), (1, .int t)]) hx hb dX5_withDeputy_3 rfl hl (by decide) rfl (fun ls hl => ?_)
  have lp4 : ∀ (n4 : Nat) (fo : Int32) (k : Nat) (ls : Array Slot), k ≤ z 0 → z 0 < k + n4 → lv_has ls 4 [(0, .ref (am 0)), (1, .int t), (2, .int fo), (3, .int (nI k))] → (∀ ls : Array Slot, lv_has ls 4 [(0, .ref (am 0)), (1, .int t), (2, .int (F_X5_withDeputy_L4 z v f t n4 fo k))] → W p l e (headSpec wsX5_withDeputy ({ frames := 0, cells := 0, slots := 0, locals := 0 })).room s m ([.ref (am 0), .int t] : List Value).toArray below meth c s.heap [] 0 0 Q9 (F0 m 34 ls [])) → W p l e (headSpec wsX5_withDeputy ({ frames := 0, cells := 0, slots := 0, locals := 0 })).room s m ([.ref (am 0), .int t] : List Value).toArray below meth c s.heap [] 0 0 Q9 (F0 m 4 ls []) := by
    intro n4
    induction n4 with
    | zero =>
      intro fo k ls hk4 hn4
      exact absurd hn4 (by omega)
    | succ n4 ih4 =>
      intro fo k ls hk4 hn4 hl hq4
      generalize hF4 : F_X5_withDeputy_L4 z v f t (n4 + 1) fo k = R4 at hq4
      rw [F_X5_withDeputy_L4] at hF4
      refine lv_iload_n hx hb dX5_withDeputy_4 rfl (lv_at hl 3 rfl) ?_
      refine lv_aload_n hx hb dX5_withDeputy_5 rfl (lv_at hl 0 rfl) ?_
      refine va_get (D := (dC, dI)) (ci := 5) (v := .int (nI (z 0))) (C := RX5) (T := TX5) (N := 25) hx hb hts hinX5 hown hK hP 0 rfl rfl 1 (by decide) hfl69 (fun _ h9 => h9) rfl dX5_withDeputy_6 ?_
      refine lv_icmp_ge (tgt := 34) hx hb dX5_withDeputy_9 (by decide) (fun c1 => ?_) (fun c1 => ?_)
      · have c1 : z 0 ≤ k := (nI_leI (a := z 0) (b := k) (by omega) (by omega)).mp c1
        rw [if_pos c1] at hF4
        subst hF4
        exact hq4 ls (lv_sub hl [0, 1, 2] rfl)
      · have c1 : ¬ z 0 ≤ k := fun h9 => c1 ((nI_leI (a := z 0) (b := k) (by omega) (by omega)).mpr h9)
        rw [if_neg c1] at hF4
        refine lv_aload_n hx hb dX5_withDeputy_12 rfl (lv_at hl 0 rfl) ?_
        refine va_get (D := (dC, dI)) (ci := 5) (v := .ref (am 3)) (C := RX5) (T := TX5) (N := 25) hx hb hts hinX5 hown hK hP 0 rfl rfl 8 (by decide) hfl16 (fun _ h9 => h9) rfl dX5_withDeputy_13 ?_
        refine lv_iload_n hx hb dX5_withDeputy_16 rfl (lv_at hl 3 rfl) ?_
        refine xa_ild hx hb hK hP 3 0 rfl rfl (by omega) (by decide) dX5_withDeputy_17 ?_
        refine lv_iload_n hx hb dX5_withDeputy_18 rfl (lv_at hl 1 rfl) ?_
        refine lv_icmp_ne (tgt := 26) hx hb dX5_withDeputy_19 (by decide) (fun c2 => ?_) (fun c2 => ?_)
        · rw [if_neg c2] at hF4
          refine lv_iload_n hx hb dX5_withDeputy_26 rfl (lv_at hl 2 rfl) ?_
          refine lv_istore_n (lv' := [(2, .int fo), (0, .ref (am 0)), (1, .int t), (3, .int (nI k))]) hx hb dX5_withDeputy_27 rfl hl (by decide) rfl (fun ls hl => ?_)
          refine lv_iinc (v := nI (k + 1)) (lv' := [(3, .int (nI (k + 1))), (2, .int fo), (0, .ref (am 0)), (1, .int t)]) hx hb dX5_withDeputy_28 hl (k := 3) rfl (xi_inc _) (by decide) rfl (fun ls hl => ?_)
          refine lv_goto (tgt := 4) hx hb dX5_withDeputy_31 (by decide) ?_
          exact ih4 fo (k + 1) ls (by omega) (by omega) (lv_sub hl [2, 3, 1, 0] rfl) (by rw [hF4]; exact hq4)
        · rw [if_pos c2] at hF4
          refine lv_iload_n hx hb dX5_withDeputy_22 rfl (lv_at hl 3 rfl) ?_
          refine lv_goto (tgt := 27) hx hb dX5_withDeputy_23 (by decide) ?_
          refine lv_istore_n (lv' := [(2, .int (nI k)), (0, .ref (am 0)), (1, .int t), (3, .int (nI k))]) hx hb dX5_withDeputy_27 rfl hl (by decide) rfl (fun ls hl => ?_)
          refine lv_iinc (v := nI (k + 1)) (lv' := [(3, .int (nI (k + 1))), (2, .int (nI k)), (0, .ref (am 0)), (1, .int t)]) hx hb dX5_withDeputy_28 hl (k := 3) rfl (xi_inc _) (by decide) rfl (fun ls hl => ?_)
          refine lv_goto (tgt := 4) hx hb dX5_withDeputy_31 (by decide) ?_
          exact ih4 (nI k) (k + 1) ls (by omega) (by omega) (lv_sub hl [2, 3, 1, 0] rfl) (by rw [hF4]; exact hq4)
  refine lp4 (z 0 + 1) (-1) 0 ls (by omega) (by omega) (lv_sub hl [2, 3, 1, 0] rfl) (fun ls hl => ?_)
  obtain ⟨r3, hr3⟩ : ∃ y, y = (F_X5_withDeputy_L4 z v f t (z 0 + 1) (-1) 0) := ⟨_, rfl⟩
  rw [← hr3] at hl
  try rw [← hr3] at hF
  refine lv_iload_n hx hb dX5_withDeputy_34 rfl (lv_at hl 2 rfl) ?_
  subst hQ9
  exact W.iret hx hb hr (fun t ht hW => ⟨_, rfl, hF, ht⟩) (fun q h => by cases h) dX5_withDeputy_35
def F_X5_isSuspended_L8 (z : Nat → Nat) (v : Nat → Int32) (f : Nat → Nat → Int32) (t day : Int32)  : Nat → Int32 → Int32 → Nat → Int32
  | 0, be, on, k => on
  | n8 + 1, be, on, k =>
    if z 3 ≤ k then
      on
    else
      if f 13 k = t then
        if day < f 14 k then
          F_X5_isSuspended_L8 z v f t day n8 be on (k + 1)
        else
          if f 14 k < be then
            F_X5_isSuspended_L8 z v f t day n8 be on (k + 1)
          else
            F_X5_isSuspended_L8 z v f t day n8 (f 14 k) (f 15 k) (k + 1)
      else
        F_X5_isSuspended_L8 z v f t day n8 be on (k + 1)
def F_X5_isSuspended (z : Nat → Nat) (v : Nat → Int32) (f : Nat → Nat → Int32) (t day : Int32) : Int32 :=
  (F_X5_isSuspended_L8 z v f t day (z 3 + 1) (-1) 0 0)
theorem zB_X5_isSuspended {z : Nat → Nat} {v : Nat → Int32} {f : Nat → Nat → Int32} (hok : okM z v f) (t day : Int32) : ∀ (n : Nat) (be on : Int32) (k : Nat), zB on → zB (F_X5_isSuspended_L8 z v f t day n be on k) := by
  obtain ⟨-, -, -, -, -, -, hbs, -⟩ := hok
  intro n
  induction n with
  | zero => intro be on k h; exact h
  | succ n ih =>
    intro be on k h
    rw [F_X5_isSuspended_L8]
    repeat' split
    all_goals first | assumption | exact ih _ _ _ h | exact ih _ _ _ (hbs _)
set_option maxHeartbeats 4000000 in
set_option maxRecDepth 100000 in
theorem c_X5_isSuspended (l : Launch) (dC : Nat → ClassId) (dI : Nat → Nat → Nat) (am : Nat → Nat) (cI cZ : ClassId) (th : Int32) (z : Nat → Nat) (v : Nat → Int32) (f : Nat → Nat → Int32) (t day : Int32) (hok : okM z v f) : Met l yX5_isSuspended wsX5_isSuspended ({ frames := 0, cells := 0, slots := 0, locals := 0 }) (va_Pc [.ref (am 0), .int t, .int day] (kM dC dI am cI cZ th z v f)) (vp_Si (fun r => r = F_X5_isSuspended z v f t day)) 0 0 (fun _ => False) := by
  refine Met.ofW (cc := cX5_isSuspended) (maxL := 7) (ret := (some .boolean)) (by decide) rfl ?_
  intro p e s m args below meth c s₁ B hml hv
  obtain ⟨rfl, hP, hK, hN⟩ := hv
  have hx := B.exec
  have hb := B.bytes
  have hr := B.returns
  have hts := atoms_spec (ws := wsX5_isSuspended) B.pre
  have hown : s.vm.findClass RX5 = some m.cls := findClass_of_methodNamed B.named
  have hlocks := B.notSynchronized
  have hok9 := hok
  obtain ⟨hz0, hz1, hz2, hz3, hz4, hbz, hbs, hdp, hgv⟩ := hok9
  have hfl114 := hts (.fieldLink RX5 114 "TraderRightsModel" "suspensions" "I") (List.mem_of_getElem? (i := 1) rfl)
  have hfl50 := hts (.fieldLink RX5 50 "TraderRightsModel" "suspended" "[I") (List.mem_of_getElem? (i := 2) rfl)
  have hfl53 := hts (.fieldLink RX5 53 "TraderRightsModel" "suspendedOn" "[I") (List.mem_of_getElem? (i := 3) rfl)
  have hfl56 := hts (.fieldLink RX5 56 "TraderRightsModel" "isOn" "[Z") (List.mem_of_getElem? (i := 4) rfl)
  have hinX5 : ∀ w ∈ u_ws RX5 TX5 25, w ∈ wsX5_isSuspended := fun w h => List.mem_cons_of_mem _ (List.mem_append_right _ h)
  have hl := lv_entry ([.ref (am 0), .int t, .int day]) (n := 7) (Nat.le_of_ble_eq_true rfl)
  rw [lg_entry_eq]
  generalize (lg_sl ([.ref (am 0), .int t, .int day]) ++ List.replicate (7 - (lg_sl ([.ref (am 0), .int t, .int day])).length) Slot.unset).toArray = ls at hl ⊢
  have hl : lv_has ls 7 [(0, .ref (am 0)), (1, .int t), (2, .int day)] := hl
  generalize hF : F_X5_isSuspended z v f t day = R9
  generalize hQ9 : MQ below (vp_Si (fun r => r = R9)) _ s 0 0 (fun _ => False) = Q9
  rw [F_X5_isSuspended] at hF
  refine lv_iconst (v := (-1)) hx hb dX5_isSuspended_0 (by decide) ?_
  refine lv_istore_n (lv' := [(3, .int (-1)), (0, .ref (am 0)), (1, .int t), (2, .int day)]) hx hb dX5_isSuspended_1 rfl hl (by decide) rfl (fun ls hl => ?_)
  refine lv_iconst (v := 0) hx hb dX5_isSuspended_2 (by decide) ?_
  refine lv_istore (lv' := [(4, .int 0), (3, .int (-1)), (0, .ref (am 0)), (1, .int t), (2, .int day)]) hx hb dX5_isSuspended_3 hl (by decide) rfl (fun ls hl => ?_)
  refine lv_iconst (v := 0) hx hb dX5_isSuspended_5 (by decide) ?_
  refine lv_istore (lv' := [(5, .int 0), (4, .int 0), (3, .int (-1)), (0, .ref (am 0)), (1, .int t), (2, .int day)]) hx hb dX5_isSuspended_6 hl (by decide) rfl (fun ls hl => ?_)
  have lp8 : ∀ (n8 : Nat) (be : Int32) (on : Int32) (k : Nat) (ls : Array Slot), k ≤ z 3 → z 3 < k + n8 → lv_has ls 7 [(0, .ref (am 0)), (1, .int t), (2, .int day), (3, .int be), (4, .int on), (5, .int (nI k))] → (∀ ls : Array Slot, lv_has ls 7 [(0, .ref (am 0)), (1, .int t), (2, .int day), (4, .int (F_X5_isSuspended_L8 z v f t day n8 be on k))] → W p l e (headSpec wsX5_isSuspended ({ frames := 0, cells := 0, slots := 0, locals := 0 })).room s m ([.ref (am 0), .int t, .int day] : List Value).toArray below meth c s.heap [] 0 0 Q9 (F0 m 99 ls [])) → W p l e (headSpec wsX5_isSuspended ({ frames := 0, cells := 0, slots := 0, locals := 0 })).room s m ([.ref (am 0), .int t, .int day] : List Value).toArray below meth c s.heap [] 0 0 Q9 (F0 m 8 ls []) := by
    intro n8
    induction n8 with
    | zero =>
      intro be on k ls hk8 hn8
      exact absurd hn8 (by omega)
    | succ n8 ih8 =>
      intro be on k ls hk8 hn8 hl hq8
      generalize hF8 : F_X5_isSuspended_L8 z v f t day (n8 + 1) be on k = R8 at hq8
      rw [F_X5_isSuspended_L8] at hF8
      refine lv_iload hx hb dX5_isSuspended_8 (lv_at hl 5 rfl) ?_
      refine lv_aload_n hx hb dX5_isSuspended_10 rfl (lv_at hl 0 rfl) ?_
      refine va_get (D := (dC, dI)) (ci := 5) (v := .int (nI (z 3))) (C := RX5) (T := TX5) (N := 25) hx hb hts hinX5 hown hK hP 0 rfl rfl 4 (by decide) hfl114 (fun _ h9 => h9) rfl dX5_isSuspended_11 ?_
      refine lv_icmp_ge (tgt := 99) hx hb dX5_isSuspended_14 (by decide) (fun c1 => ?_) (fun c1 => ?_)
      · have c1 : z 3 ≤ k := (nI_leI (a := z 3) (b := k) (by omega) (by omega)).mp c1
        rw [if_pos c1] at hF8
        subst hF8
        exact hq8 ls (lv_sub hl [0, 1, 2, 4] rfl)
      · have c1 : ¬ z 3 ≤ k := fun h9 => c1 ((nI_leI (a := z 3) (b := k) (by omega) (by omega)).mpr h9)
        rw [if_neg c1] at hF8
        refine lv_aload_n hx hb dX5_isSuspended_17 rfl (lv_at hl 0 rfl) ?_
        refine va_get (D := (dC, dI)) (ci := 5) (v := .ref (am 14)) (C := RX5) (T := TX5) (N := 25) hx hb hts hinX5 hown hK hP 0 rfl rfl 19 (by decide) hfl50 (fun _ h9 => h9) rfl dX5_isSuspended_18 ?_
        refine lv_iload hx hb dX5_isSuspended_21 (lv_at hl 5 rfl) ?_
        refine xa_ild hx hb hK hP 14 0 rfl rfl (by omega) (by decide) dX5_isSuspended_23 ?_
        refine lv_iload_n hx hb dX5_isSuspended_24 rfl (lv_at hl 1 rfl) ?_
        refine lv_icmp_ne (tgt := 54) hx hb dX5_isSuspended_25 (by decide) (fun c2 => ?_) (fun c2 => ?_)
        · rw [if_neg c2] at hF8
          refine lv_iconst (v := 0) hx hb dX5_isSuspended_54 (by decide) ?_
          refine lv_istore (lv' := [(6, .int 0), (0, .ref (am 0)), (1, .int t), (2, .int day), (3, .int be), (4, .int on), (5, .int (nI k))]) hx hb dX5_isSuspended_55 hl (by decide) rfl (fun ls hl => ?_)
          refine lv_iload hx hb dX5_isSuspended_57 (lv_at hl 0 rfl) ?_
          refine lv_if_eq (tgt := 72) hx hb dX5_isSuspended_59 (by decide) (fun _ => ?_) (fun c9 => absurd c9 (by decide))
          refine lv_iload_n hx hb dX5_isSuspended_72 rfl (lv_at hl 4 rfl) ?_
          refine lv_istore_n (lv' := [(3, .int be), (6, .int 0), (0, .ref (am 0)), (1, .int t), (2, .int day), (4, .int on), (5, .int (nI k))]) hx hb dX5_isSuspended_73 rfl hl (by decide) rfl (fun ls hl => ?_)
          refine lv_iload hx hb dX5_isSuspended_74 (lv_at hl 1 rfl) ?_
          refine lv_if_eq (tgt := 89) hx hb dX5_isSuspended_76 (by decide) (fun _ => ?_) (fun c9 => absurd c9 (by decide))
          refine lv_iload hx hb dX5_isSuspended_89 (lv_at hl 5 rfl) ?_
          refine lv_istore (lv' := [(4, .int on), (3, .int be), (6, .int 0), (0, .ref (am 0)), (1, .int t), (2, .int day), (5, .int (nI k))]) hx hb dX5_isSuspended_91 hl (by decide) rfl (fun ls hl => ?_)
          refine lv_iinc (v := nI (k + 1)) (lv' := [(5, .int (nI (k + 1))), (4, .int on), (3, .int be), (6, .int 0), (0, .ref (am 0)), (1, .int t), (2, .int day)]) hx hb dX5_isSuspended_93 hl (k := 6) rfl (xi_inc _) (by decide) rfl (fun ls hl => ?_)
          refine lv_goto (tgt := 8) hx hb dX5_isSuspended_96 (by decide) ?_
          exact ih8 be on (k + 1) ls (by omega) (by omega) (lv_sub hl [4, 5, 6, 2, 1, 0] rfl) (by rw [hF8]; exact hq8)
        · rw [if_pos c2] at hF8
          refine lv_aload_n hx hb dX5_isSuspended_28 rfl (lv_at hl 0 rfl) ?_
          refine va_get (D := (dC, dI)) (ci := 5) (v := .ref (am 15)) (C := RX5) (T := TX5) (N := 25) hx hb hts hinX5 hown hK hP 0 rfl rfl 20 (by decide) hfl53 (fun _ h9 => h9) rfl dX5_isSuspended_29 ?_
          refine lv_iload hx hb dX5_isSuspended_32 (lv_at hl 5 rfl) ?_
          refine xa_ild hx hb hK hP 15 0 rfl rfl (by omega) (by decide) dX5_isSuspended_34 ?_
          refine lv_iload_n hx hb dX5_isSuspended_35 rfl (lv_at hl 2 rfl) ?_
          refine lv_icmp_gt (tgt := 54) hx hb dX5_isSuspended_36 (by decide) (fun c3 => ?_) (fun c3 => ?_)
          · rw [if_pos c3] at hF8
            refine lv_iconst (v := 0) hx hb dX5_isSuspended_54 (by decide) ?_
            refine lv_istore (lv' := [(6, .int 0), (0, .ref (am 0)), (1, .int t), (2, .int day), (3, .int be), (4, .int on), (5, .int (nI k))]) hx hb dX5_isSuspended_55 hl (by decide) rfl (fun ls hl => ?_)
            refine lv_iload hx hb dX5_isSuspended_57 (lv_at hl 0 rfl) ?_
            refine lv_if_eq (tgt := 72) hx hb dX5_isSuspended_59 (by decide) (fun _ => ?_) (fun c9 => absurd c9 (by decide))
            refine lv_iload_n hx hb dX5_isSuspended_72 rfl (lv_at hl 4 rfl) ?_
            refine lv_istore_n (lv' := [(3, .int be), (6, .int 0), (0, .ref (am 0)), (1, .int t), (2, .int day), (4, .int on), (5, .int (nI k))]) hx hb dX5_isSuspended_73 rfl hl (by decide) rfl (fun ls hl => ?_)
            refine lv_iload hx hb dX5_isSuspended_74 (lv_at hl 1 rfl) ?_
            refine lv_if_eq (tgt := 89) hx hb dX5_isSuspended_76 (by decide) (fun _ => ?_) (fun c9 => absurd c9 (by decide))
            refine lv_iload hx hb dX5_isSuspended_89 (lv_at hl 5 rfl) ?_
            refine lv_istore (lv' := [(4, .int on), (3, .int be), (6, .int 0), (0, .ref (am 0)), (1, .int t), (2, .int day), (5, .int (nI k))]) hx hb dX5_isSuspended_91 hl (by decide) rfl (fun ls hl => ?_)
            refine lv_iinc (v := nI (k + 1)) (lv' := [(5, .int (nI (k + 1))), (4, .int on), (3, .int be), (6, .int 0), (0, .ref (am 0)), (1, .int t), (2, .int day)]) hx hb dX5_isSuspended_93 hl (k := 6) rfl (xi_inc _) (by decide) rfl (fun ls hl => ?_)
            refine lv_goto (tgt := 8) hx hb dX5_isSuspended_96 (by decide) ?_
            exact ih8 be on (k + 1) ls (by omega) (by omega) (lv_sub hl [4, 5, 6, 2, 1, 0] rfl) (by rw [hF8]; exact hq8)
          · rw [if_neg c3] at hF8
            refine lv_aload_n hx hb dX5_isSuspended_39 rfl (lv_at hl 0 rfl) ?_
            refine va_get (D := (dC, dI)) (ci := 5) (v := .ref (am 15)) (C := RX5) (T := TX5) (N := 25) hx hb hts hinX5 hown hK hP 0 rfl rfl 20 (by decide) hfl53 (fun _ h9 => h9) rfl dX5_isSuspended_40 ?_
            refine lv_iload hx hb dX5_isSuspended_43 (lv_at hl 5 rfl) ?_
            refine xa_ild hx hb hK hP 15 0 rfl rfl (by omega) (by decide) dX5_isSuspended_45 ?_
            refine lv_iload_n hx hb dX5_isSuspended_46 rfl (lv_at hl 3 rfl) ?_
            refine lv_icmp_lt (tgt := 54) hx hb dX5_isSuspended_47 (by decide) (fun c4 => ?_) (fun c4 => ?_)
            · rw [if_pos c4] at hF8
              refine lv_iconst (v := 0) hx hb dX5_isSuspended_54 (by decide) ?_
              refine lv_istore (lv' := [(6, .int 0), (0, .ref (am 0)), (1, .int t), (2, .int day), (3, .int be), (4, .int on), (5, .int (nI k))]) hx hb dX5_isSuspended_55 hl (by decide) rfl (fun ls hl => ?_)
              refine lv_iload hx hb dX5_isSuspended_57 (lv_at hl 0 rfl) ?_
              refine lv_if_eq (tgt := 72) hx hb dX5_isSuspended_59 (by decide) (fun _ => ?_) (fun c9 => absurd c9 (by decide))
              refine lv_iload_n hx hb dX5_isSuspended_72 rfl (lv_at hl 4 rfl) ?_
              refine lv_istore_n (lv' := [(3, .int be), (6, .int 0), (0, .ref (am 0)), (1, .int t), (2, .int day), (4, .int on), (5, .int (nI k))]) hx hb dX5_isSuspended_73 rfl hl (by decide) rfl (fun ls hl => ?_)
              refine lv_iload hx hb dX5_isSuspended_74 (lv_at hl 1 rfl) ?_
              refine lv_if_eq (tgt := 89) hx hb dX5_isSuspended_76 (by decide) (fun _ => ?_) (fun c9 => absurd c9 (by decide))
              refine lv_iload hx hb dX5_isSuspended_89 (lv_at hl 5 rfl) ?_
              refine lv_istore (lv' := [(4, .int on), (3, .int be), (6, .int 0), (0, .ref (am 0)), (1, .int t), (2, .int day), (5, .int (nI k))]) hx hb dX5_isSuspended_91 hl (by decide) rfl (fun ls hl => ?_)
              refine lv_iinc (v := nI (k + 1)) (lv' := [(5, .int (nI (k + 1))), (4, .int on), (3, .int be), (6, .int 0), (0, .ref (am 0)), (1, .int t), (2, .int day)]) hx hb dX5_isSuspended_93 hl (k := 6) rfl (xi_inc _) (by decide) rfl (fun ls hl => ?_)
              refine lv_goto (tgt := 8) hx hb dX5_isSuspended_96 (by decide) ?_
              exact ih8 be on (k + 1) ls (by omega) (by omega) (lv_sub hl [4, 5, 6, 2, 1, 0] rfl) (by rw [hF8]; exact hq8)
            · rw [if_neg c4] at hF8
              refine lv_iconst (v := 1) hx hb dX5_isSuspended_50 (by decide) ?_
              refine lv_goto (tgt := 55) hx hb dX5_isSuspended_51 (by decide) ?_
              refine lv_istore (lv' := [(6, .int 1), (0, .ref (am 0)), (1, .int t), (2, .int day), (3, .int be), (4, .int on), (5, .int (nI k))]) hx hb dX5_isSuspended_55 hl (by decide) rfl (fun ls hl => ?_)
              refine lv_iload hx hb dX5_isSuspended_57 (lv_at hl 0 rfl) ?_
              refine lv_if_eq (tgt := 72) hx hb dX5_isSuspended_59 (by decide) (fun c9 => absurd c9 (by decide)) (fun _ => ?_)
              refine lv_aload_n hx hb dX5_isSuspended_62 rfl (lv_at hl 1 rfl) ?_
              refine va_get (D := (dC, dI)) (ci := 5) (v := .ref (am 15)) (C := RX5) (T := TX5) (N := 25) hx hb hts hinX5 hown hK hP 0 rfl rfl 20 (by decide) hfl53 (fun _ h9 => h9) rfl dX5_isSuspended_63 ?_
              refine lv_iload hx hb dX5_isSuspended_66 (lv_at hl 6 rfl) ?_
              refine xa_ild hx hb hK hP 15 0 rfl rfl (by omega) (by decide) dX5_isSuspended_68 ?_
              refine lv_goto (tgt := 73) hx hb dX5_isSuspended_69 (by decide) ?_
              refine lv_istore_n (lv' := [(3, .int (f 14 k)), (6, .int 1), (0, .ref (am 0)), (1, .int t), (2, .int day), (4, .int on), (5, .int (nI k))]) hx hb dX5_isSuspended_73 rfl hl (by decide) rfl (fun ls hl => ?_)
              refine lv_iload hx hb dX5_isSuspended_74 (lv_at hl 1 rfl) ?_
              refine lv_if_eq (tgt := 89) hx hb dX5_isSuspended_76 (by decide) (fun c9 => absurd c9 (by decide)) (fun _ => ?_)
              refine lv_aload_n hx hb dX5_isSuspended_79 rfl (lv_at hl 2 rfl) ?_
              refine va_get (D := (dC, dI)) (ci := 5) (v := .ref (am 16)) (C := RX5) (T := TX5) (N := 25) hx hb hts hinX5 hown hK hP 0 rfl rfl 21 (by decide) hfl56 (fun _ h9 => h9) rfl dX5_isSuspended_80 ?_
              refine lv_iload hx hb dX5_isSuspended_83 (lv_at hl 6 rfl) ?_
              refine xa_zld hx hb hK hP 16 1 rfl rfl (by omega) (by decide) dX5_isSuspended_85 ?_
              refine lv_goto (tgt := 91) hx hb dX5_isSuspended_86 (by decide) ?_
              refine lv_istore (lv' := [(4, .int (f 15 k)), (3, .int (f 14 k)), (6, .int 1), (0, .ref (am 0)), (1, .int t), (2, .int day), (5, .int (nI k))]) hx hb dX5_isSuspended_91 hl (by decide) rfl (fun ls hl => ?_)
              refine lv_iinc (v := nI (k + 1)) (lv' := [(5, .int (nI (k + 1))), (4, .int (f 15 k)), (3, .int (f 14 k)), (6, .int 1), (0, .ref (am 0)), (1, .int t), (2, .int day)]) hx hb dX5_isSuspended_93 hl (k := 6) rfl (xi_inc _) (by decide) rfl (fun ls hl => ?_)
              refine lv_goto (tgt := 8) hx hb dX5_isSuspended_96 (by decide) ?_
              exact ih8 (f 14 k) (f 15 k) (k + 1) ls (by omega) (by omega) (lv_sub hl [4, 5, 6, 2, 1, 0] rfl) (by rw [hF8]; exact hq8)
  refine lp8 (z 3 + 1) (-1) 0 0 ls (by omega) (by omega) (lv_sub hl [3, 4, 5, 2, 1, 0] rfl) (fun ls hl => ?_)
  obtain ⟨r5, hr5⟩ : ∃ y, y = (F_X5_isSuspended_L8 z v f t day (z 3 + 1) (-1) 0 0) := ⟨_, rfl⟩
  rw [← hr5] at hl
  try rw [← hr5] at hF
  refine lv_iload hx hb dX5_isSuspended_99 (lv_at hl 3 rfl) ?_
  subst hQ9
  exact W.zret (ty := .boolean) hx hb hr (by rw [hr5]; exact (zB_X5_isSuspended hok _ _ _ _ _ _ zB_0)) (fun t ht hW => ⟨_, rfl, hF, ht⟩) (fun q h => by cases h) dX5_isSuspended_101
def F_X5_isAlive (z : Nat → Nat) (v : Nat → Int32) (f : Nat → Nat → Int32) (t day : Int32) : Int32 :=
  if F_X5_isEnded z v f t day = 0 then
    if F_X5_isSuspended z v f t day = 0 then
      1
    else
      0
  else
    0
set_option maxHeartbeats 4000000 in
set_option maxRecDepth 100000 in
theorem c_X5_isAlive (l : Launch) (dC : Nat → ClassId) (dI : Nat → Nat → Nat) (am : Nat → Nat) (cI cZ : ClassId) (th : Int32) (z : Nat → Nat) (v : Nat → Int32) (f : Nat → Nat → Int32) (t day : Int32) (hok : okM z v f) (ht : vp_in t 12) : Met l yX5_isAlive wsX5_isAlive ({ frames := 1, cells := 0, slots := 0, locals := 26 }) (va_Pc [.ref (am 0), .int t, .int day] (kM dC dI am cI cZ th z v f)) (vp_Si (fun r => r = F_X5_isAlive z v f t day)) 0 0 (fun _ => False) := by
  refine Met.ofW (cc := cX5_isAlive) (maxL := 3) (ret := (some .boolean)) (by decide) rfl ?_
  intro p e s m args below meth c s₁ B hml hv
  obtain ⟨rfl, hP, hK, hN⟩ := hv
  have hx := B.exec
  have hb := B.bytes
  have hr := B.returns
  have hts := atoms_spec (ws := wsX5_isAlive) B.pre
  have hown : s.vm.findClass RX5 = some m.cls := findClass_of_methodNamed B.named
  have hlocks := B.notSynchronized
  have hok9 := hok
  obtain ⟨hz0, hz1, hz2, hz3, hz4, hbz, hbs, hdp, hgv⟩ := hok9
  have hl := lv_entry ([.ref (am 0), .int t, .int day]) (n := 3) (Nat.le_of_ble_eq_true rfl)
  rw [lg_entry_eq]
  generalize (lg_sl ([.ref (am 0), .int t, .int day]) ++ List.replicate (3 - (lg_sl ([.ref (am 0), .int t, .int day])).length) Slot.unset).toArray = ls at hl ⊢
  have hl : lv_has ls 3 [(0, .ref (am 0)), (1, .int t), (2, .int day)] := hl
  generalize hF : F_X5_isAlive z v f t day = R9
  generalize hQ9 : MQ below (vp_Si (fun r => r = R9)) _ s 0 0 (fun _ => False) = Q9
  rw [F_X5_isAlive] at hF
  refine lv_aload_n hx hb dX5_isAlive_0 rfl (lv_at hl 0 rfl) ?_
  refine lv_iload_n hx hb dX5_isAlive_1 rfl (lv_at hl 1 rfl) ?_
  refine lv_iload_n hx hb dX5_isAlive_2 rfl (lv_at hl 2 rfl) ?_
  refine vp_callSi (W.runV (As := [.int t, .int day]) (rest := []) ⟨hx, hb, hml, hown, hts⟩ (c_X5_isEnded l dC dI am cI cZ th z v f t day hok ht) (cwV 2 hts gX5_isAlive_X5_isEnded rfl rfl rfl (by decide +kernel) ⟨Nat.le_of_ble_eq_true rfl, Nat.le_of_ble_eq_true rfl⟩) (preM (ci := 5) (q0 := 0) hP hK hN rfl rfl rfl) rfl rfl hl.1 rfl (lv_room (Nat.le_of_ble_eq_true rfl)) dX5_isAlive_3 ⟨Nat.zero_le _, Nat.zero_le _⟩) (fun r1 h9 => ?_)
  have hr1 : r1 = F_X5_isEnded z v f t day := h9
  try rw [← hr1] at hF
  refine lv_if_ne (tgt := 22) hx hb dX5_isAlive_6 (by decide) (fun c2 => ?_) (fun c2 => ?_)
  · rw [if_neg c2] at hF
    have c2f : ¬ F_X5_isEnded z v f t day = 0 := by rw [← hr1]; exact c2
    refine lv_iconst (v := 0) hx hb dX5_isAlive_22 (by decide) ?_
    subst hQ9
    exact W.zret (ty := .boolean) hx hb hr rfl (fun t ht hW => ⟨_, rfl, hF, ht⟩) (fun q h => by cases h) dX5_isAlive_23
  · rw [if_pos c2] at hF
    have c2f : F_X5_isEnded z v f t day = 0 := by rw [← hr1]; exact c2
    refine lv_aload_n hx hb dX5_isAlive_9 rfl (lv_at hl 0 rfl) ?_
    refine lv_iload_n hx hb dX5_isAlive_10 rfl (lv_at hl 1 rfl) ?_
    refine lv_iload_n hx hb dX5_isAlive_11 rfl (lv_at hl 2 rfl) ?_
    refine vp_callSi (W.runV (As := [.int t, .int day]) (rest := []) ⟨hx, hb, hml, hown, hts⟩ (c_X5_isSuspended l dC dI am cI cZ th z v f t day hok) (cwV 2 hts gX5_isAlive_X5_isSuspended rfl rfl rfl (by decide +kernel) ⟨Nat.le_of_ble_eq_true rfl, Nat.le_of_ble_eq_true rfl⟩) (preM (ci := 5) (q0 := 0) hP hK hN rfl rfl rfl) rfl rfl hl.1 rfl (lv_room (Nat.le_of_ble_eq_true rfl)) dX5_isAlive_12 ⟨Nat.zero_le _, Nat.zero_le _⟩) (fun r3 h9 => ?_)
    have hr3 : r3 = F_X5_isSuspended z v f t day := h9
    try rw [← hr3] at hF
    refine lv_if_ne (tgt := 22) hx hb dX5_isAlive_15 (by decide) (fun c4 => ?_) (fun c4 => ?_)
    · rw [if_neg c4] at hF
      have c4f : ¬ F_X5_isSuspended z v f t day = 0 := by rw [← hr3]; exact c4
      refine lv_iconst (v := 0) hx hb dX5_isAlive_22 (by decide) ?_
      subst hQ9
      exact W.zret (ty := .boolean) hx hb hr rfl (fun t ht hW => ⟨_, rfl, hF, ht⟩) (fun q h => by cases h) dX5_isAlive_23
    · rw [if_pos c4] at hF
      have c4f : F_X5_isSuspended z v f t day = 0 := by rw [← hr3]; exact c4
      refine lv_iconst (v := 1) hx hb dX5_isAlive_18 (by decide) ?_
      refine lv_goto (tgt := 23) hx hb dX5_isAlive_19 (by decide) ?_
      subst hQ9
      exact W.zret (ty := .boolean) hx hb hr rfl (fun t ht hW => ⟨_, rfl, hF, ht⟩) (fun q h => by cases h) dX5_isAlive_23
def F_X5_standing_L5 (z : Nat → Nat) (v : Nat → Int32) (f : Nat → Nat → Int32) (t day : Int32)  : Nat → Int32 → Nat → Int32
  | 0, nb, k => nb
  | n5 + 1, nb, k =>
    if z 2 ≤ k then
      nb
    else
      if f 10 k = t then
        if f 12 k < day then
          F_X5_standing_L5 z v f t day n5 (nb + 0) (k + 1)
        else
          F_X5_standing_L5 z v f t day n5 (nb + 1) (k + 1)
      else
        F_X5_standing_L5 z v f t day n5 (nb + 0) (k + 1)
def F_X5_standing (z : Nat → Nat) (v : Nat → Int32) (f : Nat → Nat → Int32) (t day : Int32) : Int32 :=
  (F_X5_standing_L5 z v f t day (z 2 + 1) 0 0)
set_option maxHeartbeats 4000000 in
set_option maxRecDepth 100000 in
theorem c_X5_standing (l : Launch) (dC : Nat → ClassId) (dI : Nat → Nat → Nat) (am : Nat → Nat) (cI cZ : ClassId) (th : Int32) (z : Nat → Nat) (v : Nat → Int32) (f : Nat → Nat → Int32) (t day : Int32) (hok : okM z v f) : Met l yX5_standing wsX5_standing ({ frames := 0, cells := 0, slots := 0, locals := 0 }) (va_Pc [.ref (am 0), .int t, .int day] (kM dC dI am cI cZ th z v f)) (vp_Si (fun r => r = F_X5_standing z v f t day)) 0 0 (fun _ => False) := by
  refine Met.ofW (cc := cX5_standing) (maxL := 5) (ret := (some .int)) (by decide) rfl ?_
  intro p e s m args below meth c s₁ B hml hv
  obtain ⟨rfl, hP, hK, hN⟩ := hv
  have hx := B.exec
  have hb := B.bytes
  have hr := B.returns
  have hts := atoms_spec (ws := wsX5_standing) B.pre
  have hown : s.vm.findClass RX5 = some m.cls := findClass_of_methodNamed B.named
  have hlocks := B.notSynchronized
  have hok9 := hok
  obtain ⟨hz0, hz1, hz2, hz3, hz4, hbz, hbs, hdp, hgv⟩ := hok9
  have hfl111 := hts (.fieldLink RX5 111 "TraderRightsModel" "mandates" "I") (List.mem_of_getElem? (i := 1) rfl)
  have hfl40 := hts (.fieldLink RX5 40 "TraderRightsModel" "taker" "[I") (List.mem_of_getElem? (i := 2) rfl)
  have hfl47 := hts (.fieldLink RX5 47 "TraderRightsModel" "until" "[I") (List.mem_of_getElem? (i := 3) rfl)
  have hinX5 : ∀ w ∈ u_ws RX5 TX5 25, w ∈ wsX5_standing := fun w h => List.mem_cons_of_mem _ (List.mem_append_right _ h)
  have hl := lv_entry ([.ref (am 0), .int t, .int day]) (n := 5) (Nat.le_of_ble_eq_true rfl)
  rw [lg_entry_eq]
  generalize (lg_sl ([.ref (am 0), .int t, .int day]) ++ List.replicate (5 - (lg_sl ([.ref (am 0), .int t, .int day])).length) Slot.unset).toArray = ls at hl ⊢
  have hl : lv_has ls 5 [(0, .ref (am 0)), (1, .int t), (2, .int day)] := hl
  generalize hF : F_X5_standing z v f t day = R9
  generalize hQ9 : MQ below (vp_Si (fun r => r = R9)) _ s 0 0 (fun _ => False) = Q9
  rw [F_X5_standing] at hF
  refine lv_iconst (v := 0) hx hb dX5_standing_0 (by decide) ?_
  refine lv_istore_n (lv' := [(3, .int 0), (0, .ref (am 0)), (1, .int t), (2, .int day)]) hx hb dX5_standing_1 rfl hl (by decide) rfl (fun ls hl => ?_)
  refine lv_iconst (v := 0) hx hb dX5_standing_2 (by decide) ?_
  refine lv_istore (lv' := [(4, .int 0), (3, .int 0), (0, .ref (am 0)), (1, .int t), (2, .int day)]) hx hb dX5_standing_3 hl (by decide) rfl (fun ls hl => ?_)
  have lp5 : ∀ (n5 : Nat) (nb : Int32) (k : Nat) (ls : Array Slot), k ≤ z 2 → z 2 < k + n5 → lv_has ls 5 [(0, .ref (am 0)), (1, .int t), (2, .int day), (3, .int nb), (4, .int (nI k))] → (∀ ls : Array Slot, lv_has ls 5 [(0, .ref (am 0)), (1, .int t), (2, .int day), (3, .int (F_X5_standing_L5 z v f t day n5 nb k))] → W p l e (headSpec wsX5_standing ({ frames := 0, cells := 0, slots := 0, locals := 0 })).room s m ([.ref (am 0), .int t, .int day] : List Value).toArray below meth c s.heap [] 0 0 Q9 (F0 m 50 ls [])) → W p l e (headSpec wsX5_standing ({ frames := 0, cells := 0, slots := 0, locals := 0 })).room s m ([.ref (am 0), .int t, .int day] : List Value).toArray below meth c s.heap [] 0 0 Q9 (F0 m 5 ls []) := by
    intro n5
    induction n5 with
    | zero =>
      intro nb k ls hk5 hn5
      exact absurd hn5 (by omega)
    | succ n5 ih5 =>
      intro nb k ls hk5 hn5 hl hq5
      generalize hF5 : F_X5_standing_L5 z v f t day (n5 + 1) nb k = R5 at hq5
      rw [F_X5_standing_L5] at hF5
      refine lv_iload hx hb dX5_standing_5 (lv_at hl 4 rfl) ?_
      refine lv_aload_n hx hb dX5_standing_7 rfl (lv_at hl 0 rfl) ?_
      refine va_get (D := (dC, dI)) (ci := 5) (v := .int (nI (z 2))) (C := RX5) (T := TX5) (N := 25) hx hb hts hinX5 hown hK hP 0 rfl rfl 3 (by decide) hfl111 (fun _ h9 => h9) rfl dX5_standing_8 ?_
      refine lv_icmp_ge (tgt := 50) hx hb dX5_standing_11 (by decide) (fun c1 => ?_) (fun c1 => ?_)
      · have c1 : z 2 ≤ k := (nI_leI (a := z 2) (b := k) (by omega) (by omega)).mp c1
        rw [if_pos c1] at hF5
        subst hF5
        exact hq5 ls (lv_sub hl [0, 1, 2, 3] rfl)
      · have c1 : ¬ z 2 ≤ k := fun h9 => c1 ((nI_leI (a := z 2) (b := k) (by omega) (by omega)).mpr h9)
        rw [if_neg c1] at hF5
        refine lv_iload_n hx hb dX5_standing_14 rfl (lv_at hl 3 rfl) ?_
        refine lv_aload_n hx hb dX5_standing_15 rfl (lv_at hl 0 rfl) ?_
        refine va_get (D := (dC, dI)) (ci := 5) (v := .ref (am 11)) (C := RX5) (T := TX5) (N := 25) hx hb hts hinX5 hown hK hP 0 rfl rfl 16 (by decide) hfl40 (fun _ h9 => h9) rfl dX5_standing_16 ?_
        refine lv_iload hx hb dX5_standing_19 (lv_at hl 4 rfl) ?_
        refine xa_ild hx hb hK hP 11 0 rfl rfl (by omega) (by decide) dX5_standing_21 ?_
        refine lv_iload_n hx hb dX5_standing_22 rfl (lv_at hl 1 rfl) ?_
        refine lv_icmp_ne (tgt := 41) hx hb dX5_standing_23 (by decide) (fun c2 => ?_) (fun c2 => ?_)
        · rw [if_neg c2] at hF5
          refine lv_iconst (v := 0) hx hb dX5_standing_41 (by decide) ?_
          refine lv_iadd hx hb dX5_standing_42 ?_
          refine lv_istore_n (lv' := [(3, .int (nb + 0)), (0, .ref (am 0)), (1, .int t), (2, .int day), (4, .int (nI k))]) hx hb dX5_standing_43 rfl hl (by decide) rfl (fun ls hl => ?_)
          refine lv_iinc (v := nI (k + 1)) (lv' := [(4, .int (nI (k + 1))), (3, .int (nb + 0)), (0, .ref (am 0)), (1, .int t), (2, .int day)]) hx hb dX5_standing_44 hl (k := 4) rfl (xi_inc _) (by decide) rfl (fun ls hl => ?_)
          refine lv_goto (tgt := 5) hx hb dX5_standing_47 (by decide) ?_
          exact ih5 (nb + 0) (k + 1) ls (by omega) (by omega) (lv_sub hl [2, 3, 4, 1, 0] rfl) (by rw [hF5]; exact hq5)
        · rw [if_pos c2] at hF5
          refine lv_aload_n hx hb dX5_standing_26 rfl (lv_at hl 0 rfl) ?_
          refine va_get (D := (dC, dI)) (ci := 5) (v := .ref (am 13)) (C := RX5) (T := TX5) (N := 25) hx hb hts hinX5 hown hK hP 0 rfl rfl 18 (by decide) hfl47 (fun _ h9 => h9) rfl dX5_standing_27 ?_
          refine lv_iload hx hb dX5_standing_30 (lv_at hl 4 rfl) ?_
          refine xa_ild hx hb hK hP 13 0 rfl rfl (by omega) (by decide) dX5_standing_32 ?_
          refine lv_iload_n hx hb dX5_standing_33 rfl (lv_at hl 2 rfl) ?_
          refine lv_icmp_lt (tgt := 41) hx hb dX5_standing_34 (by decide) (fun c3 => ?_) (fun c3 => ?_)
          · rw [if_pos c3] at hF5
            refine lv_iconst (v := 0) hx hb dX5_standing_41 (by decide) ?_
            refine lv_iadd hx hb dX5_standing_42 ?_
            refine lv_istore_n (lv' := [(3, .int (nb + 0)), (0, .ref (am 0)), (1, .int t), (2, .int day), (4, .int (nI k))]) hx hb dX5_standing_43 rfl hl (by decide) rfl (fun ls hl => ?_)
            refine lv_iinc (v := nI (k + 1)) (lv' := [(4, .int (nI (k + 1))), (3, .int (nb + 0)), (0, .ref (am 0)), (1, .int t), (2, .int day)]) hx hb dX5_standing_44 hl (k := 4) rfl (xi_inc _) (by decide) rfl (fun ls hl => ?_)
            refine lv_goto (tgt := 5) hx hb dX5_standing_47 (by decide) ?_
            exact ih5 (nb + 0) (k + 1) ls (by omega) (by omega) (lv_sub hl [2, 3, 4, 1, 0] rfl) (by rw [hF5]; exact hq5)
          · rw [if_neg c3] at hF5
            refine lv_iconst (v := 1) hx hb dX5_standing_37 (by decide) ?_
            refine lv_goto (tgt := 42) hx hb dX5_standing_38 (by decide) ?_
            refine lv_iadd hx hb dX5_standing_42 ?_
            refine lv_istore_n (lv' := [(3, .int (nb + 1)), (0, .ref (am 0)), (1, .int t), (2, .int day), (4, .int (nI k))]) hx hb dX5_standing_43 rfl hl (by decide) rfl (fun ls hl => ?_)
            refine lv_iinc (v := nI (k + 1)) (lv' := [(4, .int (nI (k + 1))), (3, .int (nb + 1)), (0, .ref (am 0)), (1, .int t), (2, .int day)]) hx hb dX5_standing_44 hl (k := 4) rfl (xi_inc _) (by decide) rfl (fun ls hl => ?_)
            refine lv_goto (tgt := 5) hx hb dX5_standing_47 (by decide) ?_
            exact ih5 (nb + 1) (k + 1) ls (by omega) (by omega) (lv_sub hl [2, 3, 4, 1, 0] rfl) (by rw [hF5]; exact hq5)
  refine lp5 (z 2 + 1) 0 0 ls (by omega) (by omega) (lv_sub hl [2, 3, 4, 1, 0] rfl) (fun ls hl => ?_)
  obtain ⟨r4, hr4⟩ : ∃ y, y = (F_X5_standing_L5 z v f t day (z 2 + 1) 0 0) := ⟨_, rfl⟩
  rw [← hr4] at hl
  try rw [← hr4] at hF
  refine lv_iload_n hx hb dX5_standing_50 rfl (lv_at hl 3 rfl) ?_
  subst hQ9
  exact W.iret hx hb hr (fun t ht hW => ⟨_, rfl, hF, ht⟩) (fun q h => by cases h) dX5_standing_51
end
section
def F_X5_reached_L29 (z : Nat → Nat) (v : Nat → Int32) (f : Nat → Nat → Int32) (t day : Int32) (al : Int32) (ro : Nat) (bl : Int32) (k : Nat) : Nat → Int32 → Nat → Int32
  | 0, dl, g => dl
  | n29 + 1, dl, g =>
    if z 0 ≤ g then
      dl
    else
      if ((dl >>> ((nI k) &&& 31)) &&& 1) = 1 then
        if (((f 0 k) >>> ((nI g) &&& 31)) &&& 1) = 1 then
          if day = (-1) then
            F_X5_reached_L29 z v f t day al ro bl k n29 (dl ||| (1 <<< ((nI g) &&& 31))) (g + 1)
          else
            if F_X5_isAlive z v f (nI g) day = 0 then
              F_X5_reached_L29 z v f t day al ro bl k n29 dl (g + 1)
            else
              F_X5_reached_L29 z v f t day al ro bl k n29 (dl ||| (1 <<< ((nI g) &&& 31))) (g + 1)
        else
          F_X5_reached_L29 z v f t day al ro bl k n29 dl (g + 1)
      else
        dl
def F_X5_reached_L17 (z : Nat → Nat) (v : Nat → Int32) (f : Nat → Nat → Int32) (t day : Int32) (al : Int32) (ro : Nat) : Nat → Int32 → Nat → Int32
  | 0, bl, k => bl
  | n17 + 1, bl, k =>
    if z 0 ≤ k then
      bl
    else
      F_X5_reached_L17 z v f t day al ro n17 (F_X5_reached_L29 z v f t day al ro bl k (z 0 + 1) bl 0) (k + 1)
def F_X5_reached_L7 (z : Nat → Nat) (v : Nat → Int32) (f : Nat → Nat → Int32) (t day : Int32)  : Nat → Int32 → Nat → Int32
  | 0, al, ro => al
  | n7 + 1, al, ro =>
    if 12 ≤ ro then
      al
    else
      F_X5_reached_L7 z v f t day n7 (F_X5_reached_L17 z v f t day al ro (z 0 + 1) al 0) (ro + 1)
def F_X5_reached (z : Nat → Nat) (v : Nat → Int32) (f : Nat → Nat → Int32) (t day : Int32) : Int32 :=
  (F_X5_reached_L7 z v f t day (12 + 1) (1 <<< (t &&& 31)) 0)
set_option maxHeartbeats 4000000 in
set_option maxRecDepth 100000 in
theorem c_X5_reached (l : Launch) (dC : Nat → ClassId) (dI : Nat → Nat → Nat) (am : Nat → Nat) (cI cZ : ClassId) (th : Int32) (z : Nat → Nat) (v : Nat → Int32) (f : Nat → Nat → Int32) (t day : Int32) (hok : okM z v f) : Met l yX5_reached wsX5_reached ({ frames := 2, cells := 0, slots := 0, locals := 48 }) (va_Pc [.ref (am 0), .int t, .int day] (kM dC dI am cI cZ th z v f)) (vp_Si (fun r => r = F_X5_reached z v f t day)) 0 0 (fun _ => False) := by
  refine Met.ofW (cc := cX5_reached) (maxL := 7) (ret := (some .int)) (by decide) rfl ?_
  intro p e s m args below meth c s₁ B hml hv
  obtain ⟨rfl, hP, hK, hN⟩ := hv
  have hx := B.exec
  have hb := B.bytes
  have hr := B.returns
  have hts := atoms_spec (ws := wsX5_reached) B.pre
  have hown : s.vm.findClass RX5 = some m.cls := findClass_of_methodNamed B.named
  have hlocks := B.notSynchronized
  have hok9 := hok
  obtain ⟨hz0, hz1, hz2, hz3, hz4, hbz, hbs, hdp, hgv⟩ := hok9
  have hfl69 := hts (.fieldLink RX5 69 "TraderRightsModel" "traders" "I") (List.mem_of_getElem? (i := 1) rfl)
  have hfl7 := hts (.fieldLink RX5 7 "TraderRightsModel" "groupsOf" "[I") (List.mem_of_getElem? (i := 2) rfl)
  have hinX5 : ∀ w ∈ u_ws RX5 TX5 25, w ∈ wsX5_reached := fun w h => List.mem_cons_of_mem _ (List.mem_append_right _ h)
  have hl := lv_entry ([.ref (am 0), .int t, .int day]) (n := 7) (Nat.le_of_ble_eq_true rfl)
  rw [lg_entry_eq]
  generalize (lg_sl ([.ref (am 0), .int t, .int day]) ++ List.replicate (7 - (lg_sl ([.ref (am 0), .int t, .int day])).length) Slot.unset).toArray = ls at hl ⊢
  have hl : lv_has ls 7 [(0, .ref (am 0)), (1, .int t), (2, .int day)] := hl
  generalize hF : F_X5_reached z v f t day = R9
  generalize hQ9 : MQ below (vp_Si (fun r => r = R9)) _ s 0 0 (fun _ => False) = Q9
  rw [F_X5_reached] at hF
  refine lv_iconst (v := 1) hx hb dX5_reached_0 (by decide) ?_
  refine lv_iload_n hx hb dX5_reached_1 rfl (lv_at hl 1 rfl) ?_
  refine lv_ishl hx hb dX5_reached_2 ?_
  refine lv_istore_n (lv' := [(3, .int (1 <<< (t &&& 31))), (0, .ref (am 0)), (1, .int t), (2, .int day)]) hx hb dX5_reached_3 rfl hl (by decide) rfl (fun ls hl => ?_)
  refine lv_iconst (v := 0) hx hb dX5_reached_4 (by decide) ?_
  refine lv_istore (lv' := [(4, .int 0), (3, .int (1 <<< (t &&& 31))), (0, .ref (am 0)), (1, .int t), (2, .int day)]) hx hb dX5_reached_5 hl (by decide) rfl (fun ls hl => ?_)
  have lp7 : ∀ (n7 : Nat) (al : Int32) (ro : Nat) (ls : Array Slot), ro ≤ 12 → 12 < ro + n7 → lv_has ls 7 [(0, .ref (am 0)), (1, .int t), (2, .int day), (3, .int al), (4, .int (nI ro))] → (∀ ls : Array Slot, lv_has ls 7 [(0, .ref (am 0)), (1, .int t), (2, .int day), (3, .int (F_X5_reached_L7 z v f t day n7 al ro))] → W p l e (headSpec wsX5_reached ({ frames := 2, cells := 0, slots := 0, locals := 48 })).room s m ([.ref (am 0), .int t, .int day] : List Value).toArray below meth c s.heap [] 0 0 Q9 (F0 m 104 ls [])) → W p l e (headSpec wsX5_reached ({ frames := 2, cells := 0, slots := 0, locals := 48 })).room s m ([.ref (am 0), .int t, .int day] : List Value).toArray below meth c s.heap [] 0 0 Q9 (F0 m 7 ls []) := by
    intro n7
    induction n7 with
    | zero =>
      intro al ro ls hk7 hn7
      exact absurd hn7 (by omega)
    | succ n7 ih7 =>
      intro al ro ls hk7 hn7 hl hq7
      generalize hF7 : F_X5_reached_L7 z v f t day (n7 + 1) al ro = R7 at hq7
      rw [F_X5_reached_L7] at hF7
      refine lv_iload hx hb dX5_reached_7 (lv_at hl 4 rfl) ?_
      refine lv_bipush (v := 12) hx hb dX5_reached_9 (by decide) ?_
      refine lv_icmp_ge (tgt := 104) hx hb dX5_reached_11 (by decide) (fun c1 => ?_) (fun c1 => ?_)
      · have c1 : 12 ≤ ro := (nI_leI (a := 12) (b := ro) (by omega) (by omega)).mp c1
        rw [if_pos c1] at hF7
        subst hF7
        exact hq7 ls (lv_sub hl [0, 1, 2, 3] rfl)
      · have c1 : ¬ 12 ≤ ro := fun h9 => c1 ((nI_leI (a := 12) (b := ro) (by omega) (by omega)).mpr h9)
        rw [if_neg c1] at hF7
        refine lv_iconst (v := 0) hx hb dX5_reached_14 (by decide) ?_
        refine lv_istore (lv' := [(5, .int 0), (0, .ref (am 0)), (1, .int t), (2, .int day), (3, .int al), (4, .int (nI ro))]) hx hb dX5_reached_15 hl (by decide) rfl (fun ls hl => ?_)
        have lp17 : ∀ (n17 : Nat) (bl : Int32) (k : Nat) (ls : Array Slot), k ≤ z 0 → z 0 < k + n17 → lv_has ls 7 [(0, .ref (am 0)), (1, .int t), (2, .int day), (4, .int (nI ro)), (3, .int bl), (5, .int (nI k))] → (∀ ls : Array Slot, lv_has ls 7 [(0, .ref (am 0)), (1, .int t), (2, .int day), (4, .int (nI ro)), (3, .int (F_X5_reached_L17 z v f t day al ro n17 bl k))] → W p l e (headSpec wsX5_reached ({ frames := 2, cells := 0, slots := 0, locals := 48 })).room s m ([.ref (am 0), .int t, .int day] : List Value).toArray below meth c s.heap [] 0 0 Q9 (F0 m 98 ls [])) → W p l e (headSpec wsX5_reached ({ frames := 2, cells := 0, slots := 0, locals := 48 })).room s m ([.ref (am 0), .int t, .int day] : List Value).toArray below meth c s.heap [] 0 0 Q9 (F0 m 17 ls []) := by
          intro n17
          induction n17 with
          | zero =>
            intro bl k ls hk17 hn17
            exact absurd hn17 (by omega)
          | succ n17 ih17 =>
            intro bl k ls hk17 hn17 hl hq17
            generalize hF17 : F_X5_reached_L17 z v f t day al ro (n17 + 1) bl k = R17 at hq17
            rw [F_X5_reached_L17] at hF17
            refine lv_iload hx hb dX5_reached_17 (lv_at hl 5 rfl) ?_
            refine lv_aload_n hx hb dX5_reached_19 rfl (lv_at hl 0 rfl) ?_
            refine va_get (D := (dC, dI)) (ci := 5) (v := .int (nI (z 0))) (C := RX5) (T := TX5) (N := 25) hx hb hts hinX5 hown hK hP 0 rfl rfl 1 (by decide) hfl69 (fun _ h9 => h9) rfl dX5_reached_20 ?_
            refine lv_icmp_ge (tgt := 98) hx hb dX5_reached_23 (by decide) (fun c2 => ?_) (fun c2 => ?_)
            · have c2 : z 0 ≤ k := (nI_leI (a := z 0) (b := k) (by omega) (by omega)).mp c2
              rw [if_pos c2] at hF17
              subst hF17
              exact hq17 ls (lv_sub hl [0, 1, 2, 3, 4] rfl)
            · have c2 : ¬ z 0 ≤ k := fun h9 => c2 ((nI_leI (a := z 0) (b := k) (by omega) (by omega)).mpr h9)
              rw [if_neg c2] at hF17
              refine lv_iconst (v := 0) hx hb dX5_reached_26 (by decide) ?_
              refine lv_istore (lv' := [(6, .int 0), (0, .ref (am 0)), (1, .int t), (2, .int day), (4, .int (nI ro)), (3, .int bl), (5, .int (nI k))]) hx hb dX5_reached_27 hl (by decide) rfl (fun ls hl => ?_)
              have lp29 : ∀ (n29 : Nat) (dl : Int32) (g : Nat) (ls : Array Slot), g ≤ z 0 → z 0 < g + n29 → lv_has ls 7 [(0, .ref (am 0)), (1, .int t), (2, .int day), (4, .int (nI ro)), (5, .int (nI k)), (3, .int dl), (6, .int (nI g))] → (∀ ls : Array Slot, lv_has ls 7 [(0, .ref (am 0)), (1, .int t), (2, .int day), (4, .int (nI ro)), (5, .int (nI k)), (3, .int (F_X5_reached_L29 z v f t day al ro bl k n29 dl g))] → W p l e (headSpec wsX5_reached ({ frames := 2, cells := 0, slots := 0, locals := 48 })).room s m ([.ref (am 0), .int t, .int day] : List Value).toArray below meth c s.heap [] 0 0 Q9 (F0 m 92 ls [])) → W p l e (headSpec wsX5_reached ({ frames := 2, cells := 0, slots := 0, locals := 48 })).room s m ([.ref (am 0), .int t, .int day] : List Value).toArray below meth c s.heap [] 0 0 Q9 (F0 m 29 ls []) := by
                intro n29
                induction n29 with
                | zero =>
                  intro dl g ls hk29 hn29
                  exact absurd hn29 (by omega)
                | succ n29 ih29 =>
                  intro dl g ls hk29 hn29 hl hq29
                  generalize hF29 : F_X5_reached_L29 z v f t day al ro bl k (n29 + 1) dl g = R29 at hq29
                  rw [F_X5_reached_L29] at hF29
                  refine lv_iload hx hb dX5_reached_29 (lv_at hl 6 rfl) ?_
                  refine lv_aload_n hx hb dX5_reached_31 rfl (lv_at hl 0 rfl) ?_
                  refine va_get (D := (dC, dI)) (ci := 5) (v := .int (nI (z 0))) (C := RX5) (T := TX5) (N := 25) hx hb hts hinX5 hown hK hP 0 rfl rfl 1 (by decide) hfl69 (fun _ h9 => h9) rfl dX5_reached_32 ?_
                  refine lv_icmp_ge (tgt := 92) hx hb dX5_reached_35 (by decide) (fun c3 => ?_) (fun c3 => ?_)
                  · have c3 : z 0 ≤ g := (nI_leI (a := z 0) (b := g) (by omega) (by omega)).mp c3
                    rw [if_pos c3] at hF29
                    subst hF29
                    exact hq29 ls (lv_sub hl [0, 1, 2, 3, 4, 5] rfl)
                  · have c3 : ¬ z 0 ≤ g := fun h9 => c3 ((nI_leI (a := z 0) (b := g) (by omega) (by omega)).mpr h9)
                    rw [if_neg c3] at hF29
                    refine lv_iload_n hx hb dX5_reached_38 rfl (lv_at hl 5 rfl) ?_
                    refine lv_iload hx hb dX5_reached_39 (lv_at hl 4 rfl) ?_
                    refine lv_ishr hx hb dX5_reached_41 ?_
                    refine lv_iconst (v := 1) hx hb dX5_reached_42 (by decide) ?_
                    refine lv_iand hx hb dX5_reached_43 ?_
                    refine lv_iconst (v := 1) hx hb dX5_reached_44 (by decide) ?_
                    refine lv_icmp_ne (tgt := 92) hx hb dX5_reached_45 (by decide) (fun c4 => ?_) (fun c4 => ?_)
                    · rw [if_neg c4] at hF29
                      subst hF29
                      exact hq29 ls (lv_sub hl [0, 1, 2, 3, 4, 5] rfl)
                    · rw [if_pos c4] at hF29
                      refine lv_aload_n hx hb dX5_reached_48 rfl (lv_at hl 0 rfl) ?_
                      refine va_get (D := (dC, dI)) (ci := 5) (v := .ref (am 1)) (C := RX5) (T := TX5) (N := 25) hx hb hts hinX5 hown hK hP 0 rfl rfl 6 (by decide) hfl7 (fun _ h9 => h9) rfl dX5_reached_49 ?_
                      refine lv_iload hx hb dX5_reached_52 (lv_at hl 4 rfl) ?_
                      refine xa_ild hx hb hK hP 1 0 rfl rfl (by omega) (by decide) dX5_reached_54 ?_
                      refine lv_iload hx hb dX5_reached_55 (lv_at hl 6 rfl) ?_
                      refine lv_ishr hx hb dX5_reached_57 ?_
                      refine lv_iconst (v := 1) hx hb dX5_reached_58 (by decide) ?_
                      refine lv_iand hx hb dX5_reached_59 ?_
                      refine lv_iconst (v := 1) hx hb dX5_reached_60 (by decide) ?_
                      refine lv_icmp_ne (tgt := 86) hx hb dX5_reached_61 (by decide) (fun c5 => ?_) (fun c5 => ?_)
                      · rw [if_neg c5] at hF29
                        refine lv_iinc (v := nI (g + 1)) (lv' := [(6, .int (nI (g + 1))), (0, .ref (am 0)), (1, .int t), (2, .int day), (4, .int (nI ro)), (5, .int (nI k)), (3, .int dl)]) hx hb dX5_reached_86 hl (k := 6) rfl (xi_inc _) (by decide) rfl (fun ls hl => ?_)
                        refine lv_goto (tgt := 29) hx hb dX5_reached_89 (by decide) ?_
                        exact ih29 dl (g + 1) ls (by omega) (by omega) (lv_sub hl [1, 2, 3, 4, 5, 6, 0] rfl) (by rw [hF29]; exact hq29)
                      · rw [if_pos c5] at hF29
                        refine lv_iload_n hx hb dX5_reached_64 rfl (lv_at hl 2 rfl) ?_
                        refine lv_iconst (v := (-1)) hx hb dX5_reached_65 (by decide) ?_
                        refine lv_icmp_eq (tgt := 79) hx hb dX5_reached_66 (by decide) (fun c6 => ?_) (fun c6 => ?_)
                        · rw [if_pos c6] at hF29
                          refine lv_iload_n hx hb dX5_reached_79 rfl (lv_at hl 5 rfl) ?_
                          refine lv_iconst (v := 1) hx hb dX5_reached_80 (by decide) ?_
                          refine lv_iload hx hb dX5_reached_81 (lv_at hl 6 rfl) ?_
                          refine lv_ishl hx hb dX5_reached_83 ?_
                          refine lv_ior hx hb dX5_reached_84 ?_
                          refine lv_istore_n (lv' := [(3, .int (dl ||| (1 <<< ((nI g) &&& 31)))), (0, .ref (am 0)), (1, .int t), (2, .int day), (4, .int (nI ro)), (5, .int (nI k)), (6, .int (nI g))]) hx hb dX5_reached_85 rfl hl (by decide) rfl (fun ls hl => ?_)
                          refine lv_iinc (v := nI (g + 1)) (lv' := [(6, .int (nI (g + 1))), (3, .int (dl ||| (1 <<< ((nI g) &&& 31)))), (0, .ref (am 0)), (1, .int t), (2, .int day), (4, .int (nI ro)), (5, .int (nI k))]) hx hb dX5_reached_86 hl (k := 6) rfl (xi_inc _) (by decide) rfl (fun ls hl => ?_)
                          refine lv_goto (tgt := 29) hx hb dX5_reached_89 (by decide) ?_
                          exact ih29 (dl ||| (1 <<< ((nI g) &&& 31))) (g + 1) ls (by omega) (by omega) (lv_sub hl [2, 3, 4, 5, 6, 1, 0] rfl) (by rw [hF29]; exact hq29)
                        · rw [if_neg c6] at hF29
                          refine lv_aload_n hx hb dX5_reached_69 rfl (lv_at hl 0 rfl) ?_
                          refine lv_iload hx hb dX5_reached_70 (lv_at hl 6 rfl) ?_
                          refine lv_iload_n hx hb dX5_reached_72 rfl (lv_at hl 2 rfl) ?_
                          refine vp_callSi (W.runV (As := [.int (nI g), .int day]) (rest := []) ⟨hx, hb, hml, hown, hts⟩ (c_X5_isAlive l dC dI am cI cZ th z v f (nI g) day hok (vp_in_nI (by omega) (by omega))) (cwV 2 hts gX5_reached_X5_isAlive rfl rfl rfl (by decide +kernel) ⟨Nat.le_of_ble_eq_true rfl, Nat.le_of_ble_eq_true rfl⟩) (preM (ci := 5) (q0 := 0) hP hK hN rfl rfl rfl) rfl rfl hl.1 rfl (lv_room (Nat.le_of_ble_eq_true rfl)) dX5_reached_73 ⟨Nat.zero_le _, Nat.zero_le _⟩) (fun r7 h9 => ?_)
                          have hr7 : r7 = F_X5_isAlive z v f (nI g) day := h9
                          try rw [← hr7] at hF
                          try rw [← hr7] at hF7
                          try rw [← hr7] at hF17
                          try rw [← hr7] at hF29
                          refine lv_if_eq (tgt := 86) hx hb dX5_reached_76 (by decide) (fun c8 => ?_) (fun c8 => ?_)
                          · rw [if_pos c8] at hF29
                            have c8f : F_X5_isAlive z v f (nI g) day = 0 := by rw [← hr7]; exact c8
                            refine lv_iinc (v := nI (g + 1)) (lv' := [(6, .int (nI (g + 1))), (0, .ref (am 0)), (1, .int t), (2, .int day), (4, .int (nI ro)), (5, .int (nI k)), (3, .int dl)]) hx hb dX5_reached_86 hl (k := 6) rfl (xi_inc _) (by decide) rfl (fun ls hl => ?_)
                            refine lv_goto (tgt := 29) hx hb dX5_reached_89 (by decide) ?_
                            exact ih29 dl (g + 1) ls (by omega) (by omega) (lv_sub hl [1, 2, 3, 4, 5, 6, 0] rfl) (by rw [hF29]; exact hq29)
                          · rw [if_neg c8] at hF29
                            have c8f : ¬ F_X5_isAlive z v f (nI g) day = 0 := by rw [← hr7]; exact c8
                            refine lv_iload_n hx hb dX5_reached_79 rfl (lv_at hl 5 rfl) ?_
                            refine lv_iconst (v := 1) hx hb dX5_reached_80 (by decide) ?_
                            refine lv_iload hx hb dX5_reached_81 (lv_at hl 6 rfl) ?_
                            refine lv_ishl hx hb dX5_reached_83 ?_
                            refine lv_ior hx hb dX5_reached_84 ?_
                            refine lv_istore_n (lv' := [(3, .int (dl ||| (1 <<< ((nI g) &&& 31)))), (0, .ref (am 0)), (1, .int t), (2, .int day), (4, .int (nI ro)), (5, .int (nI k)), (6, .int (nI g))]) hx hb dX5_reached_85 rfl hl (by decide) rfl (fun ls hl => ?_)
                            refine lv_iinc (v := nI (g + 1)) (lv' := [(6, .int (nI (g + 1))), (3, .int (dl ||| (1 <<< ((nI g) &&& 31)))), (0, .ref (am 0)), (1, .int t), (2, .int day), (4, .int (nI ro)), (5, .int (nI k))]) hx hb dX5_reached_86 hl (k := 6) rfl (xi_inc _) (by decide) rfl (fun ls hl => ?_)
                            refine lv_goto (tgt := 29) hx hb dX5_reached_89 (by decide) ?_
                            exact ih29 (dl ||| (1 <<< ((nI g) &&& 31))) (g + 1) ls (by omega) (by omega) (lv_sub hl [2, 3, 4, 5, 6, 1, 0] rfl) (by rw [hF29]; exact hq29)
              refine lp29 (z 0 + 1) bl 0 ls (by omega) (by omega) (lv_sub hl [1, 2, 3, 4, 6, 5, 0] rfl) (fun ls hl => ?_)
              obtain ⟨r9, hr9⟩ : ∃ y, y = (F_X5_reached_L29 z v f t day al ro bl k (z 0 + 1) bl 0) := ⟨_, rfl⟩
              rw [← hr9] at hl
              try rw [← hr9] at hF
              try rw [← hr9] at hF7
              try rw [← hr9] at hF17
              refine lv_iinc (v := nI (k + 1)) (lv' := [(5, .int (nI (k + 1))), (0, .ref (am 0)), (1, .int t), (2, .int day), (4, .int (nI ro)), (3, .int r9)]) hx hb dX5_reached_92 hl (k := 4) rfl (xi_inc _) (by decide) rfl (fun ls hl => ?_)
              refine lv_goto (tgt := 17) hx hb dX5_reached_95 (by decide) ?_
              exact ih17 r9 (k + 1) ls (by omega) (by omega) (lv_sub hl [1, 2, 3, 4, 5, 0] rfl) (by rw [hF17]; exact hq17)
        refine lp17 (z 0 + 1) al 0 ls (by omega) (by omega) (lv_sub hl [1, 2, 3, 5, 4, 0] rfl) (fun ls hl => ?_)
        obtain ⟨r10, hr10⟩ : ∃ y, y = (F_X5_reached_L17 z v f t day al ro (z 0 + 1) al 0) := ⟨_, rfl⟩
        rw [← hr10] at hl
        try rw [← hr10] at hF
        try rw [← hr10] at hF7
        refine lv_iinc (v := nI (ro + 1)) (lv' := [(4, .int (nI (ro + 1))), (0, .ref (am 0)), (1, .int t), (2, .int day), (3, .int r10)]) hx hb dX5_reached_98 hl (k := 3) rfl (xi_inc _) (by decide) rfl (fun ls hl => ?_)
        refine lv_goto (tgt := 7) hx hb dX5_reached_101 (by decide) ?_
        exact ih7 r10 (ro + 1) ls (by omega) (by omega) (lv_sub hl [1, 2, 3, 4, 0] rfl) (by rw [hF7]; exact hq7)
  refine lp7 (12 + 1) (1 <<< (t &&& 31)) 0 ls (by omega) (by omega) (lv_sub hl [2, 3, 4, 1, 0] rfl) (fun ls hl => ?_)
  obtain ⟨r11, hr11⟩ : ∃ y, y = (F_X5_reached_L7 z v f t day (12 + 1) (1 <<< (t &&& 31)) 0) := ⟨_, rfl⟩
  rw [← hr11] at hl
  try rw [← hr11] at hF
  refine lv_iload_n hx hb dX5_reached_104 rfl (lv_at hl 3 rfl) ?_
  subst hQ9
  exact W.iret hx hb hr (fun t ht hW => ⟨_, rfl, hF, ht⟩) (fun q h => by cases h) dX5_reached_105
def F_X5_has_L15 (z : Nat → Nat) (v : Nat → Int32) (f : Nat → Nat → Int32) (t a pl day : Int32)  (x5 : Int32) : Nat → Int32 → Nat → Int32
  | 0, on, k => on
  | n15 + 1, on, k =>
    if z 1 ≤ k then
      on
    else
      if f 5 k = a then
        if f 6 k = (-1) then
          if F_X5_in day (f 7 k) (f 8 k) = 0 then
            if on = 0 then
              F_X5_has_L15 z v f t a pl day x5 n15 0 (k + 1)
            else
              F_X5_has_L15 z v f t a pl day x5 n15 1 (k + 1)
          else
            if on = 0 then
              if ((x5 >>> ((f 4 k) &&& 31)) &&& 1) = 1 then
                F_X5_has_L15 z v f t a pl day x5 n15 1 (k + 1)
              else
                F_X5_has_L15 z v f t a pl day x5 n15 0 (k + 1)
            else
              F_X5_has_L15 z v f t a pl day x5 n15 1 (k + 1)
        else
          if f 6 k = pl then
            if F_X5_in day (f 7 k) (f 8 k) = 0 then
              if on = 0 then
                F_X5_has_L15 z v f t a pl day x5 n15 0 (k + 1)
              else
                F_X5_has_L15 z v f t a pl day x5 n15 1 (k + 1)
            else
              if on = 0 then
                if ((x5 >>> ((f 4 k) &&& 31)) &&& 1) = 1 then
                  F_X5_has_L15 z v f t a pl day x5 n15 1 (k + 1)
                else
                  F_X5_has_L15 z v f t a pl day x5 n15 0 (k + 1)
              else
                F_X5_has_L15 z v f t a pl day x5 n15 1 (k + 1)
          else
            if on = 0 then
              F_X5_has_L15 z v f t a pl day x5 n15 0 (k + 1)
            else
              F_X5_has_L15 z v f t a pl day x5 n15 1 (k + 1)
      else
        if on = 0 then
          F_X5_has_L15 z v f t a pl day x5 n15 0 (k + 1)
        else
          F_X5_has_L15 z v f t a pl day x5 n15 1 (k + 1)
def F_X5_has (z : Nat → Nat) (v : Nat → Int32) (f : Nat → Nat → Int32) (t a pl day : Int32) : Int32 :=
  if (F_X5_has_L15 z v f t a pl day (F_X5_reached z v f t day) (z 1 + 1) 0 0) = 0 then
    0
  else
    if F_X5_isForbidden z v f t a = 0 then
      1
    else
      0
set_option maxHeartbeats 4000000 in
set_option maxRecDepth 100000 in
theorem c_X5_has (l : Launch) (dC : Nat → ClassId) (dI : Nat → Nat → Nat) (am : Nat → Nat) (cI cZ : ClassId) (th : Int32) (z : Nat → Nat) (v : Nat → Int32) (f : Nat → Nat → Int32) (t a pl day : Int32) (hok : okM z v f) (ht : vp_in t 12) : Met l yX5_has wsX5_has ({ frames := 3, cells := 0, slots := 0, locals := 74 }) (va_Pc [.ref (am 0), .int t, .int a, .int pl, .int day] (kM dC dI am cI cZ th z v f)) (vp_Si (fun r => r = F_X5_has z v f t a pl day)) 0 0 (fun _ => False) := by
  refine Met.ofW (cc := cX5_has) (maxL := 9) (ret := (some .boolean)) (by decide) rfl ?_
  intro p e s m args below meth c s₁ B hml hv
  obtain ⟨rfl, hP, hK, hN⟩ := hv
  have hx := B.exec
  have hb := B.bytes
  have hr := B.returns
  have hts := atoms_spec (ws := wsX5_has) B.pre
  have hown : s.vm.findClass RX5 = some m.cls := findClass_of_methodNamed B.named
  have hlocks := B.notSynchronized
  have hok9 := hok
  obtain ⟨hz0, hz1, hz2, hz3, hz4, hbz, hbs, hdp, hgv⟩ := hok9
  have hfl22 := hts (.fieldLink RX5 22 "TraderRightsModel" "rightOf" "[I") (List.mem_of_getElem? (i := 6) rfl)
  have hfl25 := hts (.fieldLink RX5 25 "TraderRightsModel" "rightAct" "[I") (List.mem_of_getElem? (i := 2) rfl)
  have hfl28 := hts (.fieldLink RX5 28 "TraderRightsModel" "rightPlace" "[I") (List.mem_of_getElem? (i := 3) rfl)
  have hfl31 := hts (.fieldLink RX5 31 "TraderRightsModel" "rightFrom" "[I") (List.mem_of_getElem? (i := 4) rfl)
  have hfl34 := hts (.fieldLink RX5 34 "TraderRightsModel" "rightTo" "[I") (List.mem_of_getElem? (i := 5) rfl)
  have hfl87 := hts (.fieldLink RX5 87 "TraderRightsModel" "rights" "I") (List.mem_of_getElem? (i := 1) rfl)
  have hinX5 : ∀ w ∈ u_ws RX5 TX5 25, w ∈ wsX5_has := fun w h => List.mem_cons_of_mem _ (List.mem_append_right _ h)
  have hl := lv_entry ([.ref (am 0), .int t, .int a, .int pl, .int day]) (n := 9) (Nat.le_of_ble_eq_true rfl)
  rw [lg_entry_eq]
  generalize (lg_sl ([.ref (am 0), .int t, .int a, .int pl, .int day]) ++ List.replicate (9 - (lg_sl ([.ref (am 0), .int t, .int a, .int pl, .int day])).length) Slot.unset).toArray = ls at hl ⊢
  have hl : lv_has ls 9 [(0, .ref (am 0)), (1, .int t), (2, .int a), (3, .int pl), (4, .int day)] := hl
  generalize hF : F_X5_has z v f t a pl day = R9
  generalize hQ9 : MQ below (vp_Si (fun r => r = R9)) _ s 0 0 (fun _ => False) = Q9
  rw [F_X5_has] at hF
  refine lv_aload_n hx hb dX5_has_0 rfl (lv_at hl 0 rfl) ?_
  refine lv_iload_n hx hb dX5_has_1 rfl (lv_at hl 1 rfl) ?_
  refine lv_iload hx hb dX5_has_2 (lv_at hl 4 rfl) ?_
  refine vp_callSi (W.runV (As := [.int t, .int day]) (rest := []) ⟨hx, hb, hml, hown, hts⟩ (c_X5_reached l dC dI am cI cZ th z v f t day hok) (cwV 2 hts gX5_has_X5_reached rfl rfl rfl (by decide +kernel) ⟨Nat.le_of_ble_eq_true rfl, Nat.le_of_ble_eq_true rfl⟩) (preM (ci := 5) (q0 := 0) hP hK hN rfl rfl rfl) rfl rfl hl.1 rfl (lv_room (Nat.le_of_ble_eq_true rfl)) dX5_has_4 ⟨Nat.zero_le _, Nat.zero_le _⟩) (fun r1 h9 => ?_)
  have hr1 : r1 = F_X5_reached z v f t day := h9
  try rw [← hr1] at hF
  refine lv_istore (lv' := [(5, .int r1), (0, .ref (am 0)), (1, .int t), (2, .int a), (3, .int pl), (4, .int day)]) hx hb dX5_has_7 hl (by decide) rfl (fun ls hl => ?_)
  refine lv_iconst (v := 0) hx hb dX5_has_9 (by decide) ?_
  refine lv_istore (lv' := [(6, .int 0), (5, .int r1), (0, .ref (am 0)), (1, .int t), (2, .int a), (3, .int pl), (4, .int day)]) hx hb dX5_has_10 hl (by decide) rfl (fun ls hl => ?_)
  refine lv_iconst (v := 0) hx hb dX5_has_12 (by decide) ?_
  refine lv_istore (lv' := [(7, .int 0), (6, .int 0), (5, .int r1), (0, .ref (am 0)), (1, .int t), (2, .int a), (3, .int pl), (4, .int day)]) hx hb dX5_has_13 hl (by decide) rfl (fun ls hl => ?_)
  have lp15 : ∀ (n15 : Nat) (on : Int32) (k : Nat) (ls : Array Slot), k ≤ z 1 → z 1 < k + n15 → lv_has ls 9 [(0, .ref (am 0)), (1, .int t), (2, .int a), (3, .int pl), (4, .int day), (5, .int r1), (6, .int on), (7, .int (nI k))] → (∀ ls : Array Slot, lv_has ls 9 [(0, .ref (am 0)), (1, .int t), (2, .int a), (3, .int pl), (4, .int day), (5, .int r1), (6, .int (F_X5_has_L15 z v f t a pl day r1 n15 on k))] → W p l e (headSpec wsX5_has ({ frames := 3, cells := 0, slots := 0, locals := 74 })).room s m ([.ref (am 0), .int t, .int a, .int pl, .int day] : List Value).toArray below meth c s.heap [] 0 0 Q9 (F0 m 125 ls [])) → W p l e (headSpec wsX5_has ({ frames := 3, cells := 0, slots := 0, locals := 74 })).room s m ([.ref (am 0), .int t, .int a, .int pl, .int day] : List Value).toArray below meth c s.heap [] 0 0 Q9 (F0 m 15 ls []) := by
    intro n15
    induction n15 with
    | zero =>
      intro on k ls hk15 hn15
      exact absurd hn15 (by omega)
    | succ n15 ih15 =>
      intro on k ls hk15 hn15 hl hq15
      generalize hF15 : F_X5_has_L15 z v f t a pl day r1 (n15 + 1) on k = R15 at hq15
      rw [F_X5_has_L15] at hF15
      refine lv_iload hx hb dX5_has_15 (lv_at hl 7 rfl) ?_
      refine lv_aload_n hx hb dX5_has_17 rfl (lv_at hl 0 rfl) ?_
      refine va_get (D := (dC, dI)) (ci := 5) (v := .int (nI (z 1))) (C := RX5) (T := TX5) (N := 25) hx hb hts hinX5 hown hK hP 0 rfl rfl 2 (by decide) hfl87 (fun _ h9 => h9) rfl dX5_has_18 ?_
      refine lv_icmp_ge (tgt := 125) hx hb dX5_has_21 (by decide) (fun c2 => ?_) (fun c2 => ?_)
      · have c2 : z 1 ≤ k := (nI_leI (a := z 1) (b := k) (by omega) (by omega)).mp c2
        rw [if_pos c2] at hF15
        subst hF15
        exact hq15 ls (lv_sub hl [0, 1, 2, 3, 4, 5, 6] rfl)
      · have c2 : ¬ z 1 ≤ k := fun h9 => c2 ((nI_leI (a := z 1) (b := k) (by omega) (by omega)).mpr h9)
        rw [if_neg c2] at hF15
        refine lv_aload_n hx hb dX5_has_24 rfl (lv_at hl 0 rfl) ?_
        refine va_get (D := (dC, dI)) (ci := 5) (v := .ref (am 6)) (C := RX5) (T := TX5) (N := 25) hx hb hts hinX5 hown hK hP 0 rfl rfl 11 (by decide) hfl25 (fun _ h9 => h9) rfl dX5_has_25 ?_
        refine lv_iload hx hb dX5_has_28 (lv_at hl 7 rfl) ?_
        refine xa_ild hx hb hK hP 6 0 rfl rfl (by omega) (by decide) dX5_has_30 ?_
        refine lv_iload_n hx hb dX5_has_31 rfl (lv_at hl 2 rfl) ?_
        refine lv_icmp_ne (tgt := 83) hx hb dX5_has_32 (by decide) (fun c3 => ?_) (fun c3 => ?_)
        · rw [if_neg c3] at hF15
          refine lv_iconst (v := 0) hx hb dX5_has_83 (by decide) ?_
          refine lv_istore (lv' := [(8, .int 0), (0, .ref (am 0)), (1, .int t), (2, .int a), (3, .int pl), (4, .int day), (5, .int r1), (6, .int on), (7, .int (nI k))]) hx hb dX5_has_84 hl (by decide) rfl (fun ls hl => ?_)
          refine lv_iload hx hb dX5_has_86 (lv_at hl 7 rfl) ?_
          refine lv_if_ne (tgt := 112) hx hb dX5_has_88 (by decide) (fun c4 => ?_) (fun c4 => ?_)
          · rw [if_neg c4] at hF15
            refine lv_iconst (v := 1) hx hb dX5_has_112 (by decide) ?_
            refine lv_goto (tgt := 117) hx hb dX5_has_113 (by decide) ?_
            refine lv_istore (lv' := [(6, .int 1), (8, .int 0), (0, .ref (am 0)), (1, .int t), (2, .int a), (3, .int pl), (4, .int day), (5, .int r1), (7, .int (nI k))]) hx hb dX5_has_117 hl (by decide) rfl (fun ls hl => ?_)
            refine lv_iinc (v := nI (k + 1)) (lv' := [(7, .int (nI (k + 1))), (6, .int 1), (8, .int 0), (0, .ref (am 0)), (1, .int t), (2, .int a), (3, .int pl), (4, .int day), (5, .int r1)]) hx hb dX5_has_119 hl (k := 8) rfl (xi_inc _) (by decide) rfl (fun ls hl => ?_)
            refine lv_goto (tgt := 15) hx hb dX5_has_122 (by decide) ?_
            exact ih15 1 (k + 1) ls (by omega) (by omega) (lv_sub hl [3, 4, 5, 6, 7, 8, 1, 0] rfl) (by rw [hF15]; exact hq15)
          · rw [if_pos c4] at hF15
            refine lv_iload hx hb dX5_has_91 (lv_at hl 0 rfl) ?_
            refine lv_if_eq (tgt := 116) hx hb dX5_has_93 (by decide) (fun _ => ?_) (fun c9 => absurd c9 (by decide))
            refine lv_iconst (v := 0) hx hb dX5_has_116 (by decide) ?_
            refine lv_istore (lv' := [(6, .int 0), (8, .int 0), (0, .ref (am 0)), (1, .int t), (2, .int a), (3, .int pl), (4, .int day), (5, .int r1), (7, .int (nI k))]) hx hb dX5_has_117 hl (by decide) rfl (fun ls hl => ?_)
            refine lv_iinc (v := nI (k + 1)) (lv' := [(7, .int (nI (k + 1))), (6, .int 0), (8, .int 0), (0, .ref (am 0)), (1, .int t), (2, .int a), (3, .int pl), (4, .int day), (5, .int r1)]) hx hb dX5_has_119 hl (k := 8) rfl (xi_inc _) (by decide) rfl (fun ls hl => ?_)
            refine lv_goto (tgt := 15) hx hb dX5_has_122 (by decide) ?_
            exact ih15 0 (k + 1) ls (by omega) (by omega) (lv_sub hl [3, 4, 5, 6, 7, 8, 1, 0] rfl) (by rw [hF15]; exact hq15)
        · rw [if_pos c3] at hF15
          refine lv_aload_n hx hb dX5_has_35 rfl (lv_at hl 0 rfl) ?_
          refine va_get (D := (dC, dI)) (ci := 5) (v := .ref (am 7)) (C := RX5) (T := TX5) (N := 25) hx hb hts hinX5 hown hK hP 0 rfl rfl 12 (by decide) hfl28 (fun _ h9 => h9) rfl dX5_has_36 ?_
          refine lv_iload hx hb dX5_has_39 (lv_at hl 7 rfl) ?_
          refine xa_ild hx hb hK hP 7 0 rfl rfl (by omega) (by decide) dX5_has_41 ?_
          refine lv_iconst (v := (-1)) hx hb dX5_has_42 (by decide) ?_
          refine lv_icmp_eq (tgt := 57) hx hb dX5_has_43 (by decide) (fun c5 => ?_) (fun c5 => ?_)
          · rw [if_pos c5] at hF15
            refine lv_iload hx hb dX5_has_57 (lv_at hl 4 rfl) ?_
            refine lv_aload_n hx hb dX5_has_59 rfl (lv_at hl 0 rfl) ?_
            refine va_get (D := (dC, dI)) (ci := 5) (v := .ref (am 8)) (C := RX5) (T := TX5) (N := 25) hx hb hts hinX5 hown hK hP 0 rfl rfl 13 (by decide) hfl31 (fun _ h9 => h9) rfl dX5_has_60 ?_
            refine lv_iload hx hb dX5_has_63 (lv_at hl 7 rfl) ?_
            refine xa_ild hx hb hK hP 8 0 rfl rfl (by omega) (by decide) dX5_has_65 ?_
            refine lv_aload_n hx hb dX5_has_66 rfl (lv_at hl 0 rfl) ?_
            refine va_get (D := (dC, dI)) (ci := 5) (v := .ref (am 9)) (C := RX5) (T := TX5) (N := 25) hx hb hts hinX5 hown hK hP 0 rfl rfl 14 (by decide) hfl34 (fun _ h9 => h9) rfl dX5_has_67 ?_
            refine lv_iload hx hb dX5_has_70 (lv_at hl 7 rfl) ?_
            refine xa_ild hx hb hK hP 9 0 rfl rfl (by omega) (by decide) dX5_has_72 ?_
            refine vp_callSi (W.runS (As := [.int day, .int (f 7 k), .int (f 8 k)]) (rest := []) ⟨hx, hb, hml, hown, hts⟩ (c_X5_in l day (f 7 k) (f 8 k)) (cwS 3 hts gX5_has_X5_in rfl rfl rfl (by decide +kernel) ⟨Nat.le_of_ble_eq_true rfl, Nat.le_of_ble_eq_true rfl⟩) preT rfl rfl hl.1 rfl (lv_room (Nat.le_of_ble_eq_true rfl)) dX5_has_73 ⟨Nat.zero_le _, Nat.zero_le _⟩) (fun r6 h9 => ?_)
            have hr6 : r6 = F_X5_in day (f 7 k) (f 8 k) := h9
            try rw [← hr6] at hF
            try rw [← hr6] at hF15
            refine lv_if_eq (tgt := 83) hx hb dX5_has_76 (by decide) (fun c7 => ?_) (fun c7 => ?_)
            · rw [if_pos c7] at hF15
              have c7f : F_X5_in day (f 7 k) (f 8 k) = 0 := by rw [← hr6]; exact c7
              refine lv_iconst (v := 0) hx hb dX5_has_83 (by decide) ?_
              refine lv_istore (lv' := [(8, .int 0), (0, .ref (am 0)), (1, .int t), (2, .int a), (3, .int pl), (4, .int day), (5, .int r1), (6, .int on), (7, .int (nI k))]) hx hb dX5_has_84 hl (by decide) rfl (fun ls hl => ?_)
              refine lv_iload hx hb dX5_has_86 (lv_at hl 7 rfl) ?_
              refine lv_if_ne (tgt := 112) hx hb dX5_has_88 (by decide) (fun c8 => ?_) (fun c8 => ?_)
              · rw [if_neg c8] at hF15
                refine lv_iconst (v := 1) hx hb dX5_has_112 (by decide) ?_
                refine lv_goto (tgt := 117) hx hb dX5_has_113 (by decide) ?_
                refine lv_istore (lv' := [(6, .int 1), (8, .int 0), (0, .ref (am 0)), (1, .int t), (2, .int a), (3, .int pl), (4, .int day), (5, .int r1), (7, .int (nI k))]) hx hb dX5_has_117 hl (by decide) rfl (fun ls hl => ?_)
                refine lv_iinc (v := nI (k + 1)) (lv' := [(7, .int (nI (k + 1))), (6, .int 1), (8, .int 0), (0, .ref (am 0)), (1, .int t), (2, .int a), (3, .int pl), (4, .int day), (5, .int r1)]) hx hb dX5_has_119 hl (k := 8) rfl (xi_inc _) (by decide) rfl (fun ls hl => ?_)
                refine lv_goto (tgt := 15) hx hb dX5_has_122 (by decide) ?_
                exact ih15 1 (k + 1) ls (by omega) (by omega) (lv_sub hl [3, 4, 5, 6, 7, 8, 1, 0] rfl) (by rw [hF15]; exact hq15)
              · rw [if_pos c8] at hF15
                refine lv_iload hx hb dX5_has_91 (lv_at hl 0 rfl) ?_
                refine lv_if_eq (tgt := 116) hx hb dX5_has_93 (by decide) (fun _ => ?_) (fun c9 => absurd c9 (by decide))
                refine lv_iconst (v := 0) hx hb dX5_has_116 (by decide) ?_
                refine lv_istore (lv' := [(6, .int 0), (8, .int 0), (0, .ref (am 0)), (1, .int t), (2, .int a), (3, .int pl), (4, .int day), (5, .int r1), (7, .int (nI k))]) hx hb dX5_has_117 hl (by decide) rfl (fun ls hl => ?_)
                refine lv_iinc (v := nI (k + 1)) (lv' := [(7, .int (nI (k + 1))), (6, .int 0), (8, .int 0), (0, .ref (am 0)), (1, .int t), (2, .int a), (3, .int pl), (4, .int day), (5, .int r1)]) hx hb dX5_has_119 hl (k := 8) rfl (xi_inc _) (by decide) rfl (fun ls hl => ?_)
                refine lv_goto (tgt := 15) hx hb dX5_has_122 (by decide) ?_
                exact ih15 0 (k + 1) ls (by omega) (by omega) (lv_sub hl [3, 4, 5, 6, 7, 8, 1, 0] rfl) (by rw [hF15]; exact hq15)
            · rw [if_neg c7] at hF15
              have c7f : ¬ F_X5_in day (f 7 k) (f 8 k) = 0 := by rw [← hr6]; exact c7
              refine lv_iconst (v := 1) hx hb dX5_has_79 (by decide) ?_
              refine lv_goto (tgt := 84) hx hb dX5_has_80 (by decide) ?_
              refine lv_istore (lv' := [(8, .int 1), (0, .ref (am 0)), (1, .int t), (2, .int a), (3, .int pl), (4, .int day), (5, .int r1), (6, .int on), (7, .int (nI k))]) hx hb dX5_has_84 hl (by decide) rfl (fun ls hl => ?_)
              refine lv_iload hx hb dX5_has_86 (lv_at hl 7 rfl) ?_
              refine lv_if_ne (tgt := 112) hx hb dX5_has_88 (by decide) (fun c9 => ?_) (fun c9 => ?_)
              · rw [if_neg c9] at hF15
                refine lv_iconst (v := 1) hx hb dX5_has_112 (by decide) ?_
                refine lv_goto (tgt := 117) hx hb dX5_has_113 (by decide) ?_
                refine lv_istore (lv' := [(6, .int 1), (8, .int 1), (0, .ref (am 0)), (1, .int t), (2, .int a), (3, .int pl), (4, .int day), (5, .int r1), (7, .int (nI k))]) hx hb dX5_has_117 hl (by decide) rfl (fun ls hl => ?_)
                refine lv_iinc (v := nI (k + 1)) (lv' := [(7, .int (nI (k + 1))), (6, .int 1), (8, .int 1), (0, .ref (am 0)), (1, .int t), (2, .int a), (3, .int pl), (4, .int day), (5, .int r1)]) hx hb dX5_has_119 hl (k := 8) rfl (xi_inc _) (by decide) rfl (fun ls hl => ?_)
                refine lv_goto (tgt := 15) hx hb dX5_has_122 (by decide) ?_
                exact ih15 1 (k + 1) ls (by omega) (by omega) (lv_sub hl [3, 4, 5, 6, 7, 8, 1, 0] rfl) (by rw [hF15]; exact hq15)
              · rw [if_pos c9] at hF15
                refine lv_iload hx hb dX5_has_91 (lv_at hl 0 rfl) ?_
                refine lv_if_eq (tgt := 116) hx hb dX5_has_93 (by decide) (fun c9 => absurd c9 (by decide)) (fun _ => ?_)
                refine lv_iload hx hb dX5_has_96 (lv_at hl 6 rfl) ?_
                refine lv_aload_n hx hb dX5_has_98 rfl (lv_at hl 1 rfl) ?_
                refine va_get (D := (dC, dI)) (ci := 5) (v := .ref (am 5)) (C := RX5) (T := TX5) (N := 25) hx hb hts hinX5 hown hK hP 0 rfl rfl 10 (by decide) hfl22 (fun _ h9 => h9) rfl dX5_has_99 ?_
                refine lv_iload hx hb dX5_has_102 (lv_at hl 8 rfl) ?_
                refine xa_ild hx hb hK hP 5 0 rfl rfl (by omega) (by decide) dX5_has_104 ?_
                refine lv_ishr hx hb dX5_has_105 ?_
                refine lv_iconst (v := 1) hx hb dX5_has_106 (by decide) ?_
                refine lv_iand hx hb dX5_has_107 ?_
                refine lv_iconst (v := 1) hx hb dX5_has_108 (by decide) ?_
                refine lv_icmp_ne (tgt := 116) hx hb dX5_has_109 (by decide) (fun c10 => ?_) (fun c10 => ?_)
                · rw [if_neg c10] at hF15
                  refine lv_iconst (v := 0) hx hb dX5_has_116 (by decide) ?_
                  refine lv_istore (lv' := [(6, .int 0), (8, .int 1), (0, .ref (am 0)), (1, .int t), (2, .int a), (3, .int pl), (4, .int day), (5, .int r1), (7, .int (nI k))]) hx hb dX5_has_117 hl (by decide) rfl (fun ls hl => ?_)
                  refine lv_iinc (v := nI (k + 1)) (lv' := [(7, .int (nI (k + 1))), (6, .int 0), (8, .int 1), (0, .ref (am 0)), (1, .int t), (2, .int a), (3, .int pl), (4, .int day), (5, .int r1)]) hx hb dX5_has_119 hl (k := 8) rfl (xi_inc _) (by decide) rfl (fun ls hl => ?_)
                  refine lv_goto (tgt := 15) hx hb dX5_has_122 (by decide) ?_
                  exact ih15 0 (k + 1) ls (by omega) (by omega) (lv_sub hl [3, 4, 5, 6, 7, 8, 1, 0] rfl) (by rw [hF15]; exact hq15)
                · rw [if_pos c10] at hF15
                  refine lv_iconst (v := 1) hx hb dX5_has_112 (by decide) ?_
                  refine lv_goto (tgt := 117) hx hb dX5_has_113 (by decide) ?_
                  refine lv_istore (lv' := [(6, .int 1), (8, .int 1), (0, .ref (am 0)), (1, .int t), (2, .int a), (3, .int pl), (4, .int day), (5, .int r1), (7, .int (nI k))]) hx hb dX5_has_117 hl (by decide) rfl (fun ls hl => ?_)
                  refine lv_iinc (v := nI (k + 1)) (lv' := [(7, .int (nI (k + 1))), (6, .int 1), (8, .int 1), (0, .ref (am 0)), (1, .int t), (2, .int a), (3, .int pl), (4, .int day), (5, .int r1)]) hx hb dX5_has_119 hl (k := 8) rfl (xi_inc _) (by decide) rfl (fun ls hl => ?_)
                  refine lv_goto (tgt := 15) hx hb dX5_has_122 (by decide) ?_
                  exact ih15 1 (k + 1) ls (by omega) (by omega) (lv_sub hl [3, 4, 5, 6, 7, 8, 1, 0] rfl) (by rw [hF15]; exact hq15)
          · rw [if_neg c5] at hF15
            refine lv_aload_n hx hb dX5_has_46 rfl (lv_at hl 0 rfl) ?_
            refine va_get (D := (dC, dI)) (ci := 5) (v := .ref (am 7)) (C := RX5) (T := TX5) (N := 25) hx hb hts hinX5 hown hK hP 0 rfl rfl 12 (by decide) hfl28 (fun _ h9 => h9) rfl dX5_has_47 ?_
            refine lv_iload hx hb dX5_has_50 (lv_at hl 7 rfl) ?_
            refine xa_ild hx hb hK hP 7 0 rfl rfl (by omega) (by decide) dX5_has_52 ?_
            refine lv_iload_n hx hb dX5_has_53 rfl (lv_at hl 3 rfl) ?_
            refine lv_icmp_ne (tgt := 83) hx hb dX5_has_54 (by decide) (fun c11 => ?_) (fun c11 => ?_)
            · rw [if_neg c11] at hF15
              refine lv_iconst (v := 0) hx hb dX5_has_83 (by decide) ?_
              refine lv_istore (lv' := [(8, .int 0), (0, .ref (am 0)), (1, .int t), (2, .int a), (3, .int pl), (4, .int day), (5, .int r1), (6, .int on), (7, .int (nI k))]) hx hb dX5_has_84 hl (by decide) rfl (fun ls hl => ?_)
              refine lv_iload hx hb dX5_has_86 (lv_at hl 7 rfl) ?_
              refine lv_if_ne (tgt := 112) hx hb dX5_has_88 (by decide) (fun c12 => ?_) (fun c12 => ?_)
              · rw [if_neg c12] at hF15
                refine lv_iconst (v := 1) hx hb dX5_has_112 (by decide) ?_
                refine lv_goto (tgt := 117) hx hb dX5_has_113 (by decide) ?_
                refine lv_istore (lv' := [(6, .int 1), (8, .int 0), (0, .ref (am 0)), (1, .int t), (2, .int a), (3, .int pl), (4, .int day), (5, .int r1), (7, .int (nI k))]) hx hb dX5_has_117 hl (by decide) rfl (fun ls hl => ?_)
                refine lv_iinc (v := nI (k + 1)) (lv' := [(7, .int (nI (k + 1))), (6, .int 1), (8, .int 0), (0, .ref (am 0)), (1, .int t), (2, .int a), (3, .int pl), (4, .int day), (5, .int r1)]) hx hb dX5_has_119 hl (k := 8) rfl (xi_inc _) (by decide) rfl (fun ls hl => ?_)
                refine lv_goto (tgt := 15) hx hb dX5_has_122 (by decide) ?_
                exact ih15 1 (k + 1) ls (by omega) (by omega) (lv_sub hl [3, 4, 5, 6, 7, 8, 1, 0] rfl) (by rw [hF15]; exact hq15)
              · rw [if_pos c12] at hF15
                refine lv_iload hx hb dX5_has_91 (lv_at hl 0 rfl) ?_
                refine lv_if_eq (tgt := 116) hx hb dX5_has_93 (by decide) (fun _ => ?_) (fun c9 => absurd c9 (by decide))
                refine lv_iconst (v := 0) hx hb dX5_has_116 (by decide) ?_
                refine lv_istore (lv' := [(6, .int 0), (8, .int 0), (0, .ref (am 0)), (1, .int t), (2, .int a), (3, .int pl), (4, .int day), (5, .int r1), (7, .int (nI k))]) hx hb dX5_has_117 hl (by decide) rfl (fun ls hl => ?_)
                refine lv_iinc (v := nI (k + 1)) (lv' := [(7, .int (nI (k + 1))), (6, .int 0), (8, .int 0), (0, .ref (am 0)), (1, .int t), (2, .int a), (3, .int pl), (4, .int day), (5, .int r1)]) hx hb dX5_has_119 hl (k := 8) rfl (xi_inc _) (by decide) rfl (fun ls hl => ?_)
                refine lv_goto (tgt := 15) hx hb dX5_has_122 (by decide) ?_
                exact ih15 0 (k + 1) ls (by omega) (by omega) (lv_sub hl [3, 4, 5, 6, 7, 8, 1, 0] rfl) (by rw [hF15]; exact hq15)
            · rw [if_pos c11] at hF15
              refine lv_iload hx hb dX5_has_57 (lv_at hl 4 rfl) ?_
              refine lv_aload_n hx hb dX5_has_59 rfl (lv_at hl 0 rfl) ?_
              refine va_get (D := (dC, dI)) (ci := 5) (v := .ref (am 8)) (C := RX5) (T := TX5) (N := 25) hx hb hts hinX5 hown hK hP 0 rfl rfl 13 (by decide) hfl31 (fun _ h9 => h9) rfl dX5_has_60 ?_
              refine lv_iload hx hb dX5_has_63 (lv_at hl 7 rfl) ?_
              refine xa_ild hx hb hK hP 8 0 rfl rfl (by omega) (by decide) dX5_has_65 ?_
              refine lv_aload_n hx hb dX5_has_66 rfl (lv_at hl 0 rfl) ?_
              refine va_get (D := (dC, dI)) (ci := 5) (v := .ref (am 9)) (C := RX5) (T := TX5) (N := 25) hx hb hts hinX5 hown hK hP 0 rfl rfl 14 (by decide) hfl34 (fun _ h9 => h9) rfl dX5_has_67 ?_
              refine lv_iload hx hb dX5_has_70 (lv_at hl 7 rfl) ?_
              refine xa_ild hx hb hK hP 9 0 rfl rfl (by omega) (by decide) dX5_has_72 ?_
              refine vp_callSi (W.runS (As := [.int day, .int (f 7 k), .int (f 8 k)]) (rest := []) ⟨hx, hb, hml, hown, hts⟩ (c_X5_in l day (f 7 k) (f 8 k)) (cwS 3 hts gX5_has_X5_in rfl rfl rfl (by decide +kernel) ⟨Nat.le_of_ble_eq_true rfl, Nat.le_of_ble_eq_true rfl⟩) preT rfl rfl hl.1 rfl (lv_room (Nat.le_of_ble_eq_true rfl)) dX5_has_73 ⟨Nat.zero_le _, Nat.zero_le _⟩) (fun r13 h9 => ?_)
              have hr13 : r13 = F_X5_in day (f 7 k) (f 8 k) := h9
              try rw [← hr13] at hF
              try rw [← hr13] at hF15
              refine lv_if_eq (tgt := 83) hx hb dX5_has_76 (by decide) (fun c14 => ?_) (fun c14 => ?_)
              · rw [if_pos c14] at hF15
                have c14f : F_X5_in day (f 7 k) (f 8 k) = 0 := by rw [← hr13]; exact c14
                refine lv_iconst (v := 0) hx hb dX5_has_83 (by decide) ?_
                refine lv_istore (lv' := [(8, .int 0), (0, .ref (am 0)), (1, .int t), (2, .int a), (3, .int pl), (4, .int day), (5, .int r1), (6, .int on), (7, .int (nI k))]) hx hb dX5_has_84 hl (by decide) rfl (fun ls hl => ?_)
                refine lv_iload hx hb dX5_has_86 (lv_at hl 7 rfl) ?_
                refine lv_if_ne (tgt := 112) hx hb dX5_has_88 (by decide) (fun c15 => ?_) (fun c15 => ?_)
                · rw [if_neg c15] at hF15
                  refine lv_iconst (v := 1) hx hb dX5_has_112 (by decide) ?_
                  refine lv_goto (tgt := 117) hx hb dX5_has_113 (by decide) ?_
                  refine lv_istore (lv' := [(6, .int 1), (8, .int 0), (0, .ref (am 0)), (1, .int t), (2, .int a), (3, .int pl), (4, .int day), (5, .int r1), (7, .int (nI k))]) hx hb dX5_has_117 hl (by decide) rfl (fun ls hl => ?_)
                  refine lv_iinc (v := nI (k + 1)) (lv' := [(7, .int (nI (k + 1))), (6, .int 1), (8, .int 0), (0, .ref (am 0)), (1, .int t), (2, .int a), (3, .int pl), (4, .int day), (5, .int r1)]) hx hb dX5_has_119 hl (k := 8) rfl (xi_inc _) (by decide) rfl (fun ls hl => ?_)
                  refine lv_goto (tgt := 15) hx hb dX5_has_122 (by decide) ?_
                  exact ih15 1 (k + 1) ls (by omega) (by omega) (lv_sub hl [3, 4, 5, 6, 7, 8, 1, 0] rfl) (by rw [hF15]; exact hq15)
                · rw [if_pos c15] at hF15
                  refine lv_iload hx hb dX5_has_91 (lv_at hl 0 rfl) ?_
                  refine lv_if_eq (tgt := 116) hx hb dX5_has_93 (by decide) (fun _ => ?_) (fun c9 => absurd c9 (by decide))
                  refine lv_iconst (v := 0) hx hb dX5_has_116 (by decide) ?_
                  refine lv_istore (lv' := [(6, .int 0), (8, .int 0), (0, .ref (am 0)), (1, .int t), (2, .int a), (3, .int pl), (4, .int day), (5, .int r1), (7, .int (nI k))]) hx hb dX5_has_117 hl (by decide) rfl (fun ls hl => ?_)
                  refine lv_iinc (v := nI (k + 1)) (lv' := [(7, .int (nI (k + 1))), (6, .int 0), (8, .int 0), (0, .ref (am 0)), (1, .int t), (2, .int a), (3, .int pl), (4, .int day), (5, .int r1)]) hx hb dX5_has_119 hl (k := 8) rfl (xi_inc _) (by decide) rfl (fun ls hl => ?_)
                  refine lv_goto (tgt := 15) hx hb dX5_has_122 (by decide) ?_
                  exact ih15 0 (k + 1) ls (by omega) (by omega) (lv_sub hl [3, 4, 5, 6, 7, 8, 1, 0] rfl) (by rw [hF15]; exact hq15)
              · rw [if_neg c14] at hF15
                have c14f : ¬ F_X5_in day (f 7 k) (f 8 k) = 0 := by rw [← hr13]; exact c14
                refine lv_iconst (v := 1) hx hb dX5_has_79 (by decide) ?_
                refine lv_goto (tgt := 84) hx hb dX5_has_80 (by decide) ?_
                refine lv_istore (lv' := [(8, .int 1), (0, .ref (am 0)), (1, .int t), (2, .int a), (3, .int pl), (4, .int day), (5, .int r1), (6, .int on), (7, .int (nI k))]) hx hb dX5_has_84 hl (by decide) rfl (fun ls hl => ?_)
                refine lv_iload hx hb dX5_has_86 (lv_at hl 7 rfl) ?_
                refine lv_if_ne (tgt := 112) hx hb dX5_has_88 (by decide) (fun c16 => ?_) (fun c16 => ?_)
                · rw [if_neg c16] at hF15
                  refine lv_iconst (v := 1) hx hb dX5_has_112 (by decide) ?_
                  refine lv_goto (tgt := 117) hx hb dX5_has_113 (by decide) ?_
                  refine lv_istore (lv' := [(6, .int 1), (8, .int 1), (0, .ref (am 0)), (1, .int t), (2, .int a), (3, .int pl), (4, .int day), (5, .int r1), (7, .int (nI k))]) hx hb dX5_has_117 hl (by decide) rfl (fun ls hl => ?_)
                  refine lv_iinc (v := nI (k + 1)) (lv' := [(7, .int (nI (k + 1))), (6, .int 1), (8, .int 1), (0, .ref (am 0)), (1, .int t), (2, .int a), (3, .int pl), (4, .int day), (5, .int r1)]) hx hb dX5_has_119 hl (k := 8) rfl (xi_inc _) (by decide) rfl (fun ls hl => ?_)
                  refine lv_goto (tgt := 15) hx hb dX5_has_122 (by decide) ?_
                  exact ih15 1 (k + 1) ls (by omega) (by omega) (lv_sub hl [3, 4, 5, 6, 7, 8, 1, 0] rfl) (by rw [hF15]; exact hq15)
                · rw [if_pos c16] at hF15
                  refine lv_iload hx hb dX5_has_91 (lv_at hl 0 rfl) ?_
                  refine lv_if_eq (tgt := 116) hx hb dX5_has_93 (by decide) (fun c9 => absurd c9 (by decide)) (fun _ => ?_)
                  refine lv_iload hx hb dX5_has_96 (lv_at hl 6 rfl) ?_
                  refine lv_aload_n hx hb dX5_has_98 rfl (lv_at hl 1 rfl) ?_
                  refine va_get (D := (dC, dI)) (ci := 5) (v := .ref (am 5)) (C := RX5) (T := TX5) (N := 25) hx hb hts hinX5 hown hK hP 0 rfl rfl 10 (by decide) hfl22 (fun _ h9 => h9) rfl dX5_has_99 ?_
                  refine lv_iload hx hb dX5_has_102 (lv_at hl 8 rfl) ?_
                  refine xa_ild hx hb hK hP 5 0 rfl rfl (by omega) (by decide) dX5_has_104 ?_
                  refine lv_ishr hx hb dX5_has_105 ?_
                  refine lv_iconst (v := 1) hx hb dX5_has_106 (by decide) ?_
                  refine lv_iand hx hb dX5_has_107 ?_
                  refine lv_iconst (v := 1) hx hb dX5_has_108 (by decide) ?_
                  refine lv_icmp_ne (tgt := 116) hx hb dX5_has_109 (by decide) (fun c17 => ?_) (fun c17 => ?_)
                  · rw [if_neg c17] at hF15
                    refine lv_iconst (v := 0) hx hb dX5_has_116 (by decide) ?_
                    refine lv_istore (lv' := [(6, .int 0), (8, .int 1), (0, .ref (am 0)), (1, .int t), (2, .int a), (3, .int pl), (4, .int day), (5, .int r1), (7, .int (nI k))]) hx hb dX5_has_117 hl (by decide) rfl (fun ls hl => ?_)
                    refine lv_iinc (v := nI (k + 1)) (lv' := [(7, .int (nI (k + 1))), (6, .int 0), (8, .int 1), (0, .ref (am 0)), (1, .int t), (2, .int a), (3, .int pl), (4, .int day), (5, .int r1)]) hx hb dX5_has_119 hl (k := 8) rfl (xi_inc _) (by decide) rfl (fun ls hl => ?_)
                    refine lv_goto (tgt := 15) hx hb dX5_has_122 (by decide) ?_
                    exact ih15 0 (k + 1) ls (by omega) (by omega) (lv_sub hl [3, 4, 5, 6, 7, 8, 1, 0] rfl) (by rw [hF15]; exact hq15)
                  · rw [if_pos c17] at hF15
                    refine lv_iconst (v := 1) hx hb dX5_has_112 (by decide) ?_
                    refine lv_goto (tgt := 117) hx hb dX5_has_113 (by decide) ?_
                    refine lv_istore (lv' := [(6, .int 1), (8, .int 1), (0, .ref (am 0)), (1, .int t), (2, .int a), (3, .int pl), (4, .int day), (5, .int r1), (7, .int (nI k))]) hx hb dX5_has_117 hl (by decide) rfl (fun ls hl => ?_)
                    refine lv_iinc (v := nI (k + 1)) (lv' := [(7, .int (nI (k + 1))), (6, .int 1), (8, .int 1), (0, .ref (am 0)), (1, .int t), (2, .int a), (3, .int pl), (4, .int day), (5, .int r1)]) hx hb dX5_has_119 hl (k := 8) rfl (xi_inc _) (by decide) rfl (fun ls hl => ?_)
                    refine lv_goto (tgt := 15) hx hb dX5_has_122 (by decide) ?_
                    exact ih15 1 (k + 1) ls (by omega) (by omega) (lv_sub hl [3, 4, 5, 6, 7, 8, 1, 0] rfl) (by rw [hF15]; exact hq15)
  refine lp15 (z 1 + 1) 0 0 ls (by omega) (by omega) (lv_sub hl [3, 4, 5, 6, 7, 2, 1, 0] rfl) (fun ls hl => ?_)
  obtain ⟨r18, hr18⟩ : ∃ y, y = (F_X5_has_L15 z v f t a pl day r1 (z 1 + 1) 0 0) := ⟨_, rfl⟩
  rw [← hr18] at hl
  try rw [← hr18] at hF
  refine lv_iload hx hb dX5_has_125 (lv_at hl 6 rfl) ?_
  refine lv_if_eq (tgt := 143) hx hb dX5_has_127 (by decide) (fun c19 => ?_) (fun c19 => ?_)
  · rw [if_pos c19] at hF
    refine lv_iconst (v := 0) hx hb dX5_has_143 (by decide) ?_
    subst hQ9
    exact W.zret (ty := .boolean) hx hb hr rfl (fun t ht hW => ⟨_, rfl, hF, ht⟩) (fun q h => by cases h) dX5_has_144
  · rw [if_neg c19] at hF
    refine lv_aload_n hx hb dX5_has_130 rfl (lv_at hl 0 rfl) ?_
    refine lv_iload_n hx hb dX5_has_131 rfl (lv_at hl 1 rfl) ?_
    refine lv_iload_n hx hb dX5_has_132 rfl (lv_at hl 2 rfl) ?_
    refine vp_callSi (W.runV (As := [.int t, .int a]) (rest := []) ⟨hx, hb, hml, hown, hts⟩ (c_X5_isForbidden l dC dI am cI cZ th z v f t a hok ht) (cwV 2 hts gX5_has_X5_isForbidden rfl rfl rfl (by decide +kernel) ⟨Nat.le_of_ble_eq_true rfl, Nat.le_of_ble_eq_true rfl⟩) (preM (ci := 5) (q0 := 0) hP hK hN rfl rfl rfl) rfl rfl hl.1 rfl (lv_room (Nat.le_of_ble_eq_true rfl)) dX5_has_133 ⟨Nat.zero_le _, Nat.zero_le _⟩) (fun r20 h9 => ?_)
    have hr20 : r20 = F_X5_isForbidden z v f t a := h9
    try rw [← hr20] at hF
    refine lv_if_ne (tgt := 143) hx hb dX5_has_136 (by decide) (fun c21 => ?_) (fun c21 => ?_)
    · rw [if_neg c21] at hF
      have c21f : ¬ F_X5_isForbidden z v f t a = 0 := by rw [← hr20]; exact c21
      refine lv_iconst (v := 0) hx hb dX5_has_143 (by decide) ?_
      subst hQ9
      exact W.zret (ty := .boolean) hx hb hr rfl (fun t ht hW => ⟨_, rfl, hF, ht⟩) (fun q h => by cases h) dX5_has_144
    · rw [if_pos c21] at hF
      have c21f : F_X5_isForbidden z v f t a = 0 := by rw [← hr20]; exact c21
      refine lv_iconst (v := 1) hx hb dX5_has_139 (by decide) ?_
      refine lv_goto (tgt := 144) hx hb dX5_has_140 (by decide) ?_
      subst hQ9
      exact W.zret (ty := .boolean) hx hb hr rfl (fun t ht hW => ⟨_, rfl, hF, ht⟩) (fun q h => by cases h) dX5_has_144
def F_X5_through (z : Nat → Nat) (v : Nat → Int32) (f : Nat → Nat → Int32) (t o di a pl day : Int32) : Int32 :=
  if F_X5_has z v f o a pl day = 0 then
    7
  else
    if F_X5_isAlive z v f o day = 0 then
      6
    else
      if di = 0 then
        if F_X5_has z v f t 0 pl day = 0 then
          5
        else
          0
      else
        0
set_option maxHeartbeats 4000000 in
set_option maxRecDepth 100000 in
theorem c_X5_through (l : Launch) (dC : Nat → ClassId) (dI : Nat → Nat → Nat) (am : Nat → Nat) (cI cZ : ClassId) (th : Int32) (z : Nat → Nat) (v : Nat → Int32) (f : Nat → Nat → Int32) (t o di a pl day : Int32) (hok : okM z v f) (ht : vp_in t 12) (ho : vp_in o 12) : Met l yX5_through wsX5_through ({ frames := 4, cells := 0, slots := 0, locals := 102 }) (va_Pc [.ref (am 0), .int t, .int o, .int di, .int a, .int pl, .int day] (kM dC dI am cI cZ th z v f)) (vp_Si (fun r => r = F_X5_through z v f t o di a pl day)) 0 0 (fun _ => False) := by
  refine Met.ofW (cc := cX5_through) (maxL := 7) (ret := (some .int)) (by decide) rfl ?_
  intro p e s m args below meth c s₁ B hml hv
  obtain ⟨rfl, hP, hK, hN⟩ := hv
  have hx := B.exec
  have hb := B.bytes
  have hr := B.returns
  have hts := atoms_spec (ws := wsX5_through) B.pre
  have hown : s.vm.findClass RX5 = some m.cls := findClass_of_methodNamed B.named
  have hlocks := B.notSynchronized
  have hok9 := hok
  obtain ⟨hz0, hz1, hz2, hz3, hz4, hbz, hbs, hdp, hgv⟩ := hok9
  have hl := lv_entry ([.ref (am 0), .int t, .int o, .int di, .int a, .int pl, .int day]) (n := 7) (Nat.le_of_ble_eq_true rfl)
  rw [lg_entry_eq]
  generalize (lg_sl ([.ref (am 0), .int t, .int o, .int di, .int a, .int pl, .int day]) ++ List.replicate (7 - (lg_sl ([.ref (am 0), .int t, .int o, .int di, .int a, .int pl, .int day])).length) Slot.unset).toArray = ls at hl ⊢
  have hl : lv_has ls 7 [(0, .ref (am 0)), (1, .int t), (2, .int o), (3, .int di), (4, .int a), (5, .int pl), (6, .int day)] := hl
  generalize hF : F_X5_through z v f t o di a pl day = R9
  generalize hQ9 : MQ below (vp_Si (fun r => r = R9)) _ s 0 0 (fun _ => False) = Q9
  rw [F_X5_through] at hF
  refine lv_aload_n hx hb dX5_through_0 rfl (lv_at hl 0 rfl) ?_
  refine lv_iload_n hx hb dX5_through_1 rfl (lv_at hl 2 rfl) ?_
  refine lv_iload hx hb dX5_through_2 (lv_at hl 4 rfl) ?_
  refine lv_iload hx hb dX5_through_4 (lv_at hl 5 rfl) ?_
  refine lv_iload hx hb dX5_through_6 (lv_at hl 6 rfl) ?_
  refine vp_callSi (W.runV (As := [.int o, .int a, .int pl, .int day]) (rest := []) ⟨hx, hb, hml, hown, hts⟩ (c_X5_has l dC dI am cI cZ th z v f o a pl day hok ho) (cwV 4 hts gX5_through_X5_has rfl rfl rfl (by decide +kernel) ⟨Nat.le_of_ble_eq_true rfl, Nat.le_of_ble_eq_true rfl⟩) (preM (ci := 5) (q0 := 0) hP hK hN rfl rfl rfl) rfl rfl hl.1 rfl (lv_room (Nat.le_of_ble_eq_true rfl)) dX5_through_8 ⟨Nat.zero_le _, Nat.zero_le _⟩) (fun r1 h9 => ?_)
  have hr1 : r1 = F_X5_has z v f o a pl day := h9
  try rw [← hr1] at hF
  refine lv_if_ne (tgt := 17) hx hb dX5_through_11 (by decide) (fun c2 => ?_) (fun c2 => ?_)
  · rw [if_neg c2] at hF
    have c2f : ¬ F_X5_has z v f o a pl day = 0 := by rw [← hr1]; exact c2
    refine lv_aload_n hx hb dX5_through_17 rfl (lv_at hl 0 rfl) ?_
    refine lv_iload_n hx hb dX5_through_18 rfl (lv_at hl 2 rfl) ?_
    refine lv_iload hx hb dX5_through_19 (lv_at hl 6 rfl) ?_
    refine vp_callSi (W.runV (As := [.int o, .int day]) (rest := []) ⟨hx, hb, hml, hown, hts⟩ (c_X5_isAlive l dC dI am cI cZ th z v f o day hok ho) (cwV 2 hts gX5_through_X5_isAlive rfl rfl rfl (by decide +kernel) ⟨Nat.le_of_ble_eq_true rfl, Nat.le_of_ble_eq_true rfl⟩) (preM (ci := 5) (q0 := 0) hP hK hN rfl rfl rfl) rfl rfl hl.1 rfl (lv_room (Nat.le_of_ble_eq_true rfl)) dX5_through_21 ⟨Nat.zero_le _, Nat.zero_le _⟩) (fun r3 h9 => ?_)
    have hr3 : r3 = F_X5_isAlive z v f o day := h9
    try rw [← hr3] at hF
    refine lv_if_ne (tgt := 30) hx hb dX5_through_24 (by decide) (fun c4 => ?_) (fun c4 => ?_)
    · rw [if_neg c4] at hF
      have c4f : ¬ F_X5_isAlive z v f o day = 0 := by rw [← hr3]; exact c4
      refine lv_iload_n hx hb dX5_through_30 rfl (lv_at hl 3 rfl) ?_
      refine lv_if_ne (tgt := 47) hx hb dX5_through_31 (by decide) (fun c5 => ?_) (fun c5 => ?_)
      · rw [if_neg c5] at hF
        refine lv_iconst (v := 0) hx hb dX5_through_47 (by decide) ?_
        refine lv_goto (tgt := 52) hx hb dX5_through_48 (by decide) ?_
        subst hQ9
        exact W.iret hx hb hr (fun t ht hW => ⟨_, rfl, hF, ht⟩) (fun q h => by cases h) dX5_through_52
      · rw [if_pos c5] at hF
        refine lv_aload_n hx hb dX5_through_34 rfl (lv_at hl 0 rfl) ?_
        refine lv_iload_n hx hb dX5_through_35 rfl (lv_at hl 1 rfl) ?_
        refine lv_iconst (v := 0) hx hb dX5_through_36 (by decide) ?_
        refine lv_iload hx hb dX5_through_37 (lv_at hl 5 rfl) ?_
        refine lv_iload hx hb dX5_through_39 (lv_at hl 6 rfl) ?_
        refine vp_callSi (W.runV (As := [.int t, .int 0, .int pl, .int day]) (rest := []) ⟨hx, hb, hml, hown, hts⟩ (c_X5_has l dC dI am cI cZ th z v f t 0 pl day hok ht) (cwV 4 hts gX5_through_X5_has rfl rfl rfl (by decide +kernel) ⟨Nat.le_of_ble_eq_true rfl, Nat.le_of_ble_eq_true rfl⟩) (preM (ci := 5) (q0 := 0) hP hK hN rfl rfl rfl) rfl rfl hl.1 rfl (lv_room (Nat.le_of_ble_eq_true rfl)) dX5_through_41 ⟨Nat.zero_le _, Nat.zero_le _⟩) (fun r6 h9 => ?_)
        have hr6 : r6 = F_X5_has z v f t 0 pl day := h9
        try rw [← hr6] at hF
        refine lv_if_eq (tgt := 51) hx hb dX5_through_44 (by decide) (fun c7 => ?_) (fun c7 => ?_)
        · rw [if_pos c7] at hF
          have c7f : F_X5_has z v f t 0 pl day = 0 := by rw [← hr6]; exact c7
          refine lv_iconst (v := 5) hx hb dX5_through_51 (by decide) ?_
          subst hQ9
          exact W.iret hx hb hr (fun t ht hW => ⟨_, rfl, hF, ht⟩) (fun q h => by cases h) dX5_through_52
        · rw [if_neg c7] at hF
          have c7f : ¬ F_X5_has z v f t 0 pl day = 0 := by rw [← hr6]; exact c7
          refine lv_iconst (v := 0) hx hb dX5_through_47 (by decide) ?_
          refine lv_goto (tgt := 52) hx hb dX5_through_48 (by decide) ?_
          subst hQ9
          exact W.iret hx hb hr (fun t ht hW => ⟨_, rfl, hF, ht⟩) (fun q h => by cases h) dX5_through_52
    · rw [if_pos c4] at hF
      have c4f : F_X5_isAlive z v f o day = 0 := by rw [← hr3]; exact c4
      refine lv_bipush (v := 6) hx hb dX5_through_27 (by decide) ?_
      subst hQ9
      exact W.iret hx hb hr (fun t ht hW => ⟨_, rfl, hF, ht⟩) (fun q h => by cases h) dX5_through_29
  · rw [if_pos c2] at hF
    have c2f : F_X5_has z v f o a pl day = 0 := by rw [← hr1]; exact c2
    refine lv_bipush (v := 7) hx hb dX5_through_14 (by decide) ?_
    subst hQ9
    exact W.iret hx hb hr (fun t ht hW => ⟨_, rfl, hF, ht⟩) (fun q h => by cases h) dX5_through_16
end
section
theorem in_depM {z : Nat → Nat} {v : Nat → Int32} {f : Nat → Nat → Int32} {t : Int32} (hok : okM z v f) (h : ¬ F_X5_isTrader z v f t = 0) (h2 : ¬ f 2 t.toNatClampNeg < 0) : vp_in (f 2 t.toNatClampNeg) 12 := by
  obtain ⟨h0, -, -, -, -, -, -, hd, -⟩ := hok
  rw [F_X5_isTrader] at h
  split at h
  · exact absurd rfl h
  · split at h
    · exact absurd rfl h
    · rename_i a1 a2
      obtain ⟨j, hj, rfl⟩ := vp_in_of (in_of a1 a2 (Nat.le_refl _) (by omega)) (by omega)
      rw [nI_clamp (by omega)] at h2 ⊢
      exact (hd j hj).resolve_left h2
def F_X5_answer_L105 (z : Nat → Nat) (v : Nat → Int32) (f : Nat → Nat → Int32) (t a pl day : Int32)  : Nat → Int32 → Nat → Int32
  | 0, le, k => le
  | n105 + 1, le, k =>
    if z 2 ≤ k then
      le
    else
      if f 10 k = t then
        if f 12 k < day then
          if le ≤ 7 then
            F_X5_answer_L105 z v f t a pl day n105 le (k + 1)
          else
            F_X5_answer_L105 z v f t a pl day n105 7 (k + 1)
        else
          if le ≤ F_X5_through z v f t (f 9 k) (f 11 k) a pl day then
            F_X5_answer_L105 z v f t a pl day n105 le (k + 1)
          else
            F_X5_answer_L105 z v f t a pl day n105 (F_X5_through z v f t (f 9 k) (f 11 k) a pl day) (k + 1)
      else
        if le ≤ 7 then
          F_X5_answer_L105 z v f t a pl day n105 le (k + 1)
        else
          F_X5_answer_L105 z v f t a pl day n105 7 (k + 1)
def F_X5_answer (z : Nat → Nat) (v : Nat → Int32) (f : Nat → Nat → Int32) (t a pl day : Int32) : Int32 :=
  if F_X5_isTrader z v f t = 0 then
    1
  else
    if F_X5_isEight a = 0 then
      1
    else
      if F_X5_isEight pl = 0 then
        1
      else
        if F_X5_isDay day = 0 then
          1
        else
          if F_X5_isEnded z v f t day = 0 then
            if F_X5_isSuspended z v f t day = 0 then
              if F_X5_has z v f t a pl day = 0 then
                if f 2 t.toNatClampNeg < 0 then
                  if (F_X5_answer_L105 z v f t a pl day (z 2 + 1) 7 0) ≤ 4 then
                    (F_X5_answer_L105 z v f t a pl day (z 2 + 1) 7 0)
                  else
                    if F_X5_isForbidden z v f t a = 0 then
                      (F_X5_answer_L105 z v f t a pl day (z 2 + 1) 7 0)
                    else
                      4
                else
                  if (F_X5_answer_L105 z v f t a pl day (z 2 + 1) (F_X5_through z v f t (f 2 t.toNatClampNeg) 1 a pl day) 0) ≤ 4 then
                    (F_X5_answer_L105 z v f t a pl day (z 2 + 1) (F_X5_through z v f t (f 2 t.toNatClampNeg) 1 a pl day) 0)
                  else
                    if F_X5_isForbidden z v f t a = 0 then
                      (F_X5_answer_L105 z v f t a pl day (z 2 + 1) (F_X5_through z v f t (f 2 t.toNatClampNeg) 1 a pl day) 0)
                    else
                      4
              else
                0
            else
              3
          else
            2
set_option maxHeartbeats 4000000 in
set_option maxRecDepth 100000 in
theorem c_X5_answer (l : Launch) (dC : Nat → ClassId) (dI : Nat → Nat → Nat) (am : Nat → Nat) (cI cZ : ClassId) (th : Int32) (z : Nat → Nat) (v : Nat → Int32) (f : Nat → Nat → Int32) (t a pl day : Int32) (hok : okM z v f) : Met l yX5_answer wsX5_answer ({ frames := 5, cells := 0, slots := 0, locals := 128 }) (va_Pc [.ref (am 0), .int t, .int a, .int pl, .int day] (kM dC dI am cI cZ th z v f)) (vp_Si (fun r => r = F_X5_answer z v f t a pl day)) 0 0 (fun _ => False) := by
  refine Met.ofW (cc := cX5_answer) (maxL := 8) (ret := (some .int)) (by decide) rfl ?_
  intro p e s m args below meth c s₁ B hml hv
  obtain ⟨rfl, hP, hK, hN⟩ := hv
  have hx := B.exec
  have hb := B.bytes
  have hr := B.returns
  have hts := atoms_spec (ws := wsX5_answer) B.pre
  have hown : s.vm.findClass RX5 = some m.cls := findClass_of_methodNamed B.named
  have hlocks := B.notSynchronized
  have hok9 := hok
  obtain ⟨hz0, hz1, hz2, hz3, hz4, hbz, hbs, hdp, hgv⟩ := hok9
  have hfl111 := hts (.fieldLink RX5 111 "TraderRightsModel" "mandates" "I") (List.mem_of_getElem? (i := 2) rfl)
  have hfl16 := hts (.fieldLink RX5 16 "TraderRightsModel" "deputyOf" "[I") (List.mem_of_getElem? (i := 1) rfl)
  have hfl37 := hts (.fieldLink RX5 37 "TraderRightsModel" "giver" "[I") (List.mem_of_getElem? (i := 5) rfl)
  have hfl40 := hts (.fieldLink RX5 40 "TraderRightsModel" "taker" "[I") (List.mem_of_getElem? (i := 3) rfl)
  have hfl43 := hts (.fieldLink RX5 43 "TraderRightsModel" "isDirect" "[Z") (List.mem_of_getElem? (i := 6) rfl)
  have hfl47 := hts (.fieldLink RX5 47 "TraderRightsModel" "until" "[I") (List.mem_of_getElem? (i := 4) rfl)
  have hinX5 : ∀ w ∈ u_ws RX5 TX5 25, w ∈ wsX5_answer := fun w h => List.mem_cons_of_mem _ (List.mem_append_right _ h)
  have hl := lv_entry ([.ref (am 0), .int t, .int a, .int pl, .int day]) (n := 8) (Nat.le_of_ble_eq_true rfl)
  rw [lg_entry_eq]
  generalize (lg_sl ([.ref (am 0), .int t, .int a, .int pl, .int day]) ++ List.replicate (8 - (lg_sl ([.ref (am 0), .int t, .int a, .int pl, .int day])).length) Slot.unset).toArray = ls at hl ⊢
  have hl : lv_has ls 8 [(0, .ref (am 0)), (1, .int t), (2, .int a), (3, .int pl), (4, .int day)] := hl
  generalize hF : F_X5_answer z v f t a pl day = R9
  generalize hQ9 : MQ below (vp_Si (fun r => r = R9)) _ s 0 0 (fun _ => False) = Q9
  rw [F_X5_answer] at hF
  refine lv_aload_n hx hb dX5_answer_0 rfl (lv_at hl 0 rfl) ?_
  refine lv_iload_n hx hb dX5_answer_1 rfl (lv_at hl 1 rfl) ?_
  refine vp_callSi (W.runV (As := [.int t]) (rest := []) ⟨hx, hb, hml, hown, hts⟩ (c_X5_isTrader l dC dI am cI cZ th z v f t hok) (cwV 1 hts gX5_answer_X5_isTrader rfl rfl rfl (by decide +kernel) ⟨Nat.le_of_ble_eq_true rfl, Nat.le_of_ble_eq_true rfl⟩) (preM (ci := 5) (q0 := 0) hP hK hN rfl rfl rfl) rfl rfl hl.1 rfl (lv_room (Nat.le_of_ble_eq_true rfl)) dX5_answer_2 ⟨Nat.zero_le _, Nat.zero_le _⟩) (fun r1 h9 => ?_)
  have hr1 : r1 = F_X5_isTrader z v f t := h9
  try rw [← hr1] at hF
  refine lv_if_eq (tgt := 30) hx hb dX5_answer_5 (by decide) (fun c2 => ?_) (fun c2 => ?_)
  · rw [if_pos c2] at hF
    have c2f : F_X5_isTrader z v f t = 0 := by rw [← hr1]; exact c2
    refine lv_iconst (v := 1) hx hb dX5_answer_30 (by decide) ?_
    subst hQ9
    exact W.iret hx hb hr (fun t ht hW => ⟨_, rfl, hF, ht⟩) (fun q h => by cases h) dX5_answer_31
  · rw [if_neg c2] at hF
    have c2f : ¬ F_X5_isTrader z v f t = 0 := by rw [← hr1]; exact c2
    refine lv_iload_n hx hb dX5_answer_8 rfl (lv_at hl 2 rfl) ?_
    refine vp_callSi (W.runS (As := [.int a]) (rest := []) ⟨hx, hb, hml, hown, hts⟩ (c_X5_isEight l a) (cwS 1 hts gX5_answer_X5_isEight rfl rfl rfl (by decide +kernel) ⟨Nat.le_of_ble_eq_true rfl, Nat.le_of_ble_eq_true rfl⟩) preT rfl rfl hl.1 rfl (lv_room (Nat.le_of_ble_eq_true rfl)) dX5_answer_9 ⟨Nat.zero_le _, Nat.zero_le _⟩) (fun r3 h9 => ?_)
    have hr3 : r3 = F_X5_isEight a := h9
    try rw [← hr3] at hF
    refine lv_if_eq (tgt := 30) hx hb dX5_answer_12 (by decide) (fun c4 => ?_) (fun c4 => ?_)
    · rw [if_pos c4] at hF
      have c4f : F_X5_isEight a = 0 := by rw [← hr3]; exact c4
      refine lv_iconst (v := 1) hx hb dX5_answer_30 (by decide) ?_
      subst hQ9
      exact W.iret hx hb hr (fun t ht hW => ⟨_, rfl, hF, ht⟩) (fun q h => by cases h) dX5_answer_31
    · rw [if_neg c4] at hF
      have c4f : ¬ F_X5_isEight a = 0 := by rw [← hr3]; exact c4
      refine lv_iload_n hx hb dX5_answer_15 rfl (lv_at hl 3 rfl) ?_
      refine vp_callSi (W.runS (As := [.int pl]) (rest := []) ⟨hx, hb, hml, hown, hts⟩ (c_X5_isEight l pl) (cwS 1 hts gX5_answer_X5_isEight rfl rfl rfl (by decide +kernel) ⟨Nat.le_of_ble_eq_true rfl, Nat.le_of_ble_eq_true rfl⟩) preT rfl rfl hl.1 rfl (lv_room (Nat.le_of_ble_eq_true rfl)) dX5_answer_16 ⟨Nat.zero_le _, Nat.zero_le _⟩) (fun r5 h9 => ?_)
      have hr5 : r5 = F_X5_isEight pl := h9
      try rw [← hr5] at hF
      refine lv_if_eq (tgt := 30) hx hb dX5_answer_19 (by decide) (fun c6 => ?_) (fun c6 => ?_)
      · rw [if_pos c6] at hF
        have c6f : F_X5_isEight pl = 0 := by rw [← hr5]; exact c6
        refine lv_iconst (v := 1) hx hb dX5_answer_30 (by decide) ?_
        subst hQ9
        exact W.iret hx hb hr (fun t ht hW => ⟨_, rfl, hF, ht⟩) (fun q h => by cases h) dX5_answer_31
      · rw [if_neg c6] at hF
        have c6f : ¬ F_X5_isEight pl = 0 := by rw [← hr5]; exact c6
        refine lv_iload hx hb dX5_answer_22 (lv_at hl 4 rfl) ?_
        refine vp_callSi (W.runS (As := [.int day]) (rest := []) ⟨hx, hb, hml, hown, hts⟩ (c_X5_isDay l day) (cwS 1 hts gX5_answer_X5_isDay rfl rfl rfl (by decide +kernel) ⟨Nat.le_of_ble_eq_true rfl, Nat.le_of_ble_eq_true rfl⟩) preT rfl rfl hl.1 rfl (lv_room (Nat.le_of_ble_eq_true rfl)) dX5_answer_24 ⟨Nat.zero_le _, Nat.zero_le _⟩) (fun r7 h9 => ?_)
        have hr7 : r7 = F_X5_isDay day := h9
        try rw [← hr7] at hF
        refine lv_if_ne (tgt := 32) hx hb dX5_answer_27 (by decide) (fun c8 => ?_) (fun c8 => ?_)
        · rw [if_neg c8] at hF
          have c8f : ¬ F_X5_isDay day = 0 := by rw [← hr7]; exact c8
          refine lv_aload_n hx hb dX5_answer_32 rfl (lv_at hl 0 rfl) ?_
          refine lv_iload_n hx hb dX5_answer_33 rfl (lv_at hl 1 rfl) ?_
          refine lv_iload hx hb dX5_answer_34 (lv_at hl 4 rfl) ?_
          refine vp_callSi (W.runV (As := [.int t, .int day]) (rest := []) ⟨hx, hb, hml, hown, hts⟩ (c_X5_isEnded l dC dI am cI cZ th z v f t day hok (in_isTM hok c2f)) (cwV 2 hts gX5_answer_X5_isEnded rfl rfl rfl (by decide +kernel) ⟨Nat.le_of_ble_eq_true rfl, Nat.le_of_ble_eq_true rfl⟩) (preM (ci := 5) (q0 := 0) hP hK hN rfl rfl rfl) rfl rfl hl.1 rfl (lv_room (Nat.le_of_ble_eq_true rfl)) dX5_answer_36 ⟨Nat.zero_le _, Nat.zero_le _⟩) (fun r9 h9 => ?_)
          have hr9 : r9 = F_X5_isEnded z v f t day := h9
          try rw [← hr9] at hF
          refine lv_if_eq (tgt := 44) hx hb dX5_answer_39 (by decide) (fun c10 => ?_) (fun c10 => ?_)
          · rw [if_pos c10] at hF
            have c10f : F_X5_isEnded z v f t day = 0 := by rw [← hr9]; exact c10
            refine lv_aload_n hx hb dX5_answer_44 rfl (lv_at hl 0 rfl) ?_
            refine lv_iload_n hx hb dX5_answer_45 rfl (lv_at hl 1 rfl) ?_
            refine lv_iload hx hb dX5_answer_46 (lv_at hl 4 rfl) ?_
            refine vp_callSi (W.runV (As := [.int t, .int day]) (rest := []) ⟨hx, hb, hml, hown, hts⟩ (c_X5_isSuspended l dC dI am cI cZ th z v f t day hok) (cwV 2 hts gX5_answer_X5_isSuspended rfl rfl rfl (by decide +kernel) ⟨Nat.le_of_ble_eq_true rfl, Nat.le_of_ble_eq_true rfl⟩) (preM (ci := 5) (q0 := 0) hP hK hN rfl rfl rfl) rfl rfl hl.1 rfl (lv_room (Nat.le_of_ble_eq_true rfl)) dX5_answer_48 ⟨Nat.zero_le _, Nat.zero_le _⟩) (fun r11 h9 => ?_)
            have hr11 : r11 = F_X5_isSuspended z v f t day := h9
            try rw [← hr11] at hF
            refine lv_if_eq (tgt := 56) hx hb dX5_answer_51 (by decide) (fun c12 => ?_) (fun c12 => ?_)
            · rw [if_pos c12] at hF
              have c12f : F_X5_isSuspended z v f t day = 0 := by rw [← hr11]; exact c12
              refine lv_aload_n hx hb dX5_answer_56 rfl (lv_at hl 0 rfl) ?_
              refine lv_iload_n hx hb dX5_answer_57 rfl (lv_at hl 1 rfl) ?_
              refine lv_iload_n hx hb dX5_answer_58 rfl (lv_at hl 2 rfl) ?_
              refine lv_iload_n hx hb dX5_answer_59 rfl (lv_at hl 3 rfl) ?_
              refine lv_iload hx hb dX5_answer_60 (lv_at hl 4 rfl) ?_
              refine vp_callSi (W.runV (As := [.int t, .int a, .int pl, .int day]) (rest := []) ⟨hx, hb, hml, hown, hts⟩ (c_X5_has l dC dI am cI cZ th z v f t a pl day hok (in_isTM hok c2f)) (cwV 4 hts gX5_answer_X5_has rfl rfl rfl (by decide +kernel) ⟨Nat.le_of_ble_eq_true rfl, Nat.le_of_ble_eq_true rfl⟩) (preM (ci := 5) (q0 := 0) hP hK hN rfl rfl rfl) rfl rfl hl.1 rfl (lv_room (Nat.le_of_ble_eq_true rfl)) dX5_answer_62 ⟨Nat.zero_le _, Nat.zero_le _⟩) (fun r13 h9 => ?_)
              have hr13 : r13 = F_X5_has z v f t a pl day := h9
              try rw [← hr13] at hF
              refine lv_if_eq (tgt := 70) hx hb dX5_answer_65 (by decide) (fun c14 => ?_) (fun c14 => ?_)
              · rw [if_pos c14] at hF
                have c14f : F_X5_has z v f t a pl day = 0 := by rw [← hr13]; exact c14
                refine lv_aload_n hx hb dX5_answer_70 rfl (lv_at hl 0 rfl) ?_
                refine va_get (D := (dC, dI)) (ci := 5) (v := .ref (am 3)) (C := RX5) (T := TX5) (N := 25) hx hb hts hinX5 hown hK hP 0 rfl rfl 8 (by decide) hfl16 (fun _ h9 => h9) rfl dX5_answer_71 ?_
                refine lv_iload_n hx hb dX5_answer_74 rfl (lv_at hl 1 rfl) ?_
                refine va_iald hx hb hK hP 3 0 rfl rfl (in_isTM hok c2f) dX5_answer_75 ?_
                refine lv_if_lt (tgt := 98) hx hb dX5_answer_76 (by decide) (fun c15 => ?_) (fun c15 => ?_)
                · rw [if_pos c15] at hF
                  refine lv_bipush (v := 7) hx hb dX5_answer_98 (by decide) ?_
                  refine lv_istore (lv' := [(5, .int 7), (0, .ref (am 0)), (1, .int t), (2, .int a), (3, .int pl), (4, .int day)]) hx hb dX5_answer_100 hl (by decide) rfl (fun ls hl => ?_)
                  refine lv_iconst (v := 0) hx hb dX5_answer_102 (by decide) ?_
                  refine lv_istore (lv' := [(6, .int 0), (5, .int 7), (0, .ref (am 0)), (1, .int t), (2, .int a), (3, .int pl), (4, .int day)]) hx hb dX5_answer_103 hl (by decide) rfl (fun ls hl => ?_)
                  have lp105 : ∀ (n105 : Nat) (le : Int32) (k : Nat) (ls : Array Slot), k ≤ z 2 → z 2 < k + n105 → lv_has ls 8 [(0, .ref (am 0)), (1, .int t), (2, .int a), (3, .int pl), (4, .int day), (5, .int le), (6, .int (nI k))] → (∀ ls : Array Slot, lv_has ls 8 [(0, .ref (am 0)), (1, .int t), (2, .int a), (3, .int pl), (4, .int day), (5, .int (F_X5_answer_L105 z v f t a pl day n105 le k))] → W p l e (headSpec wsX5_answer ({ frames := 5, cells := 0, slots := 0, locals := 128 })).room s m ([.ref (am 0), .int t, .int a, .int pl, .int day] : List Value).toArray below meth c s.heap [] 0 0 Q9 (F0 m 189 ls [])) → W p l e (headSpec wsX5_answer ({ frames := 5, cells := 0, slots := 0, locals := 128 })).room s m ([.ref (am 0), .int t, .int a, .int pl, .int day] : List Value).toArray below meth c s.heap [] 0 0 Q9 (F0 m 105 ls []) := by
                    intro n105
                    induction n105 with
                    | zero =>
                      intro le k ls hk105 hn105
                      exact absurd hn105 (by omega)
                    | succ n105 ih105 =>
                      intro le k ls hk105 hn105 hl hq105
                      generalize hF105 : F_X5_answer_L105 z v f t a pl day (n105 + 1) le k = R105 at hq105
                      rw [F_X5_answer_L105] at hF105
                      refine lv_iload hx hb dX5_answer_105 (lv_at hl 6 rfl) ?_
                      refine lv_aload_n hx hb dX5_answer_107 rfl (lv_at hl 0 rfl) ?_
                      refine va_get (D := (dC, dI)) (ci := 5) (v := .int (nI (z 2))) (C := RX5) (T := TX5) (N := 25) hx hb hts hinX5 hown hK hP 0 rfl rfl 3 (by decide) hfl111 (fun _ h9 => h9) rfl dX5_answer_108 ?_
                      refine lv_icmp_ge (tgt := 189) hx hb dX5_answer_111 (by decide) (fun c16 => ?_) (fun c16 => ?_)
                      · have c16 : z 2 ≤ k := (nI_leI (a := z 2) (b := k) (by omega) (by omega)).mp c16
                        rw [if_pos c16] at hF105
                        subst hF105
                        exact hq105 ls (lv_sub hl [0, 1, 2, 3, 4, 5] rfl)
                      · have c16 : ¬ z 2 ≤ k := fun h9 => c16 ((nI_leI (a := z 2) (b := k) (by omega) (by omega)).mpr h9)
                        rw [if_neg c16] at hF105
                        refine lv_aload_n hx hb dX5_answer_114 rfl (lv_at hl 0 rfl) ?_
                        refine va_get (D := (dC, dI)) (ci := 5) (v := .ref (am 11)) (C := RX5) (T := TX5) (N := 25) hx hb hts hinX5 hown hK hP 0 rfl rfl 16 (by decide) hfl40 (fun _ h9 => h9) rfl dX5_answer_115 ?_
                        refine lv_iload hx hb dX5_answer_118 (lv_at hl 6 rfl) ?_
                        refine xa_ild hx hb hK hP 11 0 rfl rfl (by omega) (by decide) dX5_answer_120 ?_
                        refine lv_iload_n hx hb dX5_answer_121 rfl (lv_at hl 1 rfl) ?_
                        refine lv_icmp_ne (tgt := 163) hx hb dX5_answer_122 (by decide) (fun c17 => ?_) (fun c17 => ?_)
                        · rw [if_neg c17] at hF105
                          refine lv_bipush (v := 7) hx hb dX5_answer_163 (by decide) ?_
                          refine lv_istore (lv' := [(7, .int 7), (0, .ref (am 0)), (1, .int t), (2, .int a), (3, .int pl), (4, .int day), (5, .int le), (6, .int (nI k))]) hx hb dX5_answer_165 hl (by decide) rfl (fun ls hl => ?_)
                          refine lv_iload hx hb dX5_answer_167 (lv_at hl 0 rfl) ?_
                          refine lv_iload hx hb dX5_answer_169 (lv_at hl 6 rfl) ?_
                          refine lv_icmp_ge (tgt := 179) hx hb dX5_answer_171 (by decide) (fun c18 => ?_) (fun c18 => ?_)
                          · rw [if_pos c18] at hF105
                            refine lv_iload hx hb dX5_answer_179 (lv_at hl 6 rfl) ?_
                            refine lv_istore (lv' := [(5, .int le), (7, .int 7), (0, .ref (am 0)), (1, .int t), (2, .int a), (3, .int pl), (4, .int day), (6, .int (nI k))]) hx hb dX5_answer_181 hl (by decide) rfl (fun ls hl => ?_)
                            refine lv_iinc (v := nI (k + 1)) (lv' := [(6, .int (nI (k + 1))), (5, .int le), (7, .int 7), (0, .ref (am 0)), (1, .int t), (2, .int a), (3, .int pl), (4, .int day)]) hx hb dX5_answer_183 hl (k := 7) rfl (xi_inc _) (by decide) rfl (fun ls hl => ?_)
                            refine lv_goto (tgt := 105) hx hb dX5_answer_186 (by decide) ?_
                            exact ih105 le (k + 1) ls (by omega) (by omega) (lv_sub hl [3, 4, 5, 6, 7, 1, 0] rfl) (by rw [hF105]; exact hq105)
                          · rw [if_neg c18] at hF105
                            refine lv_iload hx hb dX5_answer_174 (lv_at hl 0 rfl) ?_
                            refine lv_goto (tgt := 181) hx hb dX5_answer_176 (by decide) ?_
                            refine lv_istore (lv' := [(5, .int 7), (7, .int 7), (0, .ref (am 0)), (1, .int t), (2, .int a), (3, .int pl), (4, .int day), (6, .int (nI k))]) hx hb dX5_answer_181 hl (by decide) rfl (fun ls hl => ?_)
                            refine lv_iinc (v := nI (k + 1)) (lv' := [(6, .int (nI (k + 1))), (5, .int 7), (7, .int 7), (0, .ref (am 0)), (1, .int t), (2, .int a), (3, .int pl), (4, .int day)]) hx hb dX5_answer_183 hl (k := 7) rfl (xi_inc _) (by decide) rfl (fun ls hl => ?_)
                            refine lv_goto (tgt := 105) hx hb dX5_answer_186 (by decide) ?_
                            exact ih105 7 (k + 1) ls (by omega) (by omega) (lv_sub hl [3, 4, 5, 6, 7, 1, 0] rfl) (by rw [hF105]; exact hq105)
                        · rw [if_pos c17] at hF105
                          refine lv_aload_n hx hb dX5_answer_125 rfl (lv_at hl 0 rfl) ?_
                          refine va_get (D := (dC, dI)) (ci := 5) (v := .ref (am 13)) (C := RX5) (T := TX5) (N := 25) hx hb hts hinX5 hown hK hP 0 rfl rfl 18 (by decide) hfl47 (fun _ h9 => h9) rfl dX5_answer_126 ?_
                          refine lv_iload hx hb dX5_answer_129 (lv_at hl 6 rfl) ?_
                          refine xa_ild hx hb hK hP 13 0 rfl rfl (by omega) (by decide) dX5_answer_131 ?_
                          refine lv_iload hx hb dX5_answer_132 (lv_at hl 4 rfl) ?_
                          refine lv_icmp_lt (tgt := 163) hx hb dX5_answer_134 (by decide) (fun c19 => ?_) (fun c19 => ?_)
                          · rw [if_pos c19] at hF105
                            refine lv_bipush (v := 7) hx hb dX5_answer_163 (by decide) ?_
                            refine lv_istore (lv' := [(7, .int 7), (0, .ref (am 0)), (1, .int t), (2, .int a), (3, .int pl), (4, .int day), (5, .int le), (6, .int (nI k))]) hx hb dX5_answer_165 hl (by decide) rfl (fun ls hl => ?_)
                            refine lv_iload hx hb dX5_answer_167 (lv_at hl 0 rfl) ?_
                            refine lv_iload hx hb dX5_answer_169 (lv_at hl 6 rfl) ?_
                            refine lv_icmp_ge (tgt := 179) hx hb dX5_answer_171 (by decide) (fun c20 => ?_) (fun c20 => ?_)
                            · rw [if_pos c20] at hF105
                              refine lv_iload hx hb dX5_answer_179 (lv_at hl 6 rfl) ?_
                              refine lv_istore (lv' := [(5, .int le), (7, .int 7), (0, .ref (am 0)), (1, .int t), (2, .int a), (3, .int pl), (4, .int day), (6, .int (nI k))]) hx hb dX5_answer_181 hl (by decide) rfl (fun ls hl => ?_)
                              refine lv_iinc (v := nI (k + 1)) (lv' := [(6, .int (nI (k + 1))), (5, .int le), (7, .int 7), (0, .ref (am 0)), (1, .int t), (2, .int a), (3, .int pl), (4, .int day)]) hx hb dX5_answer_183 hl (k := 7) rfl (xi_inc _) (by decide) rfl (fun ls hl => ?_)
                              refine lv_goto (tgt := 105) hx hb dX5_answer_186 (by decide) ?_
                              exact ih105 le (k + 1) ls (by omega) (by omega) (lv_sub hl [3, 4, 5, 6, 7, 1, 0] rfl) (by rw [hF105]; exact hq105)
                            · rw [if_neg c20] at hF105
                              refine lv_iload hx hb dX5_answer_174 (lv_at hl 0 rfl) ?_
                              refine lv_goto (tgt := 181) hx hb dX5_answer_176 (by decide) ?_
                              refine lv_istore (lv' := [(5, .int 7), (7, .int 7), (0, .ref (am 0)), (1, .int t), (2, .int a), (3, .int pl), (4, .int day), (6, .int (nI k))]) hx hb dX5_answer_181 hl (by decide) rfl (fun ls hl => ?_)
                              refine lv_iinc (v := nI (k + 1)) (lv' := [(6, .int (nI (k + 1))), (5, .int 7), (7, .int 7), (0, .ref (am 0)), (1, .int t), (2, .int a), (3, .int pl), (4, .int day)]) hx hb dX5_answer_183 hl (k := 7) rfl (xi_inc _) (by decide) rfl (fun ls hl => ?_)
                              refine lv_goto (tgt := 105) hx hb dX5_answer_186 (by decide) ?_
                              exact ih105 7 (k + 1) ls (by omega) (by omega) (lv_sub hl [3, 4, 5, 6, 7, 1, 0] rfl) (by rw [hF105]; exact hq105)
                          · rw [if_neg c19] at hF105
                            refine lv_aload_n hx hb dX5_answer_137 rfl (lv_at hl 0 rfl) ?_
                            refine lv_iload_n hx hb dX5_answer_138 rfl (lv_at hl 1 rfl) ?_
                            refine lv_aload_n hx hb dX5_answer_139 rfl (lv_at hl 0 rfl) ?_
                            refine va_get (D := (dC, dI)) (ci := 5) (v := .ref (am 10)) (C := RX5) (T := TX5) (N := 25) hx hb hts hinX5 hown hK hP 0 rfl rfl 15 (by decide) hfl37 (fun _ h9 => h9) rfl dX5_answer_140 ?_
                            refine lv_iload hx hb dX5_answer_143 (lv_at hl 6 rfl) ?_
                            refine xa_ild hx hb hK hP 10 0 rfl rfl (by omega) (by decide) dX5_answer_145 ?_
                            refine lv_aload_n hx hb dX5_answer_146 rfl (lv_at hl 0 rfl) ?_
                            refine va_get (D := (dC, dI)) (ci := 5) (v := .ref (am 12)) (C := RX5) (T := TX5) (N := 25) hx hb hts hinX5 hown hK hP 0 rfl rfl 17 (by decide) hfl43 (fun _ h9 => h9) rfl dX5_answer_147 ?_
                            refine lv_iload hx hb dX5_answer_150 (lv_at hl 6 rfl) ?_
                            refine xa_zld hx hb hK hP 12 1 rfl rfl (by omega) (by decide) dX5_answer_152 ?_
                            refine lv_iload_n hx hb dX5_answer_153 rfl (lv_at hl 2 rfl) ?_
                            refine lv_iload_n hx hb dX5_answer_154 rfl (lv_at hl 3 rfl) ?_
                            refine lv_iload hx hb dX5_answer_155 (lv_at hl 4 rfl) ?_
                            refine vp_callSi (W.runV (As := [.int t, .int (f 9 k), .int (f 11 k), .int a, .int pl, .int day]) (rest := []) ⟨hx, hb, hml, hown, hts⟩ (c_X5_through l dC dI am cI cZ th z v f t (f 9 k) (f 11 k) a pl day hok (in_isTM hok c2f) (hgv _ (by omega))) (cwV 6 hts gX5_answer_X5_through rfl rfl rfl (by decide +kernel) ⟨Nat.le_of_ble_eq_true rfl, Nat.le_of_ble_eq_true rfl⟩) (preM (ci := 5) (q0 := 0) hP hK hN rfl rfl rfl) rfl rfl hl.1 rfl (lv_room (Nat.le_of_ble_eq_true rfl)) dX5_answer_157 ⟨Nat.zero_le _, Nat.zero_le _⟩) (fun r21 h9 => ?_)
                            have hr21 : r21 = F_X5_through z v f t (f 9 k) (f 11 k) a pl day := h9
                            try rw [← hr21] at hF
                            try rw [← hr21] at hF105
                            refine lv_goto (tgt := 165) hx hb dX5_answer_160 (by decide) ?_
                            refine lv_istore (lv' := [(7, .int r21), (0, .ref (am 0)), (1, .int t), (2, .int a), (3, .int pl), (4, .int day), (5, .int le), (6, .int (nI k))]) hx hb dX5_answer_165 hl (by decide) rfl (fun ls hl => ?_)
                            refine lv_iload hx hb dX5_answer_167 (lv_at hl 0 rfl) ?_
                            refine lv_iload hx hb dX5_answer_169 (lv_at hl 6 rfl) ?_
                            refine lv_icmp_ge (tgt := 179) hx hb dX5_answer_171 (by decide) (fun c22 => ?_) (fun c22 => ?_)
                            · rw [if_pos c22] at hF105
                              refine lv_iload hx hb dX5_answer_179 (lv_at hl 6 rfl) ?_
                              refine lv_istore (lv' := [(5, .int le), (7, .int r21), (0, .ref (am 0)), (1, .int t), (2, .int a), (3, .int pl), (4, .int day), (6, .int (nI k))]) hx hb dX5_answer_181 hl (by decide) rfl (fun ls hl => ?_)
                              refine lv_iinc (v := nI (k + 1)) (lv' := [(6, .int (nI (k + 1))), (5, .int le), (7, .int r21), (0, .ref (am 0)), (1, .int t), (2, .int a), (3, .int pl), (4, .int day)]) hx hb dX5_answer_183 hl (k := 7) rfl (xi_inc _) (by decide) rfl (fun ls hl => ?_)
                              refine lv_goto (tgt := 105) hx hb dX5_answer_186 (by decide) ?_
                              exact ih105 le (k + 1) ls (by omega) (by omega) (lv_sub hl [3, 4, 5, 6, 7, 1, 0] rfl) (by rw [hF105]; exact hq105)
                            · rw [if_neg c22] at hF105
                              refine lv_iload hx hb dX5_answer_174 (lv_at hl 0 rfl) ?_
                              refine lv_goto (tgt := 181) hx hb dX5_answer_176 (by decide) ?_
                              refine lv_istore (lv' := [(5, .int r21), (7, .int r21), (0, .ref (am 0)), (1, .int t), (2, .int a), (3, .int pl), (4, .int day), (6, .int (nI k))]) hx hb dX5_answer_181 hl (by decide) rfl (fun ls hl => ?_)
                              refine lv_iinc (v := nI (k + 1)) (lv' := [(6, .int (nI (k + 1))), (5, .int r21), (7, .int r21), (0, .ref (am 0)), (1, .int t), (2, .int a), (3, .int pl), (4, .int day)]) hx hb dX5_answer_183 hl (k := 7) rfl (xi_inc _) (by decide) rfl (fun ls hl => ?_)
                              refine lv_goto (tgt := 105) hx hb dX5_answer_186 (by decide) ?_
                              exact ih105 r21 (k + 1) ls (by omega) (by omega) (lv_sub hl [3, 4, 5, 6, 7, 1, 0] rfl) (by rw [hF105]; exact hq105)
                  refine lp105 (z 2 + 1) 7 0 ls (by omega) (by omega) (lv_sub hl [2, 3, 4, 5, 6, 1, 0] rfl) (fun ls hl => ?_)
                  obtain ⟨r23, hr23⟩ : ∃ y, y = (F_X5_answer_L105 z v f t a pl day (z 2 + 1) 7 0) := ⟨_, rfl⟩
                  rw [← hr23] at hl
                  try rw [← hr23] at hF
                  refine lv_iload hx hb dX5_answer_189 (lv_at hl 5 rfl) ?_
                  refine lv_iconst (v := 4) hx hb dX5_answer_191 (by decide) ?_
                  refine lv_icmp_le (tgt := 208) hx hb dX5_answer_192 (by decide) (fun c24 => ?_) (fun c24 => ?_)
                  · rw [if_pos c24] at hF
                    refine lv_iload hx hb dX5_answer_208 (lv_at hl 5 rfl) ?_
                    subst hQ9
                    exact W.iret hx hb hr (fun t ht hW => ⟨_, rfl, hF, ht⟩) (fun q h => by cases h) dX5_answer_210
                  · rw [if_neg c24] at hF
                    refine lv_aload_n hx hb dX5_answer_195 rfl (lv_at hl 0 rfl) ?_
                    refine lv_iload_n hx hb dX5_answer_196 rfl (lv_at hl 1 rfl) ?_
                    refine lv_iload_n hx hb dX5_answer_197 rfl (lv_at hl 2 rfl) ?_
                    refine vp_callSi (W.runV (As := [.int t, .int a]) (rest := []) ⟨hx, hb, hml, hown, hts⟩ (c_X5_isForbidden l dC dI am cI cZ th z v f t a hok (in_isTM hok c2f)) (cwV 2 hts gX5_answer_X5_isForbidden rfl rfl rfl (by decide +kernel) ⟨Nat.le_of_ble_eq_true rfl, Nat.le_of_ble_eq_true rfl⟩) (preM (ci := 5) (q0 := 0) hP hK hN rfl rfl rfl) rfl rfl hl.1 rfl (lv_room (Nat.le_of_ble_eq_true rfl)) dX5_answer_198 ⟨Nat.zero_le _, Nat.zero_le _⟩) (fun r25 h9 => ?_)
                    have hr25 : r25 = F_X5_isForbidden z v f t a := h9
                    try rw [← hr25] at hF
                    refine lv_if_eq (tgt := 208) hx hb dX5_answer_201 (by decide) (fun c26 => ?_) (fun c26 => ?_)
                    · rw [if_pos c26] at hF
                      have c26f : F_X5_isForbidden z v f t a = 0 := by rw [← hr25]; exact c26
                      refine lv_iload hx hb dX5_answer_208 (lv_at hl 5 rfl) ?_
                      subst hQ9
                      exact W.iret hx hb hr (fun t ht hW => ⟨_, rfl, hF, ht⟩) (fun q h => by cases h) dX5_answer_210
                    · rw [if_neg c26] at hF
                      have c26f : ¬ F_X5_isForbidden z v f t a = 0 := by rw [← hr25]; exact c26
                      refine lv_iconst (v := 4) hx hb dX5_answer_204 (by decide) ?_
                      refine lv_goto (tgt := 210) hx hb dX5_answer_205 (by decide) ?_
                      subst hQ9
                      exact W.iret hx hb hr (fun t ht hW => ⟨_, rfl, hF, ht⟩) (fun q h => by cases h) dX5_answer_210
                · rw [if_neg c15] at hF
                  refine lv_aload_n hx hb dX5_answer_79 rfl (lv_at hl 0 rfl) ?_
                  refine lv_iload_n hx hb dX5_answer_80 rfl (lv_at hl 1 rfl) ?_
                  refine lv_aload_n hx hb dX5_answer_81 rfl (lv_at hl 0 rfl) ?_
                  refine va_get (D := (dC, dI)) (ci := 5) (v := .ref (am 3)) (C := RX5) (T := TX5) (N := 25) hx hb hts hinX5 hown hK hP 0 rfl rfl 8 (by decide) hfl16 (fun _ h9 => h9) rfl dX5_answer_82 ?_
                  refine lv_iload_n hx hb dX5_answer_85 rfl (lv_at hl 1 rfl) ?_
                  refine va_iald hx hb hK hP 3 0 rfl rfl (in_isTM hok c2f) dX5_answer_86 ?_
                  refine lv_iconst (v := 1) hx hb dX5_answer_87 (by decide) ?_
                  refine lv_iload_n hx hb dX5_answer_88 rfl (lv_at hl 2 rfl) ?_
                  refine lv_iload_n hx hb dX5_answer_89 rfl (lv_at hl 3 rfl) ?_
                  refine lv_iload hx hb dX5_answer_90 (lv_at hl 4 rfl) ?_
                  refine vp_callSi (W.runV (As := [.int t, .int (f 2 t.toNatClampNeg), .int 1, .int a, .int pl, .int day]) (rest := []) ⟨hx, hb, hml, hown, hts⟩ (c_X5_through l dC dI am cI cZ th z v f t (f 2 t.toNatClampNeg) 1 a pl day hok (in_isTM hok c2f) (in_depM hok c2f c15)) (cwV 6 hts gX5_answer_X5_through rfl rfl rfl (by decide +kernel) ⟨Nat.le_of_ble_eq_true rfl, Nat.le_of_ble_eq_true rfl⟩) (preM (ci := 5) (q0 := 0) hP hK hN rfl rfl rfl) rfl rfl hl.1 rfl (lv_room (Nat.le_of_ble_eq_true rfl)) dX5_answer_92 ⟨Nat.zero_le _, Nat.zero_le _⟩) (fun r27 h9 => ?_)
                  have hr27 : r27 = F_X5_through z v f t (f 2 t.toNatClampNeg) 1 a pl day := h9
                  try rw [← hr27] at hF
                  refine lv_goto (tgt := 100) hx hb dX5_answer_95 (by decide) ?_
                  refine lv_istore (lv' := [(5, .int r27), (0, .ref (am 0)), (1, .int t), (2, .int a), (3, .int pl), (4, .int day)]) hx hb dX5_answer_100 hl (by decide) rfl (fun ls hl => ?_)
                  refine lv_iconst (v := 0) hx hb dX5_answer_102 (by decide) ?_
                  refine lv_istore (lv' := [(6, .int 0), (5, .int r27), (0, .ref (am 0)), (1, .int t), (2, .int a), (3, .int pl), (4, .int day)]) hx hb dX5_answer_103 hl (by decide) rfl (fun ls hl => ?_)
                  have lp105 : ∀ (n105 : Nat) (le : Int32) (k : Nat) (ls : Array Slot), k ≤ z 2 → z 2 < k + n105 → lv_has ls 8 [(0, .ref (am 0)), (1, .int t), (2, .int a), (3, .int pl), (4, .int day), (5, .int le), (6, .int (nI k))] → (∀ ls : Array Slot, lv_has ls 8 [(0, .ref (am 0)), (1, .int t), (2, .int a), (3, .int pl), (4, .int day), (5, .int (F_X5_answer_L105 z v f t a pl day n105 le k))] → W p l e (headSpec wsX5_answer ({ frames := 5, cells := 0, slots := 0, locals := 128 })).room s m ([.ref (am 0), .int t, .int a, .int pl, .int day] : List Value).toArray below meth c s.heap [] 0 0 Q9 (F0 m 189 ls [])) → W p l e (headSpec wsX5_answer ({ frames := 5, cells := 0, slots := 0, locals := 128 })).room s m ([.ref (am 0), .int t, .int a, .int pl, .int day] : List Value).toArray below meth c s.heap [] 0 0 Q9 (F0 m 105 ls []) := by
                    intro n105
                    induction n105 with
                    | zero =>
                      intro le k ls hk105 hn105
                      exact absurd hn105 (by omega)
                    | succ n105 ih105 =>
                      intro le k ls hk105 hn105 hl hq105
                      generalize hF105 : F_X5_answer_L105 z v f t a pl day (n105 + 1) le k = R105 at hq105
                      rw [F_X5_answer_L105] at hF105
                      refine lv_iload hx hb dX5_answer_105 (lv_at hl 6 rfl) ?_
                      refine lv_aload_n hx hb dX5_answer_107 rfl (lv_at hl 0 rfl) ?_
                      refine va_get (D := (dC, dI)) (ci := 5) (v := .int (nI (z 2))) (C := RX5) (T := TX5) (N := 25) hx hb hts hinX5 hown hK hP 0 rfl rfl 3 (by decide) hfl111 (fun _ h9 => h9) rfl dX5_answer_108 ?_
                      refine lv_icmp_ge (tgt := 189) hx hb dX5_answer_111 (by decide) (fun c28 => ?_) (fun c28 => ?_)
                      · have c28 : z 2 ≤ k := (nI_leI (a := z 2) (b := k) (by omega) (by omega)).mp c28
                        rw [if_pos c28] at hF105
                        subst hF105
                        exact hq105 ls (lv_sub hl [0, 1, 2, 3, 4, 5] rfl)
                      · have c28 : ¬ z 2 ≤ k := fun h9 => c28 ((nI_leI (a := z 2) (b := k) (by omega) (by omega)).mpr h9)
                        rw [if_neg c28] at hF105
                        refine lv_aload_n hx hb dX5_answer_114 rfl (lv_at hl 0 rfl) ?_
                        refine va_get (D := (dC, dI)) (ci := 5) (v := .ref (am 11)) (C := RX5) (T := TX5) (N := 25) hx hb hts hinX5 hown hK hP 0 rfl rfl 16 (by decide) hfl40 (fun _ h9 => h9) rfl dX5_answer_115 ?_
                        refine lv_iload hx hb dX5_answer_118 (lv_at hl 6 rfl) ?_
                        refine xa_ild hx hb hK hP 11 0 rfl rfl (by omega) (by decide) dX5_answer_120 ?_
                        refine lv_iload_n hx hb dX5_answer_121 rfl (lv_at hl 1 rfl) ?_
                        refine lv_icmp_ne (tgt := 163) hx hb dX5_answer_122 (by decide) (fun c29 => ?_) (fun c29 => ?_)
                        · rw [if_neg c29] at hF105
                          refine lv_bipush (v := 7) hx hb dX5_answer_163 (by decide) ?_
                          refine lv_istore (lv' := [(7, .int 7), (0, .ref (am 0)), (1, .int t), (2, .int a), (3, .int pl), (4, .int day), (5, .int le), (6, .int (nI k))]) hx hb dX5_answer_165 hl (by decide) rfl (fun ls hl => ?_)
                          refine lv_iload hx hb dX5_answer_167 (lv_at hl 0 rfl) ?_
                          refine lv_iload hx hb dX5_answer_169 (lv_at hl 6 rfl) ?_
                          refine lv_icmp_ge (tgt := 179) hx hb dX5_answer_171 (by decide) (fun c30 => ?_) (fun c30 => ?_)
                          · rw [if_pos c30] at hF105
                            refine lv_iload hx hb dX5_answer_179 (lv_at hl 6 rfl) ?_
                            refine lv_istore (lv' := [(5, .int le), (7, .int 7), (0, .ref (am 0)), (1, .int t), (2, .int a), (3, .int pl), (4, .int day), (6, .int (nI k))]) hx hb dX5_answer_181 hl (by decide) rfl (fun ls hl => ?_)
                            refine lv_iinc (v := nI (k + 1)) (lv' := [(6, .int (nI (k + 1))), (5, .int le), (7, .int 7), (0, .ref (am 0)), (1, .int t), (2, .int a), (3, .int pl), (4, .int day)]) hx hb dX5_answer_183 hl (k := 7) rfl (xi_inc _) (by decide) rfl (fun ls hl => ?_)
                            refine lv_goto (tgt := 105) hx hb dX5_answer_186 (by decide) ?_
                            exact ih105 le (k + 1) ls (by omega) (by omega) (lv_sub hl [3, 4, 5, 6, 7, 1, 0] rfl) (by rw [hF105]; exact hq105)
                          · rw [if_neg c30] at hF105
                            refine lv_iload hx hb dX5_answer_174 (lv_at hl 0 rfl) ?_
                            refine lv_goto (tgt := 181) hx hb dX5_answer_176 (by decide) ?_
                            refine lv_istore (lv' := [(5, .int 7), (7, .int 7), (0, .ref (am 0)), (1, .int t), (2, .int a), (3, .int pl), (4, .int day), (6, .int (nI k))]) hx hb dX5_answer_181 hl (by decide) rfl (fun ls hl => ?_)
                            refine lv_iinc (v := nI (k + 1)) (lv' := [(6, .int (nI (k + 1))), (5, .int 7), (7, .int 7), (0, .ref (am 0)), (1, .int t), (2, .int a), (3, .int pl), (4, .int day)]) hx hb dX5_answer_183 hl (k := 7) rfl (xi_inc _) (by decide) rfl (fun ls hl => ?_)
                            refine lv_goto (tgt := 105) hx hb dX5_answer_186 (by decide) ?_
                            exact ih105 7 (k + 1) ls (by omega) (by omega) (lv_sub hl [3, 4, 5, 6, 7, 1, 0] rfl) (by rw [hF105]; exact hq105)
                        · rw [if_pos c29] at hF105
                          refine lv_aload_n hx hb dX5_answer_125 rfl (lv_at hl 0 rfl) ?_
                          refine va_get (D := (dC, dI)) (ci := 5) (v := .ref (am 13)) (C := RX5) (T := TX5) (N := 25) hx hb hts hinX5 hown hK hP 0 rfl rfl 18 (by decide) hfl47 (fun _ h9 => h9) rfl dX5_answer_126 ?_
                          refine lv_iload hx hb dX5_answer_129 (lv_at hl 6 rfl) ?_
                          refine xa_ild hx hb hK hP 13 0 rfl rfl (by omega) (by decide) dX5_answer_131 ?_
                          refine lv_iload hx hb dX5_answer_132 (lv_at hl 4 rfl) ?_
                          refine lv_icmp_lt (tgt := 163) hx hb dX5_answer_134 (by decide) (fun c31 => ?_) (fun c31 => ?_)
                          · rw [if_pos c31] at hF105
                            refine lv_bipush (v := 7) hx hb dX5_answer_163 (by decide) ?_
                            refine lv_istore (lv' := [(7, .int 7), (0, .ref (am 0)), (1, .int t), (2, .int a), (3, .int pl), (4, .int day), (5, .int le), (6, .int (nI k))]) hx hb dX5_answer_165 hl (by decide) rfl (fun ls hl => ?_)
                            refine lv_iload hx hb dX5_answer_167 (lv_at hl 0 rfl) ?_
                            refine lv_iload hx hb dX5_answer_169 (lv_at hl 6 rfl) ?_
                            refine lv_icmp_ge (tgt := 179) hx hb dX5_answer_171 (by decide) (fun c32 => ?_) (fun c32 => ?_)
                            · rw [if_pos c32] at hF105
                              refine lv_iload hx hb dX5_answer_179 (lv_at hl 6 rfl) ?_
                              refine lv_istore (lv' := [(5, .int le), (7, .int 7), (0, .ref (am 0)), (1, .int t), (2, .int a), (3, .int pl), (4, .int day), (6, .int (nI k))]) hx hb dX5_answer_181 hl (by decide) rfl (fun ls hl => ?_)
                              refine lv_iinc (v := nI (k + 1)) (lv' := [(6, .int (nI (k + 1))), (5, .int le), (7, .int 7), (0, .ref (am 0)), (1, .int t), (2, .int a), (3, .int pl), (4, .int day)]) hx hb dX5_answer_183 hl (k := 7) rfl (xi_inc _) (by decide) rfl (fun ls hl => ?_)
                              refine lv_goto (tgt := 105) hx hb dX5_answer_186 (by decide) ?_
                              exact ih105 le (k + 1) ls (by omega) (by omega) (lv_sub hl [3, 4, 5, 6, 7, 1, 0] rfl) (by rw [hF105]; exact hq105)
                            · rw [if_neg c32] at hF105
                              refine lv_iload hx hb dX5_answer_174 (lv_at hl 0 rfl) ?_
                              refine lv_goto (tgt := 181) hx hb dX5_answer_176 (by decide) ?_
                              refine lv_istore (lv' := [(5, .int 7), (7, .int 7), (0, .ref (am 0)), (1, .int t), (2, .int a), (3, .int pl), (4, .int day), (6, .int (nI k))]) hx hb dX5_answer_181 hl (by decide) rfl (fun ls hl => ?_)
                              refine lv_iinc (v := nI (k + 1)) (lv' := [(6, .int (nI (k + 1))), (5, .int 7), (7, .int 7), (0, .ref (am 0)), (1, .int t), (2, .int a), (3, .int pl), (4, .int day)]) hx hb dX5_answer_183 hl (k := 7) rfl (xi_inc _) (by decide) rfl (fun ls hl => ?_)
                              refine lv_goto (tgt := 105) hx hb dX5_answer_186 (by decide) ?_
                              exact ih105 7 (k + 1) ls (by omega) (by omega) (lv_sub hl [3, 4, 5, 6, 7, 1, 0] rfl) (by rw [hF105]; exact hq105)
                          · rw [if_neg c31] at hF105
                            refine lv_aload_n hx hb dX5_answer_137 rfl (lv_at hl 0 rfl) ?_
                            refine lv_iload_n hx hb dX5_answer_138 rfl (lv_at hl 1 rfl) ?_
                            refine lv_aload_n hx hb dX5_answer_139 rfl (lv_at hl 0 rfl) ?_
                            refine va_get (D := (dC, dI)) (ci := 5) (v := .ref (am 10)) (C := RX5) (T := TX5) (N := 25) hx hb hts hinX5 hown hK hP 0 rfl rfl 15 (by decide) hfl37 (fun _ h9 => h9) rfl dX5_answer_140 ?_
                            refine lv_iload hx hb dX5_answer_143 (lv_at hl 6 rfl) ?_
                            refine xa_ild hx hb hK hP 10 0 rfl rfl (by omega) (by decide) dX5_answer_145 ?_
                            refine lv_aload_n hx hb dX5_answer_146 rfl (lv_at hl 0 rfl) ?_
                            refine va_get (D := (dC, dI)) (ci := 5) (v := .ref (am 12)) (C := RX5) (T := TX5) (N := 25) hx hb hts hinX5 hown hK hP 0 rfl rfl 17 (by decide) hfl43 (fun _ h9 => h9) rfl dX5_answer_147 ?_
                            refine lv_iload hx hb dX5_answer_150 (lv_at hl 6 rfl) ?_
                            refine xa_zld hx hb hK hP 12 1 rfl rfl (by omega) (by decide) dX5_answer_152 ?_
                            refine lv_iload_n hx hb dX5_answer_153 rfl (lv_at hl 2 rfl) ?_
                            refine lv_iload_n hx hb dX5_answer_154 rfl (lv_at hl 3 rfl) ?_
                            refine lv_iload hx hb dX5_answer_155 (lv_at hl 4 rfl) ?_
                            refine vp_callSi (W.runV (As := [.int t, .int (f 9 k), .int (f 11 k), .int a, .int pl, .int day]) (rest := []) ⟨hx, hb, hml, hown, hts⟩ (c_X5_through l dC dI am cI cZ th z v f t (f 9 k) (f 11 k) a pl day hok (in_isTM hok c2f) (hgv _ (by omega))) (cwV 6 hts gX5_answer_X5_through rfl rfl rfl (by decide +kernel) ⟨Nat.le_of_ble_eq_true rfl, Nat.le_of_ble_eq_true rfl⟩) (preM (ci := 5) (q0 := 0) hP hK hN rfl rfl rfl) rfl rfl hl.1 rfl (lv_room (Nat.le_of_ble_eq_true rfl)) dX5_answer_157 ⟨Nat.zero_le _, Nat.zero_le _⟩) (fun r33 h9 => ?_)
                            have hr33 : r33 = F_X5_through z v f t (f 9 k) (f 11 k) a pl day := h9
                            try rw [← hr33] at hF
                            try rw [← hr33] at hF105
                            refine lv_goto (tgt := 165) hx hb dX5_answer_160 (by decide) ?_
                            refine lv_istore (lv' := [(7, .int r33), (0, .ref (am 0)), (1, .int t), (2, .int a), (3, .int pl), (4, .int day), (5, .int le), (6, .int (nI k))]) hx hb dX5_answer_165 hl (by decide) rfl (fun ls hl => ?_)
                            refine lv_iload hx hb dX5_answer_167 (lv_at hl 0 rfl) ?_
                            refine lv_iload hx hb dX5_answer_169 (lv_at hl 6 rfl) ?_
                            refine lv_icmp_ge (tgt := 179) hx hb dX5_answer_171 (by decide) (fun c34 => ?_) (fun c34 => ?_)
                            · rw [if_pos c34] at hF105
                              refine lv_iload hx hb dX5_answer_179 (lv_at hl 6 rfl) ?_
                              refine lv_istore (lv' := [(5, .int le), (7, .int r33), (0, .ref (am 0)), (1, .int t), (2, .int a), (3, .int pl), (4, .int day), (6, .int (nI k))]) hx hb dX5_answer_181 hl (by decide) rfl (fun ls hl => ?_)
                              refine lv_iinc (v := nI (k + 1)) (lv' := [(6, .int (nI (k + 1))), (5, .int le), (7, .int r33), (0, .ref (am 0)), (1, .int t), (2, .int a), (3, .int pl), (4, .int day)]) hx hb dX5_answer_183 hl (k := 7) rfl (xi_inc _) (by decide) rfl (fun ls hl => ?_)
                              refine lv_goto (tgt := 105) hx hb dX5_answer_186 (by decide) ?_
                              exact ih105 le (k + 1) ls (by omega) (by omega) (lv_sub hl [3, 4, 5, 6, 7, 1, 0] rfl) (by rw [hF105]; exact hq105)
                            · rw [if_neg c34] at hF105
                              refine lv_iload hx hb dX5_answer_174 (lv_at hl 0 rfl) ?_
                              refine lv_goto (tgt := 181) hx hb dX5_answer_176 (by decide) ?_
                              refine lv_istore (lv' := [(5, .int r33), (7, .int r33), (0, .ref (am 0)), (1, .int t), (2, .int a), (3, .int pl), (4, .int day), (6, .int (nI k))]) hx hb dX5_answer_181 hl (by decide) rfl (fun ls hl => ?_)
                              refine lv_iinc (v := nI (k + 1)) (lv' := [(6, .int (nI (k + 1))), (5, .int r33), (7, .int r33), (0, .ref (am 0)), (1, .int t), (2, .int a), (3, .int pl), (4, .int day)]) hx hb dX5_answer_183 hl (k := 7) rfl (xi_inc _) (by decide) rfl (fun ls hl => ?_)
                              refine lv_goto (tgt := 105) hx hb dX5_answer_186 (by decide) ?_
                              exact ih105 r33 (k + 1) ls (by omega) (by omega) (lv_sub hl [3, 4, 5, 6, 7, 1, 0] rfl) (by rw [hF105]; exact hq105)
                  refine lp105 (z 2 + 1) r27 0 ls (by omega) (by omega) (lv_sub hl [2, 3, 4, 5, 6, 1, 0] rfl) (fun ls hl => ?_)
                  obtain ⟨r35, hr35⟩ : ∃ y, y = (F_X5_answer_L105 z v f t a pl day (z 2 + 1) r27 0) := ⟨_, rfl⟩
                  rw [← hr35] at hl
                  try rw [← hr35] at hF
                  refine lv_iload hx hb dX5_answer_189 (lv_at hl 5 rfl) ?_
                  refine lv_iconst (v := 4) hx hb dX5_answer_191 (by decide) ?_
                  refine lv_icmp_le (tgt := 208) hx hb dX5_answer_192 (by decide) (fun c36 => ?_) (fun c36 => ?_)
                  · rw [if_pos c36] at hF
                    refine lv_iload hx hb dX5_answer_208 (lv_at hl 5 rfl) ?_
                    subst hQ9
                    exact W.iret hx hb hr (fun t ht hW => ⟨_, rfl, hF, ht⟩) (fun q h => by cases h) dX5_answer_210
                  · rw [if_neg c36] at hF
                    refine lv_aload_n hx hb dX5_answer_195 rfl (lv_at hl 0 rfl) ?_
                    refine lv_iload_n hx hb dX5_answer_196 rfl (lv_at hl 1 rfl) ?_
                    refine lv_iload_n hx hb dX5_answer_197 rfl (lv_at hl 2 rfl) ?_
                    refine vp_callSi (W.runV (As := [.int t, .int a]) (rest := []) ⟨hx, hb, hml, hown, hts⟩ (c_X5_isForbidden l dC dI am cI cZ th z v f t a hok (in_isTM hok c2f)) (cwV 2 hts gX5_answer_X5_isForbidden rfl rfl rfl (by decide +kernel) ⟨Nat.le_of_ble_eq_true rfl, Nat.le_of_ble_eq_true rfl⟩) (preM (ci := 5) (q0 := 0) hP hK hN rfl rfl rfl) rfl rfl hl.1 rfl (lv_room (Nat.le_of_ble_eq_true rfl)) dX5_answer_198 ⟨Nat.zero_le _, Nat.zero_le _⟩) (fun r37 h9 => ?_)
                    have hr37 : r37 = F_X5_isForbidden z v f t a := h9
                    try rw [← hr37] at hF
                    refine lv_if_eq (tgt := 208) hx hb dX5_answer_201 (by decide) (fun c38 => ?_) (fun c38 => ?_)
                    · rw [if_pos c38] at hF
                      have c38f : F_X5_isForbidden z v f t a = 0 := by rw [← hr37]; exact c38
                      refine lv_iload hx hb dX5_answer_208 (lv_at hl 5 rfl) ?_
                      subst hQ9
                      exact W.iret hx hb hr (fun t ht hW => ⟨_, rfl, hF, ht⟩) (fun q h => by cases h) dX5_answer_210
                    · rw [if_neg c38] at hF
                      have c38f : ¬ F_X5_isForbidden z v f t a = 0 := by rw [← hr37]; exact c38
                      refine lv_iconst (v := 4) hx hb dX5_answer_204 (by decide) ?_
                      refine lv_goto (tgt := 210) hx hb dX5_answer_205 (by decide) ?_
                      subst hQ9
                      exact W.iret hx hb hr (fun t ht hW => ⟨_, rfl, hF, ht⟩) (fun q h => by cases h) dX5_answer_210
              · rw [if_neg c14] at hF
                have c14f : ¬ F_X5_has z v f t a pl day = 0 := by rw [← hr13]; exact c14
                refine lv_iconst (v := 0) hx hb dX5_answer_68 (by decide) ?_
                subst hQ9
                exact W.iret hx hb hr (fun t ht hW => ⟨_, rfl, hF, ht⟩) (fun q h => by cases h) dX5_answer_69
            · rw [if_neg c12] at hF
              have c12f : ¬ F_X5_isSuspended z v f t day = 0 := by rw [← hr11]; exact c12
              refine lv_iconst (v := 3) hx hb dX5_answer_54 (by decide) ?_
              subst hQ9
              exact W.iret hx hb hr (fun t ht hW => ⟨_, rfl, hF, ht⟩) (fun q h => by cases h) dX5_answer_55
          · rw [if_neg c10] at hF
            have c10f : ¬ F_X5_isEnded z v f t day = 0 := by rw [← hr9]; exact c10
            refine lv_iconst (v := 2) hx hb dX5_answer_42 (by decide) ?_
            subst hQ9
            exact W.iret hx hb hr (fun t ht hW => ⟨_, rfl, hF, ht⟩) (fun q h => by cases h) dX5_answer_43
        · rw [if_pos c8] at hF
          have c8f : F_X5_isDay day = 0 := by rw [← hr7]; exact c8
          refine lv_iconst (v := 1) hx hb dX5_answer_30 (by decide) ?_
          subst hQ9
          exact W.iret hx hb hr (fun t ht hW => ⟨_, rfl, hF, ht⟩) (fun q h => by cases h) dX5_answer_31
def F_X5_acts_L18 (z : Nat → Nat) (v : Nat → Int32) (f : Nat → Nat → Int32) (t day : Int32) (nb : Int32) (ac : Nat) : Nat → Int32 → Nat → Int32
  | 0, on, pp => on
  | n18 + 1, on, pp =>
    if 8 ≤ pp then
      on
    else
      if on = 0 then
        if F_X5_has z v f t (nI ac) (nI pp) day = 0 then
          F_X5_acts_L18 z v f t day nb ac n18 0 (pp + 1)
        else
          F_X5_acts_L18 z v f t day nb ac n18 1 (pp + 1)
      else
        F_X5_acts_L18 z v f t day nb ac n18 1 (pp + 1)
def F_X5_acts_L5 (z : Nat → Nat) (v : Nat → Int32) (f : Nat → Nat → Int32) (t day : Int32)  : Nat → Int32 → Nat → Int32
  | 0, nb, ac => nb
  | n5 + 1, nb, ac =>
    if 8 ≤ ac then
      nb
    else
      if (F_X5_acts_L18 z v f t day nb ac (8 + 1) 0 0) = 0 then
        F_X5_acts_L5 z v f t day n5 (nb + 0) (ac + 1)
      else
        F_X5_acts_L5 z v f t day n5 (nb + 1) (ac + 1)
def F_X5_acts (z : Nat → Nat) (v : Nat → Int32) (f : Nat → Nat → Int32) (t day : Int32) : Int32 :=
  (F_X5_acts_L5 z v f t day (8 + 1) 0 0)
set_option maxHeartbeats 4000000 in
set_option maxRecDepth 100000 in
theorem c_X5_acts (l : Launch) (dC : Nat → ClassId) (dI : Nat → Nat → Nat) (am : Nat → Nat) (cI cZ : ClassId) (th : Int32) (z : Nat → Nat) (v : Nat → Int32) (f : Nat → Nat → Int32) (t day : Int32) (hok : okM z v f) (ht : vp_in t 12) : Met l yX5_acts wsX5_acts ({ frames := 4, cells := 0, slots := 0, locals := 102 }) (va_Pc [.ref (am 0), .int t, .int day] (kM dC dI am cI cZ th z v f)) (vp_Si (fun r => r = F_X5_acts z v f t day)) 0 0 (fun _ => False) := by
  refine Met.ofW (cc := cX5_acts) (maxL := 7) (ret := (some .int)) (by decide) rfl ?_
  intro p e s m args below meth c s₁ B hml hv
  obtain ⟨rfl, hP, hK, hN⟩ := hv
  have hx := B.exec
  have hb := B.bytes
  have hr := B.returns
  have hts := atoms_spec (ws := wsX5_acts) B.pre
  have hown : s.vm.findClass RX5 = some m.cls := findClass_of_methodNamed B.named
  have hlocks := B.notSynchronized
  have hok9 := hok
  obtain ⟨hz0, hz1, hz2, hz3, hz4, hbz, hbs, hdp, hgv⟩ := hok9
  have hl := lv_entry ([.ref (am 0), .int t, .int day]) (n := 7) (Nat.le_of_ble_eq_true rfl)
  rw [lg_entry_eq]
  generalize (lg_sl ([.ref (am 0), .int t, .int day]) ++ List.replicate (7 - (lg_sl ([.ref (am 0), .int t, .int day])).length) Slot.unset).toArray = ls at hl ⊢
  have hl : lv_has ls 7 [(0, .ref (am 0)), (1, .int t), (2, .int day)] := hl
  generalize hF : F_X5_acts z v f t day = R9
  generalize hQ9 : MQ below (vp_Si (fun r => r = R9)) _ s 0 0 (fun _ => False) = Q9
  rw [F_X5_acts] at hF
  refine lv_iconst (v := 0) hx hb dX5_acts_0 (by decide) ?_
  refine lv_istore_n (lv' := [(3, .int 0), (0, .ref (am 0)), (1, .int t), (2, .int day)]) hx hb dX5_acts_1 rfl hl (by decide) rfl (fun ls hl => ?_)
  refine lv_iconst (v := 0) hx hb dX5_acts_2 (by decide) ?_
  refine lv_istore (lv' := [(4, .int 0), (3, .int 0), (0, .ref (am 0)), (1, .int t), (2, .int day)]) hx hb dX5_acts_3 hl (by decide) rfl (fun ls hl => ?_)
  have lp5 : ∀ (n5 : Nat) (nb : Int32) (ac : Nat) (ls : Array Slot), ac ≤ 8 → 8 < ac + n5 → lv_has ls 7 [(0, .ref (am 0)), (1, .int t), (2, .int day), (3, .int nb), (4, .int (nI ac))] → (∀ ls : Array Slot, lv_has ls 7 [(0, .ref (am 0)), (1, .int t), (2, .int day), (3, .int (F_X5_acts_L5 z v f t day n5 nb ac))] → W p l e (headSpec wsX5_acts ({ frames := 4, cells := 0, slots := 0, locals := 102 })).room s m ([.ref (am 0), .int t, .int day] : List Value).toArray below meth c s.heap [] 0 0 Q9 (F0 m 75 ls [])) → W p l e (headSpec wsX5_acts ({ frames := 4, cells := 0, slots := 0, locals := 102 })).room s m ([.ref (am 0), .int t, .int day] : List Value).toArray below meth c s.heap [] 0 0 Q9 (F0 m 5 ls []) := by
    intro n5
    induction n5 with
    | zero =>
      intro nb ac ls hk5 hn5
      exact absurd hn5 (by omega)
    | succ n5 ih5 =>
      intro nb ac ls hk5 hn5 hl hq5
      generalize hF5 : F_X5_acts_L5 z v f t day (n5 + 1) nb ac = R5 at hq5
      rw [F_X5_acts_L5] at hF5
      refine lv_iload hx hb dX5_acts_5 (lv_at hl 4 rfl) ?_
      refine lv_bipush (v := 8) hx hb dX5_acts_7 (by decide) ?_
      refine lv_icmp_ge (tgt := 75) hx hb dX5_acts_9 (by decide) (fun c1 => ?_) (fun c1 => ?_)
      · have c1 : 8 ≤ ac := (nI_leI (a := 8) (b := ac) (by omega) (by omega)).mp c1
        rw [if_pos c1] at hF5
        subst hF5
        exact hq5 ls (lv_sub hl [0, 1, 2, 3] rfl)
      · have c1 : ¬ 8 ≤ ac := fun h9 => c1 ((nI_leI (a := 8) (b := ac) (by omega) (by omega)).mpr h9)
        rw [if_neg c1] at hF5
        refine lv_iconst (v := 0) hx hb dX5_acts_12 (by decide) ?_
        refine lv_istore (lv' := [(5, .int 0), (0, .ref (am 0)), (1, .int t), (2, .int day), (3, .int nb), (4, .int (nI ac))]) hx hb dX5_acts_13 hl (by decide) rfl (fun ls hl => ?_)
        refine lv_iconst (v := 0) hx hb dX5_acts_15 (by decide) ?_
        refine lv_istore (lv' := [(6, .int 0), (5, .int 0), (0, .ref (am 0)), (1, .int t), (2, .int day), (3, .int nb), (4, .int (nI ac))]) hx hb dX5_acts_16 hl (by decide) rfl (fun ls hl => ?_)
        have lp18 : ∀ (n18 : Nat) (on : Int32) (pp : Nat) (ls : Array Slot), pp ≤ 8 → 8 < pp + n18 → lv_has ls 7 [(0, .ref (am 0)), (1, .int t), (2, .int day), (3, .int nb), (4, .int (nI ac)), (5, .int on), (6, .int (nI pp))] → (∀ ls : Array Slot, lv_has ls 7 [(0, .ref (am 0)), (1, .int t), (2, .int day), (3, .int nb), (4, .int (nI ac)), (5, .int (F_X5_acts_L18 z v f t day nb ac n18 on pp))] → W p l e (headSpec wsX5_acts ({ frames := 4, cells := 0, slots := 0, locals := 102 })).room s m ([.ref (am 0), .int t, .int day] : List Value).toArray below meth c s.heap [] 0 0 Q9 (F0 m 56 ls [])) → W p l e (headSpec wsX5_acts ({ frames := 4, cells := 0, slots := 0, locals := 102 })).room s m ([.ref (am 0), .int t, .int day] : List Value).toArray below meth c s.heap [] 0 0 Q9 (F0 m 18 ls []) := by
          intro n18
          induction n18 with
          | zero =>
            intro on pp ls hk18 hn18
            exact absurd hn18 (by omega)
          | succ n18 ih18 =>
            intro on pp ls hk18 hn18 hl hq18
            generalize hF18 : F_X5_acts_L18 z v f t day nb ac (n18 + 1) on pp = R18 at hq18
            rw [F_X5_acts_L18] at hF18
            refine lv_iload hx hb dX5_acts_18 (lv_at hl 6 rfl) ?_
            refine lv_bipush (v := 8) hx hb dX5_acts_20 (by decide) ?_
            refine lv_icmp_ge (tgt := 56) hx hb dX5_acts_22 (by decide) (fun c2 => ?_) (fun c2 => ?_)
            · have c2 : 8 ≤ pp := (nI_leI (a := 8) (b := pp) (by omega) (by omega)).mp c2
              rw [if_pos c2] at hF18
              subst hF18
              exact hq18 ls (lv_sub hl [0, 1, 2, 3, 4, 5] rfl)
            · have c2 : ¬ 8 ≤ pp := fun h9 => c2 ((nI_leI (a := 8) (b := pp) (by omega) (by omega)).mpr h9)
              rw [if_neg c2] at hF18
              refine lv_iload hx hb dX5_acts_25 (lv_at hl 5 rfl) ?_
              refine lv_if_ne (tgt := 43) hx hb dX5_acts_27 (by decide) (fun c3 => ?_) (fun c3 => ?_)
              · rw [if_neg c3] at hF18
                refine lv_iconst (v := 1) hx hb dX5_acts_43 (by decide) ?_
                refine lv_goto (tgt := 48) hx hb dX5_acts_44 (by decide) ?_
                refine lv_istore (lv' := [(5, .int 1), (0, .ref (am 0)), (1, .int t), (2, .int day), (3, .int nb), (4, .int (nI ac)), (6, .int (nI pp))]) hx hb dX5_acts_48 hl (by decide) rfl (fun ls hl => ?_)
                refine lv_iinc (v := nI (pp + 1)) (lv' := [(6, .int (nI (pp + 1))), (5, .int 1), (0, .ref (am 0)), (1, .int t), (2, .int day), (3, .int nb), (4, .int (nI ac))]) hx hb dX5_acts_50 hl (k := 6) rfl (xi_inc _) (by decide) rfl (fun ls hl => ?_)
                refine lv_goto (tgt := 18) hx hb dX5_acts_53 (by decide) ?_
                exact ih18 1 (pp + 1) ls (by omega) (by omega) (lv_sub hl [2, 3, 4, 5, 6, 1, 0] rfl) (by rw [hF18]; exact hq18)
              · rw [if_pos c3] at hF18
                refine lv_aload_n hx hb dX5_acts_30 rfl (lv_at hl 0 rfl) ?_
                refine lv_iload_n hx hb dX5_acts_31 rfl (lv_at hl 1 rfl) ?_
                refine lv_iload hx hb dX5_acts_32 (lv_at hl 4 rfl) ?_
                refine lv_iload hx hb dX5_acts_34 (lv_at hl 6 rfl) ?_
                refine lv_iload_n hx hb dX5_acts_36 rfl (lv_at hl 2 rfl) ?_
                refine vp_callSi (W.runV (As := [.int t, .int (nI ac), .int (nI pp), .int day]) (rest := []) ⟨hx, hb, hml, hown, hts⟩ (c_X5_has l dC dI am cI cZ th z v f t (nI ac) (nI pp) day hok ht) (cwV 4 hts gX5_acts_X5_has rfl rfl rfl (by decide +kernel) ⟨Nat.le_of_ble_eq_true rfl, Nat.le_of_ble_eq_true rfl⟩) (preM (ci := 5) (q0 := 0) hP hK hN rfl rfl rfl) rfl rfl hl.1 rfl (lv_room (Nat.le_of_ble_eq_true rfl)) dX5_acts_37 ⟨Nat.zero_le _, Nat.zero_le _⟩) (fun r4 h9 => ?_)
                have hr4 : r4 = F_X5_has z v f t (nI ac) (nI pp) day := h9
                try rw [← hr4] at hF
                try rw [← hr4] at hF5
                try rw [← hr4] at hF18
                refine lv_if_eq (tgt := 47) hx hb dX5_acts_40 (by decide) (fun c5 => ?_) (fun c5 => ?_)
                · rw [if_pos c5] at hF18
                  have c5f : F_X5_has z v f t (nI ac) (nI pp) day = 0 := by rw [← hr4]; exact c5
                  refine lv_iconst (v := 0) hx hb dX5_acts_47 (by decide) ?_
                  refine lv_istore (lv' := [(5, .int 0), (0, .ref (am 0)), (1, .int t), (2, .int day), (3, .int nb), (4, .int (nI ac)), (6, .int (nI pp))]) hx hb dX5_acts_48 hl (by decide) rfl (fun ls hl => ?_)
                  refine lv_iinc (v := nI (pp + 1)) (lv' := [(6, .int (nI (pp + 1))), (5, .int 0), (0, .ref (am 0)), (1, .int t), (2, .int day), (3, .int nb), (4, .int (nI ac))]) hx hb dX5_acts_50 hl (k := 6) rfl (xi_inc _) (by decide) rfl (fun ls hl => ?_)
                  refine lv_goto (tgt := 18) hx hb dX5_acts_53 (by decide) ?_
                  exact ih18 0 (pp + 1) ls (by omega) (by omega) (lv_sub hl [2, 3, 4, 5, 6, 1, 0] rfl) (by rw [hF18]; exact hq18)
                · rw [if_neg c5] at hF18
                  have c5f : ¬ F_X5_has z v f t (nI ac) (nI pp) day = 0 := by rw [← hr4]; exact c5
                  refine lv_iconst (v := 1) hx hb dX5_acts_43 (by decide) ?_
                  refine lv_goto (tgt := 48) hx hb dX5_acts_44 (by decide) ?_
                  refine lv_istore (lv' := [(5, .int 1), (0, .ref (am 0)), (1, .int t), (2, .int day), (3, .int nb), (4, .int (nI ac)), (6, .int (nI pp))]) hx hb dX5_acts_48 hl (by decide) rfl (fun ls hl => ?_)
                  refine lv_iinc (v := nI (pp + 1)) (lv' := [(6, .int (nI (pp + 1))), (5, .int 1), (0, .ref (am 0)), (1, .int t), (2, .int day), (3, .int nb), (4, .int (nI ac))]) hx hb dX5_acts_50 hl (k := 6) rfl (xi_inc _) (by decide) rfl (fun ls hl => ?_)
                  refine lv_goto (tgt := 18) hx hb dX5_acts_53 (by decide) ?_
                  exact ih18 1 (pp + 1) ls (by omega) (by omega) (lv_sub hl [2, 3, 4, 5, 6, 1, 0] rfl) (by rw [hF18]; exact hq18)
        refine lp18 (8 + 1) 0 0 ls (by omega) (by omega) (lv_sub hl [2, 3, 4, 5, 6, 1, 0] rfl) (fun ls hl => ?_)
        obtain ⟨r6, hr6⟩ : ∃ y, y = (F_X5_acts_L18 z v f t day nb ac (8 + 1) 0 0) := ⟨_, rfl⟩
        rw [← hr6] at hl
        try rw [← hr6] at hF
        try rw [← hr6] at hF5
        refine lv_iload_n hx hb dX5_acts_56 rfl (lv_at hl 3 rfl) ?_
        refine lv_iload hx hb dX5_acts_57 (lv_at hl 5 rfl) ?_
        refine lv_if_eq (tgt := 66) hx hb dX5_acts_59 (by decide) (fun c7 => ?_) (fun c7 => ?_)
        · rw [if_pos c7] at hF5
          refine lv_iconst (v := 0) hx hb dX5_acts_66 (by decide) ?_
          refine lv_iadd hx hb dX5_acts_67 ?_
          refine lv_istore_n (lv' := [(3, .int (nb + 0)), (0, .ref (am 0)), (1, .int t), (2, .int day), (4, .int (nI ac)), (5, .int r6)]) hx hb dX5_acts_68 rfl hl (by decide) rfl (fun ls hl => ?_)
          refine lv_iinc (v := nI (ac + 1)) (lv' := [(4, .int (nI (ac + 1))), (3, .int (nb + 0)), (0, .ref (am 0)), (1, .int t), (2, .int day), (5, .int r6)]) hx hb dX5_acts_69 hl (k := 4) rfl (xi_inc _) (by decide) rfl (fun ls hl => ?_)
          refine lv_goto (tgt := 5) hx hb dX5_acts_72 (by decide) ?_
          exact ih5 (nb + 0) (ac + 1) ls (by omega) (by omega) (lv_sub hl [2, 3, 4, 1, 0] rfl) (by rw [hF5]; exact hq5)
        · rw [if_neg c7] at hF5
          refine lv_iconst (v := 1) hx hb dX5_acts_62 (by decide) ?_
          refine lv_goto (tgt := 67) hx hb dX5_acts_63 (by decide) ?_
          refine lv_iadd hx hb dX5_acts_67 ?_
          refine lv_istore_n (lv' := [(3, .int (nb + 1)), (0, .ref (am 0)), (1, .int t), (2, .int day), (4, .int (nI ac)), (5, .int r6)]) hx hb dX5_acts_68 rfl hl (by decide) rfl (fun ls hl => ?_)
          refine lv_iinc (v := nI (ac + 1)) (lv' := [(4, .int (nI (ac + 1))), (3, .int (nb + 1)), (0, .ref (am 0)), (1, .int t), (2, .int day), (5, .int r6)]) hx hb dX5_acts_69 hl (k := 4) rfl (xi_inc _) (by decide) rfl (fun ls hl => ?_)
          refine lv_goto (tgt := 5) hx hb dX5_acts_72 (by decide) ?_
          exact ih5 (nb + 1) (ac + 1) ls (by omega) (by omega) (lv_sub hl [2, 3, 4, 1, 0] rfl) (by rw [hF5]; exact hq5)
  refine lp5 (8 + 1) 0 0 ls (by omega) (by omega) (lv_sub hl [2, 3, 4, 1, 0] rfl) (fun ls hl => ?_)
  obtain ⟨r8, hr8⟩ : ∃ y, y = (F_X5_acts_L5 z v f t day (8 + 1) 0 0) := ⟨_, rfl⟩
  rw [← hr8] at hl
  try rw [← hr8] at hF
  refine lv_iload_n hx hb dX5_acts_75 rfl (lv_at hl 3 rfl) ?_
  subst hQ9
  exact W.iret hx hb hr (fun t ht hW => ⟨_, rfl, hF, ht⟩) (fun q h => by cases h) dX5_acts_76
end
