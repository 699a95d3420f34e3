section
-- ===== PART A: goes FIRST, ahead of the names: the tables' words, and 'selects' of the private methods out of them =====
/-- a private method of a class that the tables say can be made, by its rows of tables_1 -/
def lw_okq (q : MethodName × Nat) : Prop := (q.1.cls ≠ "java/lang/invoke/MethodHandle" ∧ q.1.cls ≠ "java/lang/invoke/VarHandle") ∧ Cond.instantiable q.1.cls q.2 ∈ tables_1 ∧ Cond.privateMethod q.1 ∈ tables_1 ∧ Cond.instanceMethod q.1 ∈ tables_1
theorem lw_p0 : lw_okq (⟨"java/lang/Throwable", "fillInStackTrace", "(I)Ljava/lang/Throwable;"⟩, 6) := ⟨⟨by decide +kernel, by decide +kernel⟩, List.mem_of_getElem? (i := 173) (by decide +kernel), List.mem_of_getElem? (i := 171) (by decide +kernel), List.mem_of_getElem? (i := 172) (by decide +kernel)⟩
theorem lw_p1 : lw_okq (⟨"Mutualledger", "needShop", "(I)V"⟩, 9) := ⟨⟨by decide +kernel, by decide +kernel⟩, List.mem_of_getElem? (i := 15) (by decide +kernel), List.mem_of_getElem? (i := 211) (by decide +kernel), List.mem_of_getElem? (i := 212) (by decide +kernel)⟩
theorem lw_p2 : lw_okq (⟨"Mutualledger", "isShop", "(I)Z"⟩, 9) := ⟨⟨by decide +kernel, by decide +kernel⟩, List.mem_of_getElem? (i := 15) (by decide +kernel), List.mem_of_getElem? (i := 215) (by decide +kernel), List.mem_of_getElem? (i := 216) (by decide +kernel)⟩
theorem lw_p3 : lw_okq (⟨"Mutualledger", "wasShop", "(I)Z"⟩, 9) := ⟨⟨by decide +kernel, by decide +kernel⟩, List.mem_of_getElem? (i := 15) (by decide +kernel), List.mem_of_getElem? (i := 219) (by decide +kernel), List.mem_of_getElem? (i := 220) (by decide +kernel)⟩
theorem lw_p4 : lw_okq (⟨"Mutualledger$Table", "placeOf", "(II)I"⟩, 3) := ⟨⟨by decide +kernel, by decide +kernel⟩, List.mem_of_getElem? (i := 23) (by decide +kernel), List.mem_of_getElem? (i := 227) (by decide +kernel), List.mem_of_getElem? (i := 228) (by decide +kernel)⟩
theorem lw_p5 : lw_okq (⟨"Mutualledger$Trades", "isOf", "(II)Z"⟩, 2) := ⟨⟨by decide +kernel, by decide +kernel⟩, List.mem_of_getElem? (i := 46) (by decide +kernel), List.mem_of_getElem? (i := 251) (by decide +kernel), List.mem_of_getElem? (i := 252) (by decide +kernel)⟩
theorem lw_p6 : lw_okq (⟨"Mutualledger", "passDebtsThrough", "(I)V"⟩, 9) := ⟨⟨by decide +kernel, by decide +kernel⟩, List.mem_of_getElem? (i := 15) (by decide +kernel), List.mem_of_getElem? (i := 261) (by decide +kernel), List.mem_of_getElem? (i := 262) (by decide +kernel)⟩
theorem lw_p7 : lw_okq (⟨"Mutualledger", "takeOver", "(IIII)V"⟩, 9) := ⟨⟨by decide +kernel, by decide +kernel⟩, List.mem_of_getElem? (i := 15) (by decide +kernel), List.mem_of_getElem? (i := 284) (by decide +kernel), List.mem_of_getElem? (i := 285) (by decide +kernel)⟩
theorem lw_p8 : lw_okq (⟨"Mutualledger", "letGuarantorsPay", "(I)V"⟩, 9) := ⟨⟨by decide +kernel, by decide +kernel⟩, List.mem_of_getElem? (i := 15) (by decide +kernel), List.mem_of_getElem? (i := 288) (by decide +kernel), List.mem_of_getElem? (i := 289) (by decide +kernel)⟩
theorem lw_p9 : lw_okq (⟨"Mutualledger", "oweInGoodsBy", "(I)I"⟩, 9) := ⟨⟨by decide +kernel, by decide +kernel⟩, List.mem_of_getElem? (i := 15) (by decide +kernel), List.mem_of_getElem? (i := 293) (by decide +kernel), List.mem_of_getElem? (i := 294) (by decide +kernel)⟩
theorem lw_p10 : lw_okq (⟨"Mutualledger", "oweInGoodsTo", "(I)I"⟩, 9) := ⟨⟨by decide +kernel, by decide +kernel⟩, List.mem_of_getElem? (i := 15) (by decide +kernel), List.mem_of_getElem? (i := 297) (by decide +kernel), List.mem_of_getElem? (i := 298) (by decide +kernel)⟩
theorem lw_p11 : lw_okq (⟨"Mutualledger", "needBearable", "(II)V"⟩, 9) := ⟨⟨by decide +kernel, by decide +kernel⟩, List.mem_of_getElem? (i := 15) (by decide +kernel), List.mem_of_getElem? (i := 342) (by decide +kernel), List.mem_of_getElem? (i := 343) (by decide +kernel)⟩
theorem lw_p12 : lw_okq (⟨"Mutualledger", "limitOf", "(I)I"⟩, 9) := ⟨⟨by decide +kernel, by decide +kernel⟩, List.mem_of_getElem? (i := 15) (by decide +kernel), List.mem_of_getElem? (i := 358) (by decide +kernel), List.mem_of_getElem? (i := 359) (by decide +kernel)⟩
theorem lw_p13 : lw_okq (⟨"Mutualledger", "needTrade", "(I)V"⟩, 9) := ⟨⟨by decide +kernel, by decide +kernel⟩, List.mem_of_getElem? (i := 15) (by decide +kernel), List.mem_of_getElem? (i := 381) (by decide +kernel), List.mem_of_getElem? (i := 382) (by decide +kernel)⟩
theorem lw_p14 : lw_okq (⟨"Mutualledger", "needGuaranteeArguments", "(III)V"⟩, 9) := ⟨⟨by decide +kernel, by decide +kernel⟩, List.mem_of_getElem? (i := 15) (by decide +kernel), List.mem_of_getElem? (i := 419) (by decide +kernel), List.mem_of_getElem? (i := 420) (by decide +kernel)⟩
theorem lw_p15 : lw_okq (⟨"Mutualledger$Rings", "find", "(LMutualledger$Debts;)Z"⟩, 2) := ⟨⟨by decide +kernel, by decide +kernel⟩, List.mem_of_getElem? (i := 76) (by decide +kernel), List.mem_of_getElem? (i := 450) (by decide +kernel), List.mem_of_getElem? (i := 451) (by decide +kernel)⟩
def lw_privs_1 : List (MethodName × Nat) := [(⟨"java/lang/Throwable", "fillInStackTrace", "(I)Ljava/lang/Throwable;"⟩, 6), (⟨"Mutualledger", "needShop", "(I)V"⟩, 9), (⟨"Mutualledger", "isShop", "(I)Z"⟩, 9), (⟨"Mutualledger", "wasShop", "(I)Z"⟩, 9), (⟨"Mutualledger$Table", "placeOf", "(II)I"⟩, 3), (⟨"Mutualledger$Trades", "isOf", "(II)Z"⟩, 2), (⟨"Mutualledger", "passDebtsThrough", "(I)V"⟩, 9), (⟨"Mutualledger", "takeOver", "(IIII)V"⟩, 9), (⟨"Mutualledger", "letGuarantorsPay", "(I)V"⟩, 9), (⟨"Mutualledger", "oweInGoodsBy", "(I)I"⟩, 9), (⟨"Mutualledger", "oweInGoodsTo", "(I)I"⟩, 9), (⟨"Mutualledger", "needBearable", "(II)V"⟩, 9), (⟨"Mutualledger", "limitOf", "(I)I"⟩, 9), (⟨"Mutualledger", "needTrade", "(I)V"⟩, 9), (⟨"Mutualledger", "needGuaranteeArguments", "(III)V"⟩, 9), (⟨"Mutualledger$Rings", "find", "(LMutualledger$Debts;)Z"⟩, 2)]
theorem lw_r1 : ∀ q ∈ lw_privs_1, lw_okq q := List.forall_mem_cons.mpr ⟨lw_p0, List.forall_mem_cons.mpr ⟨lw_p1, List.forall_mem_cons.mpr ⟨lw_p2, List.forall_mem_cons.mpr ⟨lw_p3, List.forall_mem_cons.mpr ⟨lw_p4, List.forall_mem_cons.mpr ⟨lw_p5, List.forall_mem_cons.mpr ⟨lw_p6, List.forall_mem_cons.mpr ⟨lw_p7, List.forall_mem_cons.mpr ⟨lw_p8, List.forall_mem_cons.mpr ⟨lw_p9, List.forall_mem_cons.mpr ⟨lw_p10, List.forall_mem_cons.mpr ⟨lw_p11, List.forall_mem_cons.mpr ⟨lw_p12, List.forall_mem_cons.mpr ⟨lw_p13, List.forall_mem_cons.mpr ⟨lw_p14, List.forall_mem_cons.mpr ⟨lw_p15, fun _ h => absurd h List.not_mem_nil⟩⟩⟩⟩⟩⟩⟩⟩⟩⟩⟩⟩⟩⟩⟩⟩
theorem lw_p16 : lw_okq (⟨"Mutualledger$Rings", "setShopAt", "(II)V"⟩, 2) := ⟨⟨by decide +kernel, by decide +kernel⟩, List.mem_of_getElem? (i := 76) (by decide +kernel), List.mem_of_getElem? (i := 455) (by decide +kernel), List.mem_of_getElem? (i := 456) (by decide +kernel)⟩
theorem lw_p17 : lw_okq (⟨"Mutualledger$Rings", "shopAt", "(I)I"⟩, 2) := ⟨⟨by decide +kernel, by decide +kernel⟩, List.mem_of_getElem? (i := 76) (by decide +kernel), List.mem_of_getElem? (i := 462) (by decide +kernel), List.mem_of_getElem? (i := 463) (by decide +kernel)⟩
theorem lw_p18 : lw_okq (⟨"Mutualledger$Rings", "isSet", "(II)Z"⟩, 2) := ⟨⟨by decide +kernel, by decide +kernel⟩, List.mem_of_getElem? (i := 76) (by decide +kernel), List.mem_of_getElem? (i := 468) (by decide +kernel), List.mem_of_getElem? (i := 469) (by decide +kernel)⟩
theorem lw_p19 : lw_okq (⟨"Mutualledger$Rings", "net", "(LMutualledger$Debts;)V"⟩, 2) := ⟨⟨by decide +kernel, by decide +kernel⟩, List.mem_of_getElem? (i := 76) (by decide +kernel), List.mem_of_getElem? (i := 472) (by decide +kernel), List.mem_of_getElem? (i := 473) (by decide +kernel)⟩
theorem lw_p20 : lw_okq (⟨"Mutualledger", "payFees", "()V"⟩, 9) := ⟨⟨by decide +kernel, by decide +kernel⟩, List.mem_of_getElem? (i := 15) (by decide +kernel), List.mem_of_getElem? (i := 478) (by decide +kernel), List.mem_of_getElem? (i := 479) (by decide +kernel)⟩
theorem lw_p21 : lw_okq (⟨"Mutualledger", "isIdleShop", "(I)Z"⟩, 9) := ⟨⟨by decide +kernel, by decide +kernel⟩, List.mem_of_getElem? (i := 15) (by decide +kernel), List.mem_of_getElem? (i := 482) (by decide +kernel), List.mem_of_getElem? (i := 483) (by decide +kernel)⟩
theorem lw_p22 : lw_okq (⟨"Mutualledger", "payFee", "(I)V"⟩, 9) := ⟨⟨by decide +kernel, by decide +kernel⟩, List.mem_of_getElem? (i := 15) (by decide +kernel), List.mem_of_getElem? (i := 490) (by decide +kernel), List.mem_of_getElem? (i := 491) (by decide +kernel)⟩
theorem lw_p23 : lw_okq (⟨"Mutualledger", "needShopEverOrHouse", "(I)V"⟩, 9) := ⟨⟨by decide +kernel, by decide +kernel⟩, List.mem_of_getElem? (i := 15) (by decide +kernel), List.mem_of_getElem? (i := 510) (by decide +kernel), List.mem_of_getElem? (i := 511) (by decide +kernel)⟩
theorem lw_p24 : lw_okq (⟨"Mutualledger", "needShopEver", "(I)V"⟩, 9) := ⟨⟨by decide +kernel, by decide +kernel⟩, List.mem_of_getElem? (i := 15) (by decide +kernel), List.mem_of_getElem? (i := 514) (by decide +kernel), List.mem_of_getElem? (i := 515) (by decide +kernel)⟩
theorem lw_p25 : lw_okq (⟨"MutualledgerModel", "isOf", "(II)Z"⟩, 19) := ⟨⟨by decide +kernel, by decide +kernel⟩, List.mem_of_getElem? (i := 595) (by decide +kernel), List.mem_of_getElem? (i := 672) (by decide +kernel), List.mem_of_getElem? (i := 673) (by decide +kernel)⟩
theorem lw_p26 : lw_okq (⟨"MutualledgerModel", "isShop", "(I)Z"⟩, 19) := ⟨⟨by decide +kernel, by decide +kernel⟩, List.mem_of_getElem? (i := 595) (by decide +kernel), List.mem_of_getElem? (i := 676) (by decide +kernel), List.mem_of_getElem? (i := 677) (by decide +kernel)⟩
theorem lw_p27 : lw_okq (⟨"MutualledgerModel", "passesOn", "(I)V"⟩, 19) := ⟨⟨by decide +kernel, by decide +kernel⟩, List.mem_of_getElem? (i := 595) (by decide +kernel), List.mem_of_getElem? (i := 683) (by decide +kernel), List.mem_of_getElem? (i := 684) (by decide +kernel)⟩
theorem lw_p28 : lw_okq (⟨"MutualledgerModel", "lowestTo", "(I)I"⟩, 19) := ⟨⟨by decide +kernel, by decide +kernel⟩, List.mem_of_getElem? (i := 595) (by decide +kernel), List.mem_of_getElem? (i := 687) (by decide +kernel), List.mem_of_getElem? (i := 688) (by decide +kernel)⟩
theorem lw_p29 : lw_okq (⟨"MutualledgerModel", "lowestOf", "(I)I"⟩, 19) := ⟨⟨by decide +kernel, by decide +kernel⟩, List.mem_of_getElem? (i := 595) (by decide +kernel), List.mem_of_getElem? (i := 694) (by decide +kernel), List.mem_of_getElem? (i := 695) (by decide +kernel)⟩
theorem lw_p30 : lw_okq (⟨"MutualledgerModel", "takesOver", "(IIII)V"⟩, 19) := ⟨⟨by decide +kernel, by decide +kernel⟩, List.mem_of_getElem? (i := 595) (by decide +kernel), List.mem_of_getElem? (i := 701) (by decide +kernel), List.mem_of_getElem? (i := 702) (by decide +kernel)⟩
theorem lw_p31 : lw_okq (⟨"MutualledgerModel", "lets", "(I)V"⟩, 19) := ⟨⟨by decide +kernel, by decide +kernel⟩, List.mem_of_getElem? (i := 595) (by decide +kernel), List.mem_of_getElem? (i := 705) (by decide +kernel), List.mem_of_getElem? (i := 706) (by decide +kernel)⟩
def lw_privs_2 : List (MethodName × Nat) := [(⟨"Mutualledger$Rings", "setShopAt", "(II)V"⟩, 2), (⟨"Mutualledger$Rings", "shopAt", "(I)I"⟩, 2), (⟨"Mutualledger$Rings", "isSet", "(II)Z"⟩, 2), (⟨"Mutualledger$Rings", "net", "(LMutualledger$Debts;)V"⟩, 2), (⟨"Mutualledger", "payFees", "()V"⟩, 9), (⟨"Mutualledger", "isIdleShop", "(I)Z"⟩, 9), (⟨"Mutualledger", "payFee", "(I)V"⟩, 9), (⟨"Mutualledger", "needShopEverOrHouse", "(I)V"⟩, 9), (⟨"Mutualledger", "needShopEver", "(I)V"⟩, 9), (⟨"MutualledgerModel", "isOf", "(II)Z"⟩, 19), (⟨"MutualledgerModel", "isShop", "(I)Z"⟩, 19), (⟨"MutualledgerModel", "passesOn", "(I)V"⟩, 19), (⟨"MutualledgerModel", "lowestTo", "(I)I"⟩, 19), (⟨"MutualledgerModel", "lowestOf", "(I)I"⟩, 19), (⟨"MutualledgerModel", "takesOver", "(IIII)V"⟩, 19), (⟨"MutualledgerModel", "lets", "(I)V"⟩, 19)]
theorem lw_r2 : ∀ q ∈ lw_privs_2, lw_okq q := List.forall_mem_cons.mpr ⟨lw_p16, List.forall_mem_cons.mpr ⟨lw_p17, List.forall_mem_cons.mpr ⟨lw_p18, List.forall_mem_cons.mpr ⟨lw_p19, List.forall_mem_cons.mpr ⟨lw_p20, List.forall_mem_cons.mpr ⟨lw_p21, List.forall_mem_cons.mpr ⟨lw_p22, List.forall_mem_cons.mpr ⟨lw_p23, List.forall_mem_cons.mpr ⟨lw_p24, List.forall_mem_cons.mpr ⟨lw_p25, List.forall_mem_cons.mpr ⟨lw_p26, List.forall_mem_cons.mpr ⟨lw_p27, List.forall_mem_cons.mpr ⟨lw_p28, List.forall_mem_cons.mpr ⟨lw_p29, List.forall_mem_cons.mpr ⟨lw_p30, List.forall_mem_cons.mpr ⟨lw_p31, fun _ h => absurd h List.not_mem_nil⟩⟩⟩⟩⟩⟩⟩⟩⟩⟩⟩⟩⟩⟩⟩⟩
theorem lw_p32 : lw_okq (⟨"MutualledgerModel", "balanceOf", "(I)I"⟩, 19) := ⟨⟨by decide +kernel, by decide +kernel⟩, List.mem_of_getElem? (i := 595) (by decide +kernel), List.mem_of_getElem? (i := 713) (by decide +kernel), List.mem_of_getElem? (i := 714) (by decide +kernel)⟩
theorem lw_p33 : lw_okq (⟨"MutualledgerModel", "limitOf", "(I)I"⟩, 19) := ⟨⟨by decide +kernel, by decide +kernel⟩, List.mem_of_getElem? (i := 595) (by decide +kernel), List.mem_of_getElem? (i := 717) (by decide +kernel), List.mem_of_getElem? (i := 718) (by decide +kernel)⟩
theorem lw_p34 : lw_okq (⟨"MutualledgerModel", "isTrade", "(I)Z"⟩, 19) := ⟨⟨by decide +kernel, by decide +kernel⟩, List.mem_of_getElem? (i := 595) (by decide +kernel), List.mem_of_getElem? (i := 728) (by decide +kernel), List.mem_of_getElem? (i := 729) (by decide +kernel)⟩
theorem lw_p35 : lw_okq (⟨"MutualledgerModel", "nets", "()Z"⟩, 19) := ⟨⟨by decide +kernel, by decide +kernel⟩, List.mem_of_getElem? (i := 595) (by decide +kernel), List.mem_of_getElem? (i := 752) (by decide +kernel), List.mem_of_getElem? (i := 753) (by decide +kernel)⟩
theorem lw_p36 : lw_okq (⟨"MutualledgerModel", "laysRing", "(I)Z"⟩, 19) := ⟨⟨by decide +kernel, by decide +kernel⟩, List.mem_of_getElem? (i := 595) (by decide +kernel), List.mem_of_getElem? (i := 756) (by decide +kernel), List.mem_of_getElem? (i := 757) (by decide +kernel)⟩
theorem lw_p37 : lw_okq (⟨"MutualledgerModel", "canBegin", "(I)Z"⟩, 19) := ⟨⟨by decide +kernel, by decide +kernel⟩, List.mem_of_getElem? (i := 595) (by decide +kernel), List.mem_of_getElem? (i := 760) (by decide +kernel), List.mem_of_getElem? (i := 761) (by decide +kernel)⟩
theorem lw_p38 : lw_okq (⟨"MutualledgerModel", "free", "(II)I"⟩, 19) := ⟨⟨by decide +kernel, by decide +kernel⟩, List.mem_of_getElem? (i := 595) (by decide +kernel), List.mem_of_getElem? (i := 764) (by decide +kernel), List.mem_of_getElem? (i := 765) (by decide +kernel)⟩
theorem lw_p39 : lw_okq (⟨"MutualledgerModel", "isRing", "(I)Z"⟩, 19) := ⟨⟨by decide +kernel, by decide +kernel⟩, List.mem_of_getElem? (i := 595) (by decide +kernel), List.mem_of_getElem? (i := 768) (by decide +kernel), List.mem_of_getElem? (i := 769) (by decide +kernel)⟩
theorem lw_p40 : lw_okq (⟨"MutualledgerModel", "isLazy", "(I)Z"⟩, 19) := ⟨⟨by decide +kernel, by decide +kernel⟩, List.mem_of_getElem? (i := 595) (by decide +kernel), List.mem_of_getElem? (i := 772) (by decide +kernel), List.mem_of_getElem? (i := 773) (by decide +kernel)⟩
theorem lw_p41 : lw_okq (⟨"MutualledgerModel", "pays", "(I)V"⟩, 19) := ⟨⟨by decide +kernel, by decide +kernel⟩, List.mem_of_getElem? (i := 595) (by decide +kernel), List.mem_of_getElem? (i := 776) (by decide +kernel), List.mem_of_getElem? (i := 777) (by decide +kernel)⟩
theorem lw_p42 : lw_okq (⟨"MutualledgerModel", "was", "(I)Z"⟩, 19) := ⟨⟨by decide +kernel, by decide +kernel⟩, List.mem_of_getElem? (i := 595) (by decide +kernel), List.mem_of_getElem? (i := 785) (by decide +kernel), List.mem_of_getElem? (i := 786) (by decide +kernel)⟩
def lw_privs_3 : List (MethodName × Nat) := [(⟨"MutualledgerModel", "balanceOf", "(I)I"⟩, 19), (⟨"MutualledgerModel", "limitOf", "(I)I"⟩, 19), (⟨"MutualledgerModel", "isTrade", "(I)Z"⟩, 19), (⟨"MutualledgerModel", "nets", "()Z"⟩, 19), (⟨"MutualledgerModel", "laysRing", "(I)Z"⟩, 19), (⟨"MutualledgerModel", "canBegin", "(I)Z"⟩, 19), (⟨"MutualledgerModel", "free", "(II)I"⟩, 19), (⟨"MutualledgerModel", "isRing", "(I)Z"⟩, 19), (⟨"MutualledgerModel", "isLazy", "(I)Z"⟩, 19), (⟨"MutualledgerModel", "pays", "(I)V"⟩, 19), (⟨"MutualledgerModel", "was", "(I)Z"⟩, 19)]
theorem lw_r3 : ∀ q ∈ lw_privs_3, lw_okq q := List.forall_mem_cons.mpr ⟨lw_p32, List.forall_mem_cons.mpr ⟨lw_p33, List.forall_mem_cons.mpr ⟨lw_p34, List.forall_mem_cons.mpr ⟨lw_p35, List.forall_mem_cons.mpr ⟨lw_p36, List.forall_mem_cons.mpr ⟨lw_p37, List.forall_mem_cons.mpr ⟨lw_p38, List.forall_mem_cons.mpr ⟨lw_p39, List.forall_mem_cons.mpr ⟨lw_p40, List.forall_mem_cons.mpr ⟨lw_p41, List.forall_mem_cons.mpr ⟨lw_p42, fun _ h => absurd h List.not_mem_nil⟩⟩⟩⟩⟩⟩⟩⟩⟩⟩⟩
def lw_privs : List (MethodName × Nat) := lw_privs_1 ++ (lw_privs_2 ++ (lw_privs_3))
def lw_tbl : List Cond := k2_sels lw_privs ++ tables_1
theorem lw_privs_ok : ∀ q ∈ lw_privs, lw_okq q := by
  show ∀ q ∈ lw_privs_1 ++ (lw_privs_2 ++ (lw_privs_3)), lw_okq q
  exact List.forall_mem_append.mpr ⟨lw_r1, List.forall_mem_append.mpr ⟨lw_r2, lw_r3⟩⟩
-- ===== end of PART A; then your names; then what follows =====
end
section
/-! ===== BEGIN words of one list among another's, by their places ===== -/
theorem goodIn_r {big : List Cond} (ws : List Cond) (ps : List Nat) (hp : ws = ps.filterMap (fun i => big[i]?)) (h : ws.all goodWord = true) : GoodIn big ws := by
  intro w hw
  have h1 := List.all_eq_true.mp h w hw
  rw [hp] at hw
  obtain ⟨i, -, hi⟩ := List.mem_filterMap.mp hw
  have hm : w ∈ big := by first | exact List.mem_of_getElem? hi | exact List.getElem?_mem hi
  exact ⟨hm, good_of_word h1⟩
theorem goodIn_app {big a b : List Cond} (ha : GoodIn big a) (hb : GoodIn big b) : GoodIn big (a ++ b) := fun w h => (List.mem_append.mp h).elim (ha w) (hb w)
theorem goodIn_ca {big a b : List Cond} {c : Cond} (ha : GoodIn big (c :: a)) (hb : GoodIn big b) : GoodIn big (c :: (a ++ b)) := fun w h => (List.mem_cons.mp h).elim (fun e => ha w (List.mem_cons.mpr (Or.inl e))) (fun h => (List.mem_append.mp h).elim (fun h => ha w (List.mem_cons.mpr (Or.inr h))) (hb w))
theorem goodIn_sub {big ws : List Cond} (hm : ∀ w ∈ ws, w ∈ big) (h : ws.all goodWord = true) : GoodIn big ws := fun w hw => ⟨hm w hw, good_of_word (List.all_eq_true.mp h w hw)⟩
/-! ===== END ===== -/

/-! ===== BEGIN exceptions that leave a method, and their catching by the caller (launches without stack traces) ===== -/
section VXA
/-! The laws vx_back, vx_callV, vx_callS, vx_callSW, vx_throw0, vx_throwS follow proofs of the library, with one case more: JvmDerived/Free/Laws.lean (Back.of_free), Shelf42/LK1.lean (callV, callS), Shelf/KitTraced.lean (throwNew0V, throwNewS). -/
/-- where a method has thrown q: the class by its name, the cell, what was written, the world -/
def vx_T (XC : String → State → State → Prop) (st : State) (q : Addr) (t : State) (mc ms : Nat) (free : Addr → Prop) : Prop :=
  ∃ (E : String) (ce : Cell) (L : List Loc), XC E st t ∧ t.heap[q]? = some ce ∧ ce.vm = .none ∧ st.vm.findClass E = some ce.cls ∧ st.WarmedH t.vm ∧ st.sameButNew ({ t with vm := st.vm } : State) L mc ms ∧ ∀ z ∈ L, free z.base
def vx_Q (Qc : Array Value → State → Outcome → State → Prop) (XC : String → State → State → Prop) (mc ms : Nat) (free : Addr → Prop) : Array Value → State → Outcome → State → Prop := fun a st o t =>
  (Qc a st o t ∧ ∃ L, FrameEnd st o t L mc ms ∧ ∀ q ∈ L, free q.base) ∨ ∃ q, o = .threw q ∧ vx_T XC st q t mc ms free
/-- a callee that returns or throws -/
def vx_Met (l : Launch) (y : MethodName) (ws : List Cond) (rm : Room) (Pc : Array Value → State → Prop) (Qc : Array Value → State → Outcome → State → Prop) (XC : String → State → State → Prop) (mc ms : Nat) (free : Addr → Prop) : Prop :=
  MetFree l y (headSpec ws rm) Pc (fun _ _ _ _ _ => True) (vx_Q Qc XC mc ms free)
def vx_Post (XC : String → State → State → Prop) (mc ms : Nat) (free : Addr → Prop) : Pt → Array Value → Addr → Pt → Prop := fun A a q B =>
  ∃ (g : JFrame) (mk : MethodId) (t : State) (L : List Loc) (E : String) (ce : Cell), B.U.heap = t.heap ∧ B.U.vm = t.vm ∧ XC E (A.U.calling g mk a) t ∧ t.heap[q]? = some ce ∧ ce.vm = .none ∧ A.U.vm.findClass E = some ce.cls ∧ B.locs = A.locs ++ L ∧ (∀ z ∈ L, free z.base) ∧ B.cells = A.cells + mc ∧ B.slots = A.slots + ms
def vx_Back (l : Launch) (R : Room) (p : Program) (e : Env) (below : List Frame) (s : State) (sargs : Array Value) (y : MethodName) (len W9 : Nat)
    (Pre : Pt → Array Value → Prop) (Post : Pt → Array Value → Option Value → Pt → Prop) (PostX : Pt → Array Value → Addr → Pt → Prop) : Prop :=
  ∀ (m : MethodId) (meth : Method) (c : Code) (A : Pt) (g : JFrame) (ig : Instr) (mk : MethodId) (a : Array Value),
    Stand p l e R s m sargs below meth c A.U A.locs A.cells A.slots → g.method = m → g.locals.size = c.maxLocals → decode c.code g.pc = .ok (ig, len) →
    2 * g.monitorRoom + (g.stack.map fun v => v.category).sum ≤ W9 → A.U.methodNamed? y = some mk → Pre A a →
    (∃ (v : Option Value) (B : Pt), Stand p l e R s m sargs below meth c B.U B.locs B.cells B.slots ∧ Post A a v B ∧
      Steps p.tables e below (doInvoke e (A.U.setTop g) [] mk a).1 (B.U.setTop { g with pc := g.pc + len, stack := v.toList ++ g.stack })) ∨
    (∃ (q : Addr) (B : Pt), Stand p l e R s m sargs below meth c B.U B.locs B.cells B.slots ∧ PostX A a q B ∧
      Steps p.tables e below (doInvoke e (A.U.setTop g) [] mk a).1 ((B.U.setTop g).pushFrame (.throwing q)))
section Payer
variable {l : Launch} {R : Room} {p : Program} {e : Env} {below : List Frame} {s : State} {sargs : Array Value} {y : MethodName} {len W9 : Nat}
theorem vx_back {ws : List Cond} {rm : Room} {Pc : Array Value → State → Prop} {Qc : Array Value → State → Outcome → State → Prop} {XC : String → State → State → Prop} {mc ms : Nat} {free : Addr → Prop} {bytes : ByteArray} {maxL : Nat} {ret : Option FieldType}
    (hM : vx_Met l y ws rm Pc Qc XC mc ms free) (hblind : FrameBlind Pc) (hrc : rm.cells = mc) (hrs : rm.slots = ms)
    (hframes : rm.frames + 1 ≤ R.frames) (hlocals : W9 + (maxL + 11) + rm.locals ≤ R.locals)
    (hws : ∀ w ∈ ws, ∀ a' U, s.WarmedH U.vm → w.before a' U = true) (hcode : Cond.code y bytes maxL ret ∈ ws) (hinit : ∀ a' U, s.WarmedH U.vm → (Cond.initialized y.cls).before a' U = true) :
    vx_Back l R p e below s sargs y len W9 (PreOf R mc ms Pc) (PostOf Qc mc ms free) (vx_Post XC mc ms free) := by
  intro m meth c A g ig mk a X hg hsize hdg hW hn hp
  have h1 : (headSpec ws rm).pre.before a A.U = true := atoms_intro fun w hw => hws w hw _ _ X.warmed
  have h2 : (Cond.code y bytes maxL ret).before a A.U = true := hws _ hcode _ _ X.warmed
  have h3 : (Cond.initialized y.cls).before a A.U = true := hinit _ _ X.warmed
  have h4 : A.cells + (headSpec ws rm).room.cells ≤ R.cells := by rw [show (headSpec ws rm).room.cells = mc from hrc]; exact hp.1
  have h5 : A.slots + (headSpec ws rm).room.slots ≤ R.slots := by rw [show (headSpec ws rm).room.slots = ms from hrs]; exact hp.2.1
  have hPc : Pc a (A.U.calling g mk a) := hblind _ _ _ _ hp.2.2
  obtain ⟨U, Ls, c0, s0⟩ := A
  dsimp only [Pt.U, Pt.locs, Pt.cells, Pt.slots] at h1 h2 h3 h4 h5 X hn hPc ⊢
  obtain ⟨methY, cY, hmY, hcY, -, hlY, -, -, -, -⟩ := Cond.code_spec hn h2
  obtain ⟨kY, hkY, -⟩ := className_of_methodNamed hn
  have hinitY : kY.init = .initialized := Cond.initialized_spec (findClass_of_methodNamed hn) hkY h3
  have h : At U g.method c below := by rw [hg]; exact X.here
  have hlocals9 : W9 + (maxL + 11) + (headSpec ws rm).room.locals ≤ R.locals := hlocals
  have happ : (headSpec ws rm).appliesLoose y e.platform (U.calling g mk a) = true :=
    Spec.appliesLoose_calling (g := g) h hdg hn hkY hinitY
      (X.room_calling (g := g) (R' := (headSpec ws rm).room) hsize hmY hcY hframes (by rw [hlY]; omega) h4 h5) h1
  obtain ⟨mid, hmid⟩ := h.above
  have hfr : (U.setTop g).frames = (.java g :: mid) ++ below := by rw [State.frames_setTop' g h.top, hmid]; rfl
  obtain ⟨o, s₂, hsteps, -, hend, hq⟩ := Steps.callFree hM p X.admits X.cas X.clock (acts := []) hfr happ hPc trivial
  have hq' : vx_Q Qc XC mc ms free a (U.calling g mk a) o s₂ := hq
  rw [State.frames_setTop' g h.top] at hend
  obtain ⟨g₀, hg0⟩ := Option.isSome_iff_exists.mp h.top
  obtain ⟨r, hr⟩ := State.topJava?_eq_some.mp hg0
  have hr' : (({ U with heap := s₂.heap, slotsUsed := s₂.slotsUsed } : State).setVm s₂.vm).frames = .java g₀ :: r := hr
  rcases hq' with ⟨hqc, L, hfe, hL⟩ | ⟨q, rfl, E, ce, L, hx, hce, hcv, hcl, hW₂, hsm, hL⟩
  · obtain ⟨⟨v, rfl⟩, hW₂, e2, q2, q3, q4, q5, q6⟩ := id hfe
    have e3 : s₂ = ({ (U.calling g mk a).setFrames s₂.frames with heap := s₂.heap, slotsUsed := s₂.slotsUsed } : State).setVm s₂.vm := by
      have : s₂ = ({ s₂ with vm := (U.calling g mk a).vm } : State).setVm s₂.vm := rfl
      rw [e2] at this
      exact this
    obtain ⟨c₂, i₂, len₂, hc₂, hd₂, hf₂⟩ := hend
    have hW' : U.WarmedH s₂.vm := hW₂
    have hcc : c₂ = c := by
      have h1 : s₂.code? g.method = U.code? g.method := by
        rw [State.code?_eq, State.code?_eq, hW'.alike.method?]
      exact Option.some.inj (hc₂.symm.trans (h1.trans h.code))
    subst hcc
    have hlen : len₂ = len := by rw [hdg] at hd₂; cases hd₂; rfl
    subst hlen
    have hs₂ : s₂ = (({ U with heap := s₂.heap, slotsUsed := s₂.slotsUsed } : State).setVm s₂.vm).setTop { g with pc := g.pc + len₂, stack := v.toList ++ g.stack } := by
      refine e3.trans ?_
      rw [hf₂, State.calling_eq h.top, State.setFrames_setFrames, State.setTop_of_frames _ hr', hr]
      rfl
    have hsame : U.sameButNew ({ U with heap := s₂.heap, slotsUsed := s₂.slotsUsed } : State) L mc ms := by
      refine ⟨?_, q2, q3, q4, q5, q6⟩
      obtain ⟨t, ht, -⟩ := State.frames_cons hr
      show ({ U with heap := s₂.heap, slotsUsed := s₂.slotsUsed } : State) = { U.setFrames U.frames with heap := s₂.heap, slotsUsed := s₂.slotsUsed }
      rw [State.setFrames_self ht]
    subst hg
    refine Or.inl ⟨v, ⟨(({ U with heap := s₂.heap, slotsUsed := s₂.slotsUsed } : State).setVm s₂.vm), Ls ++ L, c0 + mc, s0 + ms⟩,
      ⟨X.admits, X.cas, X.clock, X.frames, X.room, X.hears, X.method, X.code, (X.here.setHeapUsed s₂.heap s₂.slotsUsed).setVm hW'.alike, X.tail, State.WarmedH.trans X.warmed hW', X.limits, X.bytes, X.same.trans (hsame.setVm s.vm)⟩,
      ⟨g, mk, s₂, L, rfl, rfl, hqc, rfl, hL, rfl, rfl⟩, ?_⟩
    show Steps p.tables e below _ ((({ U with heap := s₂.heap, slotsUsed := s₂.slotsUsed } : State).setVm s₂.vm).setTop { g with pc := g.pc + len₂, stack := v.toList ++ g.stack })
    rw [← hs₂]
    exact hsteps
  · obtain ⟨e2, q2, q3, q4, q5, q6⟩ := id hsm
    have e3 : s₂ = ({ (U.calling g mk a).setFrames s₂.frames with heap := s₂.heap, slotsUsed := s₂.slotsUsed } : State).setVm s₂.vm := by
      have : s₂ = ({ s₂ with vm := (U.calling g mk a).vm } : State).setVm s₂.vm := rfl
      rw [e2] at this
      exact this
    have hf₂ : s₂.frames = .throwing q :: .java g :: U.frames.tail := hend
    have hW' : U.WarmedH s₂.vm := hW₂
    have hs₂ : s₂ = ((({ U with heap := s₂.heap, slotsUsed := s₂.slotsUsed } : State).setVm s₂.vm).setTop g).pushFrame (.throwing q) := by
      refine e3.trans ?_
      rw [hf₂, State.calling_eq h.top, State.setFrames_setFrames, State.pushFrame, State.frames_setTop _ hr', State.setTop_of_frames _ hr', State.setFrames_setFrames, hr]
      rfl
    have hsame : U.sameButNew ({ U with heap := s₂.heap, slotsUsed := s₂.slotsUsed } : State) L mc ms := by
      refine ⟨?_, q2, q3, q4, q5, q6⟩
      obtain ⟨t, ht, -⟩ := State.frames_cons hr
      show ({ U with heap := s₂.heap, slotsUsed := s₂.slotsUsed } : State) = { U.setFrames U.frames with heap := s₂.heap, slotsUsed := s₂.slotsUsed }
      rw [State.setFrames_self ht]
    subst hg
    refine Or.inr ⟨q, ⟨(({ U with heap := s₂.heap, slotsUsed := s₂.slotsUsed } : State).setVm s₂.vm), Ls ++ L, c0 + mc, s0 + ms⟩,
      ⟨X.admits, X.cas, X.clock, X.frames, X.room, X.hears, X.method, X.code, (X.here.setHeapUsed s₂.heap s₂.slotsUsed).setVm hW'.alike, X.tail, State.WarmedH.trans X.warmed hW', X.limits, X.bytes, X.same.trans (hsame.setVm s.vm)⟩,
      ⟨g, mk, s₂, L, E, ce, rfl, rfl, hx, hce, hcv, hcl, rfl, hL, rfl, rfl⟩, ?_⟩
    show Steps p.tables e below _ (((({ U with heap := s₂.heap, slotsUsed := s₂.slotsUsed } : State).setVm s₂.vm).setTop g).pushFrame (.throwing q))
    rw [← hs₂]
    exact hsteps
end Payer
section Calls
variable {p : Program} {l : Launch} {e : Env} {R : Room} {s : State} {m : MethodId} {args : Array Value} {below : List Frame} {meth : Method} {c : Code} {T : State} {locs : List Loc} {cells slots : Nat}
theorem vx_callV (X : Stand p l e R s m args below meth c T locs cells slots) (hexec : p.tables.exec = Jvm.exec) {own C : String} {index : Nat} {y : MethodName} {bytes : ByteArray} {maxL : Nat} {ret : Option FieldType}
    (hown : s.vm.findClass own = some m.cls) (hlink : (Cond.methodLink own index y).before args s = true) (hinst : (Cond.instanceMethod y).before args s = true) (hsel : (Cond.selects C y y).before args s = true)
    (hcode : (Cond.code y bytes maxL ret).before args s = true) (hy : y.cls ≠ "java/lang/invoke/MethodHandle" ∧ y.cls ≠ "java/lang/invoke/VarHandle")
    {W9 : Nat} {Pre : Pt → Array Value → Prop} {Post : Pt → Array Value → Option Value → Pt → Prop} {PostX : Pt → Array Value → Addr → Pt → Prop} (hK : vx_Back l R p e below s args y 3 W9 Pre Post PostX)
    {b : Addr} {cellB : Cell} (hcell : T.heap[b]? = some cellB) (hobj : cellB.vm.isStatics = false) (hcls : s.vm.findClass C = some cellB.cls)
    {g : JFrame} (hg : g.method = m) (hsize : g.locals.size = c.maxLocals) {argsL rest : List Value} (hlen : ∀ sig, parseMethodDescriptor y.desc = some sig → argsL.length = sig.parameters.length)
    (hstack : g.stack = argsL.reverse ++ .ref b :: rest) (hW : 2 * g.monitorRoom + (rest.map fun v => v.category).sum ≤ W9) (hdg : decode c.code g.pc = .ok (.invokevirtual index, 3))
    (hpre : ∀ vm₁, s.WarmedH vm₁ → Pre ⟨T.setVm vm₁, locs, cells, slots⟩ (Value.ref b :: argsL).toArray) :
    (∃ (v : Option Value) (vm₁ : Vm) (B : Pt), s.WarmedH vm₁ ∧ Stand p l e R s m args below meth c B.U B.locs B.cells B.slots ∧ Post ⟨T.setVm vm₁, locs, cells, slots⟩ (Value.ref b :: argsL).toArray v B ∧
      ∀ target, Steps p.tables e below (B.U.setTop { g with pc := g.pc + 3, stack := v.toList ++ rest }) target → Steps p.tables e below (T.setTop g) target) ∨
    (∃ (q : Addr) (vm₁ : Vm) (B : Pt), s.WarmedH vm₁ ∧ Stand p l e R s m args below meth c B.U B.locs B.cells B.slots ∧ PostX ⟨T.setVm vm₁, locs, cells, slots⟩ (Value.ref b :: argsL).toArray q B ∧
      Steps p.tables e below (T.setTop g) ((B.U.setTop { g with stack := rest }).pushFrame (.throwing q))) := by
  obtain ⟨mk, methM, hnamed, hmethM, hstM, habM⟩ := Cond.instanceMethod_spec hinst
  obtain ⟨methM', cM, hmethM', -, -, -, -, -, -, hsigM⟩ := Cond.code_spec hnamed hcode
  cases hmethM.symm.trans hmethM'
  obtain ⟨c2, r2, m2, q1, q2, q3, q4, kP, hkP, hkPi⟩ := Cond.selects_spec hsel
  cases hcls.symm.trans q1
  cases (State.methodFound?_of_named hnamed hy).symm.trans q2
  cases hnamed.symm.trans q3
  have hselP : selectMethod e.platform s.vm cellB.cls mk = .method mk := by rw [Launch.admits_selectMethod X.admits]; exact q4
  obtain ⟨vm₁, X₁, hstep₁⟩ := X.invokevirtual hexec hown hlink hnamed hmethM hstM hkP hkPi hy (a := b) (cell := cellB) hcell
    (fun z h => by rw [h] at hobj; cases hobj) hselP hmethM habM hkP hkPi (g := g) hg (argsL := argsL) (rest := rest) (hlen _ hsigM) hstack hdg
  rcases hK m meth c ⟨T.setVm vm₁, locs, cells, slots⟩ { g with stack := rest } (.invokevirtual index) mk (Value.ref b :: argsL).toArray X₁ hg hsize hdg hW (X₁.named hnamed) (hpre vm₁ X₁.warmed) with ⟨v, B, X', hpost, hsteps⟩ | ⟨q, B, X', hpost, hsteps⟩
  · exact Or.inl ⟨v, vm₁, B, X₁.warmed, X', hpost, fun target h => hstep₁ _ fun acts => by rw [doInvoke_state]; exact hsteps.trans h⟩
  · exact Or.inr ⟨q, vm₁, B, X₁.warmed, X', hpost, hstep₁ _ fun acts => by rw [doInvoke_state]; exact hsteps⟩
theorem vx_callS (X : Stand p l e R s m args below meth c T locs cells slots) (hexec : p.tables.exec = Jvm.exec) {own : String} {index : Nat} {y : MethodName} {bytes : ByteArray} {maxL : Nat} {ret : Option FieldType}
    (hown : s.vm.findClass own = some m.cls) (hlink : (Cond.methodLink own index y).before args s = true) (hstat : (Cond.static y).before args s = true) (hinit : (Cond.initialized y.cls).before args s = true)
    (hcode : (Cond.code y bytes maxL ret).before args s = true) (hy : y.cls ≠ "java/lang/invoke/MethodHandle" ∧ y.cls ≠ "java/lang/invoke/VarHandle")
    {W9 : Nat} {Pre : Pt → Array Value → Prop} {Post : Pt → Array Value → Option Value → Pt → Prop} {PostX : Pt → Array Value → Addr → Pt → Prop} (hK : vx_Back l R p e below s args y 3 W9 Pre Post PostX)
    {g : JFrame} (hg : g.method = m) (hsize : g.locals.size = c.maxLocals) {argsL rest : List Value} (hlen : ∀ sig, parseMethodDescriptor y.desc = some sig → argsL.length = sig.parameters.length)
    (hstack : g.stack = argsL.reverse ++ rest) (hW : 2 * g.monitorRoom + (rest.map fun v => v.category).sum ≤ W9) (hdg : decode c.code g.pc = .ok (.invokestatic index, 3))
    (hpre : ∀ vm₁, s.WarmedH vm₁ → Pre ⟨T.setVm vm₁, locs, cells, slots⟩ argsL.toArray) :
    (∃ (v : Option Value) (vm₁ : Vm) (B : Pt), s.WarmedH vm₁ ∧ Stand p l e R s m args below meth c B.U B.locs B.cells B.slots ∧ Post ⟨T.setVm vm₁, locs, cells, slots⟩ argsL.toArray v B ∧
      ∀ target, Steps p.tables e below (B.U.setTop { g with pc := g.pc + 3, stack := v.toList ++ rest }) target → Steps p.tables e below (T.setTop g) target) ∨
    (∃ (q : Addr) (vm₁ : Vm) (B : Pt), s.WarmedH vm₁ ∧ Stand p l e R s m args below meth c B.U B.locs B.cells B.slots ∧ PostX ⟨T.setVm vm₁, locs, cells, slots⟩ argsL.toArray q B ∧
      Steps p.tables e below (T.setTop g) ((B.U.setTop { g with stack := rest }).pushFrame (.throwing q))) := by
  obtain ⟨mk, hnamed⟩ := Cond.code_named hcode
  obtain ⟨methM, cM, hmethM, -, -, -, -, -, -, hsigM⟩ := Cond.code_spec hnamed hcode
  have hstatic : methM.isStatic = true := Cond.static_spec hnamed hmethM hstat
  obtain ⟨kP, hkP, -⟩ := className_of_methodNamed hnamed
  have hinitP : kP.init = .initialized := Cond.initialized_spec (findClass_of_methodNamed hnamed) hkP hinit
  obtain ⟨vm₁, X₁, hstep₁⟩ := X.invokestatic hexec hown hlink hnamed hmethM hstatic hkP hinitP hy (g := g) hg (argsL := argsL) (rest := rest) (hlen _ hsigM) hstack hdg
  rcases hK m meth c ⟨T.setVm vm₁, locs, cells, slots⟩ { g with stack := rest } (.invokestatic index) mk argsL.toArray X₁ hg hsize hdg hW (X₁.named hnamed) (hpre vm₁ X₁.warmed) with ⟨v, B, X', hpost, hsteps⟩ | ⟨q, B, X', hpost, hsteps⟩
  · exact Or.inl ⟨v, vm₁, B, X₁.warmed, X', hpost, fun target h => hstep₁ _ fun acts => by rw [doInvoke_state]; exact hsteps.trans h⟩
  · exact Or.inr ⟨q, vm₁, B, X₁.warmed, X', hpost, hstep₁ _ fun acts => by rw [doInvoke_state]; exact hsteps⟩
end Calls
theorem vx_cls {s : State} {T : State} {vm₁ : Vm} {E : String} {k : ClassId} (hW : s.WarmedH vm₁) (h : (T.setVm vm₁).vm.findClass E = some k) : s.vm.findClass E = some k := by
  have h1 : vm₁.findClass E = some k := h
  rw [hW.alike.findClass] at h1
  exact h1
/-- the method's frame g, with q thrown over it -/
def vx_W (p : Program) (l : Launch) (e : Env) (R : Room) (s : State) (m : MethodId) (args : Array Value) (below : List Frame) (meth : Method) (c : Code) (H : Heap) (locs : List Loc) (cells slots : Nat) (Q : State → Prop) (g : JFrame) (q : Addr) : Prop :=
  ∀ T : State, T.heap = H → Stand p l e R s m args below meth c T locs cells slots → ∃ t, Steps p.tables e below ((T.setTop g).pushFrame (.throwing q)) t ∧ Q t
def vx_Run (p : Program) (l : Launch) (e : Env) (R : Room) (s : State) (m : MethodId) (args : Array Value) (below : List Frame) (meth : Method) (c : Code) (H : Heap) (locs : List Loc) (cells slots mc ms : Nat) (g : JFrame) (rest : List Value) (Qa : State → Outcome → State → Prop) (XC : String → State → State → Prop) (free : Addr → Prop) : Prop :=
  ∀ T : State, T.heap = H → Stand p l e R s m args below meth c T locs cells slots →
    (∃ (v : Option Value) (st₀ t T' : State) (L : List Loc), st₀.heap = H ∧ Stand p l e R s m args below meth c T' (locs ++ L) (cells + mc) (slots + ms) ∧ (∀ q ∈ L, free q.base) ∧ T'.heap = t.heap ∧ T'.vm = t.vm ∧ Qa st₀ (.returned v) t ∧
      Goes p e below T g T' { g with pc := g.pc + 3, stack := v.toList ++ rest }) ∨
    (∃ (q : Addr) (st₀ t T' : State) (L : List Loc) (E : String) (ce : Cell), st₀.heap = H ∧ Stand p l e R s m args below meth c T' (locs ++ L) (cells + mc) (slots + ms) ∧ (∀ z ∈ L, free z.base) ∧ T'.heap = t.heap ∧ T'.vm = t.vm ∧ XC E st₀ t ∧ t.heap[q]? = some ce ∧ ce.vm = .none ∧ s.vm.findClass E = some ce.cls ∧
      Steps p.tables e below (T.setTop g) ((T'.setTop { g with stack := rest }).pushFrame (.throwing q)))
def vx_X {S : Type} (px : S → Prop) (B : String → S → State → Prop) (A : Nat → Prop) : String → State → State → Prop := fun E st t => ∃ u : S, px u ∧ B E u t ∧ va_F A st t
section Runs
variable {p : Program} {l : Launch} {e : Env} {R : Room} {s : State} {m : MethodId} {args : Array Value} {below : List Frame} {meth : Method} {c : Code} {H : Heap} {locs : List Loc} {cells slots : Nat}
variable {y : MethodName} {bytes cc : ByteArray} {maxL nL mc ms n index : Nat} {ret : Option FieldType} {ws : List Cond} {rm : Room} {Pc : Array Value → State → Prop} {Qc : Array Value → State → Outcome → State → Prop} {XC : String → State → State → Prop} {free : Addr → Prop} {Ts : List Cond} {own C : String} {b : Addr} {As rest : List Value} {g : JFrame}
theorem vx_callBack (cb : CallB R s args own index y bytes maxL ret ws rm mc ms n) (hM : vx_Met l y ws rm Pc Qc XC mc ms free) (hbl : FrameBlind Pc) : vx_Back l R p e below s args y 3 8 (PreOf R mc ms Pc) (PostOf Qc mc ms free) (vx_Post XC mc ms free) := by
  obtain ⟨hrc, hrs, hfr, hlo, hws, hcw, -, hini, -⟩ := cb
  exact vx_back (bytes := bytes) (maxL := maxL) (ret := ret) hM hbl hrc hrs hfr hlo hws hcw (fun a' U hW => word_at hW (Or.inl (by first | rfl | simp [Cond.onTables, Cond.keeps, Cond.steady])) hini)
theorem vx_runV (S : CallFix p m c cc nL s args Ts own) (hM : vx_Met l y ws rm Pc Qc XC mc ms free) (cw : CallW R s args own C index y bytes maxL ret ws rm mc ms n) (hp : PreV s H C b Pc As)
    (hg : g.method = m) (hn : As.length = n) (hsize : g.locals.size = nL) (hstack : g.stack = As.reverse ++ .ref b :: rest) (hW : 2 * g.monitorRoom + (rest.map fun v => v.category).sum ≤ 8) (hdg : decode cc g.pc = .ok (.invokevirtual index, 3)) (hf : cells + mc ≤ R.cells ∧ slots + ms ≤ R.slots) :
    vx_Run p l e R s m args below meth c H locs cells slots mc ms g rest (Qc (Value.ref b :: As).toArray) XC free := by
  have hK : vx_Back l R p e below s args y 3 8 (PreOf R mc ms Pc) (PostOf Qc mc ms free) (vx_Post XC mc ms free) := vx_callBack cw.1 hM hp.1
  obtain ⟨⟨-, -, -, -, -, -, hcode, -, hy, hlen, hl⟩, hin, hse⟩ := cw
  obtain ⟨hx, hb, hml, ho, -⟩ := S
  obtain ⟨-, ⟨cellB, hcB, hoB, hclB⟩, hPc⟩ := hp
  intro T hT X
  rcases vx_callV X hx (C := C) (bytes := bytes) (maxL := maxL) (ret := ret) ho hl hin hse hcode hy hK (by rw [hT]; exact hcB) hoB hclB hg (hsize.trans hml.symm) (argsL := As) (rest := rest) (fun sig h => hn.trans (hlen sig h)) hstack hW (by rw [hb]; exact hdg)
    (fun vm₁ hW₁ => ⟨hf.1, hf.2, hPc (T.setVm vm₁) hT hW₁⟩) with ⟨v, vm₁, ⟨U', l2, c2, s2⟩, hW₁, X', ⟨g', mk, t, L, e1, e2, hq, h1, hL, h2, h3⟩, st⟩ | ⟨q, vm₁, ⟨U', l2, c2, s2⟩, hW₁, X', ⟨g', mk, t, L, E, ce, e1, e2, hq, hce, hcv, hcl, h1, hL, h2, h3⟩, st⟩
  · dsimp only [Pt.U, Pt.locs, Pt.cells, Pt.slots] at X' e1 e2 h1 h2 h3 st
    subst h1; subst h2; subst h3
    exact Or.inl ⟨v, (T.setVm vm₁).calling g' mk (Value.ref b :: As).toArray, t, U', L, hT, X', hL, e1, e2, hq, st⟩
  · dsimp only [Pt.U, Pt.locs, Pt.cells, Pt.slots] at X' e1 e2 h1 h2 h3 st hcl
    subst h1; subst h2; subst h3
    exact Or.inr ⟨q, (T.setVm vm₁).calling g' mk (Value.ref b :: As).toArray, t, U', L, E, ce, hT, X', hL, e1, e2, hq, hce, hcv, vx_cls hW₁ hcl, st⟩
theorem vx_runS (S : CallFix p m c cc nL s args Ts own) (hM : vx_Met l y ws rm Pc Qc XC mc ms free) (cw : CallB R s args own index y bytes maxL ret ws rm mc ms n ∧ (Cond.static y).before args s = true) (hp : PreS s H Pc As)
    (hg : g.method = m) (hn : As.length = n) (hsize : g.locals.size = nL) (hstack : g.stack = As.reverse ++ rest) (hW : 2 * g.monitorRoom + (rest.map fun v => v.category).sum ≤ 8) (hdg : decode cc g.pc = .ok (.invokestatic index, 3)) (hf : cells + mc ≤ R.cells ∧ slots + ms ≤ R.slots) :
    vx_Run p l e R s m args below meth c H locs cells slots mc ms g rest (Qc As.toArray) XC free := by
  have hK : vx_Back l R p e below s args y 3 8 (PreOf R mc ms Pc) (PostOf Qc mc ms free) (vx_Post XC mc ms free) := vx_callBack cw.1 hM hp.1
  obtain ⟨⟨-, -, -, -, -, -, hcode, hini, hy, hlen, hl⟩, hstt⟩ := cw
  obtain ⟨hx, hb, hml, ho, -⟩ := S
  intro T hT X
  rcases vx_callS X hx (bytes := bytes) (maxL := maxL) (ret := ret) ho hl hstt hini hcode hy hK hg (hsize.trans hml.symm) (argsL := As) (rest := rest) (fun sig h => hn.trans (hlen sig h)) hstack hW (by rw [hb]; exact hdg)
    (fun vm₁ hW₁ => ⟨hf.1, hf.2, hp.2 (T.setVm vm₁) hT hW₁⟩) with ⟨v, vm₁, ⟨U', l2, c2, s2⟩, hW₁, X', ⟨g', mk, t, L, e1, e2, hq, h1, hL, h2, h3⟩, st⟩ | ⟨q, vm₁, ⟨U', l2, c2, s2⟩, hW₁, X', ⟨g', mk, t, L, E, ce, e1, e2, hq, hce, hcv, hcl, h1, hL, h2, h3⟩, st⟩
  · dsimp only [Pt.U, Pt.locs, Pt.cells, Pt.slots] at X' e1 e2 h1 h2 h3 st
    subst h1; subst h2; subst h3
    exact Or.inl ⟨v, (T.setVm vm₁).calling g' mk As.toArray, t, U', L, hT, X', hL, e1, e2, hq, st⟩
  · dsimp only [Pt.U, Pt.locs, Pt.cells, Pt.slots] at X' e1 e2 h1 h2 h3 st hcl
    subst h1; subst h2; subst h3
    exact Or.inr ⟨q, (T.setVm vm₁).calling g' mk As.toArray, t, U', L, E, ce, hT, X', hL, e1, e2, hq, hce, hcv, vx_cls hW₁ hcl, st⟩
end Runs
section Rows
variable {p : Program} {l : Launch} {e : Env} {R : Room} {s : State} {m : MethodId} {args : Array Value} {below : List Frame} {meth : Method} {c : Code} {H : Heap} {locs : List Loc} {cells slots : Nat} {Q : State → Prop}
variable {mc ms : Nat} {free : Addr → Prop} {A0 A1 : Nat → Prop} {H0 : Heap} {a : Array Value} {pc : Nat} {ls : Array Slot} {st0 rest : List Value}
theorem vx_keep {st₀ t T' : State} {L : List Loc} (h0 : st₀.heap = H) (e1 : T'.heap = t.heap) (hS : va_S A0 H0 H locs) (hA : ∀ q, q < H.size → A1 q → A0 q) (hf : ∀ q, free q → A0 q) (hL : ∀ q ∈ L, free q.base) (hF : va_F A1 st₀ t) :
    H.size ≤ T'.heap.size ∧ (∀ q : Nat, q < H.size → ¬ A1 q → T'.heap[q]? = H[q]?) ∧ va_S A0 H0 T'.heap (locs ++ L) := by
  obtain ⟨hz, hk⟩ := hF
  rw [h0] at hz hk
  exact ⟨by rw [e1]; exact hz, fun q h1 h2 => by rw [e1]; exact hk q h1 h2,
    ⟨Nat.le_trans hS.1 (by rw [e1]; exact hz), fun q h1 h2 => by rw [e1, hk q (Nat.lt_of_lt_of_le h1 hS.1) (fun z => h2 (hA q (Nat.lt_of_lt_of_le h1 hS.1) z))]; exact hS.2.1 q h1 h2, fun q hq => by
      rcases List.mem_append.mp hq with h | h
      · exact hS.2.2 q h
      · exact hf _ (hL q h)⟩⟩
theorem vx_calli {S SX : Type} {post : Int32 → S → Prop} {px : SX → Prop} {B : S → State → Prop} {BX : String → SX → State → Prop} {AX : Nat → Prop} (hr : vx_Run p l e R s m args below meth c H locs cells slots mc ms (F0 m pc ls st0) rest (va_Qi post B A1 a) (vx_X px BX AX) free) (hS : va_S A0 H0 H locs) (hA : ∀ q, q < H.size → A1 q → A0 q) (hf : ∀ q, free q → A0 q) (hAX : ∀ q, q < H.size → AX q → A0 q)
    (kx : ∀ (E : String) (ce : Cell) (q9 : Addr) (u : SX) (t : State) (H1 : Heap) (locs1 : List Loc), t.heap = H1 → s.vm.Alike t.vm → px u → BX E u t → H.size ≤ H1.size → (∀ q : Nat, q < H.size → ¬ AX q → H1[q]? = H[q]?) → va_S A0 H0 H1 locs1 → H1[q9]? = some ce → ce.vm = .none → s.vm.findClass E = some ce.cls → vx_W p l e R s m args below meth c H1 locs1 (cells + mc) (slots + ms) Q (F0 m pc ls rest) q9)
    (kk : ∀ (r : Int32) (u : S) (t : State) (H1 : Heap) (locs1 : List Loc), t.heap = H1 → s.vm.Alike t.vm → post r u → B u t → H.size ≤ H1.size → (∀ q : Nat, q < H.size → ¬ A1 q → H1[q]? = H[q]?) → va_S A0 H0 H1 locs1 → W p l e R s m args below meth c H1 locs1 (cells + mc) (slots + ms) Q (F0 m (pc + 3) ls (.int r :: rest))) : W p l e R s m args below meth c H locs cells slots Q (F0 m pc ls st0) := by
  intro T hT X
  rcases hr T hT X with ⟨v, st₀, t, T', L, h0, X', hL, e1, e2, ⟨⟨r, u, hv, hp, hb⟩, hF⟩, st⟩ | ⟨q, st₀, t, T', L, E, ce, h0, X', hL, e1, e2, ⟨u, hp, hb, hF⟩, hce, hcv, hcl, st⟩
  · cases hv
    obtain ⟨k1, k2, k3⟩ := vx_keep h0 e1 hS hA hf hL hF
    obtain ⟨t2, a1, b1⟩ := kk r u t T'.heap (locs ++ L) e1.symm (by rw [← e2]; exact X'.warmed.alike) hp hb k1 k2 k3 T' rfl X'
    exact ⟨t2, st t2 a1, b1⟩
  · obtain ⟨k1, k2, k3⟩ := vx_keep h0 e1 hS hAX hf hL hF
    obtain ⟨t2, a1, b1⟩ := kx E ce q u t T'.heap (locs ++ L) e1.symm (by rw [← e2]; exact X'.warmed.alike) hp hb k1 k2 k3 (by rw [e1]; exact hce) hcv hcl T' rfl X'
    exact ⟨t2, st.trans a1, b1⟩
theorem vx_calll {S SX : Type} {post : Int64 → S → Prop} {px : SX → Prop} {B : S → State → Prop} {BX : String → SX → State → Prop} {AX : Nat → Prop} (hr : vx_Run p l e R s m args below meth c H locs cells slots mc ms (F0 m pc ls st0) rest (va_Ql post B A1 a) (vx_X px BX AX) free) (hS : va_S A0 H0 H locs) (hA : ∀ q, q < H.size → A1 q → A0 q) (hf : ∀ q, free q → A0 q) (hAX : ∀ q, q < H.size → AX q → A0 q)
    (kx : ∀ (E : String) (ce : Cell) (q9 : Addr) (u : SX) (t : State) (H1 : Heap) (locs1 : List Loc), t.heap = H1 → s.vm.Alike t.vm → px u → BX E u t → H.size ≤ H1.size → (∀ q : Nat, q < H.size → ¬ AX q → H1[q]? = H[q]?) → va_S A0 H0 H1 locs1 → H1[q9]? = some ce → ce.vm = .none → s.vm.findClass E = some ce.cls → vx_W p l e R s m args below meth c H1 locs1 (cells + mc) (slots + ms) Q (F0 m pc ls rest) q9)
    (kk : ∀ (r : Int64) (u : S) (t : State) (H1 : Heap) (locs1 : List Loc), t.heap = H1 → s.vm.Alike t.vm → post r u → B u t → H.size ≤ H1.size → (∀ q : Nat, q < H.size → ¬ A1 q → H1[q]? = H[q]?) → va_S A0 H0 H1 locs1 → W p l e R s m args below meth c H1 locs1 (cells + mc) (slots + ms) Q (F0 m (pc + 3) ls (.long r :: rest))) : W p l e R s m args below meth c H locs cells slots Q (F0 m pc ls st0) := by
  intro T hT X
  rcases hr T hT X with ⟨v, st₀, t, T', L, h0, X', hL, e1, e2, ⟨⟨r, u, hv, hp, hb⟩, hF⟩, st⟩ | ⟨q, st₀, t, T', L, E, ce, h0, X', hL, e1, e2, ⟨u, hp, hb, hF⟩, hce, hcv, hcl, st⟩
  · cases hv
    obtain ⟨k1, k2, k3⟩ := vx_keep h0 e1 hS hA hf hL hF
    obtain ⟨t2, a1, b1⟩ := kk r u t T'.heap (locs ++ L) e1.symm (by rw [← e2]; exact X'.warmed.alike) hp hb k1 k2 k3 T' rfl X'
    exact ⟨t2, st t2 a1, b1⟩
  · obtain ⟨k1, k2, k3⟩ := vx_keep h0 e1 hS hAX hf hL hF
    obtain ⟨t2, a1, b1⟩ := kx E ce q u t T'.heap (locs ++ L) e1.symm (by rw [← e2]; exact X'.warmed.alike) hp hb k1 k2 k3 (by rw [e1]; exact hce) hcv hcl T' rfl X'
    exact ⟨t2, st.trans a1, b1⟩
theorem vx_callf {S SX : Type} {post : UInt32 → S → Prop} {px : SX → Prop} {B : S → State → Prop} {BX : String → SX → State → Prop} {AX : Nat → Prop} (hr : vx_Run p l e R s m args below meth c H locs cells slots mc ms (F0 m pc ls st0) rest (va_Qf post B A1 a) (vx_X px BX AX) free) (hS : va_S A0 H0 H locs) (hA : ∀ q, q < H.size → A1 q → A0 q) (hf : ∀ q, free q → A0 q) (hAX : ∀ q, q < H.size → AX q → A0 q)
    (kx : ∀ (E : String) (ce : Cell) (q9 : Addr) (u : SX) (t : State) (H1 : Heap) (locs1 : List Loc), t.heap = H1 → s.vm.Alike t.vm → px u → BX E u t → H.size ≤ H1.size → (∀ q : Nat, q < H.size → ¬ AX q → H1[q]? = H[q]?) → va_S A0 H0 H1 locs1 → H1[q9]? = some ce → ce.vm = .none → s.vm.findClass E = some ce.cls → vx_W p l e R s m args below meth c H1 locs1 (cells + mc) (slots + ms) Q (F0 m pc ls rest) q9)
    (kk : ∀ (r : UInt32) (u : S) (t : State) (H1 : Heap) (locs1 : List Loc), t.heap = H1 → s.vm.Alike t.vm → post r u → B u t → H.size ≤ H1.size → (∀ q : Nat, q < H.size → ¬ A1 q → H1[q]? = H[q]?) → va_S A0 H0 H1 locs1 → W p l e R s m args below meth c H1 locs1 (cells + mc) (slots + ms) Q (F0 m (pc + 3) ls (.float r :: rest))) : W p l e R s m args below meth c H locs cells slots Q (F0 m pc ls st0) := by
  intro T hT X
  rcases hr T hT X with ⟨v, st₀, t, T', L, h0, X', hL, e1, e2, ⟨⟨r, u, hv, hp, hb⟩, hF⟩, st⟩ | ⟨q, st₀, t, T', L, E, ce, h0, X', hL, e1, e2, ⟨u, hp, hb, hF⟩, hce, hcv, hcl, st⟩
  · cases hv
    obtain ⟨k1, k2, k3⟩ := vx_keep h0 e1 hS hA hf hL hF
    obtain ⟨t2, a1, b1⟩ := kk r u t T'.heap (locs ++ L) e1.symm (by rw [← e2]; exact X'.warmed.alike) hp hb k1 k2 k3 T' rfl X'
    exact ⟨t2, st t2 a1, b1⟩
  · obtain ⟨k1, k2, k3⟩ := vx_keep h0 e1 hS hAX hf hL hF
    obtain ⟨t2, a1, b1⟩ := kx E ce q u t T'.heap (locs ++ L) e1.symm (by rw [← e2]; exact X'.warmed.alike) hp hb k1 k2 k3 (by rw [e1]; exact hce) hcv hcl T' rfl X'
    exact ⟨t2, st.trans a1, b1⟩
theorem vx_calld {S SX : Type} {post : UInt64 → S → Prop} {px : SX → Prop} {B : S → State → Prop} {BX : String → SX → State → Prop} {AX : Nat → Prop} (hr : vx_Run p l e R s m args below meth c H locs cells slots mc ms (F0 m pc ls st0) rest (va_Qd post B A1 a) (vx_X px BX AX) free) (hS : va_S A0 H0 H locs) (hA : ∀ q, q < H.size → A1 q → A0 q) (hf : ∀ q, free q → A0 q) (hAX : ∀ q, q < H.size → AX q → A0 q)
    (kx : ∀ (E : String) (ce : Cell) (q9 : Addr) (u : SX) (t : State) (H1 : Heap) (locs1 : List Loc), t.heap = H1 → s.vm.Alike t.vm → px u → BX E u t → H.size ≤ H1.size → (∀ q : Nat, q < H.size → ¬ AX q → H1[q]? = H[q]?) → va_S A0 H0 H1 locs1 → H1[q9]? = some ce → ce.vm = .none → s.vm.findClass E = some ce.cls → vx_W p l e R s m args below meth c H1 locs1 (cells + mc) (slots + ms) Q (F0 m pc ls rest) q9)
    (kk : ∀ (r : UInt64) (u : S) (t : State) (H1 : Heap) (locs1 : List Loc), t.heap = H1 → s.vm.Alike t.vm → post r u → B u t → H.size ≤ H1.size → (∀ q : Nat, q < H.size → ¬ A1 q → H1[q]? = H[q]?) → va_S A0 H0 H1 locs1 → W p l e R s m args below meth c H1 locs1 (cells + mc) (slots + ms) Q (F0 m (pc + 3) ls (.double r :: rest))) : W p l e R s m args below meth c H locs cells slots Q (F0 m pc ls st0) := by
  intro T hT X
  rcases hr T hT X with ⟨v, st₀, t, T', L, h0, X', hL, e1, e2, ⟨⟨r, u, hv, hp, hb⟩, hF⟩, st⟩ | ⟨q, st₀, t, T', L, E, ce, h0, X', hL, e1, e2, ⟨u, hp, hb, hF⟩, hce, hcv, hcl, st⟩
  · cases hv
    obtain ⟨k1, k2, k3⟩ := vx_keep h0 e1 hS hA hf hL hF
    obtain ⟨t2, a1, b1⟩ := kk r u t T'.heap (locs ++ L) e1.symm (by rw [← e2]; exact X'.warmed.alike) hp hb k1 k2 k3 T' rfl X'
    exact ⟨t2, st t2 a1, b1⟩
  · obtain ⟨k1, k2, k3⟩ := vx_keep h0 e1 hS hAX hf hL hF
    obtain ⟨t2, a1, b1⟩ := kx E ce q u t T'.heap (locs ++ L) e1.symm (by rw [← e2]; exact X'.warmed.alike) hp hb k1 k2 k3 (by rw [e1]; exact hce) hcv hcl T' rfl X'
    exact ⟨t2, st.trans a1, b1⟩
theorem vx_callv {S SX : Type} {post : S → Prop} {px : SX → Prop} {B : S → State → Prop} {BX : String → SX → State → Prop} {AX : Nat → Prop} (hr : vx_Run p l e R s m args below meth c H locs cells slots mc ms (F0 m pc ls st0) rest (va_Qv post B A1 a) (vx_X px BX AX) free) (hS : va_S A0 H0 H locs) (hA : ∀ q, q < H.size → A1 q → A0 q) (hf : ∀ q, free q → A0 q) (hAX : ∀ q, q < H.size → AX q → A0 q)
    (kx : ∀ (E : String) (ce : Cell) (q9 : Addr) (u : SX) (t : State) (H1 : Heap) (locs1 : List Loc), t.heap = H1 → s.vm.Alike t.vm → px u → BX E u t → H.size ≤ H1.size → (∀ q : Nat, q < H.size → ¬ AX q → H1[q]? = H[q]?) → va_S A0 H0 H1 locs1 → H1[q9]? = some ce → ce.vm = .none → s.vm.findClass E = some ce.cls → vx_W p l e R s m args below meth c H1 locs1 (cells + mc) (slots + ms) Q (F0 m pc ls rest) q9)
    (kk : ∀ (u : S) (t : State) (H1 : Heap) (locs1 : List Loc), t.heap = H1 → s.vm.Alike t.vm → post u → B u t → H.size ≤ H1.size → (∀ q : Nat, q < H.size → ¬ A1 q → H1[q]? = H[q]?) → va_S A0 H0 H1 locs1 → W p l e R s m args below meth c H1 locs1 (cells + mc) (slots + ms) Q (F0 m (pc + 3) ls (rest))) : W p l e R s m args below meth c H locs cells slots Q (F0 m pc ls st0) := by
  intro T hT X
  rcases hr T hT X with ⟨v, st₀, t, T', L, h0, X', hL, e1, e2, ⟨⟨u, hv, hp, hb⟩, hF⟩, st⟩ | ⟨q, st₀, t, T', L, E, ce, h0, X', hL, e1, e2, ⟨u, hp, hb, hF⟩, hce, hcv, hcl, st⟩
  · cases hv
    obtain ⟨k1, k2, k3⟩ := vx_keep h0 e1 hS hA hf hL hF
    obtain ⟨t2, a1, b1⟩ := kk u t T'.heap (locs ++ L) e1.symm (by rw [← e2]; exact X'.warmed.alike) hp hb k1 k2 k3 T' rfl X'
    exact ⟨t2, st t2 a1, b1⟩
  · obtain ⟨k1, k2, k3⟩ := vx_keep h0 e1 hS hAX hf hL hF
    obtain ⟨t2, a1, b1⟩ := kx E ce q u t T'.heap (locs ++ L) e1.symm (by rw [← e2]; exact X'.warmed.alike) hp hb k1 k2 k3 (by rw [e1]; exact hce) hcv hcl T' rfl X'
    exact ⟨t2, st.trans a1, b1⟩
/-- caught by the row x of this method's table; the rows ahead don't take it -/
theorem vx_catch {own name : String} {E : String} {ce : Cell} {q : Addr} (hown : s.vm.findClass own = some m.cls) (pre : List ExceptionTableEntry) (x : ExceptionTableEntry) (suf : List ExceptionTableEntry) (hsplit : c.exceptionTable.toList = pre ++ x :: suf)
    (hpass : ∀ z ∈ pre, covers z pc = false ∨ (z.catchType ≠ 0 ∧ ∃ nm : String, (Cond.classLink own z.catchType nm).before args s = true ∧ va_Nc E nm s)) (hx : covers x pc = true) (h0 : x.catchType ≠ 0)
    (hlink : (Cond.classLink own x.catchType name).before args s = true) (hcast : (Cond.castable E name).before args s = true) (hcell : H[q]? = some ce) (hv : ce.vm = .none) (hcl : s.vm.findClass E = some ce.cls)
    (kk : W p l e R s m args below meth c H locs cells slots Q (F0 m x.handlerPc ls [.ref q])) : vx_W p l e R s m args below meth c H locs cells slots Q (F0 m pc ls rest) q := by
  intro T hT X
  have hpl : e.platform.magicAccessors = ({} : Platform).magicAccessors := by rw [X.admits.platform]
  obtain ⟨c3, c4, hc3, hc4, hasg⟩ := Cond.castable_spec hcast
  cases Option.some.inj (hc3.symm.trans hcl)
  obtain ⟨c5, hc5, hcl5⟩ := Cond.classLink_spec hown hlink e.platform hpl
  cases Option.some.inj (hc4.symm.trans hc5)
  obtain ⟨vm', X', st⟩ := X.thenCaughtThrough q (g := F0 m pc ls rest) rfl (Steps.refl _) (by rw [hT]; exact hcell) (by rw [hv]; rfl) (by obtain ⟨k9, h9, -⟩ := Vm.findClass_spec hcl; exact ⟨k9, h9⟩) pre x suf hsplit
    (fun z hz => by
      rcases hpass z hz with h | ⟨hz0, nm, hl1, hn1⟩
      · exact Or.inl h
      · obtain ⟨c6, hc6, hcl6⟩ := Cond.classLink_spec hown hl1 e.platform hpl
        obtain ⟨a8, b8, h1, h2, h3⟩ := hn1
        cases Option.some.inj (h1.symm.trans hcl)
        cases Option.some.inj (h2.symm.trans hc6)
        exact Or.inr ⟨hz0, _, hcl6, h3⟩) hx (Or.inr ⟨h0, c4, hcl5, hasg⟩)
  obtain ⟨t, a1, b1⟩ := kk (T.setVm vm') hT X'
  exact ⟨t, st.trans a1, b1⟩
end Rows
section Ends
variable {p : Program} {l : Launch} {e : Env} {R : Room} {s : State} {m : MethodId} {args : Array Value} {below : List Frame} {meth : Method} {c : Code} {H : Heap} {locs : List Loc} {cells slots : Nat} {Q : State → Prop}
variable {mc ms : Nat} {free : Addr → Prop} {A0 A1 : Nat → Prop} {H0 : Heap} {a : Array Value} {ls : Array Slot} {st0 rest : List Value}
variable {Qc : Array Value → State → Outcome → State → Prop} {XC : String → State → State → Prop}
/-- what a body that may throw owes at its end -/
def vx_MQ (below : List Frame) (Qc : Array Value → State → Outcome → State → Prop) (XC : String → State → State → Prop) (a : Array Value) (s : State) (mc ms : Nat) (free : Addr → Prop) : State → Prop := fun t =>
  ∃ o, t.status = .running ∧ Ended t below o ∧ vx_Q Qc XC mc ms free a s o t
theorem vx_ret {g : JFrame} {mc ms : Nat} (k : W p l e R s m args below meth c H locs cells slots (MQ below Qc args s mc ms free) g) : W p l e R s m args below meth c H locs cells slots (vx_MQ below Qc XC args s mc ms free) g := by
  intro T hT X
  obtain ⟨t, a1, o, b1, b2, b3, b4⟩ := k T hT X
  exact ⟨t, a1, o, b1, b2, Or.inl ⟨b3, b4⟩⟩
/-- not caught here: it goes on to the caller -/
theorem vx_widen {g : JFrame} {q : Addr} {k n : Nat} (h1 : cells ≤ k) (h2 : slots ≤ n) (kk : vx_W p l e R s m args below meth c H locs k n Q g q) : vx_W p l e R s m args below meth c H locs cells slots Q g q := fun T hT X => kk T hT (stand_widen X h1 h2)
theorem vx_out {pc : Nat} {E : String} {ce : Cell} {q : Addr} {mc ms : Nat} (hout : ∀ x ∈ c.exceptionTable.toList, covers x pc = false) (hlocks : meth.locks = false) (hcell : H[q]? = some ce) (hv : ce.vm = .none) (hcl : s.vm.findClass E = some ce.cls)
    (hx : ∀ t : State, t.heap = H → s.vm.Alike t.vm → XC E s t) (hf : ∀ z ∈ locs, free z.base) (hc : cells ≤ mc) (hs : slots ≤ ms) :
    vx_W p l e R s m args below meth c H locs cells slots (vx_MQ below Qc XC args s mc ms free) (F0 m pc ls rest) q := by
  intro T hT X
  obtain ⟨st1, hrun, hend, hW, hsm⟩ := X.leaveThrown q (g := F0 m pc ls rest) rfl rfl rfl hout hlocks
  have hcell9 : (T.setFrames (.throwing q :: below)).heap[q]? = some ce := by
    show T.heap[q]? = some ce
    rw [hT]; exact hcell
  exact ⟨_, st1, .threw q, hrun, hend, Or.inr ⟨q, rfl, E, ce, locs, hx _ hT hW.alike, hcell9, hv, hcl, hW, hsm.mono hc hs, hf⟩⟩
theorem vx_frame {U : State} {k n : Nat} (h : s.sameButNew ({ U with vm := s.vm } : State) locs k n) : s.heap.size ≤ U.heap.size ∧ ∀ q : Nat, q < s.heap.size → (∀ z ∈ locs, z.base ≠ q) → U.heap[q]? = s.heap[q]? := by
  obtain ⟨-, h2, -, -, -, h6⟩ := h
  refine ⟨h2, fun q hq hz => ?_⟩
  obtain ⟨c9, e1, e2, e3, e4⟩ := h6 q _ (Array.getElem?_eq_getElem hq)
  have hs : c9.slots = (s.heap[q]).slots := Array.ext_getElem? fun i => e4 i fun hm => hz _ hm rfl
  have h9 : c9 = s.heap[q] := by
    rw [hs] at e2
    exact e2
  have e5 : U.heap[q]? = some c9 := e1
  rw [e5, h9, Array.getElem?_eq_getElem hq]
/-- the words of a throw but the four that speak of the heap -/
def vx_no (w : Cond) : Bool := decide (w ≠ .isRef (.static Bundle.tN "UNASSIGNED_STACK" Bundle.steD)) && decide (w ≠ .isRef (.static Bundle.tN "SUPPRESSED_SENTINEL" Bundle.listD)) && decide (w ≠ .laysStatic Bundle.tN "UNASSIGNED_STACK" Bundle.steD) && decide (w ≠ .laysStatic Bundle.tN "SUPPRESSED_SENTINEL" Bundle.listD)
def vx_at0 (own : String) (ic : Nat) (X : String) (names : List String) : List Cond := (Bundle.ownAtoms0 own ic X names).filter vx_no
def vx_atS (own : String) (ic : Nat) (X : String) (names : List String) : List Cond := (Bundle.ownAtoms own ic X names).filter vx_no
/-- a word that the tables alone decide, or a good one -/
def vx_ot (w : Cond) : Bool := w.onTables || goodWord w
theorem vx_ot_at {args a' : Array Value} {s U : State} {w : Cond} (hW : s.WarmedH U.vm) (hvm : s.vm = U.vm) (hg : vx_ot w = true) (h : w.before args s = true) : w.before a' U = true := by
  simp only [vx_ot, Bool.or_eq_true] at hg
  rcases hg with hg | hg
  · exact va_tabs hg hvm h
  · exact word_at hW (good_of_word hg) h
/-- a list's words: the good ones out of the method's own list, the others by premises of their own -/
theorem vx_hat {args : Array Value} {s : State} {L B : List Cond} (h1 : ∀ w ∈ L.filter goodWord, w.before args s = true) (h2 : ∀ w ∈ L.filter (fun w => !goodWord w), w ∈ B) (h3 : ∀ w ∈ B, w.before args s = true) : ∀ w ∈ L, w.before args s = true := by
  intro w hw
  by_cases g : goodWord w = true
  · exact h1 w (List.mem_filter.mpr ⟨hw, g⟩)
  · refine h3 w (h2 w (List.mem_filter.mpr ⟨hw, ?_⟩))
    show (!goodWord w) = true
    cases hgw : goodWord w
    · rfl
    · exact absurd hgw g
theorem vx_c {args : Array Value} {s : State} {w : Cond} {B : List Cond} (h : w.before args s = true) (t : ∀ w ∈ B, w.before args s = true) : ∀ w' ∈ w :: B, w'.before args s = true := fun w' h' => (List.mem_cons.mp h').elim (fun e => by rw [e]; exact h) (t w')
theorem vx_n {args : Array Value} {s : State} : ∀ w ∈ ([] : List Cond), w.before args s = true := fun _ h => nomatch h
theorem vx_own {args : Array Value} {s : State} {L : List Cond} (h1 : ∀ w ∈ L.filter vx_no, w.before args s = true)
    (hU : (Cond.isRef (.static Bundle.tN "UNASSIGNED_STACK" Bundle.steD)).before args s = true) (hN : (Cond.isRef (.static Bundle.tN "SUPPRESSED_SENTINEL" Bundle.listD)).before args s = true)
    (lU : (Cond.laysStatic Bundle.tN "UNASSIGNED_STACK" Bundle.steD).before args s = true) (lN : (Cond.laysStatic Bundle.tN "SUPPRESSED_SENTINEL" Bundle.listD).before args s = true) : ∀ w ∈ L, w.before args s = true := by
  intro w hw
  by_cases e1 : w = .isRef (.static Bundle.tN "UNASSIGNED_STACK" Bundle.steD)
  · rw [e1]; exact hU
  · by_cases e2 : w = .isRef (.static Bundle.tN "SUPPRESSED_SENTINEL" Bundle.listD)
    · rw [e2]; exact hN
    · by_cases e3 : w = .laysStatic Bundle.tN "UNASSIGNED_STACK" Bundle.steD
      · rw [e3]; exact lU
      · by_cases e4 : w = .laysStatic Bundle.tN "SUPPRESSED_SENTINEL" Bundle.listD
        · rw [e4]; exact lN
        · exact h1 w (List.mem_filter.mpr ⟨hw, by unfold vx_no; rw [decide_eq_true e1, decide_eq_true e2, decide_eq_true e3, decide_eq_true e4]; rfl⟩)
/-- where a static field lies, its class's statics cell in H -/
def vx_L (C n d : String) (A : Nat → Prop) (U : State) (H : Heap) : Prop := ∃ (c : ClassId) (k : Class) (i : Nat) (f : Field) (a : Nat) (cell : Cell), U.vm.findClass C = some c ∧ U.fieldFound? C n d = some (c, k, i, f) ∧ f.isStatic = true ∧ k.statics = some a ∧ H[a]? = some cell ∧ cell.vm.isStatics = true ∧ cell.cls = c ∧ f.slot < cell.slots.size ∧ k.staticTypes[f.slot]? = some f.type ∧ ¬ A a
theorem vx_L.moved {C n d : String} {A : Nat → Prop} {u U : State} {H : Heap} (hvm : u.vm.Alike U.vm) (h : vx_L C n d A u H) : vx_L C n d A U H := by
  obtain ⟨c, k, i, f, a, cell, h1, h2, h3, h4, h5, h6, h7, h8, h9, h10⟩ := h
  obtain ⟨k', hi', he⟩ := State.fieldFound?_setVm hvm h2
  exact ⟨c, k', i, f, a, cell, by rw [hvm.findClass]; exact h1, hi', h3, by rw [he]; exact h4, h5, h6, h7, h8, by rw [he]; exact h9, h10⟩
theorem vx_L.kept {C n d : String} {A : Nat → Prop} {U : State} {H H1 : Heap} (h : vx_L C n d A U H) (hq : ∀ a : Nat, a < H.size → ¬ A a → H1[a]? = H[a]?) : vx_L C n d A U H1 := by
  obtain ⟨c, k, i, f, a, cell, h1, h2, h3, h4, h5, h6, h7, h8, h9, h10⟩ := h
  exact ⟨c, k, i, f, a, cell, h1, h2, h3, h4, by rw [hq a (Array.getElem?_eq_some_iff.mp h5).1 h10]; exact h5, h6, h7, h8, h9, h10⟩
theorem vx_L.narrow {C n d : String} {A B : Nat → Prop} {U : State} {H : Heap} (h : vx_L C n d A U H) (hAB : ∀ q, B q → A q) : vx_L C n d B U H := by
  obtain ⟨c, k, i, f, a, cell, h1, h2, h3, h4, h5, h6, h7, h8, h9, h10⟩ := h
  exact ⟨c, k, i, f, a, cell, h1, h2, h3, h4, h5, h6, h7, h8, h9, fun z => h10 (hAB _ z)⟩
theorem vx_L.word {C n d : String} {A : Nat → Prop} {s : State} {args : Array Value} (h : vx_L C n d A s s.heap) : (Cond.laysStatic C n d).before args s = true := by
  obtain ⟨c, k, i, f, a, cell, h1, h2, h3, h4, h5, h6, h7, h8, h9, -⟩ := h
  show (Cond.laysStatic C n d).holds args s none s [] = true
  exact Cond.laysStatic_of h1 h2 h3 h4 h5 h6 h7 h8 h9
/-- .. and what it holds: null or some reference -/
def vx_Zq (C n d : String) (A : Nat → Prop) (U : State) (H : Heap) : Prop := va_Zq C n d A U H ∧ vx_L C n d A U H
theorem vx_Zq.moved {C n d : String} {A : Nat → Prop} {u U : State} {H : Heap} (hvm : u.vm.Alike U.vm) (h : vx_Zq C n d A u H) : vx_Zq C n d A U H := ⟨va_Zq.moved hvm h.1, vx_L.moved hvm h.2⟩
theorem vx_Zq.kept {C n d : String} {A : Nat → Prop} {U : State} {H H1 : Heap} (h : vx_Zq C n d A U H) (hq : ∀ a : Nat, a < H.size → ¬ A a → H1[a]? = H[a]?) : vx_Zq C n d A U H1 := ⟨va_Zq.kept h.1 hq, vx_L.kept h.2 hq⟩
theorem vx_Zq.narrow {C n d : String} {A B : Nat → Prop} {U : State} {H : Heap} (h : vx_Zq C n d A U H) (hAB : ∀ q, B q → A q) : vx_Zq C n d B U H := ⟨va_Zq.narrow h.1 hAB, vx_L.narrow h.2 hAB⟩
theorem vx_Zqof {args : Array Value} {s : State} {C n d : String} {A : Nat → Prop} (hl : (Cond.laysStatic C n d).before args s = true) (hini : (Cond.initialized C).before args s = true) (h : (Cond.isRef (.static C n d)).before args s = true) (hA : ∀ a : Nat, a < s.heap.size → ¬ A a) : vx_Zq C n d A s s.heap := by
  refine ⟨va_Zqof hl hini h hA, ?_⟩
  obtain ⟨c, k, i, f, a, cell, h1, h2, h3, h4, h5, h6, h7, h8, h9⟩ := Cond.laysStatic_spec hl
  exact ⟨c, k, i, f, a, cell, h1, h2, h3, h4, h5, h6, h7, h8, h9, hA a (Array.getElem?_eq_some_iff.mp h5).1⟩
theorem vx_isRef {C n d : String} {v : Value} {A : Nat → Prop} {s : State} {args : Array Value} (h : va_Z C n d v A s s.heap) (hv : v.isRef = true) : (Cond.isRef (.static C n d)).before args s = true := by
  obtain ⟨cf, kf, fi, f, a, cell, h1, h2, h3, h4, h5, h6, h7, -⟩ := h
  have he : (Term.static C n d).eval args s none [] s = some v := by
    simp [Term.eval, State.fieldNamed?, h1, h2, h4, h5, h6, h7]
  simp only [Cond.before, Cond.holds, Cond.value, he]
  cases v <;> simp_all [Value.isRef]
theorem vx_isRefq {C n d : String} {A : Nat → Prop} {s : State} {args : Array Value} (h : va_Zq C n d A s s.heap) : (Cond.isRef (.static C n d)).before args s = true := by
  rcases h with h | ⟨t, h⟩
  · exact vx_isRef h rfl
  · exact vx_isRef h rfl
/-- the same frame, seen from here: as if the method were called anew in this heap -/
theorem vx_rebase {T : State} (X : Stand p l e R s m args below meth c T locs cells slots) {R' : Room} (hf : R'.frames ≤ R.frames) (hl : R'.locals ≤ R.locals) (hc : cells + R'.cells ≤ R.cells) (hs : slots + R'.slots ≤ R.slots) :
    Stand p l e R' ((T.setVm s.vm).setFrames (.invoking m args :: below)) m args below meth c T [] 0 0 := by
  have htop : (T.setVm s.vm).topJava?.isSome := X.here.top
  have hF : ((T.setVm s.vm).setFrames (.invoking m args :: below)).frames = .invoking m args :: below := State.frames_setFrames _ (State.cur_lt_of_top htop)
  obtain ⟨g₀, hg0⟩ := Option.isSome_iff_exists.mp htop
  obtain ⟨r, hr⟩ := State.topJava?_eq_some.mp hg0
  have hl9 : e.platform.stackLimits (T.setVm s.vm).me = e.platform.stackLimits s.me := X.limits
  have hb9 : (T.setVm s.vm).me.stackBytes = s.me.stackBytes := X.bytes
  refine ⟨X.admits, X.cas, X.clock, hF, ?_, X.hears, X.method, X.code, X.here, X.tail, X.warmed, ?_, ?_, ?_⟩
  · have h := X.room
    have hU : ((T.setVm s.vm).setFrames (.invoking m args :: below)).localsInUse = s.localsInUse := by
      rw [State.localsInUse_invoking hF (meth := meth) (c := c) X.method X.code, State.localsInUse_invoking X.frames X.method X.code]
    simp only [State.hasRoom, Bool.and_eq_true, decide_eq_true_eq] at h ⊢
    obtain ⟨⟨⟨⟨h1, h2, h3, h4, h5, h6⟩, h7⟩, h8⟩, h9⟩ := h
    rw [X.frames, List.length_cons] at h2 h3
    have q1 := X.heapSize
    have q2 := X.used
    simp only [hF, hU, List.length_cons, State.stackLimits_setFrames, State.stackBytes_setFrames, hl9, hb9]
    refine ⟨⟨⟨⟨by omega, by omega, by omega, by omega, by omega, h6⟩, ?_⟩, ?_⟩, X.book⟩
    · show T.heap.size + R'.cells ≤ e.platform.maxCells
      omega
    · show T.slotsUsed + R'.slots ≤ e.platform.maxSlots
      omega
  · rw [State.stackLimits_setFrames]; rfl
  · rw [State.stackBytes_setFrames]; rfl
  · refine ⟨?_, Nat.le_refl _, Nat.le_refl _, ?_, ?_, fun a c9 h9 => ⟨c9, h9, rfl, rfl, fun _ _ => rfl⟩⟩
    · obtain ⟨t, ht, -⟩ := State.frames_cons hr
      show T.setVm s.vm = { ((T.setVm s.vm).setFrames (.invoking m args :: below)).setFrames (T.setVm s.vm).frames with heap := T.heap, slotsUsed := T.slotsUsed }
      rw [State.setFrames_setFrames, State.setFrames_self ht]
      rfl
    · show T.slotsUsed = T.slotsUsed + ((T.heap.toList.drop T.heap.size).map (·.slots.size)).sum
      rw [List.drop_eq_nil_of_le (Nat.le_of_eq Array.length_toList)]
      rfl
    · show ((T.heap.toList.drop T.heap.size).map (·.slots.size)).sum ≤ 0
      rw [List.drop_eq_nil_of_le (Nat.le_of_eq Array.length_toList)]
      exact Nat.le_refl _
/-- 'throw new E()': new; dup; invokespecial; athrow -/
theorem vx_throw0 {cc : ByteArray} {pc : Nat} (hexec : p.tables.exec = Jvm.exec) (hb : c.code = cc) (hl : l.stackTraces = false) {own cls : String} {names : List String} {ik ic mc ms : Nat} {A : Nat → Prop}
    (hown : s.vm.findClass own = some m.cls) (hcls : Bundle.fit cls = true) (hnames : ∀ n ∈ names, Bundle.fit n = true)
    (hk : (Cond.classLink own ik cls).before args s = true) (hini : (Cond.initialized cls).before args s = true) (hat : ∀ w ∈ vx_at0 own ic cls names, w.before args s = true)
    (hgood : ∀ w ∈ Cond.classLink own ik cls :: Cond.initialized cls :: vx_at0 own ic cls names, vx_ot w = true)
    (hU : vx_Zq Bundle.tN "UNASSIGNED_STACK" Bundle.steD A s s.heap) (hN : vx_Zq Bundle.tN "SUPPRESSED_SENTINEL" Bundle.listD A s s.heap) (hS : va_S A s.heap H locs) (hsize : ls.size = c.maxLocals)
    (d0 : decode cc pc = .ok (.new ik, 3)) (d3 : decode cc (pc + 3) = .ok (.dup, 1)) (d4 : decode cc (pc + 4) = .ok (.invokespecial ic, 3)) (d7 : decode cc (pc + 7) = .ok (.athrow, 1))
    (hout : ∀ x ∈ c.exceptionTable.toList, covers x (pc + 7) = false)
    (hRframes : names.length + 3 < R.frames) (hRlocals : (rest.map fun v => v.category).sum + (13 * (names.length + 1) + 42) ≤ R.locals) (hRcells : cells + 1 ≤ R.cells) (hRslots : slots + 6 ≤ R.slots) (hlocks : meth.locks = false)
    (hx : ∀ t : State, s.vm.Alike t.vm → H.size ≤ t.heap.size → (∀ q : Nat, q < H.size → t.heap[q]? = H[q]?) → XC cls s t)
    (hf : ∀ z ∈ locs, free z.base) (hc : cells + 1 ≤ mc) (hs : slots + 6 ≤ ms) :
    W p l e R s m args below meth c H locs cells slots (vx_MQ below Qc XC args s mc ms free) (F0 m pc ls rest) := by
  intro T hT X
  have htr : e.platform.stackTraces = false := (show e.platform.stackTraces = l.stackTraces by rw [X.admits.platform]).trans hl
  have Y := vx_rebase X (R' := { frames := R.frames, locals := R.locals, cells := 1, slots := 6 }) (Nat.le_refl _) (Nat.le_refl _) hRcells hRslots
  obtain ⟨s', hA⟩ : ∃ z, z = (T.setVm s.vm).setFrames (.invoking m args :: below) := ⟨_, rfl⟩
  rw [← hA] at Y
  have hvm : s'.vm = s.vm := by rw [hA]; rfl
  have hhp : s'.heap = H := by rw [hA]; exact hT
  have hW0 : s.WarmedH s'.vm := by rw [hvm]; exact State.WarmedH.refl s
  have hat' : ∀ w ∈ vx_at0 own ic cls names, w.before args s' = true := fun w hw => vx_ot_at hW0 hvm.symm (hgood w (List.mem_cons_of_mem _ (List.mem_cons_of_mem _ hw))) (hat w hw)
  have hk' : (Cond.classLink own ik cls).before args s' = true := vx_ot_at hW0 hvm.symm (hgood _ List.mem_cons_self) hk
  have hini' : (Cond.initialized cls).before args s' = true := vx_ot_at hW0 hvm.symm (hgood _ (List.mem_cons_of_mem _ List.mem_cons_self)) hini
  have hU' : vx_Zq Bundle.tN "UNASSIGNED_STACK" Bundle.steD A s' s'.heap := by rw [hhp]; exact vx_Zq.moved hW0.alike (hU.kept hS.2.1)
  have hN' : vx_Zq Bundle.tN "SUPPRESSED_SENTINEL" Bundle.listD A s' s'.heap := by rw [hhp]; exact vx_Zq.moved hW0.alike (hN.kept hS.2.1)
  have h : ∀ w ∈ Bundle.ownAtoms0 own ic cls names, w.before args s' = true := vx_own hat' (vx_isRefq hU'.1) (vx_isRefq hN'.1) hU'.2.word hN'.2.word
  have hown' : s'.vm.findClass own = some m.cls := by rw [hvm]; exact hown
  have hins : (Cond.instantiable cls 6).before args s' = true := h _ (by simp [Bundle.ownAtoms0])
  obtain ⟨vm₁, cX, kX, hfX, hkX, -, -, X₁, st1⟩ := Y.newCold hexec (own := own) (C := cls) (index := ik) (n := 6) hown' hk' hins hini'
    (g := F0 m pc ls rest) rfl (by rw [hb]; exact d0) (Nat.le_refl _) (Nat.le_refl _)
  generalize hT1 : (T.setVm vm₁).pushCell { cls := cX, slots := kX.instanceTypes.map defaultValue, vm := .none } = T1 at X₁ st1
  have hcat : (Value.ref T.heap.size).category = 1 := rfl
  have hcellA : T1.heap[T.heap.size]? = some (freshCell cX kX) := by rw [← hT1]; exact State.heap_pushCell_size _ _
  have d3' : decode c.code (pc + 3) = .ok (.dup, 1) := by rw [hb]; exact d3
  obtain ⟨U, hsteps, hrun, hend, hW, hsame, ce, hce, hO⟩ := X₁.ctorThrow0 hexec htr (own := own) (cls := cls) (names := names) (ic := ic) hown' hcls hnames h (fun x hx => nomatch hx) hfX hkX hcellA (by rw [hhp, hT]; exact Nat.le_refl _)
    (g := { method := m, pc := pc + 4, locals := ls, stack := .ref T.heap.size :: .ref T.heap.size :: rest, locked := none }) rfl hsize rfl rfl (rest := rest) rfl
    (by rw [hb]; exact d4) (by rw [hb]; exact d7) hout hRframes (by simp only [List.map_cons, List.sum_cons, hcat]; omega) hlocks
  obtain ⟨f1, f2⟩ := vx_frame hsame
  rw [hhp] at f1 f2
  have hWs : s.WarmedH U.vm := State.WarmedH.trans hW0 hW
  have hcl : s.vm.findClass cls = some ce.cls := by
    have h9 := hO.cls
    rw [hvm] at h9
    exact h9
  have hall : s.sameButNew ({ U with vm := s.vm } : State) locs mc ms := by
    subst hA
    obtain ⟨e1, e2⟩ := hsame
    rw [State.setFrames_setFrames] at e1
    have h2 : (T.setVm s.vm).sameButNew ({ U with vm := s.vm } : State) [] (0 + 1) (0 + 6) := ⟨e1, e2⟩
    have h3 := X.same.trans h2
    rw [List.append_nil] at h3
    exact h3.mono hc hs
  refine ⟨U, ?_, .threw T.heap.size, hrun, hend, Or.inr ⟨T.heap.size, rfl, cls, ce, locs, hx U hWs.alike f1 (fun q hq => f2 q hq (fun z hz => nomatch hz)), hce, hO.vm, hcl, hWs, hall, hf⟩⟩
  refine st1 _ ?_
  show Steps p.tables e below (T1.setTop { method := m, pc := pc + 3, locals := ls, stack := .ref T.heap.size :: rest, locked := none }) _
  jvm_step X₁.here [X₁.here.top, hexec, d3', Value.category]
  exact hsteps
/-- 'throw new E("text")': new; dup; ldc; invokespecial; athrow -/
theorem vx_throwS {cc : ByteArray} {pc : Nat} (hexec : p.tables.exec = Jvm.exec) (hb : c.code = cc) (hl : l.stackTraces = false) {own cls text : String} {names : List String} {ik is ic mc ms sa : Nat} {A : Nat → Prop}
    (hown : s.vm.findClass own = some m.cls) (hcls : Bundle.fit cls = true) (hnames : ∀ n ∈ names, Bundle.fit n = true)
    (hk : (Cond.classLink own ik cls).before args s = true) (hini : (Cond.initialized cls).before args s = true) (hstr : vk_R own is text sa s) (hat : ∀ w ∈ vx_atS own ic cls names, w.before args s = true)
    (hgood : ∀ w ∈ Cond.classLink own ik cls :: Cond.initialized cls :: vx_atS own ic cls names, vx_ot w = true)
    (hU : vx_Zq Bundle.tN "UNASSIGNED_STACK" Bundle.steD A s s.heap) (hN : vx_Zq Bundle.tN "SUPPRESSED_SENTINEL" Bundle.listD A s s.heap) (hS : va_S A s.heap H locs) (hsize : ls.size = c.maxLocals)
    (d0 : decode cc pc = .ok (.new ik, 3)) (d3 : decode cc (pc + 3) = .ok (.dup, 1)) (d4 : decode cc (pc + 4) = .ok (.ldc is, 2)) (d6 : decode cc (pc + 6) = .ok (.invokespecial ic, 3)) (d9 : decode cc (pc + 9) = .ok (.athrow, 1))
    (hout : ∀ x ∈ c.exceptionTable.toList, covers x (pc + 9) = false)
    (hRframes : names.length + 3 < R.frames) (hRlocals : (rest.map fun v => v.category).sum + (13 * (names.length + 1) + 43) ≤ R.locals) (hRcells : cells + 1 ≤ R.cells) (hRslots : slots + 6 ≤ R.slots) (hlocks : meth.locks = false)
    (hx : ∀ t : State, s.vm.Alike t.vm → H.size ≤ t.heap.size → (∀ q : Nat, q < H.size → t.heap[q]? = H[q]?) → XC cls s t)
    (hf : ∀ z ∈ locs, free z.base) (hc : cells + 1 ≤ mc) (hs : slots + 6 ≤ ms) :
    W p l e R s m args below meth c H locs cells slots (vx_MQ below Qc XC args s mc ms free) (F0 m pc ls rest) := by
  intro T hT X
  have htr : e.platform.stackTraces = false := (show e.platform.stackTraces = l.stackTraces by rw [X.admits.platform]).trans hl
  have Y := vx_rebase X (R' := { frames := R.frames, locals := R.locals, cells := 1, slots := 6 }) (Nat.le_refl _) (Nat.le_refl _) hRcells hRslots
  obtain ⟨s', hA⟩ : ∃ z, z = (T.setVm s.vm).setFrames (.invoking m args :: below) := ⟨_, rfl⟩
  rw [← hA] at Y
  have hvm : s'.vm = s.vm := by rw [hA]; rfl
  have hhp : s'.heap = H := by rw [hA]; exact hT
  have hW0 : s.WarmedH s'.vm := by rw [hvm]; exact State.WarmedH.refl s
  have hat' : ∀ w ∈ vx_atS own ic cls names, w.before args s' = true := fun w hw => vx_ot_at hW0 hvm.symm (hgood w (List.mem_cons_of_mem _ (List.mem_cons_of_mem _ hw))) (hat w hw)
  have hk' : (Cond.classLink own ik cls).before args s' = true := vx_ot_at hW0 hvm.symm (hgood _ List.mem_cons_self) hk
  have hini' : (Cond.initialized cls).before args s' = true := vx_ot_at hW0 hvm.symm (hgood _ (List.mem_cons_of_mem _ List.mem_cons_self)) hini
  have hU' : vx_Zq Bundle.tN "UNASSIGNED_STACK" Bundle.steD A s' s'.heap := by rw [hhp]; exact vx_Zq.moved hW0.alike (hU.kept hS.2.1)
  have hN' : vx_Zq Bundle.tN "SUPPRESSED_SENTINEL" Bundle.listD A s' s'.heap := by rw [hhp]; exact vx_Zq.moved hW0.alike (hN.kept hS.2.1)
  have h : ∀ w ∈ Bundle.ownAtoms own ic cls names, w.before args s' = true := vx_own hat' (vx_isRefq hU'.1) (vx_isRefq hN'.1) hU'.2.word hN'.2.word
  have hown' : s'.vm.findClass own = some m.cls := by rw [hvm]; exact hown
  have hins : (Cond.instantiable cls 6).before args s' = true := h _ (by simp [Bundle.ownAtoms])
  obtain ⟨vm₁, cX, kX, hfX, hkX, -, -, X₁, st1⟩ := Y.newCold hexec (own := own) (C := cls) (index := ik) (n := 6) hown' hk' hins hini'
    (g := F0 m pc ls rest) rfl (by rw [hb]; exact d0) (Nat.le_refl _) (Nat.le_refl _)
  generalize hT1 : (T.setVm vm₁).pushCell { cls := cX, slots := kX.instanceTypes.map defaultValue, vm := .none } = T1 at X₁ st1
  have hcat : (Value.ref T.heap.size).category = 1 := rfl
  have hcellA : T1.heap[T.heap.size]? = some (freshCell cX kX) := by rw [← hT1]; exact State.heap_pushCell_size _ _
  have d3' : decode c.code (pc + 3) = .ok (.dup, 1) := by rw [hb]; exact d3
  have d4' : decode c.code (pc + 4) = .ok (.ldc is, 2) := by rw [hb]; exact d4
  have hstr' : vk_R own is text sa s' := vk_R.warm hW0 hstr
  obtain ⟨U, hsteps, hrun, hend, hW, hsame, ce, hce, hO⟩ := X₁.ctorThrowS hexec htr (own := own) (cls := cls) (names := names) (ic := ic) hown' hcls hnames h (fun x hx => nomatch hx) hfX hkX hcellA (by rw [hhp, hT]; exact Nat.le_refl _) (msg := .ref sa) rfl
    (g := { method := m, pc := pc + 6, locals := ls, stack := .ref sa :: .ref T.heap.size :: .ref T.heap.size :: rest, locked := none }) rfl hsize rfl rfl (rest := rest) rfl
    (by rw [hb]; exact d6) (by rw [hb]; exact d9) hout hRframes (by simp only [List.map_cons, List.sum_cons, hcat]; omega) hlocks
  obtain ⟨f1, f2⟩ := vx_frame hsame
  rw [hhp] at f1 f2
  have hWs : s.WarmedH U.vm := State.WarmedH.trans hW0 hW
  have hcl : s.vm.findClass cls = some ce.cls := by
    have h9 := hO.cls
    rw [hvm] at h9
    exact h9
  have hall : s.sameButNew ({ U with vm := s.vm } : State) locs mc ms := by
    subst hA
    obtain ⟨e1, e2⟩ := hsame
    rw [State.setFrames_setFrames] at e1
    have h2 : (T.setVm s.vm).sameButNew ({ U with vm := s.vm } : State) [] (0 + 1) (0 + 6) := ⟨e1, e2⟩
    have h3 := X.same.trans h2
    rw [List.append_nil] at h3
    exact h3.mono hc hs
  refine ⟨U, ?_, .threw T.heap.size, hrun, hend, Or.inr ⟨T.heap.size, rfl, cls, ce, locs, hx U hWs.alike f1 (fun q hq => f2 q hq (fun z hz => nomatch hz)), hce, hO.vm, hcl, hWs, hall, hf⟩⟩
  refine st1 _ ?_
  show Steps p.tables e below (T1.setTop { method := m, pc := pc + 3, locals := ls, stack := .ref T.heap.size :: rest, locked := none }) _
  jvm_step X₁.here [X₁.here.top, hexec, d3', Value.category]
  exact X₁.ldcString hexec (own := own) (text := text) (index := is) (a := sa) hown' hstr'.1 hstr'.2
    (g := { method := m, pc := pc + 4, locals := ls, stack := .ref T.heap.size :: .ref T.heap.size :: rest, locked := none }) rfl d4' _ hsteps
/-- 'throw new E("text")', the text by a wide index -/
theorem vx_throwSW {cc : ByteArray} {pc : Nat} (hexec : p.tables.exec = Jvm.exec) (hb : c.code = cc) (hl : l.stackTraces = false) {own cls text : String} {names : List String} {ik is ic mc ms sa : Nat} {A : Nat → Prop}
    (hown : s.vm.findClass own = some m.cls) (hcls : Bundle.fit cls = true) (hnames : ∀ n ∈ names, Bundle.fit n = true)
    (hk : (Cond.classLink own ik cls).before args s = true) (hini : (Cond.initialized cls).before args s = true) (hstr : vk_R own is text sa s) (hat : ∀ w ∈ vx_atS own ic cls names, w.before args s = true)
    (hgood : ∀ w ∈ Cond.classLink own ik cls :: Cond.initialized cls :: vx_atS own ic cls names, vx_ot w = true)
    (hU : vx_Zq Bundle.tN "UNASSIGNED_STACK" Bundle.steD A s s.heap) (hN : vx_Zq Bundle.tN "SUPPRESSED_SENTINEL" Bundle.listD A s s.heap) (hS : va_S A s.heap H locs) (hsize : ls.size = c.maxLocals)
    (d0 : decode cc pc = .ok (.new ik, 3)) (d3 : decode cc (pc + 3) = .ok (.dup, 1)) (d4 : decode cc (pc + 4) = .ok (.ldc_w is, 3)) (d7 : decode cc (pc + 7) = .ok (.invokespecial ic, 3)) (d10 : decode cc (pc + 10) = .ok (.athrow, 1))
    (hout : ∀ x ∈ c.exceptionTable.toList, covers x (pc + 10) = false)
    (hRframes : names.length + 3 < R.frames) (hRlocals : (rest.map fun v => v.category).sum + (13 * (names.length + 1) + 43) ≤ R.locals) (hRcells : cells + 1 ≤ R.cells) (hRslots : slots + 6 ≤ R.slots) (hlocks : meth.locks = false)
    (hx : ∀ t : State, s.vm.Alike t.vm → H.size ≤ t.heap.size → (∀ q : Nat, q < H.size → t.heap[q]? = H[q]?) → XC cls s t)
    (hf : ∀ z ∈ locs, free z.base) (hc : cells + 1 ≤ mc) (hs : slots + 6 ≤ ms) :
    W p l e R s m args below meth c H locs cells slots (vx_MQ below Qc XC args s mc ms free) (F0 m pc ls rest) := by
  intro T hT X
  have htr : e.platform.stackTraces = false := (show e.platform.stackTraces = l.stackTraces by rw [X.admits.platform]).trans hl
  have Y := vx_rebase X (R' := { frames := R.frames, locals := R.locals, cells := 1, slots := 6 }) (Nat.le_refl _) (Nat.le_refl _) hRcells hRslots
  obtain ⟨s', hA⟩ : ∃ z, z = (T.setVm s.vm).setFrames (.invoking m args :: below) := ⟨_, rfl⟩
  rw [← hA] at Y
  have hvm : s'.vm = s.vm := by rw [hA]; rfl
  have hhp : s'.heap = H := by rw [hA]; exact hT
  have hW0 : s.WarmedH s'.vm := by rw [hvm]; exact State.WarmedH.refl s
  have hat' : ∀ w ∈ vx_atS own ic cls names, w.before args s' = true := fun w hw => vx_ot_at hW0 hvm.symm (hgood w (List.mem_cons_of_mem _ (List.mem_cons_of_mem _ hw))) (hat w hw)
  have hk' : (Cond.classLink own ik cls).before args s' = true := vx_ot_at hW0 hvm.symm (hgood _ List.mem_cons_self) hk
  have hini' : (Cond.initialized cls).before args s' = true := vx_ot_at hW0 hvm.symm (hgood _ (List.mem_cons_of_mem _ List.mem_cons_self)) hini
  have hU' : vx_Zq Bundle.tN "UNASSIGNED_STACK" Bundle.steD A s' s'.heap := by rw [hhp]; exact vx_Zq.moved hW0.alike (hU.kept hS.2.1)
  have hN' : vx_Zq Bundle.tN "SUPPRESSED_SENTINEL" Bundle.listD A s' s'.heap := by rw [hhp]; exact vx_Zq.moved hW0.alike (hN.kept hS.2.1)
  have h : ∀ w ∈ Bundle.ownAtoms own ic cls names, w.before args s' = true := vx_own hat' (vx_isRefq hU'.1) (vx_isRefq hN'.1) hU'.2.word hN'.2.word
  have hown' : s'.vm.findClass own = some m.cls := by rw [hvm]; exact hown
  have hins : (Cond.instantiable cls 6).before args s' = true := h _ (by simp [Bundle.ownAtoms])
  obtain ⟨vm₁, cX, kX, hfX, hkX, -, -, X₁, st1⟩ := Y.newCold hexec (own := own) (C := cls) (index := ik) (n := 6) hown' hk' hins hini'
    (g := F0 m pc ls rest) rfl (by rw [hb]; exact d0) (Nat.le_refl _) (Nat.le_refl _)
  generalize hT1 : (T.setVm vm₁).pushCell { cls := cX, slots := kX.instanceTypes.map defaultValue, vm := .none } = T1 at X₁ st1
  have hcat : (Value.ref T.heap.size).category = 1 := rfl
  have hcellA : T1.heap[T.heap.size]? = some (freshCell cX kX) := by rw [← hT1]; exact State.heap_pushCell_size _ _
  have d3' : decode c.code (pc + 3) = .ok (.dup, 1) := by rw [hb]; exact d3
  have d4' : decode c.code (pc + 4) = .ok (.ldc_w is, 3) := by rw [hb]; exact d4
  have hstr' : vk_R own is text sa s' := vk_R.warm hW0 hstr
  obtain ⟨U, hsteps, hrun, hend, hW, hsame, ce, hce, hO⟩ := X₁.ctorThrowS hexec htr (own := own) (cls := cls) (names := names) (ic := ic) hown' hcls hnames h (fun x hx => nomatch hx) hfX hkX hcellA (by rw [hhp, hT]; exact Nat.le_refl _) (msg := .ref sa) rfl
    (g := { method := m, pc := pc + 7, locals := ls, stack := .ref sa :: .ref T.heap.size :: .ref T.heap.size :: rest, locked := none }) rfl hsize rfl rfl (rest := rest) rfl
    (by rw [hb]; exact d7) (by rw [hb]; exact d10) hout hRframes (by simp only [List.map_cons, List.sum_cons, hcat]; omega) hlocks
  obtain ⟨f1, f2⟩ := vx_frame hsame
  rw [hhp] at f1 f2
  have hWs : s.WarmedH U.vm := State.WarmedH.trans hW0 hW
  have hcl : s.vm.findClass cls = some ce.cls := by
    have h9 := hO.cls
    rw [hvm] at h9
    exact h9
  have hall : s.sameButNew ({ U with vm := s.vm } : State) locs mc ms := by
    subst hA
    obtain ⟨e1, e2⟩ := hsame
    rw [State.setFrames_setFrames] at e1
    have h2 : (T.setVm s.vm).sameButNew ({ U with vm := s.vm } : State) [] (0 + 1) (0 + 6) := ⟨e1, e2⟩
    have h3 := X.same.trans h2
    rw [List.append_nil] at h3
    exact h3.mono hc hs
  refine ⟨U, ?_, .threw T.heap.size, hrun, hend, Or.inr ⟨T.heap.size, rfl, cls, ce, locs, hx U hWs.alike f1 (fun q hq => f2 q hq (fun z hz => nomatch hz)), hce, hO.vm, hcl, hWs, hall, hf⟩⟩
  refine st1 _ ?_
  show Steps p.tables e below (T1.setTop { method := m, pc := pc + 3, locals := ls, stack := .ref T.heap.size :: rest, locked := none }) _
  jvm_step X₁.here [X₁.here.top, hexec, d3', Value.category]
  exact X₁.ldcStringW hexec (own := own) (text := text) (index := is) (a := sa) hown' hstr'.1 hstr'.2
    (g := { method := m, pc := pc + 4, locals := ls, stack := .ref T.heap.size :: .ref T.heap.size :: rest, locked := none }) rfl d4' _ hsteps
end Ends
section Bodies
variable {l : Launch}
theorem vx_ofW {y : MethodName} {ws ws' : List Cond} {rm : Room} {Pc : Array Value → State → Prop} {Qc : Array Value → State → Outcome → State → Prop} {XC : String → State → State → Prop} {mc ms : Nat} {free : Addr → Prop} {cc : ByteArray} {maxL : Nat} {ret : Option FieldType}
    (hy : plainName y.cls = true) (hw : ws = Cond.code y cc maxL ret :: ws')
    (body : ∀ p e s m args below meth c s₁, BodyLoose p l y (headSpec ws rm) cc maxL ret e s m args below meth c s₁ → c.maxLocals = maxL → (∀ x ∈ c.exceptionTable.toList, False) → Pc args s →
      W p l e (headSpec ws rm).room s m args below meth c s.heap [] 0 0 (vx_MQ below Qc XC args s mc ms free) (entryFrame m args maxL)) : vx_Met l y ws rm Pc Qc XC mc ms free := by
  refine MetFree.of_bodyS (code := cc) (maxLocals := maxL) (ret := ret) hy ?_ ?_
  · intro args s m h hn
    obtain ⟨meth, c, h1, h2, h3, h4, h5, h6, -, -⟩ := Cond.code_spec hn (atoms_spec (ws := ws) h _ (by rw [hw]; exact List.mem_cons_self))
    exact ⟨meth, c, h1, h2, h3, h4, h5, h6⟩
  · intro p e s m args below meth c s₁ B hml hP _
    have hh0 : s₁.heap = s.heap := by rw [B.state]; rfl
    have ht : ∀ x ∈ c.exceptionTable.toList, False := by
      obtain ⟨meth9, c9, h1, h2, -, -, -, -, h7, -⟩ := Cond.code_spec B.named (atoms_spec (ws := ws) B.pre _ (by rw [hw]; exact List.mem_cons_self))
      cases Option.some.inj (h1.symm.trans B.method)
      cases Option.some.inj (h2.symm.trans (Stand.of_body B).code)
      intro x hx
      rw [Array.isEmpty_iff.mp h7] at hx
      cases hx
    obtain ⟨t, a1, o, b1, b2, b3⟩ := body p e s m args below meth c s₁ B hml ht hP s₁ hh0 (Stand.of_body B)
    exact ⟨t, o, a1, b1, b2, b3⟩
/-- the table of a body with handlers -/
theorem vx_table {p : Program} {x y : MethodName} {S : Spec} {cc bytes : ByteArray} {maxL maxL' : Nat} {ret ret' : Option FieldType} {e : Env} {s s₁ : State} {m : MethodId} {args : Array Value} {below : List Frame} {meth : Method} {c : Code} {hh : List (Nat × Nat × Nat × Nat)}
    (B : BodyLoose p l y S cc maxL ret e s m args below meth c s₁) (h : (Cond.codeWith y bytes maxL' ret' hh).before args s = true) : c.exceptionTable.toList = tableOf hh := by
  obtain ⟨m9, meth9, c9, hn9, h1, h2, -, -, h6, -⟩ := Cond.codeWith_spec h
  cases Option.some.inj (hn9.symm.trans B.named)
  cases Option.some.inj (h1.symm.trans B.method)
  cases Option.some.inj (h2.symm.trans (Stand.of_body B).code)
  rw [← h6, table_eq]
end Bodies
end VXA
/-! ===== END ===== -/
/-! ===== BEGIN a static call of a method with an exception table ===== -/
section VXS
variable {p : Program} {l : Launch} {e : Env} {R : Room} {s : State} {m : MethodId} {args : Array Value} {below : List Frame} {meth : Method} {c : Code} {T : State} {H : Heap} {locs : List Loc} {cells slots : Nat}
abbrev vx_CSW (R : Room) (s : State) (args : Array Value) (own : String) (index : Nat) (y : MethodName) (bytes : ByteArray) (maxL : Nat) (ret : Option FieldType) (hh : List (Nat × Nat × Nat × Nat)) (ws : List Cond) (rm : Room) (mc ms n : Nat) : Prop :=
  (rm.cells = mc ∧ rm.slots = ms ∧ rm.frames + 1 ≤ R.frames ∧ 8 + (maxL + 11) + rm.locals ≤ R.locals ∧ (∀ w ∈ ws, ∀ (a' : Array Value) (U : State), s.WarmedH U.vm → w.before a' U = true) ∧ Cond.codeWith y bytes maxL ret hh ∈ ws) ∧
  (Cond.codeWith y bytes maxL ret hh).before args s = true ∧ (Cond.initialized y.cls).before args s = true ∧ (y.cls ≠ "java/lang/invoke/MethodHandle" ∧ y.cls ≠ "java/lang/invoke/VarHandle") ∧
  (∀ sig, parseMethodDescriptor y.desc = some sig → n = sig.parameters.length) ∧ (Cond.methodLink own index y).before args s = true ∧ (Cond.static y).before args s = true
theorem vx_cwSW {own : String} {index maxL mc ms : Nat} {y : MethodName} {bytes : ByteArray} {ret : Option FieldType} {hh : List (Nat × Nat × Nat × Nat)} {Ts ws ws' : List Cond} {rm : Room} (n : Nat) (ht : ∀ w ∈ Ts, w.before args s = true) (hT : GoodIn Ts (va_wsS own index y ws)) (hw : ws = Cond.codeWith y bytes maxL ret hh :: ws') (hrc : rm.cells = mc) (hrs : rm.slots = ms)
    (hd : y.cls ≠ "java/lang/invoke/MethodHandle" ∧ y.cls ≠ "java/lang/invoke/VarHandle" ∧ (parseMethodDescriptor y.desc).map (fun d => d.parameters.length) = some n) (hR : rm.frames + 1 ≤ R.frames ∧ 8 + (maxL + 11) + rm.locals ≤ R.locals) :
    vx_CSW R s args own index y bytes maxL ret hh ws rm mc ms n := by
  have ok : ∀ w ∈ va_wsS own index y ws, w.before args s = true := fun w h => ht w (hT w h).1
  have hG : GoodIn Ts ws := fun w h => hT w (by unfold va_wsS; exact List.mem_append_right _ h)
  have hc : Cond.codeWith y bytes maxL ret hh ∈ ws := by rw [hw]; exact List.mem_cons_self
  refine ⟨⟨hrc, hrs, hR.1, hR.2, pay_in ht hG, hc⟩, ht _ (hG _ hc).1, ok _ (by simp [va_wsS]), ⟨hd.1, hd.2.1⟩, fun sig h => ?_, ok _ (by simp [va_wsS]), ok _ (by simp [va_wsS])⟩
  have h2 := hd.2.2
  rw [h] at h2
  exact (Option.some.inj h2).symm
theorem vx_callSW (X : Stand p l e R s m args below meth c T locs cells slots) (hexec : p.tables.exec = Jvm.exec) {own : String} {index : Nat} {y : MethodName} {bytes : ByteArray} {maxL : Nat} {ret : Option FieldType} {hh : List (Nat × Nat × Nat × Nat)}
    (hown : s.vm.findClass own = some m.cls) (hlink : (Cond.methodLink own index y).before args s = true) (hstat : (Cond.static y).before args s = true) (hinit : (Cond.initialized y.cls).before args s = true)
    (hcode : (Cond.codeWith y bytes maxL ret hh).before args s = true) (hy : y.cls ≠ "java/lang/invoke/MethodHandle" ∧ y.cls ≠ "java/lang/invoke/VarHandle")
    {W9 : Nat} {Pre : Pt → Array Value → Prop} {Post : Pt → Array Value → Option Value → Pt → Prop} (hK : Back l R p e below s args y 3 W9 Pre Post)
    {g : JFrame} (hg : g.method = m) (hsize : g.locals.size = c.maxLocals) {argsL rest : List Value} (hlen : ∀ sig, parseMethodDescriptor y.desc = some sig → argsL.length = sig.parameters.length)
    (hstack : g.stack = argsL.reverse ++ rest) (hW : 2 * g.monitorRoom + (rest.map fun v => v.category).sum ≤ W9) (hdg : decode c.code g.pc = .ok (.invokestatic index, 3))
    (hpre : ∀ vm₁, s.WarmedH vm₁ → Pre ⟨T.setVm vm₁, locs, cells, slots⟩ argsL.toArray) :
    ∃ (v : Option Value) (vm₁ : Vm) (B : Pt), s.WarmedH vm₁ ∧ Stand p l e R s m args below meth c B.U B.locs B.cells B.slots ∧ Post ⟨T.setVm vm₁, locs, cells, slots⟩ argsL.toArray v B ∧
      ∀ target, Steps p.tables e below (B.U.setTop { g with pc := g.pc + 3, stack := v.toList ++ rest }) target → Steps p.tables e below (T.setTop g) target := by
  obtain ⟨mk, methM, cM, hnamed, hmethM, -, -, -, -, -, -, hsigM⟩ := Cond.codeWith_spec hcode
  have hstatic : methM.isStatic = true := Cond.static_spec hnamed hmethM hstat
  obtain ⟨kP, hkP, -⟩ := className_of_methodNamed hnamed
  have hinitP : kP.init = .initialized := Cond.initialized_spec (findClass_of_methodNamed hnamed) hkP hinit
  obtain ⟨vm₁, X₁, hstep₁⟩ := X.invokestatic hexec hown hlink hnamed hmethM hstatic hkP hinitP hy (g := g) hg (argsL := argsL) (rest := rest) (hlen _ hsigM) hstack hdg
  obtain ⟨v, B, X', hpost, hsteps⟩ := hK m meth c ⟨T.setVm vm₁, locs, cells, slots⟩ { g with stack := rest } (.invokestatic index) mk argsL.toArray X₁ hg hsize hdg hW (X₁.named hnamed) (hpre vm₁ X₁.warmed)
  exact ⟨v, vm₁, B, X₁.warmed, X', hpost, fun target h => hstep₁ _ fun acts => by rw [doInvoke_state]; exact hsteps.trans h⟩
theorem vx_runSW {y : MethodName} {bytes cc : ByteArray} {maxL nL mc ms n index : Nat} {ret : Option FieldType} {hh : List (Nat × Nat × Nat × Nat)} {ws : List Cond} {rm : Room} {Pc : Array Value → State → Prop} {Qc : Array Value → State → Outcome → State → Prop} {free : Addr → Prop} {Ts : List Cond} {own : String} {As rest : List Value} {g : JFrame}
    (S : CallFix p m c cc nL s args Ts own) (hM : Met l y ws rm Pc Qc mc ms free) (cw : vx_CSW R s args own index y bytes maxL ret hh ws rm mc ms n) (hp : PreS s H Pc As)
    (hg : g.method = m) (hn : As.length = n) (hsize : g.locals.size = nL) (hstack : g.stack = As.reverse ++ rest) (hW : 2 * g.monitorRoom + (rest.map fun v => v.category).sum ≤ 8) (hdg : decode cc g.pc = .ok (.invokestatic index, 3)) (hf : cells + mc ≤ R.cells ∧ slots + ms ≤ R.slots) :
    va_Run p l e R s m args below meth c H locs cells slots mc ms g rest (Qc As.toArray) (free) := by
  obtain ⟨⟨hrc, hrs, hfr, hlo, hws, hcw⟩, hcode, hini, hy, hlen, hl, hstt⟩ := cw
  have hK : Back l R p e below s args y 3 8 (PreOf R mc ms Pc) (PostOf Qc mc ms free) := va_backW (hh := hh) (bytes := bytes) (maxL := maxL) (ret := ret) hM hp.1 hrc hrs hfr hlo hws hcw (fun a' U hW => word_at hW (Or.inl (by first | rfl | simp [Cond.onTables, Cond.keeps, Cond.steady])) hini)
  obtain ⟨hx, hb, hml, ho, -⟩ := S
  intro T hT X
  obtain ⟨v, vm₁, ⟨U', l2, c2, s2⟩, hW₁, X', ⟨g', mk, t, L, e1, e2, hq, h1, hL, h2, h3⟩, st⟩ := vx_callSW X hx (hh := hh) (bytes := bytes) (maxL := maxL) (ret := ret) ho hl hstt hini hcode hy hK hg (hsize.trans hml.symm) (argsL := As) (rest := rest) (fun sig h => hn.trans (hlen sig h)) hstack hW (by rw [hb]; exact hdg)
    (fun vm₁ hW₁ => ⟨hf.1, hf.2, hp.2 (T.setVm vm₁) hT hW₁⟩)
  dsimp only [Pt.U, Pt.locs, Pt.cells, Pt.slots] at X' e1 e2 h1 h2 h3 st
  subst h1; subst h2; subst h3
  exact ⟨v, (T.setVm vm₁).calling g' mk As.toArray, t, U', L, hT, X', hL, e1, e2, hq, st⟩
/-- not caught here, past rows that name other classes: it goes on to the caller -/
theorem vx_outP {p : Program} {l : Launch} {e : Env} {R : Room} {s : State} {m : MethodId} {args : Array Value} {below : List Frame} {meth : Method} {c : Code} {H : Heap} {locs : List Loc} {cells slots : Nat} {free : Addr → Prop} {ls : Array Slot} {rest : List Value} {Qc : Array Value → State → Outcome → State → Prop} {XC : String → State → State → Prop}
    {pc : Nat} {own E : String} {ce : Cell} {q : Addr} {mc ms : Nat} (hown : s.vm.findClass own = some m.cls) (hlocks : meth.locks = false)
    (hpass : ∀ z ∈ c.exceptionTable.toList, covers z pc = false ∨ (z.catchType ≠ 0 ∧ ∃ nm : String, (Cond.classLink own z.catchType nm).before args s = true ∧ va_Nc E nm s)) (hcell : H[q]? = some ce) (hv : ce.vm = .none) (hcl : s.vm.findClass E = some ce.cls)
    (hx : ∀ t : State, t.heap = H → s.vm.Alike t.vm → XC E s t) (hf : ∀ z ∈ locs, free z.base) (hc : cells ≤ mc) (hs : slots ≤ ms) :
    vx_W p l e R s m args below meth c H locs cells slots (vx_MQ below Qc XC args s mc ms free) (F0 m pc ls rest) q := by
  intro T hT X
  have hpl : e.platform.magicAccessors = ({} : Platform).magicAccessors := by rw [X.admits.platform]
  obtain ⟨vm', hW', X', st⟩ := X.outThrough hlocks q (g := F0 m pc ls rest) rfl rfl rfl (cell := ce) (by rw [hT]; exact hcell) (by rw [hv]; rfl)
    (by obtain ⟨k9, h9, -⟩ := Vm.findClass_spec hcl; exact ⟨k9, h9⟩) (fun z hz => by
      rcases hpass z hz with h | ⟨hz0, nm, hl1, hn1⟩
      · exact Or.inl h
      · obtain ⟨c6, hc6, hcl6⟩ := Cond.classLink_spec hown hl1 e.platform hpl
        obtain ⟨a8, b8, h1, h2, h3⟩ := hn1
        cases Option.some.inj (h1.symm.trans hcl)
        cases Option.some.inj (h2.symm.trans hc6)
        exact Or.inr ⟨hz0, _, hcl6, h3⟩)
  obtain ⟨g₀, hfr⟩ := X'.frames_eq
  have hcell9 : ((T.setVm vm').setFrames (.throwing q :: below)).heap[q]? = some ce := by
    show T.heap[q]? = some ce
    rw [hT]; exact hcell
  have hend : Ended ((T.setVm vm').setFrames (.throwing q :: below)) below (.threw q) := State.frames_setFrames _ (State.cur_lt_of_frames hfr)
  refine ⟨(T.setVm vm').setFrames (.throwing q :: below), ?_, .threw q, X'.here.running, hend, Or.inr ⟨q, rfl, E, ce, locs, hx _ hT (X'.ends _).1.alike, hcell9, hv, hcl, (X'.ends _).1, (X'.ends _).2.mono hc hs, hf⟩⟩
  rw [X.pushThrowing_eq]
  exact st
/-- a thing of a world lies in the heap -/
theorem vx_lt {D : va_G} {cl : List vw_C} {ws : va_W} {H1 : Heap} (h : va_P D cl ws H1) {k : Nat} {q : Nat × va_E} (hk : ws[k]? = some q) : q.1 < H1.size := (h k q hk).lt
end VXS
/-! ===== END ===== -/
/-! ===== BEGIN methods with a table of their own: called by a name, returning or throwing ===== -/
section VXH
/-! vx_backW, vx_callVX, vx_callSX, vx_callVW, vx_runVW, vx_runVX, vx_runSX, vx_ofWH follow the same proofs as their sisters above (Free/Laws.lean, Shelf42/LK1.lean); vx_outP calls Shelf42/NT130.lean (outThrough). -/
section
variable {l : Launch} {R : Room} {p : Program} {e : Env} {below : List Frame} {s : State} {sargs : Array Value} {y : MethodName} {len W9 : Nat}
theorem vx_backW {ws : List Cond} {rm : Room} {Pc : Array Value → State → Prop} {Qc : Array Value → State → Outcome → State → Prop} {XC : String → State → State → Prop} {mc ms : Nat} {free : Addr → Prop} {bytes : ByteArray} {maxL : Nat} {ret : Option FieldType} {hh : List (Nat × Nat × Nat × Nat)}
    (hM : vx_Met l y ws rm Pc Qc XC mc ms free) (hblind : FrameBlind Pc) (hrc : rm.cells = mc) (hrs : rm.slots = ms)
    (hframes : rm.frames + 1 ≤ R.frames) (hlocals : W9 + (maxL + 11) + rm.locals ≤ R.locals)
    (hws : ∀ w ∈ ws, ∀ a' U, s.WarmedH U.vm → w.before a' U = true) (hcode : Cond.codeWith y bytes maxL ret hh ∈ ws) (hinit : ∀ a' U, s.WarmedH U.vm → (Cond.initialized y.cls).before a' U = true) :
    vx_Back l R p e below s sargs y len W9 (PreOf R mc ms Pc) (PostOf Qc mc ms free) (vx_Post XC mc ms free) := by
  intro m meth c A g ig mk a X hg hsize hdg hW hn hp
  have h1 : (headSpec ws rm).pre.before a A.U = true := atoms_intro fun w hw => hws w hw _ _ X.warmed
  have h2 : (Cond.codeWith y bytes maxL ret hh).before a A.U = true := hws _ hcode _ _ X.warmed
  have h3 : (Cond.initialized y.cls).before a A.U = true := hinit _ _ X.warmed
  have h4 : A.cells + (headSpec ws rm).room.cells ≤ R.cells := by rw [show (headSpec ws rm).room.cells = mc from hrc]; exact hp.1
  have h5 : A.slots + (headSpec ws rm).room.slots ≤ R.slots := by rw [show (headSpec ws rm).room.slots = ms from hrs]; exact hp.2.1
  have hPc : Pc a (A.U.calling g mk a) := hblind _ _ _ _ hp.2.2
  obtain ⟨U, Ls, c0, s0⟩ := A
  dsimp only [Pt.U, Pt.locs, Pt.cells, Pt.slots] at h1 h2 h3 h4 h5 X hn hPc ⊢
  obtain ⟨m9, methY, cY, hn9, hmY, hcY, -, hlY, -⟩ := Cond.codeWith_spec h2
  cases Option.some.inj (hn9.symm.trans hn)
  obtain ⟨kY, hkY, -⟩ := className_of_methodNamed hn
  have hinitY : kY.init = .initialized := Cond.initialized_spec (findClass_of_methodNamed hn) hkY h3
  have h : At U g.method c below := by rw [hg]; exact X.here
  have hlocals9 : W9 + (maxL + 11) + (headSpec ws rm).room.locals ≤ R.locals := hlocals
  have happ : (headSpec ws rm).appliesLoose y e.platform (U.calling g mk a) = true :=
    Spec.appliesLoose_calling (g := g) h hdg hn hkY hinitY
      (X.room_calling (g := g) (R' := (headSpec ws rm).room) hsize hmY hcY hframes (by rw [hlY]; omega) h4 h5) h1
  obtain ⟨mid, hmid⟩ := h.above
  have hfr : (U.setTop g).frames = (.java g :: mid) ++ below := by rw [State.frames_setTop' g h.top, hmid]; rfl
  obtain ⟨o, s₂, hsteps, -, hend, hq⟩ := Steps.callFree hM p X.admits X.cas X.clock (acts := []) hfr happ hPc trivial
  have hq' : vx_Q Qc XC mc ms free a (U.calling g mk a) o s₂ := hq
  rw [State.frames_setTop' g h.top] at hend
  obtain ⟨g₀, hg0⟩ := Option.isSome_iff_exists.mp h.top
  obtain ⟨r, hr⟩ := State.topJava?_eq_some.mp hg0
  have hr' : (({ U with heap := s₂.heap, slotsUsed := s₂.slotsUsed } : State).setVm s₂.vm).frames = .java g₀ :: r := hr
  rcases hq' with ⟨hqc, L, hfe, hL⟩ | ⟨q, rfl, E, ce, L, hx, hce, hcv, hcl, hW₂, hsm, hL⟩
  · obtain ⟨⟨v, rfl⟩, hW₂, e2, q2, q3, q4, q5, q6⟩ := id hfe
    have e3 : s₂ = ({ (U.calling g mk a).setFrames s₂.frames with heap := s₂.heap, slotsUsed := s₂.slotsUsed } : State).setVm s₂.vm := by
      have : s₂ = ({ s₂ with vm := (U.calling g mk a).vm } : State).setVm s₂.vm := rfl
      rw [e2] at this
      exact this
    obtain ⟨c₂, i₂, len₂, hc₂, hd₂, hf₂⟩ := hend
    have hW' : U.WarmedH s₂.vm := hW₂
    have hcc : c₂ = c := by
      have h1 : s₂.code? g.method = U.code? g.method := by
        rw [State.code?_eq, State.code?_eq, hW'.alike.method?]
      exact Option.some.inj (hc₂.symm.trans (h1.trans h.code))
    subst hcc
    have hlen : len₂ = len := by rw [hdg] at hd₂; cases hd₂; rfl
    subst hlen
    have hs₂ : s₂ = (({ U with heap := s₂.heap, slotsUsed := s₂.slotsUsed } : State).setVm s₂.vm).setTop { g with pc := g.pc + len₂, stack := v.toList ++ g.stack } := by
      refine e3.trans ?_
      rw [hf₂, State.calling_eq h.top, State.setFrames_setFrames, State.setTop_of_frames _ hr', hr]
      rfl
    have hsame : U.sameButNew ({ U with heap := s₂.heap, slotsUsed := s₂.slotsUsed } : State) L mc ms := by
      refine ⟨?_, q2, q3, q4, q5, q6⟩
      obtain ⟨t, ht, -⟩ := State.frames_cons hr
      show ({ U with heap := s₂.heap, slotsUsed := s₂.slotsUsed } : State) = { U.setFrames U.frames with heap := s₂.heap, slotsUsed := s₂.slotsUsed }
      rw [State.setFrames_self ht]
    subst hg
    refine Or.inl ⟨v, ⟨(({ U with heap := s₂.heap, slotsUsed := s₂.slotsUsed } : State).setVm s₂.vm), Ls ++ L, c0 + mc, s0 + ms⟩,
      ⟨X.admits, X.cas, X.clock, X.frames, X.room, X.hears, X.method, X.code, (X.here.setHeapUsed s₂.heap s₂.slotsUsed).setVm hW'.alike, X.tail, State.WarmedH.trans X.warmed hW', X.limits, X.bytes, X.same.trans (hsame.setVm s.vm)⟩,
      ⟨g, mk, s₂, L, rfl, rfl, hqc, rfl, hL, rfl, rfl⟩, ?_⟩
    show Steps p.tables e below _ ((({ U with heap := s₂.heap, slotsUsed := s₂.slotsUsed } : State).setVm s₂.vm).setTop { g with pc := g.pc + len₂, stack := v.toList ++ g.stack })
    rw [← hs₂]
    exact hsteps
  · obtain ⟨e2, q2, q3, q4, q5, q6⟩ := id hsm
    have e3 : s₂ = ({ (U.calling g mk a).setFrames s₂.frames with heap := s₂.heap, slotsUsed := s₂.slotsUsed } : State).setVm s₂.vm := by
      have : s₂ = ({ s₂ with vm := (U.calling g mk a).vm } : State).setVm s₂.vm := rfl
      rw [e2] at this
      exact this
    have hf₂ : s₂.frames = .throwing q :: .java g :: U.frames.tail := hend
    have hW' : U.WarmedH s₂.vm := hW₂
    have hs₂ : s₂ = ((({ U with heap := s₂.heap, slotsUsed := s₂.slotsUsed } : State).setVm s₂.vm).setTop g).pushFrame (.throwing q) := by
      refine e3.trans ?_
      rw [hf₂, State.calling_eq h.top, State.setFrames_setFrames, State.pushFrame, State.frames_setTop _ hr', State.setTop_of_frames _ hr', State.setFrames_setFrames, hr]
      rfl
    have hsame : U.sameButNew ({ U with heap := s₂.heap, slotsUsed := s₂.slotsUsed } : State) L mc ms := by
      refine ⟨?_, q2, q3, q4, q5, q6⟩
      obtain ⟨t, ht, -⟩ := State.frames_cons hr
      show ({ U with heap := s₂.heap, slotsUsed := s₂.slotsUsed } : State) = { U.setFrames U.frames with heap := s₂.heap, slotsUsed := s₂.slotsUsed }
      rw [State.setFrames_self ht]
    subst hg
    refine Or.inr ⟨q, ⟨(({ U with heap := s₂.heap, slotsUsed := s₂.slotsUsed } : State).setVm s₂.vm), Ls ++ L, c0 + mc, s0 + ms⟩,
      ⟨X.admits, X.cas, X.clock, X.frames, X.room, X.hears, X.method, X.code, (X.here.setHeapUsed s₂.heap s₂.slotsUsed).setVm hW'.alike, X.tail, State.WarmedH.trans X.warmed hW', X.limits, X.bytes, X.same.trans (hsame.setVm s.vm)⟩,
      ⟨g, mk, s₂, L, E, ce, rfl, rfl, hx, hce, hcv, hcl, rfl, hL, rfl, rfl⟩, ?_⟩
    show Steps p.tables e below _ (((({ U with heap := s₂.heap, slotsUsed := s₂.slotsUsed } : State).setVm s₂.vm).setTop g).pushFrame (.throwing q))
    rw [← hs₂]
    exact hsteps
end
variable {p : Program} {l : Launch} {e : Env} {R : Room} {s : State} {m : MethodId} {args : Array Value} {below : List Frame} {meth : Method} {c : Code} {T : State} {H : Heap} {locs : List Loc} {cells slots : Nat}
theorem vx_callVX (X : Stand p l e R s m args below meth c T locs cells slots) (hexec : p.tables.exec = Jvm.exec) {own C : String} {index : Nat} {y : MethodName} {bytes : ByteArray} {maxL : Nat} {ret : Option FieldType} {hh : List (Nat × Nat × Nat × Nat)}
    (hown : s.vm.findClass own = some m.cls) (hlink : (Cond.methodLink own index y).before args s = true) (hinst : (Cond.instanceMethod y).before args s = true) (hsel : (Cond.selects C y y).before args s = true)
    (hcode : (Cond.codeWith y bytes maxL ret hh).before args s = true) (hy : y.cls ≠ "java/lang/invoke/MethodHandle" ∧ y.cls ≠ "java/lang/invoke/VarHandle")
    {W9 : Nat} {Pre : Pt → Array Value → Prop} {Post : Pt → Array Value → Option Value → Pt → Prop} {PostX : Pt → Array Value → Addr → Pt → Prop} (hK : vx_Back l R p e below s args y 3 W9 Pre Post PostX)
    {b : Addr} {cellB : Cell} (hcell : T.heap[b]? = some cellB) (hobj : cellB.vm.isStatics = false) (hcls : s.vm.findClass C = some cellB.cls)
    {g : JFrame} (hg : g.method = m) (hsize : g.locals.size = c.maxLocals) {argsL rest : List Value} (hlen : ∀ sig, parseMethodDescriptor y.desc = some sig → argsL.length = sig.parameters.length)
    (hstack : g.stack = argsL.reverse ++ .ref b :: rest) (hW : 2 * g.monitorRoom + (rest.map fun v => v.category).sum ≤ W9) (hdg : decode c.code g.pc = .ok (.invokevirtual index, 3))
    (hpre : ∀ vm₁, s.WarmedH vm₁ → Pre ⟨T.setVm vm₁, locs, cells, slots⟩ (Value.ref b :: argsL).toArray) :
    (∃ (v : Option Value) (vm₁ : Vm) (B : Pt), s.WarmedH vm₁ ∧ Stand p l e R s m args below meth c B.U B.locs B.cells B.slots ∧ Post ⟨T.setVm vm₁, locs, cells, slots⟩ (Value.ref b :: argsL).toArray v B ∧
      ∀ target, Steps p.tables e below (B.U.setTop { g with pc := g.pc + 3, stack := v.toList ++ rest }) target → Steps p.tables e below (T.setTop g) target) ∨
    (∃ (q : Addr) (vm₁ : Vm) (B : Pt), s.WarmedH vm₁ ∧ Stand p l e R s m args below meth c B.U B.locs B.cells B.slots ∧ PostX ⟨T.setVm vm₁, locs, cells, slots⟩ (Value.ref b :: argsL).toArray q B ∧
      Steps p.tables e below (T.setTop g) ((B.U.setTop { g with stack := rest }).pushFrame (.throwing q))) := by
  obtain ⟨mk, methM, hnamed, hmethM, hstM, habM⟩ := Cond.instanceMethod_spec hinst
  obtain ⟨m8, methM', cM, hn8, hmethM', -, -, -, -, -, -, hsigM⟩ := Cond.codeWith_spec hcode
  cases Option.some.inj (hn8.symm.trans hnamed)
  cases hmethM.symm.trans hmethM'
  obtain ⟨c2, r2, m2, q1, q2, q3, q4, kP, hkP, hkPi⟩ := Cond.selects_spec hsel
  cases hcls.symm.trans q1
  cases (State.methodFound?_of_named hnamed hy).symm.trans q2
  cases hnamed.symm.trans q3
  have hselP : selectMethod e.platform s.vm cellB.cls mk = .method mk := by rw [Launch.admits_selectMethod X.admits]; exact q4
  obtain ⟨vm₁, X₁, hstep₁⟩ := X.invokevirtual hexec hown hlink hnamed hmethM hstM hkP hkPi hy (a := b) (cell := cellB) hcell
    (fun z h => by rw [h] at hobj; cases hobj) hselP hmethM habM hkP hkPi (g := g) hg (argsL := argsL) (rest := rest) (hlen _ hsigM) hstack hdg
  rcases hK m meth c ⟨T.setVm vm₁, locs, cells, slots⟩ { g with stack := rest } (.invokevirtual index) mk (Value.ref b :: argsL).toArray X₁ hg hsize hdg hW (X₁.named hnamed) (hpre vm₁ X₁.warmed) with ⟨v, B, X', hpost, hsteps⟩ | ⟨q, B, X', hpost, hsteps⟩
  · exact Or.inl ⟨v, vm₁, B, X₁.warmed, X', hpost, fun target h => hstep₁ _ fun acts => by rw [doInvoke_state]; exact hsteps.trans h⟩
  · exact Or.inr ⟨q, vm₁, B, X₁.warmed, X', hpost, hstep₁ _ fun acts => by rw [doInvoke_state]; exact hsteps⟩
theorem vx_callSX (X : Stand p l e R s m args below meth c T locs cells slots) (hexec : p.tables.exec = Jvm.exec) {own : String} {index : Nat} {y : MethodName} {bytes : ByteArray} {maxL : Nat} {ret : Option FieldType} {hh : List (Nat × Nat × Nat × Nat)}
    (hown : s.vm.findClass own = some m.cls) (hlink : (Cond.methodLink own index y).before args s = true) (hstat : (Cond.static y).before args s = true) (hinit : (Cond.initialized y.cls).before args s = true)
    (hcode : (Cond.codeWith y bytes maxL ret hh).before args s = true) (hy : y.cls ≠ "java/lang/invoke/MethodHandle" ∧ y.cls ≠ "java/lang/invoke/VarHandle")
    {W9 : Nat} {Pre : Pt → Array Value → Prop} {Post : Pt → Array Value → Option Value → Pt → Prop} {PostX : Pt → Array Value → Addr → Pt → Prop} (hK : vx_Back l R p e below s args y 3 W9 Pre Post PostX)
    {g : JFrame} (hg : g.method = m) (hsize : g.locals.size = c.maxLocals) {argsL rest : List Value} (hlen : ∀ sig, parseMethodDescriptor y.desc = some sig → argsL.length = sig.parameters.length)
    (hstack : g.stack = argsL.reverse ++ rest) (hW : 2 * g.monitorRoom + (rest.map fun v => v.category).sum ≤ W9) (hdg : decode c.code g.pc = .ok (.invokestatic index, 3))
    (hpre : ∀ vm₁, s.WarmedH vm₁ → Pre ⟨T.setVm vm₁, locs, cells, slots⟩ argsL.toArray) :
    (∃ (v : Option Value) (vm₁ : Vm) (B : Pt), s.WarmedH vm₁ ∧ Stand p l e R s m args below meth c B.U B.locs B.cells B.slots ∧ Post ⟨T.setVm vm₁, locs, cells, slots⟩ argsL.toArray v B ∧
      ∀ target, Steps p.tables e below (B.U.setTop { g with pc := g.pc + 3, stack := v.toList ++ rest }) target → Steps p.tables e below (T.setTop g) target) ∨
    (∃ (q : Addr) (vm₁ : Vm) (B : Pt), s.WarmedH vm₁ ∧ Stand p l e R s m args below meth c B.U B.locs B.cells B.slots ∧ PostX ⟨T.setVm vm₁, locs, cells, slots⟩ argsL.toArray q B ∧
      Steps p.tables e below (T.setTop g) ((B.U.setTop { g with stack := rest }).pushFrame (.throwing q))) := by
  obtain ⟨mk, methM, cM, hnamed, hmethM, -, -, -, -, -, -, hsigM⟩ := Cond.codeWith_spec hcode
  have hstatic : methM.isStatic = true := Cond.static_spec hnamed hmethM hstat
  obtain ⟨kP, hkP, -⟩ := className_of_methodNamed hnamed
  have hinitP : kP.init = .initialized := Cond.initialized_spec (findClass_of_methodNamed hnamed) hkP hinit
  obtain ⟨vm₁, X₁, hstep₁⟩ := X.invokestatic hexec hown hlink hnamed hmethM hstatic hkP hinitP hy (g := g) hg (argsL := argsL) (rest := rest) (hlen _ hsigM) hstack hdg
  rcases hK m meth c ⟨T.setVm vm₁, locs, cells, slots⟩ { g with stack := rest } (.invokestatic index) mk argsL.toArray X₁ hg hsize hdg hW (X₁.named hnamed) (hpre vm₁ X₁.warmed) with ⟨v, B, X', hpost, hsteps⟩ | ⟨q, B, X', hpost, hsteps⟩
  · exact Or.inl ⟨v, vm₁, B, X₁.warmed, X', hpost, fun target h => hstep₁ _ fun acts => by rw [doInvoke_state]; exact hsteps.trans h⟩
  · exact Or.inr ⟨q, vm₁, B, X₁.warmed, X', hpost, hstep₁ _ fun acts => by rw [doInvoke_state]; exact hsteps⟩
theorem vx_callVW (X : Stand p l e R s m args below meth c T locs cells slots) (hexec : p.tables.exec = Jvm.exec) {own C : String} {index : Nat} {y : MethodName} {bytes : ByteArray} {maxL : Nat} {ret : Option FieldType} {hh : List (Nat × Nat × Nat × Nat)}
    (hown : s.vm.findClass own = some m.cls) (hlink : (Cond.methodLink own index y).before args s = true) (hinst : (Cond.instanceMethod y).before args s = true) (hsel : (Cond.selects C y y).before args s = true)
    (hcode : (Cond.codeWith y bytes maxL ret hh).before args s = true) (hy : y.cls ≠ "java/lang/invoke/MethodHandle" ∧ y.cls ≠ "java/lang/invoke/VarHandle")
    {W9 : Nat} {Pre : Pt → Array Value → Prop} {Post : Pt → Array Value → Option Value → Pt → Prop} (hK : Back l R p e below s args y 3 W9 Pre Post)
    {b : Addr} {cellB : Cell} (hcell : T.heap[b]? = some cellB) (hobj : cellB.vm.isStatics = false) (hcls : s.vm.findClass C = some cellB.cls)
    {g : JFrame} (hg : g.method = m) (hsize : g.locals.size = c.maxLocals) {argsL rest : List Value} (hlen : ∀ sig, parseMethodDescriptor y.desc = some sig → argsL.length = sig.parameters.length)
    (hstack : g.stack = argsL.reverse ++ .ref b :: rest) (hW : 2 * g.monitorRoom + (rest.map fun v => v.category).sum ≤ W9) (hdg : decode c.code g.pc = .ok (.invokevirtual index, 3))
    (hpre : ∀ vm₁, s.WarmedH vm₁ → Pre ⟨T.setVm vm₁, locs, cells, slots⟩ (Value.ref b :: argsL).toArray) :
    ∃ (v : Option Value) (vm₁ : Vm) (B : Pt), s.WarmedH vm₁ ∧ Stand p l e R s m args below meth c B.U B.locs B.cells B.slots ∧ Post ⟨T.setVm vm₁, locs, cells, slots⟩ (Value.ref b :: argsL).toArray v B ∧
      ∀ target, Steps p.tables e below (B.U.setTop { g with pc := g.pc + 3, stack := v.toList ++ rest }) target → Steps p.tables e below (T.setTop g) target := by
  obtain ⟨mk, methM, hnamed, hmethM, hstM, habM⟩ := Cond.instanceMethod_spec hinst
  obtain ⟨m8, methM', cM, hn8, hmethM', -, -, -, -, -, -, hsigM⟩ := Cond.codeWith_spec hcode
  cases Option.some.inj (hn8.symm.trans hnamed)
  cases hmethM.symm.trans hmethM'
  obtain ⟨c2, r2, m2, q1, q2, q3, q4, kP, hkP, hkPi⟩ := Cond.selects_spec hsel
  cases hcls.symm.trans q1
  cases (State.methodFound?_of_named hnamed hy).symm.trans q2
  cases hnamed.symm.trans q3
  have hselP : selectMethod e.platform s.vm cellB.cls mk = .method mk := by rw [Launch.admits_selectMethod X.admits]; exact q4
  obtain ⟨vm₁, X₁, hstep₁⟩ := X.invokevirtual hexec hown hlink hnamed hmethM hstM hkP hkPi hy (a := b) (cell := cellB) hcell
    (fun z h => by rw [h] at hobj; cases hobj) hselP hmethM habM hkP hkPi (g := g) hg (argsL := argsL) (rest := rest) (hlen _ hsigM) hstack hdg
  obtain ⟨v, B, X', hpost, hsteps⟩ := hK m meth c ⟨T.setVm vm₁, locs, cells, slots⟩ { g with stack := rest } (.invokevirtual index) mk (Value.ref b :: argsL).toArray X₁ hg hsize hdg hW (X₁.named hnamed) (hpre vm₁ X₁.warmed)
  exact ⟨v, vm₁, B, X₁.warmed, X', hpost, fun target h => hstep₁ _ fun acts => by rw [doInvoke_state]; exact hsteps.trans h⟩
abbrev vx_CVW (R : Room) (s : State) (args : Array Value) (own C : String) (index : Nat) (y : MethodName) (bytes : ByteArray) (maxL : Nat) (ret : Option FieldType) (hh : List (Nat × Nat × Nat × Nat)) (ws : List Cond) (rm : Room) (mc ms n : Nat) : Prop :=
  (rm.cells = mc ∧ rm.slots = ms ∧ rm.frames + 1 ≤ R.frames ∧ 8 + (maxL + 11) + rm.locals ≤ R.locals ∧ (∀ w ∈ ws, ∀ (a' : Array Value) (U : State), s.WarmedH U.vm → w.before a' U = true) ∧ Cond.codeWith y bytes maxL ret hh ∈ ws) ∧
  (Cond.codeWith y bytes maxL ret hh).before args s = true ∧ (Cond.initialized y.cls).before args s = true ∧ (y.cls ≠ "java/lang/invoke/MethodHandle" ∧ y.cls ≠ "java/lang/invoke/VarHandle") ∧
  (∀ sig, parseMethodDescriptor y.desc = some sig → n = sig.parameters.length) ∧ (Cond.methodLink own index y).before args s = true ∧ (Cond.instanceMethod y).before args s = true ∧ (Cond.selects C y y).before args s = true
theorem vx_cwVW {own C : String} {index maxL mc ms : Nat} {y : MethodName} {bytes : ByteArray} {ret : Option FieldType} {hh : List (Nat × Nat × Nat × Nat)} {Ts ws ws' : List Cond} {rm : Room} (n : Nat) (ht : ∀ w ∈ Ts, w.before args s = true) (hT : GoodIn Ts (wsV own index C y ws)) (hw : ws = Cond.codeWith y bytes maxL ret hh :: ws') (hrc : rm.cells = mc) (hrs : rm.slots = ms)
    (hd : y.cls = C ∧ y.cls ≠ "java/lang/invoke/MethodHandle" ∧ y.cls ≠ "java/lang/invoke/VarHandle" ∧ (parseMethodDescriptor y.desc).map (fun d => d.parameters.length) = some n) (hR : rm.frames + 1 ≤ R.frames ∧ 8 + (maxL + 11) + rm.locals ≤ R.locals) :
    vx_CVW R s args own C index y bytes maxL ret hh ws rm mc ms n := by
  obtain ⟨hC, hd⟩ := hd
  subst hC
  have ok : ∀ w ∈ wsV own index y.cls y ws, w.before args s = true := fun w h => ht w (hT w h).1
  have hG : GoodIn Ts ws := fun w h => hT w (by unfold wsV; exact List.mem_append_right _ h)
  have hc : Cond.codeWith y bytes maxL ret hh ∈ ws := by rw [hw]; exact List.mem_cons_self
  refine ⟨⟨hrc, hrs, hR.1, hR.2, pay_in ht hG, hc⟩, ht _ (hG _ hc).1, ok _ (by simp [wsV]), ⟨hd.1, hd.2.1⟩, fun sig h => ?_, ok _ (by simp [wsV]), ok _ (by simp [wsV]), ok _ (by simp [wsV])⟩
  have h2 := hd.2.2
  rw [h] at h2
  exact (Option.some.inj h2).symm
theorem vx_runVW {y : MethodName} {bytes cc : ByteArray} {maxL nL mc ms n index : Nat} {ret : Option FieldType} {hh : List (Nat × Nat × Nat × Nat)} {ws : List Cond} {rm : Room} {Pc : Array Value → State → Prop} {Qc : Array Value → State → Outcome → State → Prop} {free : Addr → Prop} {Ts : List Cond} {own C : String} {b : Addr} {As rest : List Value} {g : JFrame}
    (S : CallFix p m c cc nL s args Ts own) (hM : Met l y ws rm Pc Qc mc ms free) (cw : vx_CVW R s args own C index y bytes maxL ret hh ws rm mc ms n) (hp : PreV s H C b Pc As)
    (hg : g.method = m) (hn : As.length = n) (hsize : g.locals.size = nL) (hstack : g.stack = As.reverse ++ .ref b :: rest) (hW : 2 * g.monitorRoom + (rest.map fun v => v.category).sum ≤ 8) (hdg : decode cc g.pc = .ok (.invokevirtual index, 3)) (hf : cells + mc ≤ R.cells ∧ slots + ms ≤ R.slots) :
    va_Run p l e R s m args below meth c H locs cells slots mc ms g rest (Qc (Value.ref b :: As).toArray) free := by
  obtain ⟨⟨hrc, hrs, hfr, hlo, hws, hcw⟩, hcode, hini, hy, hlen, hl, hin, hse⟩ := cw
  have hK : Back l R p e below s args y 3 8 (PreOf R mc ms Pc) (PostOf Qc mc ms free) := va_backW (hh := hh) (bytes := bytes) (maxL := maxL) (ret := ret) hM hp.1 hrc hrs hfr hlo hws hcw (fun a' U hW => word_at hW (Or.inl (by first | rfl | simp [Cond.onTables, Cond.keeps, Cond.steady])) hini)
  obtain ⟨hx, hb, hml, ho, -⟩ := S
  obtain ⟨-, ⟨cellB, hcB, hoB, hclB⟩, hPc⟩ := hp
  intro T hT X
  obtain ⟨v, vm₁, ⟨U', l2, c2, s2⟩, hW₁, X', ⟨g', mk, t, L, e1, e2, hq, h1, hL, h2, h3⟩, st⟩ := vx_callVW X hx (C := C) (hh := hh) (bytes := bytes) (maxL := maxL) (ret := ret) ho hl hin hse hcode hy hK (by rw [hT]; exact hcB) hoB hclB hg (hsize.trans hml.symm) (argsL := As) (rest := rest) (fun sig h => hn.trans (hlen sig h)) hstack hW (by rw [hb]; exact hdg)
    (fun vm₁ hW₁ => ⟨hf.1, hf.2, hPc (T.setVm vm₁) hT hW₁⟩)
  dsimp only [Pt.U, Pt.locs, Pt.cells, Pt.slots] at X' e1 e2 h1 h2 h3 st
  subst h1; subst h2; subst h3
  exact ⟨v, (T.setVm vm₁).calling g' mk (Value.ref b :: As).toArray, t, U', L, hT, X', hL, e1, e2, hq, st⟩
section
variable {y : MethodName} {bytes cc : ByteArray} {maxL nL mc ms n index : Nat} {ret : Option FieldType} {ws : List Cond} {rm : Room} {Pc : Array Value → State → Prop} {Qc : Array Value → State → Outcome → State → Prop} {XC : String → State → State → Prop} {free : Addr → Prop} {Ts : List Cond} {own C : String} {b : Addr} {As rest : List Value} {g : JFrame}
theorem vx_runVX {hh : List (Nat × Nat × Nat × Nat)} (S : CallFix p m c cc nL s args Ts own) (hM : vx_Met l y ws rm Pc Qc XC mc ms free) (cw : vx_CVW R s args own C index y bytes maxL ret hh ws rm mc ms n) (hp : PreV s H C b Pc As)
    (hg : g.method = m) (hn : As.length = n) (hsize : g.locals.size = nL) (hstack : g.stack = As.reverse ++ .ref b :: rest) (hW : 2 * g.monitorRoom + (rest.map fun v => v.category).sum ≤ 8) (hdg : decode cc g.pc = .ok (.invokevirtual index, 3)) (hf : cells + mc ≤ R.cells ∧ slots + ms ≤ R.slots) :
    vx_Run p l e R s m args below meth c H locs cells slots mc ms g rest (Qc (Value.ref b :: As).toArray) XC free := by
  obtain ⟨⟨hrc, hrs, hfr, hlo, hws, hcw⟩, hcode, hini, hy, hlen, hl, hin, hse⟩ := cw
  have hK : vx_Back l R p e below s args y 3 8 (PreOf R mc ms Pc) (PostOf Qc mc ms free) (vx_Post XC mc ms free) := vx_backW (hh := hh) (bytes := bytes) (maxL := maxL) (ret := ret) hM hp.1 hrc hrs hfr hlo hws hcw (fun a' U hW => word_at hW (Or.inl (by first | rfl | simp [Cond.onTables, Cond.keeps, Cond.steady])) hini)
  obtain ⟨hx, hb, hml, ho, -⟩ := S
  obtain ⟨-, ⟨cellB, hcB, hoB, hclB⟩, hPc⟩ := hp
  intro T hT X
  rcases vx_callVX X hx (C := C) (hh := hh) (bytes := bytes) (maxL := maxL) (ret := ret) ho hl hin hse hcode hy hK (by rw [hT]; exact hcB) hoB hclB hg (hsize.trans hml.symm) (argsL := As) (rest := rest) (fun sig h => hn.trans (hlen sig h)) hstack hW (by rw [hb]; exact hdg)
    (fun vm₁ hW₁ => ⟨hf.1, hf.2, hPc (T.setVm vm₁) hT hW₁⟩) with ⟨v, vm₁, ⟨U', l2, c2, s2⟩, hW₁, X', ⟨g', mk, t, L, e1, e2, hq, h1, hL, h2, h3⟩, st⟩ | ⟨q, vm₁, ⟨U', l2, c2, s2⟩, hW₁, X', ⟨g', mk, t, L, E, ce, e1, e2, hq, hce, hcv, hcl, h1, hL, h2, h3⟩, st⟩
  · dsimp only [Pt.U, Pt.locs, Pt.cells, Pt.slots] at X' e1 e2 h1 h2 h3 st
    subst h1; subst h2; subst h3
    exact Or.inl ⟨v, (T.setVm vm₁).calling g' mk (Value.ref b :: As).toArray, t, U', L, hT, X', hL, e1, e2, hq, st⟩
  · dsimp only [Pt.U, Pt.locs, Pt.cells, Pt.slots] at X' e1 e2 h1 h2 h3 st hcl
    subst h1; subst h2; subst h3
    exact Or.inr ⟨q, (T.setVm vm₁).calling g' mk (Value.ref b :: As).toArray, t, U', L, E, ce, hT, X', hL, e1, e2, hq, hce, hcv, vx_cls hW₁ hcl, st⟩
theorem vx_runSX {hh : List (Nat × Nat × Nat × Nat)} (S : CallFix p m c cc nL s args Ts own) (hM : vx_Met l y ws rm Pc Qc XC mc ms free) (cw : vx_CSW R s args own index y bytes maxL ret hh ws rm mc ms n) (hp : PreS s H Pc As)
    (hg : g.method = m) (hn : As.length = n) (hsize : g.locals.size = nL) (hstack : g.stack = As.reverse ++ rest) (hW : 2 * g.monitorRoom + (rest.map fun v => v.category).sum ≤ 8) (hdg : decode cc g.pc = .ok (.invokestatic index, 3)) (hf : cells + mc ≤ R.cells ∧ slots + ms ≤ R.slots) :
    vx_Run p l e R s m args below meth c H locs cells slots mc ms g rest (Qc As.toArray) XC free := by
  obtain ⟨⟨hrc, hrs, hfr, hlo, hws, hcw⟩, hcode, hini, hy, hlen, hl, hstt⟩ := cw
  have hK : vx_Back l R p e below s args y 3 8 (PreOf R mc ms Pc) (PostOf Qc mc ms free) (vx_Post XC mc ms free) := vx_backW (hh := hh) (bytes := bytes) (maxL := maxL) (ret := ret) hM hp.1 hrc hrs hfr hlo hws hcw (fun a' U hW => word_at hW (Or.inl (by first | rfl | simp [Cond.onTables, Cond.keeps, Cond.steady])) hini)
  obtain ⟨hx, hb, hml, ho, -⟩ := S
  intro T hT X
  rcases vx_callSX X hx (hh := hh) (bytes := bytes) (maxL := maxL) (ret := ret) ho hl hstt hini hcode hy hK hg (hsize.trans hml.symm) (argsL := As) (rest := rest) (fun sig h => hn.trans (hlen sig h)) hstack hW (by rw [hb]; exact hdg)
    (fun vm₁ hW₁ => ⟨hf.1, hf.2, hp.2 (T.setVm vm₁) hT hW₁⟩) with ⟨v, vm₁, ⟨U', l2, c2, s2⟩, hW₁, X', ⟨g', mk, t, L, e1, e2, hq, h1, hL, h2, h3⟩, st⟩ | ⟨q, vm₁, ⟨U', l2, c2, s2⟩, hW₁, X', ⟨g', mk, t, L, E, ce, e1, e2, hq, hce, hcv, hcl, h1, hL, h2, h3⟩, st⟩
  · dsimp only [Pt.U, Pt.locs, Pt.cells, Pt.slots] at X' e1 e2 h1 h2 h3 st
    subst h1; subst h2; subst h3
    exact Or.inl ⟨v, (T.setVm vm₁).calling g' mk As.toArray, t, U', L, hT, X', hL, e1, e2, hq, st⟩
  · dsimp only [Pt.U, Pt.locs, Pt.cells, Pt.slots] at X' e1 e2 h1 h2 h3 st hcl
    subst h1; subst h2; subst h3
    exact Or.inr ⟨q, (T.setVm vm₁).calling g' mk As.toArray, t, U', L, E, ce, hT, X', hL, e1, e2, hq, hce, hcv, vx_cls hW₁ hcl, st⟩
end
end VXH
theorem vx_ofWH {l : Launch} {y : MethodName} {ws ws' : List Cond} {rm : Room} {Pc : Array Value → State → Prop} {Qc : Array Value → State → Outcome → State → Prop} {XC : String → State → State → Prop} {mc ms : Nat} {free : Addr → Prop} {cc : ByteArray} {maxL : Nat} {ret : Option FieldType} {hh : List (Nat × Nat × Nat × Nat)}
    (hy : plainName y.cls = true) (hw : ws = Cond.codeWith y cc maxL ret hh :: ws')
    (body : ∀ p e s m args below meth c s₁, BodyLoose p l y (headSpec ws rm) cc maxL ret e s m args below meth c s₁ → c.maxLocals = maxL → Pc args s →
      W p l e (headSpec ws rm).room s m args below meth c s.heap [] 0 0 (vx_MQ below Qc XC args s mc ms free) (entryFrame m args maxL)) : vx_Met l y ws rm Pc Qc XC mc ms free := by
  refine MetFree.of_bodyS (code := cc) (maxLocals := maxL) (ret := ret) hy ?_ ?_
  · intro args s m h hn
    obtain ⟨m9, meth, c, hn9, h1, h2, h3, h4, -, h5, h6, -⟩ := Cond.codeWith_spec (atoms_spec (ws := ws) h _ (by rw [hw]; exact List.mem_cons_self))
    cases hn.symm.trans hn9
    exact ⟨meth, c, h1, h2, h3, h4, h5, h6⟩
  · intro p e s m args below meth c s₁ B hml hP _
    have hh0 : s₁.heap = s.heap := by rw [B.state]; rfl
    obtain ⟨t, a1, o, b1, b2, b3⟩ := body p e s m args below meth c s₁ B hml hP s₁ hh0 (Stand.of_body B)
    exact ⟨t, o, a1, b1, b2, b3⟩
/-! ===== END ===== -/
end
section

/-! ===== BEGIN printed: names, fields, word lists, decode rows ===== -/
def RX0 : String := "Mutualledger$Debts"
def TX0 : u_T := fun k => match k with
  | 0 => ("Mutualledger$Debts", "owed", "LMutualledger$Table;", true)
  | _ => ("Mutualledger$Debts", "frozenParts", "LMutualledger$Table;", true)
def tyX0 : Nat → FieldType := fun k => match k with
  | 0 => .object "Mutualledger$Table"
  | _ => .object "Mutualledger$Table"
abbrev wsX00 : List Cond := u_ws RX0 TX0 2
theorem nmX0 : ∀ a, a < 2 → ∀ b, b < 2 → a ≠ b → (TX0 a).2.1 ≠ (TX0 b).2.1 := by decide +kernel
theorem tyX0_ok : ∀ k, k < 2 → parseFieldDescriptor (TX0 k).2.2.1 = some (tyX0 k) := by decide +kernel
abbrev cX0_init : ByteArray := prog_2_method_1_code
def yX0_init : MethodName := ⟨RX0, "<init>", "()V"⟩
abbrev cX0_owed : ByteArray := prog_2_method_2_code
def yX0_owed : MethodName := ⟨RX0, "owed", "(II)I"⟩
abbrev cX0_frozenPart : ByteArray := prog_2_method_3_code
def yX0_frozenPart : MethodName := ⟨RX0, "frozenPart", "(II)I"⟩
abbrev cX0_open : ByteArray := prog_2_method_4_code
def yX0_open : MethodName := ⟨RX0, "open", "(II)I"⟩
abbrev cX0_openTo : ByteArray := prog_2_method_5_code
def yX0_openTo : MethodName := ⟨RX0, "openTo", "(I)I"⟩
abbrev cX0_more : ByteArray := prog_2_method_6_code
def yX0_more : MethodName := ⟨RX0, "more", "(III)V"⟩
abbrev cX0_freeze : ByteArray := prog_2_method_7_code
def yX0_freeze : MethodName := ⟨RX0, "freeze", "(III)V"⟩
abbrev cX0_balanceOf : ByteArray := prog_2_method_8_code
def yX0_balanceOf : MethodName := ⟨RX0, "balanceOf", "(I)I"⟩
abbrev cX0_greatestOpenDebtorOf : ByteArray := prog_2_method_9_code
def yX0_greatestOpenDebtorOf : MethodName := ⟨RX0, "greatestOpenDebtorOf", "(I)I"⟩
def RX1 : String := "Mutualledger$Rings"
def TX1 : u_T := fun k => match k with
  | 0 => ("Mutualledger$Rings", "rows", "LMutualledger$Table;", true)
  | _ => ("Mutualledger$Rings", "count", "I", false)
def tyX1 : Nat → FieldType := fun k => match k with
  | 0 => .object "Mutualledger$Table"
  | _ => .int
abbrev wsX10 : List Cond := u_ws RX1 TX1 2
theorem nmX1 : ∀ a, a < 2 → ∀ b, b < 2 → a ≠ b → (TX1 a).2.1 ≠ (TX1 b).2.1 := by decide +kernel
theorem tyX1_ok : ∀ k, k < 2 → parseFieldDescriptor (TX1 k).2.2.1 = some (tyX1 k) := by decide +kernel
abbrev cX1_init : ByteArray := prog_3_method_1_code
def yX1_init : MethodName := ⟨RX1, "<init>", "()V"⟩
abbrev cX1_size : ByteArray := prog_3_method_2_code
def yX1_size : MethodName := ⟨RX1, "size", "()I"⟩
abbrev cX1_of : ByteArray := prog_3_method_3_code
def yX1_of : MethodName := ⟨RX1, "of", "(II)I"⟩
abbrev cX1_netAll : ByteArray := prog_3_method_4_code
def yX1_netAll : MethodName := ⟨RX1, "netAll", "(LMutualledger$Debts;)V"⟩
abbrev cX1_shopAt : ByteArray := prog_3_method_5_code
def yX1_shopAt : MethodName := ⟨RX1, "shopAt", "(I)I"⟩
abbrev cX1_setShopAt : ByteArray := prog_3_method_6_code
def yX1_setShopAt : MethodName := ⟨RX1, "setShopAt", "(II)V"⟩
abbrev cX1_find : ByteArray := prog_3_method_7_code
def yX1_find : MethodName := ⟨RX1, "find", "(LMutualledger$Debts;)Z"⟩
abbrev cX1_closes : ByteArray := prog_3_method_8_code
def yX1_closes : MethodName := ⟨RX1, "closes", "(LMutualledger$Rings;LMutualledger$Debts;II)Z"⟩
abbrev cX1_isSet : ByteArray := prog_3_method_9_code
def yX1_isSet : MethodName := ⟨RX1, "isSet", "(II)Z"⟩
abbrev cX1_net : ByteArray := prog_3_method_10_code
def yX1_net : MethodName := ⟨RX1, "net", "(LMutualledger$Debts;)V"⟩
def RX2 : String := "Mutualledger$Table"
def TX2 : u_T := fun k => match k with
  | 0 => ("Mutualledger$Table", "rows", "I", true)
  | 1 => ("Mutualledger$Table", "columns", "I", true)
  | _ => ("Mutualledger$Table", "cells", "[I", true)
def tyX2 : Nat → FieldType := fun k => match k with
  | 0 => .int
  | 1 => .int
  | _ => .array .int
abbrev wsX20 : List Cond := u_ws RX2 TX2 3
theorem nmX2 : ∀ a, a < 3 → ∀ b, b < 3 → a ≠ b → (TX2 a).2.1 ≠ (TX2 b).2.1 := by decide +kernel
theorem tyX2_ok : ∀ k, k < 3 → parseFieldDescriptor (TX2 k).2.2.1 = some (tyX2 k) := by decide +kernel
abbrev cX2_init : ByteArray := prog_4_method_1_code
def yX2_init : MethodName := ⟨RX2, "<init>", "(II)V"⟩
abbrev cX2_placeOf : ByteArray := prog_4_method_2_code
def yX2_placeOf : MethodName := ⟨RX2, "placeOf", "(II)I"⟩
abbrev cX2_get : ByteArray := prog_4_method_3_code
def yX2_get : MethodName := ⟨RX2, "get", "(II)I"⟩
abbrev cX2_set : ByteArray := prog_4_method_4_code
def yX2_set : MethodName := ⟨RX2, "set", "(III)V"⟩
abbrev cX2_add : ByteArray := prog_4_method_5_code
def yX2_add : MethodName := ⟨RX2, "add", "(III)V"⟩
abbrev cX2_rowSum : ByteArray := prog_4_method_6_code
def yX2_rowSum : MethodName := ⟨RX2, "rowSum", "(I)I"⟩
abbrev cX2_columnSum : ByteArray := prog_4_method_7_code
def yX2_columnSum : MethodName := ⟨RX2, "columnSum", "(I)I"⟩
abbrev cX2_clearAllOf : ByteArray := prog_4_method_8_code
def yX2_clearAllOf : MethodName := ⟨RX2, "clearAllOf", "(I)V"⟩
def RX3 : String := "Mutualledger$Trades"
def TX3 : u_T := fun k => match k with
  | 0 => ("Mutualledger$Trades", "rows", "LMutualledger$Table;", true)
  | _ => ("Mutualledger$Trades", "count", "I", false)
def tyX3 : Nat → FieldType := fun k => match k with
  | 0 => .object "Mutualledger$Table"
  | _ => .int
abbrev wsX30 : List Cond := u_ws RX3 TX3 2
theorem nmX3 : ∀ a, a < 2 → ∀ b, b < 2 → a ≠ b → (TX3 a).2.1 ≠ (TX3 b).2.1 := by decide +kernel
theorem tyX3_ok : ∀ k, k < 2 → parseFieldDescriptor (TX3 k).2.2.1 = some (tyX3 k) := by decide +kernel
abbrev cX3_init : ByteArray := prog_5_method_1_code
def yX3_init : MethodName := ⟨RX3, "<init>", "()V"⟩
abbrev cX3_isFull : ByteArray := prog_5_method_2_code
def yX3_isFull : MethodName := ⟨RX3, "isFull", "()Z"⟩
abbrev cX3_has : ByteArray := prog_5_method_3_code
def yX3_has : MethodName := ⟨RX3, "has", "(I)Z"⟩
abbrev cX3_of : ByteArray := prog_5_method_4_code
def yX3_of : MethodName := ⟨RX3, "of", "(II)I"⟩
abbrev cX3_put : ByteArray := prog_5_method_5_code
def yX3_put : MethodName := ⟨RX3, "put", "(IIII)I"⟩
abbrev cX3_turn : ByteArray := prog_5_method_6_code
def yX3_turn : MethodName := ⟨RX3, "turn", "(III)V"⟩
abbrev cX3_isOf : ByteArray := prog_5_method_7_code
def yX3_isOf : MethodName := ⟨RX3, "isOf", "(II)Z"⟩
abbrev cX3_hasDisputedOf : ByteArray := prog_5_method_8_code
def yX3_hasDisputedOf : MethodName := ⟨RX3, "hasDisputedOf", "(I)Z"⟩
abbrev cX3_hasSince : ByteArray := prog_5_method_9_code
def yX3_hasSince : MethodName := ⟨RX3, "hasSince", "(II)Z"⟩
abbrev cX3_amountsSince : ByteArray := prog_5_method_10_code
def yX3_amountsSince : MethodName := ⟨RX3, "amountsSince", "(II)I"⟩
abbrev cX3_balanceOf : ByteArray := prog_5_method_11_code
def yX3_balanceOf : MethodName := ⟨RX3, "balanceOf", "(I)I"⟩
def RX4 : String := "Mutualledger"
def TX4 : u_T := fun k => match k with
  | 0 => ("Mutualledger", "shops", "LMutualledger$Table;", true)
  | 1 => ("Mutualledger", "trades", "LMutualledger$Trades;", true)
  | 2 => ("Mutualledger", "debts", "LMutualledger$Debts;", true)
  | 3 => ("Mutualledger", "guarantees", "LMutualledger$Table;", true)
  | 4 => ("Mutualledger", "givenUp", "LMutualledger$Table;", true)
  | 5 => ("Mutualledger", "rings", "LMutualledger$Rings;", true)
  | 6 => ("Mutualledger", "joined", "I", false)
  | 7 => ("Mutualledger", "today", "I", false)
  | _ => ("Mutualledger", "thousandths", "I", false)
def tyX4 : Nat → FieldType := fun k => match k with
  | 0 => .object "Mutualledger$Table"
  | 1 => .object "Mutualledger$Trades"
  | 2 => .object "Mutualledger$Debts"
  | 3 => .object "Mutualledger$Table"
  | 4 => .object "Mutualledger$Table"
  | 5 => .object "Mutualledger$Rings"
  | 6 => .int
  | 7 => .int
  | _ => .int
abbrev wsX40 : List Cond := u_ws RX4 TX4 9
theorem nmX4 : ∀ a, a < 9 → ∀ b, b < 9 → a ≠ b → (TX4 a).2.1 ≠ (TX4 b).2.1 := by decide +kernel
theorem tyX4_ok : ∀ k, k < 9 → parseFieldDescriptor (TX4 k).2.2.1 = some (tyX4 k) := by decide +kernel
abbrev cX4_init : ByteArray := prog_1_method_1_code
def yX4_init : MethodName := ⟨RX4, "<init>", "()V"⟩
abbrev cX4_join : ByteArray := prog_1_method_2_code
def yX4_join : MethodName := ⟨RX4, "join", "()I"⟩
abbrev cX4_leave : ByteArray := prog_1_method_3_code
def yX4_leave : MethodName := ⟨RX4, "leave", "(I)I"⟩
abbrev cX4_trade : ByteArray := prog_1_method_4_code
def yX4_trade : MethodName := ⟨RX4, "trade", "(III)I"⟩
abbrev cX4_dispute : ByteArray := prog_1_method_5_code
def yX4_dispute : MethodName := ⟨RX4, "dispute", "(I)I"⟩
abbrev cX4_settle : ByteArray := prog_1_method_6_code
def yX4_settle : MethodName := ⟨RX4, "settle", "(IZ)I"⟩
abbrev cX4_guarantee : ByteArray := prog_1_method_7_code
def yX4_guarantee : MethodName := ⟨RX4, "guarantee", "(III)I"⟩
abbrev cX4_revoke : ByteArray := prog_1_method_8_code
def yX4_revoke : MethodName := ⟨RX4, "revoke", "(III)I"⟩
abbrev cX4_fee : ByteArray := prog_1_method_9_code
def yX4_fee : MethodName := ⟨RX4, "fee", "(I)I"⟩
abbrev cX4_night : ByteArray := prog_1_method_10_code
def yX4_night : MethodName := ⟨RX4, "night", "(I)I"⟩
abbrev cX4_balance : ByteArray := prog_1_method_11_code
def yX4_balance : MethodName := ⟨RX4, "balance", "(I)I"⟩
abbrev cX4_balanceAnew : ByteArray := prog_1_method_12_code
def yX4_balanceAnew : MethodName := ⟨RX4, "balanceAnew", "(I)I"⟩
abbrev cX4_limit : ByteArray := prog_1_method_13_code
def yX4_limit : MethodName := ⟨RX4, "limit", "(I)I"⟩
abbrev cX4_owes : ByteArray := prog_1_method_14_code
def yX4_owes : MethodName := ⟨RX4, "owes", "(II)I"⟩
abbrev cX4_frozen : ByteArray := prog_1_method_15_code
def yX4_frozen : MethodName := ⟨RX4, "frozen", "(II)I"⟩
abbrev cX4_ofTrade : ByteArray := prog_1_method_16_code
def yX4_ofTrade : MethodName := ⟨RX4, "ofTrade", "(II)I"⟩
abbrev cX4_guaranteed : ByteArray := prog_1_method_17_code
def yX4_guaranteed : MethodName := ⟨RX4, "guaranteed", "(II)I"⟩
abbrev cX4_goods : ByteArray := prog_1_method_18_code
def yX4_goods : MethodName := ⟨RX4, "goods", "(I)I"⟩
abbrev cX4_isIdle : ByteArray := prog_1_method_19_code
def yX4_isIdle : MethodName := ⟨RX4, "isIdle", "(I)Z"⟩
abbrev cX4_rings : ByteArray := prog_1_method_20_code
def yX4_rings : MethodName := ⟨RX4, "rings", "()I"⟩
abbrev cX4_ring : ByteArray := prog_1_method_21_code
def yX4_ring : MethodName := ⟨RX4, "ring", "(II)I"⟩
abbrev cX4_wasShop : ByteArray := prog_1_method_22_code
def yX4_wasShop : MethodName := ⟨RX4, "wasShop", "(I)Z"⟩
abbrev cX4_isShop : ByteArray := prog_1_method_23_code
def yX4_isShop : MethodName := ⟨RX4, "isShop", "(I)Z"⟩
abbrev cX4_needShop : ByteArray := prog_1_method_24_code
def yX4_needShop : MethodName := ⟨RX4, "needShop", "(I)V"⟩
abbrev cX4_needShopEver : ByteArray := prog_1_method_25_code
def yX4_needShopEver : MethodName := ⟨RX4, "needShopEver", "(I)V"⟩
abbrev cX4_needShopEverOrHouse : ByteArray := prog_1_method_26_code
def yX4_needShopEverOrHouse : MethodName := ⟨RX4, "needShopEverOrHouse", "(I)V"⟩
abbrev cX4_needTrade : ByteArray := prog_1_method_27_code
def yX4_needTrade : MethodName := ⟨RX4, "needTrade", "(I)V"⟩
abbrev cX4_needRange : ByteArray := prog_1_method_28_code
def yX4_needRange : MethodName := ⟨RX4, "needRange", "(III)V"⟩
abbrev cX4_needUnlike : ByteArray := prog_1_method_29_code
def yX4_needUnlike : MethodName := ⟨RX4, "needUnlike", "(II)V"⟩
abbrev cX4_needGuaranteeArguments : ByteArray := prog_1_method_30_code
def yX4_needGuaranteeArguments : MethodName := ⟨RX4, "needGuaranteeArguments", "(III)V"⟩
abbrev cX4_needBearable : ByteArray := prog_1_method_31_code
def yX4_needBearable : MethodName := ⟨RX4, "needBearable", "(II)V"⟩
abbrev cX4_limitOf : ByteArray := prog_1_method_32_code
def yX4_limitOf : MethodName := ⟨RX4, "limitOf", "(I)I"⟩
abbrev cX4_isIdleShop : ByteArray := prog_1_method_33_code
def yX4_isIdleShop : MethodName := ⟨RX4, "isIdleShop", "(I)Z"⟩
abbrev cX4_payFees : ByteArray := prog_1_method_34_code
def yX4_payFees : MethodName := ⟨RX4, "payFees", "()V"⟩
abbrev cX4_payFee : ByteArray := prog_1_method_35_code
def yX4_payFee : MethodName := ⟨RX4, "payFee", "(I)V"⟩
abbrev cX4_passDebtsThrough : ByteArray := prog_1_method_36_code
def yX4_passDebtsThrough : MethodName := ⟨RX4, "passDebtsThrough", "(I)V"⟩
abbrev cX4_letGuarantorsPay : ByteArray := prog_1_method_37_code
def yX4_letGuarantorsPay : MethodName := ⟨RX4, "letGuarantorsPay", "(I)V"⟩
abbrev cX4_takeOver : ByteArray := prog_1_method_38_code
def yX4_takeOver : MethodName := ⟨RX4, "takeOver", "(IIII)V"⟩
abbrev cX4_oweInGoodsBy : ByteArray := prog_1_method_39_code
def yX4_oweInGoodsBy : MethodName := ⟨RX4, "oweInGoodsBy", "(I)I"⟩
abbrev cX4_oweInGoodsTo : ByteArray := prog_1_method_40_code
def yX4_oweInGoodsTo : MethodName := ⟨RX4, "oweInGoodsTo", "(I)I"⟩
def RX5 : String := "MutualledgerModel"
def TX5 : u_T := fun k => match k with
  | 0 => ("MutualledgerModel", "thrown", "I", false)
  | 1 => ("MutualledgerModel", "joined", "I", false)
  | 2 => ("MutualledgerModel", "isIn", "[Z", true)
  | 3 => ("MutualledgerModel", "owes", "[I", true)
  | 4 => ("MutualledgerModel", "frozen", "[I", true)
  | 5 => ("MutualledgerModel", "guaranteed", "[I", true)
  | 6 => ("MutualledgerModel", "goods", "[I", true)
  | 7 => ("MutualledgerModel", "trades", "I", false)
  | 8 => ("MutualledgerModel", "buyer", "[I", true)
  | 9 => ("MutualledgerModel", "seller", "[I", true)
  | 10 => ("MutualledgerModel", "amount", "[I", true)
  | 11 => ("MutualledgerModel", "day", "[I", true)
  | 12 => ("MutualledgerModel", "state", "[I", true)
  | 13 => ("MutualledgerModel", "part", "[I", true)
  | 14 => ("MutualledgerModel", "today", "I", false)
  | 15 => ("MutualledgerModel", "fee", "I", false)
  | 16 => ("MutualledgerModel", "rings", "I", false)
  | 17 => ("MutualledgerModel", "ring", "[I", true)
  | _ => ("MutualledgerModel", "row", "[I", true)
def tyX5 : Nat → FieldType := fun k => match k with
  | 0 => .int
  | 1 => .int
  | 2 => .array .boolean
  | 3 => .array .int
  | 4 => .array .int
  | 5 => .array .int
  | 6 => .array .int
  | 7 => .int
  | 8 => .array .int
  | 9 => .array .int
  | 10 => .array .int
  | 11 => .array .int
  | 12 => .array .int
  | 13 => .array .int
  | 14 => .int
  | 15 => .int
  | 16 => .int
  | 17 => .array .int
  | _ => .array .int
abbrev wsX50 : List Cond := u_ws RX5 TX5 19
theorem nmX5 : ∀ a, a < 19 → ∀ b, b < 19 → a ≠ b → (TX5 a).2.1 ≠ (TX5 b).2.1 := by decide +kernel
theorem tyX5_ok : ∀ k, k < 19 → parseFieldDescriptor (TX5 k).2.2.1 = some (tyX5 k) := by decide +kernel
abbrev cX5_init : ByteArray := prog_7_method_1_code
def yX5_init : MethodName := ⟨RX5, "<init>", "()V"⟩
abbrev cX5_thrown : ByteArray := prog_7_method_2_code
def yX5_thrown : MethodName := ⟨RX5, "thrown", "()I"⟩
abbrev cX5_in : ByteArray := prog_7_method_3_code
def yX5_in : MethodName := ⟨RX5, "in", "(III)Z"⟩
abbrev cX5_isShop : ByteArray := prog_7_method_4_code
def yX5_isShop : MethodName := ⟨RX5, "isShop", "(I)Z"⟩
abbrev cX5_was : ByteArray := prog_7_method_5_code
def yX5_was : MethodName := ⟨RX5, "was", "(I)Z"⟩
abbrev cX5_at : ByteArray := prog_7_method_6_code
def yX5_at : MethodName := ⟨RX5, "at", "(II)I"⟩
abbrev cX5_least : ByteArray := prog_7_method_7_code
def yX5_least : MethodName := ⟨RX5, "least", "(II)I"⟩
abbrev cX5_free : ByteArray := prog_7_method_8_code
def yX5_free : MethodName := ⟨RX5, "free", "(II)I"⟩
abbrev cX5_balanceOf : ByteArray := prog_7_method_9_code
def yX5_balanceOf : MethodName := ⟨RX5, "balanceOf", "(I)I"⟩
abbrev cX5_isOf : ByteArray := prog_7_method_10_code
def yX5_isOf : MethodName := ⟨RX5, "isOf", "(II)Z"⟩
abbrev cX5_limitOf : ByteArray := prog_7_method_11_code
def yX5_limitOf : MethodName := ⟨RX5, "limitOf", "(I)I"⟩
abbrev cX5_isBelow : ByteArray := prog_7_method_12_code
def yX5_isBelow : MethodName := ⟨RX5, "isBelow", "(II)Z"⟩
abbrev cX5_join : ByteArray := prog_7_method_13_code
def yX5_join : MethodName := ⟨RX5, "join", "()I"⟩
abbrev cX5_lowestTo : ByteArray := prog_7_method_14_code
def yX5_lowestTo : MethodName := ⟨RX5, "lowestTo", "(I)I"⟩
abbrev cX5_lowestOf : ByteArray := prog_7_method_15_code
def yX5_lowestOf : MethodName := ⟨RX5, "lowestOf", "(I)I"⟩
abbrev cX5_takesOver : ByteArray := prog_7_method_16_code
def yX5_takesOver : MethodName := ⟨RX5, "takesOver", "(IIII)V"⟩
abbrev cX5_passesOn : ByteArray := prog_7_method_17_code
def yX5_passesOn : MethodName := ⟨RX5, "passesOn", "(I)V"⟩
abbrev cX5_lets : ByteArray := prog_7_method_18_code
def yX5_lets : MethodName := ⟨RX5, "lets", "(I)V"⟩
abbrev cX5_leave : ByteArray := prog_7_method_19_code
def yX5_leave : MethodName := ⟨RX5, "leave", "(I)I"⟩
abbrev cX5_trade : ByteArray := prog_7_method_20_code
def yX5_trade : MethodName := ⟨RX5, "trade", "(III)I"⟩
abbrev cX5_isTrade : ByteArray := prog_7_method_21_code
def yX5_isTrade : MethodName := ⟨RX5, "isTrade", "(I)Z"⟩
abbrev cX5_dispute : ByteArray := prog_7_method_22_code
def yX5_dispute : MethodName := ⟨RX5, "dispute", "(I)I"⟩
abbrev cX5_settle : ByteArray := prog_7_method_23_code
def yX5_settle : MethodName := ⟨RX5, "settle", "(IZ)I"⟩
abbrev cX5_guarantee : ByteArray := prog_7_method_24_code
def yX5_guarantee : MethodName := ⟨RX5, "guarantee", "(III)I"⟩
abbrev cX5_revoke : ByteArray := prog_7_method_25_code
def yX5_revoke : MethodName := ⟨RX5, "revoke", "(III)I"⟩
abbrev cX5_fee : ByteArray := prog_7_method_26_code
def yX5_fee : MethodName := ⟨RX5, "fee", "(I)I"⟩
abbrev cX5_isRing : ByteArray := prog_7_method_27_code
def yX5_isRing : MethodName := ⟨RX5, "isRing", "(I)Z"⟩
abbrev cX5_canBegin : ByteArray := prog_7_method_28_code
def yX5_canBegin : MethodName := ⟨RX5, "canBegin", "(I)Z"⟩
abbrev cX5_laysRing : ByteArray := prog_7_method_29_code
def yX5_laysRing : MethodName := ⟨RX5, "laysRing", "(I)Z"⟩
abbrev cX5_nets : ByteArray := prog_7_method_30_code
def yX5_nets : MethodName := ⟨RX5, "nets", "()Z"⟩
abbrev cX5_isLazy : ByteArray := prog_7_method_31_code
def yX5_isLazy : MethodName := ⟨RX5, "isLazy", "(I)Z"⟩
abbrev cX5_pays : ByteArray := prog_7_method_32_code
def yX5_pays : MethodName := ⟨RX5, "pays", "(I)V"⟩
abbrev cX5_night : ByteArray := prog_7_method_33_code
def yX5_night : MethodName := ⟨RX5, "night", "(I)I"⟩
abbrev cX5_balance : ByteArray := prog_7_method_34_code
def yX5_balance : MethodName := ⟨RX5, "balance", "(I)I"⟩
abbrev cX5_balanceAnew : ByteArray := prog_7_method_35_code
def yX5_balanceAnew : MethodName := ⟨RX5, "balanceAnew", "(I)I"⟩
abbrev cX5_limit : ByteArray := prog_7_method_36_code
def yX5_limit : MethodName := ⟨RX5, "limit", "(I)I"⟩
abbrev cX5_owes : ByteArray := prog_7_method_37_code
def yX5_owes : MethodName := ⟨RX5, "owes", "(II)I"⟩
abbrev cX5_frozen : ByteArray := prog_7_method_38_code
def yX5_frozen : MethodName := ⟨RX5, "frozen", "(II)I"⟩
abbrev cX5_ofTrade : ByteArray := prog_7_method_39_code
def yX5_ofTrade : MethodName := ⟨RX5, "ofTrade", "(II)I"⟩
abbrev cX5_guaranteed : ByteArray := prog_7_method_40_code
def yX5_guaranteed : MethodName := ⟨RX5, "guaranteed", "(II)I"⟩
abbrev cX5_goods : ByteArray := prog_7_method_41_code
def yX5_goods : MethodName := ⟨RX5, "goods", "(I)I"⟩
abbrev cX5_isIdle : ByteArray := prog_7_method_42_code
def yX5_isIdle : MethodName := ⟨RX5, "isIdle", "(I)Z"⟩
abbrev cX5_rings : ByteArray := prog_7_method_43_code
def yX5_rings : MethodName := ⟨RX5, "rings", "()I"⟩
abbrev cX5_ring : ByteArray := prog_7_method_44_code
def yX5_ring : MethodName := ⟨RX5, "ring", "(II)I"⟩
def RJ9 : String := "java/lang/Math"
def TJ9 : u_T := fun k => match k with
  | _ => ("", "", "", false)
def tyJ9 : Nat → FieldType := fun k => match k with
  | _ => .int
abbrev wsJ90 : List Cond := u_ws RJ9 TJ9 0
theorem nmJ9 : ∀ a, a < 0 → ∀ b, b < 0 → a ≠ b → (TJ9 a).2.1 ≠ (TJ9 b).2.1 := by decide +kernel
theorem tyJ9_ok : ∀ k, k < 0 → parseFieldDescriptor (TJ9 k).2.2.1 = some (tyJ9 k) := by decide +kernel
abbrev cJ9_max_7cf53 : ByteArray := prog_12_method_65_code
def yJ9_max_7cf53 : MethodName := ⟨RJ9, "max", "(II)I"⟩
abbrev cJ9_min_7cf53 : ByteArray := prog_12_method_69_code
def yJ9_min_7cf53 : MethodName := ⟨RJ9, "min", "(II)I"⟩
def RJ0 : String := "java/lang/String"
def TJ0 : u_T := fun k => match k with
  | _ => ("", "", "", false)
def tyJ0 : Nat → FieldType := fun k => match k with
  | _ => .int
abbrev wsJ00 : List Cond := u_ws RJ0 TJ0 0
theorem nmJ0 : ∀ a, a < 0 → ∀ b, b < 0 → a ≠ b → (TJ0 a).2.1 ≠ (TJ0 b).2.1 := by decide +kernel
theorem tyJ0_ok : ∀ k, k < 0 → parseFieldDescriptor (TJ0 k).2.2.1 = some (tyJ0 k) := by decide +kernel
def RL : String := "MutualledgerLaw"
abbrev cL_join : ByteArray := method_3_code
def yL_join : MethodName := ⟨RL, "join", "(LMutualledger;[J)I"⟩
abbrev cL_leave : ByteArray := method_4_code
def yL_leave : MethodName := ⟨RL, "leave", "(LMutualledger;I[J)I"⟩
abbrev cL_trade : ByteArray := method_5_code
def yL_trade : MethodName := ⟨RL, "trade", "(LMutualledger;III[J)I"⟩
abbrev cL_dispute : ByteArray := method_6_code
def yL_dispute : MethodName := ⟨RL, "dispute", "(LMutualledger;I[J)I"⟩
abbrev cL_settle : ByteArray := method_7_code
def yL_settle : MethodName := ⟨RL, "settle", "(LMutualledger;IZ[J)I"⟩
abbrev cL_guarantee : ByteArray := method_8_code
def yL_guarantee : MethodName := ⟨RL, "guarantee", "(LMutualledger;III[J)I"⟩
abbrev cL_revoke : ByteArray := method_9_code
def yL_revoke : MethodName := ⟨RL, "revoke", "(LMutualledger;III[J)I"⟩
abbrev cL_fee : ByteArray := method_10_code
def yL_fee : MethodName := ⟨RL, "fee", "(LMutualledger;I[J)I"⟩
abbrev cL_night : ByteArray := method_11_code
def yL_night : MethodName := ⟨RL, "night", "(LMutualledger;I[J)I"⟩
abbrev cL_balance : ByteArray := method_12_code
def yL_balance : MethodName := ⟨RL, "balance", "(LMutualledger;I[J)I"⟩
abbrev cL_balanceAnew : ByteArray := method_13_code
def yL_balanceAnew : MethodName := ⟨RL, "balanceAnew", "(LMutualledger;I[J)I"⟩
abbrev cL_limit : ByteArray := method_14_code
def yL_limit : MethodName := ⟨RL, "limit", "(LMutualledger;I[J)I"⟩
abbrev cL_owes : ByteArray := method_15_code
def yL_owes : MethodName := ⟨RL, "owes", "(LMutualledger;II[J)I"⟩
abbrev cL_frozen : ByteArray := method_16_code
def yL_frozen : MethodName := ⟨RL, "frozen", "(LMutualledger;II[J)I"⟩
abbrev cL_ofTrade : ByteArray := method_17_code
def yL_ofTrade : MethodName := ⟨RL, "ofTrade", "(LMutualledger;II[J)I"⟩
abbrev cL_guaranteed : ByteArray := method_18_code
def yL_guaranteed : MethodName := ⟨RL, "guaranteed", "(LMutualledger;II[J)I"⟩
abbrev cL_goods : ByteArray := method_19_code
def yL_goods : MethodName := ⟨RL, "goods", "(LMutualledger;I[J)I"⟩
abbrev cL_isIdle : ByteArray := method_20_code
def yL_isIdle : MethodName := ⟨RL, "isIdle", "(LMutualledger;I[J)I"⟩
abbrev cL_ring : ByteArray := method_21_code
def yL_ring : MethodName := ⟨RL, "ring", "(LMutualledger;II[J)I"⟩
abbrev cL_law : ByteArray := code
def yL_law : MethodName := ⟨RL, "law", "([I)Z"⟩
def wsX2_init : List Cond := .code yX2_init cX2_init 3 none :: ([.methodLink RX2 3 objectInit, .instanceMethod objectInit, .code objectInit ⟨#[0xb1]⟩ 1 none, .methodLink RX2 11 Lib.Math.min.name, .static Lib.Math.min.name, .initialized "java/lang/Math", .code Lib.Math.min.name Lib.Math.min.code 2 (some .int), .methodLink RX2 17 Lib.Math.max.name, .static Lib.Math.max.name, .code Lib.Math.max.name Lib.Math.max.code 2 (some .int), .fieldLink RX2 20 "Mutualledger$Table" "rows" "I", .fieldLink RX2 24 "Mutualledger$Table" "columns" "I", .arrayClass .int, .fieldLink RX2 27 "Mutualledger$Table" "cells" "[I"] ++ wsX20)
def wsX0_init : List Cond := .code yX0_init cX0_init 1 none :: ([.methodLink RX0 3 objectInit, .instanceMethod objectInit, .code objectInit ⟨#[0xb1]⟩ 1 none, .classLink RX0 9 RX2, .instantiable RX2 3, .initialized RX2, .fieldLink RX0 14 "Mutualledger$Debts" "owed" "LMutualledger$Table;", .fieldLink RX0 20 "Mutualledger$Debts" "frozenParts" "LMutualledger$Table;", .methodLink RX0 11 yX2_init, .instanceMethod yX2_init, .code yX2_init cX2_init 3 none, .methodLink RX2 3 objectInit, .methodLink RX2 11 Lib.Math.min.name, .static Lib.Math.min.name, .initialized "java/lang/Math", .code Lib.Math.min.name Lib.Math.min.code 2 (some .int), .methodLink RX2 17 Lib.Math.max.name, .static Lib.Math.max.name, .code Lib.Math.max.name Lib.Math.max.code 2 (some .int), .fieldLink RX2 20 "Mutualledger$Table" "rows" "I", .fieldLink RX2 24 "Mutualledger$Table" "columns" "I", .arrayClass .int, .fieldLink RX2 27 "Mutualledger$Table" "cells" "[I"] ++ wsX20 ++ wsX00)
def wsX2_placeOf : List Cond := .code yX2_placeOf cX2_placeOf 4 (some .int) :: ([.fieldLink RX2 20 "Mutualledger$Table" "rows" "I", .fieldLink RX2 24 "Mutualledger$Table" "columns" "I"] ++ wsX20)
def wsX2_get : List Cond := .code yX2_get cX2_get 4 (some .int) :: ([.fieldLink RX2 27 "Mutualledger$Table" "cells" "[I", .methodLink RX2 31 yX2_placeOf, .instanceMethod yX2_placeOf, .selects RX2 yX2_placeOf yX2_placeOf, .initialized RX2, .code yX2_placeOf cX2_placeOf 4 (some .int), .fieldLink RX2 20 "Mutualledger$Table" "rows" "I", .fieldLink RX2 24 "Mutualledger$Table" "columns" "I"] ++ wsX20)
def wsX0_owed : List Cond := .code yX0_owed cX0_owed 3 (some .int) :: ([.fieldLink RX0 14 "Mutualledger$Debts" "owed" "LMutualledger$Table;", .methodLink RX0 23 yX2_get, .instanceMethod yX2_get, .selects RX2 yX2_get yX2_get, .initialized RX2, .code yX2_get cX2_get 4 (some .int), .fieldLink RX2 27 "Mutualledger$Table" "cells" "[I", .methodLink RX2 31 yX2_placeOf, .instanceMethod yX2_placeOf, .selects RX2 yX2_placeOf yX2_placeOf, .code yX2_placeOf cX2_placeOf 4 (some .int), .fieldLink RX2 20 "Mutualledger$Table" "rows" "I", .fieldLink RX2 24 "Mutualledger$Table" "columns" "I"] ++ wsX00 ++ wsX20)
def wsX0_frozenPart : List Cond := .code yX0_frozenPart cX0_frozenPart 3 (some .int) :: ([.fieldLink RX0 20 "Mutualledger$Debts" "frozenParts" "LMutualledger$Table;", .methodLink RX0 23 yX2_get, .instanceMethod yX2_get, .selects RX2 yX2_get yX2_get, .initialized RX2, .code yX2_get cX2_get 4 (some .int), .fieldLink RX2 27 "Mutualledger$Table" "cells" "[I", .methodLink RX2 31 yX2_placeOf, .instanceMethod yX2_placeOf, .selects RX2 yX2_placeOf yX2_placeOf, .code yX2_placeOf cX2_placeOf 4 (some .int), .fieldLink RX2 20 "Mutualledger$Table" "rows" "I", .fieldLink RX2 24 "Mutualledger$Table" "columns" "I"] ++ wsX00 ++ wsX20)
def wsX0_open : List Cond := .code yX0_open cX0_open 3 (some .int) :: ([.fieldLink RX0 14 "Mutualledger$Debts" "owed" "LMutualledger$Table;", .fieldLink RX0 20 "Mutualledger$Debts" "frozenParts" "LMutualledger$Table;", .methodLink RX0 23 yX2_get, .instanceMethod yX2_get, .selects RX2 yX2_get yX2_get, .initialized RX2, .code yX2_get cX2_get 4 (some .int), .fieldLink RX2 27 "Mutualledger$Table" "cells" "[I", .methodLink RX2 31 yX2_placeOf, .instanceMethod yX2_placeOf, .selects RX2 yX2_placeOf yX2_placeOf, .code yX2_placeOf cX2_placeOf 4 (some .int), .fieldLink RX2 20 "Mutualledger$Table" "rows" "I", .fieldLink RX2 24 "Mutualledger$Table" "columns" "I"] ++ wsX00 ++ wsX20)
def wsX2_columnSum : List Cond := .code yX2_columnSum cX2_columnSum 4 (some .int) :: ([.fieldLink RX2 20 "Mutualledger$Table" "rows" "I", .methodLink RX2 34 yX2_get, .instanceMethod yX2_get, .selects RX2 yX2_get yX2_get, .initialized RX2, .code yX2_get cX2_get 4 (some .int), .fieldLink RX2 27 "Mutualledger$Table" "cells" "[I", .methodLink RX2 31 yX2_placeOf, .instanceMethod yX2_placeOf, .selects RX2 yX2_placeOf yX2_placeOf, .code yX2_placeOf cX2_placeOf 4 (some .int), .fieldLink RX2 24 "Mutualledger$Table" "columns" "I"] ++ wsX20)
def wsX0_openTo : List Cond := .code yX0_openTo cX0_openTo 2 (some .int) :: ([.fieldLink RX0 14 "Mutualledger$Debts" "owed" "LMutualledger$Table;", .fieldLink RX0 20 "Mutualledger$Debts" "frozenParts" "LMutualledger$Table;", .methodLink RX0 27 yX2_columnSum, .instanceMethod yX2_columnSum, .selects RX2 yX2_columnSum yX2_columnSum, .initialized RX2, .code yX2_columnSum cX2_columnSum 4 (some .int), .fieldLink RX2 20 "Mutualledger$Table" "rows" "I", .methodLink RX2 34 yX2_get, .instanceMethod yX2_get, .selects RX2 yX2_get yX2_get, .code yX2_get cX2_get 4 (some .int), .fieldLink RX2 27 "Mutualledger$Table" "cells" "[I", .methodLink RX2 31 yX2_placeOf, .instanceMethod yX2_placeOf, .selects RX2 yX2_placeOf yX2_placeOf, .code yX2_placeOf cX2_placeOf 4 (some .int), .fieldLink RX2 24 "Mutualledger$Table" "columns" "I"] ++ wsX00 ++ wsX20)
def wsX2_set : List Cond := .code yX2_set cX2_set 5 none :: ([.fieldLink RX2 27 "Mutualledger$Table" "cells" "[I", .methodLink RX2 31 yX2_placeOf, .instanceMethod yX2_placeOf, .selects RX2 yX2_placeOf yX2_placeOf, .initialized RX2, .code yX2_placeOf cX2_placeOf 4 (some .int), .fieldLink RX2 20 "Mutualledger$Table" "rows" "I", .fieldLink RX2 24 "Mutualledger$Table" "columns" "I"] ++ wsX20)
def wsX2_add : List Cond := .code yX2_add cX2_add 4 none :: ([.methodLink RX2 34 yX2_get, .instanceMethod yX2_get, .selects RX2 yX2_get yX2_get, .initialized RX2, .code yX2_get cX2_get 4 (some .int), .fieldLink RX2 27 "Mutualledger$Table" "cells" "[I", .methodLink RX2 31 yX2_placeOf, .instanceMethod yX2_placeOf, .selects RX2 yX2_placeOf yX2_placeOf, .code yX2_placeOf cX2_placeOf 4 (some .int), .fieldLink RX2 20 "Mutualledger$Table" "rows" "I", .fieldLink RX2 24 "Mutualledger$Table" "columns" "I", .methodLink RX2 37 yX2_set, .instanceMethod yX2_set, .selects RX2 yX2_set yX2_set, .code yX2_set cX2_set 5 none] ++ wsX20)
def wsX0_more : List Cond := .code yX0_more cX0_more 4 none :: ([.fieldLink RX0 14 "Mutualledger$Debts" "owed" "LMutualledger$Table;", .methodLink RX0 31 yX2_add, .instanceMethod yX2_add, .selects RX2 yX2_add yX2_add, .initialized RX2, .code yX2_add cX2_add 4 none, .methodLink RX2 34 yX2_get, .instanceMethod yX2_get, .selects RX2 yX2_get yX2_get, .code yX2_get cX2_get 4 (some .int), .fieldLink RX2 27 "Mutualledger$Table" "cells" "[I", .methodLink RX2 31 yX2_placeOf, .instanceMethod yX2_placeOf, .selects RX2 yX2_placeOf yX2_placeOf, .code yX2_placeOf cX2_placeOf 4 (some .int), .fieldLink RX2 20 "Mutualledger$Table" "rows" "I", .fieldLink RX2 24 "Mutualledger$Table" "columns" "I", .methodLink RX2 37 yX2_set, .instanceMethod yX2_set, .selects RX2 yX2_set yX2_set, .code yX2_set cX2_set 5 none] ++ wsX00 ++ wsX20)
def wsX0_freeze : List Cond := .code yX0_freeze cX0_freeze 4 none :: ([.fieldLink RX0 20 "Mutualledger$Debts" "frozenParts" "LMutualledger$Table;", .methodLink RX0 31 yX2_add, .instanceMethod yX2_add, .selects RX2 yX2_add yX2_add, .initialized RX2, .code yX2_add cX2_add 4 none, .methodLink RX2 34 yX2_get, .instanceMethod yX2_get, .selects RX2 yX2_get yX2_get, .code yX2_get cX2_get 4 (some .int), .fieldLink RX2 27 "Mutualledger$Table" "cells" "[I", .methodLink RX2 31 yX2_placeOf, .instanceMethod yX2_placeOf, .selects RX2 yX2_placeOf yX2_placeOf, .code yX2_placeOf cX2_placeOf 4 (some .int), .fieldLink RX2 20 "Mutualledger$Table" "rows" "I", .fieldLink RX2 24 "Mutualledger$Table" "columns" "I", .methodLink RX2 37 yX2_set, .instanceMethod yX2_set, .selects RX2 yX2_set yX2_set, .code yX2_set cX2_set 5 none] ++ wsX00 ++ wsX20)
def wsX2_rowSum : List Cond := .code yX2_rowSum cX2_rowSum 4 (some .int) :: ([.fieldLink RX2 24 "Mutualledger$Table" "columns" "I", .methodLink RX2 34 yX2_get, .instanceMethod yX2_get, .selects RX2 yX2_get yX2_get, .initialized RX2, .code yX2_get cX2_get 4 (some .int), .fieldLink RX2 27 "Mutualledger$Table" "cells" "[I", .methodLink RX2 31 yX2_placeOf, .instanceMethod yX2_placeOf, .selects RX2 yX2_placeOf yX2_placeOf, .code yX2_placeOf cX2_placeOf 4 (some .int), .fieldLink RX2 20 "Mutualledger$Table" "rows" "I"] ++ wsX20)
def wsX0_balanceOf : List Cond := .code yX0_balanceOf cX0_balanceOf 2 (some .int) :: ([.fieldLink RX0 14 "Mutualledger$Debts" "owed" "LMutualledger$Table;", .methodLink RX0 27 yX2_columnSum, .instanceMethod yX2_columnSum, .selects RX2 yX2_columnSum yX2_columnSum, .initialized RX2, .code yX2_columnSum cX2_columnSum 4 (some .int), .fieldLink RX2 20 "Mutualledger$Table" "rows" "I", .methodLink RX2 34 yX2_get, .instanceMethod yX2_get, .selects RX2 yX2_get yX2_get, .code yX2_get cX2_get 4 (some .int), .fieldLink RX2 27 "Mutualledger$Table" "cells" "[I", .methodLink RX2 31 yX2_placeOf, .instanceMethod yX2_placeOf, .selects RX2 yX2_placeOf yX2_placeOf, .code yX2_placeOf cX2_placeOf 4 (some .int), .fieldLink RX2 24 "Mutualledger$Table" "columns" "I", .methodLink RX0 35 yX2_rowSum, .instanceMethod yX2_rowSum, .selects RX2 yX2_rowSum yX2_rowSum, .code yX2_rowSum cX2_rowSum 4 (some .int)] ++ wsX00 ++ wsX20)
def wsX0_greatestOpenDebtorOf : List Cond := .code yX0_greatestOpenDebtorOf cX0_greatestOpenDebtorOf 4 (some .int) :: ([.methodLink RX0 38 yX0_open, .instanceMethod yX0_open, .selects RX0 yX0_open yX0_open, .initialized RX0, .code yX0_open cX0_open 3 (some .int), .fieldLink RX0 14 "Mutualledger$Debts" "owed" "LMutualledger$Table;", .fieldLink RX0 20 "Mutualledger$Debts" "frozenParts" "LMutualledger$Table;", .methodLink RX0 23 yX2_get, .instanceMethod yX2_get, .selects RX2 yX2_get yX2_get, .initialized RX2, .code yX2_get cX2_get 4 (some .int), .fieldLink RX2 27 "Mutualledger$Table" "cells" "[I", .methodLink RX2 31 yX2_placeOf, .instanceMethod yX2_placeOf, .selects RX2 yX2_placeOf yX2_placeOf, .code yX2_placeOf cX2_placeOf 4 (some .int), .fieldLink RX2 20 "Mutualledger$Table" "rows" "I", .fieldLink RX2 24 "Mutualledger$Table" "columns" "I"] ++ wsX00 ++ wsX20)
def wsX1_init : List Cond := .code yX1_init cX1_init 1 none :: ([.methodLink RX1 3 objectInit, .instanceMethod objectInit, .code objectInit ⟨#[0xb1]⟩ 1 none, .classLink RX1 9 RX2, .instantiable RX2 3, .initialized RX2, .fieldLink RX1 16 "Mutualledger$Rings" "rows" "LMutualledger$Table;", .fieldLink RX1 20 "Mutualledger$Rings" "count" "I", .methodLink RX1 13 yX2_init, .instanceMethod yX2_init, .code yX2_init cX2_init 3 none, .methodLink RX2 3 objectInit, .methodLink RX2 11 Lib.Math.min.name, .static Lib.Math.min.name, .initialized "java/lang/Math", .code Lib.Math.min.name Lib.Math.min.code 2 (some .int), .methodLink RX2 17 Lib.Math.max.name, .static Lib.Math.max.name, .code Lib.Math.max.name Lib.Math.max.code 2 (some .int), .fieldLink RX2 20 "Mutualledger$Table" "rows" "I", .fieldLink RX2 24 "Mutualledger$Table" "columns" "I", .arrayClass .int, .fieldLink RX2 27 "Mutualledger$Table" "cells" "[I"] ++ wsX20 ++ wsX10)
def wsX1_size : List Cond := .code yX1_size cX1_size 1 (some .int) :: ([.fieldLink RX1 20 "Mutualledger$Rings" "count" "I"] ++ wsX10)
def wsX1_of : List Cond := .code yX1_of cX1_of 3 (some .int) :: ([.fieldLink RX1 16 "Mutualledger$Rings" "rows" "LMutualledger$Table;", .methodLink RX1 24 yX2_get, .instanceMethod yX2_get, .selects RX2 yX2_get yX2_get, .initialized RX2, .code yX2_get cX2_get 4 (some .int), .fieldLink RX2 27 "Mutualledger$Table" "cells" "[I", .methodLink RX2 31 yX2_placeOf, .instanceMethod yX2_placeOf, .selects RX2 yX2_placeOf yX2_placeOf, .code yX2_placeOf cX2_placeOf 4 (some .int), .fieldLink RX2 20 "Mutualledger$Table" "rows" "I", .fieldLink RX2 24 "Mutualledger$Table" "columns" "I"] ++ wsX10 ++ wsX20)
def wsX1_setShopAt : List Cond := .code yX1_setShopAt cX1_setShopAt 3 none :: ([.fieldLink RX1 16 "Mutualledger$Rings" "rows" "LMutualledger$Table;", .fieldLink RX1 20 "Mutualledger$Rings" "count" "I", .methodLink RX1 36 yX2_set, .instanceMethod yX2_set, .selects RX2 yX2_set yX2_set, .initialized RX2, .code yX2_set cX2_set 5 none, .fieldLink RX2 27 "Mutualledger$Table" "cells" "[I", .methodLink RX2 31 yX2_placeOf, .instanceMethod yX2_placeOf, .selects RX2 yX2_placeOf yX2_placeOf, .code yX2_placeOf cX2_placeOf 4 (some .int), .fieldLink RX2 20 "Mutualledger$Table" "rows" "I", .fieldLink RX2 24 "Mutualledger$Table" "columns" "I"] ++ wsX10 ++ wsX20)
def wsX1_shopAt : List Cond := .code yX1_shopAt cX1_shopAt 2 (some .int) :: ([.fieldLink RX1 16 "Mutualledger$Rings" "rows" "LMutualledger$Table;", .fieldLink RX1 20 "Mutualledger$Rings" "count" "I", .methodLink RX1 24 yX2_get, .instanceMethod yX2_get, .selects RX2 yX2_get yX2_get, .initialized RX2, .code yX2_get cX2_get 4 (some .int), .fieldLink RX2 27 "Mutualledger$Table" "cells" "[I", .methodLink RX2 31 yX2_placeOf, .instanceMethod yX2_placeOf, .selects RX2 yX2_placeOf yX2_placeOf, .code yX2_placeOf cX2_placeOf 4 (some .int), .fieldLink RX2 20 "Mutualledger$Table" "rows" "I", .fieldLink RX2 24 "Mutualledger$Table" "columns" "I"] ++ wsX10 ++ wsX20)
def wsX1_isSet : List Cond := .code yX1_isSet cX1_isSet 4 (some .boolean) :: ([.fieldLink RX1 16 "Mutualledger$Rings" "rows" "LMutualledger$Table;", .fieldLink RX1 20 "Mutualledger$Rings" "count" "I", .methodLink RX1 24 yX2_get, .instanceMethod yX2_get, .selects RX2 yX2_get yX2_get, .initialized RX2, .code yX2_get cX2_get 4 (some .int), .fieldLink RX2 27 "Mutualledger$Table" "cells" "[I", .methodLink RX2 31 yX2_placeOf, .instanceMethod yX2_placeOf, .selects RX2 yX2_placeOf yX2_placeOf, .code yX2_placeOf cX2_placeOf 4 (some .int), .fieldLink RX2 20 "Mutualledger$Table" "rows" "I", .fieldLink RX2 24 "Mutualledger$Table" "columns" "I"] ++ wsX10 ++ wsX20)
def wsX1_closes_r1 : List Cond := [Cond.methodLink RX1 47 yX1_shopAt, Cond.instanceMethod yX1_shopAt, Cond.selects RX1 yX1_shopAt yX1_shopAt, Cond.initialized RX1, Cond.code yX1_shopAt cX1_shopAt 2 (some .int), Cond.fieldLink RX1 16 "Mutualledger$Rings" "rows" "LMutualledger$Table;", Cond.fieldLink RX1 20 "Mutualledger$Rings" "count" "I", Cond.methodLink RX1 24 yX2_get, Cond.instanceMethod yX2_get, Cond.selects RX2 yX2_get yX2_get, Cond.initialized RX2, Cond.code yX2_get cX2_get 4 (some .int), Cond.fieldLink RX2 27 "Mutualledger$Table" "cells" "[I", Cond.methodLink RX2 31 yX2_placeOf, Cond.instanceMethod yX2_placeOf, Cond.selects RX2 yX2_placeOf yX2_placeOf, Cond.code yX2_placeOf cX2_placeOf 4 (some .int), Cond.fieldLink RX2 20 "Mutualledger$Table" "rows" "I", Cond.fieldLink RX2 24 "Mutualledger$Table" "columns" "I", Cond.methodLink RX1 51 yX0_open, Cond.instanceMethod yX0_open, Cond.selects RX0 yX0_open yX0_open, Cond.initialized RX0, Cond.code yX0_open cX0_open 3 (some .int)]
def wsX1_closes_r2 : List Cond := [Cond.fieldLink RX0 14 "Mutualledger$Debts" "owed" "LMutualledger$Table;", Cond.fieldLink RX0 20 "Mutualledger$Debts" "frozenParts" "LMutualledger$Table;", Cond.methodLink RX0 23 yX2_get, Cond.methodLink RX1 56 yX1_isSet, Cond.instanceMethod yX1_isSet, Cond.selects RX1 yX1_isSet yX1_isSet, Cond.code yX1_isSet cX1_isSet 4 (some .boolean), Cond.methodLink RX1 40 yX1_setShopAt, Cond.instanceMethod yX1_setShopAt, Cond.selects RX1 yX1_setShopAt yX1_setShopAt, Cond.code yX1_setShopAt cX1_setShopAt 3 none, Cond.methodLink RX1 36 yX2_set, Cond.instanceMethod yX2_set, Cond.selects RX2 yX2_set yX2_set, Cond.code yX2_set cX2_set 5 none, Cond.methodLink RX1 43 yX1_closes, Cond.static yX1_closes]
def wsX1_closes : List Cond := .code yX1_closes cX1_closes 7 (some .boolean) :: ((wsX1_closes_r1 ++ wsX1_closes_r2) ++ wsX10 ++ wsX20 ++ wsX00)
def wsX1_find_r1 : List Cond := [Cond.fieldLink RX1 16 "Mutualledger$Rings" "rows" "LMutualledger$Table;", Cond.fieldLink RX1 20 "Mutualledger$Rings" "count" "I", Cond.methodLink RX1 36 yX2_set, Cond.instanceMethod yX2_set, Cond.selects RX2 yX2_set yX2_set, Cond.initialized RX2, Cond.code yX2_set cX2_set 5 none, Cond.fieldLink RX2 27 "Mutualledger$Table" "cells" "[I", Cond.methodLink RX2 31 yX2_placeOf, Cond.instanceMethod yX2_placeOf, Cond.selects RX2 yX2_placeOf yX2_placeOf, Cond.code yX2_placeOf cX2_placeOf 4 (some .int), Cond.fieldLink RX2 20 "Mutualledger$Table" "rows" "I", Cond.fieldLink RX2 24 "Mutualledger$Table" "columns" "I", Cond.methodLink RX1 40 yX1_setShopAt, Cond.instanceMethod yX1_setShopAt, Cond.selects RX1 yX1_setShopAt yX1_setShopAt, Cond.initialized RX1, Cond.code yX1_setShopAt cX1_setShopAt 3 none, Cond.methodLink RX1 43 yX1_closes, Cond.static yX1_closes, Cond.code yX1_closes cX1_closes 7 (some .boolean), Cond.methodLink RX1 47 yX1_shopAt, Cond.instanceMethod yX1_shopAt]
def wsX1_find_r2 : List Cond := [Cond.selects RX1 yX1_shopAt yX1_shopAt, Cond.code yX1_shopAt cX1_shopAt 2 (some .int), Cond.methodLink RX1 24 yX2_get, Cond.instanceMethod yX2_get, Cond.selects RX2 yX2_get yX2_get, Cond.code yX2_get cX2_get 4 (some .int), Cond.methodLink RX1 51 yX0_open, Cond.instanceMethod yX0_open, Cond.selects RX0 yX0_open yX0_open, Cond.initialized RX0, Cond.code yX0_open cX0_open 3 (some .int), Cond.fieldLink RX0 14 "Mutualledger$Debts" "owed" "LMutualledger$Table;", Cond.fieldLink RX0 20 "Mutualledger$Debts" "frozenParts" "LMutualledger$Table;", Cond.methodLink RX0 23 yX2_get, Cond.methodLink RX1 56 yX1_isSet, Cond.instanceMethod yX1_isSet, Cond.selects RX1 yX1_isSet yX1_isSet, Cond.code yX1_isSet cX1_isSet 4 (some .boolean)]
def wsX1_find : List Cond := .code yX1_find cX1_find 4 (some .boolean) :: ((wsX1_find_r1 ++ wsX1_find_r2) ++ wsX10 ++ wsX20 ++ wsX00)
def wsX1_net_r1 : List Cond := [Cond.fieldLink RX1 16 "Mutualledger$Rings" "rows" "LMutualledger$Table;", Cond.fieldLink RX1 20 "Mutualledger$Rings" "count" "I", Cond.methodLink RX1 60 Lib.Math.min.name, Cond.static Lib.Math.min.name, Cond.initialized "java/lang/Math", Cond.code Lib.Math.min.name Lib.Math.min.code 2 (some .int), Cond.methodLink RX1 24 yX2_get, Cond.instanceMethod yX2_get, Cond.selects RX2 yX2_get yX2_get, Cond.initialized RX2, Cond.code yX2_get cX2_get 4 (some .int), Cond.fieldLink RX2 27 "Mutualledger$Table" "cells" "[I", Cond.methodLink RX2 31 yX2_placeOf, Cond.instanceMethod yX2_placeOf, Cond.selects RX2 yX2_placeOf yX2_placeOf, Cond.code yX2_placeOf cX2_placeOf 4 (some .int), Cond.fieldLink RX2 20 "Mutualledger$Table" "rows" "I", Cond.fieldLink RX2 24 "Mutualledger$Table" "columns" "I", Cond.methodLink RX1 47 yX1_shopAt, Cond.instanceMethod yX1_shopAt, Cond.selects RX1 yX1_shopAt yX1_shopAt, Cond.initialized RX1, Cond.code yX1_shopAt cX1_shopAt 2 (some .int), Cond.methodLink RX1 51 yX0_open]
def wsX1_net_r2 : List Cond := [Cond.instanceMethod yX0_open, Cond.selects RX0 yX0_open yX0_open, Cond.initialized RX0, Cond.code yX0_open cX0_open 3 (some .int), Cond.fieldLink RX0 14 "Mutualledger$Debts" "owed" "LMutualledger$Table;", Cond.fieldLink RX0 20 "Mutualledger$Debts" "frozenParts" "LMutualledger$Table;", Cond.methodLink RX0 23 yX2_get, Cond.methodLink RX1 65 yX0_more, Cond.instanceMethod yX0_more, Cond.selects RX0 yX0_more yX0_more, Cond.code yX0_more cX0_more 4 none, Cond.methodLink RX0 31 yX2_add, Cond.instanceMethod yX2_add, Cond.selects RX2 yX2_add yX2_add, Cond.code yX2_add cX2_add 4 none, Cond.methodLink RX2 34 yX2_get, Cond.methodLink RX2 37 yX2_set, Cond.instanceMethod yX2_set, Cond.selects RX2 yX2_set yX2_set, Cond.code yX2_set cX2_set 5 none, Cond.methodLink RX1 36 yX2_set, Cond.methodLink RX1 40 yX1_setShopAt, Cond.instanceMethod yX1_setShopAt, Cond.selects RX1 yX1_setShopAt yX1_setShopAt]
def wsX1_net_r3 : List Cond := [Cond.code yX1_setShopAt cX1_setShopAt 3 none]
def wsX1_net : List Cond := .code yX1_net cX1_net 5 none :: ((wsX1_net_r1 ++ (wsX1_net_r2 ++ wsX1_net_r3)) ++ wsX10 ++ wsX20 ++ wsX00)
def wsX1_netAll_r1 : List Cond := [Cond.fieldLink RX1 20 "Mutualledger$Rings" "count" "I", Cond.methodLink RX1 28 yX1_find, Cond.instanceMethod yX1_find, Cond.selects RX1 yX1_find yX1_find, Cond.initialized RX1, Cond.code yX1_find cX1_find 4 (some .boolean), Cond.fieldLink RX1 16 "Mutualledger$Rings" "rows" "LMutualledger$Table;", Cond.methodLink RX1 36 yX2_set, Cond.instanceMethod yX2_set, Cond.selects RX2 yX2_set yX2_set, Cond.initialized RX2, Cond.code yX2_set cX2_set 5 none, Cond.fieldLink RX2 27 "Mutualledger$Table" "cells" "[I", Cond.methodLink RX2 31 yX2_placeOf, Cond.instanceMethod yX2_placeOf, Cond.selects RX2 yX2_placeOf yX2_placeOf, Cond.code yX2_placeOf cX2_placeOf 4 (some .int), Cond.fieldLink RX2 20 "Mutualledger$Table" "rows" "I", Cond.fieldLink RX2 24 "Mutualledger$Table" "columns" "I", Cond.methodLink RX1 40 yX1_setShopAt, Cond.instanceMethod yX1_setShopAt, Cond.selects RX1 yX1_setShopAt yX1_setShopAt, Cond.code yX1_setShopAt cX1_setShopAt 3 none, Cond.methodLink RX1 43 yX1_closes]
def wsX1_netAll_r2 : List Cond := [Cond.static yX1_closes, Cond.code yX1_closes cX1_closes 7 (some .boolean), Cond.methodLink RX1 47 yX1_shopAt, Cond.instanceMethod yX1_shopAt, Cond.selects RX1 yX1_shopAt yX1_shopAt, Cond.code yX1_shopAt cX1_shopAt 2 (some .int), Cond.methodLink RX1 24 yX2_get, Cond.instanceMethod yX2_get, Cond.selects RX2 yX2_get yX2_get, Cond.code yX2_get cX2_get 4 (some .int), Cond.methodLink RX1 51 yX0_open, Cond.instanceMethod yX0_open, Cond.selects RX0 yX0_open yX0_open, Cond.initialized RX0, Cond.code yX0_open cX0_open 3 (some .int), Cond.fieldLink RX0 14 "Mutualledger$Debts" "owed" "LMutualledger$Table;", Cond.fieldLink RX0 20 "Mutualledger$Debts" "frozenParts" "LMutualledger$Table;", Cond.methodLink RX0 23 yX2_get, Cond.methodLink RX1 56 yX1_isSet, Cond.instanceMethod yX1_isSet, Cond.selects RX1 yX1_isSet yX1_isSet, Cond.code yX1_isSet cX1_isSet 4 (some .boolean), Cond.methodLink RX1 32 yX1_net, Cond.instanceMethod yX1_net]
def wsX1_netAll_r3 : List Cond := [Cond.selects RX1 yX1_net yX1_net, Cond.code yX1_net cX1_net 5 none, Cond.methodLink RX1 60 Lib.Math.min.name, Cond.static Lib.Math.min.name, Cond.initialized "java/lang/Math", Cond.code Lib.Math.min.name Lib.Math.min.code 2 (some .int), Cond.methodLink RX1 65 yX0_more, Cond.instanceMethod yX0_more, Cond.selects RX0 yX0_more yX0_more, Cond.code yX0_more cX0_more 4 none, Cond.methodLink RX0 31 yX2_add, Cond.instanceMethod yX2_add, Cond.selects RX2 yX2_add yX2_add, Cond.code yX2_add cX2_add 4 none, Cond.methodLink RX2 34 yX2_get, Cond.methodLink RX2 37 yX2_set]
def wsX1_netAll : List Cond := .code yX1_netAll cX1_netAll 3 none :: ((wsX1_netAll_r1 ++ (wsX1_netAll_r2 ++ wsX1_netAll_r3)) ++ wsX10 ++ wsX20 ++ wsX00)
def wsX2_clearAllOf : List Cond := .code yX2_clearAllOf cX2_clearAllOf 3 none :: ([.methodLink RX2 37 yX2_set, .instanceMethod yX2_set, .selects RX2 yX2_set yX2_set, .initialized RX2, .code yX2_set cX2_set 5 none, .fieldLink RX2 27 "Mutualledger$Table" "cells" "[I", .methodLink RX2 31 yX2_placeOf, .instanceMethod yX2_placeOf, .selects RX2 yX2_placeOf yX2_placeOf, .code yX2_placeOf cX2_placeOf 4 (some .int), .fieldLink RX2 20 "Mutualledger$Table" "rows" "I", .fieldLink RX2 24 "Mutualledger$Table" "columns" "I"] ++ wsX20)
def wsX3_init : List Cond := .code yX3_init cX3_init 1 none :: ([.methodLink RX3 3 objectInit, .instanceMethod objectInit, .code objectInit ⟨#[0xb1]⟩ 1 none, .classLink RX3 9 RX2, .instantiable RX2 3, .initialized RX2, .fieldLink RX3 16 "Mutualledger$Trades" "rows" "LMutualledger$Table;", .fieldLink RX3 20 "Mutualledger$Trades" "count" "I", .methodLink RX3 13 yX2_init, .instanceMethod yX2_init, .code yX2_init cX2_init 3 none, .methodLink RX2 3 objectInit, .methodLink RX2 11 Lib.Math.min.name, .static Lib.Math.min.name, .initialized "java/lang/Math", .code Lib.Math.min.name Lib.Math.min.code 2 (some .int), .methodLink RX2 17 Lib.Math.max.name, .static Lib.Math.max.name, .code Lib.Math.max.name Lib.Math.max.code 2 (some .int), .fieldLink RX2 20 "Mutualledger$Table" "rows" "I", .fieldLink RX2 24 "Mutualledger$Table" "columns" "I", .arrayClass .int, .fieldLink RX2 27 "Mutualledger$Table" "cells" "[I"] ++ wsX20 ++ wsX30)
def wsX3_isFull : List Cond := .code yX3_isFull cX3_isFull 1 (some .boolean) :: ([.fieldLink RX3 20 "Mutualledger$Trades" "count" "I"] ++ wsX30)
def wsX3_has : List Cond := .code yX3_has cX3_has 2 (some .boolean) :: ([.fieldLink RX3 20 "Mutualledger$Trades" "count" "I"] ++ wsX30)
def wsX3_of : List Cond := .code yX3_of cX3_of 3 (some .int) :: ([.fieldLink RX3 16 "Mutualledger$Trades" "rows" "LMutualledger$Table;", .methodLink RX3 24 yX2_get, .instanceMethod yX2_get, .selects RX2 yX2_get yX2_get, .initialized RX2, .code yX2_get cX2_get 4 (some .int), .fieldLink RX2 27 "Mutualledger$Table" "cells" "[I", .methodLink RX2 31 yX2_placeOf, .instanceMethod yX2_placeOf, .selects RX2 yX2_placeOf yX2_placeOf, .code yX2_placeOf cX2_placeOf 4 (some .int), .fieldLink RX2 20 "Mutualledger$Table" "rows" "I", .fieldLink RX2 24 "Mutualledger$Table" "columns" "I"] ++ wsX30 ++ wsX20)
def wsX3_put : List Cond := .code yX3_put cX3_put 6 (some .int) :: ([.fieldLink RX3 20 "Mutualledger$Trades" "count" "I", .fieldLink RX3 16 "Mutualledger$Trades" "rows" "LMutualledger$Table;", .methodLink RX3 28 yX2_set, .instanceMethod yX2_set, .selects RX2 yX2_set yX2_set, .initialized RX2, .code yX2_set cX2_set 5 none, .fieldLink RX2 27 "Mutualledger$Table" "cells" "[I", .methodLink RX2 31 yX2_placeOf, .instanceMethod yX2_placeOf, .selects RX2 yX2_placeOf yX2_placeOf, .code yX2_placeOf cX2_placeOf 4 (some .int), .fieldLink RX2 20 "Mutualledger$Table" "rows" "I", .fieldLink RX2 24 "Mutualledger$Table" "columns" "I"] ++ wsX30 ++ wsX20)
def wsX3_turn : List Cond := .code yX3_turn cX3_turn 4 none :: ([.fieldLink RX3 16 "Mutualledger$Trades" "rows" "LMutualledger$Table;", .methodLink RX3 28 yX2_set, .instanceMethod yX2_set, .selects RX2 yX2_set yX2_set, .initialized RX2, .code yX2_set cX2_set 5 none, .fieldLink RX2 27 "Mutualledger$Table" "cells" "[I", .methodLink RX2 31 yX2_placeOf, .instanceMethod yX2_placeOf, .selects RX2 yX2_placeOf yX2_placeOf, .code yX2_placeOf cX2_placeOf 4 (some .int), .fieldLink RX2 20 "Mutualledger$Table" "rows" "I", .fieldLink RX2 24 "Mutualledger$Table" "columns" "I"] ++ wsX30 ++ wsX20)
def wsX3_isOf : List Cond := .code yX3_isOf cX3_isOf 3 (some .boolean) :: ([.methodLink RX3 32 yX3_of, .instanceMethod yX3_of, .selects RX3 yX3_of yX3_of, .initialized RX3, .code yX3_of cX3_of 3 (some .int), .fieldLink RX3 16 "Mutualledger$Trades" "rows" "LMutualledger$Table;", .methodLink RX3 24 yX2_get, .instanceMethod yX2_get, .selects RX2 yX2_get yX2_get, .initialized RX2, .code yX2_get cX2_get 4 (some .int), .fieldLink RX2 27 "Mutualledger$Table" "cells" "[I", .methodLink RX2 31 yX2_placeOf, .instanceMethod yX2_placeOf, .selects RX2 yX2_placeOf yX2_placeOf, .code yX2_placeOf cX2_placeOf 4 (some .int), .fieldLink RX2 20 "Mutualledger$Table" "rows" "I", .fieldLink RX2 24 "Mutualledger$Table" "columns" "I"] ++ wsX30 ++ wsX20)
def wsX3_hasDisputedOf : List Cond := .code yX3_hasDisputedOf cX3_hasDisputedOf 3 (some .boolean) :: ([.fieldLink RX3 20 "Mutualledger$Trades" "count" "I", .methodLink RX3 35 yX3_isOf, .instanceMethod yX3_isOf, .selects RX3 yX3_isOf yX3_isOf, .initialized RX3, .code yX3_isOf cX3_isOf 3 (some .boolean), .methodLink RX3 32 yX3_of, .instanceMethod yX3_of, .selects RX3 yX3_of yX3_of, .code yX3_of cX3_of 3 (some .int), .fieldLink RX3 16 "Mutualledger$Trades" "rows" "LMutualledger$Table;", .methodLink RX3 24 yX2_get, .instanceMethod yX2_get, .selects RX2 yX2_get yX2_get, .initialized RX2, .code yX2_get cX2_get 4 (some .int), .fieldLink RX2 27 "Mutualledger$Table" "cells" "[I", .methodLink RX2 31 yX2_placeOf, .instanceMethod yX2_placeOf, .selects RX2 yX2_placeOf yX2_placeOf, .code yX2_placeOf cX2_placeOf 4 (some .int), .fieldLink RX2 20 "Mutualledger$Table" "rows" "I", .fieldLink RX2 24 "Mutualledger$Table" "columns" "I"] ++ wsX30 ++ wsX20)
def wsX3_hasSince : List Cond := .code yX3_hasSince cX3_hasSince 4 (some .boolean) :: ([.fieldLink RX3 20 "Mutualledger$Trades" "count" "I", .methodLink RX3 35 yX3_isOf, .instanceMethod yX3_isOf, .selects RX3 yX3_isOf yX3_isOf, .initialized RX3, .code yX3_isOf cX3_isOf 3 (some .boolean), .methodLink RX3 32 yX3_of, .instanceMethod yX3_of, .selects RX3 yX3_of yX3_of, .code yX3_of cX3_of 3 (some .int), .fieldLink RX3 16 "Mutualledger$Trades" "rows" "LMutualledger$Table;", .methodLink RX3 24 yX2_get, .instanceMethod yX2_get, .selects RX2 yX2_get yX2_get, .initialized RX2, .code yX2_get cX2_get 4 (some .int), .fieldLink RX2 27 "Mutualledger$Table" "cells" "[I", .methodLink RX2 31 yX2_placeOf, .instanceMethod yX2_placeOf, .selects RX2 yX2_placeOf yX2_placeOf, .code yX2_placeOf cX2_placeOf 4 (some .int), .fieldLink RX2 20 "Mutualledger$Table" "rows" "I", .fieldLink RX2 24 "Mutualledger$Table" "columns" "I"] ++ wsX30 ++ wsX20)
def wsX3_amountsSince : List Cond := .code yX3_amountsSince cX3_amountsSince 6 (some .int) :: ([.fieldLink RX3 20 "Mutualledger$Trades" "count" "I", .methodLink RX3 35 yX3_isOf, .instanceMethod yX3_isOf, .selects RX3 yX3_isOf yX3_isOf, .initialized RX3, .code yX3_isOf cX3_isOf 3 (some .boolean), .methodLink RX3 32 yX3_of, .instanceMethod yX3_of, .selects RX3 yX3_of yX3_of, .code yX3_of cX3_of 3 (some .int), .fieldLink RX3 16 "Mutualledger$Trades" "rows" "LMutualledger$Table;", .methodLink RX3 24 yX2_get, .instanceMethod yX2_get, .selects RX2 yX2_get yX2_get, .initialized RX2, .code yX2_get cX2_get 4 (some .int), .fieldLink RX2 27 "Mutualledger$Table" "cells" "[I", .methodLink RX2 31 yX2_placeOf, .instanceMethod yX2_placeOf, .selects RX2 yX2_placeOf yX2_placeOf, .code yX2_placeOf cX2_placeOf 4 (some .int), .fieldLink RX2 20 "Mutualledger$Table" "rows" "I", .fieldLink RX2 24 "Mutualledger$Table" "columns" "I"] ++ wsX30 ++ wsX20)
def wsX3_balanceOf : List Cond := .code yX3_balanceOf cX3_balanceOf 4 (some .int) :: ([.fieldLink RX3 20 "Mutualledger$Trades" "count" "I", .methodLink RX3 32 yX3_of, .instanceMethod yX3_of, .selects RX3 yX3_of yX3_of, .initialized RX3, .code yX3_of cX3_of 3 (some .int), .fieldLink RX3 16 "Mutualledger$Trades" "rows" "LMutualledger$Table;", .methodLink RX3 24 yX2_get, .instanceMethod yX2_get, .selects RX2 yX2_get yX2_get, .initialized RX2, .code yX2_get cX2_get 4 (some .int), .fieldLink RX2 27 "Mutualledger$Table" "cells" "[I", .methodLink RX2 31 yX2_placeOf, .instanceMethod yX2_placeOf, .selects RX2 yX2_placeOf yX2_placeOf, .code yX2_placeOf cX2_placeOf 4 (some .int), .fieldLink RX2 20 "Mutualledger$Table" "rows" "I", .fieldLink RX2 24 "Mutualledger$Table" "columns" "I"] ++ wsX30 ++ wsX20)
def wsX4_init_r1 : List Cond := [Cond.methodLink RX4 1 objectInit, Cond.instanceMethod objectInit, Cond.code objectInit ⟨#[0xb1]⟩ 1 none, Cond.classLink RX4 7 RX2, Cond.instantiable RX2 3, Cond.initialized RX2, Cond.fieldLink RX4 14 "Mutualledger" "shops" "LMutualledger$Table;", Cond.classLink RX4 18 RX3, Cond.instantiable RX3 2, Cond.initialized RX3, Cond.fieldLink RX4 21 "Mutualledger" "trades" "LMutualledger$Trades;", Cond.classLink RX4 25 RX0, Cond.instantiable RX0 2, Cond.initialized RX0, Cond.fieldLink RX4 28 "Mutualledger" "debts" "LMutualledger$Debts;", Cond.fieldLink RX4 32 "Mutualledger" "guarantees" "LMutualledger$Table;", Cond.fieldLink RX4 35 "Mutualledger" "givenUp" "LMutualledger$Table;", Cond.classLink RX4 38 RX1, Cond.instantiable RX1 2, Cond.initialized RX1, Cond.fieldLink RX4 41 "Mutualledger" "rings" "LMutualledger$Rings;", Cond.fieldLink RX4 45 "Mutualledger" "joined" "I", Cond.fieldLink RX4 49 "Mutualledger" "today" "I", Cond.fieldLink RX4 52 "Mutualledger" "thousandths" "I"]
def wsX4_init_r2 : List Cond := [Cond.methodLink RX4 11 yX2_init, Cond.instanceMethod yX2_init, Cond.code yX2_init cX2_init 3 none, Cond.methodLink RX2 3 objectInit, Cond.methodLink RX2 11 Lib.Math.min.name, Cond.static Lib.Math.min.name, Cond.initialized "java/lang/Math", Cond.code Lib.Math.min.name Lib.Math.min.code 2 (some .int), Cond.methodLink RX2 17 Lib.Math.max.name, Cond.static Lib.Math.max.name, Cond.code Lib.Math.max.name Lib.Math.max.code 2 (some .int), Cond.fieldLink RX2 20 "Mutualledger$Table" "rows" "I", Cond.fieldLink RX2 24 "Mutualledger$Table" "columns" "I", Cond.arrayClass .int, Cond.fieldLink RX2 27 "Mutualledger$Table" "cells" "[I", Cond.instanceMethod yX3_init, Cond.code yX3_init cX3_init 1 none, Cond.methodLink RX3 3 objectInit, Cond.classLink RX3 9 RX2, Cond.fieldLink RX3 16 "Mutualledger$Trades" "rows" "LMutualledger$Table;", Cond.fieldLink RX3 20 "Mutualledger$Trades" "count" "I", Cond.methodLink RX3 13 yX2_init, Cond.instanceMethod yX0_init, Cond.code yX0_init cX0_init 1 none]
def wsX4_init_r3 : List Cond := [Cond.methodLink RX0 3 objectInit, Cond.classLink RX0 9 RX2, Cond.fieldLink RX0 14 "Mutualledger$Debts" "owed" "LMutualledger$Table;", Cond.fieldLink RX0 20 "Mutualledger$Debts" "frozenParts" "LMutualledger$Table;", Cond.methodLink RX0 11 yX2_init, Cond.instanceMethod yX1_init, Cond.code yX1_init cX1_init 1 none, Cond.methodLink RX1 3 objectInit, Cond.classLink RX1 9 RX2, Cond.fieldLink RX1 16 "Mutualledger$Rings" "rows" "LMutualledger$Table;", Cond.fieldLink RX1 20 "Mutualledger$Rings" "count" "I", Cond.methodLink RX1 13 yX2_init]
def wsX4_init : List Cond := .code yX4_init cX4_init 1 none :: ((wsX4_init_r1 ++ (wsX4_init_r2 ++ wsX4_init_r3)) ++ wsX20 ++ wsX40 ++ wsX30 ++ wsX00 ++ wsX10)
def wsX4_join : List Cond := .code yX4_join cX4_join 1 (some .int) :: ([.classLink RX4 55 "java/lang/IllegalStateException", .initialized "java/lang/IllegalStateException", .fieldLink RX4 45 "Mutualledger" "joined" "I"] ++ wsX40 ++ (vx_atS RX4 59 "java/lang/IllegalStateException" ["java/lang/RuntimeException", "java/lang/Exception"]).filter goodWord)
def wsX4_wasShop : List Cond := .code yX4_wasShop cX4_wasShop 2 (some .boolean) :: ([.fieldLink RX4 45 "Mutualledger" "joined" "I"] ++ wsX40)
def wsX4_isShop : List Cond := .code yX4_isShop cX4_isShop 2 (some .boolean) :: ([.fieldLink RX4 14 "Mutualledger" "shops" "LMutualledger$Table;", .methodLink RX4 200 yX4_wasShop, .instanceMethod yX4_wasShop, .selects RX4 yX4_wasShop yX4_wasShop, .initialized RX4, .code yX4_wasShop cX4_wasShop 2 (some .boolean), .fieldLink RX4 45 "Mutualledger" "joined" "I", .methodLink RX4 145 yX2_get, .instanceMethod yX2_get, .selects RX2 yX2_get yX2_get, .initialized RX2, .code yX2_get cX2_get 4 (some .int), .fieldLink RX2 27 "Mutualledger$Table" "cells" "[I", .methodLink RX2 31 yX2_placeOf, .instanceMethod yX2_placeOf, .selects RX2 yX2_placeOf yX2_placeOf, .code yX2_placeOf cX2_placeOf 4 (some .int), .fieldLink RX2 20 "Mutualledger$Table" "rows" "I", .fieldLink RX2 24 "Mutualledger$Table" "columns" "I"] ++ wsX40 ++ wsX20)
def wsX4_needShop_r1 : List Cond := [Cond.classLink RX4 194 "java/lang/IndexOutOfBoundsException", Cond.initialized "java/lang/IndexOutOfBoundsException", Cond.methodLink RX4 121 yX4_isShop, Cond.instanceMethod yX4_isShop, Cond.selects RX4 yX4_isShop yX4_isShop, Cond.initialized RX4, Cond.code yX4_isShop cX4_isShop 2 (some .boolean), Cond.fieldLink RX4 14 "Mutualledger" "shops" "LMutualledger$Table;", Cond.methodLink RX4 200 yX4_wasShop, Cond.instanceMethod yX4_wasShop, Cond.selects RX4 yX4_wasShop yX4_wasShop, Cond.code yX4_wasShop cX4_wasShop 2 (some .boolean), Cond.fieldLink RX4 45 "Mutualledger" "joined" "I", Cond.methodLink RX4 145 yX2_get, Cond.instanceMethod yX2_get, Cond.selects RX2 yX2_get yX2_get, Cond.initialized RX2, Cond.code yX2_get cX2_get 4 (some .int), Cond.fieldLink RX2 27 "Mutualledger$Table" "cells" "[I", Cond.methodLink RX2 31 yX2_placeOf, Cond.instanceMethod yX2_placeOf, Cond.selects RX2 yX2_placeOf yX2_placeOf, Cond.code yX2_placeOf cX2_placeOf 4 (some .int), Cond.fieldLink RX2 20 "Mutualledger$Table" "rows" "I"]
def wsX4_needShop_r2 : List Cond := [Cond.fieldLink RX2 24 "Mutualledger$Table" "columns" "I"]
def wsX4_needShop : List Cond := .code yX4_needShop cX4_needShop 2 none :: ((wsX4_needShop_r1 ++ wsX4_needShop_r2) ++ wsX40 ++ wsX20 ++ (vx_atS RX4 198 "java/lang/IndexOutOfBoundsException" ["java/lang/RuntimeException", "java/lang/Exception"]).filter goodWord)
def wsX4_takeOver_r1 : List Cond := [Cond.fieldLink RX4 28 "Mutualledger" "debts" "LMutualledger$Debts;", Cond.methodLink RX4 107 yX0_more, Cond.instanceMethod yX0_more, Cond.selects RX0 yX0_more yX0_more, Cond.initialized RX0, Cond.code yX0_more cX0_more 4 none, Cond.fieldLink RX0 14 "Mutualledger$Debts" "owed" "LMutualledger$Table;", Cond.methodLink RX0 31 yX2_add, Cond.instanceMethod yX2_add, Cond.selects RX2 yX2_add yX2_add, Cond.initialized RX2, Cond.code yX2_add cX2_add 4 none, Cond.methodLink RX2 34 yX2_get, Cond.instanceMethod yX2_get, Cond.selects RX2 yX2_get yX2_get, Cond.code yX2_get cX2_get 4 (some .int), Cond.fieldLink RX2 27 "Mutualledger$Table" "cells" "[I", Cond.methodLink RX2 31 yX2_placeOf, Cond.instanceMethod yX2_placeOf, Cond.selects RX2 yX2_placeOf yX2_placeOf, Cond.code yX2_placeOf cX2_placeOf 4 (some .int), Cond.fieldLink RX2 20 "Mutualledger$Table" "rows" "I", Cond.fieldLink RX2 24 "Mutualledger$Table" "columns" "I", Cond.methodLink RX2 37 yX2_set]
def wsX4_takeOver_r2 : List Cond := [Cond.instanceMethod yX2_set, Cond.selects RX2 yX2_set yX2_set, Cond.code yX2_set cX2_set 5 none]
def wsX4_takeOver : List Cond := .code yX4_takeOver cX4_takeOver 5 none :: ((wsX4_takeOver_r1 ++ wsX4_takeOver_r2) ++ wsX40 ++ wsX00 ++ wsX20)
def wsX4_passDebtsThrough_r1 : List Cond := [Cond.fieldLink RX4 28 "Mutualledger" "debts" "LMutualledger$Debts;", Cond.methodLink RX4 129 Lib.Math.min.name, Cond.static Lib.Math.min.name, Cond.initialized "java/lang/Math", Cond.code Lib.Math.min.name Lib.Math.min.code 2 (some .int), Cond.methodLink RX4 181 yX0_owed, Cond.instanceMethod yX0_owed, Cond.selects RX0 yX0_owed yX0_owed, Cond.initialized RX0, Cond.code yX0_owed cX0_owed 3 (some .int), Cond.fieldLink RX0 14 "Mutualledger$Debts" "owed" "LMutualledger$Table;", Cond.methodLink RX0 23 yX2_get, Cond.instanceMethod yX2_get, Cond.selects RX2 yX2_get yX2_get, Cond.initialized RX2, Cond.code yX2_get cX2_get 4 (some .int), Cond.fieldLink RX2 27 "Mutualledger$Table" "cells" "[I", Cond.methodLink RX2 31 yX2_placeOf, Cond.instanceMethod yX2_placeOf, Cond.selects RX2 yX2_placeOf yX2_placeOf, Cond.code yX2_placeOf cX2_placeOf 4 (some .int), Cond.fieldLink RX2 20 "Mutualledger$Table" "rows" "I", Cond.fieldLink RX2 24 "Mutualledger$Table" "columns" "I", Cond.methodLink RX4 107 yX0_more]
def wsX4_passDebtsThrough_r2 : List Cond := [Cond.instanceMethod yX0_more, Cond.selects RX0 yX0_more yX0_more, Cond.code yX0_more cX0_more 4 none, Cond.methodLink RX0 31 yX2_add, Cond.instanceMethod yX2_add, Cond.selects RX2 yX2_add yX2_add, Cond.code yX2_add cX2_add 4 none, Cond.methodLink RX2 34 yX2_get, Cond.methodLink RX2 37 yX2_set, Cond.instanceMethod yX2_set, Cond.selects RX2 yX2_set yX2_set, Cond.code yX2_set cX2_set 5 none, Cond.methodLink RX4 237 yX4_takeOver, Cond.instanceMethod yX4_takeOver, Cond.selects RX4 yX4_takeOver yX4_takeOver, Cond.initialized RX4, Cond.code yX4_takeOver cX4_takeOver 5 none]
def wsX4_passDebtsThrough : List Cond := .code yX4_passDebtsThrough cX4_passDebtsThrough 5 none :: ((wsX4_passDebtsThrough_r1 ++ wsX4_passDebtsThrough_r2) ++ wsX40 ++ wsX00 ++ wsX20)
def wsX4_letGuarantorsPay_r1 : List Cond := [Cond.fieldLink RX4 28 "Mutualledger" "debts" "LMutualledger$Debts;", Cond.fieldLink RX4 32 "Mutualledger" "guarantees" "LMutualledger$Table;", Cond.methodLink RX4 129 Lib.Math.min.name, Cond.static Lib.Math.min.name, Cond.initialized "java/lang/Math", Cond.code Lib.Math.min.name Lib.Math.min.code 2 (some .int), Cond.fieldLink RX4 35 "Mutualledger" "givenUp" "LMutualledger$Table;", Cond.methodLink RX4 181 yX0_owed, Cond.instanceMethod yX0_owed, Cond.selects RX0 yX0_owed yX0_owed, Cond.initialized RX0, Cond.code yX0_owed cX0_owed 3 (some .int), Cond.fieldLink RX0 14 "Mutualledger$Debts" "owed" "LMutualledger$Table;", Cond.methodLink RX0 23 yX2_get, Cond.instanceMethod yX2_get, Cond.selects RX2 yX2_get yX2_get, Cond.initialized RX2, Cond.code yX2_get cX2_get 4 (some .int), Cond.fieldLink RX2 27 "Mutualledger$Table" "cells" "[I", Cond.methodLink RX2 31 yX2_placeOf, Cond.instanceMethod yX2_placeOf, Cond.selects RX2 yX2_placeOf yX2_placeOf, Cond.code yX2_placeOf cX2_placeOf 4 (some .int), Cond.fieldLink RX2 20 "Mutualledger$Table" "rows" "I"]
def wsX4_letGuarantorsPay_r2 : List Cond := [Cond.fieldLink RX2 24 "Mutualledger$Table" "columns" "I", Cond.methodLink RX4 145 yX2_get, Cond.methodLink RX4 150 yX2_add, Cond.instanceMethod yX2_add, Cond.selects RX2 yX2_add yX2_add, Cond.code yX2_add cX2_add 4 none, Cond.methodLink RX2 34 yX2_get, Cond.methodLink RX2 37 yX2_set, Cond.instanceMethod yX2_set, Cond.selects RX2 yX2_set yX2_set, Cond.code yX2_set cX2_set 5 none, Cond.methodLink RX4 237 yX4_takeOver, Cond.instanceMethod yX4_takeOver, Cond.selects RX4 yX4_takeOver yX4_takeOver, Cond.initialized RX4, Cond.code yX4_takeOver cX4_takeOver 5 none, Cond.methodLink RX4 107 yX0_more, Cond.instanceMethod yX0_more, Cond.selects RX0 yX0_more yX0_more, Cond.code yX0_more cX0_more 4 none, Cond.methodLink RX0 31 yX2_add]
def wsX4_letGuarantorsPay : List Cond := .code yX4_letGuarantorsPay cX4_letGuarantorsPay 5 none :: ((wsX4_letGuarantorsPay_r1 ++ wsX4_letGuarantorsPay_r2) ++ wsX40 ++ wsX00 ++ wsX20)
def wsX4_oweInGoodsBy_r1 : List Cond := [Cond.fieldLink RX4 28 "Mutualledger" "debts" "LMutualledger$Debts;", Cond.fieldLink RX4 35 "Mutualledger" "givenUp" "LMutualledger$Table;", Cond.methodLink RX4 181 yX0_owed, Cond.instanceMethod yX0_owed, Cond.selects RX0 yX0_owed yX0_owed, Cond.initialized RX0, Cond.code yX0_owed cX0_owed 3 (some .int), Cond.fieldLink RX0 14 "Mutualledger$Debts" "owed" "LMutualledger$Table;", Cond.methodLink RX0 23 yX2_get, Cond.instanceMethod yX2_get, Cond.selects RX2 yX2_get yX2_get, Cond.initialized RX2, Cond.code yX2_get cX2_get 4 (some .int), Cond.fieldLink RX2 27 "Mutualledger$Table" "cells" "[I", Cond.methodLink RX2 31 yX2_placeOf, Cond.instanceMethod yX2_placeOf, Cond.selects RX2 yX2_placeOf yX2_placeOf, Cond.code yX2_placeOf cX2_placeOf 4 (some .int), Cond.fieldLink RX2 20 "Mutualledger$Table" "rows" "I", Cond.fieldLink RX2 24 "Mutualledger$Table" "columns" "I", Cond.methodLink RX4 107 yX0_more, Cond.instanceMethod yX0_more, Cond.selects RX0 yX0_more yX0_more, Cond.code yX0_more cX0_more 4 none]
def wsX4_oweInGoodsBy_r2 : List Cond := [Cond.methodLink RX0 31 yX2_add, Cond.instanceMethod yX2_add, Cond.selects RX2 yX2_add yX2_add, Cond.code yX2_add cX2_add 4 none, Cond.methodLink RX2 34 yX2_get, Cond.methodLink RX2 37 yX2_set, Cond.instanceMethod yX2_set, Cond.selects RX2 yX2_set yX2_set, Cond.code yX2_set cX2_set 5 none, Cond.methodLink RX4 150 yX2_add]
def wsX4_oweInGoodsBy : List Cond := .code yX4_oweInGoodsBy cX4_oweInGoodsBy 5 (some .int) :: ((wsX4_oweInGoodsBy_r1 ++ wsX4_oweInGoodsBy_r2) ++ wsX40 ++ wsX00 ++ wsX20)
def wsX4_oweInGoodsTo_r1 : List Cond := [Cond.fieldLink RX4 28 "Mutualledger" "debts" "LMutualledger$Debts;", Cond.fieldLink RX4 35 "Mutualledger" "givenUp" "LMutualledger$Table;", Cond.methodLink RX4 181 yX0_owed, Cond.instanceMethod yX0_owed, Cond.selects RX0 yX0_owed yX0_owed, Cond.initialized RX0, Cond.code yX0_owed cX0_owed 3 (some .int), Cond.fieldLink RX0 14 "Mutualledger$Debts" "owed" "LMutualledger$Table;", Cond.methodLink RX0 23 yX2_get, Cond.instanceMethod yX2_get, Cond.selects RX2 yX2_get yX2_get, Cond.initialized RX2, Cond.code yX2_get cX2_get 4 (some .int), Cond.fieldLink RX2 27 "Mutualledger$Table" "cells" "[I", Cond.methodLink RX2 31 yX2_placeOf, Cond.instanceMethod yX2_placeOf, Cond.selects RX2 yX2_placeOf yX2_placeOf, Cond.code yX2_placeOf cX2_placeOf 4 (some .int), Cond.fieldLink RX2 20 "Mutualledger$Table" "rows" "I", Cond.fieldLink RX2 24 "Mutualledger$Table" "columns" "I", Cond.methodLink RX4 107 yX0_more, Cond.instanceMethod yX0_more, Cond.selects RX0 yX0_more yX0_more, Cond.code yX0_more cX0_more 4 none]
def wsX4_oweInGoodsTo_r2 : List Cond := [Cond.methodLink RX0 31 yX2_add, Cond.instanceMethod yX2_add, Cond.selects RX2 yX2_add yX2_add, Cond.code yX2_add cX2_add 4 none, Cond.methodLink RX2 34 yX2_get, Cond.methodLink RX2 37 yX2_set, Cond.instanceMethod yX2_set, Cond.selects RX2 yX2_set yX2_set, Cond.code yX2_set cX2_set 5 none, Cond.methodLink RX4 150 yX2_add]
def wsX4_oweInGoodsTo : List Cond := .code yX4_oweInGoodsTo cX4_oweInGoodsTo 5 (some .int) :: ((wsX4_oweInGoodsTo_r1 ++ wsX4_oweInGoodsTo_r2) ++ wsX40 ++ wsX00 ++ wsX20)
def wsX4_leave_r1 : List Cond := [Cond.classLink RX4 55 "java/lang/IllegalStateException", Cond.initialized "java/lang/IllegalStateException", Cond.fieldLink RX4 21 "Mutualledger" "trades" "LMutualledger$Trades;", Cond.fieldLink RX4 32 "Mutualledger" "guarantees" "LMutualledger$Table;", Cond.fieldLink RX4 14 "Mutualledger" "shops" "LMutualledger$Table;", Cond.methodLink RX4 62 yX4_needShop, Cond.instanceMethod yX4_needShop, Cond.selects RX4 yX4_needShop yX4_needShop, Cond.initialized RX4, Cond.code yX4_needShop cX4_needShop 2 none, Cond.classLink RX4 194 "java/lang/IndexOutOfBoundsException", Cond.initialized "java/lang/IndexOutOfBoundsException", Cond.methodLink RX4 121 yX4_isShop, Cond.instanceMethod yX4_isShop, Cond.selects RX4 yX4_isShop yX4_isShop, Cond.code yX4_isShop cX4_isShop 2 (some .boolean), Cond.methodLink RX4 200 yX4_wasShop, Cond.instanceMethod yX4_wasShop, Cond.selects RX4 yX4_wasShop yX4_wasShop, Cond.code yX4_wasShop cX4_wasShop 2 (some .boolean), Cond.fieldLink RX4 45 "Mutualledger" "joined" "I", Cond.methodLink RX4 145 yX2_get, Cond.instanceMethod yX2_get, Cond.selects RX2 yX2_get yX2_get]
def wsX4_leave_r2 : List Cond := [Cond.initialized RX2, Cond.code yX2_get cX2_get 4 (some .int), Cond.fieldLink RX2 27 "Mutualledger$Table" "cells" "[I", Cond.methodLink RX2 31 yX2_placeOf, Cond.instanceMethod yX2_placeOf, Cond.selects RX2 yX2_placeOf yX2_placeOf, Cond.code yX2_placeOf cX2_placeOf 4 (some .int), Cond.fieldLink RX2 20 "Mutualledger$Table" "rows" "I", Cond.fieldLink RX2 24 "Mutualledger$Table" "columns" "I", Cond.methodLink RX4 66 yX3_hasDisputedOf, Cond.instanceMethod yX3_hasDisputedOf, Cond.selects RX3 yX3_hasDisputedOf yX3_hasDisputedOf, Cond.initialized RX3, Cond.code yX3_hasDisputedOf cX3_hasDisputedOf 3 (some .boolean), Cond.fieldLink RX3 20 "Mutualledger$Trades" "count" "I", Cond.methodLink RX3 35 yX3_isOf, Cond.instanceMethod yX3_isOf, Cond.selects RX3 yX3_isOf yX3_isOf, Cond.code yX3_isOf cX3_isOf 3 (some .boolean), Cond.methodLink RX3 32 yX3_of, Cond.instanceMethod yX3_of, Cond.selects RX3 yX3_of yX3_of, Cond.code yX3_of cX3_of 3 (some .int), Cond.fieldLink RX3 16 "Mutualledger$Trades" "rows" "LMutualledger$Table;"]
def wsX4_leave_r3 : List Cond := [Cond.methodLink RX3 24 yX2_get, Cond.methodLink RX4 72 yX4_passDebtsThrough, Cond.instanceMethod yX4_passDebtsThrough, Cond.selects RX4 yX4_passDebtsThrough yX4_passDebtsThrough, Cond.code yX4_passDebtsThrough cX4_passDebtsThrough 5 none, Cond.fieldLink RX4 28 "Mutualledger" "debts" "LMutualledger$Debts;", Cond.methodLink RX4 129 Lib.Math.min.name, Cond.static Lib.Math.min.name, Cond.initialized "java/lang/Math", Cond.code Lib.Math.min.name Lib.Math.min.code 2 (some .int), Cond.methodLink RX4 181 yX0_owed, Cond.instanceMethod yX0_owed, Cond.selects RX0 yX0_owed yX0_owed, Cond.initialized RX0, Cond.code yX0_owed cX0_owed 3 (some .int), Cond.fieldLink RX0 14 "Mutualledger$Debts" "owed" "LMutualledger$Table;", Cond.methodLink RX0 23 yX2_get, Cond.methodLink RX4 107 yX0_more, Cond.instanceMethod yX0_more, Cond.selects RX0 yX0_more yX0_more, Cond.code yX0_more cX0_more 4 none, Cond.methodLink RX0 31 yX2_add, Cond.instanceMethod yX2_add, Cond.selects RX2 yX2_add yX2_add]
def wsX4_leave_r4 : List Cond := [Cond.code yX2_add cX2_add 4 none, Cond.methodLink RX2 34 yX2_get, Cond.methodLink RX2 37 yX2_set, Cond.instanceMethod yX2_set, Cond.selects RX2 yX2_set yX2_set, Cond.code yX2_set cX2_set 5 none, Cond.methodLink RX4 237 yX4_takeOver, Cond.instanceMethod yX4_takeOver, Cond.selects RX4 yX4_takeOver yX4_takeOver, Cond.code yX4_takeOver cX4_takeOver 5 none, Cond.methodLink RX4 75 yX4_letGuarantorsPay, Cond.instanceMethod yX4_letGuarantorsPay, Cond.selects RX4 yX4_letGuarantorsPay yX4_letGuarantorsPay, Cond.code yX4_letGuarantorsPay cX4_letGuarantorsPay 5 none, Cond.fieldLink RX4 35 "Mutualledger" "givenUp" "LMutualledger$Table;", Cond.methodLink RX4 150 yX2_add, Cond.methodLink RX4 78 yX4_oweInGoodsBy, Cond.instanceMethod yX4_oweInGoodsBy, Cond.selects RX4 yX4_oweInGoodsBy yX4_oweInGoodsBy, Cond.code yX4_oweInGoodsBy cX4_oweInGoodsBy 5 (some .int), Cond.methodLink RX4 82 yX4_oweInGoodsTo, Cond.instanceMethod yX4_oweInGoodsTo, Cond.selects RX4 yX4_oweInGoodsTo yX4_oweInGoodsTo, Cond.code yX4_oweInGoodsTo cX4_oweInGoodsTo 5 (some .int)]
def wsX4_leave_r5 : List Cond := [Cond.methodLink RX4 85 yX2_clearAllOf, Cond.instanceMethod yX2_clearAllOf, Cond.selects RX2 yX2_clearAllOf yX2_clearAllOf, Cond.code yX2_clearAllOf cX2_clearAllOf 3 none, Cond.methodLink RX4 88 yX2_set]
def wsX4_leave : List Cond := .code yX4_leave cX4_leave 4 (some .int) :: ((wsX4_leave_r1 ++ (wsX4_leave_r2 ++ (wsX4_leave_r3 ++ (wsX4_leave_r4 ++ wsX4_leave_r5)))) ++ wsX40 ++ wsX20 ++ wsX30 ++ wsX00 ++ (vx_atS RX4 59 "java/lang/IllegalStateException" ["java/lang/RuntimeException", "java/lang/Exception"]).filter goodWord ++ (vx_atS RX4 198 "java/lang/IndexOutOfBoundsException" ["java/lang/RuntimeException", "java/lang/Exception"]).filter goodWord)
def wsX4_needRange : List Cond := .code yX4_needRange cX4_needRange 3 none :: ([.classLink RX4 212 "java/lang/IllegalArgumentException", .initialized "java/lang/IllegalArgumentException"] ++ (vx_atS RX4 216 "java/lang/IllegalArgumentException" ["java/lang/RuntimeException", "java/lang/Exception"]).filter goodWord)
def wsX4_needUnlike : List Cond := .code yX4_needUnlike cX4_needUnlike 2 none :: ([.classLink RX4 212 "java/lang/IllegalArgumentException", .initialized "java/lang/IllegalArgumentException"] ++ (vx_atS RX4 216 "java/lang/IllegalArgumentException" ["java/lang/RuntimeException", "java/lang/Exception"]).filter goodWord)
def wsX4_limitOf_r1 : List Cond := [Cond.fieldLink RX4 21 "Mutualledger" "trades" "LMutualledger$Trades;", Cond.fieldLink RX4 49 "Mutualledger" "today" "I", Cond.fieldLink RX4 32 "Mutualledger" "guarantees" "LMutualledger$Table;", Cond.methodLink RX4 221 yX3_amountsSince, Cond.instanceMethod yX3_amountsSince, Cond.selects RX3 yX3_amountsSince yX3_amountsSince, Cond.initialized RX3, Cond.code yX3_amountsSince cX3_amountsSince 6 (some .int), Cond.fieldLink RX3 20 "Mutualledger$Trades" "count" "I", Cond.methodLink RX3 35 yX3_isOf, Cond.instanceMethod yX3_isOf, Cond.selects RX3 yX3_isOf yX3_isOf, Cond.code yX3_isOf cX3_isOf 3 (some .boolean), Cond.methodLink RX3 32 yX3_of, Cond.instanceMethod yX3_of, Cond.selects RX3 yX3_of yX3_of, Cond.code yX3_of cX3_of 3 (some .int), Cond.fieldLink RX3 16 "Mutualledger$Trades" "rows" "LMutualledger$Table;", Cond.methodLink RX3 24 yX2_get, Cond.instanceMethod yX2_get, Cond.selects RX2 yX2_get yX2_get, Cond.initialized RX2, Cond.code yX2_get cX2_get 4 (some .int), Cond.fieldLink RX2 27 "Mutualledger$Table" "cells" "[I"]
def wsX4_limitOf_r2 : List Cond := [Cond.methodLink RX2 31 yX2_placeOf, Cond.instanceMethod yX2_placeOf, Cond.selects RX2 yX2_placeOf yX2_placeOf, Cond.code yX2_placeOf cX2_placeOf 4 (some .int), Cond.fieldLink RX2 20 "Mutualledger$Table" "rows" "I", Cond.fieldLink RX2 24 "Mutualledger$Table" "columns" "I", Cond.methodLink RX4 169 yX2_columnSum, Cond.instanceMethod yX2_columnSum, Cond.selects RX2 yX2_columnSum yX2_columnSum, Cond.code yX2_columnSum cX2_columnSum 4 (some .int), Cond.methodLink RX2 34 yX2_get, Cond.methodLink RX4 172 yX2_rowSum, Cond.instanceMethod yX2_rowSum, Cond.selects RX2 yX2_rowSum yX2_rowSum, Cond.code yX2_rowSum cX2_rowSum 4 (some .int)]
def wsX4_limitOf : List Cond := .code yX4_limitOf cX4_limitOf 3 (some .int) :: ((wsX4_limitOf_r1 ++ wsX4_limitOf_r2) ++ wsX40 ++ wsX30 ++ wsX20)
def wsX4_needBearable_r1 : List Cond := [Cond.classLink RX4 55 "java/lang/IllegalStateException", Cond.initialized "java/lang/IllegalStateException", Cond.fieldLink RX4 28 "Mutualledger" "debts" "LMutualledger$Debts;", Cond.methodLink RX4 165 yX0_balanceOf, Cond.instanceMethod yX0_balanceOf, Cond.selects RX0 yX0_balanceOf yX0_balanceOf, Cond.initialized RX0, Cond.code yX0_balanceOf cX0_balanceOf 2 (some .int), Cond.fieldLink RX0 14 "Mutualledger$Debts" "owed" "LMutualledger$Table;", Cond.methodLink RX0 27 yX2_columnSum, Cond.instanceMethod yX2_columnSum, Cond.selects RX2 yX2_columnSum yX2_columnSum, Cond.initialized RX2, Cond.code yX2_columnSum cX2_columnSum 4 (some .int), Cond.fieldLink RX2 20 "Mutualledger$Table" "rows" "I", Cond.methodLink RX2 34 yX2_get, Cond.instanceMethod yX2_get, Cond.selects RX2 yX2_get yX2_get, Cond.code yX2_get cX2_get 4 (some .int), Cond.fieldLink RX2 27 "Mutualledger$Table" "cells" "[I", Cond.methodLink RX2 31 yX2_placeOf, Cond.instanceMethod yX2_placeOf, Cond.selects RX2 yX2_placeOf yX2_placeOf, Cond.code yX2_placeOf cX2_placeOf 4 (some .int)]
def wsX4_needBearable_r2 : List Cond := [Cond.fieldLink RX2 24 "Mutualledger$Table" "columns" "I", Cond.methodLink RX0 35 yX2_rowSum, Cond.instanceMethod yX2_rowSum, Cond.selects RX2 yX2_rowSum yX2_rowSum, Cond.code yX2_rowSum cX2_rowSum 4 (some .int), Cond.methodLink RX4 175 yX4_limitOf, Cond.instanceMethod yX4_limitOf, Cond.selects RX4 yX4_limitOf yX4_limitOf, Cond.initialized RX4, Cond.code yX4_limitOf cX4_limitOf 3 (some .int), Cond.fieldLink RX4 21 "Mutualledger" "trades" "LMutualledger$Trades;", Cond.fieldLink RX4 49 "Mutualledger" "today" "I", Cond.fieldLink RX4 32 "Mutualledger" "guarantees" "LMutualledger$Table;", Cond.methodLink RX4 221 yX3_amountsSince, Cond.instanceMethod yX3_amountsSince, Cond.selects RX3 yX3_amountsSince yX3_amountsSince, Cond.initialized RX3, Cond.code yX3_amountsSince cX3_amountsSince 6 (some .int), Cond.fieldLink RX3 20 "Mutualledger$Trades" "count" "I", Cond.methodLink RX3 35 yX3_isOf, Cond.instanceMethod yX3_isOf, Cond.selects RX3 yX3_isOf yX3_isOf, Cond.code yX3_isOf cX3_isOf 3 (some .boolean), Cond.methodLink RX3 32 yX3_of]
def wsX4_needBearable_r3 : List Cond := [Cond.instanceMethod yX3_of, Cond.selects RX3 yX3_of yX3_of, Cond.code yX3_of cX3_of 3 (some .int), Cond.fieldLink RX3 16 "Mutualledger$Trades" "rows" "LMutualledger$Table;", Cond.methodLink RX3 24 yX2_get, Cond.methodLink RX4 169 yX2_columnSum, Cond.methodLink RX4 172 yX2_rowSum]
def wsX4_needBearable : List Cond := .code yX4_needBearable cX4_needBearable 3 none :: ((wsX4_needBearable_r1 ++ (wsX4_needBearable_r2 ++ wsX4_needBearable_r3)) ++ wsX40 ++ wsX00 ++ wsX20 ++ wsX30 ++ (vx_atS RX4 59 "java/lang/IllegalStateException" ["java/lang/RuntimeException", "java/lang/Exception"]).filter goodWord)
def wsX4_trade_r1 : List Cond := [Cond.classLink RX4 55 "java/lang/IllegalStateException", Cond.initialized "java/lang/IllegalStateException", Cond.fieldLink RX4 21 "Mutualledger" "trades" "LMutualledger$Trades;", Cond.fieldLink RX4 28 "Mutualledger" "debts" "LMutualledger$Debts;", Cond.fieldLink RX4 49 "Mutualledger" "today" "I", Cond.methodLink RX4 62 yX4_needShop, Cond.instanceMethod yX4_needShop, Cond.selects RX4 yX4_needShop yX4_needShop, Cond.initialized RX4, Cond.code yX4_needShop cX4_needShop 2 none, Cond.classLink RX4 194 "java/lang/IndexOutOfBoundsException", Cond.initialized "java/lang/IndexOutOfBoundsException", Cond.methodLink RX4 121 yX4_isShop, Cond.instanceMethod yX4_isShop, Cond.selects RX4 yX4_isShop yX4_isShop, Cond.code yX4_isShop cX4_isShop 2 (some .boolean), Cond.fieldLink RX4 14 "Mutualledger" "shops" "LMutualledger$Table;", Cond.methodLink RX4 200 yX4_wasShop, Cond.instanceMethod yX4_wasShop, Cond.selects RX4 yX4_wasShop yX4_wasShop, Cond.code yX4_wasShop cX4_wasShop 2 (some .boolean), Cond.fieldLink RX4 45 "Mutualledger" "joined" "I", Cond.methodLink RX4 145 yX2_get, Cond.instanceMethod yX2_get]
def wsX4_trade_r2 : List Cond := [Cond.selects RX2 yX2_get yX2_get, Cond.initialized RX2, Cond.code yX2_get cX2_get 4 (some .int), Cond.fieldLink RX2 27 "Mutualledger$Table" "cells" "[I", Cond.methodLink RX2 31 yX2_placeOf, Cond.instanceMethod yX2_placeOf, Cond.selects RX2 yX2_placeOf yX2_placeOf, Cond.code yX2_placeOf cX2_placeOf 4 (some .int), Cond.fieldLink RX2 20 "Mutualledger$Table" "rows" "I", Cond.fieldLink RX2 24 "Mutualledger$Table" "columns" "I", Cond.methodLink RX4 92 yX4_needRange, Cond.static yX4_needRange, Cond.code yX4_needRange cX4_needRange 3 none, Cond.classLink RX4 212 "java/lang/IllegalArgumentException", Cond.initialized "java/lang/IllegalArgumentException", Cond.methodLink RX4 95 yX4_needUnlike, Cond.static yX4_needUnlike, Cond.code yX4_needUnlike cX4_needUnlike 2 none, Cond.methodLink RX4 98 yX3_isFull, Cond.instanceMethod yX3_isFull, Cond.selects RX3 yX3_isFull yX3_isFull, Cond.initialized RX3, Cond.code yX3_isFull cX3_isFull 1 (some .boolean), Cond.fieldLink RX3 20 "Mutualledger$Trades" "count" "I"]
def wsX4_trade_r3 : List Cond := [Cond.methodLink RX4 104 yX4_needBearable, Cond.instanceMethod yX4_needBearable, Cond.selects RX4 yX4_needBearable yX4_needBearable, Cond.code yX4_needBearable cX4_needBearable 3 none, Cond.methodLink RX4 165 yX0_balanceOf, Cond.instanceMethod yX0_balanceOf, Cond.selects RX0 yX0_balanceOf yX0_balanceOf, Cond.initialized RX0, Cond.code yX0_balanceOf cX0_balanceOf 2 (some .int), Cond.fieldLink RX0 14 "Mutualledger$Debts" "owed" "LMutualledger$Table;", Cond.methodLink RX0 27 yX2_columnSum, Cond.instanceMethod yX2_columnSum, Cond.selects RX2 yX2_columnSum yX2_columnSum, Cond.code yX2_columnSum cX2_columnSum 4 (some .int), Cond.methodLink RX2 34 yX2_get, Cond.methodLink RX0 35 yX2_rowSum, Cond.instanceMethod yX2_rowSum, Cond.selects RX2 yX2_rowSum yX2_rowSum, Cond.code yX2_rowSum cX2_rowSum 4 (some .int), Cond.methodLink RX4 175 yX4_limitOf, Cond.instanceMethod yX4_limitOf, Cond.selects RX4 yX4_limitOf yX4_limitOf, Cond.code yX4_limitOf cX4_limitOf 3 (some .int), Cond.fieldLink RX4 32 "Mutualledger" "guarantees" "LMutualledger$Table;"]
def wsX4_trade_r4 : List Cond := [Cond.methodLink RX4 221 yX3_amountsSince, Cond.instanceMethod yX3_amountsSince, Cond.selects RX3 yX3_amountsSince yX3_amountsSince, Cond.code yX3_amountsSince cX3_amountsSince 6 (some .int), Cond.methodLink RX3 35 yX3_isOf, Cond.instanceMethod yX3_isOf, Cond.selects RX3 yX3_isOf yX3_isOf, Cond.code yX3_isOf cX3_isOf 3 (some .boolean), Cond.methodLink RX3 32 yX3_of, Cond.instanceMethod yX3_of, Cond.selects RX3 yX3_of yX3_of, Cond.code yX3_of cX3_of 3 (some .int), Cond.fieldLink RX3 16 "Mutualledger$Trades" "rows" "LMutualledger$Table;", Cond.methodLink RX3 24 yX2_get, Cond.methodLink RX4 169 yX2_columnSum, Cond.methodLink RX4 172 yX2_rowSum, Cond.methodLink RX4 107 yX0_more, Cond.instanceMethod yX0_more, Cond.selects RX0 yX0_more yX0_more, Cond.code yX0_more cX0_more 4 none, Cond.methodLink RX0 31 yX2_add, Cond.instanceMethod yX2_add, Cond.selects RX2 yX2_add yX2_add, Cond.code yX2_add cX2_add 4 none]
def wsX4_trade_r5 : List Cond := [Cond.methodLink RX2 37 yX2_set, Cond.instanceMethod yX2_set, Cond.selects RX2 yX2_set yX2_set, Cond.code yX2_set cX2_set 5 none, Cond.methodLink RX4 110 yX3_put, Cond.instanceMethod yX3_put, Cond.selects RX3 yX3_put yX3_put, Cond.code yX3_put cX3_put 6 (some .int), Cond.methodLink RX3 28 yX2_set]
def wsX4_trade : List Cond := .code yX4_trade cX4_trade 4 (some .int) :: ((wsX4_trade_r1 ++ (wsX4_trade_r2 ++ (wsX4_trade_r3 ++ (wsX4_trade_r4 ++ wsX4_trade_r5)))) ++ wsX40 ++ wsX20 ++ wsX30 ++ wsX00 ++ (vx_atS RX4 59 "java/lang/IllegalStateException" ["java/lang/RuntimeException", "java/lang/Exception"]).filter goodWord ++ (vx_atS RX4 198 "java/lang/IndexOutOfBoundsException" ["java/lang/RuntimeException", "java/lang/Exception"]).filter goodWord ++ (vx_atS RX4 216 "java/lang/IllegalArgumentException" ["java/lang/RuntimeException", "java/lang/Exception"]).filter goodWord)
def wsX4_needTrade : List Cond := .code yX4_needTrade cX4_needTrade 2 none :: ([.classLink RX4 194 "java/lang/IndexOutOfBoundsException", .initialized "java/lang/IndexOutOfBoundsException", .fieldLink RX4 21 "Mutualledger" "trades" "LMutualledger$Trades;", .methodLink RX4 207 yX3_has, .instanceMethod yX3_has, .selects RX3 yX3_has yX3_has, .initialized RX3, .code yX3_has cX3_has 2 (some .boolean), .fieldLink RX3 20 "Mutualledger$Trades" "count" "I"] ++ wsX40 ++ wsX30 ++ (vx_atS RX4 198 "java/lang/IndexOutOfBoundsException" ["java/lang/RuntimeException", "java/lang/Exception"]).filter goodWord)
def wsX4_dispute_r1 : List Cond := [Cond.classLink RX4 55 "java/lang/IllegalStateException", Cond.initialized "java/lang/IllegalStateException", Cond.fieldLink RX4 21 "Mutualledger" "trades" "LMutualledger$Trades;", Cond.fieldLink RX4 28 "Mutualledger" "debts" "LMutualledger$Debts;", Cond.methodLink RX4 129 Lib.Math.min.name, Cond.static Lib.Math.min.name, Cond.initialized "java/lang/Math", Cond.code Lib.Math.min.name Lib.Math.min.code 2 (some .int), Cond.methodLink RX4 114 yX4_needTrade, Cond.instanceMethod yX4_needTrade, Cond.selects RX4 yX4_needTrade yX4_needTrade, Cond.initialized RX4, Cond.code yX4_needTrade cX4_needTrade 2 none, Cond.classLink RX4 194 "java/lang/IndexOutOfBoundsException", Cond.initialized "java/lang/IndexOutOfBoundsException", Cond.methodLink RX4 207 yX3_has, Cond.instanceMethod yX3_has, Cond.selects RX3 yX3_has yX3_has, Cond.initialized RX3, Cond.code yX3_has cX3_has 2 (some .boolean), Cond.fieldLink RX3 20 "Mutualledger$Trades" "count" "I", Cond.methodLink RX4 117 yX3_of, Cond.instanceMethod yX3_of, Cond.selects RX3 yX3_of yX3_of]
def wsX4_dispute_r2 : List Cond := [Cond.code yX3_of cX3_of 3 (some .int), Cond.fieldLink RX3 16 "Mutualledger$Trades" "rows" "LMutualledger$Table;", Cond.methodLink RX3 24 yX2_get, Cond.instanceMethod yX2_get, Cond.selects RX2 yX2_get yX2_get, Cond.initialized RX2, Cond.code yX2_get cX2_get 4 (some .int), Cond.fieldLink RX2 27 "Mutualledger$Table" "cells" "[I", Cond.methodLink RX2 31 yX2_placeOf, Cond.instanceMethod yX2_placeOf, Cond.selects RX2 yX2_placeOf yX2_placeOf, Cond.code yX2_placeOf cX2_placeOf 4 (some .int), Cond.fieldLink RX2 20 "Mutualledger$Table" "rows" "I", Cond.fieldLink RX2 24 "Mutualledger$Table" "columns" "I", Cond.methodLink RX4 121 yX4_isShop, Cond.instanceMethod yX4_isShop, Cond.selects RX4 yX4_isShop yX4_isShop, Cond.code yX4_isShop cX4_isShop 2 (some .boolean), Cond.fieldLink RX4 14 "Mutualledger" "shops" "LMutualledger$Table;", Cond.methodLink RX4 200 yX4_wasShop, Cond.instanceMethod yX4_wasShop, Cond.selects RX4 yX4_wasShop yX4_wasShop, Cond.code yX4_wasShop cX4_wasShop 2 (some .boolean), Cond.fieldLink RX4 45 "Mutualledger" "joined" "I"]
def wsX4_dispute_r3 : List Cond := [Cond.methodLink RX4 145 yX2_get, Cond.methodLink RX4 126 yX0_open, Cond.instanceMethod yX0_open, Cond.selects RX0 yX0_open yX0_open, Cond.initialized RX0, Cond.code yX0_open cX0_open 3 (some .int), Cond.fieldLink RX0 14 "Mutualledger$Debts" "owed" "LMutualledger$Table;", Cond.fieldLink RX0 20 "Mutualledger$Debts" "frozenParts" "LMutualledger$Table;", Cond.methodLink RX0 23 yX2_get, Cond.methodLink RX4 134 yX0_freeze, Cond.instanceMethod yX0_freeze, Cond.selects RX0 yX0_freeze yX0_freeze, Cond.code yX0_freeze cX0_freeze 4 none, Cond.methodLink RX0 31 yX2_add, Cond.instanceMethod yX2_add, Cond.selects RX2 yX2_add yX2_add, Cond.code yX2_add cX2_add 4 none, Cond.methodLink RX2 34 yX2_get, Cond.methodLink RX2 37 yX2_set, Cond.instanceMethod yX2_set, Cond.selects RX2 yX2_set yX2_set, Cond.code yX2_set cX2_set 5 none, Cond.methodLink RX4 137 yX3_turn, Cond.instanceMethod yX3_turn]
def wsX4_dispute_r4 : List Cond := [Cond.selects RX3 yX3_turn yX3_turn, Cond.code yX3_turn cX3_turn 4 none, Cond.methodLink RX3 28 yX2_set]
def wsX4_dispute : List Cond := .code yX4_dispute cX4_dispute 5 (some .int) :: ((wsX4_dispute_r1 ++ (wsX4_dispute_r2 ++ (wsX4_dispute_r3 ++ wsX4_dispute_r4))) ++ wsX40 ++ wsX30 ++ wsX20 ++ wsX00 ++ (vx_atS RX4 59 "java/lang/IllegalStateException" ["java/lang/RuntimeException", "java/lang/Exception"]).filter goodWord ++ (vx_atS RX4 198 "java/lang/IndexOutOfBoundsException" ["java/lang/RuntimeException", "java/lang/Exception"]).filter goodWord)
def wsX4_settle_r1 : List Cond := [Cond.classLink RX4 55 "java/lang/IllegalStateException", Cond.initialized "java/lang/IllegalStateException", Cond.fieldLink RX4 21 "Mutualledger" "trades" "LMutualledger$Trades;", Cond.fieldLink RX4 28 "Mutualledger" "debts" "LMutualledger$Debts;", Cond.methodLink RX4 114 yX4_needTrade, Cond.instanceMethod yX4_needTrade, Cond.selects RX4 yX4_needTrade yX4_needTrade, Cond.initialized RX4, Cond.code yX4_needTrade cX4_needTrade 2 none, Cond.classLink RX4 194 "java/lang/IndexOutOfBoundsException", Cond.initialized "java/lang/IndexOutOfBoundsException", Cond.methodLink RX4 207 yX3_has, Cond.instanceMethod yX3_has, Cond.selects RX3 yX3_has yX3_has, Cond.initialized RX3, Cond.code yX3_has cX3_has 2 (some .boolean), Cond.fieldLink RX3 20 "Mutualledger$Trades" "count" "I", Cond.methodLink RX4 117 yX3_of, Cond.instanceMethod yX3_of, Cond.selects RX3 yX3_of yX3_of, Cond.code yX3_of cX3_of 3 (some .int), Cond.fieldLink RX3 16 "Mutualledger$Trades" "rows" "LMutualledger$Table;", Cond.methodLink RX3 24 yX2_get, Cond.instanceMethod yX2_get]
def wsX4_settle_r2 : List Cond := [Cond.selects RX2 yX2_get yX2_get, Cond.initialized RX2, Cond.code yX2_get cX2_get 4 (some .int), Cond.fieldLink RX2 27 "Mutualledger$Table" "cells" "[I", Cond.methodLink RX2 31 yX2_placeOf, Cond.instanceMethod yX2_placeOf, Cond.selects RX2 yX2_placeOf yX2_placeOf, Cond.code yX2_placeOf cX2_placeOf 4 (some .int), Cond.fieldLink RX2 20 "Mutualledger$Table" "rows" "I", Cond.fieldLink RX2 24 "Mutualledger$Table" "columns" "I", Cond.methodLink RX4 134 yX0_freeze, Cond.instanceMethod yX0_freeze, Cond.selects RX0 yX0_freeze yX0_freeze, Cond.initialized RX0, Cond.code yX0_freeze cX0_freeze 4 none, Cond.fieldLink RX0 20 "Mutualledger$Debts" "frozenParts" "LMutualledger$Table;", Cond.methodLink RX0 31 yX2_add, Cond.instanceMethod yX2_add, Cond.selects RX2 yX2_add yX2_add, Cond.code yX2_add cX2_add 4 none, Cond.methodLink RX2 34 yX2_get, Cond.methodLink RX2 37 yX2_set, Cond.instanceMethod yX2_set, Cond.selects RX2 yX2_set yX2_set]
def wsX4_settle_r3 : List Cond := [Cond.code yX2_set cX2_set 5 none, Cond.methodLink RX4 137 yX3_turn, Cond.instanceMethod yX3_turn, Cond.selects RX3 yX3_turn yX3_turn, Cond.code yX3_turn cX3_turn 4 none, Cond.methodLink RX3 28 yX2_set, Cond.methodLink RX4 107 yX0_more, Cond.instanceMethod yX0_more, Cond.selects RX0 yX0_more yX0_more, Cond.code yX0_more cX0_more 4 none, Cond.fieldLink RX0 14 "Mutualledger$Debts" "owed" "LMutualledger$Table;"]
def wsX4_settle : List Cond := .code yX4_settle cX4_settle 7 (some .int) :: ((wsX4_settle_r1 ++ (wsX4_settle_r2 ++ wsX4_settle_r3)) ++ wsX40 ++ wsX30 ++ wsX20 ++ wsX00 ++ (vx_atS RX4 59 "java/lang/IllegalStateException" ["java/lang/RuntimeException", "java/lang/Exception"]).filter goodWord ++ (vx_atS RX4 198 "java/lang/IndexOutOfBoundsException" ["java/lang/RuntimeException", "java/lang/Exception"]).filter goodWord)
def wsX4_needGuaranteeArguments_r1 : List Cond := [Cond.methodLink RX4 62 yX4_needShop, Cond.instanceMethod yX4_needShop, Cond.selects RX4 yX4_needShop yX4_needShop, Cond.initialized RX4, Cond.code yX4_needShop cX4_needShop 2 none, Cond.classLink RX4 194 "java/lang/IndexOutOfBoundsException", Cond.initialized "java/lang/IndexOutOfBoundsException", Cond.methodLink RX4 121 yX4_isShop, Cond.instanceMethod yX4_isShop, Cond.selects RX4 yX4_isShop yX4_isShop, Cond.code yX4_isShop cX4_isShop 2 (some .boolean), Cond.fieldLink RX4 14 "Mutualledger" "shops" "LMutualledger$Table;", Cond.methodLink RX4 200 yX4_wasShop, Cond.instanceMethod yX4_wasShop, Cond.selects RX4 yX4_wasShop yX4_wasShop, Cond.code yX4_wasShop cX4_wasShop 2 (some .boolean), Cond.fieldLink RX4 45 "Mutualledger" "joined" "I", Cond.methodLink RX4 145 yX2_get, Cond.instanceMethod yX2_get, Cond.selects RX2 yX2_get yX2_get, Cond.initialized RX2, Cond.code yX2_get cX2_get 4 (some .int), Cond.fieldLink RX2 27 "Mutualledger$Table" "cells" "[I", Cond.methodLink RX2 31 yX2_placeOf]
def wsX4_needGuaranteeArguments_r2 : List Cond := [Cond.instanceMethod yX2_placeOf, Cond.selects RX2 yX2_placeOf yX2_placeOf, Cond.code yX2_placeOf cX2_placeOf 4 (some .int), Cond.fieldLink RX2 20 "Mutualledger$Table" "rows" "I", Cond.fieldLink RX2 24 "Mutualledger$Table" "columns" "I", Cond.methodLink RX4 92 yX4_needRange, Cond.static yX4_needRange, Cond.code yX4_needRange cX4_needRange 3 none, Cond.classLink RX4 212 "java/lang/IllegalArgumentException", Cond.initialized "java/lang/IllegalArgumentException", Cond.methodLink RX4 95 yX4_needUnlike, Cond.static yX4_needUnlike, Cond.code yX4_needUnlike cX4_needUnlike 2 none]
def wsX4_needGuaranteeArguments : List Cond := .code yX4_needGuaranteeArguments cX4_needGuaranteeArguments 4 none :: ((wsX4_needGuaranteeArguments_r1 ++ wsX4_needGuaranteeArguments_r2) ++ wsX40 ++ wsX20 ++ (vx_atS RX4 198 "java/lang/IndexOutOfBoundsException" ["java/lang/RuntimeException", "java/lang/Exception"]).filter goodWord ++ (vx_atS RX4 216 "java/lang/IllegalArgumentException" ["java/lang/RuntimeException", "java/lang/Exception"]).filter goodWord)
def wsX4_guarantee_r1 : List Cond := [Cond.classLink RX4 55 "java/lang/IllegalStateException", Cond.initialized "java/lang/IllegalStateException", Cond.fieldLink RX4 32 "Mutualledger" "guarantees" "LMutualledger$Table;", Cond.methodLink RX4 142 yX4_needGuaranteeArguments, Cond.instanceMethod yX4_needGuaranteeArguments, Cond.selects RX4 yX4_needGuaranteeArguments yX4_needGuaranteeArguments, Cond.initialized RX4, Cond.code yX4_needGuaranteeArguments cX4_needGuaranteeArguments 4 none, Cond.methodLink RX4 62 yX4_needShop, Cond.instanceMethod yX4_needShop, Cond.selects RX4 yX4_needShop yX4_needShop, Cond.code yX4_needShop cX4_needShop 2 none, Cond.classLink RX4 194 "java/lang/IndexOutOfBoundsException", Cond.initialized "java/lang/IndexOutOfBoundsException", Cond.methodLink RX4 121 yX4_isShop, Cond.instanceMethod yX4_isShop, Cond.selects RX4 yX4_isShop yX4_isShop, Cond.code yX4_isShop cX4_isShop 2 (some .boolean), Cond.fieldLink RX4 14 "Mutualledger" "shops" "LMutualledger$Table;", Cond.methodLink RX4 200 yX4_wasShop, Cond.instanceMethod yX4_wasShop, Cond.selects RX4 yX4_wasShop yX4_wasShop, Cond.code yX4_wasShop cX4_wasShop 2 (some .boolean), Cond.fieldLink RX4 45 "Mutualledger" "joined" "I"]
def wsX4_guarantee_r2 : List Cond := [Cond.methodLink RX4 145 yX2_get, Cond.instanceMethod yX2_get, Cond.selects RX2 yX2_get yX2_get, Cond.initialized RX2, Cond.code yX2_get cX2_get 4 (some .int), Cond.fieldLink RX2 27 "Mutualledger$Table" "cells" "[I", Cond.methodLink RX2 31 yX2_placeOf, Cond.instanceMethod yX2_placeOf, Cond.selects RX2 yX2_placeOf yX2_placeOf, Cond.code yX2_placeOf cX2_placeOf 4 (some .int), Cond.fieldLink RX2 20 "Mutualledger$Table" "rows" "I", Cond.fieldLink RX2 24 "Mutualledger$Table" "columns" "I", Cond.methodLink RX4 92 yX4_needRange, Cond.static yX4_needRange, Cond.code yX4_needRange cX4_needRange 3 none, Cond.classLink RX4 212 "java/lang/IllegalArgumentException", Cond.initialized "java/lang/IllegalArgumentException", Cond.methodLink RX4 95 yX4_needUnlike, Cond.static yX4_needUnlike, Cond.code yX4_needUnlike cX4_needUnlike 2 none, Cond.methodLink RX4 104 yX4_needBearable, Cond.instanceMethod yX4_needBearable, Cond.selects RX4 yX4_needBearable yX4_needBearable, Cond.code yX4_needBearable cX4_needBearable 3 none]
def wsX4_guarantee_r3 : List Cond := [Cond.fieldLink RX4 28 "Mutualledger" "debts" "LMutualledger$Debts;", Cond.methodLink RX4 165 yX0_balanceOf, Cond.instanceMethod yX0_balanceOf, Cond.selects RX0 yX0_balanceOf yX0_balanceOf, Cond.initialized RX0, Cond.code yX0_balanceOf cX0_balanceOf 2 (some .int), Cond.fieldLink RX0 14 "Mutualledger$Debts" "owed" "LMutualledger$Table;", Cond.methodLink RX0 27 yX2_columnSum, Cond.instanceMethod yX2_columnSum, Cond.selects RX2 yX2_columnSum yX2_columnSum, Cond.code yX2_columnSum cX2_columnSum 4 (some .int), Cond.methodLink RX2 34 yX2_get, Cond.methodLink RX0 35 yX2_rowSum, Cond.instanceMethod yX2_rowSum, Cond.selects RX2 yX2_rowSum yX2_rowSum, Cond.code yX2_rowSum cX2_rowSum 4 (some .int), Cond.methodLink RX4 175 yX4_limitOf, Cond.instanceMethod yX4_limitOf, Cond.selects RX4 yX4_limitOf yX4_limitOf, Cond.code yX4_limitOf cX4_limitOf 3 (some .int), Cond.fieldLink RX4 21 "Mutualledger" "trades" "LMutualledger$Trades;", Cond.fieldLink RX4 49 "Mutualledger" "today" "I", Cond.methodLink RX4 221 yX3_amountsSince, Cond.instanceMethod yX3_amountsSince]
def wsX4_guarantee_r4 : List Cond := [Cond.selects RX3 yX3_amountsSince yX3_amountsSince, Cond.initialized RX3, Cond.code yX3_amountsSince cX3_amountsSince 6 (some .int), Cond.fieldLink RX3 20 "Mutualledger$Trades" "count" "I", Cond.methodLink RX3 35 yX3_isOf, Cond.instanceMethod yX3_isOf, Cond.selects RX3 yX3_isOf yX3_isOf, Cond.code yX3_isOf cX3_isOf 3 (some .boolean), Cond.methodLink RX3 32 yX3_of, Cond.instanceMethod yX3_of, Cond.selects RX3 yX3_of yX3_of, Cond.code yX3_of cX3_of 3 (some .int), Cond.fieldLink RX3 16 "Mutualledger$Trades" "rows" "LMutualledger$Table;", Cond.methodLink RX3 24 yX2_get, Cond.methodLink RX4 169 yX2_columnSum, Cond.methodLink RX4 172 yX2_rowSum, Cond.methodLink RX4 150 yX2_add, Cond.instanceMethod yX2_add, Cond.selects RX2 yX2_add yX2_add, Cond.code yX2_add cX2_add 4 none, Cond.methodLink RX2 37 yX2_set, Cond.instanceMethod yX2_set, Cond.selects RX2 yX2_set yX2_set, Cond.code yX2_set cX2_set 5 none]
def wsX4_guarantee : List Cond := .code yX4_guarantee cX4_guarantee 4 (some .int) :: ((wsX4_guarantee_r1 ++ (wsX4_guarantee_r2 ++ (wsX4_guarantee_r3 ++ wsX4_guarantee_r4))) ++ wsX40 ++ wsX20 ++ wsX00 ++ wsX30 ++ (vx_atS RX4 59 "java/lang/IllegalStateException" ["java/lang/RuntimeException", "java/lang/Exception"]).filter goodWord ++ (vx_atS RX4 198 "java/lang/IndexOutOfBoundsException" ["java/lang/RuntimeException", "java/lang/Exception"]).filter goodWord ++ (vx_atS RX4 216 "java/lang/IllegalArgumentException" ["java/lang/RuntimeException", "java/lang/Exception"]).filter goodWord)
def wsX4_revoke_r1 : List Cond := [Cond.classLink RX4 55 "java/lang/IllegalStateException", Cond.initialized "java/lang/IllegalStateException", Cond.fieldLink RX4 32 "Mutualledger" "guarantees" "LMutualledger$Table;", Cond.methodLink RX4 142 yX4_needGuaranteeArguments, Cond.instanceMethod yX4_needGuaranteeArguments, Cond.selects RX4 yX4_needGuaranteeArguments yX4_needGuaranteeArguments, Cond.initialized RX4, Cond.code yX4_needGuaranteeArguments cX4_needGuaranteeArguments 4 none, Cond.methodLink RX4 62 yX4_needShop, Cond.instanceMethod yX4_needShop, Cond.selects RX4 yX4_needShop yX4_needShop, Cond.code yX4_needShop cX4_needShop 2 none, Cond.classLink RX4 194 "java/lang/IndexOutOfBoundsException", Cond.initialized "java/lang/IndexOutOfBoundsException", Cond.methodLink RX4 121 yX4_isShop, Cond.instanceMethod yX4_isShop, Cond.selects RX4 yX4_isShop yX4_isShop, Cond.code yX4_isShop cX4_isShop 2 (some .boolean), Cond.fieldLink RX4 14 "Mutualledger" "shops" "LMutualledger$Table;", Cond.methodLink RX4 200 yX4_wasShop, Cond.instanceMethod yX4_wasShop, Cond.selects RX4 yX4_wasShop yX4_wasShop, Cond.code yX4_wasShop cX4_wasShop 2 (some .boolean), Cond.fieldLink RX4 45 "Mutualledger" "joined" "I"]
def wsX4_revoke_r2 : List Cond := [Cond.methodLink RX4 145 yX2_get, Cond.instanceMethod yX2_get, Cond.selects RX2 yX2_get yX2_get, Cond.initialized RX2, Cond.code yX2_get cX2_get 4 (some .int), Cond.fieldLink RX2 27 "Mutualledger$Table" "cells" "[I", Cond.methodLink RX2 31 yX2_placeOf, Cond.instanceMethod yX2_placeOf, Cond.selects RX2 yX2_placeOf yX2_placeOf, Cond.code yX2_placeOf cX2_placeOf 4 (some .int), Cond.fieldLink RX2 20 "Mutualledger$Table" "rows" "I", Cond.fieldLink RX2 24 "Mutualledger$Table" "columns" "I", Cond.methodLink RX4 92 yX4_needRange, Cond.static yX4_needRange, Cond.code yX4_needRange cX4_needRange 3 none, Cond.classLink RX4 212 "java/lang/IllegalArgumentException", Cond.initialized "java/lang/IllegalArgumentException", Cond.methodLink RX4 95 yX4_needUnlike, Cond.static yX4_needUnlike, Cond.code yX4_needUnlike cX4_needUnlike 2 none, Cond.methodLink RX4 104 yX4_needBearable, Cond.instanceMethod yX4_needBearable, Cond.selects RX4 yX4_needBearable yX4_needBearable, Cond.code yX4_needBearable cX4_needBearable 3 none]
def wsX4_revoke_r3 : List Cond := [Cond.fieldLink RX4 28 "Mutualledger" "debts" "LMutualledger$Debts;", Cond.methodLink RX4 165 yX0_balanceOf, Cond.instanceMethod yX0_balanceOf, Cond.selects RX0 yX0_balanceOf yX0_balanceOf, Cond.initialized RX0, Cond.code yX0_balanceOf cX0_balanceOf 2 (some .int), Cond.fieldLink RX0 14 "Mutualledger$Debts" "owed" "LMutualledger$Table;", Cond.methodLink RX0 27 yX2_columnSum, Cond.instanceMethod yX2_columnSum, Cond.selects RX2 yX2_columnSum yX2_columnSum, Cond.code yX2_columnSum cX2_columnSum 4 (some .int), Cond.methodLink RX2 34 yX2_get, Cond.methodLink RX0 35 yX2_rowSum, Cond.instanceMethod yX2_rowSum, Cond.selects RX2 yX2_rowSum yX2_rowSum, Cond.code yX2_rowSum cX2_rowSum 4 (some .int), Cond.methodLink RX4 175 yX4_limitOf, Cond.instanceMethod yX4_limitOf, Cond.selects RX4 yX4_limitOf yX4_limitOf, Cond.code yX4_limitOf cX4_limitOf 3 (some .int), Cond.fieldLink RX4 21 "Mutualledger" "trades" "LMutualledger$Trades;", Cond.fieldLink RX4 49 "Mutualledger" "today" "I", Cond.methodLink RX4 221 yX3_amountsSince, Cond.instanceMethod yX3_amountsSince]
def wsX4_revoke_r4 : List Cond := [Cond.selects RX3 yX3_amountsSince yX3_amountsSince, Cond.initialized RX3, Cond.code yX3_amountsSince cX3_amountsSince 6 (some .int), Cond.fieldLink RX3 20 "Mutualledger$Trades" "count" "I", Cond.methodLink RX3 35 yX3_isOf, Cond.instanceMethod yX3_isOf, Cond.selects RX3 yX3_isOf yX3_isOf, Cond.code yX3_isOf cX3_isOf 3 (some .boolean), Cond.methodLink RX3 32 yX3_of, Cond.instanceMethod yX3_of, Cond.selects RX3 yX3_of yX3_of, Cond.code yX3_of cX3_of 3 (some .int), Cond.fieldLink RX3 16 "Mutualledger$Trades" "rows" "LMutualledger$Table;", Cond.methodLink RX3 24 yX2_get, Cond.methodLink RX4 169 yX2_columnSum, Cond.methodLink RX4 172 yX2_rowSum, Cond.methodLink RX4 150 yX2_add, Cond.instanceMethod yX2_add, Cond.selects RX2 yX2_add yX2_add, Cond.code yX2_add cX2_add 4 none, Cond.methodLink RX2 37 yX2_set, Cond.instanceMethod yX2_set, Cond.selects RX2 yX2_set yX2_set, Cond.code yX2_set cX2_set 5 none]
def wsX4_revoke : List Cond := .code yX4_revoke cX4_revoke 4 (some .int) :: ((wsX4_revoke_r1 ++ (wsX4_revoke_r2 ++ (wsX4_revoke_r3 ++ wsX4_revoke_r4))) ++ wsX40 ++ wsX20 ++ wsX00 ++ wsX30 ++ (vx_atS RX4 59 "java/lang/IllegalStateException" ["java/lang/RuntimeException", "java/lang/Exception"]).filter goodWord ++ (vx_atS RX4 198 "java/lang/IndexOutOfBoundsException" ["java/lang/RuntimeException", "java/lang/Exception"]).filter goodWord ++ (vx_atS RX4 216 "java/lang/IllegalArgumentException" ["java/lang/RuntimeException", "java/lang/Exception"]).filter goodWord)
def wsX4_fee : List Cond := .code yX4_fee cX4_fee 3 (some .int) :: ([.fieldLink RX4 52 "Mutualledger" "thousandths" "I", .methodLink RX4 92 yX4_needRange, .static yX4_needRange, .initialized RX4, .code yX4_needRange cX4_needRange 3 none, .classLink RX4 212 "java/lang/IllegalArgumentException", .initialized "java/lang/IllegalArgumentException"] ++ wsX40 ++ (vx_atS RX4 216 "java/lang/IllegalArgumentException" ["java/lang/RuntimeException", "java/lang/Exception"]).filter goodWord)
def wsX4_isIdleShop_r1 : List Cond := [Cond.fieldLink RX4 28 "Mutualledger" "debts" "LMutualledger$Debts;", Cond.fieldLink RX4 21 "Mutualledger" "trades" "LMutualledger$Trades;", Cond.fieldLink RX4 49 "Mutualledger" "today" "I", Cond.methodLink RX4 165 yX0_balanceOf, Cond.instanceMethod yX0_balanceOf, Cond.selects RX0 yX0_balanceOf yX0_balanceOf, Cond.initialized RX0, Cond.code yX0_balanceOf cX0_balanceOf 2 (some .int), Cond.fieldLink RX0 14 "Mutualledger$Debts" "owed" "LMutualledger$Table;", Cond.methodLink RX0 27 yX2_columnSum, Cond.instanceMethod yX2_columnSum, Cond.selects RX2 yX2_columnSum yX2_columnSum, Cond.initialized RX2, Cond.code yX2_columnSum cX2_columnSum 4 (some .int), Cond.fieldLink RX2 20 "Mutualledger$Table" "rows" "I", Cond.methodLink RX2 34 yX2_get, Cond.instanceMethod yX2_get, Cond.selects RX2 yX2_get yX2_get, Cond.code yX2_get cX2_get 4 (some .int), Cond.fieldLink RX2 27 "Mutualledger$Table" "cells" "[I", Cond.methodLink RX2 31 yX2_placeOf, Cond.instanceMethod yX2_placeOf, Cond.selects RX2 yX2_placeOf yX2_placeOf, Cond.code yX2_placeOf cX2_placeOf 4 (some .int)]
def wsX4_isIdleShop_r2 : List Cond := [Cond.fieldLink RX2 24 "Mutualledger$Table" "columns" "I", Cond.methodLink RX0 35 yX2_rowSum, Cond.instanceMethod yX2_rowSum, Cond.selects RX2 yX2_rowSum yX2_rowSum, Cond.code yX2_rowSum cX2_rowSum 4 (some .int), Cond.methodLink RX4 224 yX3_hasSince, Cond.instanceMethod yX3_hasSince, Cond.selects RX3 yX3_hasSince yX3_hasSince, Cond.initialized RX3, Cond.code yX3_hasSince cX3_hasSince 4 (some .boolean), Cond.fieldLink RX3 20 "Mutualledger$Trades" "count" "I", Cond.methodLink RX3 35 yX3_isOf, Cond.instanceMethod yX3_isOf, Cond.selects RX3 yX3_isOf yX3_isOf, Cond.code yX3_isOf cX3_isOf 3 (some .boolean), Cond.methodLink RX3 32 yX3_of, Cond.instanceMethod yX3_of, Cond.selects RX3 yX3_of yX3_of, Cond.code yX3_of cX3_of 3 (some .int), Cond.fieldLink RX3 16 "Mutualledger$Trades" "rows" "LMutualledger$Table;", Cond.methodLink RX3 24 yX2_get]
def wsX4_isIdleShop : List Cond := .code yX4_isIdleShop cX4_isIdleShop 2 (some .boolean) :: ((wsX4_isIdleShop_r1 ++ wsX4_isIdleShop_r2) ++ wsX40 ++ wsX00 ++ wsX20 ++ wsX30)
def wsX4_payFee_r1 : List Cond := [Cond.fieldLink RX4 28 "Mutualledger" "debts" "LMutualledger$Debts;", Cond.fieldLink RX4 52 "Mutualledger" "thousandths" "I", Cond.methodLink RX4 129 Lib.Math.min.name, Cond.static Lib.Math.min.name, Cond.initialized "java/lang/Math", Cond.code Lib.Math.min.name Lib.Math.min.code 2 (some .int), Cond.fieldLink RX4 35 "Mutualledger" "givenUp" "LMutualledger$Table;", Cond.methodLink RX4 165 yX0_balanceOf, Cond.instanceMethod yX0_balanceOf, Cond.selects RX0 yX0_balanceOf yX0_balanceOf, Cond.initialized RX0, Cond.code yX0_balanceOf cX0_balanceOf 2 (some .int), Cond.fieldLink RX0 14 "Mutualledger$Debts" "owed" "LMutualledger$Table;", Cond.methodLink RX0 27 yX2_columnSum, Cond.instanceMethod yX2_columnSum, Cond.selects RX2 yX2_columnSum yX2_columnSum, Cond.initialized RX2, Cond.code yX2_columnSum cX2_columnSum 4 (some .int), Cond.fieldLink RX2 20 "Mutualledger$Table" "rows" "I", Cond.methodLink RX2 34 yX2_get, Cond.instanceMethod yX2_get, Cond.selects RX2 yX2_get yX2_get, Cond.code yX2_get cX2_get 4 (some .int), Cond.fieldLink RX2 27 "Mutualledger$Table" "cells" "[I"]
def wsX4_payFee_r2 : List Cond := [Cond.methodLink RX2 31 yX2_placeOf, Cond.instanceMethod yX2_placeOf, Cond.selects RX2 yX2_placeOf yX2_placeOf, Cond.code yX2_placeOf cX2_placeOf 4 (some .int), Cond.fieldLink RX2 24 "Mutualledger$Table" "columns" "I", Cond.methodLink RX0 35 yX2_rowSum, Cond.instanceMethod yX2_rowSum, Cond.selects RX2 yX2_rowSum yX2_rowSum, Cond.code yX2_rowSum cX2_rowSum 4 (some .int), Cond.methodLink RX4 231 yX0_openTo, Cond.instanceMethod yX0_openTo, Cond.selects RX0 yX0_openTo yX0_openTo, Cond.code yX0_openTo cX0_openTo 2 (some .int), Cond.fieldLink RX0 20 "Mutualledger$Debts" "frozenParts" "LMutualledger$Table;", Cond.methodLink RX4 234 yX0_greatestOpenDebtorOf, Cond.instanceMethod yX0_greatestOpenDebtorOf, Cond.selects RX0 yX0_greatestOpenDebtorOf yX0_greatestOpenDebtorOf, Cond.code yX0_greatestOpenDebtorOf cX0_greatestOpenDebtorOf 4 (some .int), Cond.methodLink RX0 38 yX0_open, Cond.instanceMethod yX0_open, Cond.selects RX0 yX0_open yX0_open, Cond.code yX0_open cX0_open 3 (some .int), Cond.methodLink RX0 23 yX2_get, Cond.methodLink RX4 126 yX0_open]
def wsX4_payFee_r3 : List Cond := [Cond.methodLink RX4 107 yX0_more, Cond.instanceMethod yX0_more, Cond.selects RX0 yX0_more yX0_more, Cond.code yX0_more cX0_more 4 none, Cond.methodLink RX0 31 yX2_add, Cond.instanceMethod yX2_add, Cond.selects RX2 yX2_add yX2_add, Cond.code yX2_add cX2_add 4 none, Cond.methodLink RX2 37 yX2_set, Cond.instanceMethod yX2_set, Cond.selects RX2 yX2_set yX2_set, Cond.code yX2_set cX2_set 5 none, Cond.methodLink RX4 150 yX2_add]
def wsX4_payFee : List Cond := .code yX4_payFee cX4_payFee 7 none :: ((wsX4_payFee_r1 ++ (wsX4_payFee_r2 ++ wsX4_payFee_r3)) ++ wsX40 ++ wsX00 ++ wsX20)
def wsX4_payFees_r1 : List Cond := [Cond.methodLink RX4 187 yX4_isIdleShop, Cond.instanceMethod yX4_isIdleShop, Cond.selects RX4 yX4_isIdleShop yX4_isIdleShop, Cond.initialized RX4, Cond.code yX4_isIdleShop cX4_isIdleShop 2 (some .boolean), Cond.fieldLink RX4 28 "Mutualledger" "debts" "LMutualledger$Debts;", Cond.fieldLink RX4 21 "Mutualledger" "trades" "LMutualledger$Trades;", Cond.fieldLink RX4 49 "Mutualledger" "today" "I", Cond.methodLink RX4 165 yX0_balanceOf, Cond.instanceMethod yX0_balanceOf, Cond.selects RX0 yX0_balanceOf yX0_balanceOf, Cond.initialized RX0, Cond.code yX0_balanceOf cX0_balanceOf 2 (some .int), Cond.fieldLink RX0 14 "Mutualledger$Debts" "owed" "LMutualledger$Table;", Cond.methodLink RX0 27 yX2_columnSum, Cond.instanceMethod yX2_columnSum, Cond.selects RX2 yX2_columnSum yX2_columnSum, Cond.initialized RX2, Cond.code yX2_columnSum cX2_columnSum 4 (some .int), Cond.fieldLink RX2 20 "Mutualledger$Table" "rows" "I", Cond.methodLink RX2 34 yX2_get, Cond.instanceMethod yX2_get, Cond.selects RX2 yX2_get yX2_get, Cond.code yX2_get cX2_get 4 (some .int)]
def wsX4_payFees_r2 : List Cond := [Cond.fieldLink RX2 27 "Mutualledger$Table" "cells" "[I", Cond.methodLink RX2 31 yX2_placeOf, Cond.instanceMethod yX2_placeOf, Cond.selects RX2 yX2_placeOf yX2_placeOf, Cond.code yX2_placeOf cX2_placeOf 4 (some .int), Cond.fieldLink RX2 24 "Mutualledger$Table" "columns" "I", Cond.methodLink RX0 35 yX2_rowSum, Cond.instanceMethod yX2_rowSum, Cond.selects RX2 yX2_rowSum yX2_rowSum, Cond.code yX2_rowSum cX2_rowSum 4 (some .int), Cond.methodLink RX4 224 yX3_hasSince, Cond.instanceMethod yX3_hasSince, Cond.selects RX3 yX3_hasSince yX3_hasSince, Cond.initialized RX3, Cond.code yX3_hasSince cX3_hasSince 4 (some .boolean), Cond.fieldLink RX3 20 "Mutualledger$Trades" "count" "I", Cond.methodLink RX3 35 yX3_isOf, Cond.instanceMethod yX3_isOf, Cond.selects RX3 yX3_isOf yX3_isOf, Cond.code yX3_isOf cX3_isOf 3 (some .boolean), Cond.methodLink RX3 32 yX3_of, Cond.instanceMethod yX3_of, Cond.selects RX3 yX3_of yX3_of, Cond.code yX3_of cX3_of 3 (some .int)]
def wsX4_payFees_r3 : List Cond := [Cond.fieldLink RX3 16 "Mutualledger$Trades" "rows" "LMutualledger$Table;", Cond.methodLink RX3 24 yX2_get, Cond.methodLink RX4 228 yX4_payFee, Cond.instanceMethod yX4_payFee, Cond.selects RX4 yX4_payFee yX4_payFee, Cond.code yX4_payFee cX4_payFee 7 none, Cond.fieldLink RX4 52 "Mutualledger" "thousandths" "I", Cond.methodLink RX4 129 Lib.Math.min.name, Cond.static Lib.Math.min.name, Cond.initialized "java/lang/Math", Cond.code Lib.Math.min.name Lib.Math.min.code 2 (some .int), Cond.fieldLink RX4 35 "Mutualledger" "givenUp" "LMutualledger$Table;", Cond.methodLink RX4 231 yX0_openTo, Cond.instanceMethod yX0_openTo, Cond.selects RX0 yX0_openTo yX0_openTo, Cond.code yX0_openTo cX0_openTo 2 (some .int), Cond.fieldLink RX0 20 "Mutualledger$Debts" "frozenParts" "LMutualledger$Table;", Cond.methodLink RX4 234 yX0_greatestOpenDebtorOf, Cond.instanceMethod yX0_greatestOpenDebtorOf, Cond.selects RX0 yX0_greatestOpenDebtorOf yX0_greatestOpenDebtorOf, Cond.code yX0_greatestOpenDebtorOf cX0_greatestOpenDebtorOf 4 (some .int), Cond.methodLink RX0 38 yX0_open, Cond.instanceMethod yX0_open, Cond.selects RX0 yX0_open yX0_open]
def wsX4_payFees_r4 : List Cond := [Cond.code yX0_open cX0_open 3 (some .int), Cond.methodLink RX0 23 yX2_get, Cond.methodLink RX4 126 yX0_open, Cond.methodLink RX4 107 yX0_more, Cond.instanceMethod yX0_more, Cond.selects RX0 yX0_more yX0_more, Cond.code yX0_more cX0_more 4 none, Cond.methodLink RX0 31 yX2_add, Cond.instanceMethod yX2_add, Cond.selects RX2 yX2_add yX2_add, Cond.code yX2_add cX2_add 4 none, Cond.methodLink RX2 37 yX2_set, Cond.instanceMethod yX2_set, Cond.selects RX2 yX2_set yX2_set, Cond.code yX2_set cX2_set 5 none, Cond.methodLink RX4 150 yX2_add]
def wsX4_payFees : List Cond := .code yX4_payFees cX4_payFees 2 none :: ((wsX4_payFees_r1 ++ (wsX4_payFees_r2 ++ (wsX4_payFees_r3 ++ wsX4_payFees_r4))) ++ wsX40 ++ wsX00 ++ wsX20 ++ wsX30)
def wsX4_night_r1 : List Cond := [Cond.fieldLink RX4 41 "Mutualledger" "rings" "LMutualledger$Rings;", Cond.fieldLink RX4 28 "Mutualledger" "debts" "LMutualledger$Debts;", Cond.fieldLink RX4 49 "Mutualledger" "today" "I", Cond.methodLink RX4 92 yX4_needRange, Cond.static yX4_needRange, Cond.initialized RX4, Cond.code yX4_needRange cX4_needRange 3 none, Cond.classLink RX4 212 "java/lang/IllegalArgumentException", Cond.initialized "java/lang/IllegalArgumentException", Cond.methodLink RX4 155 yX1_netAll, Cond.instanceMethod yX1_netAll, Cond.selects RX1 yX1_netAll yX1_netAll, Cond.initialized RX1, Cond.code yX1_netAll cX1_netAll 3 none, Cond.fieldLink RX1 20 "Mutualledger$Rings" "count" "I", Cond.methodLink RX1 28 yX1_find, Cond.instanceMethod yX1_find, Cond.selects RX1 yX1_find yX1_find, Cond.code yX1_find cX1_find 4 (some .boolean), Cond.fieldLink RX1 16 "Mutualledger$Rings" "rows" "LMutualledger$Table;", Cond.methodLink RX1 36 yX2_set, Cond.instanceMethod yX2_set, Cond.selects RX2 yX2_set yX2_set, Cond.initialized RX2]
def wsX4_night_r2 : List Cond := [Cond.code yX2_set cX2_set 5 none, Cond.fieldLink RX2 27 "Mutualledger$Table" "cells" "[I", Cond.methodLink RX2 31 yX2_placeOf, Cond.instanceMethod yX2_placeOf, Cond.selects RX2 yX2_placeOf yX2_placeOf, Cond.code yX2_placeOf cX2_placeOf 4 (some .int), Cond.fieldLink RX2 20 "Mutualledger$Table" "rows" "I", Cond.fieldLink RX2 24 "Mutualledger$Table" "columns" "I", Cond.methodLink RX1 40 yX1_setShopAt, Cond.instanceMethod yX1_setShopAt, Cond.selects RX1 yX1_setShopAt yX1_setShopAt, Cond.code yX1_setShopAt cX1_setShopAt 3 none, Cond.methodLink RX1 43 yX1_closes, Cond.static yX1_closes, Cond.code yX1_closes cX1_closes 7 (some .boolean), Cond.methodLink RX1 47 yX1_shopAt, Cond.instanceMethod yX1_shopAt, Cond.selects RX1 yX1_shopAt yX1_shopAt, Cond.code yX1_shopAt cX1_shopAt 2 (some .int), Cond.methodLink RX1 24 yX2_get, Cond.instanceMethod yX2_get, Cond.selects RX2 yX2_get yX2_get, Cond.code yX2_get cX2_get 4 (some .int), Cond.methodLink RX1 51 yX0_open]
def wsX4_night_r3 : List Cond := [Cond.instanceMethod yX0_open, Cond.selects RX0 yX0_open yX0_open, Cond.initialized RX0, Cond.code yX0_open cX0_open 3 (some .int), Cond.fieldLink RX0 14 "Mutualledger$Debts" "owed" "LMutualledger$Table;", Cond.fieldLink RX0 20 "Mutualledger$Debts" "frozenParts" "LMutualledger$Table;", Cond.methodLink RX0 23 yX2_get, Cond.methodLink RX1 56 yX1_isSet, Cond.instanceMethod yX1_isSet, Cond.selects RX1 yX1_isSet yX1_isSet, Cond.code yX1_isSet cX1_isSet 4 (some .boolean), Cond.methodLink RX1 32 yX1_net, Cond.instanceMethod yX1_net, Cond.selects RX1 yX1_net yX1_net, Cond.code yX1_net cX1_net 5 none, Cond.methodLink RX1 60 Lib.Math.min.name, Cond.static Lib.Math.min.name, Cond.initialized "java/lang/Math", Cond.code Lib.Math.min.name Lib.Math.min.code 2 (some .int), Cond.methodLink RX1 65 yX0_more, Cond.instanceMethod yX0_more, Cond.selects RX0 yX0_more yX0_more, Cond.code yX0_more cX0_more 4 none, Cond.methodLink RX0 31 yX2_add]
def wsX4_night_r4 : List Cond := [Cond.instanceMethod yX2_add, Cond.selects RX2 yX2_add yX2_add, Cond.code yX2_add cX2_add 4 none, Cond.methodLink RX2 34 yX2_get, Cond.methodLink RX2 37 yX2_set, Cond.methodLink RX4 159 yX4_payFees, Cond.instanceMethod yX4_payFees, Cond.selects RX4 yX4_payFees yX4_payFees, Cond.code yX4_payFees cX4_payFees 2 none, Cond.methodLink RX4 187 yX4_isIdleShop, Cond.instanceMethod yX4_isIdleShop, Cond.selects RX4 yX4_isIdleShop yX4_isIdleShop, Cond.code yX4_isIdleShop cX4_isIdleShop 2 (some .boolean), Cond.fieldLink RX4 21 "Mutualledger" "trades" "LMutualledger$Trades;", Cond.methodLink RX4 165 yX0_balanceOf, Cond.instanceMethod yX0_balanceOf, Cond.selects RX0 yX0_balanceOf yX0_balanceOf, Cond.code yX0_balanceOf cX0_balanceOf 2 (some .int), Cond.methodLink RX0 27 yX2_columnSum, Cond.instanceMethod yX2_columnSum, Cond.selects RX2 yX2_columnSum yX2_columnSum, Cond.code yX2_columnSum cX2_columnSum 4 (some .int), Cond.methodLink RX0 35 yX2_rowSum, Cond.instanceMethod yX2_rowSum]
def wsX4_night_r5 : List Cond := [Cond.selects RX2 yX2_rowSum yX2_rowSum, Cond.code yX2_rowSum cX2_rowSum 4 (some .int), Cond.methodLink RX4 224 yX3_hasSince, Cond.instanceMethod yX3_hasSince, Cond.selects RX3 yX3_hasSince yX3_hasSince, Cond.initialized RX3, Cond.code yX3_hasSince cX3_hasSince 4 (some .boolean), Cond.fieldLink RX3 20 "Mutualledger$Trades" "count" "I", Cond.methodLink RX3 35 yX3_isOf, Cond.instanceMethod yX3_isOf, Cond.selects RX3 yX3_isOf yX3_isOf, Cond.code yX3_isOf cX3_isOf 3 (some .boolean), Cond.methodLink RX3 32 yX3_of, Cond.instanceMethod yX3_of, Cond.selects RX3 yX3_of yX3_of, Cond.code yX3_of cX3_of 3 (some .int), Cond.fieldLink RX3 16 "Mutualledger$Trades" "rows" "LMutualledger$Table;", Cond.methodLink RX3 24 yX2_get, Cond.methodLink RX4 228 yX4_payFee, Cond.instanceMethod yX4_payFee, Cond.selects RX4 yX4_payFee yX4_payFee, Cond.code yX4_payFee cX4_payFee 7 none, Cond.fieldLink RX4 52 "Mutualledger" "thousandths" "I", Cond.methodLink RX4 129 Lib.Math.min.name]
def wsX4_night_r6 : List Cond := [Cond.fieldLink RX4 35 "Mutualledger" "givenUp" "LMutualledger$Table;", Cond.methodLink RX4 231 yX0_openTo, Cond.instanceMethod yX0_openTo, Cond.selects RX0 yX0_openTo yX0_openTo, Cond.code yX0_openTo cX0_openTo 2 (some .int), Cond.methodLink RX4 234 yX0_greatestOpenDebtorOf, Cond.instanceMethod yX0_greatestOpenDebtorOf, Cond.selects RX0 yX0_greatestOpenDebtorOf yX0_greatestOpenDebtorOf, Cond.code yX0_greatestOpenDebtorOf cX0_greatestOpenDebtorOf 4 (some .int), Cond.methodLink RX0 38 yX0_open, Cond.methodLink RX4 126 yX0_open, Cond.methodLink RX4 107 yX0_more, Cond.methodLink RX4 150 yX2_add]
def wsX4_night : List Cond := .code yX4_night cX4_night 3 (some .int) :: ((wsX4_night_r1 ++ (wsX4_night_r2 ++ (wsX4_night_r3 ++ (wsX4_night_r4 ++ (wsX4_night_r5 ++ wsX4_night_r6))))) ++ wsX40 ++ wsX10 ++ wsX20 ++ wsX00 ++ wsX30 ++ (vx_atS RX4 216 "java/lang/IllegalArgumentException" ["java/lang/RuntimeException", "java/lang/Exception"]).filter goodWord)
def wsX4_needShopEver : List Cond := .code yX4_needShopEver cX4_needShopEver 2 none :: ([.classLink RX4 194 "java/lang/IndexOutOfBoundsException", .initialized "java/lang/IndexOutOfBoundsException", .methodLink RX4 200 yX4_wasShop, .instanceMethod yX4_wasShop, .selects RX4 yX4_wasShop yX4_wasShop, .initialized RX4, .code yX4_wasShop cX4_wasShop 2 (some .boolean), .fieldLink RX4 45 "Mutualledger" "joined" "I"] ++ wsX40 ++ (vx_atS RX4 198 "java/lang/IndexOutOfBoundsException" ["java/lang/RuntimeException", "java/lang/Exception"]).filter goodWord)
def wsX4_needShopEverOrHouse : List Cond := .code yX4_needShopEverOrHouse cX4_needShopEverOrHouse 2 none :: ([.methodLink RX4 178 yX4_needShopEver, .instanceMethod yX4_needShopEver, .selects RX4 yX4_needShopEver yX4_needShopEver, .initialized RX4, .code yX4_needShopEver cX4_needShopEver 2 none, .classLink RX4 194 "java/lang/IndexOutOfBoundsException", .initialized "java/lang/IndexOutOfBoundsException", .methodLink RX4 200 yX4_wasShop, .instanceMethod yX4_wasShop, .selects RX4 yX4_wasShop yX4_wasShop, .code yX4_wasShop cX4_wasShop 2 (some .boolean), .fieldLink RX4 45 "Mutualledger" "joined" "I"] ++ wsX40 ++ (vx_atS RX4 198 "java/lang/IndexOutOfBoundsException" ["java/lang/RuntimeException", "java/lang/Exception"]).filter goodWord)
def wsX4_balance_r1 : List Cond := [Cond.fieldLink RX4 28 "Mutualledger" "debts" "LMutualledger$Debts;", Cond.methodLink RX4 162 yX4_needShopEverOrHouse, Cond.instanceMethod yX4_needShopEverOrHouse, Cond.selects RX4 yX4_needShopEverOrHouse yX4_needShopEverOrHouse, Cond.initialized RX4, Cond.code yX4_needShopEverOrHouse cX4_needShopEverOrHouse 2 none, Cond.methodLink RX4 178 yX4_needShopEver, Cond.instanceMethod yX4_needShopEver, Cond.selects RX4 yX4_needShopEver yX4_needShopEver, Cond.code yX4_needShopEver cX4_needShopEver 2 none, Cond.classLink RX4 194 "java/lang/IndexOutOfBoundsException", Cond.initialized "java/lang/IndexOutOfBoundsException", Cond.methodLink RX4 200 yX4_wasShop, Cond.instanceMethod yX4_wasShop, Cond.selects RX4 yX4_wasShop yX4_wasShop, Cond.code yX4_wasShop cX4_wasShop 2 (some .boolean), Cond.fieldLink RX4 45 "Mutualledger" "joined" "I", Cond.methodLink RX4 165 yX0_balanceOf, Cond.instanceMethod yX0_balanceOf, Cond.selects RX0 yX0_balanceOf yX0_balanceOf, Cond.initialized RX0, Cond.code yX0_balanceOf cX0_balanceOf 2 (some .int), Cond.fieldLink RX0 14 "Mutualledger$Debts" "owed" "LMutualledger$Table;", Cond.methodLink RX0 27 yX2_columnSum]
def wsX4_balance_r2 : List Cond := [Cond.instanceMethod yX2_columnSum, Cond.selects RX2 yX2_columnSum yX2_columnSum, Cond.initialized RX2, Cond.code yX2_columnSum cX2_columnSum 4 (some .int), Cond.fieldLink RX2 20 "Mutualledger$Table" "rows" "I", Cond.methodLink RX2 34 yX2_get, Cond.instanceMethod yX2_get, Cond.selects RX2 yX2_get yX2_get, Cond.code yX2_get cX2_get 4 (some .int), Cond.fieldLink RX2 27 "Mutualledger$Table" "cells" "[I", Cond.methodLink RX2 31 yX2_placeOf, Cond.instanceMethod yX2_placeOf, Cond.selects RX2 yX2_placeOf yX2_placeOf, Cond.code yX2_placeOf cX2_placeOf 4 (some .int), Cond.fieldLink RX2 24 "Mutualledger$Table" "columns" "I", Cond.methodLink RX0 35 yX2_rowSum, Cond.instanceMethod yX2_rowSum, Cond.selects RX2 yX2_rowSum yX2_rowSum, Cond.code yX2_rowSum cX2_rowSum 4 (some .int)]
def wsX4_balance : List Cond := .code yX4_balance cX4_balance 2 (some .int) :: ((wsX4_balance_r1 ++ wsX4_balance_r2) ++ wsX40 ++ wsX00 ++ wsX20 ++ (vx_atS RX4 198 "java/lang/IndexOutOfBoundsException" ["java/lang/RuntimeException", "java/lang/Exception"]).filter goodWord)
def wsX4_balanceAnew_r1 : List Cond := [Cond.fieldLink RX4 21 "Mutualledger" "trades" "LMutualledger$Trades;", Cond.fieldLink RX4 35 "Mutualledger" "givenUp" "LMutualledger$Table;", Cond.methodLink RX4 162 yX4_needShopEverOrHouse, Cond.instanceMethod yX4_needShopEverOrHouse, Cond.selects RX4 yX4_needShopEverOrHouse yX4_needShopEverOrHouse, Cond.initialized RX4, Cond.code yX4_needShopEverOrHouse cX4_needShopEverOrHouse 2 none, Cond.methodLink RX4 178 yX4_needShopEver, Cond.instanceMethod yX4_needShopEver, Cond.selects RX4 yX4_needShopEver yX4_needShopEver, Cond.code yX4_needShopEver cX4_needShopEver 2 none, Cond.classLink RX4 194 "java/lang/IndexOutOfBoundsException", Cond.initialized "java/lang/IndexOutOfBoundsException", Cond.methodLink RX4 200 yX4_wasShop, Cond.instanceMethod yX4_wasShop, Cond.selects RX4 yX4_wasShop yX4_wasShop, Cond.code yX4_wasShop cX4_wasShop 2 (some .boolean), Cond.fieldLink RX4 45 "Mutualledger" "joined" "I", Cond.methodLink RX4 168 yX3_balanceOf, Cond.instanceMethod yX3_balanceOf, Cond.selects RX3 yX3_balanceOf yX3_balanceOf, Cond.initialized RX3, Cond.code yX3_balanceOf cX3_balanceOf 4 (some .int), Cond.fieldLink RX3 20 "Mutualledger$Trades" "count" "I"]
def wsX4_balanceAnew_r2 : List Cond := [Cond.methodLink RX3 32 yX3_of, Cond.instanceMethod yX3_of, Cond.selects RX3 yX3_of yX3_of, Cond.code yX3_of cX3_of 3 (some .int), Cond.fieldLink RX3 16 "Mutualledger$Trades" "rows" "LMutualledger$Table;", Cond.methodLink RX3 24 yX2_get, Cond.instanceMethod yX2_get, Cond.selects RX2 yX2_get yX2_get, Cond.initialized RX2, Cond.code yX2_get cX2_get 4 (some .int), Cond.fieldLink RX2 27 "Mutualledger$Table" "cells" "[I", Cond.methodLink RX2 31 yX2_placeOf, Cond.instanceMethod yX2_placeOf, Cond.selects RX2 yX2_placeOf yX2_placeOf, Cond.code yX2_placeOf cX2_placeOf 4 (some .int), Cond.fieldLink RX2 20 "Mutualledger$Table" "rows" "I", Cond.fieldLink RX2 24 "Mutualledger$Table" "columns" "I", Cond.methodLink RX4 169 yX2_columnSum, Cond.instanceMethod yX2_columnSum, Cond.selects RX2 yX2_columnSum yX2_columnSum, Cond.code yX2_columnSum cX2_columnSum 4 (some .int), Cond.methodLink RX2 34 yX2_get, Cond.methodLink RX4 172 yX2_rowSum, Cond.instanceMethod yX2_rowSum]
def wsX4_balanceAnew_r3 : List Cond := [Cond.selects RX2 yX2_rowSum yX2_rowSum, Cond.code yX2_rowSum cX2_rowSum 4 (some .int)]
def wsX4_balanceAnew : List Cond := .code yX4_balanceAnew cX4_balanceAnew 2 (some .int) :: ((wsX4_balanceAnew_r1 ++ (wsX4_balanceAnew_r2 ++ wsX4_balanceAnew_r3)) ++ wsX40 ++ wsX30 ++ wsX20 ++ (vx_atS RX4 198 "java/lang/IndexOutOfBoundsException" ["java/lang/RuntimeException", "java/lang/Exception"]).filter goodWord)
def wsX4_limit_r1 : List Cond := [Cond.methodLink RX4 62 yX4_needShop, Cond.instanceMethod yX4_needShop, Cond.selects RX4 yX4_needShop yX4_needShop, Cond.initialized RX4, Cond.code yX4_needShop cX4_needShop 2 none, Cond.classLink RX4 194 "java/lang/IndexOutOfBoundsException", Cond.initialized "java/lang/IndexOutOfBoundsException", Cond.methodLink RX4 121 yX4_isShop, Cond.instanceMethod yX4_isShop, Cond.selects RX4 yX4_isShop yX4_isShop, Cond.code yX4_isShop cX4_isShop 2 (some .boolean), Cond.fieldLink RX4 14 "Mutualledger" "shops" "LMutualledger$Table;", Cond.methodLink RX4 200 yX4_wasShop, Cond.instanceMethod yX4_wasShop, Cond.selects RX4 yX4_wasShop yX4_wasShop, Cond.code yX4_wasShop cX4_wasShop 2 (some .boolean), Cond.fieldLink RX4 45 "Mutualledger" "joined" "I", Cond.methodLink RX4 145 yX2_get, Cond.instanceMethod yX2_get, Cond.selects RX2 yX2_get yX2_get, Cond.initialized RX2, Cond.code yX2_get cX2_get 4 (some .int), Cond.fieldLink RX2 27 "Mutualledger$Table" "cells" "[I", Cond.methodLink RX2 31 yX2_placeOf]
def wsX4_limit_r2 : List Cond := [Cond.instanceMethod yX2_placeOf, Cond.selects RX2 yX2_placeOf yX2_placeOf, Cond.code yX2_placeOf cX2_placeOf 4 (some .int), Cond.fieldLink RX2 20 "Mutualledger$Table" "rows" "I", Cond.fieldLink RX2 24 "Mutualledger$Table" "columns" "I", Cond.methodLink RX4 175 yX4_limitOf, Cond.instanceMethod yX4_limitOf, Cond.selects RX4 yX4_limitOf yX4_limitOf, Cond.code yX4_limitOf cX4_limitOf 3 (some .int), Cond.fieldLink RX4 21 "Mutualledger" "trades" "LMutualledger$Trades;", Cond.fieldLink RX4 49 "Mutualledger" "today" "I", Cond.fieldLink RX4 32 "Mutualledger" "guarantees" "LMutualledger$Table;", Cond.methodLink RX4 221 yX3_amountsSince, Cond.instanceMethod yX3_amountsSince, Cond.selects RX3 yX3_amountsSince yX3_amountsSince, Cond.initialized RX3, Cond.code yX3_amountsSince cX3_amountsSince 6 (some .int), Cond.fieldLink RX3 20 "Mutualledger$Trades" "count" "I", Cond.methodLink RX3 35 yX3_isOf, Cond.instanceMethod yX3_isOf, Cond.selects RX3 yX3_isOf yX3_isOf, Cond.code yX3_isOf cX3_isOf 3 (some .boolean), Cond.methodLink RX3 32 yX3_of, Cond.instanceMethod yX3_of]
def wsX4_limit_r3 : List Cond := [Cond.selects RX3 yX3_of yX3_of, Cond.code yX3_of cX3_of 3 (some .int), Cond.fieldLink RX3 16 "Mutualledger$Trades" "rows" "LMutualledger$Table;", Cond.methodLink RX3 24 yX2_get, Cond.methodLink RX4 169 yX2_columnSum, Cond.instanceMethod yX2_columnSum, Cond.selects RX2 yX2_columnSum yX2_columnSum, Cond.code yX2_columnSum cX2_columnSum 4 (some .int), Cond.methodLink RX2 34 yX2_get, Cond.methodLink RX4 172 yX2_rowSum, Cond.instanceMethod yX2_rowSum, Cond.selects RX2 yX2_rowSum yX2_rowSum, Cond.code yX2_rowSum cX2_rowSum 4 (some .int)]
def wsX4_limit : List Cond := .code yX4_limit cX4_limit 2 (some .int) :: ((wsX4_limit_r1 ++ (wsX4_limit_r2 ++ wsX4_limit_r3)) ++ wsX40 ++ wsX20 ++ wsX30 ++ (vx_atS RX4 198 "java/lang/IndexOutOfBoundsException" ["java/lang/RuntimeException", "java/lang/Exception"]).filter goodWord)
def wsX4_owes_r1 : List Cond := [Cond.fieldLink RX4 28 "Mutualledger" "debts" "LMutualledger$Debts;", Cond.methodLink RX4 178 yX4_needShopEver, Cond.instanceMethod yX4_needShopEver, Cond.selects RX4 yX4_needShopEver yX4_needShopEver, Cond.initialized RX4, Cond.code yX4_needShopEver cX4_needShopEver 2 none, Cond.classLink RX4 194 "java/lang/IndexOutOfBoundsException", Cond.initialized "java/lang/IndexOutOfBoundsException", Cond.methodLink RX4 200 yX4_wasShop, Cond.instanceMethod yX4_wasShop, Cond.selects RX4 yX4_wasShop yX4_wasShop, Cond.code yX4_wasShop cX4_wasShop 2 (some .boolean), Cond.fieldLink RX4 45 "Mutualledger" "joined" "I", Cond.methodLink RX4 162 yX4_needShopEverOrHouse, Cond.instanceMethod yX4_needShopEverOrHouse, Cond.selects RX4 yX4_needShopEverOrHouse yX4_needShopEverOrHouse, Cond.code yX4_needShopEverOrHouse cX4_needShopEverOrHouse 2 none, Cond.methodLink RX4 181 yX0_owed, Cond.instanceMethod yX0_owed, Cond.selects RX0 yX0_owed yX0_owed, Cond.initialized RX0, Cond.code yX0_owed cX0_owed 3 (some .int), Cond.fieldLink RX0 14 "Mutualledger$Debts" "owed" "LMutualledger$Table;", Cond.methodLink RX0 23 yX2_get]
def wsX4_owes_r2 : List Cond := [Cond.instanceMethod yX2_get, Cond.selects RX2 yX2_get yX2_get, Cond.initialized RX2, Cond.code yX2_get cX2_get 4 (some .int), Cond.fieldLink RX2 27 "Mutualledger$Table" "cells" "[I", Cond.methodLink RX2 31 yX2_placeOf, Cond.instanceMethod yX2_placeOf, Cond.selects RX2 yX2_placeOf yX2_placeOf, Cond.code yX2_placeOf cX2_placeOf 4 (some .int), Cond.fieldLink RX2 20 "Mutualledger$Table" "rows" "I", Cond.fieldLink RX2 24 "Mutualledger$Table" "columns" "I"]
def wsX4_owes : List Cond := .code yX4_owes cX4_owes 3 (some .int) :: ((wsX4_owes_r1 ++ wsX4_owes_r2) ++ wsX40 ++ wsX00 ++ wsX20 ++ (vx_atS RX4 198 "java/lang/IndexOutOfBoundsException" ["java/lang/RuntimeException", "java/lang/Exception"]).filter goodWord)
def wsX4_frozen_r1 : List Cond := [Cond.fieldLink RX4 28 "Mutualledger" "debts" "LMutualledger$Debts;", Cond.methodLink RX4 178 yX4_needShopEver, Cond.instanceMethod yX4_needShopEver, Cond.selects RX4 yX4_needShopEver yX4_needShopEver, Cond.initialized RX4, Cond.code yX4_needShopEver cX4_needShopEver 2 none, Cond.classLink RX4 194 "java/lang/IndexOutOfBoundsException", Cond.initialized "java/lang/IndexOutOfBoundsException", Cond.methodLink RX4 200 yX4_wasShop, Cond.instanceMethod yX4_wasShop, Cond.selects RX4 yX4_wasShop yX4_wasShop, Cond.code yX4_wasShop cX4_wasShop 2 (some .boolean), Cond.fieldLink RX4 45 "Mutualledger" "joined" "I", Cond.methodLink RX4 184 yX0_frozenPart, Cond.instanceMethod yX0_frozenPart, Cond.selects RX0 yX0_frozenPart yX0_frozenPart, Cond.initialized RX0, Cond.code yX0_frozenPart cX0_frozenPart 3 (some .int), Cond.fieldLink RX0 20 "Mutualledger$Debts" "frozenParts" "LMutualledger$Table;", Cond.methodLink RX0 23 yX2_get, Cond.instanceMethod yX2_get, Cond.selects RX2 yX2_get yX2_get, Cond.initialized RX2, Cond.code yX2_get cX2_get 4 (some .int)]
def wsX4_frozen_r2 : List Cond := [Cond.fieldLink RX2 27 "Mutualledger$Table" "cells" "[I", Cond.methodLink RX2 31 yX2_placeOf, Cond.instanceMethod yX2_placeOf, Cond.selects RX2 yX2_placeOf yX2_placeOf, Cond.code yX2_placeOf cX2_placeOf 4 (some .int), Cond.fieldLink RX2 20 "Mutualledger$Table" "rows" "I", Cond.fieldLink RX2 24 "Mutualledger$Table" "columns" "I"]
def wsX4_frozen : List Cond := .code yX4_frozen cX4_frozen 3 (some .int) :: ((wsX4_frozen_r1 ++ wsX4_frozen_r2) ++ wsX40 ++ wsX00 ++ wsX20 ++ (vx_atS RX4 198 "java/lang/IndexOutOfBoundsException" ["java/lang/RuntimeException", "java/lang/Exception"]).filter goodWord)
def wsX4_ofTrade_r1 : List Cond := [Cond.fieldLink RX4 21 "Mutualledger" "trades" "LMutualledger$Trades;", Cond.methodLink RX4 114 yX4_needTrade, Cond.instanceMethod yX4_needTrade, Cond.selects RX4 yX4_needTrade yX4_needTrade, Cond.initialized RX4, Cond.code yX4_needTrade cX4_needTrade 2 none, Cond.classLink RX4 194 "java/lang/IndexOutOfBoundsException", Cond.initialized "java/lang/IndexOutOfBoundsException", Cond.methodLink RX4 207 yX3_has, Cond.instanceMethod yX3_has, Cond.selects RX3 yX3_has yX3_has, Cond.initialized RX3, Cond.code yX3_has cX3_has 2 (some .boolean), Cond.fieldLink RX3 20 "Mutualledger$Trades" "count" "I", Cond.methodLink RX4 92 yX4_needRange, Cond.static yX4_needRange, Cond.code yX4_needRange cX4_needRange 3 none, Cond.classLink RX4 212 "java/lang/IllegalArgumentException", Cond.initialized "java/lang/IllegalArgumentException", Cond.methodLink RX4 117 yX3_of, Cond.instanceMethod yX3_of, Cond.selects RX3 yX3_of yX3_of, Cond.code yX3_of cX3_of 3 (some .int), Cond.fieldLink RX3 16 "Mutualledger$Trades" "rows" "LMutualledger$Table;"]
def wsX4_ofTrade_r2 : List Cond := [Cond.methodLink RX3 24 yX2_get, Cond.instanceMethod yX2_get, Cond.selects RX2 yX2_get yX2_get, Cond.initialized RX2, Cond.code yX2_get cX2_get 4 (some .int), Cond.fieldLink RX2 27 "Mutualledger$Table" "cells" "[I", Cond.methodLink RX2 31 yX2_placeOf, Cond.instanceMethod yX2_placeOf, Cond.selects RX2 yX2_placeOf yX2_placeOf, Cond.code yX2_placeOf cX2_placeOf 4 (some .int), Cond.fieldLink RX2 20 "Mutualledger$Table" "rows" "I", Cond.fieldLink RX2 24 "Mutualledger$Table" "columns" "I"]
def wsX4_ofTrade : List Cond := .code yX4_ofTrade cX4_ofTrade 3 (some .int) :: ((wsX4_ofTrade_r1 ++ wsX4_ofTrade_r2) ++ wsX40 ++ wsX30 ++ wsX20 ++ (vx_atS RX4 198 "java/lang/IndexOutOfBoundsException" ["java/lang/RuntimeException", "java/lang/Exception"]).filter goodWord ++ (vx_atS RX4 216 "java/lang/IllegalArgumentException" ["java/lang/RuntimeException", "java/lang/Exception"]).filter goodWord)
def wsX4_guaranteed_r1 : List Cond := [Cond.fieldLink RX4 32 "Mutualledger" "guarantees" "LMutualledger$Table;", Cond.methodLink RX4 178 yX4_needShopEver, Cond.instanceMethod yX4_needShopEver, Cond.selects RX4 yX4_needShopEver yX4_needShopEver, Cond.initialized RX4, Cond.code yX4_needShopEver cX4_needShopEver 2 none, Cond.classLink RX4 194 "java/lang/IndexOutOfBoundsException", Cond.initialized "java/lang/IndexOutOfBoundsException", Cond.methodLink RX4 200 yX4_wasShop, Cond.instanceMethod yX4_wasShop, Cond.selects RX4 yX4_wasShop yX4_wasShop, Cond.code yX4_wasShop cX4_wasShop 2 (some .boolean), Cond.fieldLink RX4 45 "Mutualledger" "joined" "I", Cond.methodLink RX4 145 yX2_get, Cond.instanceMethod yX2_get, Cond.selects RX2 yX2_get yX2_get, Cond.initialized RX2, Cond.code yX2_get cX2_get 4 (some .int), Cond.fieldLink RX2 27 "Mutualledger$Table" "cells" "[I", Cond.methodLink RX2 31 yX2_placeOf, Cond.instanceMethod yX2_placeOf, Cond.selects RX2 yX2_placeOf yX2_placeOf, Cond.code yX2_placeOf cX2_placeOf 4 (some .int), Cond.fieldLink RX2 20 "Mutualledger$Table" "rows" "I"]
def wsX4_guaranteed_r2 : List Cond := [Cond.fieldLink RX2 24 "Mutualledger$Table" "columns" "I"]
def wsX4_guaranteed : List Cond := .code yX4_guaranteed cX4_guaranteed 3 (some .int) :: ((wsX4_guaranteed_r1 ++ wsX4_guaranteed_r2) ++ wsX40 ++ wsX20 ++ (vx_atS RX4 198 "java/lang/IndexOutOfBoundsException" ["java/lang/RuntimeException", "java/lang/Exception"]).filter goodWord)
def wsX4_goods_r1 : List Cond := [Cond.fieldLink RX4 14 "Mutualledger" "shops" "LMutualledger$Table;", Cond.methodLink RX4 178 yX4_needShopEver, Cond.instanceMethod yX4_needShopEver, Cond.selects RX4 yX4_needShopEver yX4_needShopEver, Cond.initialized RX4, Cond.code yX4_needShopEver cX4_needShopEver 2 none, Cond.classLink RX4 194 "java/lang/IndexOutOfBoundsException", Cond.initialized "java/lang/IndexOutOfBoundsException", Cond.methodLink RX4 200 yX4_wasShop, Cond.instanceMethod yX4_wasShop, Cond.selects RX4 yX4_wasShop yX4_wasShop, Cond.code yX4_wasShop cX4_wasShop 2 (some .boolean), Cond.fieldLink RX4 45 "Mutualledger" "joined" "I", Cond.methodLink RX4 145 yX2_get, Cond.instanceMethod yX2_get, Cond.selects RX2 yX2_get yX2_get, Cond.initialized RX2, Cond.code yX2_get cX2_get 4 (some .int), Cond.fieldLink RX2 27 "Mutualledger$Table" "cells" "[I", Cond.methodLink RX2 31 yX2_placeOf, Cond.instanceMethod yX2_placeOf, Cond.selects RX2 yX2_placeOf yX2_placeOf, Cond.code yX2_placeOf cX2_placeOf 4 (some .int), Cond.fieldLink RX2 20 "Mutualledger$Table" "rows" "I"]
def wsX4_goods_r2 : List Cond := [Cond.fieldLink RX2 24 "Mutualledger$Table" "columns" "I"]
def wsX4_goods : List Cond := .code yX4_goods cX4_goods 2 (some .int) :: ((wsX4_goods_r1 ++ wsX4_goods_r2) ++ wsX40 ++ wsX20 ++ (vx_atS RX4 198 "java/lang/IndexOutOfBoundsException" ["java/lang/RuntimeException", "java/lang/Exception"]).filter goodWord)
def wsX4_isIdle_r1 : List Cond := [Cond.methodLink RX4 62 yX4_needShop, Cond.instanceMethod yX4_needShop, Cond.selects RX4 yX4_needShop yX4_needShop, Cond.initialized RX4, Cond.code yX4_needShop cX4_needShop 2 none, Cond.classLink RX4 194 "java/lang/IndexOutOfBoundsException", Cond.initialized "java/lang/IndexOutOfBoundsException", Cond.methodLink RX4 121 yX4_isShop, Cond.instanceMethod yX4_isShop, Cond.selects RX4 yX4_isShop yX4_isShop, Cond.code yX4_isShop cX4_isShop 2 (some .boolean), Cond.fieldLink RX4 14 "Mutualledger" "shops" "LMutualledger$Table;", Cond.methodLink RX4 200 yX4_wasShop, Cond.instanceMethod yX4_wasShop, Cond.selects RX4 yX4_wasShop yX4_wasShop, Cond.code yX4_wasShop cX4_wasShop 2 (some .boolean), Cond.fieldLink RX4 45 "Mutualledger" "joined" "I", Cond.methodLink RX4 145 yX2_get, Cond.instanceMethod yX2_get, Cond.selects RX2 yX2_get yX2_get, Cond.initialized RX2, Cond.code yX2_get cX2_get 4 (some .int), Cond.fieldLink RX2 27 "Mutualledger$Table" "cells" "[I", Cond.methodLink RX2 31 yX2_placeOf]
def wsX4_isIdle_r2 : List Cond := [Cond.instanceMethod yX2_placeOf, Cond.selects RX2 yX2_placeOf yX2_placeOf, Cond.code yX2_placeOf cX2_placeOf 4 (some .int), Cond.fieldLink RX2 20 "Mutualledger$Table" "rows" "I", Cond.fieldLink RX2 24 "Mutualledger$Table" "columns" "I", Cond.methodLink RX4 187 yX4_isIdleShop, Cond.instanceMethod yX4_isIdleShop, Cond.selects RX4 yX4_isIdleShop yX4_isIdleShop, Cond.code yX4_isIdleShop cX4_isIdleShop 2 (some .boolean), Cond.fieldLink RX4 28 "Mutualledger" "debts" "LMutualledger$Debts;", Cond.fieldLink RX4 21 "Mutualledger" "trades" "LMutualledger$Trades;", Cond.fieldLink RX4 49 "Mutualledger" "today" "I", Cond.methodLink RX4 165 yX0_balanceOf, Cond.instanceMethod yX0_balanceOf, Cond.selects RX0 yX0_balanceOf yX0_balanceOf, Cond.initialized RX0, Cond.code yX0_balanceOf cX0_balanceOf 2 (some .int), Cond.fieldLink RX0 14 "Mutualledger$Debts" "owed" "LMutualledger$Table;", Cond.methodLink RX0 27 yX2_columnSum, Cond.instanceMethod yX2_columnSum, Cond.selects RX2 yX2_columnSum yX2_columnSum, Cond.code yX2_columnSum cX2_columnSum 4 (some .int), Cond.methodLink RX2 34 yX2_get, Cond.methodLink RX0 35 yX2_rowSum]
def wsX4_isIdle_r3 : List Cond := [Cond.instanceMethod yX2_rowSum, Cond.selects RX2 yX2_rowSum yX2_rowSum, Cond.code yX2_rowSum cX2_rowSum 4 (some .int), Cond.methodLink RX4 224 yX3_hasSince, Cond.instanceMethod yX3_hasSince, Cond.selects RX3 yX3_hasSince yX3_hasSince, Cond.initialized RX3, Cond.code yX3_hasSince cX3_hasSince 4 (some .boolean), Cond.fieldLink RX3 20 "Mutualledger$Trades" "count" "I", Cond.methodLink RX3 35 yX3_isOf, Cond.instanceMethod yX3_isOf, Cond.selects RX3 yX3_isOf yX3_isOf, Cond.code yX3_isOf cX3_isOf 3 (some .boolean), Cond.methodLink RX3 32 yX3_of, Cond.instanceMethod yX3_of, Cond.selects RX3 yX3_of yX3_of, Cond.code yX3_of cX3_of 3 (some .int), Cond.fieldLink RX3 16 "Mutualledger$Trades" "rows" "LMutualledger$Table;", Cond.methodLink RX3 24 yX2_get]
def wsX4_isIdle : List Cond := .code yX4_isIdle cX4_isIdle 2 (some .boolean) :: ((wsX4_isIdle_r1 ++ (wsX4_isIdle_r2 ++ wsX4_isIdle_r3)) ++ wsX40 ++ wsX20 ++ wsX00 ++ wsX30 ++ (vx_atS RX4 198 "java/lang/IndexOutOfBoundsException" ["java/lang/RuntimeException", "java/lang/Exception"]).filter goodWord)
def wsX4_rings : List Cond := .code yX4_rings cX4_rings 1 (some .int) :: ([.fieldLink RX4 41 "Mutualledger" "rings" "LMutualledger$Rings;", .methodLink RX4 190 yX1_size, .instanceMethod yX1_size, .selects RX1 yX1_size yX1_size, .initialized RX1, .code yX1_size cX1_size 1 (some .int), .fieldLink RX1 20 "Mutualledger$Rings" "count" "I"] ++ wsX40 ++ wsX10)
def wsX4_ring_r1 : List Cond := [Cond.classLink RX4 194 "java/lang/IndexOutOfBoundsException", Cond.initialized "java/lang/IndexOutOfBoundsException", Cond.fieldLink RX4 41 "Mutualledger" "rings" "LMutualledger$Rings;", Cond.methodLink RX4 190 yX1_size, Cond.instanceMethod yX1_size, Cond.selects RX1 yX1_size yX1_size, Cond.initialized RX1, Cond.code yX1_size cX1_size 1 (some .int), Cond.fieldLink RX1 20 "Mutualledger$Rings" "count" "I", Cond.methodLink RX4 92 yX4_needRange, Cond.static yX4_needRange, Cond.initialized RX4, Cond.code yX4_needRange cX4_needRange 3 none, Cond.classLink RX4 212 "java/lang/IllegalArgumentException", Cond.initialized "java/lang/IllegalArgumentException", Cond.methodLink RX4 199 yX1_of, Cond.instanceMethod yX1_of, Cond.selects RX1 yX1_of yX1_of, Cond.code yX1_of cX1_of 3 (some .int), Cond.fieldLink RX1 16 "Mutualledger$Rings" "rows" "LMutualledger$Table;", Cond.methodLink RX1 24 yX2_get, Cond.instanceMethod yX2_get, Cond.selects RX2 yX2_get yX2_get, Cond.initialized RX2]
def wsX4_ring_r2 : List Cond := [Cond.code yX2_get cX2_get 4 (some .int), Cond.fieldLink RX2 27 "Mutualledger$Table" "cells" "[I", Cond.methodLink RX2 31 yX2_placeOf, Cond.instanceMethod yX2_placeOf, Cond.selects RX2 yX2_placeOf yX2_placeOf, Cond.code yX2_placeOf cX2_placeOf 4 (some .int), Cond.fieldLink RX2 20 "Mutualledger$Table" "rows" "I", Cond.fieldLink RX2 24 "Mutualledger$Table" "columns" "I"]
def wsX4_ring : List Cond := .code yX4_ring cX4_ring 3 (some .int) :: ((wsX4_ring_r1 ++ wsX4_ring_r2) ++ wsX40 ++ wsX10 ++ wsX20 ++ (vx_atS RX4 198 "java/lang/IndexOutOfBoundsException" ["java/lang/RuntimeException", "java/lang/Exception"]).filter goodWord ++ (vx_atS RX4 216 "java/lang/IllegalArgumentException" ["java/lang/RuntimeException", "java/lang/Exception"]).filter goodWord)
def wsX5_init : List Cond := .code yX5_init cX5_init 1 none :: ([.methodLink RX5 1 objectInit, .instanceMethod objectInit, .code objectInit ⟨#[0xb1]⟩ 1 none, .arrayClass .boolean, .fieldLink RX5 7 "MutualledgerModel" "isIn" "[Z", .arrayClass .int, .fieldLink RX5 13 "MutualledgerModel" "owes" "[I", .fieldLink RX5 17 "MutualledgerModel" "frozen" "[I", .fieldLink RX5 20 "MutualledgerModel" "guaranteed" "[I", .fieldLink RX5 23 "MutualledgerModel" "goods" "[I", .fieldLink RX5 26 "MutualledgerModel" "buyer" "[I", .fieldLink RX5 29 "MutualledgerModel" "seller" "[I", .fieldLink RX5 32 "MutualledgerModel" "amount" "[I", .fieldLink RX5 35 "MutualledgerModel" "day" "[I", .fieldLink RX5 38 "MutualledgerModel" "state" "[I", .fieldLink RX5 41 "MutualledgerModel" "part" "[I", .fieldLink RX5 44 "MutualledgerModel" "fee" "I", .fieldLink RX5 48 "MutualledgerModel" "ring" "[I", .fieldLink RX5 51 "MutualledgerModel" "row" "[I"] ++ wsX50)
def wsX5_thrown : List Cond := .code yX5_thrown cX5_thrown 1 (some .int) :: ([.fieldLink RX5 54 "MutualledgerModel" "thrown" "I"] ++ wsX50)
def wsX5_in : List Cond := .code yX5_in cX5_in 3 (some .boolean) :: ([])
def wsX5_isShop : List Cond := .code yX5_isShop cX5_isShop 2 (some .boolean) :: ([.fieldLink RX5 57 "MutualledgerModel" "joined" "I", .fieldLink RX5 7 "MutualledgerModel" "isIn" "[Z", .methodLink RX5 60 yX5_in, .static yX5_in, .initialized RX5, .code yX5_in cX5_in 3 (some .boolean)] ++ wsX50)
def wsX5_was : List Cond := .code yX5_was cX5_was 2 (some .boolean) :: ([.fieldLink RX5 57 "MutualledgerModel" "joined" "I", .methodLink RX5 60 yX5_in, .static yX5_in, .initialized RX5, .code yX5_in cX5_in 3 (some .boolean)] ++ wsX50)
def wsX5_at : List Cond := .code yX5_at cX5_at 2 (some .int) :: ([])
def wsX5_least : List Cond := .code yX5_least cX5_least 2 (some .int) :: ([])
def wsX5_free : List Cond := .code yX5_free cX5_free 3 (some .int) :: ([.fieldLink RX5 13 "MutualledgerModel" "owes" "[I", .fieldLink RX5 17 "MutualledgerModel" "frozen" "[I", .methodLink RX5 64 yX5_at, .static yX5_at, .initialized RX5, .code yX5_at cX5_at 2 (some .int)] ++ wsX50)
def wsX5_balanceOf : List Cond := .code yX5_balanceOf cX5_balanceOf 4 (some .int) :: ([.fieldLink RX5 13 "MutualledgerModel" "owes" "[I", .methodLink RX5 64 yX5_at, .static yX5_at, .initialized RX5, .code yX5_at cX5_at 2 (some .int)] ++ wsX50)
def wsX5_isOf : List Cond := .code yX5_isOf cX5_isOf 3 (some .boolean) :: ([.fieldLink RX5 26 "MutualledgerModel" "buyer" "[I", .fieldLink RX5 29 "MutualledgerModel" "seller" "[I"] ++ wsX50)
def wsX5_limitOf : List Cond := .code yX5_limitOf cX5_limitOf 5 (some .int) :: ([.fieldLink RX5 68 "MutualledgerModel" "trades" "I", .fieldLink RX5 38 "MutualledgerModel" "state" "[I", .fieldLink RX5 35 "MutualledgerModel" "day" "[I", .fieldLink RX5 75 "MutualledgerModel" "today" "I", .fieldLink RX5 32 "MutualledgerModel" "amount" "[I", .fieldLink RX5 20 "MutualledgerModel" "guaranteed" "[I", .methodLink RX5 71 yX5_isOf, .instanceMethod yX5_isOf, .selects RX5 yX5_isOf yX5_isOf, .initialized RX5, .code yX5_isOf cX5_isOf 3 (some .boolean), .fieldLink RX5 26 "MutualledgerModel" "buyer" "[I", .fieldLink RX5 29 "MutualledgerModel" "seller" "[I", .methodLink RX5 64 yX5_at, .static yX5_at, .code yX5_at cX5_at 2 (some .int)] ++ wsX50)
def wsX5_isBelow : List Cond := .code yX5_isBelow cX5_isBelow 2 (some .boolean) :: ([])
def wsX5_join : List Cond := .code yX5_join cX5_join 1 (some .int) :: ([.fieldLink RX5 57 "MutualledgerModel" "joined" "I", .fieldLink RX5 54 "MutualledgerModel" "thrown" "I", .fieldLink RX5 7 "MutualledgerModel" "isIn" "[Z"] ++ wsX50)
def wsX5_lowestTo : List Cond := .code yX5_lowestTo cX5_lowestTo 4 (some .int) :: ([.fieldLink RX5 13 "MutualledgerModel" "owes" "[I", .methodLink RX5 64 yX5_at, .static yX5_at, .initialized RX5, .code yX5_at cX5_at 2 (some .int)] ++ wsX50)
def wsX5_lowestOf : List Cond := .code yX5_lowestOf cX5_lowestOf 4 (some .int) :: ([.fieldLink RX5 13 "MutualledgerModel" "owes" "[I", .methodLink RX5 64 yX5_at, .static yX5_at, .initialized RX5, .code yX5_at cX5_at 2 (some .int)] ++ wsX50)
def wsX5_takesOver : List Cond := .code yX5_takesOver cX5_takesOver 5 none :: ([.fieldLink RX5 13 "MutualledgerModel" "owes" "[I", .methodLink RX5 64 yX5_at, .static yX5_at, .initialized RX5, .code yX5_at cX5_at 2 (some .int)] ++ wsX50)
def wsX5_passesOn : List Cond := .code yX5_passesOn cX5_passesOn 5 none :: ([.fieldLink RX5 13 "MutualledgerModel" "owes" "[I", .methodLink RX5 78 yX5_lowestTo, .instanceMethod yX5_lowestTo, .selects RX5 yX5_lowestTo yX5_lowestTo, .initialized RX5, .code yX5_lowestTo cX5_lowestTo 4 (some .int), .methodLink RX5 64 yX5_at, .static yX5_at, .code yX5_at cX5_at 2 (some .int), .methodLink RX5 82 yX5_lowestOf, .instanceMethod yX5_lowestOf, .selects RX5 yX5_lowestOf yX5_lowestOf, .code yX5_lowestOf cX5_lowestOf 4 (some .int), .methodLink RX5 85 yX5_least, .static yX5_least, .code yX5_least cX5_least 2 (some .int), .methodLink RX5 88 yX5_takesOver, .instanceMethod yX5_takesOver, .selects RX5 yX5_takesOver yX5_takesOver, .code yX5_takesOver cX5_takesOver 5 none] ++ wsX50)
def wsX5_lets : List Cond := .code yX5_lets cX5_lets 5 none :: ([.fieldLink RX5 13 "MutualledgerModel" "owes" "[I", .fieldLink RX5 20 "MutualledgerModel" "guaranteed" "[I", .methodLink RX5 64 yX5_at, .static yX5_at, .initialized RX5, .code yX5_at cX5_at 2 (some .int), .methodLink RX5 85 yX5_least, .static yX5_least, .code yX5_least cX5_least 2 (some .int), .methodLink RX5 88 yX5_takesOver, .instanceMethod yX5_takesOver, .selects RX5 yX5_takesOver yX5_takesOver, .code yX5_takesOver cX5_takesOver 5 none] ++ wsX50)
def wsX5_leave_r1 : List Cond := [Cond.fieldLink RX5 68 "MutualledgerModel" "trades" "I", Cond.fieldLink RX5 38 "MutualledgerModel" "state" "[I", Cond.fieldLink RX5 54 "MutualledgerModel" "thrown" "I", Cond.fieldLink RX5 23 "MutualledgerModel" "goods" "[I", Cond.fieldLink RX5 13 "MutualledgerModel" "owes" "[I", Cond.fieldLink RX5 20 "MutualledgerModel" "guaranteed" "[I", Cond.fieldLink RX5 7 "MutualledgerModel" "isIn" "[Z", Cond.methodLink RX5 71 yX5_isOf, Cond.instanceMethod yX5_isOf, Cond.selects RX5 yX5_isOf yX5_isOf, Cond.initialized RX5, Cond.code yX5_isOf cX5_isOf 3 (some .boolean), Cond.fieldLink RX5 26 "MutualledgerModel" "buyer" "[I", Cond.fieldLink RX5 29 "MutualledgerModel" "seller" "[I", Cond.methodLink RX5 92 yX5_isShop, Cond.instanceMethod yX5_isShop, Cond.selects RX5 yX5_isShop yX5_isShop, Cond.code yX5_isShop cX5_isShop 2 (some .boolean), Cond.fieldLink RX5 57 "MutualledgerModel" "joined" "I", Cond.methodLink RX5 60 yX5_in, Cond.static yX5_in, Cond.code yX5_in cX5_in 3 (some .boolean), Cond.methodLink RX5 96 yX5_passesOn, Cond.instanceMethod yX5_passesOn]
def wsX5_leave_r2 : List Cond := [Cond.selects RX5 yX5_passesOn yX5_passesOn, Cond.code yX5_passesOn cX5_passesOn 5 none, Cond.methodLink RX5 78 yX5_lowestTo, Cond.instanceMethod yX5_lowestTo, Cond.selects RX5 yX5_lowestTo yX5_lowestTo, Cond.code yX5_lowestTo cX5_lowestTo 4 (some .int), Cond.methodLink RX5 64 yX5_at, Cond.static yX5_at, Cond.code yX5_at cX5_at 2 (some .int), Cond.methodLink RX5 82 yX5_lowestOf, Cond.instanceMethod yX5_lowestOf, Cond.selects RX5 yX5_lowestOf yX5_lowestOf, Cond.code yX5_lowestOf cX5_lowestOf 4 (some .int), Cond.methodLink RX5 85 yX5_least, Cond.static yX5_least, Cond.code yX5_least cX5_least 2 (some .int), Cond.methodLink RX5 88 yX5_takesOver, Cond.instanceMethod yX5_takesOver, Cond.selects RX5 yX5_takesOver yX5_takesOver, Cond.code yX5_takesOver cX5_takesOver 5 none, Cond.methodLink RX5 100 yX5_lets, Cond.instanceMethod yX5_lets, Cond.selects RX5 yX5_lets yX5_lets, Cond.code yX5_lets cX5_lets 5 none]
def wsX5_leave : List Cond := .code yX5_leave cX5_leave 5 (some .int) :: ((wsX5_leave_r1 ++ wsX5_leave_r2) ++ wsX50)
def wsX5_trade_r1 : List Cond := [Cond.fieldLink RX5 68 "MutualledgerModel" "trades" "I", Cond.fieldLink RX5 54 "MutualledgerModel" "thrown" "I", Cond.fieldLink RX5 26 "MutualledgerModel" "buyer" "[I", Cond.fieldLink RX5 29 "MutualledgerModel" "seller" "[I", Cond.fieldLink RX5 32 "MutualledgerModel" "amount" "[I", Cond.fieldLink RX5 35 "MutualledgerModel" "day" "[I", Cond.fieldLink RX5 75 "MutualledgerModel" "today" "I", Cond.fieldLink RX5 38 "MutualledgerModel" "state" "[I", Cond.fieldLink RX5 13 "MutualledgerModel" "owes" "[I", Cond.methodLink RX5 92 yX5_isShop, Cond.instanceMethod yX5_isShop, Cond.selects RX5 yX5_isShop yX5_isShop, Cond.initialized RX5, Cond.code yX5_isShop cX5_isShop 2 (some .boolean), Cond.fieldLink RX5 57 "MutualledgerModel" "joined" "I", Cond.fieldLink RX5 7 "MutualledgerModel" "isIn" "[Z", Cond.methodLink RX5 60 yX5_in, Cond.static yX5_in, Cond.code yX5_in cX5_in 3 (some .boolean), Cond.methodLink RX5 103 yX5_balanceOf, Cond.instanceMethod yX5_balanceOf, Cond.selects RX5 yX5_balanceOf yX5_balanceOf, Cond.code yX5_balanceOf cX5_balanceOf 4 (some .int), Cond.methodLink RX5 64 yX5_at]
def wsX5_trade_r2 : List Cond := [Cond.static yX5_at, Cond.code yX5_at cX5_at 2 (some .int), Cond.methodLink RX5 106 yX5_limitOf, Cond.instanceMethod yX5_limitOf, Cond.selects RX5 yX5_limitOf yX5_limitOf, Cond.code yX5_limitOf cX5_limitOf 5 (some .int), Cond.fieldLink RX5 20 "MutualledgerModel" "guaranteed" "[I", Cond.methodLink RX5 71 yX5_isOf, Cond.instanceMethod yX5_isOf, Cond.selects RX5 yX5_isOf yX5_isOf, Cond.code yX5_isOf cX5_isOf 3 (some .boolean), Cond.methodLink RX5 109 yX5_isBelow, Cond.static yX5_isBelow, Cond.code yX5_isBelow cX5_isBelow 2 (some .boolean)]
def wsX5_trade : List Cond := .code yX5_trade cX5_trade 4 (some .int) :: ((wsX5_trade_r1 ++ wsX5_trade_r2) ++ wsX50)
def wsX5_isTrade : List Cond := .code yX5_isTrade cX5_isTrade 2 (some .boolean) :: ([.fieldLink RX5 68 "MutualledgerModel" "trades" "I", .methodLink RX5 60 yX5_in, .static yX5_in, .initialized RX5, .code yX5_in cX5_in 3 (some .boolean)] ++ wsX50)
def wsX5_dispute : List Cond := .code yX5_dispute cX5_dispute 4 (some .int) :: ([.fieldLink RX5 38 "MutualledgerModel" "state" "[I", .fieldLink RX5 7 "MutualledgerModel" "isIn" "[Z", .fieldLink RX5 26 "MutualledgerModel" "buyer" "[I", .fieldLink RX5 29 "MutualledgerModel" "seller" "[I", .fieldLink RX5 54 "MutualledgerModel" "thrown" "I", .fieldLink RX5 41 "MutualledgerModel" "part" "[I", .fieldLink RX5 32 "MutualledgerModel" "amount" "[I", .fieldLink RX5 13 "MutualledgerModel" "owes" "[I", .fieldLink RX5 17 "MutualledgerModel" "frozen" "[I", .methodLink RX5 112 yX5_isTrade, .instanceMethod yX5_isTrade, .selects RX5 yX5_isTrade yX5_isTrade, .initialized RX5, .code yX5_isTrade cX5_isTrade 2 (some .boolean), .fieldLink RX5 68 "MutualledgerModel" "trades" "I", .methodLink RX5 60 yX5_in, .static yX5_in, .code yX5_in cX5_in 3 (some .boolean), .methodLink RX5 64 yX5_at, .static yX5_at, .code yX5_at cX5_at 2 (some .int), .methodLink RX5 85 yX5_least, .static yX5_least, .code yX5_least cX5_least 2 (some .int)] ++ wsX50)
def wsX5_settle : List Cond := .code yX5_settle cX5_settle 5 (some .int) :: ([.fieldLink RX5 38 "MutualledgerModel" "state" "[I", .fieldLink RX5 54 "MutualledgerModel" "thrown" "I", .fieldLink RX5 26 "MutualledgerModel" "buyer" "[I", .fieldLink RX5 29 "MutualledgerModel" "seller" "[I", .fieldLink RX5 32 "MutualledgerModel" "amount" "[I", .fieldLink RX5 41 "MutualledgerModel" "part" "[I", .fieldLink RX5 17 "MutualledgerModel" "frozen" "[I", .fieldLink RX5 13 "MutualledgerModel" "owes" "[I", .methodLink RX5 112 yX5_isTrade, .instanceMethod yX5_isTrade, .selects RX5 yX5_isTrade yX5_isTrade, .initialized RX5, .code yX5_isTrade cX5_isTrade 2 (some .boolean), .fieldLink RX5 68 "MutualledgerModel" "trades" "I", .methodLink RX5 60 yX5_in, .static yX5_in, .code yX5_in cX5_in 3 (some .boolean), .methodLink RX5 64 yX5_at, .static yX5_at, .code yX5_at cX5_at 2 (some .int)] ++ wsX50)
def wsX5_guarantee_r1 : List Cond := [Cond.fieldLink RX5 20 "MutualledgerModel" "guaranteed" "[I", Cond.fieldLink RX5 54 "MutualledgerModel" "thrown" "I", Cond.methodLink RX5 92 yX5_isShop, Cond.instanceMethod yX5_isShop, Cond.selects RX5 yX5_isShop yX5_isShop, Cond.initialized RX5, Cond.code yX5_isShop cX5_isShop 2 (some .boolean), Cond.fieldLink RX5 57 "MutualledgerModel" "joined" "I", Cond.fieldLink RX5 7 "MutualledgerModel" "isIn" "[Z", Cond.methodLink RX5 60 yX5_in, Cond.static yX5_in, Cond.code yX5_in cX5_in 3 (some .boolean), Cond.methodLink RX5 64 yX5_at, Cond.static yX5_at, Cond.code yX5_at cX5_at 2 (some .int), Cond.methodLink RX5 103 yX5_balanceOf, Cond.instanceMethod yX5_balanceOf, Cond.selects RX5 yX5_balanceOf yX5_balanceOf, Cond.code yX5_balanceOf cX5_balanceOf 4 (some .int), Cond.fieldLink RX5 13 "MutualledgerModel" "owes" "[I", Cond.methodLink RX5 106 yX5_limitOf, Cond.instanceMethod yX5_limitOf, Cond.selects RX5 yX5_limitOf yX5_limitOf, Cond.code yX5_limitOf cX5_limitOf 5 (some .int)]
def wsX5_guarantee_r2 : List Cond := [Cond.fieldLink RX5 68 "MutualledgerModel" "trades" "I", Cond.fieldLink RX5 38 "MutualledgerModel" "state" "[I", Cond.fieldLink RX5 35 "MutualledgerModel" "day" "[I", Cond.fieldLink RX5 75 "MutualledgerModel" "today" "I", Cond.fieldLink RX5 32 "MutualledgerModel" "amount" "[I", Cond.methodLink RX5 71 yX5_isOf, Cond.instanceMethod yX5_isOf, Cond.selects RX5 yX5_isOf yX5_isOf, Cond.code yX5_isOf cX5_isOf 3 (some .boolean), Cond.fieldLink RX5 26 "MutualledgerModel" "buyer" "[I", Cond.fieldLink RX5 29 "MutualledgerModel" "seller" "[I", Cond.methodLink RX5 109 yX5_isBelow, Cond.static yX5_isBelow, Cond.code yX5_isBelow cX5_isBelow 2 (some .boolean)]
def wsX5_guarantee : List Cond := .code yX5_guarantee cX5_guarantee 6 (some .int) :: ((wsX5_guarantee_r1 ++ wsX5_guarantee_r2) ++ wsX50)
def wsX5_revoke_r1 : List Cond := [Cond.fieldLink RX5 20 "MutualledgerModel" "guaranteed" "[I", Cond.fieldLink RX5 54 "MutualledgerModel" "thrown" "I", Cond.methodLink RX5 92 yX5_isShop, Cond.instanceMethod yX5_isShop, Cond.selects RX5 yX5_isShop yX5_isShop, Cond.initialized RX5, Cond.code yX5_isShop cX5_isShop 2 (some .boolean), Cond.fieldLink RX5 57 "MutualledgerModel" "joined" "I", Cond.fieldLink RX5 7 "MutualledgerModel" "isIn" "[Z", Cond.methodLink RX5 60 yX5_in, Cond.static yX5_in, Cond.code yX5_in cX5_in 3 (some .boolean), Cond.methodLink RX5 64 yX5_at, Cond.static yX5_at, Cond.code yX5_at cX5_at 2 (some .int), Cond.methodLink RX5 103 yX5_balanceOf, Cond.instanceMethod yX5_balanceOf, Cond.selects RX5 yX5_balanceOf yX5_balanceOf, Cond.code yX5_balanceOf cX5_balanceOf 4 (some .int), Cond.fieldLink RX5 13 "MutualledgerModel" "owes" "[I", Cond.methodLink RX5 106 yX5_limitOf, Cond.instanceMethod yX5_limitOf, Cond.selects RX5 yX5_limitOf yX5_limitOf, Cond.code yX5_limitOf cX5_limitOf 5 (some .int)]
def wsX5_revoke_r2 : List Cond := [Cond.fieldLink RX5 68 "MutualledgerModel" "trades" "I", Cond.fieldLink RX5 38 "MutualledgerModel" "state" "[I", Cond.fieldLink RX5 35 "MutualledgerModel" "day" "[I", Cond.fieldLink RX5 75 "MutualledgerModel" "today" "I", Cond.fieldLink RX5 32 "MutualledgerModel" "amount" "[I", Cond.methodLink RX5 71 yX5_isOf, Cond.instanceMethod yX5_isOf, Cond.selects RX5 yX5_isOf yX5_isOf, Cond.code yX5_isOf cX5_isOf 3 (some .boolean), Cond.fieldLink RX5 26 "MutualledgerModel" "buyer" "[I", Cond.fieldLink RX5 29 "MutualledgerModel" "seller" "[I", Cond.methodLink RX5 109 yX5_isBelow, Cond.static yX5_isBelow, Cond.code yX5_isBelow cX5_isBelow 2 (some .boolean)]
def wsX5_revoke : List Cond := .code yX5_revoke cX5_revoke 6 (some .int) :: ((wsX5_revoke_r1 ++ wsX5_revoke_r2) ++ wsX50)
def wsX5_fee : List Cond := .code yX5_fee cX5_fee 3 (some .int) :: ([.fieldLink RX5 54 "MutualledgerModel" "thrown" "I", .fieldLink RX5 44 "MutualledgerModel" "fee" "I", .methodLink RX5 60 yX5_in, .static yX5_in, .initialized RX5, .code yX5_in cX5_in 3 (some .boolean)] ++ wsX50)
def wsX5_isRing : List Cond := .code yX5_isRing cX5_isRing 5 (some .boolean) :: ([.fieldLink RX5 51 "MutualledgerModel" "row" "[I", .methodLink RX5 115 yX5_free, .instanceMethod yX5_free, .selects RX5 yX5_free yX5_free, .initialized RX5, .code yX5_free cX5_free 3 (some .int), .fieldLink RX5 13 "MutualledgerModel" "owes" "[I", .fieldLink RX5 17 "MutualledgerModel" "frozen" "[I", .methodLink RX5 64 yX5_at, .static yX5_at, .code yX5_at cX5_at 2 (some .int)] ++ wsX50)
def wsX5_canBegin : List Cond := .code yX5_canBegin cX5_canBegin 4 (some .boolean) :: ([.fieldLink RX5 51 "MutualledgerModel" "row" "[I", .methodLink RX5 115 yX5_free, .instanceMethod yX5_free, .selects RX5 yX5_free yX5_free, .initialized RX5, .code yX5_free cX5_free 3 (some .int), .fieldLink RX5 13 "MutualledgerModel" "owes" "[I", .fieldLink RX5 17 "MutualledgerModel" "frozen" "[I", .methodLink RX5 64 yX5_at, .static yX5_at, .code yX5_at cX5_at 2 (some .int)] ++ wsX50)
def wsX5_laysRing : List Cond := .code yX5_laysRing cX5_laysRing 3 (some .boolean) :: ([.fieldLink RX5 51 "MutualledgerModel" "row" "[I", .fieldLink RX5 57 "MutualledgerModel" "joined" "I", .methodLink RX5 118 yX5_canBegin, .instanceMethod yX5_canBegin, .selects RX5 yX5_canBegin yX5_canBegin, .initialized RX5, .code yX5_canBegin cX5_canBegin 4 (some .boolean), .methodLink RX5 115 yX5_free, .instanceMethod yX5_free, .selects RX5 yX5_free yX5_free, .code yX5_free cX5_free 3 (some .int), .fieldLink RX5 13 "MutualledgerModel" "owes" "[I", .fieldLink RX5 17 "MutualledgerModel" "frozen" "[I", .methodLink RX5 64 yX5_at, .static yX5_at, .code yX5_at cX5_at 2 (some .int), .methodLink RX5 121 yX5_isRing, .instanceMethod yX5_isRing, .selects RX5 yX5_isRing yX5_isRing, .code yX5_isRing cX5_isRing 5 (some .boolean)] ++ wsX50)
def wsX5_nets_r1 : List Cond := [Cond.fieldLink RX5 51 "MutualledgerModel" "row" "[I", Cond.fieldLink RX5 48 "MutualledgerModel" "ring" "[I", Cond.fieldLink RX5 127 "MutualledgerModel" "rings" "I", Cond.fieldLink RX5 13 "MutualledgerModel" "owes" "[I", Cond.methodLink RX5 124 yX5_laysRing, Cond.instanceMethod yX5_laysRing, Cond.selects RX5 yX5_laysRing yX5_laysRing, Cond.initialized RX5, Cond.code yX5_laysRing cX5_laysRing 3 (some .boolean), Cond.fieldLink RX5 57 "MutualledgerModel" "joined" "I", Cond.methodLink RX5 118 yX5_canBegin, Cond.instanceMethod yX5_canBegin, Cond.selects RX5 yX5_canBegin yX5_canBegin, Cond.code yX5_canBegin cX5_canBegin 4 (some .boolean), Cond.methodLink RX5 115 yX5_free, Cond.instanceMethod yX5_free, Cond.selects RX5 yX5_free yX5_free, Cond.code yX5_free cX5_free 3 (some .int), Cond.fieldLink RX5 17 "MutualledgerModel" "frozen" "[I", Cond.methodLink RX5 64 yX5_at, Cond.static yX5_at, Cond.code yX5_at cX5_at 2 (some .int), Cond.methodLink RX5 121 yX5_isRing, Cond.instanceMethod yX5_isRing]
def wsX5_nets_r2 : List Cond := [Cond.selects RX5 yX5_isRing yX5_isRing, Cond.code yX5_isRing cX5_isRing 5 (some .boolean), Cond.methodLink RX5 85 yX5_least, Cond.static yX5_least, Cond.code yX5_least cX5_least 2 (some .int)]
def wsX5_nets : List Cond := .code yX5_nets cX5_nets 4 (some .boolean) :: ((wsX5_nets_r1 ++ wsX5_nets_r2) ++ wsX50)
def wsX5_isLazy : List Cond := .code yX5_isLazy cX5_isLazy 4 (some .boolean) :: ([.fieldLink RX5 68 "MutualledgerModel" "trades" "I", .fieldLink RX5 35 "MutualledgerModel" "day" "[I", .fieldLink RX5 75 "MutualledgerModel" "today" "I", .methodLink RX5 103 yX5_balanceOf, .instanceMethod yX5_balanceOf, .selects RX5 yX5_balanceOf yX5_balanceOf, .initialized RX5, .code yX5_balanceOf cX5_balanceOf 4 (some .int), .fieldLink RX5 13 "MutualledgerModel" "owes" "[I", .methodLink RX5 64 yX5_at, .static yX5_at, .code yX5_at cX5_at 2 (some .int), .methodLink RX5 71 yX5_isOf, .instanceMethod yX5_isOf, .selects RX5 yX5_isOf yX5_isOf, .code yX5_isOf cX5_isOf 3 (some .boolean), .fieldLink RX5 26 "MutualledgerModel" "buyer" "[I", .fieldLink RX5 29 "MutualledgerModel" "seller" "[I"] ++ wsX50)
def wsX5_pays : List Cond := .code yX5_pays cX5_pays 5 none :: ([.fieldLink RX5 44 "MutualledgerModel" "fee" "I", .constantLong RX5 130 (1000), .fieldLink RX5 13 "MutualledgerModel" "owes" "[I", .methodLink RX5 103 yX5_balanceOf, .instanceMethod yX5_balanceOf, .selects RX5 yX5_balanceOf yX5_balanceOf, .initialized RX5, .code yX5_balanceOf cX5_balanceOf 4 (some .int), .methodLink RX5 64 yX5_at, .static yX5_at, .code yX5_at cX5_at 2 (some .int), .methodLink RX5 115 yX5_free, .instanceMethod yX5_free, .selects RX5 yX5_free yX5_free, .code yX5_free cX5_free 3 (some .int), .fieldLink RX5 17 "MutualledgerModel" "frozen" "[I", .methodLink RX5 85 yX5_least, .static yX5_least, .code yX5_least cX5_least 2 (some .int)] ++ wsX50)
def wsX5_night_r1 : List Cond := [Cond.fieldLink RX5 54 "MutualledgerModel" "thrown" "I", Cond.fieldLink RX5 127 "MutualledgerModel" "rings" "I", Cond.fieldLink RX5 57 "MutualledgerModel" "joined" "I", Cond.fieldLink RX5 7 "MutualledgerModel" "isIn" "[Z", Cond.fieldLink RX5 75 "MutualledgerModel" "today" "I", Cond.methodLink RX5 60 yX5_in, Cond.static yX5_in, Cond.initialized RX5, Cond.code yX5_in cX5_in 3 (some .boolean), Cond.methodLink RX5 132 yX5_nets, Cond.instanceMethod yX5_nets, Cond.selects RX5 yX5_nets yX5_nets, Cond.code yX5_nets cX5_nets 4 (some .boolean), Cond.fieldLink RX5 51 "MutualledgerModel" "row" "[I", Cond.fieldLink RX5 48 "MutualledgerModel" "ring" "[I", Cond.fieldLink RX5 13 "MutualledgerModel" "owes" "[I", Cond.methodLink RX5 124 yX5_laysRing, Cond.instanceMethod yX5_laysRing, Cond.selects RX5 yX5_laysRing yX5_laysRing, Cond.code yX5_laysRing cX5_laysRing 3 (some .boolean), Cond.methodLink RX5 118 yX5_canBegin, Cond.instanceMethod yX5_canBegin, Cond.selects RX5 yX5_canBegin yX5_canBegin, Cond.code yX5_canBegin cX5_canBegin 4 (some .boolean)]
def wsX5_night_r2 : List Cond := [Cond.methodLink RX5 115 yX5_free, Cond.instanceMethod yX5_free, Cond.selects RX5 yX5_free yX5_free, Cond.code yX5_free cX5_free 3 (some .int), Cond.fieldLink RX5 17 "MutualledgerModel" "frozen" "[I", Cond.methodLink RX5 64 yX5_at, Cond.static yX5_at, Cond.code yX5_at cX5_at 2 (some .int), Cond.methodLink RX5 121 yX5_isRing, Cond.instanceMethod yX5_isRing, Cond.selects RX5 yX5_isRing yX5_isRing, Cond.code yX5_isRing cX5_isRing 5 (some .boolean), Cond.methodLink RX5 85 yX5_least, Cond.static yX5_least, Cond.code yX5_least cX5_least 2 (some .int), Cond.methodLink RX5 136 yX5_isLazy, Cond.instanceMethod yX5_isLazy, Cond.selects RX5 yX5_isLazy yX5_isLazy, Cond.code yX5_isLazy cX5_isLazy 4 (some .boolean), Cond.fieldLink RX5 68 "MutualledgerModel" "trades" "I", Cond.fieldLink RX5 35 "MutualledgerModel" "day" "[I", Cond.methodLink RX5 103 yX5_balanceOf, Cond.instanceMethod yX5_balanceOf, Cond.selects RX5 yX5_balanceOf yX5_balanceOf]
def wsX5_night_r3 : List Cond := [Cond.code yX5_balanceOf cX5_balanceOf 4 (some .int), Cond.methodLink RX5 71 yX5_isOf, Cond.instanceMethod yX5_isOf, Cond.selects RX5 yX5_isOf yX5_isOf, Cond.code yX5_isOf cX5_isOf 3 (some .boolean), Cond.fieldLink RX5 26 "MutualledgerModel" "buyer" "[I", Cond.fieldLink RX5 29 "MutualledgerModel" "seller" "[I", Cond.methodLink RX5 139 yX5_pays, Cond.instanceMethod yX5_pays, Cond.selects RX5 yX5_pays yX5_pays, Cond.code yX5_pays cX5_pays 5 none, Cond.fieldLink RX5 44 "MutualledgerModel" "fee" "I", Cond.constantLong RX5 130 (1000)]
def wsX5_night : List Cond := .code yX5_night cX5_night 5 (some .int) :: ((wsX5_night_r1 ++ (wsX5_night_r2 ++ wsX5_night_r3)) ++ wsX50)
def wsX5_balance : List Cond := .code yX5_balance cX5_balance 2 (some .int) :: ([.fieldLink RX5 54 "MutualledgerModel" "thrown" "I", .methodLink RX5 142 yX5_was, .instanceMethod yX5_was, .selects RX5 yX5_was yX5_was, .initialized RX5, .code yX5_was cX5_was 2 (some .boolean), .fieldLink RX5 57 "MutualledgerModel" "joined" "I", .methodLink RX5 60 yX5_in, .static yX5_in, .code yX5_in cX5_in 3 (some .boolean), .methodLink RX5 103 yX5_balanceOf, .instanceMethod yX5_balanceOf, .selects RX5 yX5_balanceOf yX5_balanceOf, .code yX5_balanceOf cX5_balanceOf 4 (some .int), .fieldLink RX5 13 "MutualledgerModel" "owes" "[I", .methodLink RX5 64 yX5_at, .static yX5_at, .code yX5_at cX5_at 2 (some .int)] ++ wsX50)
def wsX5_balanceAnew : List Cond := .code yX5_balanceAnew cX5_balanceAnew 2 (some .int) :: ([.methodLink RX5 145 yX5_balance, .instanceMethod yX5_balance, .selects RX5 yX5_balance yX5_balance, .initialized RX5, .code yX5_balance cX5_balance 2 (some .int), .fieldLink RX5 54 "MutualledgerModel" "thrown" "I", .methodLink RX5 142 yX5_was, .instanceMethod yX5_was, .selects RX5 yX5_was yX5_was, .code yX5_was cX5_was 2 (some .boolean), .fieldLink RX5 57 "MutualledgerModel" "joined" "I", .methodLink RX5 60 yX5_in, .static yX5_in, .code yX5_in cX5_in 3 (some .boolean), .methodLink RX5 103 yX5_balanceOf, .instanceMethod yX5_balanceOf, .selects RX5 yX5_balanceOf yX5_balanceOf, .code yX5_balanceOf cX5_balanceOf 4 (some .int), .fieldLink RX5 13 "MutualledgerModel" "owes" "[I", .methodLink RX5 64 yX5_at, .static yX5_at, .code yX5_at cX5_at 2 (some .int)] ++ wsX50)
def wsX5_limit_r1 : List Cond := [Cond.fieldLink RX5 54 "MutualledgerModel" "thrown" "I", Cond.methodLink RX5 92 yX5_isShop, Cond.instanceMethod yX5_isShop, Cond.selects RX5 yX5_isShop yX5_isShop, Cond.initialized RX5, Cond.code yX5_isShop cX5_isShop 2 (some .boolean), Cond.fieldLink RX5 57 "MutualledgerModel" "joined" "I", Cond.fieldLink RX5 7 "MutualledgerModel" "isIn" "[Z", Cond.methodLink RX5 60 yX5_in, Cond.static yX5_in, Cond.code yX5_in cX5_in 3 (some .boolean), Cond.methodLink RX5 106 yX5_limitOf, Cond.instanceMethod yX5_limitOf, Cond.selects RX5 yX5_limitOf yX5_limitOf, Cond.code yX5_limitOf cX5_limitOf 5 (some .int), Cond.fieldLink RX5 68 "MutualledgerModel" "trades" "I", Cond.fieldLink RX5 38 "MutualledgerModel" "state" "[I", Cond.fieldLink RX5 35 "MutualledgerModel" "day" "[I", Cond.fieldLink RX5 75 "MutualledgerModel" "today" "I", Cond.fieldLink RX5 32 "MutualledgerModel" "amount" "[I", Cond.fieldLink RX5 20 "MutualledgerModel" "guaranteed" "[I", Cond.methodLink RX5 71 yX5_isOf, Cond.instanceMethod yX5_isOf, Cond.selects RX5 yX5_isOf yX5_isOf]
def wsX5_limit_r2 : List Cond := [Cond.code yX5_isOf cX5_isOf 3 (some .boolean), Cond.fieldLink RX5 26 "MutualledgerModel" "buyer" "[I", Cond.fieldLink RX5 29 "MutualledgerModel" "seller" "[I", Cond.methodLink RX5 64 yX5_at, Cond.static yX5_at, Cond.code yX5_at cX5_at 2 (some .int)]
def wsX5_limit : List Cond := .code yX5_limit cX5_limit 2 (some .int) :: ((wsX5_limit_r1 ++ wsX5_limit_r2) ++ wsX50)
def wsX5_owes : List Cond := .code yX5_owes cX5_owes 3 (some .int) :: ([.fieldLink RX5 54 "MutualledgerModel" "thrown" "I", .fieldLink RX5 13 "MutualledgerModel" "owes" "[I", .methodLink RX5 142 yX5_was, .instanceMethod yX5_was, .selects RX5 yX5_was yX5_was, .initialized RX5, .code yX5_was cX5_was 2 (some .boolean), .fieldLink RX5 57 "MutualledgerModel" "joined" "I", .methodLink RX5 60 yX5_in, .static yX5_in, .code yX5_in cX5_in 3 (some .boolean), .methodLink RX5 64 yX5_at, .static yX5_at, .code yX5_at cX5_at 2 (some .int)] ++ wsX50)
def wsX5_frozen : List Cond := .code yX5_frozen cX5_frozen 3 (some .int) :: ([.fieldLink RX5 54 "MutualledgerModel" "thrown" "I", .fieldLink RX5 17 "MutualledgerModel" "frozen" "[I", .methodLink RX5 142 yX5_was, .instanceMethod yX5_was, .selects RX5 yX5_was yX5_was, .initialized RX5, .code yX5_was cX5_was 2 (some .boolean), .fieldLink RX5 57 "MutualledgerModel" "joined" "I", .methodLink RX5 60 yX5_in, .static yX5_in, .code yX5_in cX5_in 3 (some .boolean), .methodLink RX5 64 yX5_at, .static yX5_at, .code yX5_at cX5_at 2 (some .int)] ++ wsX50)
def wsX5_ofTrade : List Cond := .code yX5_ofTrade cX5_ofTrade 3 (some .int) :: ([.fieldLink RX5 54 "MutualledgerModel" "thrown" "I", .fieldLink RX5 38 "MutualledgerModel" "state" "[I", .fieldLink RX5 26 "MutualledgerModel" "buyer" "[I", .fieldLink RX5 29 "MutualledgerModel" "seller" "[I", .fieldLink RX5 32 "MutualledgerModel" "amount" "[I", .fieldLink RX5 35 "MutualledgerModel" "day" "[I", .fieldLink RX5 41 "MutualledgerModel" "part" "[I", .methodLink RX5 112 yX5_isTrade, .instanceMethod yX5_isTrade, .selects RX5 yX5_isTrade yX5_isTrade, .initialized RX5, .code yX5_isTrade cX5_isTrade 2 (some .boolean), .fieldLink RX5 68 "MutualledgerModel" "trades" "I", .methodLink RX5 60 yX5_in, .static yX5_in, .code yX5_in cX5_in 3 (some .boolean)] ++ wsX50)
def wsX5_guaranteed : List Cond := .code yX5_guaranteed cX5_guaranteed 3 (some .int) :: ([.fieldLink RX5 54 "MutualledgerModel" "thrown" "I", .fieldLink RX5 20 "MutualledgerModel" "guaranteed" "[I", .methodLink RX5 142 yX5_was, .instanceMethod yX5_was, .selects RX5 yX5_was yX5_was, .initialized RX5, .code yX5_was cX5_was 2 (some .boolean), .fieldLink RX5 57 "MutualledgerModel" "joined" "I", .methodLink RX5 60 yX5_in, .static yX5_in, .code yX5_in cX5_in 3 (some .boolean), .methodLink RX5 64 yX5_at, .static yX5_at, .code yX5_at cX5_at 2 (some .int)] ++ wsX50)
def wsX5_goods : List Cond := .code yX5_goods cX5_goods 2 (some .int) :: ([.fieldLink RX5 54 "MutualledgerModel" "thrown" "I", .fieldLink RX5 23 "MutualledgerModel" "goods" "[I", .methodLink RX5 142 yX5_was, .instanceMethod yX5_was, .selects RX5 yX5_was yX5_was, .initialized RX5, .code yX5_was cX5_was 2 (some .boolean), .fieldLink RX5 57 "MutualledgerModel" "joined" "I", .methodLink RX5 60 yX5_in, .static yX5_in, .code yX5_in cX5_in 3 (some .boolean)] ++ wsX50)
def wsX5_isIdle_r1 : List Cond := [Cond.fieldLink RX5 54 "MutualledgerModel" "thrown" "I", Cond.methodLink RX5 92 yX5_isShop, Cond.instanceMethod yX5_isShop, Cond.selects RX5 yX5_isShop yX5_isShop, Cond.initialized RX5, Cond.code yX5_isShop cX5_isShop 2 (some .boolean), Cond.fieldLink RX5 57 "MutualledgerModel" "joined" "I", Cond.fieldLink RX5 7 "MutualledgerModel" "isIn" "[Z", Cond.methodLink RX5 60 yX5_in, Cond.static yX5_in, Cond.code yX5_in cX5_in 3 (some .boolean), Cond.methodLink RX5 136 yX5_isLazy, Cond.instanceMethod yX5_isLazy, Cond.selects RX5 yX5_isLazy yX5_isLazy, Cond.code yX5_isLazy cX5_isLazy 4 (some .boolean), Cond.fieldLink RX5 68 "MutualledgerModel" "trades" "I", Cond.fieldLink RX5 35 "MutualledgerModel" "day" "[I", Cond.fieldLink RX5 75 "MutualledgerModel" "today" "I", Cond.methodLink RX5 103 yX5_balanceOf, Cond.instanceMethod yX5_balanceOf, Cond.selects RX5 yX5_balanceOf yX5_balanceOf, Cond.code yX5_balanceOf cX5_balanceOf 4 (some .int), Cond.fieldLink RX5 13 "MutualledgerModel" "owes" "[I", Cond.methodLink RX5 64 yX5_at]
def wsX5_isIdle_r2 : List Cond := [Cond.static yX5_at, Cond.code yX5_at cX5_at 2 (some .int), Cond.methodLink RX5 71 yX5_isOf, Cond.instanceMethod yX5_isOf, Cond.selects RX5 yX5_isOf yX5_isOf, Cond.code yX5_isOf cX5_isOf 3 (some .boolean), Cond.fieldLink RX5 26 "MutualledgerModel" "buyer" "[I", Cond.fieldLink RX5 29 "MutualledgerModel" "seller" "[I"]
def wsX5_isIdle : List Cond := .code yX5_isIdle cX5_isIdle 2 (some .boolean) :: ((wsX5_isIdle_r1 ++ wsX5_isIdle_r2) ++ wsX50)
def wsX5_rings : List Cond := .code yX5_rings cX5_rings 1 (some .int) :: ([.fieldLink RX5 54 "MutualledgerModel" "thrown" "I", .fieldLink RX5 127 "MutualledgerModel" "rings" "I"] ++ wsX50)
def wsX5_ring : List Cond := .code yX5_ring cX5_ring 3 (some .int) :: ([.fieldLink RX5 127 "MutualledgerModel" "rings" "I", .fieldLink RX5 54 "MutualledgerModel" "thrown" "I", .fieldLink RX5 48 "MutualledgerModel" "ring" "[I", .methodLink RX5 60 yX5_in, .static yX5_in, .initialized RX5, .code yX5_in cX5_in 3 (some .boolean)] ++ wsX50)
def wsJ9_max_7cf53 : List Cond := .code yJ9_max_7cf53 cJ9_max_7cf53 2 (some .int) :: ([])
def wsJ9_min_7cf53 : List Cond := .code yJ9_min_7cf53 cJ9_min_7cf53 2 (some .int) :: ([])
theorem dJ9_max_7cf53_0 : decode cJ9_max_7cf53 0 = .ok (.iload_n 0, 1) := by decide +kernel
theorem dJ9_max_7cf53_1 : decode cJ9_max_7cf53 1 = .ok (.iload_n 1, 1) := by decide +kernel
theorem dJ9_max_7cf53_2 : decode cJ9_max_7cf53 2 = .ok (.if_icmp .lt 7, 3) := by decide +kernel
theorem dJ9_max_7cf53_5 : decode cJ9_max_7cf53 5 = .ok (.iload_n 0, 1) := by decide +kernel
theorem dJ9_max_7cf53_6 : decode cJ9_max_7cf53 6 = .ok (.goto 4, 3) := by decide +kernel
theorem dJ9_max_7cf53_9 : decode cJ9_max_7cf53 9 = .ok (.iload_n 1, 1) := by decide +kernel
theorem dJ9_max_7cf53_10 : decode cJ9_max_7cf53 10 = .ok (.ireturn, 1) := by decide +kernel
theorem dJ9_min_7cf53_0 : decode cJ9_min_7cf53 0 = .ok (.iload_n 0, 1) := by decide +kernel
theorem dJ9_min_7cf53_1 : decode cJ9_min_7cf53 1 = .ok (.iload_n 1, 1) := by decide +kernel
theorem dJ9_min_7cf53_2 : decode cJ9_min_7cf53 2 = .ok (.if_icmp .gt 7, 3) := by decide +kernel
theorem dJ9_min_7cf53_5 : decode cJ9_min_7cf53 5 = .ok (.iload_n 0, 1) := by decide +kernel
theorem dJ9_min_7cf53_6 : decode cJ9_min_7cf53 6 = .ok (.goto 4, 3) := by decide +kernel
theorem dJ9_min_7cf53_9 : decode cJ9_min_7cf53 9 = .ok (.iload_n 1, 1) := by decide +kernel
theorem dJ9_min_7cf53_10 : decode cJ9_min_7cf53 10 = .ok (.ireturn, 1) := by decide +kernel
end
section
abbrev vwCl : List vw_C := [(RX0, TX0, 2), (RX1, TX1, 2), (RX2, TX2, 3), (RX3, TX3, 2), (RX4, TX4, 9), (RX5, TX5, 19)]
/-! ===== the machine in whole numbers: ints as Int, the heap as a memory of Ints, cells by number ===== -/
def z32 (a : Int) : Int32 := Int32.ofInt a
def z64 (a : Int) : Int64 := Int64.ofInt a
theorem z_rng (x : Int32) : -2147483648 ≤ x.toInt ∧ x.toInt < 2147483648 := by
  have h1 := Int32.le_toInt x
  have h2 := Int32.toInt_lt x
  omega
theorem z32_of (x : Int32) : ∃ a : Int, (-2147483648 ≤ a ∧ a < 2147483648) ∧ x = z32 a := ⟨x.toInt, z_rng x, (Int32.ofInt_toInt x).symm⟩
theorem z32_toInt {a : Int} (h : -2147483648 ≤ a ∧ a < 2147483648) : (z32 a).toInt = a := by
  unfold z32
  have hs : Int32.size = 4294967296 := rfl
  rw [Int32.toInt_ofInt, hs, Int.bmod_eq_of_le (by omega) (by omega)]
theorem z64_toInt {a : Int} (h : -9223372036854775808 ≤ a ∧ a < 9223372036854775808) : (z64 a).toInt = a := by
  unfold z64
  have hs : Int64.size = 18446744073709551616 := rfl
  rw [Int64.toInt_ofInt, hs, Int.bmod_eq_of_le (by omega) (by omega)]
theorem z32_add (a b : Int) : z32 a + z32 b = z32 (a + b) := (Int32.ofInt_add a b).symm
theorem z32_sub (a b : Int) : z32 a - z32 b = z32 (a - b) := (Int32.ofInt_sub a b).symm
theorem z32_mul (a b : Int) : z32 a * z32 b = z32 (a * b) := (Int32.ofInt_mul a b).symm
theorem z32_neg (a : Int) : -z32 a = z32 (-a) := (Int32.ofInt_neg a).symm
theorem z64_mul (a b : Int) : z64 a * z64 b = z64 (a * b) := (Int64.ofInt_mul a b).symm
theorem z32_lt {a b : Int} (ha : -2147483648 ≤ a ∧ a < 2147483648) (hb : -2147483648 ≤ b ∧ b < 2147483648) : z32 a < z32 b ↔ a < b := by
  rw [Int32.lt_iff_toInt_lt, z32_toInt ha, z32_toInt hb]
theorem z32_le {a b : Int} (ha : -2147483648 ≤ a ∧ a < 2147483648) (hb : -2147483648 ≤ b ∧ b < 2147483648) : z32 a ≤ z32 b ↔ a ≤ b := by
  rw [Int32.le_iff_toInt_le, z32_toInt ha, z32_toInt hb]
theorem z32_eq {a b : Int} (ha : -2147483648 ≤ a ∧ a < 2147483648) (hb : -2147483648 ≤ b ∧ b < 2147483648) : z32 a = z32 b ↔ a = b := by
  rw [← Int32.toInt_inj, z32_toInt ha, z32_toInt hb]
theorem z32_0 : (0 : Int32) = z32 0 := by decide
theorem z32_div {a b : Int} (ha : -2147483648 ≤ a ∧ a < 2147483648) (hb : 0 < b ∧ b < 2147483648) : z32 a / z32 b = z32 (a.tdiv b) := by
  refine (Int32.ofInt_tdiv (a := a) (b := b) ?_ ?_ ?_ ?_).symm
  · rw [Int32.toInt_minValue]; omega
  · rw [Int32.toInt_maxValue]; omega
  · rw [Int32.toInt_minValue]; omega
  · rw [Int32.toInt_maxValue]; omega
theorem z64_div {a b : Int} (ha : -9223372036854775808 ≤ a ∧ a < 9223372036854775808) (hb : 0 < b ∧ b < 9223372036854775808) : z64 a / z64 b = z64 (a.tdiv b) := by
  refine (Int64.ofInt_tdiv (a := a) (b := b) ?_ ?_ ?_ ?_).symm
  · rw [Int64.toInt_minValue]; omega
  · rw [Int64.toInt_maxValue]; omega
  · rw [Int64.toInt_minValue]; omega
  · rw [Int64.toInt_maxValue]; omega
theorem z32_l {a : Int} (h : -2147483648 ≤ a ∧ a < 2147483648) : (z32 a).toInt64 = z64 a := by
  rw [← Int64.toInt_inj, Int32.toInt_toInt64, z32_toInt h, z64_toInt (by omega)]
theorem z64_i (a : Int) : (z64 a).toInt32 = z32 a := Int64.toInt32_ofInt
theorem z32_in {i : Int} {n : Nat} (h0 : 0 ≤ i) (h : i < (n : Int)) (hn : n < 2147483648) : vp_in (z32 i) n := by
  rw [vp_in_iff, z32_toInt (by omega)]
  exact ⟨h0, h⟩
theorem z32_cl {i : Int} (h0 : 0 ≤ i) (h : i < 2147483648) : (z32 i).toNatClampNeg = i.toNat := by
  show (z32 i).toInt.toNat = _
  rw [z32_toInt (by omega)]
theorem z32_iinc (a n : Int) : z32 a + Int32.ofInt n = z32 (a + n) := z32_add a n
/-- a field: a reference to a cell, an int of the memory, an int for good -/
abbrev mF : Type := Nat ⊕ Option Int
/-- a cell: an object of a class, by its fields; a row of a kind and length (kinds: 0 int, 1 boolean); a row of longs -/
abbrev mC : Type := (Nat × List mF) ⊕ ((Nat × Nat) ⊕ Nat)
abbrev Mem : Type := Nat → Int → Int
/-- what is fixed: the classes' numbers, the rows' classes by kind, the cells' addresses -/
abbrev mG : Type := va_G × (Nat → ClassId) × (Nat → Nat)
def mset (S : Mem) (o : Nat) (i v : Int) : Mem := fun o' i' => if o' = o ∧ i' = i then v else S o' i'
def mV (g : mG) (S : Mem) (o k : Nat) : mF → Value
  | .inl j => .ref (g.2.2 j)
  | .inr none => .int (z32 (S o k))
  | .inr (some v) => .int (z32 v)
def mFs (g : mG) (S : Mem) (o : Nat) : Nat → List mF → List Value
  | _, [] => []
  | k, f :: fs => mV g S o k f :: mFs g S o (k + 1) fs
def mE (g : mG) (S : Mem) (o : Nat) : mC → va_E
  | .inl (ci, fs) => .inr (ci, mFs g S o 0 fs)
  | .inr (.inl (t, n)) => .inl (g.2.1 t, n, .inl (fun j => z32 (S o j)))
  | .inr (.inr n) => .inl (g.2.1 2, n, .inr (.inl (fun j => z64 (S o j))))
def mWs (g : mG) (S : Mem) : Nat → List mC → va_W
  | _, [] => []
  | o, d :: ds => (g.2.2 o, mE g S o d) :: mWs g S (o + 1) ds
def gds : List mC := [.inl (4, [.inl 1, .inl 3, .inl 6, .inl 11, .inl 13, .inl 15, .inr none, .inr none, .inr none]), .inl (2, [.inr (some 8), .inr (some 2), .inl 2]), .inr (.inl (0, 16)), .inl (3, [.inl 4, .inr none]), .inl (2, [.inr (some 100), .inr (some 6), .inl 5]), .inr (.inl (0, 600)), .inl (0, [.inl 7, .inl 9]), .inl (2, [.inr (some 9), .inr (some 9), .inl 8]), .inr (.inl (0, 81)), .inl (2, [.inr (some 9), .inr (some 9), .inl 10]), .inr (.inl (0, 81)), .inl (2, [.inr (some 9), .inr (some 9), .inl 12]), .inr (.inl (0, 81)), .inl (2, [.inr (some 9), .inr (some 9), .inl 14]), .inr (.inl (0, 81)), .inl (1, [.inl 16, .inr none]), .inl (2, [.inr (some 57), .inr (some 7), .inl 17]), .inr (.inl (0, 399)), .inl (5, [.inr none, .inr none, .inl 19, .inl 20, .inl 21, .inl 22, .inl 23, .inr none, .inl 24, .inl 25, .inl 26, .inl 27, .inl 28, .inl 29, .inr none, .inr none, .inr none, .inl 30, .inl 31]), .inr (.inl (1, 8)), .inr (.inl (0, 81)), .inr (.inl (0, 81)), .inr (.inl (0, 81)), .inr (.inl (0, 8)), .inr (.inl (0, 100)), .inr (.inl (0, 100)), .inr (.inl (0, 100)), .inr (.inl (0, 100)), .inr (.inl (0, 100)), .inr (.inl (0, 100)), .inr (.inl (0, 700)), .inr (.inl (0, 5)), .inr (.inr 1)]
def mW (g : mG) (S : Mem) : va_W := mWs g S 0 gds
def mTys (g : mG) : List (ClassId × FieldType) := [(g.2.1 0, .int), (g.2.1 1, .boolean), (g.2.1 2, .long)]
theorem mWs_get (g : mG) (S : Mem) : ∀ (ds : List mC) (o k : Nat), (mWs g S o ds)[k]? = (ds[k]?).map (fun d => (g.2.2 (o + k), mE g S (o + k) d))
  | [], _, _ => by simp [mWs]
  | d :: ds, o, 0 => by simp [mWs]
  | d :: ds, o, k + 1 => by
    rw [mWs, List.getElem?_cons_succ, List.getElem?_cons_succ, mWs_get g S ds (o + 1) k, show o + 1 + k = o + (k + 1) by omega]
theorem mW_get (g : mG) (S : Mem) (k : Nat) : (mW g S)[k]? = (gds[k]?).map (fun d => (g.2.2 k, mE g S k d)) := by
  rw [mW, mWs_get, Nat.zero_add]
theorem mW_at (g : mG) (S : Mem) {k : Nat} {d : mC} (h : gds[k]? = some d) : (mW g S)[k]? = some (g.2.2 k, mE g S k d) := by
  rw [mW_get, h]; rfl
theorem mFs_get (g : mG) (S : Mem) (o : Nat) : ∀ (fs : List mF) (k0 k : Nat), (mFs g S o k0 fs)[k]? = (fs[k]?).map (mV g S o (k0 + k))
  | [], _, _ => by simp [mFs]
  | f :: fs, k0, 0 => by simp [mFs]
  | f :: fs, k0, k + 1 => by
    rw [mFs, List.getElem?_cons_succ, List.getElem?_cons_succ, mFs_get g S o fs (k0 + 1) k, show k0 + 1 + k = k0 + (k + 1) by omega]
theorem mFs_at (g : mG) (S : Mem) (o : Nat) {fs : List mF} {k : Nat} {f : mF} (h : fs[k]? = some f) : (mFs g S o 0 fs)[k]? = some (mV g S o k f) := by
  rw [mFs_get, h, Nat.zero_add]; rfl
theorem mFs_len (g : mG) (S : Mem) (o : Nat) : ∀ (fs : List mF) (k0 : Nat), (mFs g S o k0 fs).length = fs.length
  | [], _ => rfl
  | f :: fs, k0 => by rw [mFs, List.length_cons, List.length_cons, mFs_len g S o fs (k0 + 1)]
theorem mV_ne {g : mG} {S : Mem} {o o2 k : Nat} {i v : Int} (h : ¬ (o2 = o ∧ (k : Int) = i)) : ∀ f : mF, mV g (mset S o i v) o2 k f = mV g S o2 k f
  | .inl _ => rfl
  | .inr none => by simp only [mV, mset, if_neg h]
  | .inr (some _) => rfl
theorem mFs_ne {g : mG} {S : Mem} {o o2 : Nat} {i v : Int} (h : ¬ o2 = o) : ∀ (fs : List mF) (k0 : Nat), mFs g (mset S o i v) o2 k0 fs = mFs g S o2 k0 fs
  | [], _ => rfl
  | f :: fs, k0 => by rw [mFs, mFs, mV_ne (fun q => h q.1), mFs_ne h fs]
theorem mE_ne {g : mG} {S : Mem} {o o2 : Nat} {i v : Int} (h : ¬ o2 = o) : ∀ d : mC, mE g (mset S o i v) o2 d = mE g S o2 d
  | .inl (ci, fs) => by simp only [mE, mFs_ne h]
  | .inr (.inl (t, n)) => by simp only [mE, mset, h, false_and, if_false]
  | .inr (.inr n) => by simp only [mE, mset, h, false_and, if_false]
theorem mW_set {g : mG} {S : Mem} {o : Nat} {i v : Int} {d : mC} (h : gds[o]? = some d) : (mW g S).set o (g.2.2 o, mE g (mset S o i v) o d) = mW g (mset S o i v) := by
  apply List.ext_getElem?
  intro k
  rw [List.getElem?_set]
  by_cases hk : o = k
  · subst hk
    rw [if_pos rfl, mW_at g _ h, if_pos]
    exact (List.getElem?_eq_some_iff.mp (mW_at g S h)).1
  · rw [if_neg hk, mW_get, mW_get]
    have h2 : (fun d => (g.2.2 k, mE g S k d)) = (fun d => (g.2.2 k, mE g (mset S o i v) k d)) := funext fun d => by rw [mE_ne (fun q => hk q.symm)]
    rw [h2]
theorem mE_row {g : mG} {S : Mem} {o t n : Nat} {i v : Int} (h0 : 0 ≤ i) : mE g (mset S o i v) o (.inr (.inl (t, n))) = .inl (g.2.1 t, n, .inl (upd (fun j => z32 (S o j)) i.toNat (z32 v))) := by
  have : (fun j : Nat => z32 (mset S o i v o j)) = upd (fun j : Nat => z32 (S o j)) i.toNat (z32 v) := by
    funext j
    by_cases hj : j = i.toNat
    · subst hj
      simp only [mset, upd, if_true, true_and]
      rw [if_pos (Int.toNat_of_nonneg h0)]
    · simp only [mset, upd, if_neg hj, true_and]
      rw [if_neg (by omega)]
  simp only [mE, this]
theorem mE_rowL {g : mG} {S : Mem} {o n : Nat} {i v : Int} (h0 : 0 ≤ i) : mE g (mset S o i v) o (.inr (.inr n)) = .inl (g.2.1 2, n, .inr (.inl (vp_updL (fun j => z64 (S o j)) i.toNat (z64 v)))) := by
  have : (fun j : Nat => z64 (mset S o i v o j)) = vp_updL (fun j : Nat => z64 (S o j)) i.toNat (z64 v) := by
    funext j
    by_cases hj : j = i.toNat
    · subst hj
      simp only [mset, vp_updL, if_true, true_and]
      rw [if_pos (Int.toNat_of_nonneg h0)]
    · simp only [mset, vp_updL, if_neg hj, true_and]
      rw [if_neg (by omega)]
  simp only [mE, this]
theorem mFs_set {g : mG} {S : Mem} {o : Nat} {v : Int} : ∀ (fs : List mF) (k0 k : Nat), fs[k]? = some (.inr none) → (mFs g S o k0 fs).set k (.int (z32 v)) = mFs g (mset S o ((k0 + k : Nat) : Int) v) o k0 fs
  | [], _, _, h => by simp at h
  | f :: fs, k0, 0, h => by
    rw [List.getElem?_cons_zero] at h
    cases h
    rw [mFs, mFs, List.set_cons_zero]
    refine congr (congrArg _ ?_) ?_
    · simp only [mV, mset, Nat.add_zero, true_and, if_true]
    · have : ∀ (fs : List mF) (k1 : Nat), k0 < k1 → mFs g S o k1 fs = mFs g (mset S o ((k0 + 0 : Nat) : Int) v) o k1 fs := by
        intro fs
        induction fs with
        | nil => intros; rfl
        | cons f fs ih => intro k1 hk; rw [mFs, mFs, ← ih (k1 + 1) (by omega), mV_ne (by omega)]
      exact this fs (k0 + 1) (by omega)
  | f :: fs, k0, k + 1, h => by
    rw [List.getElem?_cons_succ] at h
    rw [mFs, mFs, List.set_cons_succ, mFs_set fs (k0 + 1) k h, mV_ne (by omega), show k0 + 1 + k = k0 + (k + 1) by omega]
theorem mA_ad (g : mG) (S S' : Mem) {k : Nat} {q : Nat × va_E} (h : (mW g S)[k]? = some q) : ∃ q', (mW g S')[k]? = some q' ∧ q'.1 = q.1 := by
  rw [mW_get] at h
  cases hd : gds[k]? with
  | none => rw [hd] at h; cases h
  | some d => rw [hd] at h; cases h; exact ⟨_, mW_at g S' hd, rfl⟩
theorem mD_of {g : mG} {A : Nat → Prop} {S : Mem} (S' : Mem) (h : va_D A (mW g S)) : va_D A (mW g S') := by
  refine ⟨fun i j p q hi hj hpq => ?_, fun k q hk => ?_⟩
  · obtain ⟨p', h1, e1⟩ := mA_ad g S' S hi
    obtain ⟨q', h2, e2⟩ := mA_ad g S' S hj
    exact h.1 i j p' q' h1 h2 (by rw [e1, e2, hpq])
  · obtain ⟨q', h1, e1⟩ := mA_ad g S' S hk
    rw [← e1]
    exact h.2 k q' h1
theorem mA_of {g : mG} {S : Mem} (S' : Mem) {sz q : Nat} (h : va_A (mW g S) sz q) : va_A (mW g S') sz q := by
  rcases h with ⟨k, e, h⟩ | h
  · obtain ⟨q', h1, e1⟩ := mA_ad g S S' h
    obtain ⟨a, e'⟩ := q'
    cases e1
    exact Or.inl ⟨k, e', h1⟩
  · exact Or.inr h
theorem mA_free {g : mG} {S : Mem} {A : Nat → Prop} {H0 H : Heap} {locs : List Loc} (hD : va_D A (mW g S)) (hS : va_S A H0 H locs) (hA : ∀ q, H0.size ≤ q → A q) : ∀ q, va_A (mW g S) H.size q → A q := by
  intro q h
  rcases h with ⟨k, e, h⟩ | h
  · exact hD.2 k (q, e) h
  · exact hA q (Nat.le_trans hS.1 h)
/-- a body's surroundings -/
abbrev mX : Type := Program × Launch × Env × Room × State × MethodId × Array Value × List Frame × Method × Code × (State → Prop) × (Nat → Prop)
def mCtx (C : mX) (own : String) (cc : ByteArray) (nL : Nat) (Ts : List Cond) (rm : Room) (g : mG) : Prop := match C with
  | (p, l, e, R, s, m, args, below, meth, c, Q, A) => p.tables.exec = Jvm.exec ∧ c.code = cc ∧ c.maxLocals = nL ∧ s.vm.findClass own = some m.cls ∧ (∀ w ∈ Ts, w.before args s = true) ∧ va_K g.1 vwCl (mTys g) s ∧ va_D A (mW g (fun _ _ => 0)) ∧ (∀ q, s.heap.size ≤ q → A q) ∧ meth.locks = false ∧ R = rm
/-- the machine, at pc with these locals and stack, over this memory, comes to the body's end -/
def MW (C : mX) (g : mG) (nL : Nat) (k : Nat × Nat) (pc : Nat) (lv : List (Nat × Value)) (st : List Value) (S : Mem) : Prop := match C with
  | (p, l, e, R, s, m, args, below, meth, c, Q, A) => ∀ (H : Heap) (locs : List Loc) (ls : Array Slot), lv_has ls nL lv → va_P g.1 vwCl (mW g S) H → va_S A s.heap H locs → W p l e R s m args below meth c H locs k.1 k.2 Q (F0 m pc ls st)
def mRet (C : mX) (g : mG) (S0 : Mem) (ret : Option FieldType) (Post : Option Value → Mem → Prop) (rm : Room) : Prop := match C with
  | (p, l, e, R, s, m, args, below, meth, c, Q, A) => meth.sig.returnType = ret ∧ Q = MQ below (fun _ st oc t => (∃ (r : Option Value) (S' : Mem), oc = .returned r ∧ Post r S' ∧ va_P g.1 vwCl (mW g S') t.heap) ∧ va_F (va_A (mW g S0) s.heap.size) st t) args s rm.cells rm.slots (va_A (mW g S0) s.heap.size) ∧ A = va_A (mW g S0) s.heap.size
/-- a method's contract: from this memory, with these arguments, it returns, as Post says -/
def Does (l : Launch) (y : MethodName) (ws : List Cond) (rm : Room) (g : mG) (av : List Value) (S : Mem) (Post : Option Value → Mem → Prop) : Prop :=
  ∀ sz : Nat, Met l y ws rm (va_Pc av (fun U => U.heap.size = sz ∧ va_P g.1 vwCl (mW g S) U.heap ∧ va_K g.1 vwCl (mTys g) U ∧ va_D (fun _ => True) (mW g S))) (fun _ st oc t => (∃ (r : Option Value) (S' : Mem), oc = .returned r ∧ Post r S' ∧ va_P g.1 vwCl (mW g S') t.heap) ∧ va_F (va_A (mW g S) sz) st t) rm.cells rm.slots (va_A (mW g S) sz)
theorem Does.of {l : Launch} {y : MethodName} {ws ws' : List Cond} {rm : Room} {g : mG} {av : List Value} {S : Mem} {Post : Option Value → Mem → Prop} {cc : ByteArray} {maxL : Nat} {ret : Option FieldType} {own : String} (hy : plainName y.cls = true) (hw : ws = Cond.code y cc maxL ret :: ws') (hown : y.cls = own) (hav : (lg_sl av).length ≤ maxL)
    (body : ∀ C : mX, mCtx C own cc maxL ws rm g → mRet C g S ret Post rm → MW C g maxL (0, 0) 0 (lv_args 0 av) [] S) : Does l y ws rm g av S Post := by
  intro sz
  refine Met.ofW (cc := cc) (maxL := maxL) (ret := ret) hy hw ?_
  intro p e s m args below meth c s₁ B hml hv
  obtain ⟨rfl, hsz, hP, hK, hD0⟩ := hv
  have hts := atoms_spec (ws := ws) B.pre
  have hown' : s.vm.findClass own = some m.cls := hown ▸ findClass_of_methodNamed B.named
  subst hsz
  have hD := hD0.self (sz := s.heap.size)
  rw [lg_entry_eq]
  have hl := lv_entry av (n := maxL) hav
  exact body (p, l, e, (headSpec ws rm).room, s, m, av.toArray, below, meth, c, _, va_A (mW g S) s.heap.size) ⟨B.exec, B.bytes, hml, hown', hts, hK, mD_of _ hD, fun q h => Or.inr h, B.notSynchronized, rfl⟩ ⟨B.returns, rfl, rfl⟩ s.heap [] _ hl hP va_S.rf
section MINS
variable {C : mX} {own : String} {cc : ByteArray} {nL : Nat} {Ts : List Cond} {rm : Room} {g : mG} {k : Nat × Nat} {pc : Nat} {lv : List (Nat × Value)} {st : List Value} {S : Mem}
theorem m_iconst (hC : mCtx C own cc nL Ts rm g) {n v : Int} (hd : decode cc pc = .ok (.iconst n, 1)) (hv : Int32.ofInt n = z32 v) (kk : MW C g nL k (pc + 1) lv (.int (z32 v) :: st) S) : MW C g nL k pc lv st S := by
  obtain ⟨p, l, e, R, s, m, args, below, meth, c, Q, A⟩ := C
  obtain ⟨hx, hb, hml, hown, hts, hK, hD, hA, hlk, hR⟩ := hC
  intro H locs ls hl hP hS
  exact lv_iconst hx hb hd hv (kk H locs ls hl hP hS)
theorem m_bipush (hC : mCtx C own cc nL Ts rm g) {n v : Int} (hd : decode cc pc = .ok (.bipush n, 2)) (hv : (Int8.ofInt n).toInt32 = z32 v) (kk : MW C g nL k (pc + 2) lv (.int (z32 v) :: st) S) : MW C g nL k pc lv st S := by
  obtain ⟨p, l, e, R, s, m, args, below, meth, c, Q, A⟩ := C
  obtain ⟨hx, hb, hml, hown, hts, hK, hD, hA, hlk, hR⟩ := hC
  intro H locs ls hl hP hS
  exact lv_bipush hx hb hd hv (kk H locs ls hl hP hS)
theorem m_sipush (hC : mCtx C own cc nL Ts rm g) {n v : Int} (hd : decode cc pc = .ok (.sipush n, 3)) (hv : (Int16.ofInt n).toInt32 = z32 v) (kk : MW C g nL k (pc + 3) lv (.int (z32 v) :: st) S) : MW C g nL k pc lv st S := by
  obtain ⟨p, l, e, R, s, m, args, below, meth, c, Q, A⟩ := C
  obtain ⟨hx, hb, hml, hown, hts, hK, hD, hA, hlk, hR⟩ := hC
  intro H locs ls hl hP hS
  exact lv_sipush hx hb hd hv (kk H locs ls hl hP hS)
theorem m_iload_n (hC : mCtx C own cc nL Ts rm g) {j : Fin 4} {a : Int} (hd : decode cc pc = .ok (.iload_n j, 1)) (q : Nat) (hq : lv[q]? = some ((j : Nat), .int (z32 a))) (kk : MW C g nL k (pc + 1) lv (.int (z32 a) :: st) S) : MW C g nL k pc lv st S := by
  obtain ⟨p, l, e, R, s, m, args, below, meth, c, Q, A⟩ := C
  obtain ⟨hx, hb, hml, hown, hts, hK, hD, hA, hlk, hR⟩ := hC
  intro H locs ls hl hP hS
  exact lv_iload_n hx hb hd rfl (lv_at hl q hq) (kk H locs ls hl hP hS)
theorem m_iload (hC : mCtx C own cc nL Ts rm g) {j : Nat} {a : Int} (hd : decode cc pc = .ok (.iload j, 2)) (q : Nat) (hq : lv[q]? = some ((j : Nat), .int (z32 a))) (kk : MW C g nL k (pc + 2) lv (.int (z32 a) :: st) S) : MW C g nL k pc lv st S := by
  obtain ⟨p, l, e, R, s, m, args, below, meth, c, Q, A⟩ := C
  obtain ⟨hx, hb, hml, hown, hts, hK, hD, hA, hlk, hR⟩ := hC
  intro H locs ls hl hP hS
  exact lv_iload hx hb hd (lv_at hl q hq) (kk H locs ls hl hP hS)
theorem m_aload_n (hC : mCtx C own cc nL Ts rm g) {j : Fin 4} {a : Nat} (hd : decode cc pc = .ok (.aload_n j, 1)) (q : Nat) (hq : lv[q]? = some ((j : Nat), .ref a)) (kk : MW C g nL k (pc + 1) lv (.ref a :: st) S) : MW C g nL k pc lv st S := by
  obtain ⟨p, l, e, R, s, m, args, below, meth, c, Q, A⟩ := C
  obtain ⟨hx, hb, hml, hown, hts, hK, hD, hA, hlk, hR⟩ := hC
  intro H locs ls hl hP hS
  exact lv_aload_n hx hb hd rfl (lv_at hl q hq) (kk H locs ls hl hP hS)
theorem m_aload (hC : mCtx C own cc nL Ts rm g) {j : Nat} {a : Nat} (hd : decode cc pc = .ok (.aload j, 2)) (q : Nat) (hq : lv[q]? = some ((j : Nat), .ref a)) (kk : MW C g nL k (pc + 2) lv (.ref a :: st) S) : MW C g nL k pc lv st S := by
  obtain ⟨p, l, e, R, s, m, args, below, meth, c, Q, A⟩ := C
  obtain ⟨hx, hb, hml, hown, hts, hK, hD, hA, hlk, hR⟩ := hC
  intro H locs ls hl hP hS
  exact lv_aload hx hb hd (lv_at hl q hq) (kk H locs ls hl hP hS)
theorem m_istore_n (hC : mCtx C own cc nL Ts rm g) {j : Fin 4} {a : Int} (hd : decode cc pc = .ok (.istore_n j, 1)) (lv' : Int → List (Nat × Value)) (hn : (j : Nat) < nL) (hl : ∀ x, ((j : Nat), Value.int (z32 x)) :: lv.filter (fun q => !(q.1 == (j : Nat)) && !(q.1 + 1 == (j : Nat) && q.2.category == 2)) = lv' x) (kk : ∀ x : Int, x = a → MW C g nL k (pc + 1) (lv' x) st S) : MW C g nL k pc lv (.int (z32 a) :: st) S := by
  obtain ⟨p, l, e, R, s, m, args, below, meth, c, Q, A⟩ := C
  obtain ⟨hx, hb, hml, hown, hts, hK, hD, hA, hlk, hR⟩ := hC
  intro H locs ls hl0 hP hS
  exact lv_istore_n hx hb hd rfl hl0 hn (hl a) (fun ls hl1 => kk a rfl H locs ls hl1 hP hS)
theorem m_istore (hC : mCtx C own cc nL Ts rm g) {j : Nat} {a : Int} (hd : decode cc pc = .ok (.istore j, 2)) (lv' : Int → List (Nat × Value)) (hn : (j : Nat) < nL) (hl : ∀ x, ((j : Nat), Value.int (z32 x)) :: lv.filter (fun q => !(q.1 == (j : Nat)) && !(q.1 + 1 == (j : Nat) && q.2.category == 2)) = lv' x) (kk : ∀ x : Int, x = a → MW C g nL k (pc + 2) (lv' x) st S) : MW C g nL k pc lv (.int (z32 a) :: st) S := by
  obtain ⟨p, l, e, R, s, m, args, below, meth, c, Q, A⟩ := C
  obtain ⟨hx, hb, hml, hown, hts, hK, hD, hA, hlk, hR⟩ := hC
  intro H locs ls hl0 hP hS
  exact lv_istore hx hb hd hl0 hn (hl a) (fun ls hl1 => kk a rfl H locs ls hl1 hP hS)
theorem m_astore_n (hC : mCtx C own cc nL Ts rm g) {j : Fin 4} {a : Nat} (hd : decode cc pc = .ok (.astore_n j, 1)) (lv' : List (Nat × Value)) (hn : (j : Nat) < nL) (hl : ((j : Nat), Value.ref a) :: lv.filter (fun q => !(q.1 == (j : Nat)) && !(q.1 + 1 == (j : Nat) && q.2.category == 2)) = lv') (kk : MW C g nL k (pc + 1) lv' st S) : MW C g nL k pc lv (.ref a :: st) S := by
  obtain ⟨p, l, e, R, s, m, args, below, meth, c, Q, A⟩ := C
  obtain ⟨hx, hb, hml, hown, hts, hK, hD, hA, hlk, hR⟩ := hC
  intro H locs ls hl0 hP hS
  exact lv_astore_n hx hb hd rfl hl0 hn hl (fun ls hl1 => kk H locs ls hl1 hP hS)
theorem m_astore (hC : mCtx C own cc nL Ts rm g) {j : Nat} {a : Nat} (hd : decode cc pc = .ok (.astore j, 2)) (lv' : List (Nat × Value)) (hn : (j : Nat) < nL) (hl : ((j : Nat), Value.ref a) :: lv.filter (fun q => !(q.1 == (j : Nat)) && !(q.1 + 1 == (j : Nat) && q.2.category == 2)) = lv') (kk : MW C g nL k (pc + 2) lv' st S) : MW C g nL k pc lv (.ref a :: st) S := by
  obtain ⟨p, l, e, R, s, m, args, below, meth, c, Q, A⟩ := C
  obtain ⟨hx, hb, hml, hown, hts, hK, hD, hA, hlk, hR⟩ := hC
  intro H locs ls hl0 hP hS
  exact lv_astore hx hb hd hl0 hn hl (fun ls hl1 => kk H locs ls hl1 hP hS)
theorem m_iinc (hC : mCtx C own cc nL Ts rm g) {j : Nat} {n a : Int} (hd : decode cc pc = .ok (.iinc j n, 3)) (q : Nat) (hq : lv[q]? = some (j, .int (z32 a))) (lv' : Int → List (Nat × Value)) (hn : j < nL) (hl : ∀ x, (j, Value.int (z32 x)) :: lv.filter (fun q => !(q.1 == j) && !(q.1 + 1 == j && q.2.category == 2)) = lv' x) (kk : ∀ x : Int, x = a + n → MW C g nL k (pc + 3) (lv' x) st S) : MW C g nL k pc lv st S := by
  obtain ⟨p, l, e, R, s, m, args, below, meth, c, Q, A⟩ := C
  obtain ⟨hx, hb, hml, hown, hts, hK, hD, hA, hlk, hR⟩ := hC
  intro H locs ls hl0 hP hS
  exact lv_iinc hx hb hd hl0 hq (z32_iinc a n) hn (hl (a + n)) (fun ls hl1 => kk (a + n) rfl H locs ls hl1 hP hS)
theorem m_locals {lv' : List (Nat × Value)} (ks : List Nat) (hl : lv_pick lv ks = lv') (kk : MW C g nL k pc lv' st S) : MW C g nL k pc lv st S := by
  obtain ⟨p, l, e, R, s, m, args, below, meth, c, Q, A⟩ := C
  intro H locs ls hl0 hP hS
  exact kk H locs ls (lv_sub hl0 ks hl) hP hS
theorem m_iadd (hC : mCtx C own cc nL Ts rm g) {a b : Int} (hd : decode cc pc = .ok (.iadd, 1)) (kk : MW C g nL k (pc + 1) lv (.int (z32 (a + b)) :: st) S) : MW C g nL k pc lv (.int (z32 b) :: .int (z32 a) :: st) S := by
  obtain ⟨p, l, e, R, s, m, args, below, meth, c, Q, A⟩ := C
  obtain ⟨hx, hb, hml, hown, hts, hK, hD, hA, hlk, hR⟩ := hC
  intro H locs ls hl hP hS
  have kk := kk H locs ls hl hP hS
  rw [← z32_add] at kk
  exact lv_iadd hx hb hd kk
theorem m_isub (hC : mCtx C own cc nL Ts rm g) {a b : Int} (hd : decode cc pc = .ok (.isub, 1)) (kk : MW C g nL k (pc + 1) lv (.int (z32 (a - b)) :: st) S) : MW C g nL k pc lv (.int (z32 b) :: .int (z32 a) :: st) S := by
  obtain ⟨p, l, e, R, s, m, args, below, meth, c, Q, A⟩ := C
  obtain ⟨hx, hb, hml, hown, hts, hK, hD, hA, hlk, hR⟩ := hC
  intro H locs ls hl hP hS
  have kk := kk H locs ls hl hP hS
  rw [← z32_sub] at kk
  exact lv_isub hx hb hd kk
theorem m_imul (hC : mCtx C own cc nL Ts rm g) {a b : Int} (hd : decode cc pc = .ok (.imul, 1)) (kk : MW C g nL k (pc + 1) lv (.int (z32 (a * b)) :: st) S) : MW C g nL k pc lv (.int (z32 b) :: .int (z32 a) :: st) S := by
  obtain ⟨p, l, e, R, s, m, args, below, meth, c, Q, A⟩ := C
  obtain ⟨hx, hb, hml, hown, hts, hK, hD, hA, hlk, hR⟩ := hC
  intro H locs ls hl hP hS
  have kk := kk H locs ls hl hP hS
  rw [← z32_mul] at kk
  exact lv_imul hx hb hd kk
theorem m_ineg (hC : mCtx C own cc nL Ts rm g) {a : Int} (hd : decode cc pc = .ok (.ineg, 1)) (kk : MW C g nL k (pc + 1) lv (.int (z32 (-a)) :: st) S) : MW C g nL k pc lv (.int (z32 a) :: st) S := by
  obtain ⟨p, l, e, R, s, m, args, below, meth, c, Q, A⟩ := C
  obtain ⟨hx, hb, hml, hown, hts, hK, hD, hA, hlk, hR⟩ := hC
  intro H locs ls hl hP hS
  have kk := kk H locs ls hl hP hS
  rw [← z32_neg] at kk
  exact lv_ineg hx hb hd kk
theorem m_idiv (hC : mCtx C own cc nL Ts rm g) {a b : Int} (hd : decode cc pc = .ok (.idiv, 1)) (ha : -2147483648 ≤ a ∧ a < 2147483648) (hb0 : 0 < b ∧ b < 2147483648) (kk : MW C g nL k (pc + 1) lv (.int (z32 (a.tdiv b)) :: st) S) : MW C g nL k pc lv (.int (z32 b) :: .int (z32 a) :: st) S := by
  obtain ⟨p, l, e, R, s, m, args, below, meth, c, Q, A⟩ := C
  obtain ⟨hx, hb, hml, hown, hts, hK, hD, hA, hlk, hR⟩ := hC
  intro H locs ls hl hP hS
  have kk := kk H locs ls hl hP hS
  rw [← z32_div ha hb0] at kk
  exact lv_idiv hx hb hd (by rw [z32_0, z32_eq (by omega) (by omega)]; omega) kk
theorem m_irem (hC : mCtx C own cc nL Ts rm g) {a b : Int} (hd : decode cc pc = .ok (.irem, 1)) (ha : -2147483648 ≤ a ∧ a < 2147483648) (hb0 : 0 < b ∧ b < 2147483648) (kk : MW C g nL k (pc + 1) lv (.int (z32 (a - a.tdiv b * b)) :: st) S) : MW C g nL k pc lv (.int (z32 b) :: .int (z32 a) :: st) S := by
  obtain ⟨p, l, e, R, s, m, args, below, meth, c, Q, A⟩ := C
  obtain ⟨hx, hb, hml, hown, hts, hK, hD, hA, hlk, hR⟩ := hC
  intro H locs ls hl hP hS
  have kk := kk H locs ls hl hP hS
  rw [← z32_sub, ← z32_mul, ← z32_div ha hb0] at kk
  exact lv_irem hx hb hd (by rw [z32_0, z32_eq (by omega) (by omega)]; omega) kk
theorem m_i2l (hC : mCtx C own cc nL Ts rm g) {a : Int} (hd : decode cc pc = .ok (.i2l, 1)) (ha : -2147483648 ≤ a ∧ a < 2147483648) (kk : MW C g nL k (pc + 1) lv (.long (z64 a) :: st) S) : MW C g nL k pc lv (.int (z32 a) :: st) S := by
  obtain ⟨p, l, e, R, s, m, args, below, meth, c, Q, A⟩ := C
  obtain ⟨hx, hb, hml, hown, hts, hK, hD, hA, hlk, hR⟩ := hC
  intro H locs ls hl hP hS
  exact lv_i2l hx hb hd (z32_l ha) (kk H locs ls hl hP hS)
theorem m_l2i (hC : mCtx C own cc nL Ts rm g) {a : Int} (hd : decode cc pc = .ok (.l2i, 1)) (kk : MW C g nL k (pc + 1) lv (.int (z32 a) :: st) S) : MW C g nL k pc lv (.long (z64 a) :: st) S := by
  obtain ⟨p, l, e, R, s, m, args, below, meth, c, Q, A⟩ := C
  obtain ⟨hx, hb, hml, hown, hts, hK, hD, hA, hlk, hR⟩ := hC
  intro H locs ls hl hP hS
  exact lv_l2i hx hb hd (z64_i a) (kk H locs ls hl hP hS)
theorem m_lmul (hC : mCtx C own cc nL Ts rm g) {a b : Int} (hd : decode cc pc = .ok (.lmul, 1)) (kk : MW C g nL k (pc + 1) lv (.long (z64 (a * b)) :: st) S) : MW C g nL k pc lv (.long (z64 b) :: .long (z64 a) :: st) S := by
  obtain ⟨p, l, e, R, s, m, args, below, meth, c, Q, A⟩ := C
  obtain ⟨hx, hb, hml, hown, hts, hK, hD, hA, hlk, hR⟩ := hC
  intro H locs ls hl hP hS
  have kk := kk H locs ls hl hP hS
  rw [← z64_mul] at kk
  exact lv_lmul hx hb hd kk
theorem m_ldiv (hC : mCtx C own cc nL Ts rm g) {a b : Int} (hd : decode cc pc = .ok (.ldiv, 1)) (ha : -9223372036854775808 ≤ a ∧ a < 9223372036854775808) (hb0 : 0 < b ∧ b < 9223372036854775808) (kk : MW C g nL k (pc + 1) lv (.long (z64 (a.tdiv b)) :: st) S) : MW C g nL k pc lv (.long (z64 b) :: .long (z64 a) :: st) S := by
  obtain ⟨p, l, e, R, s, m, args, below, meth, c, Q, A⟩ := C
  obtain ⟨hx, hb, hml, hown, hts, hK, hD, hA, hlk, hR⟩ := hC
  intro H locs ls hl hP hS
  have kk := kk H locs ls hl hP hS
  rw [← z64_div ha hb0] at kk
  refine lv_ldiv hx hb hd (fun q => ?_) kk
  have := congrArg Int64.toInt q
  rw [z64_toInt (by omega), Int64.toInt_zero] at this
  omega
theorem m_ldc2 (hC : mCtx C own cc nL Ts rm g) {index : Nat} {a : Int} (hd : decode cc pc = .ok (.ldc2_w index, 3)) (hm : Jvm.Cond.constantLong own index (z64 a) ∈ Ts) (kk : MW C g nL k (pc + 3) lv (.long (z64 a) :: st) S) : MW C g nL k pc lv st S := by
  obtain ⟨p, l, e, R, s, m, args, below, meth, c, Q, A⟩ := C
  obtain ⟨hx, hb, hml, hown, hts, hK, hD, hA, hlk, hR⟩ := hC
  intro H locs ls hl hP hS
  exact lv_ldc2 hx hb hown (hts _ hm) hd (kk H locs ls hl hP hS)
theorem m_dup (hC : mCtx C own cc nL Ts rm g) {va : Value} (hd : decode cc pc = .ok (.dup, 1)) (hva : va.category = 1) (kk : MW C g nL k (pc + 1) lv (va :: va :: st) S) : MW C g nL k pc lv (va :: st) S := by
  obtain ⟨p, l, e, R, s, m, args, below, meth, c, Q, A⟩ := C
  obtain ⟨hx, hb, hml, hown, hts, hK, hD, hA, hlk, hR⟩ := hC
  intro H locs ls hl hP hS
  exact lv_dup hx hb hd hva (kk H locs ls hl hP hS)
theorem m_pop (hC : mCtx C own cc nL Ts rm g) {va : Value} (hd : decode cc pc = .ok (.pop, 1)) (hva : va.category = 1) (kk : MW C g nL k (pc + 1) lv st S) : MW C g nL k pc lv (va :: st) S := by
  obtain ⟨p, l, e, R, s, m, args, below, meth, c, Q, A⟩ := C
  obtain ⟨hx, hb, hml, hown, hts, hK, hD, hA, hlk, hR⟩ := hC
  intro H locs ls hl hP hS
  exact lv_pop hx hb hd hva (kk H locs ls hl hP hS)
theorem m_dup_x1 (hC : mCtx C own cc nL Ts rm g) {va vb : Value} (hd : decode cc pc = .ok (.dup_x1, 1)) (hva : va.category = 1) (hvb : vb.category = 1) (kk : MW C g nL k (pc + 1) lv (va :: vb :: va :: st) S) : MW C g nL k pc lv (va :: vb :: st) S := by
  obtain ⟨p, l, e, R, s, m, args, below, meth, c, Q, A⟩ := C
  obtain ⟨hx, hb, hml, hown, hts, hK, hD, hA, hlk, hR⟩ := hC
  intro H locs ls hl hP hS
  exact lv_dup_x1 hx hb hd hva hvb (kk H locs ls hl hP hS)
theorem m_dup_x2 (hC : mCtx C own cc nL Ts rm g) {va vb vc : Value} (hd : decode cc pc = .ok (.dup_x2, 1)) (hva : va.category = 1) (hvb : vb.category = 1) (hvc : vc.category = 1) (kk : MW C g nL k (pc + 1) lv (va :: vb :: vc :: va :: st) S) : MW C g nL k pc lv (va :: vb :: vc :: st) S := by
  obtain ⟨p, l, e, R, s, m, args, below, meth, c, Q, A⟩ := C
  obtain ⟨hx, hb, hml, hown, hts, hK, hD, hA, hlk, hR⟩ := hC
  intro H locs ls hl hP hS
  exact lv_dup_x2 hx hb hd hva hvb hvc (kk H locs ls hl hP hS)
theorem m_dup2 (hC : mCtx C own cc nL Ts rm g) {va vb : Value} (hd : decode cc pc = .ok (.dup2, 1)) (hva : va.category = 1) (hvb : vb.category = 1) (kk : MW C g nL k (pc + 1) lv (va :: vb :: va :: vb :: st) S) : MW C g nL k pc lv (va :: vb :: st) S := by
  obtain ⟨p, l, e, R, s, m, args, below, meth, c, Q, A⟩ := C
  obtain ⟨hx, hb, hml, hown, hts, hK, hD, hA, hlk, hR⟩ := hC
  intro H locs ls hl hP hS
  exact lv_dup2_11 hx hb hd hva hvb (kk H locs ls hl hP hS)
theorem m_icmp_eq (hC : mCtx C own cc nL Ts rm g) {a b off : Int} {tgt : Nat} (hd : decode cc pc = .ok (.if_icmp .eq off, 3)) (ht : (pc : Int) + off = (tgt : Int)) (ha : -2147483648 ≤ a ∧ a < 2147483648) (hb0 : -2147483648 ≤ b ∧ b < 2147483648) (kt : a = b → MW C g nL k tgt lv st S) (kf : ¬ (a = b) → MW C g nL k (pc + 3) lv st S) : MW C g nL k pc lv (.int (z32 b) :: .int (z32 a) :: st) S := by
  obtain ⟨p, l, e, R, s, m, args, below, meth, c, Q, A⟩ := C
  obtain ⟨hx, hb, hml, hown, hts, hK, hD, hA, hlk, hR⟩ := hC
  intro H locs ls hl hP hS
  exact lv_icmp_eq hx hb hd ht (fun q => kt ((z32_eq ha hb0).mp q) H locs ls hl hP hS) (fun q => kf (fun r => q ((z32_eq ha hb0).mpr r)) H locs ls hl hP hS)
theorem m_if_eq (hC : mCtx C own cc nL Ts rm g) {a off : Int} {tgt : Nat} (hd : decode cc pc = .ok (.ifCond .eq off, 3)) (ht : (pc : Int) + off = (tgt : Int)) (ha : -2147483648 ≤ a ∧ a < 2147483648) (kt : a = 0 → MW C g nL k tgt lv st S) (kf : ¬ (a = 0) → MW C g nL k (pc + 3) lv st S) : MW C g nL k pc lv (.int (z32 a) :: st) S := by
  obtain ⟨p, l, e, R, s, m, args, below, meth, c, Q, A⟩ := C
  obtain ⟨hx, hb, hml, hown, hts, hK, hD, hA, hlk, hR⟩ := hC
  intro H locs ls hl hP hS
  have hb0 : -2147483648 ≤ (0 : Int) ∧ (0 : Int) < 2147483648 := by omega
  exact lv_if_eq hx hb hd ht (fun q => kt ((z32_eq ha hb0).mp (z32_0 ▸ q)) H locs ls hl hP hS) (fun q => kf (fun r => q (z32_0 ▸ (z32_eq ha hb0).mpr r)) H locs ls hl hP hS)
theorem m_icmp_ne (hC : mCtx C own cc nL Ts rm g) {a b off : Int} {tgt : Nat} (hd : decode cc pc = .ok (.if_icmp .ne off, 3)) (ht : (pc : Int) + off = (tgt : Int)) (ha : -2147483648 ≤ a ∧ a < 2147483648) (hb0 : -2147483648 ≤ b ∧ b < 2147483648) (kt : a ≠ b → MW C g nL k tgt lv st S) (kf : ¬ (a ≠ b) → MW C g nL k (pc + 3) lv st S) : MW C g nL k pc lv (.int (z32 b) :: .int (z32 a) :: st) S := by
  obtain ⟨p, l, e, R, s, m, args, below, meth, c, Q, A⟩ := C
  obtain ⟨hx, hb, hml, hown, hts, hK, hD, hA, hlk, hR⟩ := hC
  intro H locs ls hl hP hS
  exact lv_icmp_ne hx hb hd ht (fun q => kt ((not_congr (z32_eq ha hb0)).mp q) H locs ls hl hP hS) (fun q => kf (fun r => r ((z32_eq ha hb0).mp q)) H locs ls hl hP hS)
theorem m_if_ne (hC : mCtx C own cc nL Ts rm g) {a off : Int} {tgt : Nat} (hd : decode cc pc = .ok (.ifCond .ne off, 3)) (ht : (pc : Int) + off = (tgt : Int)) (ha : -2147483648 ≤ a ∧ a < 2147483648) (kt : a ≠ 0 → MW C g nL k tgt lv st S) (kf : ¬ (a ≠ 0) → MW C g nL k (pc + 3) lv st S) : MW C g nL k pc lv (.int (z32 a) :: st) S := by
  obtain ⟨p, l, e, R, s, m, args, below, meth, c, Q, A⟩ := C
  obtain ⟨hx, hb, hml, hown, hts, hK, hD, hA, hlk, hR⟩ := hC
  intro H locs ls hl hP hS
  have hb0 : -2147483648 ≤ (0 : Int) ∧ (0 : Int) < 2147483648 := by omega
  exact lv_if_ne hx hb hd ht (fun q => kt ((not_congr (z32_eq ha hb0)).mp (z32_0 ▸ q)) H locs ls hl hP hS) (fun q => kf (fun r => r ((z32_eq ha hb0).mp (z32_0 ▸ q))) H locs ls hl hP hS)
theorem m_icmp_lt (hC : mCtx C own cc nL Ts rm g) {a b off : Int} {tgt : Nat} (hd : decode cc pc = .ok (.if_icmp .lt off, 3)) (ht : (pc : Int) + off = (tgt : Int)) (ha : -2147483648 ≤ a ∧ a < 2147483648) (hb0 : -2147483648 ≤ b ∧ b < 2147483648) (kt : a < b → MW C g nL k tgt lv st S) (kf : ¬ (a < b) → MW C g nL k (pc + 3) lv st S) : MW C g nL k pc lv (.int (z32 b) :: .int (z32 a) :: st) S := by
  obtain ⟨p, l, e, R, s, m, args, below, meth, c, Q, A⟩ := C
  obtain ⟨hx, hb, hml, hown, hts, hK, hD, hA, hlk, hR⟩ := hC
  intro H locs ls hl hP hS
  exact lv_icmp_lt hx hb hd ht (fun q => kt ((z32_lt ha hb0).mp q) H locs ls hl hP hS) (fun q => kf (fun r => q ((z32_lt ha hb0).mpr r)) H locs ls hl hP hS)
theorem m_if_lt (hC : mCtx C own cc nL Ts rm g) {a off : Int} {tgt : Nat} (hd : decode cc pc = .ok (.ifCond .lt off, 3)) (ht : (pc : Int) + off = (tgt : Int)) (ha : -2147483648 ≤ a ∧ a < 2147483648) (kt : a < 0 → MW C g nL k tgt lv st S) (kf : ¬ (a < 0) → MW C g nL k (pc + 3) lv st S) : MW C g nL k pc lv (.int (z32 a) :: st) S := by
  obtain ⟨p, l, e, R, s, m, args, below, meth, c, Q, A⟩ := C
  obtain ⟨hx, hb, hml, hown, hts, hK, hD, hA, hlk, hR⟩ := hC
  intro H locs ls hl hP hS
  have hb0 : -2147483648 ≤ (0 : Int) ∧ (0 : Int) < 2147483648 := by omega
  exact lv_if_lt hx hb hd ht (fun q => kt ((z32_lt ha hb0).mp (z32_0 ▸ q)) H locs ls hl hP hS) (fun q => kf (fun r => q (z32_0 ▸ (z32_lt ha hb0).mpr r)) H locs ls hl hP hS)
theorem m_icmp_ge (hC : mCtx C own cc nL Ts rm g) {a b off : Int} {tgt : Nat} (hd : decode cc pc = .ok (.if_icmp .ge off, 3)) (ht : (pc : Int) + off = (tgt : Int)) (ha : -2147483648 ≤ a ∧ a < 2147483648) (hb0 : -2147483648 ≤ b ∧ b < 2147483648) (kt : b ≤ a → MW C g nL k tgt lv st S) (kf : ¬ (b ≤ a) → MW C g nL k (pc + 3) lv st S) : MW C g nL k pc lv (.int (z32 b) :: .int (z32 a) :: st) S := by
  obtain ⟨p, l, e, R, s, m, args, below, meth, c, Q, A⟩ := C
  obtain ⟨hx, hb, hml, hown, hts, hK, hD, hA, hlk, hR⟩ := hC
  intro H locs ls hl hP hS
  exact lv_icmp_ge hx hb hd ht (fun q => kt ((z32_le hb0 ha).mp q) H locs ls hl hP hS) (fun q => kf (fun r => q ((z32_le hb0 ha).mpr r)) H locs ls hl hP hS)
theorem m_if_ge (hC : mCtx C own cc nL Ts rm g) {a off : Int} {tgt : Nat} (hd : decode cc pc = .ok (.ifCond .ge off, 3)) (ht : (pc : Int) + off = (tgt : Int)) (ha : -2147483648 ≤ a ∧ a < 2147483648) (kt : 0 ≤ a → MW C g nL k tgt lv st S) (kf : ¬ (0 ≤ a) → MW C g nL k (pc + 3) lv st S) : MW C g nL k pc lv (.int (z32 a) :: st) S := by
  obtain ⟨p, l, e, R, s, m, args, below, meth, c, Q, A⟩ := C
  obtain ⟨hx, hb, hml, hown, hts, hK, hD, hA, hlk, hR⟩ := hC
  intro H locs ls hl hP hS
  have hb0 : -2147483648 ≤ (0 : Int) ∧ (0 : Int) < 2147483648 := by omega
  exact lv_if_ge hx hb hd ht (fun q => kt ((z32_le hb0 ha).mp (z32_0 ▸ q)) H locs ls hl hP hS) (fun q => kf (fun r => q (z32_0 ▸ (z32_le hb0 ha).mpr r)) H locs ls hl hP hS)
theorem m_icmp_gt (hC : mCtx C own cc nL Ts rm g) {a b off : Int} {tgt : Nat} (hd : decode cc pc = .ok (.if_icmp .gt off, 3)) (ht : (pc : Int) + off = (tgt : Int)) (ha : -2147483648 ≤ a ∧ a < 2147483648) (hb0 : -2147483648 ≤ b ∧ b < 2147483648) (kt : b < a → MW C g nL k tgt lv st S) (kf : ¬ (b < a) → MW C g nL k (pc + 3) lv st S) : MW C g nL k pc lv (.int (z32 b) :: .int (z32 a) :: st) S := by
  obtain ⟨p, l, e, R, s, m, args, below, meth, c, Q, A⟩ := C
  obtain ⟨hx, hb, hml, hown, hts, hK, hD, hA, hlk, hR⟩ := hC
  intro H locs ls hl hP hS
  exact lv_icmp_gt hx hb hd ht (fun q => kt ((z32_lt hb0 ha).mp q) H locs ls hl hP hS) (fun q => kf (fun r => q ((z32_lt hb0 ha).mpr r)) H locs ls hl hP hS)
theorem m_if_gt (hC : mCtx C own cc nL Ts rm g) {a off : Int} {tgt : Nat} (hd : decode cc pc = .ok (.ifCond .gt off, 3)) (ht : (pc : Int) + off = (tgt : Int)) (ha : -2147483648 ≤ a ∧ a < 2147483648) (kt : 0 < a → MW C g nL k tgt lv st S) (kf : ¬ (0 < a) → MW C g nL k (pc + 3) lv st S) : MW C g nL k pc lv (.int (z32 a) :: st) S := by
  obtain ⟨p, l, e, R, s, m, args, below, meth, c, Q, A⟩ := C
  obtain ⟨hx, hb, hml, hown, hts, hK, hD, hA, hlk, hR⟩ := hC
  intro H locs ls hl hP hS
  have hb0 : -2147483648 ≤ (0 : Int) ∧ (0 : Int) < 2147483648 := by omega
  exact lv_if_gt hx hb hd ht (fun q => kt ((z32_lt hb0 ha).mp (z32_0 ▸ q)) H locs ls hl hP hS) (fun q => kf (fun r => q (z32_0 ▸ (z32_lt hb0 ha).mpr r)) H locs ls hl hP hS)
theorem m_icmp_le (hC : mCtx C own cc nL Ts rm g) {a b off : Int} {tgt : Nat} (hd : decode cc pc = .ok (.if_icmp .le off, 3)) (ht : (pc : Int) + off = (tgt : Int)) (ha : -2147483648 ≤ a ∧ a < 2147483648) (hb0 : -2147483648 ≤ b ∧ b < 2147483648) (kt : a ≤ b → MW C g nL k tgt lv st S) (kf : ¬ (a ≤ b) → MW C g nL k (pc + 3) lv st S) : MW C g nL k pc lv (.int (z32 b) :: .int (z32 a) :: st) S := by
  obtain ⟨p, l, e, R, s, m, args, below, meth, c, Q, A⟩ := C
  obtain ⟨hx, hb, hml, hown, hts, hK, hD, hA, hlk, hR⟩ := hC
  intro H locs ls hl hP hS
  exact lv_icmp_le hx hb hd ht (fun q => kt ((z32_le ha hb0).mp q) H locs ls hl hP hS) (fun q => kf (fun r => q ((z32_le ha hb0).mpr r)) H locs ls hl hP hS)
theorem m_if_le (hC : mCtx C own cc nL Ts rm g) {a off : Int} {tgt : Nat} (hd : decode cc pc = .ok (.ifCond .le off, 3)) (ht : (pc : Int) + off = (tgt : Int)) (ha : -2147483648 ≤ a ∧ a < 2147483648) (kt : a ≤ 0 → MW C g nL k tgt lv st S) (kf : ¬ (a ≤ 0) → MW C g nL k (pc + 3) lv st S) : MW C g nL k pc lv (.int (z32 a) :: st) S := by
  obtain ⟨p, l, e, R, s, m, args, below, meth, c, Q, A⟩ := C
  obtain ⟨hx, hb, hml, hown, hts, hK, hD, hA, hlk, hR⟩ := hC
  intro H locs ls hl hP hS
  have hb0 : -2147483648 ≤ (0 : Int) ∧ (0 : Int) < 2147483648 := by omega
  exact lv_if_le hx hb hd ht (fun q => kt ((z32_le ha hb0).mp (z32_0 ▸ q)) H locs ls hl hP hS) (fun q => kf (fun r => q (z32_0 ▸ (z32_le ha hb0).mpr r)) H locs ls hl hP hS)
theorem m_goto (hC : mCtx C own cc nL Ts rm g) {off : Int} {tgt : Nat} (hd : decode cc pc = .ok (.goto off, 3)) (ht : (pc : Int) + off = (tgt : Int)) (kk : MW C g nL k tgt lv st S) : MW C g nL k pc lv st S := by
  obtain ⟨p, l, e, R, s, m, args, below, meth, c, Q, A⟩ := C
  obtain ⟨hx, hb, hml, hown, hts, hK, hD, hA, hlk, hR⟩ := hC
  intro H locs ls hl hP hS
  exact lv_goto hx hb hd ht (kk H locs ls hl hP hS)
theorem m_get (hC : mCtx C own cc nL Ts rm g) {ref CN : String} {T : u_T} {N ci index o j : Nat} {fs : List mF} {f : mF} (hin : ∀ w ∈ u_ws CN T N, w ∈ Ts) (hlk : Cond.fieldLink own index ref (T j).2.1 (T j).2.2.1 ∈ Ts) (hsm : ref = (T j).1) (hd : decode cc pc = .ok (.getfield index, 3)) (ho : gds[o]? = some (.inl (ci, fs))) (hc : vwCl[ci]? = some (CN, T, N)) (hj : j < N) (hf : fs[j]? = some f) (kk : MW C g nL k (pc + 3) lv (mV g S o j f :: st) S) : MW C g nL k pc lv (.ref (g.2.2 o) :: st) S := by
  obtain ⟨p, l, e, R, s, m, args, below, meth, c, Q, A⟩ := C
  obtain ⟨hx, hb, hml, hown, hts, hK, hD, hA, hlk0, hR⟩ := hC
  intro H locs ls hl hP hS
  subst hsm
  exact va_get hx hb hts hin hown hK hP o (mW_at g S ho) hc j hj (hts _ hlk) (fun _ h9 => h9) (mFs_at g S o hf) hd (kk H locs ls hl hP hS)
theorem m_put (hC : mCtx C own cc nL Ts rm g) {ref CN : String} {T : u_T} {N ci index o j : Nat} {fs : List mF} {v : Int} (hin : ∀ w ∈ u_ws CN T N, w ∈ Ts) (hlk : Cond.fieldLink own index ref (T j).2.1 (T j).2.2.1 ∈ Ts) (hsm : ref = (T j).1) (hd : decode cc pc = .ok (.putfield index, 3)) (ho : gds[o]? = some (.inl (ci, fs))) (hc : vwCl[ci]? = some (CN, T, N)) (hj : j < N) (hf : fs[j]? = some (.inr none)) (ty0 : Nat → FieldType) (hty : ∀ k, k < N → parseFieldDescriptor (T k).2.2.1 = some (ty0 k)) (hnm : ∀ a, a < N → ∀ b, b < N → a ≠ b → (T a).2.1 ≠ (T b).2.1) (hfin : (T j).2.2.2 = false) (hti : parseFieldDescriptor (T j).2.2.1 = some .int) (kk : MW C g nL k (pc + 3) lv st (mset S o j v)) : MW C g nL k pc lv (.int (z32 v) :: .ref (g.2.2 o) :: st) S := by
  obtain ⟨p, l, e, R, s, m, args, below, meth, c, Q, A⟩ := C
  obtain ⟨hx, hb, hml, hown, hts, hK, hD, hA, hlk0, hR⟩ := hC
  intro H locs ls hl hP hS
  subst hsm
  refine va_put hx hb hts hin ty0 hty hnm hown hK hP (mD_of S hD) hS o (mW_at g S ho) hc j hj (hts _ hlk) (fun _ h9 => h9) hfin hti (v := .int (z32 v)) rfl rfl (by rw [mFs_len]; exact (List.getElem?_eq_some_iff.mp hf).1) hd (fun H1 locs1 hP1 hD1 hS1 => ?_)
  refine kk H1 locs1 ls hl ?_ hS1
  rw [mFs_set fs 0 j hf, Nat.zero_add] at hP1
  rw [← mW_set ho]
  exact hP1
theorem m_getR (hC : mCtx C own cc nL Ts rm g) {ref CN : String} {T : u_T} {N ci index o j : Nat} {fs : List mF} {a : Nat} (hin : ∀ w ∈ u_ws CN T N, w ∈ Ts) (hlk : Cond.fieldLink own index ref (T j).2.1 (T j).2.2.1 ∈ Ts) (hsm : ref = (T j).1) (hd : decode cc pc = .ok (.getfield index, 3)) (ho : gds[o]? = some (.inl (ci, fs))) (hc : vwCl[ci]? = some (CN, T, N)) (hj : j < N) (hf : fs[j]? = some (.inl a)) (kk : MW C g nL k (pc + 3) lv (.ref (g.2.2 a) :: st) S) : MW C g nL k pc lv (.ref (g.2.2 o) :: st) S := by
  exact m_get hC hin hlk hsm hd ho hc hj hf kk
theorem m_getI (hC : mCtx C own cc nL Ts rm g) {ref CN : String} {T : u_T} {N ci index o j : Nat} {fs : List mF} (ji : Int) (hin : ∀ w ∈ u_ws CN T N, w ∈ Ts) (hlk : Cond.fieldLink own index ref (T j).2.1 (T j).2.2.1 ∈ Ts) (hsm : ref = (T j).1) (hd : decode cc pc = .ok (.getfield index, 3)) (ho : gds[o]? = some (.inl (ci, fs))) (hc : vwCl[ci]? = some (CN, T, N)) (hj : j < N) (hf : fs[j]? = some (.inr none)) (hji : ((j : Nat) : Int) = ji) (kk : MW C g nL k (pc + 3) lv (.int (z32 (S o ji)) :: st) S) : MW C g nL k pc lv (.ref (g.2.2 o) :: st) S := by
  subst hji
  exact m_get hC hin hlk hsm hd ho hc hj hf kk
theorem m_getK (hC : mCtx C own cc nL Ts rm g) {ref CN : String} {T : u_T} {N ci index o j : Nat} {fs : List mF} {v : Int} (hin : ∀ w ∈ u_ws CN T N, w ∈ Ts) (hlk : Cond.fieldLink own index ref (T j).2.1 (T j).2.2.1 ∈ Ts) (hsm : ref = (T j).1) (hd : decode cc pc = .ok (.getfield index, 3)) (ho : gds[o]? = some (.inl (ci, fs))) (hc : vwCl[ci]? = some (CN, T, N)) (hj : j < N) (hf : fs[j]? = some (.inr (some v))) (kk : MW C g nL k (pc + 3) lv (.int (z32 v) :: st) S) : MW C g nL k pc lv (.ref (g.2.2 o) :: st) S := by
  exact m_get hC hin hlk hsm hd ho hc hj hf kk
theorem m_putI (hC : mCtx C own cc nL Ts rm g) {ref CN : String} {T : u_T} {N ci index o j : Nat} {fs : List mF} {v : Int} (ji : Int) (hin : ∀ w ∈ u_ws CN T N, w ∈ Ts) (hlk : Cond.fieldLink own index ref (T j).2.1 (T j).2.2.1 ∈ Ts) (hsm : ref = (T j).1) (hd : decode cc pc = .ok (.putfield index, 3)) (ho : gds[o]? = some (.inl (ci, fs))) (hc : vwCl[ci]? = some (CN, T, N)) (hj : j < N) (hf : fs[j]? = some (.inr none)) (ty0 : Nat → FieldType) (hty : ∀ k, k < N → parseFieldDescriptor (T k).2.2.1 = some (ty0 k)) (hnm : ∀ a, a < N → ∀ b, b < N → a ≠ b → (T a).2.1 ≠ (T b).2.1) (hfin : (T j).2.2.2 = false) (hti : parseFieldDescriptor (T j).2.2.1 = some .int) (hji : ((j : Nat) : Int) = ji) (kk : MW C g nL k (pc + 3) lv st (mset S o ji v)) : MW C g nL k pc lv (.int (z32 v) :: .ref (g.2.2 o) :: st) S := by
  subst hji
  exact m_put hC hin hlk hsm hd ho hc hj hf ty0 hty hnm hfin hti kk
theorem m_iaload (hC : mCtx C own cc nL Ts rm g) {o n : Nat} {i : Int} (ho : gds[o]? = some (.inr (.inl (0, n)))) (hd : decode cc pc = .ok (.iaload, 1)) (h0 : 0 ≤ i) (h1 : i < (n : Int)) (hn : n < 2147483648) (kk : MW C g nL k (pc + 1) lv (.int (z32 (S o i)) :: st) S) : MW C g nL k pc lv (.int (z32 i) :: .ref (g.2.2 o) :: st) S := by
  obtain ⟨p, l, e, R, s, m, args, below, meth, c, Q, A⟩ := C
  obtain ⟨hx, hb, hml, hown, hts, hK, hD, hA, hlk, hR⟩ := hC
  intro H locs ls hl hP hS
  refine va_iald (f := fun j => z32 (S o j)) hx hb hK hP o 0 (mW_at g S ho) rfl (z32_in h0 h1 hn) hd ?_
  have kk := kk H locs ls hl hP hS
  rw [z32_cl h0 (by omega)]
  rw [Int.toNat_of_nonneg h0]
  exact kk
theorem m_baload (hC : mCtx C own cc nL Ts rm g) {o n : Nat} {i : Int} (ho : gds[o]? = some (.inr (.inl (1, n)))) (hd : decode cc pc = .ok (.baload, 1)) (h0 : 0 ≤ i) (h1 : i < (n : Int)) (hn : n < 2147483648) (kk : MW C g nL k (pc + 1) lv (.int (z32 (S o i)) :: st) S) : MW C g nL k pc lv (.int (z32 i) :: .ref (g.2.2 o) :: st) S := by
  obtain ⟨p, l, e, R, s, m, args, below, meth, c, Q, A⟩ := C
  obtain ⟨hx, hb, hml, hown, hts, hK, hD, hA, hlk, hR⟩ := hC
  intro H locs ls hl hP hS
  refine va_zald (f := fun j => z32 (S o j)) hx hb hK hP o 1 (mW_at g S ho) rfl (z32_in h0 h1 hn) hd ?_
  have kk := kk H locs ls hl hP hS
  rw [z32_cl h0 (by omega)]
  rw [Int.toNat_of_nonneg h0]
  exact kk
theorem m_laload (hC : mCtx C own cc nL Ts rm g) {o n : Nat} {i : Int} (ho : gds[o]? = some (.inr (.inr n))) (hd : decode cc pc = .ok (.laload, 1)) (h0 : 0 ≤ i) (h1 : i < (n : Int)) (hn : n < 2147483648) (kk : MW C g nL k (pc + 1) lv (.long (z64 (S o i)) :: st) S) : MW C g nL k pc lv (.int (z32 i) :: .ref (g.2.2 o) :: st) S := by
  obtain ⟨p, l, e, R, s, m, args, below, meth, c, Q, A⟩ := C
  obtain ⟨hx, hb, hml, hown, hts, hK, hD, hA, hlk, hR⟩ := hC
  intro H locs ls hl hP hS
  refine va_lald (f := fun j => z64 (S o j)) hx hb hK hP o 2 (mW_at g S ho) rfl (z32_in h0 h1 hn) hd ?_
  have kk := kk H locs ls hl hP hS
  rw [z32_cl h0 (by omega)]
  rw [Int.toNat_of_nonneg h0]
  exact kk
theorem m_iastore (hC : mCtx C own cc nL Ts rm g) {o n : Nat} {i : Int} {v : Int} (ho : gds[o]? = some (.inr (.inl (0, n)))) (hd : decode cc pc = .ok (.iastore, 1)) (h0 : 0 ≤ i) (h1 : i < (n : Int)) (hn : n < 2147483648) (kk : MW C g nL k (pc + 1) lv st (mset S o i v)) : MW C g nL k pc lv (.int (z32 v) :: .int (z32 i) :: .ref (g.2.2 o) :: st) S := by
  obtain ⟨p, l, e, R, s, m, args, below, meth, c, Q, A⟩ := C
  obtain ⟨hx, hb, hml, hown, hts, hK, hD, hA, hlk, hR⟩ := hC
  intro H locs ls hl hP hS
  refine va_iast (f := fun j => z32 (S o j)) hx hb hK hP (mD_of S hD) hS o 0 (mW_at g S ho) rfl (z32_in h0 h1 hn) hd (fun H1 locs1 hP1 hD1 hS1 => ?_)
  refine kk H1 locs1 ls hl ?_ hS1
  rw [z32_cl h0 (by omega), ← mE_row h0, mW_set ho] at hP1
  exact hP1
theorem m_bastore (hC : mCtx C own cc nL Ts rm g) {o n : Nat} {i : Int} {v : Int} (ho : gds[o]? = some (.inr (.inl (1, n)))) (hd : decode cc pc = .ok (.bastore, 1)) (h0 : 0 ≤ i) (h1 : i < (n : Int)) (hn : n < 2147483648) (hv : v = 0 ∨ v = 1) (kk : MW C g nL k (pc + 1) lv st (mset S o i v)) : MW C g nL k pc lv (.int (z32 v) :: .int (z32 i) :: .ref (g.2.2 o) :: st) S := by
  obtain ⟨p, l, e, R, s, m, args, below, meth, c, Q, A⟩ := C
  obtain ⟨hx, hb, hml, hown, hts, hK, hD, hA, hlk, hR⟩ := hC
  intro H locs ls hl hP hS
  refine va_zast (f := fun j => z32 (S o j)) hx hb hK hP (mD_of S hD) hS o 1 (mW_at g S ho) rfl (z32_in h0 h1 hn) hd (fun H1 locs1 hP1 hD1 hS1 => ?_)
  refine kk H1 locs1 ls hl ?_ hS1
  rw [z32_cl h0 (by omega), show vp_nar .boolean (z32 v) = z32 v by rcases hv with rfl | rfl <;> decide, ← mE_row h0, mW_set ho] at hP1
  exact hP1
theorem m_lastore (hC : mCtx C own cc nL Ts rm g) {o n : Nat} {i : Int} {v : Int} (ho : gds[o]? = some (.inr (.inr n))) (hd : decode cc pc = .ok (.lastore, 1)) (h0 : 0 ≤ i) (h1 : i < (n : Int)) (hn : n < 2147483648) (kk : MW C g nL k (pc + 1) lv st (mset S o i v)) : MW C g nL k pc lv (.long (z64 v) :: .int (z32 i) :: .ref (g.2.2 o) :: st) S := by
  obtain ⟨p, l, e, R, s, m, args, below, meth, c, Q, A⟩ := C
  obtain ⟨hx, hb, hml, hown, hts, hK, hD, hA, hlk, hR⟩ := hC
  intro H locs ls hl hP hS
  refine va_last (f := fun j => z64 (S o j)) hx hb hK hP (mD_of S hD) hS o 2 (mW_at g S ho) rfl (z32_in h0 h1 hn) hd (fun H1 locs1 hP1 hD1 hS1 => ?_)
  refine kk H1 locs1 ls hl ?_ hS1
  rw [z32_cl h0 (by omega), ← mE_rowL h0, mW_set ho] at hP1
  exact hP1
theorem m_alen (hC : mCtx C own cc nL Ts rm g) {o t n : Nat} (ho : gds[o]? = some (.inr (.inl (t, n)))) (ht : t < 3) (hd : decode cc pc = .ok (.arraylength, 1)) (kk : MW C g nL k (pc + 1) lv (.int (z32 (n : Int)) :: st) S) : MW C g nL k pc lv (.ref (g.2.2 o) :: st) S := by
  obtain ⟨p, l, e, R, s, m, args, below, meth, c, Q, A⟩ := C
  obtain ⟨hx, hb, hml, hown, hts, hK, hD, hA, hlk, hR⟩ := hC
  intro H locs ls hl hP hS
  have htt : ∃ ty, (mTys g)[t]? = some (g.2.1 t, ty) := by
    rcases (show t = 0 ∨ t = 1 ∨ t = 2 by omega) with rfl | rfl | rfl <;> exact ⟨_, rfl⟩
  obtain ⟨ty, htt⟩ := htt
  exact va_alen hx hb hK hP o t (mW_at g S ho) htt (v := z32 (n : Int)) (Int32.ofInt_eq_ofNat.symm) hd (kk H locs ls hl hP hS)
/-- behind a call: any answer that the contract allows -/
theorem m_after {mc ms : Nat} {As : Array Value} {rest st0 : List Value} {S : Mem} {Post : Option Value → Mem → Prop} {p : Program} {l : Launch} {e : Env} {R : Room} {s : State} {m : MethodId} {args : Array Value} {below : List Frame} {meth : Method} {c : Code} {Q : State → Prop} {A : Nat → Prop} {H : Heap} {locs : List Loc} {ls : Array Slot} {cells slots : Nat}
    (hD : va_D A (mW g S)) (hA : ∀ q, s.heap.size ≤ q → A q) (hS : va_S A s.heap H locs)
    (hr : va_Run p l e R s m args below meth c H locs cells slots mc ms (F0 m pc ls st0) rest ((fun _ st oc t => (∃ (r : Option Value) (S' : Mem), oc = .returned r ∧ Post r S' ∧ va_P g.1 vwCl (mW g S') t.heap) ∧ va_F (va_A (mW g S) H.size) st t : Array Value → State → Outcome → State → Prop) As) (va_A (mW g S) H.size))
    (kk : ∀ (r : Option Value) (S' : Mem) (H1 : Heap) (locs1 : List Loc), Post r S' → va_P g.1 vwCl (mW g S') H1 → va_S A s.heap H1 locs1 → W p l e R s m args below meth c H1 locs1 (cells + mc) (slots + ms) Q (F0 m (pc + 3) ls (r.toList ++ rest))) : W p l e R s m args below meth c H locs cells slots Q (F0 m pc ls st0) := by
  intro T hT X
  obtain ⟨v, st₀, t, T', L, h0, X', hL, e1, e2, ⟨⟨r, S', hv, hp, hb⟩, hz, hk⟩, st⟩ := hr T hT X
  have hF := mA_free hD hS hA
  cases hv
  rw [h0] at hz hk
  obtain ⟨t2, a1, b1⟩ := kk v S' T'.heap (locs ++ L) hp (by rw [e1]; exact hb)
    ⟨Nat.le_trans hS.1 (by rw [e1]; exact hz), fun q h1 h2 => by rw [e1, hk q (Nat.lt_of_lt_of_le h1 hS.1) (fun z => h2 (hF q z))]; exact hS.2.1 q h1 h2, fun q hq => by
      rcases List.mem_append.mp hq with h | h
      · exact hS.2.2 q h
      · exact hF _ (hL q h)⟩ T' rfl X'
  exact ⟨t2, st t2 a1, b1⟩
theorem m_blind {av : List Value} {sz : Nat} : FrameBlind (va_Pc av (fun U => U.heap.size = sz ∧ va_P g.1 vwCl (mW g S) U.heap ∧ va_K g.1 vwCl (mTys g) U ∧ va_D (fun _ => True) (mW g S))) := fun a U gg mk q => by
  obtain ⟨q0, q1, qP, qK, qD⟩ := q
  exact ⟨q0, q1, qP, va_K.moved (u := U) (U := U.calling gg mk a) (Vm.Alike.refl U.vm) qK, qD⟩
/-- a call of an object's method -/
theorem m_callV {y : MethodName} {ws ws' : List Cond} {rm' : Room} {index maxL n o ci N : Nat} {As rest : List Value} {Post : Option Value → Mem → Prop} {bytes : ByteArray} {ret : Option FieldType} {CN : String} {T : u_T} {fs : List mF}
    (hC : mCtx C own cc nL Ts rm g) (hM : ∀ l, Does l y ws rm' g (.ref (g.2.2 o) :: As) S Post) (hG : GoodIn Ts (wsV own index CN y ws)) (hw : ws = Cond.code y bytes maxL ret :: ws') (hd : decode cc pc = .ok (.invokevirtual index, 3))
    (ho : gds[o]? = some (.inl (ci, fs))) (hc : vwCl[ci]? = some (CN, T, N))
    (hy : y.cls = CN ∧ y.cls ≠ "java/lang/invoke/MethodHandle" ∧ y.cls ≠ "java/lang/invoke/VarHandle" ∧ (parseMethodDescriptor y.desc).map (fun d => d.parameters.length) = some n) (hR : rm'.frames + 1 ≤ rm.frames ∧ 8 + (maxL + 11) + rm'.locals ≤ rm.locals) (hn : As.length = n) (hst : (rest.map fun v => v.category).sum ≤ 8) (hk : k.1 + rm'.cells ≤ rm.cells ∧ k.2 + rm'.slots ≤ rm.slots) (hstk : st = As.reverse ++ .ref (g.2.2 o) :: rest)
    (kk : ∀ r S', Post r S' → MW C g nL (k.1 + rm'.cells, k.2 + rm'.slots) (pc + 3) lv (r.toList ++ rest) S') : MW C g nL k pc lv st S := by
  obtain ⟨p, l, e, R, s, m, args, below, meth, c, Q, A⟩ := C
  obtain ⟨hx, hb, hml, hown, hts, hK, hD, hA, hlk, hRR⟩ := hC
  intro H locs ls hl hP hS
  subst hRR
  refine m_after (As := (Value.ref (g.2.2 o) :: As).toArray) (mD_of S hD) hA hS (va_runV (As := As) (rest := rest) ⟨hx, hb, hml, hown, hts⟩ (hM l H.size) (cwV n hts hG hw rfl rfl hy hR) ⟨m_blind, va_recv hK hP hc (mW_at g S ho), fun U hU hW => ⟨rfl, by rw [hU], by rw [hU]; exact hP, va_K.moved hW.alike hK, (mD_of S hD).weaken (fun _ _ _ _ => trivial)⟩⟩ rfl hn hl.1 hstk (lv_room hst) hd hk) (fun r S' H1 locs1 hp hP1 hS1 => ?_)
  exact kk r S' hp H1 locs1 ls hl hP1 hS1
/-- a call of a static method -/
theorem m_callS {y : MethodName} {ws ws' : List Cond} {rm' : Room} {index maxL n : Nat} {As rest : List Value} {Post : Option Value → Mem → Prop} {bytes : ByteArray} {ret : Option FieldType}
    (hC : mCtx C own cc nL Ts rm g) (hM : ∀ l, Does l y ws rm' g As S Post) (hG : GoodIn Ts (va_wsS own index y ws)) (hw : ws = Cond.code y bytes maxL ret :: ws') (hd : decode cc pc = .ok (.invokestatic index, 3))
    (hy : y.cls = own ∧ y.cls ≠ "java/lang/invoke/MethodHandle" ∧ y.cls ≠ "java/lang/invoke/VarHandle" ∧ (parseMethodDescriptor y.desc).map (fun d => d.parameters.length) = some n) (hR : rm'.frames + 1 ≤ rm.frames ∧ 8 + (maxL + 11) + rm'.locals ≤ rm.locals) (hn : As.length = n) (hst : (rest.map fun v => v.category).sum ≤ 8) (hk : k.1 + rm'.cells ≤ rm.cells ∧ k.2 + rm'.slots ≤ rm.slots) (hstk : st = As.reverse ++ rest)
    (kk : ∀ r S', Post r S' → MW C g nL (k.1 + rm'.cells, k.2 + rm'.slots) (pc + 3) lv (r.toList ++ rest) S') : MW C g nL k pc lv st S := by
  obtain ⟨p, l, e, R, s, m, args, below, meth, c, Q, A⟩ := C
  obtain ⟨hx, hb, hml, hown, hts, hK, hD, hA, hlk, hRR⟩ := hC
  intro H locs ls hl hP hS
  subst hRR
  have hG' : GoodIn Ts (wsS own index y ws) := by
    have h1 := hy.1
    intro w hw
    refine hG w ?_
    unfold wsS at hw
    unfold va_wsS
    rw [h1]
    exact hw
  refine m_after (As := As.toArray) (mD_of S hD) hA hS (va_runS (As := As) (rest := rest) ⟨hx, hb, hml, hown, hts⟩ (hM l H.size) (cwS n hts hG' hw rfl rfl hy hR) ⟨m_blind, fun U hU hW => ⟨rfl, by rw [hU], by rw [hU]; exact hP, va_K.moved hW.alike hK, (mD_of S hD).weaken (fun _ _ _ _ => trivial)⟩⟩ rfl hn hl.1 hstk (lv_room hst) hd hk) (fun r S' H1 locs1 hp hP1 hS1 => ?_)
  exact kk r S' hp H1 locs1 ls hl hP1 hS1
theorem m_min (hC : mCtx C own cc nL Ts rm g) {index : Nat} {a b : Int} (hlink : Cond.methodLink own index Lib.Math.min.name ∈ Ts) (hstat : Cond.static Lib.Math.min.name ∈ Ts) (hini : Cond.initialized "java/lang/Math" ∈ Ts) (hcode : Cond.code Lib.Math.min.name Lib.Math.min.code 2 (some .int) ∈ Ts) (hd : decode cc pc = .ok (.invokestatic index, 3)) (hf : 1 ≤ rm.frames) (hlo : (st.map fun v => v.category).sum + 13 ≤ rm.locals) (hk : k.1 ≤ rm.cells ∧ k.2 ≤ rm.slots)
    (ha : -2147483648 ≤ a ∧ a < 2147483648) (hb0 : -2147483648 ≤ b ∧ b < 2147483648) (kk : MW C g nL k (pc + 3) lv (.int (z32 (if b < a then b else a)) :: st) S) : MW C g nL k pc lv (.int (z32 b) :: .int (z32 a) :: st) S := by
  obtain ⟨p, l, e, R, s, m, args, below, meth, c, Q, A⟩ := C
  obtain ⟨hx, hb, hml, hown, hts, hK, hD, hA, hlk, hRR⟩ := hC
  intro H locs ls hl hP hS
  subst hRR
  refine va_mmin hx hb (hml.trans hl.1.symm) hown (hts _ hlink) (hts _ hstat) (hts _ hini) (hts _ hcode) hf hlo hk.1 hk.2 hd ?_
  have kk := kk H locs ls hl hP hS
  rw [show (if z32 b < z32 a then z32 b else z32 a) = z32 (if b < a then b else a) by
    by_cases h : b < a
    · rw [if_pos h, if_pos ((z32_lt hb0 ha).mpr h)]
    · rw [if_neg h, if_neg (fun q => h ((z32_lt hb0 ha).mp q))]]
  exact kk
/-- ends -/
theorem m_iret (hC : mCtx C own cc nL Ts rm g) {S0 : Mem} {ret : FieldType} {Post : Option Value → Mem → Prop} {a : Int} (hR : mRet C g S0 (some ret) Post rm) (hret : ret = .int ∨ (ret = .boolean ∧ (a = 0 ∨ a = 1))) (hd : decode cc pc = .ok (.ireturn, 1)) (hk : k.1 ≤ rm.cells ∧ k.2 ≤ rm.slots) (hp : Post (some (.int (z32 a))) S) : MW C g nL k pc lv [.int (z32 a)] S := by
  obtain ⟨p, l, e, R, s, m, args, below, meth, c, Q, A⟩ := C
  obtain ⟨hx, hb, hml, hown, hts, hK, hD, hA, hlk, hRR⟩ := hC
  obtain ⟨hr, rfl, rfl⟩ := hR
  intro H locs ls hl hP hS
  have hn : narrow ret (.int (z32 a)) = .int (z32 a) := by
    rcases hret with rfl | ⟨rfl, rfl | rfl⟩
    · rfl
    · decide
    · decide
  refine W.widen hk.1 hk.2 (W.zret hx hb hr hn (fun t ht hW => ⟨⟨_, S, rfl, hp, by rw [ht]; exact hP⟩, hS.F ht⟩) hS.2.2 hd hlk)
theorem m_vret (hC : mCtx C own cc nL Ts rm g) {S0 : Mem} {Post : Option Value → Mem → Prop} (hR : mRet C g S0 none Post rm) (hd : decode cc pc = .ok (.return_, 1)) (hk : k.1 ≤ rm.cells ∧ k.2 ≤ rm.slots) (hp : Post none S) : MW C g nL k pc lv [] S := by
  obtain ⟨p, l, e, R, s, m, args, below, meth, c, Q, A⟩ := C
  obtain ⟨hx, hb, hml, hown, hts, hK, hD, hA, hlk, hRR⟩ := hC
  obtain ⟨hr, rfl, rfl⟩ := hR
  intro H locs ls hl hP hS
  refine W.widen hk.1 hk.2 (W.vret hx hb hr (fun t ht hW => ⟨⟨_, S, rfl, hp, by rw [ht]; exact hP⟩, hS.F ht⟩) hS.2.2 hd hlk)
def PI (v : Int) (S1 : Mem) : Option Value → Mem → Prop := fun r S' => r = some (.int (z32 v)) ∧ S' = S1
def PV (S1 : Mem) : Option Value → Mem → Prop := fun r S' => r = none ∧ S' = S1
def PIx (P : Int → Mem → Prop) : Option Value → Mem → Prop := fun r S' => ∃ v, r = some (.int (z32 v)) ∧ P v S'
def PVx (P : Mem → Prop) : Option Value → Mem → Prop := fun r S' => r = none ∧ P S'
theorem m_callVi {y : MethodName} {ws ws' : List Cond} {fr lo index maxL n : Nat} {o ci N : Nat} {CN : String} {T : u_T} {fs : List mF} {As rest : List Value} {v : Int} {S1 : Mem} {bytes : ByteArray} {ret : Option FieldType}
    (hC : mCtx C own cc nL Ts rm g) (hM : ∀ l, Does l y ws ({ frames := fr, cells := 0, slots := 0, locals := lo } : Room) g (.ref (g.2.2 o) :: As) S (PI v S1)) (hG : GoodIn Ts (wsV own index CN y ws)) (hw : ws = Cond.code y bytes maxL ret :: ws') (hd : decode cc pc = .ok (.invokevirtual index, 3)) (ho : gds[o]? = some (.inl (ci, fs))) (hc : vwCl[ci]? = some (CN, T, N)) 
    (hy : y.cls = CN ∧ y.cls ≠ "java/lang/invoke/MethodHandle" ∧ y.cls ≠ "java/lang/invoke/VarHandle" ∧ (parseMethodDescriptor y.desc).map (fun d => d.parameters.length) = some n) (hR : fr + 1 ≤ rm.frames ∧ 8 + (maxL + 11) + lo ≤ rm.locals) (hn : As.length = n) (hst : (rest.map fun v => v.category).sum ≤ 8) (hk : k.1 ≤ rm.cells ∧ k.2 ≤ rm.slots) (hstk : st = As.reverse ++ .ref (g.2.2 o) :: rest)
    (kk : MW C g nL k (pc + 3) lv (.int (z32 v) :: rest) S1) : MW C g nL k pc lv st S := by
  refine m_callV hC hM hG hw hd ho hc hy hR hn hst hk hstk (fun r S' hp => ?_)
  obtain ⟨rfl, rfl⟩ := hp
  exact kk
theorem m_callVv {y : MethodName} {ws ws' : List Cond} {fr lo index maxL n : Nat} {o ci N : Nat} {CN : String} {T : u_T} {fs : List mF} {As rest : List Value} {S1 : Mem} {bytes : ByteArray} {ret : Option FieldType}
    (hC : mCtx C own cc nL Ts rm g) (hM : ∀ l, Does l y ws ({ frames := fr, cells := 0, slots := 0, locals := lo } : Room) g (.ref (g.2.2 o) :: As) S (PV S1)) (hG : GoodIn Ts (wsV own index CN y ws)) (hw : ws = Cond.code y bytes maxL ret :: ws') (hd : decode cc pc = .ok (.invokevirtual index, 3)) (ho : gds[o]? = some (.inl (ci, fs))) (hc : vwCl[ci]? = some (CN, T, N)) 
    (hy : y.cls = CN ∧ y.cls ≠ "java/lang/invoke/MethodHandle" ∧ y.cls ≠ "java/lang/invoke/VarHandle" ∧ (parseMethodDescriptor y.desc).map (fun d => d.parameters.length) = some n) (hR : fr + 1 ≤ rm.frames ∧ 8 + (maxL + 11) + lo ≤ rm.locals) (hn : As.length = n) (hst : (rest.map fun v => v.category).sum ≤ 8) (hk : k.1 ≤ rm.cells ∧ k.2 ≤ rm.slots) (hstk : st = As.reverse ++ .ref (g.2.2 o) :: rest)
    (kk : MW C g nL k (pc + 3) lv rest S1) : MW C g nL k pc lv st S := by
  refine m_callV hC hM hG hw hd ho hc hy hR hn hst hk hstk (fun r S' hp => ?_)
  obtain ⟨rfl, rfl⟩ := hp
  exact kk
theorem m_callVix {y : MethodName} {ws ws' : List Cond} {fr lo index maxL n : Nat} {o ci N : Nat} {CN : String} {T : u_T} {fs : List mF} {As rest : List Value} {P : Int → Mem → Prop} {bytes : ByteArray} {ret : Option FieldType}
    (hC : mCtx C own cc nL Ts rm g) (hM : ∀ l, Does l y ws ({ frames := fr, cells := 0, slots := 0, locals := lo } : Room) g (.ref (g.2.2 o) :: As) S (PIx P)) (hG : GoodIn Ts (wsV own index CN y ws)) (hw : ws = Cond.code y bytes maxL ret :: ws') (hd : decode cc pc = .ok (.invokevirtual index, 3)) (ho : gds[o]? = some (.inl (ci, fs))) (hc : vwCl[ci]? = some (CN, T, N)) 
    (hy : y.cls = CN ∧ y.cls ≠ "java/lang/invoke/MethodHandle" ∧ y.cls ≠ "java/lang/invoke/VarHandle" ∧ (parseMethodDescriptor y.desc).map (fun d => d.parameters.length) = some n) (hR : fr + 1 ≤ rm.frames ∧ 8 + (maxL + 11) + lo ≤ rm.locals) (hn : As.length = n) (hst : (rest.map fun v => v.category).sum ≤ 8) (hk : k.1 ≤ rm.cells ∧ k.2 ≤ rm.slots) (hstk : st = As.reverse ++ .ref (g.2.2 o) :: rest)
    (kk : ∀ v S1, P v S1 → MW C g nL k (pc + 3) lv (.int (z32 v) :: rest) S1) : MW C g nL k pc lv st S := by
  refine m_callV hC hM hG hw hd ho hc hy hR hn hst hk hstk (fun r S' hp => ?_)
  obtain ⟨v, rfl, hp⟩ := hp
  exact kk v S' hp
theorem m_callVvx {y : MethodName} {ws ws' : List Cond} {fr lo index maxL n : Nat} {o ci N : Nat} {CN : String} {T : u_T} {fs : List mF} {As rest : List Value} {P : Mem → Prop} {bytes : ByteArray} {ret : Option FieldType}
    (hC : mCtx C own cc nL Ts rm g) (hM : ∀ l, Does l y ws ({ frames := fr, cells := 0, slots := 0, locals := lo } : Room) g (.ref (g.2.2 o) :: As) S (PVx P)) (hG : GoodIn Ts (wsV own index CN y ws)) (hw : ws = Cond.code y bytes maxL ret :: ws') (hd : decode cc pc = .ok (.invokevirtual index, 3)) (ho : gds[o]? = some (.inl (ci, fs))) (hc : vwCl[ci]? = some (CN, T, N)) 
    (hy : y.cls = CN ∧ y.cls ≠ "java/lang/invoke/MethodHandle" ∧ y.cls ≠ "java/lang/invoke/VarHandle" ∧ (parseMethodDescriptor y.desc).map (fun d => d.parameters.length) = some n) (hR : fr + 1 ≤ rm.frames ∧ 8 + (maxL + 11) + lo ≤ rm.locals) (hn : As.length = n) (hst : (rest.map fun v => v.category).sum ≤ 8) (hk : k.1 ≤ rm.cells ∧ k.2 ≤ rm.slots) (hstk : st = As.reverse ++ .ref (g.2.2 o) :: rest)
    (kk : ∀ S1, P S1 → MW C g nL k (pc + 3) lv rest S1) : MW C g nL k pc lv st S := by
  refine m_callV hC hM hG hw hd ho hc hy hR hn hst hk hstk (fun r S' hp => ?_)
  obtain ⟨rfl, hp⟩ := hp
  exact kk S' hp
theorem m_callSi {y : MethodName} {ws ws' : List Cond} {fr lo index maxL n : Nat} {As rest : List Value} {v : Int} {S1 : Mem} {bytes : ByteArray} {ret : Option FieldType}
    (hC : mCtx C own cc nL Ts rm g) (hM : ∀ l, Does l y ws ({ frames := fr, cells := 0, slots := 0, locals := lo } : Room) g As S (PI v S1)) (hG : GoodIn Ts (va_wsS own index y ws)) (hw : ws = Cond.code y bytes maxL ret :: ws') (hd : decode cc pc = .ok (.invokestatic index, 3)) 
    (hy : y.cls = own ∧ y.cls ≠ "java/lang/invoke/MethodHandle" ∧ y.cls ≠ "java/lang/invoke/VarHandle" ∧ (parseMethodDescriptor y.desc).map (fun d => d.parameters.length) = some n) (hR : fr + 1 ≤ rm.frames ∧ 8 + (maxL + 11) + lo ≤ rm.locals) (hn : As.length = n) (hst : (rest.map fun v => v.category).sum ≤ 8) (hk : k.1 ≤ rm.cells ∧ k.2 ≤ rm.slots) (hstk : st = As.reverse ++ rest)
    (kk : MW C g nL k (pc + 3) lv (.int (z32 v) :: rest) S1) : MW C g nL k pc lv st S := by
  refine m_callS hC hM hG hw hd hy hR hn hst hk hstk (fun r S' hp => ?_)
  obtain ⟨rfl, rfl⟩ := hp
  exact kk
theorem m_callSv {y : MethodName} {ws ws' : List Cond} {fr lo index maxL n : Nat} {As rest : List Value} {S1 : Mem} {bytes : ByteArray} {ret : Option FieldType}
    (hC : mCtx C own cc nL Ts rm g) (hM : ∀ l, Does l y ws ({ frames := fr, cells := 0, slots := 0, locals := lo } : Room) g As S (PV S1)) (hG : GoodIn Ts (va_wsS own index y ws)) (hw : ws = Cond.code y bytes maxL ret :: ws') (hd : decode cc pc = .ok (.invokestatic index, 3)) 
    (hy : y.cls = own ∧ y.cls ≠ "java/lang/invoke/MethodHandle" ∧ y.cls ≠ "java/lang/invoke/VarHandle" ∧ (parseMethodDescriptor y.desc).map (fun d => d.parameters.length) = some n) (hR : fr + 1 ≤ rm.frames ∧ 8 + (maxL + 11) + lo ≤ rm.locals) (hn : As.length = n) (hst : (rest.map fun v => v.category).sum ≤ 8) (hk : k.1 ≤ rm.cells ∧ k.2 ≤ rm.slots) (hstk : st = As.reverse ++ rest)
    (kk : MW C g nL k (pc + 3) lv rest S1) : MW C g nL k pc lv st S := by
  refine m_callS hC hM hG hw hd hy hR hn hst hk hstk (fun r S' hp => ?_)
  obtain ⟨rfl, rfl⟩ := hp
  exact kk
theorem m_callSix {y : MethodName} {ws ws' : List Cond} {fr lo index maxL n : Nat} {As rest : List Value} {P : Int → Mem → Prop} {bytes : ByteArray} {ret : Option FieldType}
    (hC : mCtx C own cc nL Ts rm g) (hM : ∀ l, Does l y ws ({ frames := fr, cells := 0, slots := 0, locals := lo } : Room) g As S (PIx P)) (hG : GoodIn Ts (va_wsS own index y ws)) (hw : ws = Cond.code y bytes maxL ret :: ws') (hd : decode cc pc = .ok (.invokestatic index, 3)) 
    (hy : y.cls = own ∧ y.cls ≠ "java/lang/invoke/MethodHandle" ∧ y.cls ≠ "java/lang/invoke/VarHandle" ∧ (parseMethodDescriptor y.desc).map (fun d => d.parameters.length) = some n) (hR : fr + 1 ≤ rm.frames ∧ 8 + (maxL + 11) + lo ≤ rm.locals) (hn : As.length = n) (hst : (rest.map fun v => v.category).sum ≤ 8) (hk : k.1 ≤ rm.cells ∧ k.2 ≤ rm.slots) (hstk : st = As.reverse ++ rest)
    (kk : ∀ v S1, P v S1 → MW C g nL k (pc + 3) lv (.int (z32 v) :: rest) S1) : MW C g nL k pc lv st S := by
  refine m_callS hC hM hG hw hd hy hR hn hst hk hstk (fun r S' hp => ?_)
  obtain ⟨v, rfl, hp⟩ := hp
  exact kk v S' hp
theorem m_callSvx {y : MethodName} {ws ws' : List Cond} {fr lo index maxL n : Nat} {As rest : List Value} {P : Mem → Prop} {bytes : ByteArray} {ret : Option FieldType}
    (hC : mCtx C own cc nL Ts rm g) (hM : ∀ l, Does l y ws ({ frames := fr, cells := 0, slots := 0, locals := lo } : Room) g As S (PVx P)) (hG : GoodIn Ts (va_wsS own index y ws)) (hw : ws = Cond.code y bytes maxL ret :: ws') (hd : decode cc pc = .ok (.invokestatic index, 3)) 
    (hy : y.cls = own ∧ y.cls ≠ "java/lang/invoke/MethodHandle" ∧ y.cls ≠ "java/lang/invoke/VarHandle" ∧ (parseMethodDescriptor y.desc).map (fun d => d.parameters.length) = some n) (hR : fr + 1 ≤ rm.frames ∧ 8 + (maxL + 11) + lo ≤ rm.locals) (hn : As.length = n) (hst : (rest.map fun v => v.category).sum ≤ 8) (hk : k.1 ≤ rm.cells ∧ k.2 ≤ rm.slots) (hstk : st = As.reverse ++ rest)
    (kk : ∀ S1, P S1 → MW C g nL k (pc + 3) lv rest S1) : MW C g nL k pc lv st S := by
  refine m_callS hC hM hG hw hd hy hR hn hst hk hstk (fun r S' hp => ?_)
  obtain ⟨rfl, hp⟩ := hp
  exact kk S' hp
theorem m_ireti (hC : mCtx C own cc nL Ts rm g) {S0 : Mem} {ret : FieldType} {a : Int} {v : Int} {S1 : Mem} (hR : mRet C g S0 (some ret) (PI v S1) rm) (hret : ret = .int ∨ (ret = .boolean ∧ (a = 0 ∨ a = 1))) (hd : decode cc pc = .ok (.ireturn, 1)) (hk : k.1 ≤ rm.cells ∧ k.2 ≤ rm.slots) (hv : a = v) (hs : S = S1) : MW C g nL k pc lv [.int (z32 a)] S := m_iret hC hR hret hd hk ⟨by rw [hv], hs⟩
theorem m_iretx (hC : mCtx C own cc nL Ts rm g) {S0 : Mem} {ret : FieldType} {a : Int} {P : Int → Mem → Prop} (hR : mRet C g S0 (some ret) (PIx P) rm) (hret : ret = .int ∨ (ret = .boolean ∧ (a = 0 ∨ a = 1))) (hd : decode cc pc = .ok (.ireturn, 1)) (hk : k.1 ≤ rm.cells ∧ k.2 ≤ rm.slots) (hp : P a S) : MW C g nL k pc lv [.int (z32 a)] S := m_iret hC hR hret hd hk ⟨a, rfl, hp⟩
theorem m_vretv (hC : mCtx C own cc nL Ts rm g) {S0 S1 : Mem} (hR : mRet C g S0 none (PV S1) rm) (hd : decode cc pc = .ok (.return_, 1)) (hk : k.1 ≤ rm.cells ∧ k.2 ≤ rm.slots) (hs : S = S1) : MW C g nL k pc lv [] S := m_vret hC hR hd hk ⟨rfl, hs⟩
theorem m_vretx (hC : mCtx C own cc nL Ts rm g) {S0 : Mem} {P : Mem → Prop} (hR : mRet C g S0 none (PVx P) rm) (hd : decode cc pc = .ok (.return_, 1)) (hk : k.1 ≤ rm.cells ∧ k.2 ≤ rm.slots) (hp : P S) : MW C g nL k pc lv [] S := m_vret hC hR hd hk ⟨rfl, hp⟩
end MINS
end
section
theorem dX2_init_0 : decode cX2_init 0 = .ok (.aload_n 0, 1) := by decide +kernel
theorem dX2_init_1 : decode cX2_init 1 = .ok (.invokespecial 3, 3) := by decide +kernel
theorem dX2_init_4 : decode cX2_init 4 = .ok (.aload_n 0, 1) := by decide +kernel
theorem dX2_init_5 : decode cX2_init 5 = .ok (.iconst 0, 1) := by decide +kernel
theorem dX2_init_6 : decode cX2_init 6 = .ok (.iload_n 1, 1) := by decide +kernel
theorem dX2_init_7 : decode cX2_init 7 = .ok (.bipush 100, 2) := by decide +kernel
theorem dX2_init_9 : decode cX2_init 9 = .ok (.invokestatic 11, 3) := by decide +kernel
theorem dX2_init_12 : decode cX2_init 12 = .ok (.invokestatic 17, 3) := by decide +kernel
theorem dX2_init_15 : decode cX2_init 15 = .ok (.putfield 20, 3) := by decide +kernel
theorem dX2_init_18 : decode cX2_init 18 = .ok (.aload_n 0, 1) := by decide +kernel
theorem dX2_init_19 : decode cX2_init 19 = .ok (.iconst 0, 1) := by decide +kernel
theorem dX2_init_20 : decode cX2_init 20 = .ok (.iload_n 2, 1) := by decide +kernel
theorem dX2_init_21 : decode cX2_init 21 = .ok (.bipush 9, 2) := by decide +kernel
theorem dX2_init_23 : decode cX2_init 23 = .ok (.invokestatic 11, 3) := by decide +kernel
theorem dX2_init_26 : decode cX2_init 26 = .ok (.invokestatic 17, 3) := by decide +kernel
theorem dX2_init_29 : decode cX2_init 29 = .ok (.putfield 24, 3) := by decide +kernel
theorem dX2_init_32 : decode cX2_init 32 = .ok (.aload_n 0, 1) := by decide +kernel
theorem dX2_init_33 : decode cX2_init 33 = .ok (.aload_n 0, 1) := by decide +kernel
theorem dX2_init_34 : decode cX2_init 34 = .ok (.getfield 20, 3) := by decide +kernel
theorem dX2_init_37 : decode cX2_init 37 = .ok (.aload_n 0, 1) := by decide +kernel
theorem dX2_init_38 : decode cX2_init 38 = .ok (.getfield 24, 3) := by decide +kernel
theorem dX2_init_41 : decode cX2_init 41 = .ok (.imul, 1) := by decide +kernel
theorem dX2_init_42 : decode cX2_init 42 = .ok (.newarray .int, 2) := by decide +kernel
theorem dX2_init_44 : decode cX2_init 44 = .ok (.putfield 27, 3) := by decide +kernel
theorem dX2_init_47 : decode cX2_init 47 = .ok (.return_, 1) := by decide +kernel
theorem dX2_placeOf_0 : decode cX2_placeOf 0 = .ok (.iload_n 1, 1) := by decide +kernel
theorem dX2_placeOf_1 : decode cX2_placeOf 1 = .ok (.ifCond .lt 27, 3) := by decide +kernel
theorem dX2_placeOf_4 : decode cX2_placeOf 4 = .ok (.iload_n 1, 1) := by decide +kernel
theorem dX2_placeOf_5 : decode cX2_placeOf 5 = .ok (.aload_n 0, 1) := by decide +kernel
theorem dX2_placeOf_6 : decode cX2_placeOf 6 = .ok (.getfield 20, 3) := by decide +kernel
theorem dX2_placeOf_9 : decode cX2_placeOf 9 = .ok (.if_icmp .ge 19, 3) := by decide +kernel
theorem dX2_placeOf_12 : decode cX2_placeOf 12 = .ok (.iload_n 2, 1) := by decide +kernel
theorem dX2_placeOf_13 : decode cX2_placeOf 13 = .ok (.ifCond .lt 15, 3) := by decide +kernel
theorem dX2_placeOf_16 : decode cX2_placeOf 16 = .ok (.iload_n 2, 1) := by decide +kernel
theorem dX2_placeOf_17 : decode cX2_placeOf 17 = .ok (.aload_n 0, 1) := by decide +kernel
theorem dX2_placeOf_18 : decode cX2_placeOf 18 = .ok (.getfield 24, 3) := by decide +kernel
theorem dX2_placeOf_21 : decode cX2_placeOf 21 = .ok (.if_icmp .ge 7, 3) := by decide +kernel
theorem dX2_placeOf_24 : decode cX2_placeOf 24 = .ok (.iconst 1, 1) := by decide +kernel
theorem dX2_placeOf_25 : decode cX2_placeOf 25 = .ok (.goto 4, 3) := by decide +kernel
theorem dX2_placeOf_28 : decode cX2_placeOf 28 = .ok (.iconst 0, 1) := by decide +kernel
theorem dX2_placeOf_29 : decode cX2_placeOf 29 = .ok (.istore_n 3, 1) := by decide +kernel
theorem dX2_placeOf_30 : decode cX2_placeOf 30 = .ok (.iload_n 3, 1) := by decide +kernel
theorem dX2_placeOf_31 : decode cX2_placeOf 31 = .ok (.ifCond .eq 14, 3) := by decide +kernel
theorem dX2_placeOf_34 : decode cX2_placeOf 34 = .ok (.iload_n 1, 1) := by decide +kernel
theorem dX2_placeOf_35 : decode cX2_placeOf 35 = .ok (.aload_n 0, 1) := by decide +kernel
theorem dX2_placeOf_36 : decode cX2_placeOf 36 = .ok (.getfield 24, 3) := by decide +kernel
theorem dX2_placeOf_39 : decode cX2_placeOf 39 = .ok (.imul, 1) := by decide +kernel
theorem dX2_placeOf_40 : decode cX2_placeOf 40 = .ok (.iload_n 2, 1) := by decide +kernel
theorem dX2_placeOf_41 : decode cX2_placeOf 41 = .ok (.iadd, 1) := by decide +kernel
theorem dX2_placeOf_42 : decode cX2_placeOf 42 = .ok (.goto 4, 3) := by decide +kernel
theorem dX2_placeOf_45 : decode cX2_placeOf 45 = .ok (.iconst (-1), 1) := by decide +kernel
theorem dX2_placeOf_46 : decode cX2_placeOf 46 = .ok (.ireturn, 1) := by decide +kernel
set_option maxRecDepth 20000 in
theorem ggX2_get_X2_placeOf : GoodIn wsX2_get wsX2_placeOf := goodIn_r _ [6, 7, 8, 9, 10, 11] (by decide +kernel) (by decide +kernel)
set_option maxRecDepth 20000 in
theorem gX2_get_X2_placeOf : GoodIn wsX2_get (wsV RX2 31 RX2 yX2_placeOf wsX2_placeOf) := goodIn_app (goodIn_of _ (by decide +kernel)) ggX2_get_X2_placeOf
theorem dX2_get_0 : decode cX2_get 0 = .ok (.aload_n 0, 1) := by decide +kernel
theorem dX2_get_1 : decode cX2_get 1 = .ok (.iload_n 1, 1) := by decide +kernel
theorem dX2_get_2 : decode cX2_get 2 = .ok (.iload_n 2, 1) := by decide +kernel
theorem dX2_get_3 : decode cX2_get 3 = .ok (.invokevirtual 31, 3) := by decide +kernel
theorem dX2_get_6 : decode cX2_get 6 = .ok (.istore_n 3, 1) := by decide +kernel
theorem dX2_get_7 : decode cX2_get 7 = .ok (.iload_n 3, 1) := by decide +kernel
theorem dX2_get_8 : decode cX2_get 8 = .ok (.ifCond .lt 21, 3) := by decide +kernel
theorem dX2_get_11 : decode cX2_get 11 = .ok (.iload_n 3, 1) := by decide +kernel
theorem dX2_get_12 : decode cX2_get 12 = .ok (.aload_n 0, 1) := by decide +kernel
theorem dX2_get_13 : decode cX2_get 13 = .ok (.getfield 27, 3) := by decide +kernel
theorem dX2_get_16 : decode cX2_get 16 = .ok (.arraylength, 1) := by decide +kernel
theorem dX2_get_17 : decode cX2_get 17 = .ok (.if_icmp .ge 12, 3) := by decide +kernel
theorem dX2_get_20 : decode cX2_get 20 = .ok (.aload_n 0, 1) := by decide +kernel
theorem dX2_get_21 : decode cX2_get 21 = .ok (.getfield 27, 3) := by decide +kernel
theorem dX2_get_24 : decode cX2_get 24 = .ok (.iload_n 3, 1) := by decide +kernel
theorem dX2_get_25 : decode cX2_get 25 = .ok (.iaload, 1) := by decide +kernel
theorem dX2_get_26 : decode cX2_get 26 = .ok (.goto 4, 3) := by decide +kernel
theorem dX2_get_29 : decode cX2_get 29 = .ok (.iconst 0, 1) := by decide +kernel
theorem dX2_get_30 : decode cX2_get 30 = .ok (.ireturn, 1) := by decide +kernel
set_option maxRecDepth 20000 in
theorem ggX2_set_X2_placeOf : GoodIn wsX2_set wsX2_placeOf := goodIn_r _ [6, 7, 8, 9, 10, 11] (by decide +kernel) (by decide +kernel)
set_option maxRecDepth 20000 in
theorem gX2_set_X2_placeOf : GoodIn wsX2_set (wsV RX2 31 RX2 yX2_placeOf wsX2_placeOf) := goodIn_app (goodIn_of _ (by decide +kernel)) ggX2_set_X2_placeOf
theorem dX2_set_0 : decode cX2_set 0 = .ok (.aload_n 0, 1) := by decide +kernel
theorem dX2_set_1 : decode cX2_set 1 = .ok (.iload_n 1, 1) := by decide +kernel
theorem dX2_set_2 : decode cX2_set 2 = .ok (.iload_n 2, 1) := by decide +kernel
theorem dX2_set_3 : decode cX2_set 3 = .ok (.invokevirtual 31, 3) := by decide +kernel
theorem dX2_set_6 : decode cX2_set 6 = .ok (.istore 4, 2) := by decide +kernel
theorem dX2_set_8 : decode cX2_set 8 = .ok (.iload 4, 2) := by decide +kernel
theorem dX2_set_10 : decode cX2_set 10 = .ok (.ifCond .lt 21, 3) := by decide +kernel
theorem dX2_set_13 : decode cX2_set 13 = .ok (.iload 4, 2) := by decide +kernel
theorem dX2_set_15 : decode cX2_set 15 = .ok (.aload_n 0, 1) := by decide +kernel
theorem dX2_set_16 : decode cX2_set 16 = .ok (.getfield 27, 3) := by decide +kernel
theorem dX2_set_19 : decode cX2_set 19 = .ok (.arraylength, 1) := by decide +kernel
theorem dX2_set_20 : decode cX2_set 20 = .ok (.if_icmp .ge 11, 3) := by decide +kernel
theorem dX2_set_23 : decode cX2_set 23 = .ok (.aload_n 0, 1) := by decide +kernel
theorem dX2_set_24 : decode cX2_set 24 = .ok (.getfield 27, 3) := by decide +kernel
theorem dX2_set_27 : decode cX2_set 27 = .ok (.iload 4, 2) := by decide +kernel
theorem dX2_set_29 : decode cX2_set 29 = .ok (.iload_n 3, 1) := by decide +kernel
theorem dX2_set_30 : decode cX2_set 30 = .ok (.iastore, 1) := by decide +kernel
theorem dX2_set_31 : decode cX2_set 31 = .ok (.return_, 1) := by decide +kernel
set_option maxRecDepth 20000 in
theorem ggX2_add_X2_get : GoodIn wsX2_add wsX2_get := goodIn_r _ [5, 6, 7, 8, 9, 4, 10, 11, 12, 17, 18, 19] (by decide +kernel) (by decide +kernel)
set_option maxRecDepth 20000 in
theorem gX2_add_X2_get : GoodIn wsX2_add (wsV RX2 34 RX2 yX2_get wsX2_get) := goodIn_app (goodIn_of _ (by decide +kernel)) ggX2_add_X2_get
set_option maxRecDepth 20000 in
theorem ggX2_add_X2_set : GoodIn wsX2_add wsX2_set := goodIn_r _ [16, 6, 7, 8, 9, 4, 10, 11, 12, 17, 18, 19] (by decide +kernel) (by decide +kernel)
set_option maxRecDepth 20000 in
theorem gX2_add_X2_set : GoodIn wsX2_add (wsV RX2 37 RX2 yX2_set wsX2_set) := goodIn_app (goodIn_of _ (by decide +kernel)) ggX2_add_X2_set
theorem dX2_add_0 : decode cX2_add 0 = .ok (.aload_n 0, 1) := by decide +kernel
theorem dX2_add_1 : decode cX2_add 1 = .ok (.iload_n 1, 1) := by decide +kernel
theorem dX2_add_2 : decode cX2_add 2 = .ok (.iload_n 2, 1) := by decide +kernel
theorem dX2_add_3 : decode cX2_add 3 = .ok (.aload_n 0, 1) := by decide +kernel
theorem dX2_add_4 : decode cX2_add 4 = .ok (.iload_n 1, 1) := by decide +kernel
theorem dX2_add_5 : decode cX2_add 5 = .ok (.iload_n 2, 1) := by decide +kernel
theorem dX2_add_6 : decode cX2_add 6 = .ok (.invokevirtual 34, 3) := by decide +kernel
theorem dX2_add_9 : decode cX2_add 9 = .ok (.iload_n 3, 1) := by decide +kernel
theorem dX2_add_10 : decode cX2_add 10 = .ok (.iadd, 1) := by decide +kernel
theorem dX2_add_11 : decode cX2_add 11 = .ok (.invokevirtual 37, 3) := by decide +kernel
theorem dX2_add_14 : decode cX2_add 14 = .ok (.return_, 1) := by decide +kernel
set_option maxRecDepth 20000 in
theorem ggX2_rowSum_X2_get : GoodIn wsX2_rowSum wsX2_get := goodIn_r _ [6, 7, 8, 9, 10, 5, 11, 12, 1, 13, 14, 15] (by decide +kernel) (by decide +kernel)
set_option maxRecDepth 20000 in
theorem gX2_rowSum_X2_get : GoodIn wsX2_rowSum (wsV RX2 34 RX2 yX2_get wsX2_get) := goodIn_app (goodIn_of _ (by decide +kernel)) ggX2_rowSum_X2_get
theorem dX2_rowSum_0 : decode cX2_rowSum 0 = .ok (.iconst 0, 1) := by decide +kernel
theorem dX2_rowSum_1 : decode cX2_rowSum 1 = .ok (.istore_n 2, 1) := by decide +kernel
theorem dX2_rowSum_2 : decode cX2_rowSum 2 = .ok (.iconst 0, 1) := by decide +kernel
theorem dX2_rowSum_3 : decode cX2_rowSum 3 = .ok (.istore_n 3, 1) := by decide +kernel
theorem dX2_rowSum_4 : decode cX2_rowSum 4 = .ok (.iload_n 3, 1) := by decide +kernel
theorem dX2_rowSum_5 : decode cX2_rowSum 5 = .ok (.aload_n 0, 1) := by decide +kernel
theorem dX2_rowSum_6 : decode cX2_rowSum 6 = .ok (.getfield 24, 3) := by decide +kernel
theorem dX2_rowSum_9 : decode cX2_rowSum 9 = .ok (.if_icmp .ge 18, 3) := by decide +kernel
theorem dX2_rowSum_12 : decode cX2_rowSum 12 = .ok (.iload_n 2, 1) := by decide +kernel
theorem dX2_rowSum_13 : decode cX2_rowSum 13 = .ok (.aload_n 0, 1) := by decide +kernel
theorem dX2_rowSum_14 : decode cX2_rowSum 14 = .ok (.iload_n 1, 1) := by decide +kernel
theorem dX2_rowSum_15 : decode cX2_rowSum 15 = .ok (.iload_n 3, 1) := by decide +kernel
theorem dX2_rowSum_16 : decode cX2_rowSum 16 = .ok (.invokevirtual 34, 3) := by decide +kernel
theorem dX2_rowSum_19 : decode cX2_rowSum 19 = .ok (.iadd, 1) := by decide +kernel
theorem dX2_rowSum_20 : decode cX2_rowSum 20 = .ok (.istore_n 2, 1) := by decide +kernel
theorem dX2_rowSum_21 : decode cX2_rowSum 21 = .ok (.iinc 3 1, 3) := by decide +kernel
theorem dX2_rowSum_24 : decode cX2_rowSum 24 = .ok (.goto (-20), 3) := by decide +kernel
theorem dX2_rowSum_27 : decode cX2_rowSum 27 = .ok (.iload_n 2, 1) := by decide +kernel
theorem dX2_rowSum_28 : decode cX2_rowSum 28 = .ok (.ireturn, 1) := by decide +kernel
set_option maxRecDepth 20000 in
theorem ggX2_columnSum_X2_get : GoodIn wsX2_columnSum wsX2_get := goodIn_r _ [6, 7, 8, 9, 10, 5, 11, 1, 12, 13, 14, 15] (by decide +kernel) (by decide +kernel)
set_option maxRecDepth 20000 in
theorem gX2_columnSum_X2_get : GoodIn wsX2_columnSum (wsV RX2 34 RX2 yX2_get wsX2_get) := goodIn_app (goodIn_of _ (by decide +kernel)) ggX2_columnSum_X2_get
theorem dX2_columnSum_0 : decode cX2_columnSum 0 = .ok (.iconst 0, 1) := by decide +kernel
theorem dX2_columnSum_1 : decode cX2_columnSum 1 = .ok (.istore_n 2, 1) := by decide +kernel
theorem dX2_columnSum_2 : decode cX2_columnSum 2 = .ok (.iconst 0, 1) := by decide +kernel
theorem dX2_columnSum_3 : decode cX2_columnSum 3 = .ok (.istore_n 3, 1) := by decide +kernel
theorem dX2_columnSum_4 : decode cX2_columnSum 4 = .ok (.iload_n 3, 1) := by decide +kernel
theorem dX2_columnSum_5 : decode cX2_columnSum 5 = .ok (.aload_n 0, 1) := by decide +kernel
theorem dX2_columnSum_6 : decode cX2_columnSum 6 = .ok (.getfield 20, 3) := by decide +kernel
theorem dX2_columnSum_9 : decode cX2_columnSum 9 = .ok (.if_icmp .ge 18, 3) := by decide +kernel
theorem dX2_columnSum_12 : decode cX2_columnSum 12 = .ok (.iload_n 2, 1) := by decide +kernel
theorem dX2_columnSum_13 : decode cX2_columnSum 13 = .ok (.aload_n 0, 1) := by decide +kernel
theorem dX2_columnSum_14 : decode cX2_columnSum 14 = .ok (.iload_n 3, 1) := by decide +kernel
theorem dX2_columnSum_15 : decode cX2_columnSum 15 = .ok (.iload_n 1, 1) := by decide +kernel
theorem dX2_columnSum_16 : decode cX2_columnSum 16 = .ok (.invokevirtual 34, 3) := by decide +kernel
theorem dX2_columnSum_19 : decode cX2_columnSum 19 = .ok (.iadd, 1) := by decide +kernel
theorem dX2_columnSum_20 : decode cX2_columnSum 20 = .ok (.istore_n 2, 1) := by decide +kernel
theorem dX2_columnSum_21 : decode cX2_columnSum 21 = .ok (.iinc 3 1, 3) := by decide +kernel
theorem dX2_columnSum_24 : decode cX2_columnSum 24 = .ok (.goto (-20), 3) := by decide +kernel
theorem dX2_columnSum_27 : decode cX2_columnSum 27 = .ok (.iload_n 2, 1) := by decide +kernel
theorem dX2_columnSum_28 : decode cX2_columnSum 28 = .ok (.ireturn, 1) := by decide +kernel
set_option maxRecDepth 20000 in
theorem ggX2_clearAllOf_X2_set : GoodIn wsX2_clearAllOf wsX2_set := goodIn_r _ [5, 6, 7, 8, 9, 4, 10, 11, 12, 13, 14, 15] (by decide +kernel) (by decide +kernel)
set_option maxRecDepth 20000 in
theorem gX2_clearAllOf_X2_set : GoodIn wsX2_clearAllOf (wsV RX2 37 RX2 yX2_set wsX2_set) := goodIn_app (goodIn_of _ (by decide +kernel)) ggX2_clearAllOf_X2_set
theorem dX2_clearAllOf_0 : decode cX2_clearAllOf 0 = .ok (.iconst 0, 1) := by decide +kernel
theorem dX2_clearAllOf_1 : decode cX2_clearAllOf 1 = .ok (.istore_n 2, 1) := by decide +kernel
theorem dX2_clearAllOf_2 : decode cX2_clearAllOf 2 = .ok (.iload_n 2, 1) := by decide +kernel
theorem dX2_clearAllOf_3 : decode cX2_clearAllOf 3 = .ok (.bipush 9, 2) := by decide +kernel
theorem dX2_clearAllOf_5 : decode cX2_clearAllOf 5 = .ok (.if_icmp .ge 23, 3) := by decide +kernel
theorem dX2_clearAllOf_8 : decode cX2_clearAllOf 8 = .ok (.aload_n 0, 1) := by decide +kernel
theorem dX2_clearAllOf_9 : decode cX2_clearAllOf 9 = .ok (.iload_n 1, 1) := by decide +kernel
theorem dX2_clearAllOf_10 : decode cX2_clearAllOf 10 = .ok (.iload_n 2, 1) := by decide +kernel
theorem dX2_clearAllOf_11 : decode cX2_clearAllOf 11 = .ok (.iconst 0, 1) := by decide +kernel
theorem dX2_clearAllOf_12 : decode cX2_clearAllOf 12 = .ok (.invokevirtual 37, 3) := by decide +kernel
theorem dX2_clearAllOf_15 : decode cX2_clearAllOf 15 = .ok (.aload_n 0, 1) := by decide +kernel
theorem dX2_clearAllOf_16 : decode cX2_clearAllOf 16 = .ok (.iload_n 2, 1) := by decide +kernel
theorem dX2_clearAllOf_17 : decode cX2_clearAllOf 17 = .ok (.iload_n 1, 1) := by decide +kernel
theorem dX2_clearAllOf_18 : decode cX2_clearAllOf 18 = .ok (.iconst 0, 1) := by decide +kernel
theorem dX2_clearAllOf_19 : decode cX2_clearAllOf 19 = .ok (.invokevirtual 37, 3) := by decide +kernel
theorem dX2_clearAllOf_22 : decode cX2_clearAllOf 22 = .ok (.iinc 2 1, 3) := by decide +kernel
theorem dX2_clearAllOf_25 : decode cX2_clearAllOf 25 = .ok (.goto (-23), 3) := by decide +kernel
theorem dX2_clearAllOf_28 : decode cX2_clearAllOf 28 = .ok (.return_, 1) := by decide +kernel
end
section
/-! ===== tables ===== -/
/-- the object o is a table of R rows and Cn columns, its row of cells the cell a -/
def isTbl (o a : Nat) (R Cn : Int) : Prop := ∃ n : Nat, gds[o]? = some (.inl (2, [.inr (some R), .inr (some Cn), .inl a])) ∧ gds[a]? = some (.inr (.inl (0, n))) ∧ (n : Int) = R * Cn ∧ 0 < R ∧ R ≤ 100 ∧ 0 < Cn ∧ Cn ≤ 9
def tpl (R Cn r c : Int) : Int := if 0 ≤ r ∧ r < R ∧ 0 ≤ c ∧ c < Cn then r * Cn + c else -1
def tg (R Cn : Int) (f : Int → Int) (r c : Int) : Int := if 0 ≤ r ∧ r < R ∧ 0 ≤ c ∧ c < Cn then f (r * Cn + c) else 0
def ts (S : Mem) (a : Nat) (R Cn r c v : Int) : Mem := if 0 ≤ r ∧ r < R ∧ 0 ≤ c ∧ c < Cn then mset S a (r * Cn + c) v else S
def sI (f : Int → Int) : Nat → Int
  | 0 => 0
  | n + 1 => sI f n + f n
def tclr (a : Nat) (R Cn s : Int) (S : Mem) : Nat → Mem
  | 0 => S
  | n + 1 => ts (ts (tclr a R Cn s S n) a R Cn s n 0) a R Cn n s 0
theorem tbl_ix {R Cn r c : Int} (h1 : 0 ≤ r) (h2 : r < R) (h3 : 0 ≤ c) (h4 : c < Cn) (hR : R ≤ 100) (hC : Cn ≤ 9) : 0 ≤ r * Cn + c ∧ r * Cn + c < R * Cn ∧ R * Cn ≤ 900 := by
  have e1 : 0 ≤ r * Cn := Int.mul_nonneg h1 (by omega)
  have e2 : (r + 1) * Cn ≤ R * Cn := Int.mul_le_mul_of_nonneg_right (by omega) (by omega)
  have e3 : R * Cn ≤ 100 * Cn := Int.mul_le_mul_of_nonneg_right hR (by omega)
  rw [Int.add_mul, Int.one_mul] at e2
  omega
theorem tbl_sz {o a : Nat} {R Cn : Int} (hT : isTbl o a R Cn) : 0 < R * Cn ∧ R * Cn ≤ 900 := by
  obtain ⟨n, h1, h2, hn, hR1, hR2, hC1, hC2⟩ := hT
  have e1 := tbl_ix (r := 0) (c := 0) (Int.le_refl 0) hR1 (Int.le_refl 0) hC1 hR2 hC2
  rw [Int.zero_mul] at e1
  omega
theorem tpl_rng {o a : Nat} {R Cn r c : Int} (hT : isTbl o a R Cn) : -1 ≤ tpl R Cn r c ∧ tpl R Cn r c < R * Cn ∧ R * Cn ≤ 900 := by
  have h0 := tbl_sz hT
  obtain ⟨n, h1, h2, hn, hR1, hR2, hC1, hC2⟩ := hT
  unfold tpl
  split
  · rename_i h
    have := tbl_ix h.1 h.2.1 h.2.2.1 h.2.2.2 hR2 hC2
    omega
  · omega
theorem tg_tpl {R Cn r c : Int} {f : Int → Int} (hC : 0 < Cn) : tg R Cn f r c = if 0 ≤ tpl R Cn r c then f (tpl R Cn r c) else 0 := by
  unfold tg tpl
  split
  · rename_i h
    have : 0 ≤ r * Cn := Int.mul_nonneg h.1 (by omega)
    rw [if_pos (by omega)]
  · rw [if_neg (by omega)]
theorem ts_tpl {S : Mem} {a : Nat} {R Cn r c v : Int} (hC : 0 < Cn) : ts S a R Cn r c v = if 0 ≤ tpl R Cn r c then mset S a (tpl R Cn r c) v else S := by
  unfold ts tpl
  split
  · rename_i h
    have : 0 ≤ r * Cn := Int.mul_nonneg h.1 (by omega)
    rw [if_pos (by omega)]
  · rw [if_neg (by omega)]
theorem iX2_placeOf_2 : ∀ w ∈ wsX20, w ∈ wsX2_placeOf := by decide +kernel
theorem fX2_placeOf_24 : Cond.fieldLink RX2 24 "Mutualledger$Table" "columns" "I" ∈ wsX2_placeOf := by decide +kernel
theorem fX2_placeOf_20 : Cond.fieldLink RX2 20 "Mutualledger$Table" "rows" "I" ∈ wsX2_placeOf := by decide +kernel
set_option maxHeartbeats 4000000 in
set_option maxRecDepth 100000 in
theorem c_X2_placeOf {g : mG} {S : Mem} {o a : Nat} {R Cn : Int} (hT : isTbl o a R Cn) {r c : Int} (hr : -2147483648 ≤ r ∧ r < 2147483648) (hc : -2147483648 ≤ c ∧ c < 2147483648) (l : Launch) : Does l yX2_placeOf wsX2_placeOf ({ frames := 0, cells := 0, slots := 0, locals := 0 } : Room) g [.ref (g.2.2 o), .int (z32 r), .int (z32 c)] S (PI (tpl R Cn r c) S) := by
  refine Does.of (cc := cX2_placeOf) (maxL := 4) (ret := (some .int)) (own := RX2) (by decide) rfl rfl (Nat.le_of_ble_eq_true rfl) ?_
  intro C hC hR
  show MW C g 4 (0, 0) 0 [(0, .ref (g.2.2 o)), (1, .int (z32 r)), (2, .int (z32 c))] [] S
  obtain ⟨n, h1, h2, hn, hR1, hR2, hC1, hC2⟩ := id hT
  refine m_iload_n hC dX2_placeOf_0 1 rfl ?_
  refine m_if_lt (tgt := 28) hC dX2_placeOf_1 (by decide) (by omega) (fun c_1 => ?_) (fun c_1 => ?_)
  · refine m_iconst (v := 0) hC dX2_placeOf_28 (by decide) ?_
    refine m_istore_n hC dX2_placeOf_29 (fun z9 => [(3, .int (z32 z9)), (0, .ref (g.2.2 o)), (1, .int (z32 r)), (2, .int (z32 c))]) (by decide) (fun _ => rfl) (fun v3_29 hv3_29 => ?_)
    refine m_iload_n hC dX2_placeOf_30 0 rfl ?_
    refine m_if_eq (tgt := 45) hC dX2_placeOf_31 (by decide) (by omega) (fun c_31 => ?_) (fun c_31 => ?_)
    · refine m_iconst (v := -1) hC dX2_placeOf_45 (by decide) ?_
      refine m_ireti hC hR (Or.inl rfl) dX2_placeOf_46 ⟨Nat.le_of_ble_eq_true rfl, Nat.le_of_ble_eq_true rfl⟩ ?_ ?_
      · unfold tpl; split <;> omega
      · rfl
    · refine m_iload_n hC dX2_placeOf_34 2 rfl ?_
      refine m_aload_n hC dX2_placeOf_35 1 rfl ?_
      refine m_getK (o := o) (j := 1) (v := Cn) (CN := RX2) (T := TX2) (N := 3) hC iX2_placeOf_2 fX2_placeOf_24 rfl dX2_placeOf_36 h1 rfl (by decide) rfl ?_
      refine m_imul hC dX2_placeOf_39 ?_
      refine m_iload_n hC dX2_placeOf_40 3 rfl ?_
      refine m_iadd hC dX2_placeOf_41 ?_
      refine m_goto (tgt := 46) hC dX2_placeOf_42 (by decide) ?_
      refine m_ireti hC hR (Or.inl rfl) dX2_placeOf_46 ⟨Nat.le_of_ble_eq_true rfl, Nat.le_of_ble_eq_true rfl⟩ ?_ ?_
      · unfold tpl; split <;> omega
      · rfl
  · refine m_iload_n hC dX2_placeOf_4 1 rfl ?_
    refine m_aload_n hC dX2_placeOf_5 0 rfl ?_
    refine m_getK (o := o) (j := 0) (v := R) (CN := RX2) (T := TX2) (N := 3) hC iX2_placeOf_2 fX2_placeOf_20 rfl dX2_placeOf_6 h1 rfl (by decide) rfl ?_
    refine m_icmp_ge (tgt := 28) hC dX2_placeOf_9 (by decide) (by omega) (by omega) (fun c_9 => ?_) (fun c_9 => ?_)
    · refine m_iconst (v := 0) hC dX2_placeOf_28 (by decide) ?_
      refine m_istore_n hC dX2_placeOf_29 (fun z9 => [(3, .int (z32 z9)), (0, .ref (g.2.2 o)), (1, .int (z32 r)), (2, .int (z32 c))]) (by decide) (fun _ => rfl) (fun v3_29 hv3_29 => ?_)
      refine m_iload_n hC dX2_placeOf_30 0 rfl ?_
      refine m_if_eq (tgt := 45) hC dX2_placeOf_31 (by decide) (by omega) (fun c_31 => ?_) (fun c_31 => ?_)
      · refine m_iconst (v := -1) hC dX2_placeOf_45 (by decide) ?_
        refine m_ireti hC hR (Or.inl rfl) dX2_placeOf_46 ⟨Nat.le_of_ble_eq_true rfl, Nat.le_of_ble_eq_true rfl⟩ ?_ ?_
        · unfold tpl; split <;> omega
        · rfl
      · refine m_iload_n hC dX2_placeOf_34 2 rfl ?_
        refine m_aload_n hC dX2_placeOf_35 1 rfl ?_
        refine m_getK (o := o) (j := 1) (v := Cn) (CN := RX2) (T := TX2) (N := 3) hC iX2_placeOf_2 fX2_placeOf_24 rfl dX2_placeOf_36 h1 rfl (by decide) rfl ?_
        refine m_imul hC dX2_placeOf_39 ?_
        refine m_iload_n hC dX2_placeOf_40 3 rfl ?_
        refine m_iadd hC dX2_placeOf_41 ?_
        refine m_goto (tgt := 46) hC dX2_placeOf_42 (by decide) ?_
        refine m_ireti hC hR (Or.inl rfl) dX2_placeOf_46 ⟨Nat.le_of_ble_eq_true rfl, Nat.le_of_ble_eq_true rfl⟩ ?_ ?_
        · unfold tpl; split <;> omega
        · rfl
    · refine m_iload_n hC dX2_placeOf_12 2 rfl ?_
      refine m_if_lt (tgt := 28) hC dX2_placeOf_13 (by decide) (by omega) (fun c_13 => ?_) (fun c_13 => ?_)
      · refine m_iconst (v := 0) hC dX2_placeOf_28 (by decide) ?_
        refine m_istore_n hC dX2_placeOf_29 (fun z9 => [(3, .int (z32 z9)), (0, .ref (g.2.2 o)), (1, .int (z32 r)), (2, .int (z32 c))]) (by decide) (fun _ => rfl) (fun v3_29 hv3_29 => ?_)
        refine m_iload_n hC dX2_placeOf_30 0 rfl ?_
        refine m_if_eq (tgt := 45) hC dX2_placeOf_31 (by decide) (by omega) (fun c_31 => ?_) (fun c_31 => ?_)
        · refine m_iconst (v := -1) hC dX2_placeOf_45 (by decide) ?_
          refine m_ireti hC hR (Or.inl rfl) dX2_placeOf_46 ⟨Nat.le_of_ble_eq_true rfl, Nat.le_of_ble_eq_true rfl⟩ ?_ ?_
          · unfold tpl; split <;> omega
          · rfl
        · refine m_iload_n hC dX2_placeOf_34 2 rfl ?_
          refine m_aload_n hC dX2_placeOf_35 1 rfl ?_
          refine m_getK (o := o) (j := 1) (v := Cn) (CN := RX2) (T := TX2) (N := 3) hC iX2_placeOf_2 fX2_placeOf_24 rfl dX2_placeOf_36 h1 rfl (by decide) rfl ?_
          refine m_imul hC dX2_placeOf_39 ?_
          refine m_iload_n hC dX2_placeOf_40 3 rfl ?_
          refine m_iadd hC dX2_placeOf_41 ?_
          refine m_goto (tgt := 46) hC dX2_placeOf_42 (by decide) ?_
          refine m_ireti hC hR (Or.inl rfl) dX2_placeOf_46 ⟨Nat.le_of_ble_eq_true rfl, Nat.le_of_ble_eq_true rfl⟩ ?_ ?_
          · unfold tpl; split <;> omega
          · rfl
      · refine m_iload_n hC dX2_placeOf_16 2 rfl ?_
        refine m_aload_n hC dX2_placeOf_17 0 rfl ?_
        refine m_getK (o := o) (j := 1) (v := Cn) (CN := RX2) (T := TX2) (N := 3) hC iX2_placeOf_2 fX2_placeOf_24 rfl dX2_placeOf_18 h1 rfl (by decide) rfl ?_
        refine m_icmp_ge (tgt := 28) hC dX2_placeOf_21 (by decide) (by omega) (by omega) (fun c_21 => ?_) (fun c_21 => ?_)
        · refine m_iconst (v := 0) hC dX2_placeOf_28 (by decide) ?_
          refine m_istore_n hC dX2_placeOf_29 (fun z9 => [(3, .int (z32 z9)), (0, .ref (g.2.2 o)), (1, .int (z32 r)), (2, .int (z32 c))]) (by decide) (fun _ => rfl) (fun v3_29 hv3_29 => ?_)
          refine m_iload_n hC dX2_placeOf_30 0 rfl ?_
          refine m_if_eq (tgt := 45) hC dX2_placeOf_31 (by decide) (by omega) (fun c_31 => ?_) (fun c_31 => ?_)
          · refine m_iconst (v := -1) hC dX2_placeOf_45 (by decide) ?_
            refine m_ireti hC hR (Or.inl rfl) dX2_placeOf_46 ⟨Nat.le_of_ble_eq_true rfl, Nat.le_of_ble_eq_true rfl⟩ ?_ ?_
            · unfold tpl; split <;> omega
            · rfl
          · refine m_iload_n hC dX2_placeOf_34 2 rfl ?_
            refine m_aload_n hC dX2_placeOf_35 1 rfl ?_
            refine m_getK (o := o) (j := 1) (v := Cn) (CN := RX2) (T := TX2) (N := 3) hC iX2_placeOf_2 fX2_placeOf_24 rfl dX2_placeOf_36 h1 rfl (by decide) rfl ?_
            refine m_imul hC dX2_placeOf_39 ?_
            refine m_iload_n hC dX2_placeOf_40 3 rfl ?_
            refine m_iadd hC dX2_placeOf_41 ?_
            refine m_goto (tgt := 46) hC dX2_placeOf_42 (by decide) ?_
            refine m_ireti hC hR (Or.inl rfl) dX2_placeOf_46 ⟨Nat.le_of_ble_eq_true rfl, Nat.le_of_ble_eq_true rfl⟩ ?_ ?_
            · unfold tpl; split <;> omega
            · rfl
        · refine m_iconst (v := 1) hC dX2_placeOf_24 (by decide) ?_
          refine m_goto (tgt := 29) hC dX2_placeOf_25 (by decide) ?_
          refine m_istore_n hC dX2_placeOf_29 (fun z9 => [(3, .int (z32 z9)), (0, .ref (g.2.2 o)), (1, .int (z32 r)), (2, .int (z32 c))]) (by decide) (fun _ => rfl) (fun v3_29 hv3_29 => ?_)
          refine m_iload_n hC dX2_placeOf_30 0 rfl ?_
          refine m_if_eq (tgt := 45) hC dX2_placeOf_31 (by decide) (by omega) (fun c_31 => ?_) (fun c_31 => ?_)
          · refine m_iconst (v := -1) hC dX2_placeOf_45 (by decide) ?_
            refine m_ireti hC hR (Or.inl rfl) dX2_placeOf_46 ⟨Nat.le_of_ble_eq_true rfl, Nat.le_of_ble_eq_true rfl⟩ ?_ ?_
            · unfold tpl; split <;> omega
            · rfl
          · refine m_iload_n hC dX2_placeOf_34 2 rfl ?_
            refine m_aload_n hC dX2_placeOf_35 1 rfl ?_
            refine m_getK (o := o) (j := 1) (v := Cn) (CN := RX2) (T := TX2) (N := 3) hC iX2_placeOf_2 fX2_placeOf_24 rfl dX2_placeOf_36 h1 rfl (by decide) rfl ?_
            refine m_imul hC dX2_placeOf_39 ?_
            refine m_iload_n hC dX2_placeOf_40 3 rfl ?_
            refine m_iadd hC dX2_placeOf_41 ?_
            refine m_goto (tgt := 46) hC dX2_placeOf_42 (by decide) ?_
            refine m_ireti hC hR (Or.inl rfl) dX2_placeOf_46 ⟨Nat.le_of_ble_eq_true rfl, Nat.le_of_ble_eq_true rfl⟩ ?_ ?_
            · unfold tpl; split <;> omega
            · rfl
theorem iX2_get_2 : ∀ w ∈ wsX20, w ∈ wsX2_get := by decide +kernel
theorem fX2_get_27 : Cond.fieldLink RX2 27 "Mutualledger$Table" "cells" "[I" ∈ wsX2_get := by decide +kernel
set_option maxHeartbeats 4000000 in
set_option maxRecDepth 100000 in
theorem c_X2_get {g : mG} {S : Mem} {o a : Nat} {R Cn : Int} (hT : isTbl o a R Cn) {r c : Int} (hr : -2147483648 ≤ r ∧ r < 2147483648) (hc : -2147483648 ≤ c ∧ c < 2147483648) (l : Launch) : Does l yX2_get wsX2_get ({ frames := 1, cells := 0, slots := 0, locals := 23 } : Room) g [.ref (g.2.2 o), .int (z32 r), .int (z32 c)] S (PI (tg R Cn (S a) r c) S) := by
  refine Does.of (cc := cX2_get) (maxL := 4) (ret := (some .int)) (own := RX2) (by decide) rfl rfl (Nat.le_of_ble_eq_true rfl) ?_
  intro C hC hR
  show MW C g 4 (0, 0) 0 [(0, .ref (g.2.2 o)), (1, .int (z32 r)), (2, .int (z32 c))] [] S
  obtain ⟨n, h1, h2, hn, hR1, hR2, hC1, hC2⟩ := id hT
  have hq := tpl_rng (r := r) (c := c) hT
  refine m_aload_n hC dX2_get_0 0 rfl ?_
  refine m_iload_n hC dX2_get_1 1 rfl ?_
  refine m_iload_n hC dX2_get_2 2 rfl ?_
  refine m_callVi (n := 2) hC (c_X2_placeOf hT hr hc) gX2_get_X2_placeOf rfl dX2_get_3 h1 rfl (by decide +kernel) ⟨Nat.le_of_ble_eq_true rfl, Nat.le_of_ble_eq_true rfl⟩ rfl (Nat.le_of_ble_eq_true rfl) ⟨Nat.le_of_ble_eq_true rfl, Nat.le_of_ble_eq_true rfl⟩ rfl ?_
  refine m_istore_n hC dX2_get_6 (fun z9 => [(3, .int (z32 z9)), (0, .ref (g.2.2 o)), (1, .int (z32 r)), (2, .int (z32 c))]) (by decide) (fun _ => rfl) (fun v3_6 hv3_6 => ?_)
  refine m_iload_n hC dX2_get_7 0 rfl ?_
  refine m_if_lt (tgt := 29) hC dX2_get_8 (by decide) (by omega) (fun c_8 => ?_) (fun c_8 => ?_)
  · refine m_iconst (v := 0) hC dX2_get_29 (by decide) ?_
    refine m_ireti hC hR (Or.inl rfl) dX2_get_30 ⟨Nat.le_of_ble_eq_true rfl, Nat.le_of_ble_eq_true rfl⟩ ?_ ?_
    · rw [tg_tpl hC1, ← hv3_6]; split <;> first | rfl | (exfalso; omega)
    · rfl
  · refine m_iload_n hC dX2_get_11 0 rfl ?_
    refine m_aload_n hC dX2_get_12 1 rfl ?_
    refine m_getR (o := o) (j := 2) (a := a) (CN := RX2) (T := TX2) (N := 3) hC iX2_get_2 fX2_get_27 rfl dX2_get_13 h1 rfl (by decide) rfl ?_
    refine m_alen (o := a) (n := n) hC h2 (by decide) dX2_get_16 ?_
    refine m_icmp_ge (tgt := 29) hC dX2_get_17 (by decide) (by omega) (by omega) (fun c_17 => ?_) (fun c_17 => ?_)
    · refine m_iconst (v := 0) hC dX2_get_29 (by decide) ?_
      refine m_ireti hC hR (Or.inl rfl) dX2_get_30 ⟨Nat.le_of_ble_eq_true rfl, Nat.le_of_ble_eq_true rfl⟩ ?_ ?_
      · rw [tg_tpl hC1, ← hv3_6]; split <;> first | rfl | (exfalso; omega)
      · rfl
    · refine m_aload_n hC dX2_get_20 1 rfl ?_
      refine m_getR (o := o) (j := 2) (a := a) (CN := RX2) (T := TX2) (N := 3) hC iX2_get_2 fX2_get_27 rfl dX2_get_21 h1 rfl (by decide) rfl ?_
      refine m_iload_n hC dX2_get_24 0 rfl ?_
      refine m_iaload (o := a) (n := n) hC h2 dX2_get_25 (by omega) (by omega) (by omega) ?_
      refine m_goto (tgt := 30) hC dX2_get_26 (by decide) ?_
      refine m_ireti hC hR (Or.inl rfl) dX2_get_30 ⟨Nat.le_of_ble_eq_true rfl, Nat.le_of_ble_eq_true rfl⟩ ?_ ?_
      · rw [tg_tpl hC1, ← hv3_6]; split <;> first | rfl | (exfalso; omega)
      · rfl
theorem iX2_set_2 : ∀ w ∈ wsX20, w ∈ wsX2_set := by decide +kernel
theorem fX2_set_27 : Cond.fieldLink RX2 27 "Mutualledger$Table" "cells" "[I" ∈ wsX2_set := by decide +kernel
set_option maxHeartbeats 4000000 in
set_option maxRecDepth 100000 in
theorem c_X2_set {g : mG} {S : Mem} {o a : Nat} {R Cn : Int} (hT : isTbl o a R Cn) {r c v : Int} (hr : -2147483648 ≤ r ∧ r < 2147483648) (hc : -2147483648 ≤ c ∧ c < 2147483648) (l : Launch) : Does l yX2_set wsX2_set ({ frames := 1, cells := 0, slots := 0, locals := 23 } : Room) g [.ref (g.2.2 o), .int (z32 r), .int (z32 c), .int (z32 v)] S (PV (ts S a R Cn r c v)) := by
  refine Does.of (cc := cX2_set) (maxL := 5) (ret := none) (own := RX2) (by decide) rfl rfl (Nat.le_of_ble_eq_true rfl) ?_
  intro C hC hR
  show MW C g 5 (0, 0) 0 [(0, .ref (g.2.2 o)), (1, .int (z32 r)), (2, .int (z32 c)), (3, .int (z32 v))] [] S
  obtain ⟨n, h1, h2, hn, hR1, hR2, hC1, hC2⟩ := id hT
  have hq := tpl_rng (r := r) (c := c) hT
  refine m_aload_n hC dX2_set_0 0 rfl ?_
  refine m_iload_n hC dX2_set_1 1 rfl ?_
  refine m_iload_n hC dX2_set_2 2 rfl ?_
  refine m_callVi (n := 2) hC (c_X2_placeOf hT hr hc) gX2_set_X2_placeOf rfl dX2_set_3 h1 rfl (by decide +kernel) ⟨Nat.le_of_ble_eq_true rfl, Nat.le_of_ble_eq_true rfl⟩ rfl (Nat.le_of_ble_eq_true rfl) ⟨Nat.le_of_ble_eq_true rfl, Nat.le_of_ble_eq_true rfl⟩ rfl ?_
  refine m_istore hC dX2_set_6 (fun z9 => [(4, .int (z32 z9)), (0, .ref (g.2.2 o)), (1, .int (z32 r)), (2, .int (z32 c)), (3, .int (z32 v))]) (by decide) (fun _ => rfl) (fun v4_6 hv4_6 => ?_)
  refine m_iload hC dX2_set_8 0 rfl ?_
  refine m_if_lt (tgt := 31) hC dX2_set_10 (by decide) (by omega) (fun c_10 => ?_) (fun c_10 => ?_)
  · refine m_vretv hC hR dX2_set_31 ⟨Nat.le_of_ble_eq_true rfl, Nat.le_of_ble_eq_true rfl⟩ ?_
    rw [ts_tpl hC1, ← hv4_6]; split <;> first | rfl | (exfalso; omega)
  · refine m_iload hC dX2_set_13 0 rfl ?_
    refine m_aload_n hC dX2_set_15 1 rfl ?_
    refine m_getR (o := o) (j := 2) (a := a) (CN := RX2) (T := TX2) (N := 3) hC iX2_set_2 fX2_set_27 rfl dX2_set_16 h1 rfl (by decide) rfl ?_
    refine m_alen (o := a) (n := n) hC h2 (by decide) dX2_set_19 ?_
    refine m_icmp_ge (tgt := 31) hC dX2_set_20 (by decide) (by omega) (by omega) (fun c_20 => ?_) (fun c_20 => ?_)
    · refine m_vretv hC hR dX2_set_31 ⟨Nat.le_of_ble_eq_true rfl, Nat.le_of_ble_eq_true rfl⟩ ?_
      rw [ts_tpl hC1, ← hv4_6]; split <;> first | rfl | (exfalso; omega)
    · refine m_aload_n hC dX2_set_23 1 rfl ?_
      refine m_getR (o := o) (j := 2) (a := a) (CN := RX2) (T := TX2) (N := 3) hC iX2_set_2 fX2_set_27 rfl dX2_set_24 h1 rfl (by decide) rfl ?_
      refine m_iload hC dX2_set_27 0 rfl ?_
      refine m_iload_n hC dX2_set_29 4 rfl ?_
      refine m_iastore (o := a) (n := n) hC h2 dX2_set_30 (by omega) (by omega) (by omega) ?_
      refine m_vretv hC hR dX2_set_31 ⟨Nat.le_of_ble_eq_true rfl, Nat.le_of_ble_eq_true rfl⟩ ?_
      rw [ts_tpl hC1, ← hv4_6]; split <;> first | rfl | (exfalso; omega)
set_option maxHeartbeats 4000000 in
set_option maxRecDepth 100000 in
theorem c_X2_add {g : mG} {S : Mem} {o a : Nat} {R Cn : Int} (hT : isTbl o a R Cn) {r c v : Int} (hr : -2147483648 ≤ r ∧ r < 2147483648) (hc : -2147483648 ≤ c ∧ c < 2147483648) (l : Launch) : Does l yX2_add wsX2_add ({ frames := 2, cells := 0, slots := 0, locals := 47 } : Room) g [.ref (g.2.2 o), .int (z32 r), .int (z32 c), .int (z32 v)] S (PV (ts S a R Cn r c (tg R Cn (S a) r c + v))) := by
  refine Does.of (cc := cX2_add) (maxL := 4) (ret := none) (own := RX2) (by decide) rfl rfl (Nat.le_of_ble_eq_true rfl) ?_
  intro C hC hR
  show MW C g 4 (0, 0) 0 [(0, .ref (g.2.2 o)), (1, .int (z32 r)), (2, .int (z32 c)), (3, .int (z32 v))] [] S
  obtain ⟨n, h1, h2, hn, hR1, hR2, hC1, hC2⟩ := id hT
  refine m_aload_n hC dX2_add_0 0 rfl ?_
  refine m_iload_n hC dX2_add_1 1 rfl ?_
  refine m_iload_n hC dX2_add_2 2 rfl ?_
  refine m_aload_n hC dX2_add_3 0 rfl ?_
  refine m_iload_n hC dX2_add_4 1 rfl ?_
  refine m_iload_n hC dX2_add_5 2 rfl ?_
  refine m_callVi (n := 2) hC (c_X2_get hT hr hc) gX2_add_X2_get rfl dX2_add_6 h1 rfl (by decide +kernel) ⟨Nat.le_of_ble_eq_true rfl, Nat.le_of_ble_eq_true rfl⟩ rfl (Nat.le_of_ble_eq_true rfl) ⟨Nat.le_of_ble_eq_true rfl, Nat.le_of_ble_eq_true rfl⟩ rfl ?_
  refine m_iload_n hC dX2_add_9 3 rfl ?_
  refine m_iadd hC dX2_add_10 ?_
  refine m_callVv (n := 3) hC (c_X2_set hT hr hc) gX2_add_X2_set rfl dX2_add_11 h1 rfl (by decide +kernel) ⟨Nat.le_of_ble_eq_true rfl, Nat.le_of_ble_eq_true rfl⟩ rfl (Nat.le_of_ble_eq_true rfl) ⟨Nat.le_of_ble_eq_true rfl, Nat.le_of_ble_eq_true rfl⟩ rfl ?_
  refine m_vretv hC hR dX2_add_14 ⟨Nat.le_of_ble_eq_true rfl, Nat.le_of_ble_eq_true rfl⟩ ?_
  rfl
theorem iX2_rowSum_2 : ∀ w ∈ wsX20, w ∈ wsX2_rowSum := by decide +kernel
theorem fX2_rowSum_24 : Cond.fieldLink RX2 24 "Mutualledger$Table" "columns" "I" ∈ wsX2_rowSum := by decide +kernel
set_option maxHeartbeats 4000000 in
set_option maxRecDepth 100000 in
theorem c_X2_rowSum {g : mG} {S : Mem} {o a : Nat} {R Cn : Int} (hT : isTbl o a R Cn) {r : Int} (hr : -2147483648 ≤ r ∧ r < 2147483648) (l : Launch) : Does l yX2_rowSum wsX2_rowSum ({ frames := 2, cells := 0, slots := 0, locals := 46 } : Room) g [.ref (g.2.2 o), .int (z32 r)] S (PI (sI (fun c => tg R Cn (S a) r c) Cn.toNat) S) := by
  refine Does.of (cc := cX2_rowSum) (maxL := 4) (ret := (some .int)) (own := RX2) (by decide) rfl rfl (Nat.le_of_ble_eq_true rfl) ?_
  intro C hC hR
  show MW C g 4 (0, 0) 0 [(0, .ref (g.2.2 o)), (1, .int (z32 r))] [] S
  obtain ⟨n, h1, h2, hn, hR1, hR2, hC1, hC2⟩ := id hT
  refine m_iconst (v := 0) hC dX2_rowSum_0 (by decide) ?_
  refine m_istore_n hC dX2_rowSum_1 (fun z9 => [(2, .int (z32 z9)), (0, .ref (g.2.2 o)), (1, .int (z32 r))]) (by decide) (fun _ => rfl) (fun v2_1 hv2_1 => ?_)
  refine m_iconst (v := 0) hC dX2_rowSum_2 (by decide) ?_
  refine m_istore_n hC dX2_rowSum_3 (fun z9 => [(3, .int (z32 z9)), (2, .int (z32 v2_1)), (0, .ref (g.2.2 o)), (1, .int (z32 r))]) (by decide) (fun _ => rfl) (fun v3_3 hv3_3 => ?_)
  have L4 : ∀ (n4 : Nat) (i : Nat) (x : Int) (sm : Int), Cn - x < (n4 : Int) → x = (i : Int) → (i : Int) ≤ Cn → sm = sI (fun c => tg R Cn (S a) r c) i → MW C g 4 (0, 0) 4 [(0, .ref (g.2.2 o)), (1, .int (z32 r)), (2, .int (z32 sm)), (3, .int (z32 x))] [] S := by
    intro n4
    induction n4 with
    | zero => intros; exfalso; omega
    | succ n4 ih4 =>
      intro i x sm hm4 hx hi hsm
      refine m_iload_n hC dX2_rowSum_4 3 rfl ?_
      refine m_aload_n hC dX2_rowSum_5 0 rfl ?_
      refine m_getK (o := o) (j := 1) (v := Cn) (CN := RX2) (T := TX2) (N := 3) hC iX2_rowSum_2 fX2_rowSum_24 rfl dX2_rowSum_6 h1 rfl (by decide) rfl ?_
      refine m_icmp_ge (tgt := 27) hC dX2_rowSum_9 (by decide) (by omega) (by omega) (fun c_9 => ?_) (fun c_9 => ?_)
      · refine m_iload_n hC dX2_rowSum_27 2 rfl ?_
        refine m_ireti hC hR (Or.inl rfl) dX2_rowSum_28 ⟨Nat.le_of_ble_eq_true rfl, Nat.le_of_ble_eq_true rfl⟩ ?_ ?_
        · rw [hsm, show i = Cn.toNat by omega]
        · rfl
      · refine m_iload_n hC dX2_rowSum_12 2 rfl ?_
        refine m_aload_n hC dX2_rowSum_13 0 rfl ?_
        refine m_iload_n hC dX2_rowSum_14 1 rfl ?_
        refine m_iload_n hC dX2_rowSum_15 3 rfl ?_
        refine m_callVi (n := 2) hC (c_X2_get hT hr (by omega)) gX2_rowSum_X2_get rfl dX2_rowSum_16 h1 rfl (by decide +kernel) ⟨Nat.le_of_ble_eq_true rfl, Nat.le_of_ble_eq_true rfl⟩ rfl (Nat.le_of_ble_eq_true rfl) ⟨Nat.le_of_ble_eq_true rfl, Nat.le_of_ble_eq_true rfl⟩ rfl ?_
        refine m_iadd hC dX2_rowSum_19 ?_
        refine m_istore_n hC dX2_rowSum_20 (fun z9 => [(2, .int (z32 z9)), (0, .ref (g.2.2 o)), (1, .int (z32 r)), (3, .int (z32 x))]) (by decide) (fun _ => rfl) (fun v2_20 hv2_20 => ?_)
        refine m_iinc hC dX2_rowSum_21 3 rfl (fun z9 => [(3, .int (z32 z9)), (2, .int (z32 v2_20)), (0, .ref (g.2.2 o)), (1, .int (z32 r))]) (by decide) (fun _ => rfl) (fun v3_21 hv3_21 => ?_)
        refine m_goto (tgt := 4) hC dX2_rowSum_24 (by decide) ?_
        refine m_locals [2, 3, 1, 0] rfl ?_
        exact ih4 (i + 1) v3_21 v2_20 (by omega) (by omega) (by omega) (by rw [sI, hv2_20, hsm, hx])
  refine m_locals [2, 3, 1, 0] rfl ?_
  exact L4 10 0 v3_3 v2_1 (by omega) (by omega) (by omega) (hv2_1)
theorem iX2_columnSum_2 : ∀ w ∈ wsX20, w ∈ wsX2_columnSum := by decide +kernel
theorem fX2_columnSum_20 : Cond.fieldLink RX2 20 "Mutualledger$Table" "rows" "I" ∈ wsX2_columnSum := by decide +kernel
set_option maxHeartbeats 4000000 in
set_option maxRecDepth 100000 in
theorem c_X2_columnSum {g : mG} {S : Mem} {o a : Nat} {R Cn : Int} (hT : isTbl o a R Cn) {c : Int} (hc : -2147483648 ≤ c ∧ c < 2147483648) (l : Launch) : Does l yX2_columnSum wsX2_columnSum ({ frames := 2, cells := 0, slots := 0, locals := 46 } : Room) g [.ref (g.2.2 o), .int (z32 c)] S (PI (sI (fun r => tg R Cn (S a) r c) R.toNat) S) := by
  refine Does.of (cc := cX2_columnSum) (maxL := 4) (ret := (some .int)) (own := RX2) (by decide) rfl rfl (Nat.le_of_ble_eq_true rfl) ?_
  intro C hC hR
  show MW C g 4 (0, 0) 0 [(0, .ref (g.2.2 o)), (1, .int (z32 c))] [] S
  obtain ⟨n, h1, h2, hn, hR1, hR2, hC1, hC2⟩ := id hT
  refine m_iconst (v := 0) hC dX2_columnSum_0 (by decide) ?_
  refine m_istore_n hC dX2_columnSum_1 (fun z9 => [(2, .int (z32 z9)), (0, .ref (g.2.2 o)), (1, .int (z32 c))]) (by decide) (fun _ => rfl) (fun v2_1 hv2_1 => ?_)
  refine m_iconst (v := 0) hC dX2_columnSum_2 (by decide) ?_
  refine m_istore_n hC dX2_columnSum_3 (fun z9 => [(3, .int (z32 z9)), (2, .int (z32 v2_1)), (0, .ref (g.2.2 o)), (1, .int (z32 c))]) (by decide) (fun _ => rfl) (fun v3_3 hv3_3 => ?_)
  have L4 : ∀ (n4 : Nat) (i : Nat) (x : Int) (sm : Int), R - x < (n4 : Int) → x = (i : Int) → (i : Int) ≤ R → sm = sI (fun r => tg R Cn (S a) r c) i → MW C g 4 (0, 0) 4 [(0, .ref (g.2.2 o)), (1, .int (z32 c)), (2, .int (z32 sm)), (3, .int (z32 x))] [] S := by
    intro n4
    induction n4 with
    | zero => intros; exfalso; omega
    | succ n4 ih4 =>
      intro i x sm hm4 hx hi hsm
      refine m_iload_n hC dX2_columnSum_4 3 rfl ?_
      refine m_aload_n hC dX2_columnSum_5 0 rfl ?_
      refine m_getK (o := o) (j := 0) (v := R) (CN := RX2) (T := TX2) (N := 3) hC iX2_columnSum_2 fX2_columnSum_20 rfl dX2_columnSum_6 h1 rfl (by decide) rfl ?_
      refine m_icmp_ge (tgt := 27) hC dX2_columnSum_9 (by decide) (by omega) (by omega) (fun c_9 => ?_) (fun c_9 => ?_)
      · refine m_iload_n hC dX2_columnSum_27 2 rfl ?_
        refine m_ireti hC hR (Or.inl rfl) dX2_columnSum_28 ⟨Nat.le_of_ble_eq_true rfl, Nat.le_of_ble_eq_true rfl⟩ ?_ ?_
        · rw [hsm, show i = R.toNat by omega]
        · rfl
      · refine m_iload_n hC dX2_columnSum_12 2 rfl ?_
        refine m_aload_n hC dX2_columnSum_13 0 rfl ?_
        refine m_iload_n hC dX2_columnSum_14 3 rfl ?_
        refine m_iload_n hC dX2_columnSum_15 1 rfl ?_
        refine m_callVi (n := 2) hC (c_X2_get hT (by omega) hc) gX2_columnSum_X2_get rfl dX2_columnSum_16 h1 rfl (by decide +kernel) ⟨Nat.le_of_ble_eq_true rfl, Nat.le_of_ble_eq_true rfl⟩ rfl (Nat.le_of_ble_eq_true rfl) ⟨Nat.le_of_ble_eq_true rfl, Nat.le_of_ble_eq_true rfl⟩ rfl ?_
        refine m_iadd hC dX2_columnSum_19 ?_
        refine m_istore_n hC dX2_columnSum_20 (fun z9 => [(2, .int (z32 z9)), (0, .ref (g.2.2 o)), (1, .int (z32 c)), (3, .int (z32 x))]) (by decide) (fun _ => rfl) (fun v2_20 hv2_20 => ?_)
        refine m_iinc hC dX2_columnSum_21 3 rfl (fun z9 => [(3, .int (z32 z9)), (2, .int (z32 v2_20)), (0, .ref (g.2.2 o)), (1, .int (z32 c))]) (by decide) (fun _ => rfl) (fun v3_21 hv3_21 => ?_)
        refine m_goto (tgt := 4) hC dX2_columnSum_24 (by decide) ?_
        refine m_locals [2, 3, 1, 0] rfl ?_
        exact ih4 (i + 1) v3_21 v2_20 (by omega) (by omega) (by omega) (by rw [sI, hv2_20, hsm, hx])
  refine m_locals [2, 3, 1, 0] rfl ?_
  exact L4 101 0 v3_3 v2_1 (by omega) (by omega) (by omega) (hv2_1)
set_option maxHeartbeats 4000000 in
set_option maxRecDepth 100000 in
theorem c_X2_clearAllOf {g : mG} {S : Mem} {o a : Nat} {R Cn : Int} (hT : isTbl o a R Cn) {c : Int} (hc : -2147483648 ≤ c ∧ c < 2147483648) (l : Launch) : Does l yX2_clearAllOf wsX2_clearAllOf ({ frames := 2, cells := 0, slots := 0, locals := 47 } : Room) g [.ref (g.2.2 o), .int (z32 c)] S (PV (tclr a R Cn c S 9)) := by
  refine Does.of (cc := cX2_clearAllOf) (maxL := 3) (ret := none) (own := RX2) (by decide) rfl rfl (Nat.le_of_ble_eq_true rfl) ?_
  intro C hC hR
  show MW C g 3 (0, 0) 0 [(0, .ref (g.2.2 o)), (1, .int (z32 c))] [] S
  obtain ⟨n, h1, h2, hn, hR1, hR2, hC1, hC2⟩ := id hT
  refine m_iconst (v := 0) hC dX2_clearAllOf_0 (by decide) ?_
  refine m_istore_n hC dX2_clearAllOf_1 (fun z9 => [(2, .int (z32 z9)), (0, .ref (g.2.2 o)), (1, .int (z32 c))]) (by decide) (fun _ => rfl) (fun v2_1 hv2_1 => ?_)
  have L2 : ∀ (n2 : Nat) (i : Nat) (x : Int) (S1 : Mem), 9 - x < (n2 : Int) → x = (i : Int) → (i : Int) ≤ 9 → S1 = tclr a R Cn c S i → MW C g 3 (0, 0) 2 [(0, .ref (g.2.2 o)), (1, .int (z32 c)), (2, .int (z32 x))] [] S1 := by
    intro n2
    induction n2 with
    | zero => intros; exfalso; omega
    | succ n2 ih2 =>
      intro i x S1 hm2 hx hi hS1
      refine m_iload_n hC dX2_clearAllOf_2 2 rfl ?_
      refine m_bipush (v := 9) hC dX2_clearAllOf_3 (by decide) ?_
      refine m_icmp_ge (tgt := 28) hC dX2_clearAllOf_5 (by decide) (by omega) (by omega) (fun c_5 => ?_) (fun c_5 => ?_)
      · refine m_vretv hC hR dX2_clearAllOf_28 ⟨Nat.le_of_ble_eq_true rfl, Nat.le_of_ble_eq_true rfl⟩ ?_
        rw [hS1, show i = 9 by omega]
      · refine m_aload_n hC dX2_clearAllOf_8 0 rfl ?_
        refine m_iload_n hC dX2_clearAllOf_9 1 rfl ?_
        refine m_iload_n hC dX2_clearAllOf_10 2 rfl ?_
        refine m_iconst (v := 0) hC dX2_clearAllOf_11 (by decide) ?_
        refine m_callVv (n := 3) hC (c_X2_set hT hc (by omega)) gX2_clearAllOf_X2_set rfl dX2_clearAllOf_12 h1 rfl (by decide +kernel) ⟨Nat.le_of_ble_eq_true rfl, Nat.le_of_ble_eq_true rfl⟩ rfl (Nat.le_of_ble_eq_true rfl) ⟨Nat.le_of_ble_eq_true rfl, Nat.le_of_ble_eq_true rfl⟩ rfl ?_
        refine m_aload_n hC dX2_clearAllOf_15 0 rfl ?_
        refine m_iload_n hC dX2_clearAllOf_16 2 rfl ?_
        refine m_iload_n hC dX2_clearAllOf_17 1 rfl ?_
        refine m_iconst (v := 0) hC dX2_clearAllOf_18 (by decide) ?_
        refine m_callVv (n := 3) hC (c_X2_set hT (by omega) hc) gX2_clearAllOf_X2_set rfl dX2_clearAllOf_19 h1 rfl (by decide +kernel) ⟨Nat.le_of_ble_eq_true rfl, Nat.le_of_ble_eq_true rfl⟩ rfl (Nat.le_of_ble_eq_true rfl) ⟨Nat.le_of_ble_eq_true rfl, Nat.le_of_ble_eq_true rfl⟩ rfl ?_
        refine m_iinc hC dX2_clearAllOf_22 2 rfl (fun z9 => [(2, .int (z32 z9)), (0, .ref (g.2.2 o)), (1, .int (z32 c))]) (by decide) (fun _ => rfl) (fun v2_22 hv2_22 => ?_)
        refine m_goto (tgt := 2) hC dX2_clearAllOf_25 (by decide) ?_
        refine m_locals [1, 2, 0] rfl ?_
        exact ih2 (i + 1) v2_22 _ (by omega) (by omega) (by omega) (by rw [tclr, hS1, hx])
  refine m_locals [1, 2, 0] rfl ?_
  exact L2 10 0 v2_1 S (by omega) (by omega) (by omega) (rfl)
end
section
set_option maxRecDepth 20000 in
theorem ggX0_init_X2_init : GoodIn wsX0_init wsX2_init := goodIn_r _ [11, 12, 2, 3, 13, 14, 15, 16, 17, 18, 19, 20, 21, 22, 23, 24, 25, 26] (by decide +kernel) (by decide +kernel)
set_option maxRecDepth 20000 in
theorem gX0_init_X2_init : GoodIn wsX0_init (wsX2_init) := ggX0_init_X2_init
theorem dX0_init_0 : decode cX0_init 0 = .ok (.aload_n 0, 1) := by decide +kernel
theorem dX0_init_1 : decode cX0_init 1 = .ok (.invokespecial 3, 3) := by decide +kernel
theorem dX0_init_4 : decode cX0_init 4 = .ok (.aload_n 0, 1) := by decide +kernel
theorem dX0_init_5 : decode cX0_init 5 = .ok (.new 9, 3) := by decide +kernel
theorem dX0_init_8 : decode cX0_init 8 = .ok (.dup, 1) := by decide +kernel
theorem dX0_init_9 : decode cX0_init 9 = .ok (.bipush 9, 2) := by decide +kernel
theorem dX0_init_11 : decode cX0_init 11 = .ok (.bipush 9, 2) := by decide +kernel
theorem dX0_init_13 : decode cX0_init 13 = .ok (.invokespecial 11, 3) := by decide +kernel
theorem dX0_init_16 : decode cX0_init 16 = .ok (.putfield 14, 3) := by decide +kernel
theorem dX0_init_19 : decode cX0_init 19 = .ok (.aload_n 0, 1) := by decide +kernel
theorem dX0_init_20 : decode cX0_init 20 = .ok (.new 9, 3) := by decide +kernel
theorem dX0_init_23 : decode cX0_init 23 = .ok (.dup, 1) := by decide +kernel
theorem dX0_init_24 : decode cX0_init 24 = .ok (.bipush 9, 2) := by decide +kernel
theorem dX0_init_26 : decode cX0_init 26 = .ok (.bipush 9, 2) := by decide +kernel
theorem dX0_init_28 : decode cX0_init 28 = .ok (.invokespecial 11, 3) := by decide +kernel
theorem dX0_init_31 : decode cX0_init 31 = .ok (.putfield 20, 3) := by decide +kernel
theorem dX0_init_34 : decode cX0_init 34 = .ok (.return_, 1) := by decide +kernel
set_option maxRecDepth 20000 in
theorem ggX0_owed_X2_get : GoodIn wsX0_owed wsX2_get := goodIn_r _ [6, 7, 8, 9, 10, 5, 11, 12, 13, 16, 17, 18] (by decide +kernel) (by decide +kernel)
set_option maxRecDepth 20000 in
theorem gX0_owed_X2_get : GoodIn wsX0_owed (wsV RX0 23 RX2 yX2_get wsX2_get) := goodIn_app (goodIn_of _ (by decide +kernel)) ggX0_owed_X2_get
theorem dX0_owed_0 : decode cX0_owed 0 = .ok (.aload_n 0, 1) := by decide +kernel
theorem dX0_owed_1 : decode cX0_owed 1 = .ok (.getfield 14, 3) := by decide +kernel
theorem dX0_owed_4 : decode cX0_owed 4 = .ok (.iload_n 1, 1) := by decide +kernel
theorem dX0_owed_5 : decode cX0_owed 5 = .ok (.iload_n 2, 1) := by decide +kernel
theorem dX0_owed_6 : decode cX0_owed 6 = .ok (.invokevirtual 23, 3) := by decide +kernel
theorem dX0_owed_9 : decode cX0_owed 9 = .ok (.ireturn, 1) := by decide +kernel
set_option maxRecDepth 20000 in
theorem ggX0_frozenPart_X2_get : GoodIn wsX0_frozenPart wsX2_get := goodIn_r _ [6, 7, 8, 9, 10, 5, 11, 12, 13, 16, 17, 18] (by decide +kernel) (by decide +kernel)
set_option maxRecDepth 20000 in
theorem gX0_frozenPart_X2_get : GoodIn wsX0_frozenPart (wsV RX0 23 RX2 yX2_get wsX2_get) := goodIn_app (goodIn_of _ (by decide +kernel)) ggX0_frozenPart_X2_get
theorem dX0_frozenPart_0 : decode cX0_frozenPart 0 = .ok (.aload_n 0, 1) := by decide +kernel
theorem dX0_frozenPart_1 : decode cX0_frozenPart 1 = .ok (.getfield 20, 3) := by decide +kernel
theorem dX0_frozenPart_4 : decode cX0_frozenPart 4 = .ok (.iload_n 1, 1) := by decide +kernel
theorem dX0_frozenPart_5 : decode cX0_frozenPart 5 = .ok (.iload_n 2, 1) := by decide +kernel
theorem dX0_frozenPart_6 : decode cX0_frozenPart 6 = .ok (.invokevirtual 23, 3) := by decide +kernel
theorem dX0_frozenPart_9 : decode cX0_frozenPart 9 = .ok (.ireturn, 1) := by decide +kernel
set_option maxRecDepth 20000 in
theorem ggX0_open_X2_get : GoodIn wsX0_open wsX2_get := goodIn_r _ [7, 8, 9, 10, 11, 6, 12, 13, 14, 17, 18, 19] (by decide +kernel) (by decide +kernel)
set_option maxRecDepth 20000 in
theorem gX0_open_X2_get : GoodIn wsX0_open (wsV RX0 23 RX2 yX2_get wsX2_get) := goodIn_app (goodIn_of _ (by decide +kernel)) ggX0_open_X2_get
theorem dX0_open_0 : decode cX0_open 0 = .ok (.aload_n 0, 1) := by decide +kernel
theorem dX0_open_1 : decode cX0_open 1 = .ok (.getfield 14, 3) := by decide +kernel
theorem dX0_open_4 : decode cX0_open 4 = .ok (.iload_n 1, 1) := by decide +kernel
theorem dX0_open_5 : decode cX0_open 5 = .ok (.iload_n 2, 1) := by decide +kernel
theorem dX0_open_6 : decode cX0_open 6 = .ok (.invokevirtual 23, 3) := by decide +kernel
theorem dX0_open_9 : decode cX0_open 9 = .ok (.aload_n 0, 1) := by decide +kernel
theorem dX0_open_10 : decode cX0_open 10 = .ok (.getfield 20, 3) := by decide +kernel
theorem dX0_open_13 : decode cX0_open 13 = .ok (.iload_n 1, 1) := by decide +kernel
theorem dX0_open_14 : decode cX0_open 14 = .ok (.iload_n 2, 1) := by decide +kernel
theorem dX0_open_15 : decode cX0_open 15 = .ok (.invokevirtual 23, 3) := by decide +kernel
theorem dX0_open_18 : decode cX0_open 18 = .ok (.isub, 1) := by decide +kernel
theorem dX0_open_19 : decode cX0_open 19 = .ok (.ireturn, 1) := by decide +kernel
set_option maxRecDepth 20000 in
theorem ggX0_openTo_X2_columnSum : GoodIn wsX0_openTo wsX2_columnSum := goodIn_r _ [7, 8, 9, 10, 11, 6, 12, 13, 14, 15, 16, 17, 18, 21, 22, 23] (by decide +kernel) (by decide +kernel)
set_option maxRecDepth 20000 in
theorem gX0_openTo_X2_columnSum : GoodIn wsX0_openTo (wsV RX0 27 RX2 yX2_columnSum wsX2_columnSum) := goodIn_app (goodIn_of _ (by decide +kernel)) ggX0_openTo_X2_columnSum
theorem dX0_openTo_0 : decode cX0_openTo 0 = .ok (.aload_n 0, 1) := by decide +kernel
theorem dX0_openTo_1 : decode cX0_openTo 1 = .ok (.getfield 14, 3) := by decide +kernel
theorem dX0_openTo_4 : decode cX0_openTo 4 = .ok (.iload_n 1, 1) := by decide +kernel
theorem dX0_openTo_5 : decode cX0_openTo 5 = .ok (.invokevirtual 27, 3) := by decide +kernel
theorem dX0_openTo_8 : decode cX0_openTo 8 = .ok (.aload_n 0, 1) := by decide +kernel
theorem dX0_openTo_9 : decode cX0_openTo 9 = .ok (.getfield 20, 3) := by decide +kernel
theorem dX0_openTo_12 : decode cX0_openTo 12 = .ok (.iload_n 1, 1) := by decide +kernel
theorem dX0_openTo_13 : decode cX0_openTo 13 = .ok (.invokevirtual 27, 3) := by decide +kernel
theorem dX0_openTo_16 : decode cX0_openTo 16 = .ok (.isub, 1) := by decide +kernel
theorem dX0_openTo_17 : decode cX0_openTo 17 = .ok (.ireturn, 1) := by decide +kernel
set_option maxRecDepth 20000 in
theorem ggX0_more_X2_add : GoodIn wsX0_more wsX2_add := goodIn_r _ [6, 7, 8, 9, 5, 10, 11, 12, 13, 14, 15, 16, 17, 18, 19, 20, 21, 24, 25, 26] (by decide +kernel) (by decide +kernel)
set_option maxRecDepth 20000 in
theorem gX0_more_X2_add : GoodIn wsX0_more (wsV RX0 31 RX2 yX2_add wsX2_add) := goodIn_app (goodIn_of _ (by decide +kernel)) ggX0_more_X2_add
theorem dX0_more_0 : decode cX0_more 0 = .ok (.aload_n 0, 1) := by decide +kernel
theorem dX0_more_1 : decode cX0_more 1 = .ok (.getfield 14, 3) := by decide +kernel
theorem dX0_more_4 : decode cX0_more 4 = .ok (.iload_n 1, 1) := by decide +kernel
theorem dX0_more_5 : decode cX0_more 5 = .ok (.iload_n 2, 1) := by decide +kernel
theorem dX0_more_6 : decode cX0_more 6 = .ok (.iload_n 3, 1) := by decide +kernel
theorem dX0_more_7 : decode cX0_more 7 = .ok (.invokevirtual 31, 3) := by decide +kernel
theorem dX0_more_10 : decode cX0_more 10 = .ok (.return_, 1) := by decide +kernel
set_option maxRecDepth 20000 in
theorem ggX0_freeze_X2_add : GoodIn wsX0_freeze wsX2_add := goodIn_r _ [6, 7, 8, 9, 5, 10, 11, 12, 13, 14, 15, 16, 17, 18, 19, 20, 21, 24, 25, 26] (by decide +kernel) (by decide +kernel)
set_option maxRecDepth 20000 in
theorem gX0_freeze_X2_add : GoodIn wsX0_freeze (wsV RX0 31 RX2 yX2_add wsX2_add) := goodIn_app (goodIn_of _ (by decide +kernel)) ggX0_freeze_X2_add
theorem dX0_freeze_0 : decode cX0_freeze 0 = .ok (.aload_n 0, 1) := by decide +kernel
theorem dX0_freeze_1 : decode cX0_freeze 1 = .ok (.getfield 20, 3) := by decide +kernel
theorem dX0_freeze_4 : decode cX0_freeze 4 = .ok (.iload_n 1, 1) := by decide +kernel
theorem dX0_freeze_5 : decode cX0_freeze 5 = .ok (.iload_n 2, 1) := by decide +kernel
theorem dX0_freeze_6 : decode cX0_freeze 6 = .ok (.iload_n 3, 1) := by decide +kernel
theorem dX0_freeze_7 : decode cX0_freeze 7 = .ok (.invokevirtual 31, 3) := by decide +kernel
theorem dX0_freeze_10 : decode cX0_freeze 10 = .ok (.return_, 1) := by decide +kernel
set_option maxRecDepth 20000 in
theorem ggX0_balanceOf_X2_columnSum : GoodIn wsX0_balanceOf wsX2_columnSum := goodIn_r _ [6, 7, 8, 9, 10, 5, 11, 12, 13, 14, 15, 16, 17, 24, 25, 26] (by decide +kernel) (by decide +kernel)
set_option maxRecDepth 20000 in
theorem gX0_balanceOf_X2_columnSum : GoodIn wsX0_balanceOf (wsV RX0 27 RX2 yX2_columnSum wsX2_columnSum) := goodIn_app (goodIn_of _ (by decide +kernel)) ggX0_balanceOf_X2_columnSum
set_option maxRecDepth 20000 in
theorem ggX0_balanceOf_X2_rowSum : GoodIn wsX0_balanceOf wsX2_rowSum := goodIn_r _ [21, 17, 8, 9, 10, 5, 11, 12, 13, 14, 15, 16, 7, 24, 25, 26] (by decide +kernel) (by decide +kernel)
set_option maxRecDepth 20000 in
theorem gX0_balanceOf_X2_rowSum : GoodIn wsX0_balanceOf (wsV RX0 35 RX2 yX2_rowSum wsX2_rowSum) := goodIn_app (goodIn_of _ (by decide +kernel)) ggX0_balanceOf_X2_rowSum
theorem dX0_balanceOf_0 : decode cX0_balanceOf 0 = .ok (.aload_n 0, 1) := by decide +kernel
theorem dX0_balanceOf_1 : decode cX0_balanceOf 1 = .ok (.getfield 14, 3) := by decide +kernel
theorem dX0_balanceOf_4 : decode cX0_balanceOf 4 = .ok (.iload_n 1, 1) := by decide +kernel
theorem dX0_balanceOf_5 : decode cX0_balanceOf 5 = .ok (.invokevirtual 27, 3) := by decide +kernel
theorem dX0_balanceOf_8 : decode cX0_balanceOf 8 = .ok (.aload_n 0, 1) := by decide +kernel
theorem dX0_balanceOf_9 : decode cX0_balanceOf 9 = .ok (.getfield 14, 3) := by decide +kernel
theorem dX0_balanceOf_12 : decode cX0_balanceOf 12 = .ok (.iload_n 1, 1) := by decide +kernel
theorem dX0_balanceOf_13 : decode cX0_balanceOf 13 = .ok (.invokevirtual 35, 3) := by decide +kernel
theorem dX0_balanceOf_16 : decode cX0_balanceOf 16 = .ok (.isub, 1) := by decide +kernel
theorem dX0_balanceOf_17 : decode cX0_balanceOf 17 = .ok (.ireturn, 1) := by decide +kernel
set_option maxRecDepth 20000 in
theorem ggX0_greatestOpenDebtorOf_X0_open : GoodIn wsX0_greatestOpenDebtorOf wsX0_open := goodIn_r _ [5, 6, 7, 8, 9, 10, 11, 12, 13, 14, 15, 16, 17, 18, 19, 20, 21, 22, 23, 24] (by decide +kernel) (by decide +kernel)
set_option maxRecDepth 20000 in
theorem gX0_greatestOpenDebtorOf_X0_open : GoodIn wsX0_greatestOpenDebtorOf (wsV RX0 38 RX0 yX0_open wsX0_open) := goodIn_app (goodIn_of _ (by decide +kernel)) ggX0_greatestOpenDebtorOf_X0_open
theorem dX0_greatestOpenDebtorOf_0 : decode cX0_greatestOpenDebtorOf 0 = .ok (.iconst 0, 1) := by decide +kernel
theorem dX0_greatestOpenDebtorOf_1 : decode cX0_greatestOpenDebtorOf 1 = .ok (.istore_n 2, 1) := by decide +kernel
theorem dX0_greatestOpenDebtorOf_2 : decode cX0_greatestOpenDebtorOf 2 = .ok (.iconst 1, 1) := by decide +kernel
theorem dX0_greatestOpenDebtorOf_3 : decode cX0_greatestOpenDebtorOf 3 = .ok (.istore_n 3, 1) := by decide +kernel
theorem dX0_greatestOpenDebtorOf_4 : decode cX0_greatestOpenDebtorOf 4 = .ok (.iload_n 3, 1) := by decide +kernel
theorem dX0_greatestOpenDebtorOf_5 : decode cX0_greatestOpenDebtorOf 5 = .ok (.bipush 8, 2) := by decide +kernel
theorem dX0_greatestOpenDebtorOf_7 : decode cX0_greatestOpenDebtorOf 7 = .ok (.if_icmp .ge 26, 3) := by decide +kernel
theorem dX0_greatestOpenDebtorOf_10 : decode cX0_greatestOpenDebtorOf 10 = .ok (.aload_n 0, 1) := by decide +kernel
theorem dX0_greatestOpenDebtorOf_11 : decode cX0_greatestOpenDebtorOf 11 = .ok (.iload_n 3, 1) := by decide +kernel
theorem dX0_greatestOpenDebtorOf_12 : decode cX0_greatestOpenDebtorOf 12 = .ok (.iload_n 1, 1) := by decide +kernel
theorem dX0_greatestOpenDebtorOf_13 : decode cX0_greatestOpenDebtorOf 13 = .ok (.invokevirtual 38, 3) := by decide +kernel
theorem dX0_greatestOpenDebtorOf_16 : decode cX0_greatestOpenDebtorOf 16 = .ok (.aload_n 0, 1) := by decide +kernel
theorem dX0_greatestOpenDebtorOf_17 : decode cX0_greatestOpenDebtorOf 17 = .ok (.iload_n 2, 1) := by decide +kernel
theorem dX0_greatestOpenDebtorOf_18 : decode cX0_greatestOpenDebtorOf 18 = .ok (.iload_n 1, 1) := by decide +kernel
theorem dX0_greatestOpenDebtorOf_19 : decode cX0_greatestOpenDebtorOf 19 = .ok (.invokevirtual 38, 3) := by decide +kernel
theorem dX0_greatestOpenDebtorOf_22 : decode cX0_greatestOpenDebtorOf 22 = .ok (.if_icmp .le 5, 3) := by decide +kernel
theorem dX0_greatestOpenDebtorOf_25 : decode cX0_greatestOpenDebtorOf 25 = .ok (.iload_n 3, 1) := by decide +kernel
theorem dX0_greatestOpenDebtorOf_26 : decode cX0_greatestOpenDebtorOf 26 = .ok (.istore_n 2, 1) := by decide +kernel
theorem dX0_greatestOpenDebtorOf_27 : decode cX0_greatestOpenDebtorOf 27 = .ok (.iinc 3 1, 3) := by decide +kernel
theorem dX0_greatestOpenDebtorOf_30 : decode cX0_greatestOpenDebtorOf 30 = .ok (.goto (-26), 3) := by decide +kernel
theorem dX0_greatestOpenDebtorOf_33 : decode cX0_greatestOpenDebtorOf 33 = .ok (.iload_n 2, 1) := by decide +kernel
theorem dX0_greatestOpenDebtorOf_34 : decode cX0_greatestOpenDebtorOf 34 = .ok (.ireturn, 1) := by decide +kernel
end
section
set_option maxRecDepth 20000 in
theorem ggX3_init_X2_init : GoodIn wsX3_init wsX2_init := goodIn_r _ [11, 12, 2, 3, 13, 14, 15, 16, 17, 18, 19, 20, 21, 22, 23, 24, 25, 26] (by decide +kernel) (by decide +kernel)
set_option maxRecDepth 20000 in
theorem gX3_init_X2_init : GoodIn wsX3_init (wsX2_init) := ggX3_init_X2_init
theorem dX3_init_0 : decode cX3_init 0 = .ok (.aload_n 0, 1) := by decide +kernel
theorem dX3_init_1 : decode cX3_init 1 = .ok (.invokespecial 3, 3) := by decide +kernel
theorem dX3_init_4 : decode cX3_init 4 = .ok (.aload_n 0, 1) := by decide +kernel
theorem dX3_init_5 : decode cX3_init 5 = .ok (.new 9, 3) := by decide +kernel
theorem dX3_init_8 : decode cX3_init 8 = .ok (.dup, 1) := by decide +kernel
theorem dX3_init_9 : decode cX3_init 9 = .ok (.bipush 100, 2) := by decide +kernel
theorem dX3_init_11 : decode cX3_init 11 = .ok (.bipush 6, 2) := by decide +kernel
theorem dX3_init_13 : decode cX3_init 13 = .ok (.invokespecial 13, 3) := by decide +kernel
theorem dX3_init_16 : decode cX3_init 16 = .ok (.putfield 16, 3) := by decide +kernel
theorem dX3_init_19 : decode cX3_init 19 = .ok (.aload_n 0, 1) := by decide +kernel
theorem dX3_init_20 : decode cX3_init 20 = .ok (.iconst 0, 1) := by decide +kernel
theorem dX3_init_21 : decode cX3_init 21 = .ok (.putfield 20, 3) := by decide +kernel
theorem dX3_init_24 : decode cX3_init 24 = .ok (.return_, 1) := by decide +kernel
theorem dX3_isFull_0 : decode cX3_isFull 0 = .ok (.aload_n 0, 1) := by decide +kernel
theorem dX3_isFull_1 : decode cX3_isFull 1 = .ok (.getfield 20, 3) := by decide +kernel
theorem dX3_isFull_4 : decode cX3_isFull 4 = .ok (.bipush 100, 2) := by decide +kernel
theorem dX3_isFull_6 : decode cX3_isFull 6 = .ok (.if_icmp .lt 7, 3) := by decide +kernel
theorem dX3_isFull_9 : decode cX3_isFull 9 = .ok (.iconst 1, 1) := by decide +kernel
theorem dX3_isFull_10 : decode cX3_isFull 10 = .ok (.goto 4, 3) := by decide +kernel
theorem dX3_isFull_13 : decode cX3_isFull 13 = .ok (.iconst 0, 1) := by decide +kernel
theorem dX3_isFull_14 : decode cX3_isFull 14 = .ok (.ireturn, 1) := by decide +kernel
theorem dX3_has_0 : decode cX3_has 0 = .ok (.iload_n 1, 1) := by decide +kernel
theorem dX3_has_1 : decode cX3_has 1 = .ok (.ifCond .lt 15, 3) := by decide +kernel
theorem dX3_has_4 : decode cX3_has 4 = .ok (.iload_n 1, 1) := by decide +kernel
theorem dX3_has_5 : decode cX3_has 5 = .ok (.aload_n 0, 1) := by decide +kernel
theorem dX3_has_6 : decode cX3_has 6 = .ok (.getfield 20, 3) := by decide +kernel
theorem dX3_has_9 : decode cX3_has 9 = .ok (.if_icmp .ge 7, 3) := by decide +kernel
theorem dX3_has_12 : decode cX3_has 12 = .ok (.iconst 1, 1) := by decide +kernel
theorem dX3_has_13 : decode cX3_has 13 = .ok (.goto 4, 3) := by decide +kernel
theorem dX3_has_16 : decode cX3_has 16 = .ok (.iconst 0, 1) := by decide +kernel
theorem dX3_has_17 : decode cX3_has 17 = .ok (.ireturn, 1) := by decide +kernel
set_option maxRecDepth 20000 in
theorem ggX3_of_X2_get : GoodIn wsX3_of wsX2_get := goodIn_r _ [6, 7, 8, 9, 10, 5, 11, 12, 13, 16, 17, 18] (by decide +kernel) (by decide +kernel)
set_option maxRecDepth 20000 in
theorem gX3_of_X2_get : GoodIn wsX3_of (wsV RX3 24 RX2 yX2_get wsX2_get) := goodIn_app (goodIn_of _ (by decide +kernel)) ggX3_of_X2_get
theorem dX3_of_0 : decode cX3_of 0 = .ok (.aload_n 0, 1) := by decide +kernel
theorem dX3_of_1 : decode cX3_of 1 = .ok (.getfield 16, 3) := by decide +kernel
theorem dX3_of_4 : decode cX3_of 4 = .ok (.iload_n 1, 1) := by decide +kernel
theorem dX3_of_5 : decode cX3_of 5 = .ok (.iload_n 2, 1) := by decide +kernel
theorem dX3_of_6 : decode cX3_of 6 = .ok (.invokevirtual 24, 3) := by decide +kernel
theorem dX3_of_9 : decode cX3_of 9 = .ok (.ireturn, 1) := by decide +kernel
set_option maxRecDepth 20000 in
theorem ggX3_put_X2_set : GoodIn wsX3_put wsX2_set := goodIn_r _ [7, 8, 9, 10, 11, 6, 12, 13, 14, 17, 18, 19] (by decide +kernel) (by decide +kernel)
set_option maxRecDepth 20000 in
theorem gX3_put_X2_set : GoodIn wsX3_put (wsV RX3 28 RX2 yX2_set wsX2_set) := goodIn_app (goodIn_of _ (by decide +kernel)) ggX3_put_X2_set
theorem dX3_put_0 : decode cX3_put 0 = .ok (.aload_n 0, 1) := by decide +kernel
theorem dX3_put_1 : decode cX3_put 1 = .ok (.getfield 20, 3) := by decide +kernel
theorem dX3_put_4 : decode cX3_put 4 = .ok (.istore 5, 2) := by decide +kernel
theorem dX3_put_6 : decode cX3_put 6 = .ok (.aload_n 0, 1) := by decide +kernel
theorem dX3_put_7 : decode cX3_put 7 = .ok (.getfield 16, 3) := by decide +kernel
theorem dX3_put_10 : decode cX3_put 10 = .ok (.iload 5, 2) := by decide +kernel
theorem dX3_put_12 : decode cX3_put 12 = .ok (.iconst 0, 1) := by decide +kernel
theorem dX3_put_13 : decode cX3_put 13 = .ok (.iconst 0, 1) := by decide +kernel
theorem dX3_put_14 : decode cX3_put 14 = .ok (.invokevirtual 28, 3) := by decide +kernel
theorem dX3_put_17 : decode cX3_put 17 = .ok (.aload_n 0, 1) := by decide +kernel
theorem dX3_put_18 : decode cX3_put 18 = .ok (.getfield 16, 3) := by decide +kernel
theorem dX3_put_21 : decode cX3_put 21 = .ok (.iload 5, 2) := by decide +kernel
theorem dX3_put_23 : decode cX3_put 23 = .ok (.iconst 1, 1) := by decide +kernel
theorem dX3_put_24 : decode cX3_put 24 = .ok (.iload_n 1, 1) := by decide +kernel
theorem dX3_put_25 : decode cX3_put 25 = .ok (.invokevirtual 28, 3) := by decide +kernel
theorem dX3_put_28 : decode cX3_put 28 = .ok (.aload_n 0, 1) := by decide +kernel
theorem dX3_put_29 : decode cX3_put 29 = .ok (.getfield 16, 3) := by decide +kernel
theorem dX3_put_32 : decode cX3_put 32 = .ok (.iload 5, 2) := by decide +kernel
theorem dX3_put_34 : decode cX3_put 34 = .ok (.iconst 2, 1) := by decide +kernel
theorem dX3_put_35 : decode cX3_put 35 = .ok (.iload_n 2, 1) := by decide +kernel
theorem dX3_put_36 : decode cX3_put 36 = .ok (.invokevirtual 28, 3) := by decide +kernel
theorem dX3_put_39 : decode cX3_put 39 = .ok (.aload_n 0, 1) := by decide +kernel
theorem dX3_put_40 : decode cX3_put 40 = .ok (.getfield 16, 3) := by decide +kernel
theorem dX3_put_43 : decode cX3_put 43 = .ok (.iload 5, 2) := by decide +kernel
theorem dX3_put_45 : decode cX3_put 45 = .ok (.iconst 3, 1) := by decide +kernel
theorem dX3_put_46 : decode cX3_put 46 = .ok (.iload_n 3, 1) := by decide +kernel
theorem dX3_put_47 : decode cX3_put 47 = .ok (.invokevirtual 28, 3) := by decide +kernel
theorem dX3_put_50 : decode cX3_put 50 = .ok (.aload_n 0, 1) := by decide +kernel
theorem dX3_put_51 : decode cX3_put 51 = .ok (.getfield 16, 3) := by decide +kernel
theorem dX3_put_54 : decode cX3_put 54 = .ok (.iload 5, 2) := by decide +kernel
theorem dX3_put_56 : decode cX3_put 56 = .ok (.iconst 4, 1) := by decide +kernel
theorem dX3_put_57 : decode cX3_put 57 = .ok (.iload 4, 2) := by decide +kernel
theorem dX3_put_59 : decode cX3_put 59 = .ok (.invokevirtual 28, 3) := by decide +kernel
theorem dX3_put_62 : decode cX3_put 62 = .ok (.aload_n 0, 1) := by decide +kernel
theorem dX3_put_63 : decode cX3_put 63 = .ok (.dup, 1) := by decide +kernel
theorem dX3_put_64 : decode cX3_put 64 = .ok (.getfield 20, 3) := by decide +kernel
theorem dX3_put_67 : decode cX3_put 67 = .ok (.iconst 1, 1) := by decide +kernel
theorem dX3_put_68 : decode cX3_put 68 = .ok (.iadd, 1) := by decide +kernel
theorem dX3_put_69 : decode cX3_put 69 = .ok (.putfield 20, 3) := by decide +kernel
theorem dX3_put_72 : decode cX3_put 72 = .ok (.iload 5, 2) := by decide +kernel
theorem dX3_put_74 : decode cX3_put 74 = .ok (.ireturn, 1) := by decide +kernel
set_option maxRecDepth 20000 in
theorem ggX3_turn_X2_set : GoodIn wsX3_turn wsX2_set := goodIn_r _ [6, 7, 8, 9, 10, 5, 11, 12, 13, 16, 17, 18] (by decide +kernel) (by decide +kernel)
set_option maxRecDepth 20000 in
theorem gX3_turn_X2_set : GoodIn wsX3_turn (wsV RX3 28 RX2 yX2_set wsX2_set) := goodIn_app (goodIn_of _ (by decide +kernel)) ggX3_turn_X2_set
theorem dX3_turn_0 : decode cX3_turn 0 = .ok (.aload_n 0, 1) := by decide +kernel
theorem dX3_turn_1 : decode cX3_turn 1 = .ok (.getfield 16, 3) := by decide +kernel
theorem dX3_turn_4 : decode cX3_turn 4 = .ok (.iload_n 1, 1) := by decide +kernel
theorem dX3_turn_5 : decode cX3_turn 5 = .ok (.iconst 0, 1) := by decide +kernel
theorem dX3_turn_6 : decode cX3_turn 6 = .ok (.iload_n 2, 1) := by decide +kernel
theorem dX3_turn_7 : decode cX3_turn 7 = .ok (.invokevirtual 28, 3) := by decide +kernel
theorem dX3_turn_10 : decode cX3_turn 10 = .ok (.aload_n 0, 1) := by decide +kernel
theorem dX3_turn_11 : decode cX3_turn 11 = .ok (.getfield 16, 3) := by decide +kernel
theorem dX3_turn_14 : decode cX3_turn 14 = .ok (.iload_n 1, 1) := by decide +kernel
theorem dX3_turn_15 : decode cX3_turn 15 = .ok (.iconst 5, 1) := by decide +kernel
theorem dX3_turn_16 : decode cX3_turn 16 = .ok (.iload_n 3, 1) := by decide +kernel
theorem dX3_turn_17 : decode cX3_turn 17 = .ok (.invokevirtual 28, 3) := by decide +kernel
theorem dX3_turn_20 : decode cX3_turn 20 = .ok (.return_, 1) := by decide +kernel
set_option maxRecDepth 20000 in
theorem ggX3_isOf_X3_of : GoodIn wsX3_isOf wsX3_of := goodIn_r _ [5, 6, 7, 8, 9, 10, 11, 12, 13, 14, 15, 16, 17, 18, 19, 20, 21, 22, 23] (by decide +kernel) (by decide +kernel)
set_option maxRecDepth 20000 in
theorem gX3_isOf_X3_of : GoodIn wsX3_isOf (wsV RX3 32 RX3 yX3_of wsX3_of) := goodIn_app (goodIn_of _ (by decide +kernel)) ggX3_isOf_X3_of
theorem dX3_isOf_0 : decode cX3_isOf 0 = .ok (.aload_n 0, 1) := by decide +kernel
theorem dX3_isOf_1 : decode cX3_isOf 1 = .ok (.iload_n 1, 1) := by decide +kernel
theorem dX3_isOf_2 : decode cX3_isOf 2 = .ok (.iconst 1, 1) := by decide +kernel
theorem dX3_isOf_3 : decode cX3_isOf 3 = .ok (.invokevirtual 32, 3) := by decide +kernel
theorem dX3_isOf_6 : decode cX3_isOf 6 = .ok (.iload_n 2, 1) := by decide +kernel
theorem dX3_isOf_7 : decode cX3_isOf 7 = .ok (.if_icmp .eq 13, 3) := by decide +kernel
theorem dX3_isOf_10 : decode cX3_isOf 10 = .ok (.aload_n 0, 1) := by decide +kernel
theorem dX3_isOf_11 : decode cX3_isOf 11 = .ok (.iload_n 1, 1) := by decide +kernel
theorem dX3_isOf_12 : decode cX3_isOf 12 = .ok (.iconst 2, 1) := by decide +kernel
theorem dX3_isOf_13 : decode cX3_isOf 13 = .ok (.invokevirtual 32, 3) := by decide +kernel
theorem dX3_isOf_16 : decode cX3_isOf 16 = .ok (.iload_n 2, 1) := by decide +kernel
theorem dX3_isOf_17 : decode cX3_isOf 17 = .ok (.if_icmp .ne 7, 3) := by decide +kernel
theorem dX3_isOf_20 : decode cX3_isOf 20 = .ok (.iconst 1, 1) := by decide +kernel
theorem dX3_isOf_21 : decode cX3_isOf 21 = .ok (.goto 4, 3) := by decide +kernel
theorem dX3_isOf_24 : decode cX3_isOf 24 = .ok (.iconst 0, 1) := by decide +kernel
theorem dX3_isOf_25 : decode cX3_isOf 25 = .ok (.ireturn, 1) := by decide +kernel
set_option maxRecDepth 20000 in
theorem ggX3_hasDisputedOf_X3_isOf : GoodIn wsX3_hasDisputedOf wsX3_isOf := goodIn_r _ [6, 7, 8, 9, 5, 10, 11, 12, 13, 14, 15, 16, 17, 18, 19, 20, 21, 22, 23, 24, 25, 26, 27, 28] (by decide +kernel) (by decide +kernel)
set_option maxRecDepth 20000 in
theorem gX3_hasDisputedOf_X3_isOf : GoodIn wsX3_hasDisputedOf (wsV RX3 35 RX3 yX3_isOf wsX3_isOf) := goodIn_app (goodIn_of _ (by decide +kernel)) ggX3_hasDisputedOf_X3_isOf
set_option maxRecDepth 20000 in
theorem ggX3_hasDisputedOf_X3_of : GoodIn wsX3_hasDisputedOf wsX3_of := goodIn_r _ [10, 11, 12, 13, 14, 15, 16, 17, 18, 19, 20, 21, 22, 23, 24, 25, 26, 27, 28] (by decide +kernel) (by decide +kernel)
set_option maxRecDepth 20000 in
theorem gX3_hasDisputedOf_X3_of : GoodIn wsX3_hasDisputedOf (wsV RX3 32 RX3 yX3_of wsX3_of) := goodIn_app (goodIn_of _ (by decide +kernel)) ggX3_hasDisputedOf_X3_of
theorem dX3_hasDisputedOf_0 : decode cX3_hasDisputedOf 0 = .ok (.iconst 0, 1) := by decide +kernel
theorem dX3_hasDisputedOf_1 : decode cX3_hasDisputedOf 1 = .ok (.istore_n 2, 1) := by decide +kernel
theorem dX3_hasDisputedOf_2 : decode cX3_hasDisputedOf 2 = .ok (.iload_n 2, 1) := by decide +kernel
theorem dX3_hasDisputedOf_3 : decode cX3_hasDisputedOf 3 = .ok (.aload_n 0, 1) := by decide +kernel
theorem dX3_hasDisputedOf_4 : decode cX3_hasDisputedOf 4 = .ok (.getfield 20, 3) := by decide +kernel
theorem dX3_hasDisputedOf_7 : decode cX3_hasDisputedOf 7 = .ok (.if_icmp .ge 30, 3) := by decide +kernel
theorem dX3_hasDisputedOf_10 : decode cX3_hasDisputedOf 10 = .ok (.aload_n 0, 1) := by decide +kernel
theorem dX3_hasDisputedOf_11 : decode cX3_hasDisputedOf 11 = .ok (.iload_n 2, 1) := by decide +kernel
theorem dX3_hasDisputedOf_12 : decode cX3_hasDisputedOf 12 = .ok (.iload_n 1, 1) := by decide +kernel
theorem dX3_hasDisputedOf_13 : decode cX3_hasDisputedOf 13 = .ok (.invokevirtual 35, 3) := by decide +kernel
theorem dX3_hasDisputedOf_16 : decode cX3_hasDisputedOf 16 = .ok (.ifCond .eq 15, 3) := by decide +kernel
theorem dX3_hasDisputedOf_19 : decode cX3_hasDisputedOf 19 = .ok (.aload_n 0, 1) := by decide +kernel
theorem dX3_hasDisputedOf_20 : decode cX3_hasDisputedOf 20 = .ok (.iload_n 2, 1) := by decide +kernel
theorem dX3_hasDisputedOf_21 : decode cX3_hasDisputedOf 21 = .ok (.iconst 0, 1) := by decide +kernel
theorem dX3_hasDisputedOf_22 : decode cX3_hasDisputedOf 22 = .ok (.invokevirtual 32, 3) := by decide +kernel
theorem dX3_hasDisputedOf_25 : decode cX3_hasDisputedOf 25 = .ok (.iconst 1, 1) := by decide +kernel
theorem dX3_hasDisputedOf_26 : decode cX3_hasDisputedOf 26 = .ok (.if_icmp .ne 5, 3) := by decide +kernel
theorem dX3_hasDisputedOf_29 : decode cX3_hasDisputedOf 29 = .ok (.iconst 1, 1) := by decide +kernel
theorem dX3_hasDisputedOf_30 : decode cX3_hasDisputedOf 30 = .ok (.ireturn, 1) := by decide +kernel
theorem dX3_hasDisputedOf_31 : decode cX3_hasDisputedOf 31 = .ok (.iinc 2 1, 3) := by decide +kernel
theorem dX3_hasDisputedOf_34 : decode cX3_hasDisputedOf 34 = .ok (.goto (-32), 3) := by decide +kernel
theorem dX3_hasDisputedOf_37 : decode cX3_hasDisputedOf 37 = .ok (.iconst 0, 1) := by decide +kernel
theorem dX3_hasDisputedOf_38 : decode cX3_hasDisputedOf 38 = .ok (.ireturn, 1) := by decide +kernel
set_option maxRecDepth 20000 in
theorem ggX3_hasSince_X3_isOf : GoodIn wsX3_hasSince wsX3_isOf := goodIn_r _ [6, 7, 8, 9, 5, 10, 11, 12, 13, 14, 15, 16, 17, 18, 19, 20, 21, 22, 23, 24, 25, 26, 27, 28] (by decide +kernel) (by decide +kernel)
set_option maxRecDepth 20000 in
theorem gX3_hasSince_X3_isOf : GoodIn wsX3_hasSince (wsV RX3 35 RX3 yX3_isOf wsX3_isOf) := goodIn_app (goodIn_of _ (by decide +kernel)) ggX3_hasSince_X3_isOf
set_option maxRecDepth 20000 in
theorem ggX3_hasSince_X3_of : GoodIn wsX3_hasSince wsX3_of := goodIn_r _ [10, 11, 12, 13, 14, 15, 16, 17, 18, 19, 20, 21, 22, 23, 24, 25, 26, 27, 28] (by decide +kernel) (by decide +kernel)
set_option maxRecDepth 20000 in
theorem gX3_hasSince_X3_of : GoodIn wsX3_hasSince (wsV RX3 32 RX3 yX3_of wsX3_of) := goodIn_app (goodIn_of _ (by decide +kernel)) ggX3_hasSince_X3_of
theorem dX3_hasSince_0 : decode cX3_hasSince 0 = .ok (.iconst 0, 1) := by decide +kernel
theorem dX3_hasSince_1 : decode cX3_hasSince 1 = .ok (.istore_n 3, 1) := by decide +kernel
theorem dX3_hasSince_2 : decode cX3_hasSince 2 = .ok (.iload_n 3, 1) := by decide +kernel
theorem dX3_hasSince_3 : decode cX3_hasSince 3 = .ok (.aload_n 0, 1) := by decide +kernel
theorem dX3_hasSince_4 : decode cX3_hasSince 4 = .ok (.getfield 20, 3) := by decide +kernel
theorem dX3_hasSince_7 : decode cX3_hasSince 7 = .ok (.if_icmp .ge 30, 3) := by decide +kernel
theorem dX3_hasSince_10 : decode cX3_hasSince 10 = .ok (.aload_n 0, 1) := by decide +kernel
theorem dX3_hasSince_11 : decode cX3_hasSince 11 = .ok (.iload_n 3, 1) := by decide +kernel
theorem dX3_hasSince_12 : decode cX3_hasSince 12 = .ok (.iload_n 1, 1) := by decide +kernel
theorem dX3_hasSince_13 : decode cX3_hasSince 13 = .ok (.invokevirtual 35, 3) := by decide +kernel
theorem dX3_hasSince_16 : decode cX3_hasSince 16 = .ok (.ifCond .eq 15, 3) := by decide +kernel
theorem dX3_hasSince_19 : decode cX3_hasSince 19 = .ok (.aload_n 0, 1) := by decide +kernel
theorem dX3_hasSince_20 : decode cX3_hasSince 20 = .ok (.iload_n 3, 1) := by decide +kernel
theorem dX3_hasSince_21 : decode cX3_hasSince 21 = .ok (.iconst 4, 1) := by decide +kernel
theorem dX3_hasSince_22 : decode cX3_hasSince 22 = .ok (.invokevirtual 32, 3) := by decide +kernel
theorem dX3_hasSince_25 : decode cX3_hasSince 25 = .ok (.iload_n 2, 1) := by decide +kernel
theorem dX3_hasSince_26 : decode cX3_hasSince 26 = .ok (.if_icmp .lt 5, 3) := by decide +kernel
theorem dX3_hasSince_29 : decode cX3_hasSince 29 = .ok (.iconst 1, 1) := by decide +kernel
theorem dX3_hasSince_30 : decode cX3_hasSince 30 = .ok (.ireturn, 1) := by decide +kernel
theorem dX3_hasSince_31 : decode cX3_hasSince 31 = .ok (.iinc 3 1, 3) := by decide +kernel
theorem dX3_hasSince_34 : decode cX3_hasSince 34 = .ok (.goto (-32), 3) := by decide +kernel
theorem dX3_hasSince_37 : decode cX3_hasSince 37 = .ok (.iconst 0, 1) := by decide +kernel
theorem dX3_hasSince_38 : decode cX3_hasSince 38 = .ok (.ireturn, 1) := by decide +kernel
set_option maxRecDepth 20000 in
theorem ggX3_amountsSince_X3_isOf : GoodIn wsX3_amountsSince wsX3_isOf := goodIn_r _ [6, 7, 8, 9, 5, 10, 11, 12, 13, 14, 15, 16, 17, 18, 19, 20, 21, 22, 23, 24, 25, 26, 27, 28] (by decide +kernel) (by decide +kernel)
set_option maxRecDepth 20000 in
theorem gX3_amountsSince_X3_isOf : GoodIn wsX3_amountsSince (wsV RX3 35 RX3 yX3_isOf wsX3_isOf) := goodIn_app (goodIn_of _ (by decide +kernel)) ggX3_amountsSince_X3_isOf
set_option maxRecDepth 20000 in
theorem ggX3_amountsSince_X3_of : GoodIn wsX3_amountsSince wsX3_of := goodIn_r _ [10, 11, 12, 13, 14, 15, 16, 17, 18, 19, 20, 21, 22, 23, 24, 25, 26, 27, 28] (by decide +kernel) (by decide +kernel)
set_option maxRecDepth 20000 in
theorem gX3_amountsSince_X3_of : GoodIn wsX3_amountsSince (wsV RX3 32 RX3 yX3_of wsX3_of) := goodIn_app (goodIn_of _ (by decide +kernel)) ggX3_amountsSince_X3_of
theorem dX3_amountsSince_0 : decode cX3_amountsSince 0 = .ok (.iconst 0, 1) := by decide +kernel
theorem dX3_amountsSince_1 : decode cX3_amountsSince 1 = .ok (.istore_n 3, 1) := by decide +kernel
theorem dX3_amountsSince_2 : decode cX3_amountsSince 2 = .ok (.iconst 0, 1) := by decide +kernel
theorem dX3_amountsSince_3 : decode cX3_amountsSince 3 = .ok (.istore 4, 2) := by decide +kernel
theorem dX3_amountsSince_5 : decode cX3_amountsSince 5 = .ok (.iload 4, 2) := by decide +kernel
theorem dX3_amountsSince_7 : decode cX3_amountsSince 7 = .ok (.aload_n 0, 1) := by decide +kernel
theorem dX3_amountsSince_8 : decode cX3_amountsSince 8 = .ok (.getfield 20, 3) := by decide +kernel
theorem dX3_amountsSince_11 : decode cX3_amountsSince 11 = .ok (.if_icmp .ge 63, 3) := by decide +kernel
theorem dX3_amountsSince_14 : decode cX3_amountsSince 14 = .ok (.aload_n 0, 1) := by decide +kernel
theorem dX3_amountsSince_15 : decode cX3_amountsSince 15 = .ok (.iload 4, 2) := by decide +kernel
theorem dX3_amountsSince_17 : decode cX3_amountsSince 17 = .ok (.iload_n 1, 1) := by decide +kernel
theorem dX3_amountsSince_18 : decode cX3_amountsSince 18 = .ok (.invokevirtual 35, 3) := by decide +kernel
theorem dX3_amountsSince_21 : decode cX3_amountsSince 21 = .ok (.ifCond .eq 18, 3) := by decide +kernel
theorem dX3_amountsSince_24 : decode cX3_amountsSince 24 = .ok (.aload_n 0, 1) := by decide +kernel
theorem dX3_amountsSince_25 : decode cX3_amountsSince 25 = .ok (.iload 4, 2) := by decide +kernel
theorem dX3_amountsSince_27 : decode cX3_amountsSince 27 = .ok (.iconst 0, 1) := by decide +kernel
theorem dX3_amountsSince_28 : decode cX3_amountsSince 28 = .ok (.invokevirtual 32, 3) := by decide +kernel
theorem dX3_amountsSince_31 : decode cX3_amountsSince 31 = .ok (.iconst 2, 1) := by decide +kernel
theorem dX3_amountsSince_32 : decode cX3_amountsSince 32 = .ok (.if_icmp .eq 7, 3) := by decide +kernel
theorem dX3_amountsSince_35 : decode cX3_amountsSince 35 = .ok (.iconst 1, 1) := by decide +kernel
theorem dX3_amountsSince_36 : decode cX3_amountsSince 36 = .ok (.goto 4, 3) := by decide +kernel
theorem dX3_amountsSince_39 : decode cX3_amountsSince 39 = .ok (.iconst 0, 1) := by decide +kernel
theorem dX3_amountsSince_40 : decode cX3_amountsSince 40 = .ok (.istore 5, 2) := by decide +kernel
theorem dX3_amountsSince_42 : decode cX3_amountsSince 42 = .ok (.iload 5, 2) := by decide +kernel
theorem dX3_amountsSince_44 : decode cX3_amountsSince 44 = .ok (.ifCond .eq 24, 3) := by decide +kernel
theorem dX3_amountsSince_47 : decode cX3_amountsSince 47 = .ok (.aload_n 0, 1) := by decide +kernel
theorem dX3_amountsSince_48 : decode cX3_amountsSince 48 = .ok (.iload 4, 2) := by decide +kernel
theorem dX3_amountsSince_50 : decode cX3_amountsSince 50 = .ok (.iconst 4, 1) := by decide +kernel
theorem dX3_amountsSince_51 : decode cX3_amountsSince 51 = .ok (.invokevirtual 32, 3) := by decide +kernel
theorem dX3_amountsSince_54 : decode cX3_amountsSince 54 = .ok (.iload_n 2, 1) := by decide +kernel
theorem dX3_amountsSince_55 : decode cX3_amountsSince 55 = .ok (.if_icmp .lt 13, 3) := by decide +kernel
theorem dX3_amountsSince_58 : decode cX3_amountsSince 58 = .ok (.iload_n 3, 1) := by decide +kernel
theorem dX3_amountsSince_59 : decode cX3_amountsSince 59 = .ok (.aload_n 0, 1) := by decide +kernel
theorem dX3_amountsSince_60 : decode cX3_amountsSince 60 = .ok (.iload 4, 2) := by decide +kernel
theorem dX3_amountsSince_62 : decode cX3_amountsSince 62 = .ok (.iconst 3, 1) := by decide +kernel
theorem dX3_amountsSince_63 : decode cX3_amountsSince 63 = .ok (.invokevirtual 32, 3) := by decide +kernel
theorem dX3_amountsSince_66 : decode cX3_amountsSince 66 = .ok (.iadd, 1) := by decide +kernel
theorem dX3_amountsSince_67 : decode cX3_amountsSince 67 = .ok (.istore_n 3, 1) := by decide +kernel
theorem dX3_amountsSince_68 : decode cX3_amountsSince 68 = .ok (.iinc 4 1, 3) := by decide +kernel
theorem dX3_amountsSince_71 : decode cX3_amountsSince 71 = .ok (.goto (-66), 3) := by decide +kernel
theorem dX3_amountsSince_74 : decode cX3_amountsSince 74 = .ok (.iload_n 3, 1) := by decide +kernel
theorem dX3_amountsSince_75 : decode cX3_amountsSince 75 = .ok (.ireturn, 1) := by decide +kernel
set_option maxRecDepth 20000 in
theorem ggX3_balanceOf_X3_of : GoodIn wsX3_balanceOf wsX3_of := goodIn_r _ [6, 7, 8, 9, 10, 11, 12, 13, 14, 15, 16, 17, 18, 19, 20, 21, 22, 23, 24] (by decide +kernel) (by decide +kernel)
set_option maxRecDepth 20000 in
theorem gX3_balanceOf_X3_of : GoodIn wsX3_balanceOf (wsV RX3 32 RX3 yX3_of wsX3_of) := goodIn_app (goodIn_of _ (by decide +kernel)) ggX3_balanceOf_X3_of
theorem dX3_balanceOf_0 : decode cX3_balanceOf 0 = .ok (.iconst 0, 1) := by decide +kernel
theorem dX3_balanceOf_1 : decode cX3_balanceOf 1 = .ok (.istore_n 2, 1) := by decide +kernel
theorem dX3_balanceOf_2 : decode cX3_balanceOf 2 = .ok (.iconst 0, 1) := by decide +kernel
theorem dX3_balanceOf_3 : decode cX3_balanceOf 3 = .ok (.istore_n 3, 1) := by decide +kernel
theorem dX3_balanceOf_4 : decode cX3_balanceOf 4 = .ok (.iload_n 3, 1) := by decide +kernel
theorem dX3_balanceOf_5 : decode cX3_balanceOf 5 = .ok (.aload_n 0, 1) := by decide +kernel
theorem dX3_balanceOf_6 : decode cX3_balanceOf 6 = .ok (.getfield 20, 3) := by decide +kernel
theorem dX3_balanceOf_9 : decode cX3_balanceOf 9 = .ok (.if_icmp .ge 67, 3) := by decide +kernel
theorem dX3_balanceOf_12 : decode cX3_balanceOf 12 = .ok (.aload_n 0, 1) := by decide +kernel
theorem dX3_balanceOf_13 : decode cX3_balanceOf 13 = .ok (.iload_n 3, 1) := by decide +kernel
theorem dX3_balanceOf_14 : decode cX3_balanceOf 14 = .ok (.iconst 0, 1) := by decide +kernel
theorem dX3_balanceOf_15 : decode cX3_balanceOf 15 = .ok (.invokevirtual 32, 3) := by decide +kernel
theorem dX3_balanceOf_18 : decode cX3_balanceOf 18 = .ok (.iconst 2, 1) := by decide +kernel
theorem dX3_balanceOf_19 : decode cX3_balanceOf 19 = .ok (.if_icmp .eq 22, 3) := by decide +kernel
theorem dX3_balanceOf_22 : decode cX3_balanceOf 22 = .ok (.aload_n 0, 1) := by decide +kernel
theorem dX3_balanceOf_23 : decode cX3_balanceOf 23 = .ok (.iload_n 3, 1) := by decide +kernel
theorem dX3_balanceOf_24 : decode cX3_balanceOf 24 = .ok (.iconst 2, 1) := by decide +kernel
theorem dX3_balanceOf_25 : decode cX3_balanceOf 25 = .ok (.invokevirtual 32, 3) := by decide +kernel
theorem dX3_balanceOf_28 : decode cX3_balanceOf 28 = .ok (.iload_n 1, 1) := by decide +kernel
theorem dX3_balanceOf_29 : decode cX3_balanceOf 29 = .ok (.if_icmp .ne 12, 3) := by decide +kernel
theorem dX3_balanceOf_32 : decode cX3_balanceOf 32 = .ok (.iload_n 2, 1) := by decide +kernel
theorem dX3_balanceOf_33 : decode cX3_balanceOf 33 = .ok (.aload_n 0, 1) := by decide +kernel
theorem dX3_balanceOf_34 : decode cX3_balanceOf 34 = .ok (.iload_n 3, 1) := by decide +kernel
theorem dX3_balanceOf_35 : decode cX3_balanceOf 35 = .ok (.iconst 3, 1) := by decide +kernel
theorem dX3_balanceOf_36 : decode cX3_balanceOf 36 = .ok (.invokevirtual 32, 3) := by decide +kernel
theorem dX3_balanceOf_39 : decode cX3_balanceOf 39 = .ok (.iadd, 1) := by decide +kernel
theorem dX3_balanceOf_40 : decode cX3_balanceOf 40 = .ok (.istore_n 2, 1) := by decide +kernel
theorem dX3_balanceOf_41 : decode cX3_balanceOf 41 = .ok (.aload_n 0, 1) := by decide +kernel
theorem dX3_balanceOf_42 : decode cX3_balanceOf 42 = .ok (.iload_n 3, 1) := by decide +kernel
theorem dX3_balanceOf_43 : decode cX3_balanceOf 43 = .ok (.iconst 0, 1) := by decide +kernel
theorem dX3_balanceOf_44 : decode cX3_balanceOf 44 = .ok (.invokevirtual 32, 3) := by decide +kernel
theorem dX3_balanceOf_47 : decode cX3_balanceOf 47 = .ok (.iconst 2, 1) := by decide +kernel
theorem dX3_balanceOf_48 : decode cX3_balanceOf 48 = .ok (.if_icmp .eq 22, 3) := by decide +kernel
theorem dX3_balanceOf_51 : decode cX3_balanceOf 51 = .ok (.aload_n 0, 1) := by decide +kernel
theorem dX3_balanceOf_52 : decode cX3_balanceOf 52 = .ok (.iload_n 3, 1) := by decide +kernel
theorem dX3_balanceOf_53 : decode cX3_balanceOf 53 = .ok (.iconst 1, 1) := by decide +kernel
theorem dX3_balanceOf_54 : decode cX3_balanceOf 54 = .ok (.invokevirtual 32, 3) := by decide +kernel
theorem dX3_balanceOf_57 : decode cX3_balanceOf 57 = .ok (.iload_n 1, 1) := by decide +kernel
theorem dX3_balanceOf_58 : decode cX3_balanceOf 58 = .ok (.if_icmp .ne 12, 3) := by decide +kernel
theorem dX3_balanceOf_61 : decode cX3_balanceOf 61 = .ok (.iload_n 2, 1) := by decide +kernel
theorem dX3_balanceOf_62 : decode cX3_balanceOf 62 = .ok (.aload_n 0, 1) := by decide +kernel
theorem dX3_balanceOf_63 : decode cX3_balanceOf 63 = .ok (.iload_n 3, 1) := by decide +kernel
theorem dX3_balanceOf_64 : decode cX3_balanceOf 64 = .ok (.iconst 3, 1) := by decide +kernel
theorem dX3_balanceOf_65 : decode cX3_balanceOf 65 = .ok (.invokevirtual 32, 3) := by decide +kernel
theorem dX3_balanceOf_68 : decode cX3_balanceOf 68 = .ok (.isub, 1) := by decide +kernel
theorem dX3_balanceOf_69 : decode cX3_balanceOf 69 = .ok (.istore_n 2, 1) := by decide +kernel
theorem dX3_balanceOf_70 : decode cX3_balanceOf 70 = .ok (.iinc 3 1, 3) := by decide +kernel
theorem dX3_balanceOf_73 : decode cX3_balanceOf 73 = .ok (.goto (-69), 3) := by decide +kernel
theorem dX3_balanceOf_76 : decode cX3_balanceOf 76 = .ok (.iload_n 2, 1) := by decide +kernel
theorem dX3_balanceOf_77 : decode cX3_balanceOf 77 = .ok (.ireturn, 1) := by decide +kernel
end
section
/-! ===== debts and trades ===== -/
theorem T1 : isTbl 1 2 8 2 := ⟨16, rfl, rfl, by decide, by decide, by decide, by decide, by decide⟩
theorem T4 : isTbl 4 5 100 6 := ⟨600, rfl, rfl, by decide, by decide, by decide, by decide, by decide⟩
theorem T7 : isTbl 7 8 9 9 := ⟨81, rfl, rfl, by decide, by decide, by decide, by decide, by decide⟩
theorem T9 : isTbl 9 10 9 9 := ⟨81, rfl, rfl, by decide, by decide, by decide, by decide, by decide⟩
theorem T11 : isTbl 11 12 9 9 := ⟨81, rfl, rfl, by decide, by decide, by decide, by decide, by decide⟩
theorem T13 : isTbl 13 14 9 9 := ⟨81, rfl, rfl, by decide, by decide, by decide, by decide, by decide⟩
theorem T16 : isTbl 16 17 57 7 := ⟨399, rfl, rfl, by decide, by decide, by decide, by decide, by decide⟩
/-- what is owed and not frozen -/
def opn (S : Mem) (i j : Int) : Int := tg 9 9 (S 8) i j - tg 9 9 (S 10) i j
def opnOk (S : Mem) : Prop := ∀ i j : Int, -2147483648 ≤ opn S i j ∧ opn S i j < 2147483648
def bal (f : Int → Int) (s : Int) : Int := sI (fun r => tg 9 9 f r s) 9 - sI (fun c => tg 9 9 f s c) 9
def god (S : Mem) (s : Int) : Nat → Int
  | 0 => 0
  | n + 1 => if opn S (god S s n) s < opn S ((n : Int) + 1) s then (n : Int) + 1 else god S s n
theorem god_in (S : Mem) (s : Int) : ∀ n : Nat, 0 ≤ god S s n ∧ god S s n ≤ n
  | 0 => by simp [god]
  | n + 1 => by
    have := god_in S s n
    unfold god
    split <;> omega
def trd (S : Mem) (t w : Int) : Int := tg 100 6 (S 5) t w
def trdOk (S : Mem) : Prop := ∀ t w : Int, -2147483648 ≤ trd S t w ∧ trd S t w < 2147483648
def bI (b : Bool) : Int := if b then 1 else 0
theorem bI_rng (b : Bool) : bI b = 0 ∨ bI b = 1 := by cases b <;> simp [bI]
theorem bI_0 {b : Bool} (h : bI b = 0) : b = false := by cases b <;> simp [bI] at h ⊢
theorem bI_1 {b : Bool} (h : ¬ bI b = 0) : b = true := by cases b <;> simp [bI] at h ⊢
def isof (S : Mem) (s t : Int) : Bool := decide (trd S t 1 = s) || decide (trd S t 2 = s)
def anyI (p : Int → Bool) : Nat → Bool
  | 0 => false
  | n + 1 => anyI p n || p n
theorem anyI_yes {p : Int → Bool} {i : Nat} (h : p i = true) : ∀ {n : Nat}, i < n → anyI p n = true
  | 0, hi => absurd hi (Nat.not_lt_zero i)
  | n + 1, hi => by
    rw [anyI]
    rcases Nat.lt_or_ge i n with q | q
    · rw [anyI_yes h q]; rfl
    · rw [show n = i by omega, h, Bool.or_true]
def amtF (S : Mem) (s d t : Int) : Int := if isof S s t = true ∧ trd S t 0 ≠ 2 ∧ d ≤ trd S t 4 then trd S t 3 else 0
def balF (S : Mem) (s t : Int) : Int := (if trd S t 0 ≠ 2 ∧ trd S t 2 = s then trd S t 3 else 0) - (if trd S t 0 ≠ 2 ∧ trd S t 1 = s then trd S t 3 else 0)
def putT (S : Mem) (n b s a d : Int) : Mem := mset (ts (ts (ts (ts (ts S 5 100 6 n 0 0) 5 100 6 n 1 b) 5 100 6 n 2 s) 5 100 6 n 3 a) 5 100 6 n 4 d) 3 1 (n + 1)
theorem ts_o {S : Mem} {a : Nat} {R Cn r c v : Int} {o : Nat} (h : o ≠ a) : ts S a R Cn r c v o = S o := by
  unfold ts
  split
  · funext i
    simp only [mset, h, false_and, if_false]
  · rfl
theorem iX0_owed_0 : ∀ w ∈ wsX00, w ∈ wsX0_owed := by decide +kernel
theorem fX0_owed_14 : Cond.fieldLink RX0 14 "Mutualledger$Debts" "owed" "LMutualledger$Table;" ∈ wsX0_owed := by decide +kernel
set_option maxHeartbeats 4000000 in
set_option maxRecDepth 100000 in
theorem c_X0_owed {g : mG} {S : Mem} {i j : Int} (hi : -2147483648 ≤ i ∧ i < 2147483648) (hj : -2147483648 ≤ j ∧ j < 2147483648) (l : Launch) : Does l yX0_owed wsX0_owed ({ frames := 2, cells := 0, slots := 0, locals := 46 } : Room) g [.ref (g.2.2 6), .int (z32 i), .int (z32 j)] S (PI (tg 9 9 (S 8) i j) S) := by
  refine Does.of (cc := cX0_owed) (maxL := 3) (ret := (some .int)) (own := RX0) (by decide) rfl rfl (Nat.le_of_ble_eq_true rfl) ?_
  intro C hC hR
  show MW C g 3 (0, 0) 0 [(0, .ref (g.2.2 6)), (1, .int (z32 i)), (2, .int (z32 j))] [] S
  refine m_aload_n hC dX0_owed_0 0 rfl ?_
  refine m_getR (o := 6) (j := 0) (a := 7) (CN := RX0) (T := TX0) (N := 2) hC iX0_owed_0 fX0_owed_14 rfl dX0_owed_1 rfl rfl (by decide) rfl ?_
  refine m_iload_n hC dX0_owed_4 1 rfl ?_
  refine m_iload_n hC dX0_owed_5 2 rfl ?_
  refine m_callVi (n := 2) hC (c_X2_get T7 hi hj) gX0_owed_X2_get rfl dX0_owed_6 rfl rfl (by decide +kernel) ⟨Nat.le_of_ble_eq_true rfl, Nat.le_of_ble_eq_true rfl⟩ rfl (Nat.le_of_ble_eq_true rfl) ⟨Nat.le_of_ble_eq_true rfl, Nat.le_of_ble_eq_true rfl⟩ rfl ?_
  refine m_ireti hC hR (Or.inl rfl) dX0_owed_9 ⟨Nat.le_of_ble_eq_true rfl, Nat.le_of_ble_eq_true rfl⟩ ?_ ?_
  · first | rfl | omega
  · rfl
theorem iX0_frozenPart_0 : ∀ w ∈ wsX00, w ∈ wsX0_frozenPart := by decide +kernel
theorem fX0_frozenPart_20 : Cond.fieldLink RX0 20 "Mutualledger$Debts" "frozenParts" "LMutualledger$Table;" ∈ wsX0_frozenPart := by decide +kernel
set_option maxHeartbeats 4000000 in
set_option maxRecDepth 100000 in
theorem c_X0_frozenPart {g : mG} {S : Mem} {i j : Int} (hi : -2147483648 ≤ i ∧ i < 2147483648) (hj : -2147483648 ≤ j ∧ j < 2147483648) (l : Launch) : Does l yX0_frozenPart wsX0_frozenPart ({ frames := 2, cells := 0, slots := 0, locals := 46 } : Room) g [.ref (g.2.2 6), .int (z32 i), .int (z32 j)] S (PI (tg 9 9 (S 10) i j) S) := by
  refine Does.of (cc := cX0_frozenPart) (maxL := 3) (ret := (some .int)) (own := RX0) (by decide) rfl rfl (Nat.le_of_ble_eq_true rfl) ?_
  intro C hC hR
  show MW C g 3 (0, 0) 0 [(0, .ref (g.2.2 6)), (1, .int (z32 i)), (2, .int (z32 j))] [] S
  refine m_aload_n hC dX0_frozenPart_0 0 rfl ?_
  refine m_getR (o := 6) (j := 1) (a := 9) (CN := RX0) (T := TX0) (N := 2) hC iX0_frozenPart_0 fX0_frozenPart_20 rfl dX0_frozenPart_1 rfl rfl (by decide) rfl ?_
  refine m_iload_n hC dX0_frozenPart_4 1 rfl ?_
  refine m_iload_n hC dX0_frozenPart_5 2 rfl ?_
  refine m_callVi (n := 2) hC (c_X2_get T9 hi hj) gX0_frozenPart_X2_get rfl dX0_frozenPart_6 rfl rfl (by decide +kernel) ⟨Nat.le_of_ble_eq_true rfl, Nat.le_of_ble_eq_true rfl⟩ rfl (Nat.le_of_ble_eq_true rfl) ⟨Nat.le_of_ble_eq_true rfl, Nat.le_of_ble_eq_true rfl⟩ rfl ?_
  refine m_ireti hC hR (Or.inl rfl) dX0_frozenPart_9 ⟨Nat.le_of_ble_eq_true rfl, Nat.le_of_ble_eq_true rfl⟩ ?_ ?_
  · first | rfl | omega
  · rfl
theorem iX0_open_0 : ∀ w ∈ wsX00, w ∈ wsX0_open := by decide +kernel
theorem fX0_open_14 : Cond.fieldLink RX0 14 "Mutualledger$Debts" "owed" "LMutualledger$Table;" ∈ wsX0_open := by decide +kernel
theorem fX0_open_20 : Cond.fieldLink RX0 20 "Mutualledger$Debts" "frozenParts" "LMutualledger$Table;" ∈ wsX0_open := by decide +kernel
set_option maxHeartbeats 4000000 in
set_option maxRecDepth 100000 in
theorem c_X0_open {g : mG} {S : Mem} {i j : Int} (hi : -2147483648 ≤ i ∧ i < 2147483648) (hj : -2147483648 ≤ j ∧ j < 2147483648) (l : Launch) : Does l yX0_open wsX0_open ({ frames := 2, cells := 0, slots := 0, locals := 46 } : Room) g [.ref (g.2.2 6), .int (z32 i), .int (z32 j)] S (PI (opn S i j) S) := by
  refine Does.of (cc := cX0_open) (maxL := 3) (ret := (some .int)) (own := RX0) (by decide) rfl rfl (Nat.le_of_ble_eq_true rfl) ?_
  intro C hC hR
  show MW C g 3 (0, 0) 0 [(0, .ref (g.2.2 6)), (1, .int (z32 i)), (2, .int (z32 j))] [] S
  refine m_aload_n hC dX0_open_0 0 rfl ?_
  refine m_getR (o := 6) (j := 0) (a := 7) (CN := RX0) (T := TX0) (N := 2) hC iX0_open_0 fX0_open_14 rfl dX0_open_1 rfl rfl (by decide) rfl ?_
  refine m_iload_n hC dX0_open_4 1 rfl ?_
  refine m_iload_n hC dX0_open_5 2 rfl ?_
  refine m_callVi (n := 2) hC (c_X2_get T7 hi hj) gX0_open_X2_get rfl dX0_open_6 rfl rfl (by decide +kernel) ⟨Nat.le_of_ble_eq_true rfl, Nat.le_of_ble_eq_true rfl⟩ rfl (Nat.le_of_ble_eq_true rfl) ⟨Nat.le_of_ble_eq_true rfl, Nat.le_of_ble_eq_true rfl⟩ rfl ?_
  refine m_aload_n hC dX0_open_9 0 rfl ?_
  refine m_getR (o := 6) (j := 1) (a := 9) (CN := RX0) (T := TX0) (N := 2) hC iX0_open_0 fX0_open_20 rfl dX0_open_10 rfl rfl (by decide) rfl ?_
  refine m_iload_n hC dX0_open_13 1 rfl ?_
  refine m_iload_n hC dX0_open_14 2 rfl ?_
  refine m_callVi (n := 2) hC (c_X2_get T9 hi hj) gX0_open_X2_get rfl dX0_open_15 rfl rfl (by decide +kernel) ⟨Nat.le_of_ble_eq_true rfl, Nat.le_of_ble_eq_true rfl⟩ rfl (Nat.le_of_ble_eq_true rfl) ⟨Nat.le_of_ble_eq_true rfl, Nat.le_of_ble_eq_true rfl⟩ rfl ?_
  refine m_isub hC dX0_open_18 ?_
  refine m_ireti hC hR (Or.inl rfl) dX0_open_19 ⟨Nat.le_of_ble_eq_true rfl, Nat.le_of_ble_eq_true rfl⟩ ?_ ?_
  · first | rfl | omega
  · rfl
theorem iX0_openTo_0 : ∀ w ∈ wsX00, w ∈ wsX0_openTo := by decide +kernel
theorem fX0_openTo_14 : Cond.fieldLink RX0 14 "Mutualledger$Debts" "owed" "LMutualledger$Table;" ∈ wsX0_openTo := by decide +kernel
theorem fX0_openTo_20 : Cond.fieldLink RX0 20 "Mutualledger$Debts" "frozenParts" "LMutualledger$Table;" ∈ wsX0_openTo := by decide +kernel
set_option maxHeartbeats 4000000 in
set_option maxRecDepth 100000 in
theorem c_X0_openTo {g : mG} {S : Mem} {j : Int} (hj : -2147483648 ≤ j ∧ j < 2147483648) (l : Launch) : Does l yX0_openTo wsX0_openTo ({ frames := 3, cells := 0, slots := 0, locals := 69 } : Room) g [.ref (g.2.2 6), .int (z32 j)] S (PI (sI (fun r => tg 9 9 (S 8) r j) 9 - sI (fun r => tg 9 9 (S 10) r j) 9) S) := by
  refine Does.of (cc := cX0_openTo) (maxL := 2) (ret := (some .int)) (own := RX0) (by decide) rfl rfl (Nat.le_of_ble_eq_true rfl) ?_
  intro C hC hR
  show MW C g 2 (0, 0) 0 [(0, .ref (g.2.2 6)), (1, .int (z32 j))] [] S
  refine m_aload_n hC dX0_openTo_0 0 rfl ?_
  refine m_getR (o := 6) (j := 0) (a := 7) (CN := RX0) (T := TX0) (N := 2) hC iX0_openTo_0 fX0_openTo_14 rfl dX0_openTo_1 rfl rfl (by decide) rfl ?_
  refine m_iload_n hC dX0_openTo_4 1 rfl ?_
  refine m_callVi (n := 1) hC (c_X2_columnSum T7 hj) gX0_openTo_X2_columnSum rfl dX0_openTo_5 rfl rfl (by decide +kernel) ⟨Nat.le_of_ble_eq_true rfl, Nat.le_of_ble_eq_true rfl⟩ rfl (Nat.le_of_ble_eq_true rfl) ⟨Nat.le_of_ble_eq_true rfl, Nat.le_of_ble_eq_true rfl⟩ rfl ?_
  refine m_aload_n hC dX0_openTo_8 0 rfl ?_
  refine m_getR (o := 6) (j := 1) (a := 9) (CN := RX0) (T := TX0) (N := 2) hC iX0_openTo_0 fX0_openTo_20 rfl dX0_openTo_9 rfl rfl (by decide) rfl ?_
  refine m_iload_n hC dX0_openTo_12 1 rfl ?_
  refine m_callVi (n := 1) hC (c_X2_columnSum T9 hj) gX0_openTo_X2_columnSum rfl dX0_openTo_13 rfl rfl (by decide +kernel) ⟨Nat.le_of_ble_eq_true rfl, Nat.le_of_ble_eq_true rfl⟩ rfl (Nat.le_of_ble_eq_true rfl) ⟨Nat.le_of_ble_eq_true rfl, Nat.le_of_ble_eq_true rfl⟩ rfl ?_
  refine m_isub hC dX0_openTo_16 ?_
  refine m_ireti hC hR (Or.inl rfl) dX0_openTo_17 ⟨Nat.le_of_ble_eq_true rfl, Nat.le_of_ble_eq_true rfl⟩ ?_ ?_
  · first | rfl | omega
  · rfl
theorem iX0_more_0 : ∀ w ∈ wsX00, w ∈ wsX0_more := by decide +kernel
theorem fX0_more_14 : Cond.fieldLink RX0 14 "Mutualledger$Debts" "owed" "LMutualledger$Table;" ∈ wsX0_more := by decide +kernel
set_option maxHeartbeats 4000000 in
set_option maxRecDepth 100000 in
theorem c_X0_more {g : mG} {S : Mem} {i j v : Int} (hi : -2147483648 ≤ i ∧ i < 2147483648) (hj : -2147483648 ≤ j ∧ j < 2147483648) (l : Launch) : Does l yX0_more wsX0_more ({ frames := 3, cells := 0, slots := 0, locals := 70 } : Room) g [.ref (g.2.2 6), .int (z32 i), .int (z32 j), .int (z32 v)] S (PV (ts S 8 9 9 i j (tg 9 9 (S 8) i j + v))) := by
  refine Does.of (cc := cX0_more) (maxL := 4) (ret := none) (own := RX0) (by decide) rfl rfl (Nat.le_of_ble_eq_true rfl) ?_
  intro C hC hR
  show MW C g 4 (0, 0) 0 [(0, .ref (g.2.2 6)), (1, .int (z32 i)), (2, .int (z32 j)), (3, .int (z32 v))] [] S
  refine m_aload_n hC dX0_more_0 0 rfl ?_
  refine m_getR (o := 6) (j := 0) (a := 7) (CN := RX0) (T := TX0) (N := 2) hC iX0_more_0 fX0_more_14 rfl dX0_more_1 rfl rfl (by decide) rfl ?_
  refine m_iload_n hC dX0_more_4 1 rfl ?_
  refine m_iload_n hC dX0_more_5 2 rfl ?_
  refine m_iload_n hC dX0_more_6 3 rfl ?_
  refine m_callVv (n := 3) hC (c_X2_add T7 hi hj) gX0_more_X2_add rfl dX0_more_7 rfl rfl (by decide +kernel) ⟨Nat.le_of_ble_eq_true rfl, Nat.le_of_ble_eq_true rfl⟩ rfl (Nat.le_of_ble_eq_true rfl) ⟨Nat.le_of_ble_eq_true rfl, Nat.le_of_ble_eq_true rfl⟩ rfl ?_
  refine m_vretv hC hR dX0_more_10 ⟨Nat.le_of_ble_eq_true rfl, Nat.le_of_ble_eq_true rfl⟩ ?_
  rfl
theorem iX0_freeze_0 : ∀ w ∈ wsX00, w ∈ wsX0_freeze := by decide +kernel
theorem fX0_freeze_20 : Cond.fieldLink RX0 20 "Mutualledger$Debts" "frozenParts" "LMutualledger$Table;" ∈ wsX0_freeze := by decide +kernel
set_option maxHeartbeats 4000000 in
set_option maxRecDepth 100000 in
theorem c_X0_freeze {g : mG} {S : Mem} {i j v : Int} (hi : -2147483648 ≤ i ∧ i < 2147483648) (hj : -2147483648 ≤ j ∧ j < 2147483648) (l : Launch) : Does l yX0_freeze wsX0_freeze ({ frames := 3, cells := 0, slots := 0, locals := 70 } : Room) g [.ref (g.2.2 6), .int (z32 i), .int (z32 j), .int (z32 v)] S (PV (ts S 10 9 9 i j (tg 9 9 (S 10) i j + v))) := by
  refine Does.of (cc := cX0_freeze) (maxL := 4) (ret := none) (own := RX0) (by decide) rfl rfl (Nat.le_of_ble_eq_true rfl) ?_
  intro C hC hR
  show MW C g 4 (0, 0) 0 [(0, .ref (g.2.2 6)), (1, .int (z32 i)), (2, .int (z32 j)), (3, .int (z32 v))] [] S
  refine m_aload_n hC dX0_freeze_0 0 rfl ?_
  refine m_getR (o := 6) (j := 1) (a := 9) (CN := RX0) (T := TX0) (N := 2) hC iX0_freeze_0 fX0_freeze_20 rfl dX0_freeze_1 rfl rfl (by decide) rfl ?_
  refine m_iload_n hC dX0_freeze_4 1 rfl ?_
  refine m_iload_n hC dX0_freeze_5 2 rfl ?_
  refine m_iload_n hC dX0_freeze_6 3 rfl ?_
  refine m_callVv (n := 3) hC (c_X2_add T9 hi hj) gX0_freeze_X2_add rfl dX0_freeze_7 rfl rfl (by decide +kernel) ⟨Nat.le_of_ble_eq_true rfl, Nat.le_of_ble_eq_true rfl⟩ rfl (Nat.le_of_ble_eq_true rfl) ⟨Nat.le_of_ble_eq_true rfl, Nat.le_of_ble_eq_true rfl⟩ rfl ?_
  refine m_vretv hC hR dX0_freeze_10 ⟨Nat.le_of_ble_eq_true rfl, Nat.le_of_ble_eq_true rfl⟩ ?_
  rfl
theorem iX0_balanceOf_0 : ∀ w ∈ wsX00, w ∈ wsX0_balanceOf := by decide +kernel
theorem fX0_balanceOf_14 : Cond.fieldLink RX0 14 "Mutualledger$Debts" "owed" "LMutualledger$Table;" ∈ wsX0_balanceOf := by decide +kernel
set_option maxHeartbeats 4000000 in
set_option maxRecDepth 100000 in
theorem c_X0_balanceOf {g : mG} {S : Mem} {j : Int} (hj : -2147483648 ≤ j ∧ j < 2147483648) (l : Launch) : Does l yX0_balanceOf wsX0_balanceOf ({ frames := 3, cells := 0, slots := 0, locals := 69 } : Room) g [.ref (g.2.2 6), .int (z32 j)] S (PI (bal (S 8) j) S) := by
  refine Does.of (cc := cX0_balanceOf) (maxL := 2) (ret := (some .int)) (own := RX0) (by decide) rfl rfl (Nat.le_of_ble_eq_true rfl) ?_
  intro C hC hR
  show MW C g 2 (0, 0) 0 [(0, .ref (g.2.2 6)), (1, .int (z32 j))] [] S
  refine m_aload_n hC dX0_balanceOf_0 0 rfl ?_
  refine m_getR (o := 6) (j := 0) (a := 7) (CN := RX0) (T := TX0) (N := 2) hC iX0_balanceOf_0 fX0_balanceOf_14 rfl dX0_balanceOf_1 rfl rfl (by decide) rfl ?_
  refine m_iload_n hC dX0_balanceOf_4 1 rfl ?_
  refine m_callVi (n := 1) hC (c_X2_columnSum T7 hj) gX0_balanceOf_X2_columnSum rfl dX0_balanceOf_5 rfl rfl (by decide +kernel) ⟨Nat.le_of_ble_eq_true rfl, Nat.le_of_ble_eq_true rfl⟩ rfl (Nat.le_of_ble_eq_true rfl) ⟨Nat.le_of_ble_eq_true rfl, Nat.le_of_ble_eq_true rfl⟩ rfl ?_
  refine m_aload_n hC dX0_balanceOf_8 0 rfl ?_
  refine m_getR (o := 6) (j := 0) (a := 7) (CN := RX0) (T := TX0) (N := 2) hC iX0_balanceOf_0 fX0_balanceOf_14 rfl dX0_balanceOf_9 rfl rfl (by decide) rfl ?_
  refine m_iload_n hC dX0_balanceOf_12 1 rfl ?_
  refine m_callVi (n := 1) hC (c_X2_rowSum T7 hj) gX0_balanceOf_X2_rowSum rfl dX0_balanceOf_13 rfl rfl (by decide +kernel) ⟨Nat.le_of_ble_eq_true rfl, Nat.le_of_ble_eq_true rfl⟩ rfl (Nat.le_of_ble_eq_true rfl) ⟨Nat.le_of_ble_eq_true rfl, Nat.le_of_ble_eq_true rfl⟩ rfl ?_
  refine m_isub hC dX0_balanceOf_16 ?_
  refine m_ireti hC hR (Or.inl rfl) dX0_balanceOf_17 ⟨Nat.le_of_ble_eq_true rfl, Nat.le_of_ble_eq_true rfl⟩ ?_ ?_
  · first | rfl | omega
  · rfl
set_option maxHeartbeats 4000000 in
set_option maxRecDepth 100000 in
theorem c_X0_greatestOpenDebtorOf {g : mG} {S : Mem} {s : Int} (hs : -2147483648 ≤ s ∧ s < 2147483648) (hO : opnOk S) (l : Launch) : Does l yX0_greatestOpenDebtorOf wsX0_greatestOpenDebtorOf ({ frames := 3, cells := 0, slots := 0, locals := 68 } : Room) g [.ref (g.2.2 6), .int (z32 s)] S (PI (god S s 7) S) := by
  refine Does.of (cc := cX0_greatestOpenDebtorOf) (maxL := 4) (ret := (some .int)) (own := RX0) (by decide) rfl rfl (Nat.le_of_ble_eq_true rfl) ?_
  intro C hC hR
  show MW C g 4 (0, 0) 0 [(0, .ref (g.2.2 6)), (1, .int (z32 s))] [] S
  refine m_iconst (v := 0) hC dX0_greatestOpenDebtorOf_0 (by decide) ?_
  refine m_istore_n hC dX0_greatestOpenDebtorOf_1 (fun z9 => [(2, .int (z32 z9)), (0, .ref (g.2.2 6)), (1, .int (z32 s))]) (by decide) (fun _ => rfl) (fun v2_1 hv2_1 => ?_)
  refine m_iconst (v := 1) hC dX0_greatestOpenDebtorOf_2 (by decide) ?_
  refine m_istore_n hC dX0_greatestOpenDebtorOf_3 (fun z9 => [(3, .int (z32 z9)), (2, .int (z32 v2_1)), (0, .ref (g.2.2 6)), (1, .int (z32 s))]) (by decide) (fun _ => rfl) (fun v3_3 hv3_3 => ?_)
  have L4 : ∀ (n4 : Nat) (i : Nat) (b : Int) (x : Int), 8 - x < (n4 : Int) → x = (i : Int) + 1 → i ≤ 7 → b = god S s i → MW C g 4 (0, 0) 4 [(0, .ref (g.2.2 6)), (1, .int (z32 s)), (2, .int (z32 b)), (3, .int (z32 x))] [] S := by
    intro n4
    induction n4 with
    | zero => intros; exfalso; omega
    | succ n4 ih4 =>
      intro i b x hm4 hx hi hb
      have hg := god_in S s i
      refine m_iload_n hC dX0_greatestOpenDebtorOf_4 3 rfl ?_
      refine m_bipush (v := 8) hC dX0_greatestOpenDebtorOf_5 (by decide) ?_
      refine m_icmp_ge (tgt := 33) hC dX0_greatestOpenDebtorOf_7 (by decide) (by omega) (by omega) (fun c_7 => ?_) (fun c_7 => ?_)
      · refine m_iload_n hC dX0_greatestOpenDebtorOf_33 2 rfl ?_
        refine m_ireti hC hR (Or.inl rfl) dX0_greatestOpenDebtorOf_34 ⟨Nat.le_of_ble_eq_true rfl, Nat.le_of_ble_eq_true rfl⟩ ?_ ?_
        · rw [hb, show i = 7 by omega]
        · rfl
      · refine m_aload_n hC dX0_greatestOpenDebtorOf_10 0 rfl ?_
        refine m_iload_n hC dX0_greatestOpenDebtorOf_11 3 rfl ?_
        refine m_iload_n hC dX0_greatestOpenDebtorOf_12 1 rfl ?_
        refine m_callVi (n := 2) hC (c_X0_open (by omega) hs) gX0_greatestOpenDebtorOf_X0_open rfl dX0_greatestOpenDebtorOf_13 rfl rfl (by decide +kernel) ⟨Nat.le_of_ble_eq_true rfl, Nat.le_of_ble_eq_true rfl⟩ rfl (Nat.le_of_ble_eq_true rfl) ⟨Nat.le_of_ble_eq_true rfl, Nat.le_of_ble_eq_true rfl⟩ rfl ?_
        refine m_aload_n hC dX0_greatestOpenDebtorOf_16 0 rfl ?_
        refine m_iload_n hC dX0_greatestOpenDebtorOf_17 2 rfl ?_
        refine m_iload_n hC dX0_greatestOpenDebtorOf_18 1 rfl ?_
        refine m_callVi (n := 2) hC (c_X0_open (by omega) hs) gX0_greatestOpenDebtorOf_X0_open rfl dX0_greatestOpenDebtorOf_19 rfl rfl (by decide +kernel) ⟨Nat.le_of_ble_eq_true rfl, Nat.le_of_ble_eq_true rfl⟩ rfl (Nat.le_of_ble_eq_true rfl) ⟨Nat.le_of_ble_eq_true rfl, Nat.le_of_ble_eq_true rfl⟩ rfl ?_
        refine m_icmp_le (tgt := 27) hC dX0_greatestOpenDebtorOf_22 (by decide) (hO _ _) (hO _ _) (fun c_22 => ?_) (fun c_22 => ?_)
        · refine m_iinc hC dX0_greatestOpenDebtorOf_27 3 rfl (fun z9 => [(3, .int (z32 z9)), (0, .ref (g.2.2 6)), (1, .int (z32 s)), (2, .int (z32 b))]) (by decide) (fun _ => rfl) (fun v3_27 hv3_27 => ?_)
          refine m_goto (tgt := 4) hC dX0_greatestOpenDebtorOf_30 (by decide) ?_
          refine m_locals [1, 2, 3, 0] rfl ?_
          exact ih4 (i + 1) b v3_27 (by omega) (by omega) (by omega) (by first | (rw [god, ← hb, ← hx, if_neg (by omega)]; done) | (rw [god, ← hb, ← hx, if_pos (by omega)]; omega))
        · refine m_iload_n hC dX0_greatestOpenDebtorOf_25 3 rfl ?_
          refine m_istore_n hC dX0_greatestOpenDebtorOf_26 (fun z9 => [(2, .int (z32 z9)), (0, .ref (g.2.2 6)), (1, .int (z32 s)), (3, .int (z32 x))]) (by decide) (fun _ => rfl) (fun v2_26 hv2_26 => ?_)
          refine m_iinc hC dX0_greatestOpenDebtorOf_27 3 rfl (fun z9 => [(3, .int (z32 z9)), (2, .int (z32 v2_26)), (0, .ref (g.2.2 6)), (1, .int (z32 s))]) (by decide) (fun _ => rfl) (fun v3_27 hv3_27 => ?_)
          refine m_goto (tgt := 4) hC dX0_greatestOpenDebtorOf_30 (by decide) ?_
          refine m_locals [2, 3, 1, 0] rfl ?_
          exact ih4 (i + 1) v2_26 v3_27 (by omega) (by omega) (by omega) (by first | (rw [god, ← hb, ← hx, if_neg (by omega)]; done) | (rw [god, ← hb, ← hx, if_pos (by omega)]; omega))
  refine m_locals [2, 3, 1, 0] rfl ?_
  exact L4 9 0 v2_1 v3_3 (by omega) (by omega) (by omega) (by rw [hv2_1]; rfl)
theorem iX3_isFull_3 : ∀ w ∈ wsX30, w ∈ wsX3_isFull := by decide +kernel
theorem fX3_isFull_20 : Cond.fieldLink RX3 20 "Mutualledger$Trades" "count" "I" ∈ wsX3_isFull := by decide +kernel
set_option maxHeartbeats 4000000 in
set_option maxRecDepth 100000 in
theorem c_X3_isFull {g : mG} {S : Mem} (hn : -2147483648 ≤ S 3 1 ∧ S 3 1 < 2147483648) (l : Launch) : Does l yX3_isFull wsX3_isFull ({ frames := 0, cells := 0, slots := 0, locals := 0 } : Room) g [.ref (g.2.2 3)] S (PI (bI (decide (100 ≤ S 3 1))) S) := by
  refine Does.of (cc := cX3_isFull) (maxL := 1) (ret := (some .boolean)) (own := RX3) (by decide) rfl rfl (Nat.le_of_ble_eq_true rfl) ?_
  intro C hC hR
  show MW C g 1 (0, 0) 0 [(0, .ref (g.2.2 3))] [] S
  refine m_aload_n hC dX3_isFull_0 0 rfl ?_
  refine m_getI (o := 3) (j := 1) (ji := 1) (CN := RX3) (T := TX3) (N := 2) hC iX3_isFull_3 fX3_isFull_20 rfl dX3_isFull_1 rfl rfl (by decide) rfl rfl ?_
  refine m_bipush (v := 100) hC dX3_isFull_4 (by decide) ?_
  refine m_icmp_lt (tgt := 13) hC dX3_isFull_6 (by decide) (by omega) (by omega) (fun c_6 => ?_) (fun c_6 => ?_)
  · refine m_iconst (v := 0) hC dX3_isFull_13 (by decide) ?_
    refine m_ireti hC hR (Or.inr ⟨rfl, by first | exact Or.inl rfl | exact Or.inr rfl | omega⟩) dX3_isFull_14 ⟨Nat.le_of_ble_eq_true rfl, Nat.le_of_ble_eq_true rfl⟩ ?_ ?_
    · first | (rw [bI, if_neg (by simp only [decide_eq_true_eq]; omega)]; done) | rw [bI, if_pos (by simp only [decide_eq_true_eq]; omega)]
    · rfl
  · refine m_iconst (v := 1) hC dX3_isFull_9 (by decide) ?_
    refine m_goto (tgt := 14) hC dX3_isFull_10 (by decide) ?_
    refine m_ireti hC hR (Or.inr ⟨rfl, by first | exact Or.inl rfl | exact Or.inr rfl | omega⟩) dX3_isFull_14 ⟨Nat.le_of_ble_eq_true rfl, Nat.le_of_ble_eq_true rfl⟩ ?_ ?_
    · first | (rw [bI, if_neg (by simp only [decide_eq_true_eq]; omega)]; done) | rw [bI, if_pos (by simp only [decide_eq_true_eq]; omega)]
    · rfl
theorem iX3_has_3 : ∀ w ∈ wsX30, w ∈ wsX3_has := by decide +kernel
theorem fX3_has_20 : Cond.fieldLink RX3 20 "Mutualledger$Trades" "count" "I" ∈ wsX3_has := by decide +kernel
set_option maxHeartbeats 4000000 in
set_option maxRecDepth 100000 in
theorem c_X3_has {g : mG} {S : Mem} {t : Int} (ht : -2147483648 ≤ t ∧ t < 2147483648) (hn : -2147483648 ≤ S 3 1 ∧ S 3 1 < 2147483648) (l : Launch) : Does l yX3_has wsX3_has ({ frames := 0, cells := 0, slots := 0, locals := 0 } : Room) g [.ref (g.2.2 3), .int (z32 t)] S (PI (bI (decide (0 ≤ t ∧ t < S 3 1))) S) := by
  refine Does.of (cc := cX3_has) (maxL := 2) (ret := (some .boolean)) (own := RX3) (by decide) rfl rfl (Nat.le_of_ble_eq_true rfl) ?_
  intro C hC hR
  show MW C g 2 (0, 0) 0 [(0, .ref (g.2.2 3)), (1, .int (z32 t))] [] S
  refine m_iload_n hC dX3_has_0 1 rfl ?_
  refine m_if_lt (tgt := 16) hC dX3_has_1 (by decide) (by omega) (fun c_1 => ?_) (fun c_1 => ?_)
  · refine m_iconst (v := 0) hC dX3_has_16 (by decide) ?_
    refine m_ireti hC hR (Or.inr ⟨rfl, by first | exact Or.inl rfl | exact Or.inr rfl | omega⟩) dX3_has_17 ⟨Nat.le_of_ble_eq_true rfl, Nat.le_of_ble_eq_true rfl⟩ ?_ ?_
    · first | (rw [bI, if_neg (by simp only [decide_eq_true_eq]; omega)]; done) | rw [bI, if_pos (by simp only [decide_eq_true_eq]; omega)]
    · rfl
  · refine m_iload_n hC dX3_has_4 1 rfl ?_
    refine m_aload_n hC dX3_has_5 0 rfl ?_
    refine m_getI (o := 3) (j := 1) (ji := 1) (CN := RX3) (T := TX3) (N := 2) hC iX3_has_3 fX3_has_20 rfl dX3_has_6 rfl rfl (by decide) rfl rfl ?_
    refine m_icmp_ge (tgt := 16) hC dX3_has_9 (by decide) (by omega) (by omega) (fun c_9 => ?_) (fun c_9 => ?_)
    · refine m_iconst (v := 0) hC dX3_has_16 (by decide) ?_
      refine m_ireti hC hR (Or.inr ⟨rfl, by first | exact Or.inl rfl | exact Or.inr rfl | omega⟩) dX3_has_17 ⟨Nat.le_of_ble_eq_true rfl, Nat.le_of_ble_eq_true rfl⟩ ?_ ?_
      · first | (rw [bI, if_neg (by simp only [decide_eq_true_eq]; omega)]; done) | rw [bI, if_pos (by simp only [decide_eq_true_eq]; omega)]
      · rfl
    · refine m_iconst (v := 1) hC dX3_has_12 (by decide) ?_
      refine m_goto (tgt := 17) hC dX3_has_13 (by decide) ?_
      refine m_ireti hC hR (Or.inr ⟨rfl, by first | exact Or.inl rfl | exact Or.inr rfl | omega⟩) dX3_has_17 ⟨Nat.le_of_ble_eq_true rfl, Nat.le_of_ble_eq_true rfl⟩ ?_ ?_
      · first | (rw [bI, if_neg (by simp only [decide_eq_true_eq]; omega)]; done) | rw [bI, if_pos (by simp only [decide_eq_true_eq]; omega)]
      · rfl
theorem iX3_of_3 : ∀ w ∈ wsX30, w ∈ wsX3_of := by decide +kernel
theorem fX3_of_16 : Cond.fieldLink RX3 16 "Mutualledger$Trades" "rows" "LMutualledger$Table;" ∈ wsX3_of := by decide +kernel
set_option maxHeartbeats 4000000 in
set_option maxRecDepth 100000 in
theorem c_X3_of {g : mG} {S : Mem} {t w : Int} (ht : -2147483648 ≤ t ∧ t < 2147483648) (hw : -2147483648 ≤ w ∧ w < 2147483648) (l : Launch) : Does l yX3_of wsX3_of ({ frames := 2, cells := 0, slots := 0, locals := 46 } : Room) g [.ref (g.2.2 3), .int (z32 t), .int (z32 w)] S (PI (trd S t w) S) := by
  refine Does.of (cc := cX3_of) (maxL := 3) (ret := (some .int)) (own := RX3) (by decide) rfl rfl (Nat.le_of_ble_eq_true rfl) ?_
  intro C hC hR
  show MW C g 3 (0, 0) 0 [(0, .ref (g.2.2 3)), (1, .int (z32 t)), (2, .int (z32 w))] [] S
  refine m_aload_n hC dX3_of_0 0 rfl ?_
  refine m_getR (o := 3) (j := 0) (a := 4) (CN := RX3) (T := TX3) (N := 2) hC iX3_of_3 fX3_of_16 rfl dX3_of_1 rfl rfl (by decide) rfl ?_
  refine m_iload_n hC dX3_of_4 1 rfl ?_
  refine m_iload_n hC dX3_of_5 2 rfl ?_
  refine m_callVi (n := 2) hC (c_X2_get T4 ht hw) gX3_of_X2_get rfl dX3_of_6 rfl rfl (by decide +kernel) ⟨Nat.le_of_ble_eq_true rfl, Nat.le_of_ble_eq_true rfl⟩ rfl (Nat.le_of_ble_eq_true rfl) ⟨Nat.le_of_ble_eq_true rfl, Nat.le_of_ble_eq_true rfl⟩ rfl ?_
  refine m_ireti hC hR (Or.inl rfl) dX3_of_9 ⟨Nat.le_of_ble_eq_true rfl, Nat.le_of_ble_eq_true rfl⟩ ?_ ?_
  · first | rfl | omega
  · rfl
theorem iX3_put_3 : ∀ w ∈ wsX30, w ∈ wsX3_put := by decide +kernel
theorem fX3_put_20 : Cond.fieldLink RX3 20 "Mutualledger$Trades" "count" "I" ∈ wsX3_put := by decide +kernel
theorem fX3_put_16 : Cond.fieldLink RX3 16 "Mutualledger$Trades" "rows" "LMutualledger$Table;" ∈ wsX3_put := by decide +kernel
set_option maxHeartbeats 4000000 in
set_option maxRecDepth 100000 in
theorem c_X3_put {g : mG} {S : Mem} {b s a d : Int} (hn : -2147483648 ≤ S 3 1 ∧ S 3 1 < 2147483648) (l : Launch) : Does l yX3_put wsX3_put ({ frames := 2, cells := 0, slots := 0, locals := 47 } : Room) g [.ref (g.2.2 3), .int (z32 b), .int (z32 s), .int (z32 a), .int (z32 d)] S (PI (S 3 1) (putT S (S 3 1) b s a d)) := by
  refine Does.of (cc := cX3_put) (maxL := 6) (ret := (some .int)) (own := RX3) (by decide) rfl rfl (Nat.le_of_ble_eq_true rfl) ?_
  intro C hC hR
  show MW C g 6 (0, 0) 0 [(0, .ref (g.2.2 3)), (1, .int (z32 b)), (2, .int (z32 s)), (3, .int (z32 a)), (4, .int (z32 d))] [] S
  refine m_aload_n hC dX3_put_0 0 rfl ?_
  refine m_getI (o := 3) (j := 1) (ji := 1) (CN := RX3) (T := TX3) (N := 2) hC iX3_put_3 fX3_put_20 rfl dX3_put_1 rfl rfl (by decide) rfl rfl ?_
  refine m_istore hC dX3_put_4 (fun z9 => [(5, .int (z32 z9)), (0, .ref (g.2.2 3)), (1, .int (z32 b)), (2, .int (z32 s)), (3, .int (z32 a)), (4, .int (z32 d))]) (by decide) (fun _ => rfl) (fun v5_4 hv5_4 => ?_)
  refine m_aload_n hC dX3_put_6 1 rfl ?_
  refine m_getR (o := 3) (j := 0) (a := 4) (CN := RX3) (T := TX3) (N := 2) hC iX3_put_3 fX3_put_16 rfl dX3_put_7 rfl rfl (by decide) rfl ?_
  refine m_iload hC dX3_put_10 0 rfl ?_
  refine m_iconst (v := 0) hC dX3_put_12 (by decide) ?_
  refine m_iconst (v := 0) hC dX3_put_13 (by decide) ?_
  refine m_callVv (n := 3) hC (c_X2_set T4 (by omega) (by omega)) gX3_put_X2_set rfl dX3_put_14 rfl rfl (by decide +kernel) ⟨Nat.le_of_ble_eq_true rfl, Nat.le_of_ble_eq_true rfl⟩ rfl (Nat.le_of_ble_eq_true rfl) ⟨Nat.le_of_ble_eq_true rfl, Nat.le_of_ble_eq_true rfl⟩ rfl ?_
  refine m_aload_n hC dX3_put_17 1 rfl ?_
  refine m_getR (o := 3) (j := 0) (a := 4) (CN := RX3) (T := TX3) (N := 2) hC iX3_put_3 fX3_put_16 rfl dX3_put_18 rfl rfl (by decide) rfl ?_
  refine m_iload hC dX3_put_21 0 rfl ?_
  refine m_iconst (v := 1) hC dX3_put_23 (by decide) ?_
  refine m_iload_n hC dX3_put_24 2 rfl ?_
  refine m_callVv (n := 3) hC (c_X2_set T4 (by omega) (by omega)) gX3_put_X2_set rfl dX3_put_25 rfl rfl (by decide +kernel) ⟨Nat.le_of_ble_eq_true rfl, Nat.le_of_ble_eq_true rfl⟩ rfl (Nat.le_of_ble_eq_true rfl) ⟨Nat.le_of_ble_eq_true rfl, Nat.le_of_ble_eq_true rfl⟩ rfl ?_
  refine m_aload_n hC dX3_put_28 1 rfl ?_
  refine m_getR (o := 3) (j := 0) (a := 4) (CN := RX3) (T := TX3) (N := 2) hC iX3_put_3 fX3_put_16 rfl dX3_put_29 rfl rfl (by decide) rfl ?_
  refine m_iload hC dX3_put_32 0 rfl ?_
  refine m_iconst (v := 2) hC dX3_put_34 (by decide) ?_
  refine m_iload_n hC dX3_put_35 3 rfl ?_
  refine m_callVv (n := 3) hC (c_X2_set T4 (by omega) (by omega)) gX3_put_X2_set rfl dX3_put_36 rfl rfl (by decide +kernel) ⟨Nat.le_of_ble_eq_true rfl, Nat.le_of_ble_eq_true rfl⟩ rfl (Nat.le_of_ble_eq_true rfl) ⟨Nat.le_of_ble_eq_true rfl, Nat.le_of_ble_eq_true rfl⟩ rfl ?_
  refine m_aload_n hC dX3_put_39 1 rfl ?_
  refine m_getR (o := 3) (j := 0) (a := 4) (CN := RX3) (T := TX3) (N := 2) hC iX3_put_3 fX3_put_16 rfl dX3_put_40 rfl rfl (by decide) rfl ?_
  refine m_iload hC dX3_put_43 0 rfl ?_
  refine m_iconst (v := 3) hC dX3_put_45 (by decide) ?_
  refine m_iload_n hC dX3_put_46 4 rfl ?_
  refine m_callVv (n := 3) hC (c_X2_set T4 (by omega) (by omega)) gX3_put_X2_set rfl dX3_put_47 rfl rfl (by decide +kernel) ⟨Nat.le_of_ble_eq_true rfl, Nat.le_of_ble_eq_true rfl⟩ rfl (Nat.le_of_ble_eq_true rfl) ⟨Nat.le_of_ble_eq_true rfl, Nat.le_of_ble_eq_true rfl⟩ rfl ?_
  refine m_aload_n hC dX3_put_50 1 rfl ?_
  refine m_getR (o := 3) (j := 0) (a := 4) (CN := RX3) (T := TX3) (N := 2) hC iX3_put_3 fX3_put_16 rfl dX3_put_51 rfl rfl (by decide) rfl ?_
  refine m_iload hC dX3_put_54 0 rfl ?_
  refine m_iconst (v := 4) hC dX3_put_56 (by decide) ?_
  refine m_iload hC dX3_put_57 5 rfl ?_
  refine m_callVv (n := 3) hC (c_X2_set T4 (by omega) (by omega)) gX3_put_X2_set rfl dX3_put_59 rfl rfl (by decide +kernel) ⟨Nat.le_of_ble_eq_true rfl, Nat.le_of_ble_eq_true rfl⟩ rfl (Nat.le_of_ble_eq_true rfl) ⟨Nat.le_of_ble_eq_true rfl, Nat.le_of_ble_eq_true rfl⟩ rfl ?_
  refine m_aload_n hC dX3_put_62 1 rfl ?_
  refine m_dup hC dX3_put_63 rfl ?_
  refine m_getI (o := 3) (j := 1) (ji := 1) (CN := RX3) (T := TX3) (N := 2) hC iX3_put_3 fX3_put_20 rfl dX3_put_64 rfl rfl (by decide) rfl rfl ?_
  refine m_iconst (v := 1) hC dX3_put_67 (by decide) ?_
  refine m_iadd hC dX3_put_68 ?_
  refine m_putI (o := 3) (j := 1) (ji := 1) (CN := RX3) (T := TX3) (N := 2) hC iX3_put_3 fX3_put_20 rfl dX3_put_69 rfl rfl (by decide) rfl tyX3 tyX3_ok nmX3 rfl (by decide +kernel) rfl ?_
  refine m_iload hC dX3_put_72 0 rfl ?_
  refine m_ireti hC hR (Or.inl rfl) dX3_put_74 ⟨Nat.le_of_ble_eq_true rfl, Nat.le_of_ble_eq_true rfl⟩ ?_ ?_
  · exact hv5_4
  · subst hv5_4; unfold putT; simp only [ts_o (show (3 : Nat) ≠ 5 by decide)]
theorem iX3_turn_3 : ∀ w ∈ wsX30, w ∈ wsX3_turn := by decide +kernel
theorem fX3_turn_16 : Cond.fieldLink RX3 16 "Mutualledger$Trades" "rows" "LMutualledger$Table;" ∈ wsX3_turn := by decide +kernel
set_option maxHeartbeats 4000000 in
set_option maxRecDepth 100000 in
theorem c_X3_turn {g : mG} {S : Mem} {t z f : Int} (ht : -2147483648 ≤ t ∧ t < 2147483648) (l : Launch) : Does l yX3_turn wsX3_turn ({ frames := 2, cells := 0, slots := 0, locals := 47 } : Room) g [.ref (g.2.2 3), .int (z32 t), .int (z32 z), .int (z32 f)] S (PV (ts (ts S 5 100 6 t 0 z) 5 100 6 t 5 f)) := by
  refine Does.of (cc := cX3_turn) (maxL := 4) (ret := none) (own := RX3) (by decide) rfl rfl (Nat.le_of_ble_eq_true rfl) ?_
  intro C hC hR
  show MW C g 4 (0, 0) 0 [(0, .ref (g.2.2 3)), (1, .int (z32 t)), (2, .int (z32 z)), (3, .int (z32 f))] [] S
  refine m_aload_n hC dX3_turn_0 0 rfl ?_
  refine m_getR (o := 3) (j := 0) (a := 4) (CN := RX3) (T := TX3) (N := 2) hC iX3_turn_3 fX3_turn_16 rfl dX3_turn_1 rfl rfl (by decide) rfl ?_
  refine m_iload_n hC dX3_turn_4 1 rfl ?_
  refine m_iconst (v := 0) hC dX3_turn_5 (by decide) ?_
  refine m_iload_n hC dX3_turn_6 2 rfl ?_
  refine m_callVv (n := 3) hC (c_X2_set T4 ht (by omega)) gX3_turn_X2_set rfl dX3_turn_7 rfl rfl (by decide +kernel) ⟨Nat.le_of_ble_eq_true rfl, Nat.le_of_ble_eq_true rfl⟩ rfl (Nat.le_of_ble_eq_true rfl) ⟨Nat.le_of_ble_eq_true rfl, Nat.le_of_ble_eq_true rfl⟩ rfl ?_
  refine m_aload_n hC dX3_turn_10 0 rfl ?_
  refine m_getR (o := 3) (j := 0) (a := 4) (CN := RX3) (T := TX3) (N := 2) hC iX3_turn_3 fX3_turn_16 rfl dX3_turn_11 rfl rfl (by decide) rfl ?_
  refine m_iload_n hC dX3_turn_14 1 rfl ?_
  refine m_iconst (v := 5) hC dX3_turn_15 (by decide) ?_
  refine m_iload_n hC dX3_turn_16 3 rfl ?_
  refine m_callVv (n := 3) hC (c_X2_set T4 ht (by omega)) gX3_turn_X2_set rfl dX3_turn_17 rfl rfl (by decide +kernel) ⟨Nat.le_of_ble_eq_true rfl, Nat.le_of_ble_eq_true rfl⟩ rfl (Nat.le_of_ble_eq_true rfl) ⟨Nat.le_of_ble_eq_true rfl, Nat.le_of_ble_eq_true rfl⟩ rfl ?_
  refine m_vretv hC hR dX3_turn_20 ⟨Nat.le_of_ble_eq_true rfl, Nat.le_of_ble_eq_true rfl⟩ ?_
  rfl
set_option maxHeartbeats 4000000 in
set_option maxRecDepth 100000 in
theorem c_X3_isOf {g : mG} {S : Mem} {t s : Int} (ht : -2147483648 ≤ t ∧ t < 2147483648) (hs : -2147483648 ≤ s ∧ s < 2147483648) (hT : trdOk S) (l : Launch) : Does l yX3_isOf wsX3_isOf ({ frames := 3, cells := 0, slots := 0, locals := 68 } : Room) g [.ref (g.2.2 3), .int (z32 t), .int (z32 s)] S (PI (bI (isof S s t)) S) := by
  refine Does.of (cc := cX3_isOf) (maxL := 3) (ret := (some .boolean)) (own := RX3) (by decide) rfl rfl (Nat.le_of_ble_eq_true rfl) ?_
  intro C hC hR
  show MW C g 3 (0, 0) 0 [(0, .ref (g.2.2 3)), (1, .int (z32 t)), (2, .int (z32 s))] [] S
  refine m_aload_n hC dX3_isOf_0 0 rfl ?_
  refine m_iload_n hC dX3_isOf_1 1 rfl ?_
  refine m_iconst (v := 1) hC dX3_isOf_2 (by decide) ?_
  refine m_callVi (n := 2) hC (c_X3_of ht (by omega)) gX3_isOf_X3_of rfl dX3_isOf_3 rfl rfl (by decide +kernel) ⟨Nat.le_of_ble_eq_true rfl, Nat.le_of_ble_eq_true rfl⟩ rfl (Nat.le_of_ble_eq_true rfl) ⟨Nat.le_of_ble_eq_true rfl, Nat.le_of_ble_eq_true rfl⟩ rfl ?_
  refine m_iload_n hC dX3_isOf_6 2 rfl ?_
  refine m_icmp_eq (tgt := 20) hC dX3_isOf_7 (by decide) (hT _ _) (by omega) (fun c_7 => ?_) (fun c_7 => ?_)
  · refine m_iconst (v := 1) hC dX3_isOf_20 (by decide) ?_
    refine m_goto (tgt := 25) hC dX3_isOf_21 (by decide) ?_
    refine m_ireti hC hR (Or.inr ⟨rfl, by first | exact Or.inl rfl | exact Or.inr rfl | omega⟩) dX3_isOf_25 ⟨Nat.le_of_ble_eq_true rfl, Nat.le_of_ble_eq_true rfl⟩ ?_ ?_
    · simp [bI, isof, *]
    · rfl
  · refine m_aload_n hC dX3_isOf_10 0 rfl ?_
    refine m_iload_n hC dX3_isOf_11 1 rfl ?_
    refine m_iconst (v := 2) hC dX3_isOf_12 (by decide) ?_
    refine m_callVi (n := 2) hC (c_X3_of ht (by omega)) gX3_isOf_X3_of rfl dX3_isOf_13 rfl rfl (by decide +kernel) ⟨Nat.le_of_ble_eq_true rfl, Nat.le_of_ble_eq_true rfl⟩ rfl (Nat.le_of_ble_eq_true rfl) ⟨Nat.le_of_ble_eq_true rfl, Nat.le_of_ble_eq_true rfl⟩ rfl ?_
    refine m_iload_n hC dX3_isOf_16 2 rfl ?_
    refine m_icmp_ne (tgt := 24) hC dX3_isOf_17 (by decide) (hT _ _) (by omega) (fun c_17 => ?_) (fun c_17 => ?_)
    · refine m_iconst (v := 0) hC dX3_isOf_24 (by decide) ?_
      refine m_ireti hC hR (Or.inr ⟨rfl, by first | exact Or.inl rfl | exact Or.inr rfl | omega⟩) dX3_isOf_25 ⟨Nat.le_of_ble_eq_true rfl, Nat.le_of_ble_eq_true rfl⟩ ?_ ?_
      · simp [bI, isof, *]
      · rfl
    · refine m_iconst (v := 1) hC dX3_isOf_20 (by decide) ?_
      refine m_goto (tgt := 25) hC dX3_isOf_21 (by decide) ?_
      refine m_ireti hC hR (Or.inr ⟨rfl, by first | exact Or.inl rfl | exact Or.inr rfl | omega⟩) dX3_isOf_25 ⟨Nat.le_of_ble_eq_true rfl, Nat.le_of_ble_eq_true rfl⟩ ?_ ?_
      · simp [bI, isof, *]
      · rfl
theorem iX3_hasDisputedOf_3 : ∀ w ∈ wsX30, w ∈ wsX3_hasDisputedOf := by decide +kernel
theorem fX3_hasDisputedOf_20 : Cond.fieldLink RX3 20 "Mutualledger$Trades" "count" "I" ∈ wsX3_hasDisputedOf := by decide +kernel
set_option maxHeartbeats 4000000 in
set_option maxRecDepth 100000 in
theorem c_X3_hasDisputedOf {g : mG} {S : Mem} {s : Int} (hs : -2147483648 ≤ s ∧ s < 2147483648) (hT : trdOk S) (hn : 0 ≤ S 3 1 ∧ S 3 1 ≤ 100) (l : Launch) : Does l yX3_hasDisputedOf wsX3_hasDisputedOf ({ frames := 4, cells := 0, slots := 0, locals := 90 } : Room) g [.ref (g.2.2 3), .int (z32 s)] S (PI (bI (anyI (fun t => isof S s t && decide (trd S t 0 = 1)) (S 3 1).toNat)) S) := by
  refine Does.of (cc := cX3_hasDisputedOf) (maxL := 3) (ret := (some .boolean)) (own := RX3) (by decide) rfl rfl (Nat.le_of_ble_eq_true rfl) ?_
  intro C hC hR
  show MW C g 3 (0, 0) 0 [(0, .ref (g.2.2 3)), (1, .int (z32 s))] [] S
  refine m_iconst (v := 0) hC dX3_hasDisputedOf_0 (by decide) ?_
  refine m_istore_n hC dX3_hasDisputedOf_1 (fun z9 => [(2, .int (z32 z9)), (0, .ref (g.2.2 3)), (1, .int (z32 s))]) (by decide) (fun _ => rfl) (fun v2_1 hv2_1 => ?_)
  have L2 : ∀ (n2 : Nat) (i : Nat) (x : Int), S 3 1 - x < (n2 : Int) → x = (i : Int) → (i : Int) ≤ S 3 1 → anyI (fun t => isof S s t && decide (trd S t 0 = 1)) i = false → MW C g 3 (0, 0) 2 [(0, .ref (g.2.2 3)), (1, .int (z32 s)), (2, .int (z32 x))] [] S := by
    intro n2
    induction n2 with
    | zero => intros; exfalso; omega
    | succ n2 ih2 =>
      intro i x hm2 hx hi hno
      have hn1 := hn.1
      have hn2 := hn.2
      refine m_iload_n hC dX3_hasDisputedOf_2 2 rfl ?_
      refine m_aload_n hC dX3_hasDisputedOf_3 0 rfl ?_
      refine m_getI (o := 3) (j := 1) (ji := 1) (CN := RX3) (T := TX3) (N := 2) hC iX3_hasDisputedOf_3 fX3_hasDisputedOf_20 rfl dX3_hasDisputedOf_4 rfl rfl (by decide) rfl rfl ?_
      refine m_icmp_ge (tgt := 37) hC dX3_hasDisputedOf_7 (by decide) (by omega) (by omega) (fun c_7 => ?_) (fun c_7 => ?_)
      · refine m_iconst (v := 0) hC dX3_hasDisputedOf_37 (by decide) ?_
        refine m_ireti hC hR (Or.inr ⟨rfl, Or.inl rfl⟩) dX3_hasDisputedOf_38 ⟨Nat.le_of_ble_eq_true rfl, Nat.le_of_ble_eq_true rfl⟩ ?_ ?_
        · rw [show (S 3 1).toNat = i by omega, hno]; rfl
        · rfl
      · refine m_aload_n hC dX3_hasDisputedOf_10 0 rfl ?_
        refine m_iload_n hC dX3_hasDisputedOf_11 2 rfl ?_
        refine m_iload_n hC dX3_hasDisputedOf_12 1 rfl ?_
        refine m_callVi (n := 2) hC (c_X3_isOf (by omega) hs hT) gX3_hasDisputedOf_X3_isOf rfl dX3_hasDisputedOf_13 rfl rfl (by decide +kernel) ⟨Nat.le_of_ble_eq_true rfl, Nat.le_of_ble_eq_true rfl⟩ rfl (Nat.le_of_ble_eq_true rfl) ⟨Nat.le_of_ble_eq_true rfl, Nat.le_of_ble_eq_true rfl⟩ rfl ?_
        refine m_if_eq (tgt := 31) hC dX3_hasDisputedOf_16 (by decide) (by have := bI_rng (isof S s x); omega) (fun c_16 => ?_) (fun c_16 => ?_)
        · have hb := bI_0 c_16
          refine m_iinc hC dX3_hasDisputedOf_31 2 rfl (fun z9 => [(2, .int (z32 z9)), (0, .ref (g.2.2 3)), (1, .int (z32 s))]) (by decide) (fun _ => rfl) (fun v2_31 hv2_31 => ?_)
          refine m_goto (tgt := 2) hC dX3_hasDisputedOf_34 (by decide) ?_
          refine m_locals [1, 2, 0] rfl ?_
          exact ih2 (i + 1) v2_31 (by omega) (by omega) (by omega) (by rw [anyI, hno, Bool.false_or, ← hx]; first | (simp [hb]; done) | (simp [hb]; omega))
        · have hb := bI_1 c_16
          refine m_aload_n hC dX3_hasDisputedOf_19 0 rfl ?_
          refine m_iload_n hC dX3_hasDisputedOf_20 2 rfl ?_
          refine m_iconst (v := 0) hC dX3_hasDisputedOf_21 (by decide) ?_
          refine m_callVi (n := 2) hC (c_X3_of (by omega) (by omega)) gX3_hasDisputedOf_X3_of rfl dX3_hasDisputedOf_22 rfl rfl (by decide +kernel) ⟨Nat.le_of_ble_eq_true rfl, Nat.le_of_ble_eq_true rfl⟩ rfl (Nat.le_of_ble_eq_true rfl) ⟨Nat.le_of_ble_eq_true rfl, Nat.le_of_ble_eq_true rfl⟩ rfl ?_
          refine m_iconst (v := 1) hC dX3_hasDisputedOf_25 (by decide) ?_
          refine m_icmp_ne (tgt := 31) hC dX3_hasDisputedOf_26 (by decide) (hT _ _) (by omega) (fun c_26 => ?_) (fun c_26 => ?_)
          · refine m_iinc hC dX3_hasDisputedOf_31 2 rfl (fun z9 => [(2, .int (z32 z9)), (0, .ref (g.2.2 3)), (1, .int (z32 s))]) (by decide) (fun _ => rfl) (fun v2_31 hv2_31 => ?_)
            refine m_goto (tgt := 2) hC dX3_hasDisputedOf_34 (by decide) ?_
            refine m_locals [1, 2, 0] rfl ?_
            exact ih2 (i + 1) v2_31 (by omega) (by omega) (by omega) (by rw [anyI, hno, Bool.false_or, ← hx]; first | (simp [hb]; done) | (simp [hb]; omega))
          · refine m_iconst (v := 1) hC dX3_hasDisputedOf_29 (by decide) ?_
            refine m_ireti hC hR (Or.inr ⟨rfl, Or.inr rfl⟩) dX3_hasDisputedOf_30 ⟨Nat.le_of_ble_eq_true rfl, Nat.le_of_ble_eq_true rfl⟩ ?_ ?_
            · rw [anyI_yes (i := i) (by rw [← hx]; simp [hb]; omega) (by omega)]; rfl
            · rfl
  refine m_locals [1, 2, 0] rfl ?_
  exact L2 101 0 v2_1 (by omega) (by omega) (by omega) (rfl)
theorem iX3_hasSince_3 : ∀ w ∈ wsX30, w ∈ wsX3_hasSince := by decide +kernel
theorem fX3_hasSince_20 : Cond.fieldLink RX3 20 "Mutualledger$Trades" "count" "I" ∈ wsX3_hasSince := by decide +kernel
set_option maxHeartbeats 4000000 in
set_option maxRecDepth 100000 in
theorem c_X3_hasSince {g : mG} {S : Mem} {s d : Int} (hs : -2147483648 ≤ s ∧ s < 2147483648) (hd : -2147483648 ≤ d ∧ d < 2147483648) (hT : trdOk S) (hn : 0 ≤ S 3 1 ∧ S 3 1 ≤ 100) (l : Launch) : Does l yX3_hasSince wsX3_hasSince ({ frames := 4, cells := 0, slots := 0, locals := 90 } : Room) g [.ref (g.2.2 3), .int (z32 s), .int (z32 d)] S (PI (bI (anyI (fun t => isof S s t && decide (d ≤ trd S t 4)) (S 3 1).toNat)) S) := by
  refine Does.of (cc := cX3_hasSince) (maxL := 4) (ret := (some .boolean)) (own := RX3) (by decide) rfl rfl (Nat.le_of_ble_eq_true rfl) ?_
  intro C hC hR
  show MW C g 4 (0, 0) 0 [(0, .ref (g.2.2 3)), (1, .int (z32 s)), (2, .int (z32 d))] [] S
  refine m_iconst (v := 0) hC dX3_hasSince_0 (by decide) ?_
  refine m_istore_n hC dX3_hasSince_1 (fun z9 => [(3, .int (z32 z9)), (0, .ref (g.2.2 3)), (1, .int (z32 s)), (2, .int (z32 d))]) (by decide) (fun _ => rfl) (fun v3_1 hv3_1 => ?_)
  have L2 : ∀ (n2 : Nat) (i : Nat) (x : Int), S 3 1 - x < (n2 : Int) → x = (i : Int) → (i : Int) ≤ S 3 1 → anyI (fun t => isof S s t && decide (d ≤ trd S t 4)) i = false → MW C g 4 (0, 0) 2 [(0, .ref (g.2.2 3)), (1, .int (z32 s)), (2, .int (z32 d)), (3, .int (z32 x))] [] S := by
    intro n2
    induction n2 with
    | zero => intros; exfalso; omega
    | succ n2 ih2 =>
      intro i x hm2 hx hi hno
      have hn1 := hn.1
      have hn2 := hn.2
      refine m_iload_n hC dX3_hasSince_2 3 rfl ?_
      refine m_aload_n hC dX3_hasSince_3 0 rfl ?_
      refine m_getI (o := 3) (j := 1) (ji := 1) (CN := RX3) (T := TX3) (N := 2) hC iX3_hasSince_3 fX3_hasSince_20 rfl dX3_hasSince_4 rfl rfl (by decide) rfl rfl ?_
      refine m_icmp_ge (tgt := 37) hC dX3_hasSince_7 (by decide) (by omega) (by omega) (fun c_7 => ?_) (fun c_7 => ?_)
      · refine m_iconst (v := 0) hC dX3_hasSince_37 (by decide) ?_
        refine m_ireti hC hR (Or.inr ⟨rfl, Or.inl rfl⟩) dX3_hasSince_38 ⟨Nat.le_of_ble_eq_true rfl, Nat.le_of_ble_eq_true rfl⟩ ?_ ?_
        · rw [show (S 3 1).toNat = i by omega, hno]; rfl
        · rfl
      · refine m_aload_n hC dX3_hasSince_10 0 rfl ?_
        refine m_iload_n hC dX3_hasSince_11 3 rfl ?_
        refine m_iload_n hC dX3_hasSince_12 1 rfl ?_
        refine m_callVi (n := 2) hC (c_X3_isOf (by omega) hs hT) gX3_hasSince_X3_isOf rfl dX3_hasSince_13 rfl rfl (by decide +kernel) ⟨Nat.le_of_ble_eq_true rfl, Nat.le_of_ble_eq_true rfl⟩ rfl (Nat.le_of_ble_eq_true rfl) ⟨Nat.le_of_ble_eq_true rfl, Nat.le_of_ble_eq_true rfl⟩ rfl ?_
        refine m_if_eq (tgt := 31) hC dX3_hasSince_16 (by decide) (by have := bI_rng (isof S s x); omega) (fun c_16 => ?_) (fun c_16 => ?_)
        · have hb := bI_0 c_16
          refine m_iinc hC dX3_hasSince_31 3 rfl (fun z9 => [(3, .int (z32 z9)), (0, .ref (g.2.2 3)), (1, .int (z32 s)), (2, .int (z32 d))]) (by decide) (fun _ => rfl) (fun v3_31 hv3_31 => ?_)
          refine m_goto (tgt := 2) hC dX3_hasSince_34 (by decide) ?_
          refine m_locals [1, 2, 3, 0] rfl ?_
          exact ih2 (i + 1) v3_31 (by omega) (by omega) (by omega) (by rw [anyI, hno, Bool.false_or, ← hx]; first | (simp [hb]; done) | (simp [hb]; omega))
        · have hb := bI_1 c_16
          refine m_aload_n hC dX3_hasSince_19 0 rfl ?_
          refine m_iload_n hC dX3_hasSince_20 3 rfl ?_
          refine m_iconst (v := 4) hC dX3_hasSince_21 (by decide) ?_
          refine m_callVi (n := 2) hC (c_X3_of (by omega) (by omega)) gX3_hasSince_X3_of rfl dX3_hasSince_22 rfl rfl (by decide +kernel) ⟨Nat.le_of_ble_eq_true rfl, Nat.le_of_ble_eq_true rfl⟩ rfl (Nat.le_of_ble_eq_true rfl) ⟨Nat.le_of_ble_eq_true rfl, Nat.le_of_ble_eq_true rfl⟩ rfl ?_
          refine m_iload_n hC dX3_hasSince_25 2 rfl ?_
          refine m_icmp_lt (tgt := 31) hC dX3_hasSince_26 (by decide) (hT _ _) (by omega) (fun c_26 => ?_) (fun c_26 => ?_)
          · refine m_iinc hC dX3_hasSince_31 3 rfl (fun z9 => [(3, .int (z32 z9)), (0, .ref (g.2.2 3)), (1, .int (z32 s)), (2, .int (z32 d))]) (by decide) (fun _ => rfl) (fun v3_31 hv3_31 => ?_)
            refine m_goto (tgt := 2) hC dX3_hasSince_34 (by decide) ?_
            refine m_locals [1, 2, 3, 0] rfl ?_
            exact ih2 (i + 1) v3_31 (by omega) (by omega) (by omega) (by rw [anyI, hno, Bool.false_or, ← hx]; first | (simp [hb]; done) | (simp [hb]; omega))
          · refine m_iconst (v := 1) hC dX3_hasSince_29 (by decide) ?_
            refine m_ireti hC hR (Or.inr ⟨rfl, Or.inr rfl⟩) dX3_hasSince_30 ⟨Nat.le_of_ble_eq_true rfl, Nat.le_of_ble_eq_true rfl⟩ ?_ ?_
            · rw [anyI_yes (i := i) (by rw [← hx]; simp [hb]; omega) (by omega)]; rfl
            · rfl
  refine m_locals [1, 2, 3, 0] rfl ?_
  exact L2 101 0 v3_1 (by omega) (by omega) (by omega) (rfl)
theorem iX3_amountsSince_3 : ∀ w ∈ wsX30, w ∈ wsX3_amountsSince := by decide +kernel
theorem fX3_amountsSince_20 : Cond.fieldLink RX3 20 "Mutualledger$Trades" "count" "I" ∈ wsX3_amountsSince := by decide +kernel
set_option maxHeartbeats 4000000 in
set_option maxRecDepth 100000 in
theorem c_X3_amountsSince {g : mG} {S : Mem} {s d : Int} (hs : -2147483648 ≤ s ∧ s < 2147483648) (hd : -2147483648 ≤ d ∧ d < 2147483648) (hT : trdOk S) (hn : 0 ≤ S 3 1 ∧ S 3 1 ≤ 100) (l : Launch) : Does l yX3_amountsSince wsX3_amountsSince ({ frames := 4, cells := 0, slots := 0, locals := 90 } : Room) g [.ref (g.2.2 3), .int (z32 s), .int (z32 d)] S (PI (sI (amtF S s d) (S 3 1).toNat) S) := by
  refine Does.of (cc := cX3_amountsSince) (maxL := 6) (ret := (some .int)) (own := RX3) (by decide) rfl rfl (Nat.le_of_ble_eq_true rfl) ?_
  intro C hC hR
  show MW C g 6 (0, 0) 0 [(0, .ref (g.2.2 3)), (1, .int (z32 s)), (2, .int (z32 d))] [] S
  refine m_iconst (v := 0) hC dX3_amountsSince_0 (by decide) ?_
  refine m_istore_n hC dX3_amountsSince_1 (fun z9 => [(3, .int (z32 z9)), (0, .ref (g.2.2 3)), (1, .int (z32 s)), (2, .int (z32 d))]) (by decide) (fun _ => rfl) (fun v3_1 hv3_1 => ?_)
  refine m_iconst (v := 0) hC dX3_amountsSince_2 (by decide) ?_
  refine m_istore hC dX3_amountsSince_3 (fun z9 => [(4, .int (z32 z9)), (3, .int (z32 v3_1)), (0, .ref (g.2.2 3)), (1, .int (z32 s)), (2, .int (z32 d))]) (by decide) (fun _ => rfl) (fun v4_3 hv4_3 => ?_)
  have L5 : ∀ (n5 : Nat) (i : Nat) (x : Int) (sm : Int), S 3 1 - x < (n5 : Int) → x = (i : Int) → (i : Int) ≤ S 3 1 → sm = sI (amtF S s d) i → MW C g 6 (0, 0) 5 [(0, .ref (g.2.2 3)), (1, .int (z32 s)), (2, .int (z32 d)), (3, .int (z32 sm)), (4, .int (z32 x))] [] S := by
    intro n5
    induction n5 with
    | zero => intros; exfalso; omega
    | succ n5 ih5 =>
      intro i x sm hm5 hx hi hsm
      have hn1 := hn.1
      have hn2 := hn.2
      refine m_iload hC dX3_amountsSince_5 4 rfl ?_
      refine m_aload_n hC dX3_amountsSince_7 0 rfl ?_
      refine m_getI (o := 3) (j := 1) (ji := 1) (CN := RX3) (T := TX3) (N := 2) hC iX3_amountsSince_3 fX3_amountsSince_20 rfl dX3_amountsSince_8 rfl rfl (by decide) rfl rfl ?_
      refine m_icmp_ge (tgt := 74) hC dX3_amountsSince_11 (by decide) (by omega) (by omega) (fun c_11 => ?_) (fun c_11 => ?_)
      · refine m_iload_n hC dX3_amountsSince_74 3 rfl ?_
        refine m_ireti hC hR (Or.inl rfl) dX3_amountsSince_75 ⟨Nat.le_of_ble_eq_true rfl, Nat.le_of_ble_eq_true rfl⟩ ?_ ?_
        · rw [hsm, show i = (S 3 1).toNat by omega]
        · rfl
      · refine m_aload_n hC dX3_amountsSince_14 0 rfl ?_
        refine m_iload hC dX3_amountsSince_15 4 rfl ?_
        refine m_iload_n hC dX3_amountsSince_17 1 rfl ?_
        refine m_callVi (n := 2) hC (c_X3_isOf (by omega) hs hT) gX3_amountsSince_X3_isOf rfl dX3_amountsSince_18 rfl rfl (by decide +kernel) ⟨Nat.le_of_ble_eq_true rfl, Nat.le_of_ble_eq_true rfl⟩ rfl (Nat.le_of_ble_eq_true rfl) ⟨Nat.le_of_ble_eq_true rfl, Nat.le_of_ble_eq_true rfl⟩ rfl ?_
        refine m_if_eq (tgt := 39) hC dX3_amountsSince_21 (by decide) (by have := bI_rng (isof S s x); omega) (fun c_21 => ?_) (fun c_21 => ?_)
        · have hb := bI_0 c_21
          refine m_iconst (v := 0) hC dX3_amountsSince_39 (by decide) ?_
          refine m_istore hC dX3_amountsSince_40 (fun z9 => [(5, .int (z32 z9)), (0, .ref (g.2.2 3)), (1, .int (z32 s)), (2, .int (z32 d)), (3, .int (z32 sm)), (4, .int (z32 x))]) (by decide) (fun _ => rfl) (fun v5_40 hv5_40 => ?_)
          refine m_iload hC dX3_amountsSince_42 0 rfl ?_
          refine m_if_eq (tgt := 68) hC dX3_amountsSince_44 (by decide) (by omega) (fun c_44 => ?_) (fun c_44 => ?_)
          · refine m_iinc hC dX3_amountsSince_68 5 rfl (fun z9 => [(4, .int (z32 z9)), (5, .int (z32 v5_40)), (0, .ref (g.2.2 3)), (1, .int (z32 s)), (2, .int (z32 d)), (3, .int (z32 sm))]) (by decide) (fun _ => rfl) (fun v4_68 hv4_68 => ?_)
            refine m_goto (tgt := 5) hC dX3_amountsSince_71 (by decide) ?_
            refine m_locals [2, 3, 4, 5, 0] rfl ?_
            exact ih5 (i + 1) v4_68 sm (by omega) (by omega) (by omega) (by first | (exfalso; omega) | (rw [sI, ← hsm, ← hx]; unfold amtF; simp only [hb, Bool.false_eq_true, false_and, if_false, true_and]; first | omega | (split <;> omega)))
          · refine m_aload_n hC dX3_amountsSince_47 1 rfl ?_
            refine m_iload hC dX3_amountsSince_48 5 rfl ?_
            refine m_iconst (v := 4) hC dX3_amountsSince_50 (by decide) ?_
            refine m_callVi (n := 2) hC (c_X3_of (by omega) (by omega)) gX3_amountsSince_X3_of rfl dX3_amountsSince_51 rfl rfl (by decide +kernel) ⟨Nat.le_of_ble_eq_true rfl, Nat.le_of_ble_eq_true rfl⟩ rfl (Nat.le_of_ble_eq_true rfl) ⟨Nat.le_of_ble_eq_true rfl, Nat.le_of_ble_eq_true rfl⟩ rfl ?_
            refine m_iload_n hC dX3_amountsSince_54 3 rfl ?_
            refine m_icmp_lt (tgt := 68) hC dX3_amountsSince_55 (by decide) (hT _ _) (by omega) (fun c_55 => ?_) (fun c_55 => ?_)
            · refine m_iinc hC dX3_amountsSince_68 5 rfl (fun z9 => [(4, .int (z32 z9)), (5, .int (z32 v5_40)), (0, .ref (g.2.2 3)), (1, .int (z32 s)), (2, .int (z32 d)), (3, .int (z32 sm))]) (by decide) (fun _ => rfl) (fun v4_68 hv4_68 => ?_)
              refine m_goto (tgt := 5) hC dX3_amountsSince_71 (by decide) ?_
              refine m_locals [2, 3, 4, 5, 0] rfl ?_
              exact ih5 (i + 1) v4_68 sm (by omega) (by omega) (by omega) (by first | (exfalso; omega) | (rw [sI, ← hsm, ← hx]; unfold amtF; simp only [hb, Bool.false_eq_true, false_and, if_false, true_and]; first | omega | (split <;> omega)))
            · refine m_iload_n hC dX3_amountsSince_58 4 rfl ?_
              refine m_aload_n hC dX3_amountsSince_59 1 rfl ?_
              refine m_iload hC dX3_amountsSince_60 5 rfl ?_
              refine m_iconst (v := 3) hC dX3_amountsSince_62 (by decide) ?_
              refine m_callVi (n := 2) hC (c_X3_of (by omega) (by omega)) gX3_amountsSince_X3_of rfl dX3_amountsSince_63 rfl rfl (by decide +kernel) ⟨Nat.le_of_ble_eq_true rfl, Nat.le_of_ble_eq_true rfl⟩ rfl (Nat.le_of_ble_eq_true rfl) ⟨Nat.le_of_ble_eq_true rfl, Nat.le_of_ble_eq_true rfl⟩ rfl ?_
              refine m_iadd hC dX3_amountsSince_66 ?_
              refine m_istore_n hC dX3_amountsSince_67 (fun z9 => [(3, .int (z32 z9)), (5, .int (z32 v5_40)), (0, .ref (g.2.2 3)), (1, .int (z32 s)), (2, .int (z32 d)), (4, .int (z32 x))]) (by decide) (fun _ => rfl) (fun v3_67 hv3_67 => ?_)
              refine m_iinc hC dX3_amountsSince_68 5 rfl (fun z9 => [(4, .int (z32 z9)), (3, .int (z32 v3_67)), (5, .int (z32 v5_40)), (0, .ref (g.2.2 3)), (1, .int (z32 s)), (2, .int (z32 d))]) (by decide) (fun _ => rfl) (fun v4_68 hv4_68 => ?_)
              refine m_goto (tgt := 5) hC dX3_amountsSince_71 (by decide) ?_
              refine m_locals [3, 4, 5, 1, 0] rfl ?_
              exact ih5 (i + 1) v4_68 v3_67 (by omega) (by omega) (by omega) (by first | (exfalso; omega) | (rw [sI, ← hsm, ← hx]; unfold amtF; simp only [hb, Bool.false_eq_true, false_and, if_false, true_and]; first | omega | (split <;> omega)))
        · have hb := bI_1 c_21
          refine m_aload_n hC dX3_amountsSince_24 0 rfl ?_
          refine m_iload hC dX3_amountsSince_25 4 rfl ?_
          refine m_iconst (v := 0) hC dX3_amountsSince_27 (by decide) ?_
          refine m_callVi (n := 2) hC (c_X3_of (by omega) (by omega)) gX3_amountsSince_X3_of rfl dX3_amountsSince_28 rfl rfl (by decide +kernel) ⟨Nat.le_of_ble_eq_true rfl, Nat.le_of_ble_eq_true rfl⟩ rfl (Nat.le_of_ble_eq_true rfl) ⟨Nat.le_of_ble_eq_true rfl, Nat.le_of_ble_eq_true rfl⟩ rfl ?_
          refine m_iconst (v := 2) hC dX3_amountsSince_31 (by decide) ?_
          refine m_icmp_eq (tgt := 39) hC dX3_amountsSince_32 (by decide) (hT _ _) (by omega) (fun c_32 => ?_) (fun c_32 => ?_)
          · refine m_iconst (v := 0) hC dX3_amountsSince_39 (by decide) ?_
            refine m_istore hC dX3_amountsSince_40 (fun z9 => [(5, .int (z32 z9)), (0, .ref (g.2.2 3)), (1, .int (z32 s)), (2, .int (z32 d)), (3, .int (z32 sm)), (4, .int (z32 x))]) (by decide) (fun _ => rfl) (fun v5_40 hv5_40 => ?_)
            refine m_iload hC dX3_amountsSince_42 0 rfl ?_
            refine m_if_eq (tgt := 68) hC dX3_amountsSince_44 (by decide) (by omega) (fun c_44 => ?_) (fun c_44 => ?_)
            · refine m_iinc hC dX3_amountsSince_68 5 rfl (fun z9 => [(4, .int (z32 z9)), (5, .int (z32 v5_40)), (0, .ref (g.2.2 3)), (1, .int (z32 s)), (2, .int (z32 d)), (3, .int (z32 sm))]) (by decide) (fun _ => rfl) (fun v4_68 hv4_68 => ?_)
              refine m_goto (tgt := 5) hC dX3_amountsSince_71 (by decide) ?_
              refine m_locals [2, 3, 4, 5, 0] rfl ?_
              exact ih5 (i + 1) v4_68 sm (by omega) (by omega) (by omega) (by first | (exfalso; omega) | (rw [sI, ← hsm, ← hx]; unfold amtF; simp only [hb, Bool.false_eq_true, false_and, if_false, true_and]; first | omega | (split <;> omega)))
            · refine m_aload_n hC dX3_amountsSince_47 1 rfl ?_
              refine m_iload hC dX3_amountsSince_48 5 rfl ?_
              refine m_iconst (v := 4) hC dX3_amountsSince_50 (by decide) ?_
              refine m_callVi (n := 2) hC (c_X3_of (by omega) (by omega)) gX3_amountsSince_X3_of rfl dX3_amountsSince_51 rfl rfl (by decide +kernel) ⟨Nat.le_of_ble_eq_true rfl, Nat.le_of_ble_eq_true rfl⟩ rfl (Nat.le_of_ble_eq_true rfl) ⟨Nat.le_of_ble_eq_true rfl, Nat.le_of_ble_eq_true rfl⟩ rfl ?_
              refine m_iload_n hC dX3_amountsSince_54 3 rfl ?_
              refine m_icmp_lt (tgt := 68) hC dX3_amountsSince_55 (by decide) (hT _ _) (by omega) (fun c_55 => ?_) (fun c_55 => ?_)
              · refine m_iinc hC dX3_amountsSince_68 5 rfl (fun z9 => [(4, .int (z32 z9)), (5, .int (z32 v5_40)), (0, .ref (g.2.2 3)), (1, .int (z32 s)), (2, .int (z32 d)), (3, .int (z32 sm))]) (by decide) (fun _ => rfl) (fun v4_68 hv4_68 => ?_)
                refine m_goto (tgt := 5) hC dX3_amountsSince_71 (by decide) ?_
                refine m_locals [2, 3, 4, 5, 0] rfl ?_
                exact ih5 (i + 1) v4_68 sm (by omega) (by omega) (by omega) (by first | (exfalso; omega) | (rw [sI, ← hsm, ← hx]; unfold amtF; simp only [hb, Bool.false_eq_true, false_and, if_false, true_and]; first | omega | (split <;> omega)))
              · refine m_iload_n hC dX3_amountsSince_58 4 rfl ?_
                refine m_aload_n hC dX3_amountsSince_59 1 rfl ?_
                refine m_iload hC dX3_amountsSince_60 5 rfl ?_
                refine m_iconst (v := 3) hC dX3_amountsSince_62 (by decide) ?_
                refine m_callVi (n := 2) hC (c_X3_of (by omega) (by omega)) gX3_amountsSince_X3_of rfl dX3_amountsSince_63 rfl rfl (by decide +kernel) ⟨Nat.le_of_ble_eq_true rfl, Nat.le_of_ble_eq_true rfl⟩ rfl (Nat.le_of_ble_eq_true rfl) ⟨Nat.le_of_ble_eq_true rfl, Nat.le_of_ble_eq_true rfl⟩ rfl ?_
                refine m_iadd hC dX3_amountsSince_66 ?_
                refine m_istore_n hC dX3_amountsSince_67 (fun z9 => [(3, .int (z32 z9)), (5, .int (z32 v5_40)), (0, .ref (g.2.2 3)), (1, .int (z32 s)), (2, .int (z32 d)), (4, .int (z32 x))]) (by decide) (fun _ => rfl) (fun v3_67 hv3_67 => ?_)
                refine m_iinc hC dX3_amountsSince_68 5 rfl (fun z9 => [(4, .int (z32 z9)), (3, .int (z32 v3_67)), (5, .int (z32 v5_40)), (0, .ref (g.2.2 3)), (1, .int (z32 s)), (2, .int (z32 d))]) (by decide) (fun _ => rfl) (fun v4_68 hv4_68 => ?_)
                refine m_goto (tgt := 5) hC dX3_amountsSince_71 (by decide) ?_
                refine m_locals [3, 4, 5, 1, 0] rfl ?_
                exact ih5 (i + 1) v4_68 v3_67 (by omega) (by omega) (by omega) (by first | (exfalso; omega) | (rw [sI, ← hsm, ← hx]; unfold amtF; simp only [hb, Bool.false_eq_true, false_and, if_false, true_and]; first | omega | (split <;> omega)))
          · refine m_iconst (v := 1) hC dX3_amountsSince_35 (by decide) ?_
            refine m_goto (tgt := 40) hC dX3_amountsSince_36 (by decide) ?_
            refine m_istore hC dX3_amountsSince_40 (fun z9 => [(5, .int (z32 z9)), (0, .ref (g.2.2 3)), (1, .int (z32 s)), (2, .int (z32 d)), (3, .int (z32 sm)), (4, .int (z32 x))]) (by decide) (fun _ => rfl) (fun v5_40 hv5_40 => ?_)
            refine m_iload hC dX3_amountsSince_42 0 rfl ?_
            refine m_if_eq (tgt := 68) hC dX3_amountsSince_44 (by decide) (by omega) (fun c_44 => ?_) (fun c_44 => ?_)
            · refine m_iinc hC dX3_amountsSince_68 5 rfl (fun z9 => [(4, .int (z32 z9)), (5, .int (z32 v5_40)), (0, .ref (g.2.2 3)), (1, .int (z32 s)), (2, .int (z32 d)), (3, .int (z32 sm))]) (by decide) (fun _ => rfl) (fun v4_68 hv4_68 => ?_)
              refine m_goto (tgt := 5) hC dX3_amountsSince_71 (by decide) ?_
              refine m_locals [2, 3, 4, 5, 0] rfl ?_
              exact ih5 (i + 1) v4_68 sm (by omega) (by omega) (by omega) (by first | (exfalso; omega) | (rw [sI, ← hsm, ← hx]; unfold amtF; simp only [hb, Bool.false_eq_true, false_and, if_false, true_and]; first | omega | (split <;> omega)))
            · refine m_aload_n hC dX3_amountsSince_47 1 rfl ?_
              refine m_iload hC dX3_amountsSince_48 5 rfl ?_
              refine m_iconst (v := 4) hC dX3_amountsSince_50 (by decide) ?_
              refine m_callVi (n := 2) hC (c_X3_of (by omega) (by omega)) gX3_amountsSince_X3_of rfl dX3_amountsSince_51 rfl rfl (by decide +kernel) ⟨Nat.le_of_ble_eq_true rfl, Nat.le_of_ble_eq_true rfl⟩ rfl (Nat.le_of_ble_eq_true rfl) ⟨Nat.le_of_ble_eq_true rfl, Nat.le_of_ble_eq_true rfl⟩ rfl ?_
              refine m_iload_n hC dX3_amountsSince_54 3 rfl ?_
              refine m_icmp_lt (tgt := 68) hC dX3_amountsSince_55 (by decide) (hT _ _) (by omega) (fun c_55 => ?_) (fun c_55 => ?_)
              · refine m_iinc hC dX3_amountsSince_68 5 rfl (fun z9 => [(4, .int (z32 z9)), (5, .int (z32 v5_40)), (0, .ref (g.2.2 3)), (1, .int (z32 s)), (2, .int (z32 d)), (3, .int (z32 sm))]) (by decide) (fun _ => rfl) (fun v4_68 hv4_68 => ?_)
                refine m_goto (tgt := 5) hC dX3_amountsSince_71 (by decide) ?_
                refine m_locals [2, 3, 4, 5, 0] rfl ?_
                exact ih5 (i + 1) v4_68 sm (by omega) (by omega) (by omega) (by first | (exfalso; omega) | (rw [sI, ← hsm, ← hx]; unfold amtF; simp only [hb, Bool.false_eq_true, false_and, if_false, true_and]; first | omega | (split <;> omega)))
              · refine m_iload_n hC dX3_amountsSince_58 4 rfl ?_
                refine m_aload_n hC dX3_amountsSince_59 1 rfl ?_
                refine m_iload hC dX3_amountsSince_60 5 rfl ?_
                refine m_iconst (v := 3) hC dX3_amountsSince_62 (by decide) ?_
                refine m_callVi (n := 2) hC (c_X3_of (by omega) (by omega)) gX3_amountsSince_X3_of rfl dX3_amountsSince_63 rfl rfl (by decide +kernel) ⟨Nat.le_of_ble_eq_true rfl, Nat.le_of_ble_eq_true rfl⟩ rfl (Nat.le_of_ble_eq_true rfl) ⟨Nat.le_of_ble_eq_true rfl, Nat.le_of_ble_eq_true rfl⟩ rfl ?_
                refine m_iadd hC dX3_amountsSince_66 ?_
                refine m_istore_n hC dX3_amountsSince_67 (fun z9 => [(3, .int (z32 z9)), (5, .int (z32 v5_40)), (0, .ref (g.2.2 3)), (1, .int (z32 s)), (2, .int (z32 d)), (4, .int (z32 x))]) (by decide) (fun _ => rfl) (fun v3_67 hv3_67 => ?_)
                refine m_iinc hC dX3_amountsSince_68 5 rfl (fun z9 => [(4, .int (z32 z9)), (3, .int (z32 v3_67)), (5, .int (z32 v5_40)), (0, .ref (g.2.2 3)), (1, .int (z32 s)), (2, .int (z32 d))]) (by decide) (fun _ => rfl) (fun v4_68 hv4_68 => ?_)
                refine m_goto (tgt := 5) hC dX3_amountsSince_71 (by decide) ?_
                refine m_locals [3, 4, 5, 1, 0] rfl ?_
                exact ih5 (i + 1) v4_68 v3_67 (by omega) (by omega) (by omega) (by first | (exfalso; omega) | (rw [sI, ← hsm, ← hx]; unfold amtF; simp only [hb, Bool.false_eq_true, false_and, if_false, true_and]; first | omega | (split <;> omega)))
  refine m_locals [2, 3, 4, 1, 0] rfl ?_
  exact L5 101 0 v4_3 v3_1 (by omega) (by omega) (by omega) (hv3_1)
theorem iX3_balanceOf_3 : ∀ w ∈ wsX30, w ∈ wsX3_balanceOf := by decide +kernel
theorem fX3_balanceOf_20 : Cond.fieldLink RX3 20 "Mutualledger$Trades" "count" "I" ∈ wsX3_balanceOf := by decide +kernel
set_option maxHeartbeats 4000000 in
set_option maxRecDepth 100000 in
theorem c_X3_balanceOf {g : mG} {S : Mem} {s : Int} (hs : -2147483648 ≤ s ∧ s < 2147483648) (hT : trdOk S) (hn : 0 ≤ S 3 1 ∧ S 3 1 ≤ 100) (l : Launch) : Does l yX3_balanceOf wsX3_balanceOf ({ frames := 3, cells := 0, slots := 0, locals := 68 } : Room) g [.ref (g.2.2 3), .int (z32 s)] S (PI (sI (balF S s) (S 3 1).toNat) S) := by
  refine Does.of (cc := cX3_balanceOf) (maxL := 4) (ret := (some .int)) (own := RX3) (by decide) rfl rfl (Nat.le_of_ble_eq_true rfl) ?_
  intro C hC hR
  show MW C g 4 (0, 0) 0 [(0, .ref (g.2.2 3)), (1, .int (z32 s))] [] S
  refine m_iconst (v := 0) hC dX3_balanceOf_0 (by decide) ?_
  refine m_istore_n hC dX3_balanceOf_1 (fun z9 => [(2, .int (z32 z9)), (0, .ref (g.2.2 3)), (1, .int (z32 s))]) (by decide) (fun _ => rfl) (fun v2_1 hv2_1 => ?_)
  refine m_iconst (v := 0) hC dX3_balanceOf_2 (by decide) ?_
  refine m_istore_n hC dX3_balanceOf_3 (fun z9 => [(3, .int (z32 z9)), (2, .int (z32 v2_1)), (0, .ref (g.2.2 3)), (1, .int (z32 s))]) (by decide) (fun _ => rfl) (fun v3_3 hv3_3 => ?_)
  have L4 : ∀ (n4 : Nat) (i : Nat) (x : Int) (sm : Int), S 3 1 - x < (n4 : Int) → x = (i : Int) → (i : Int) ≤ S 3 1 → sm = sI (balF S s) i → MW C g 4 (0, 0) 4 [(0, .ref (g.2.2 3)), (1, .int (z32 s)), (2, .int (z32 sm)), (3, .int (z32 x))] [] S := by
    intro n4
    induction n4 with
    | zero => intros; exfalso; omega
    | succ n4 ih4 =>
      intro i x sm hm4 hx hi hsm
      have hn1 := hn.1
      have hn2 := hn.2
      refine m_iload_n hC dX3_balanceOf_4 3 rfl ?_
      refine m_aload_n hC dX3_balanceOf_5 0 rfl ?_
      refine m_getI (o := 3) (j := 1) (ji := 1) (CN := RX3) (T := TX3) (N := 2) hC iX3_balanceOf_3 fX3_balanceOf_20 rfl dX3_balanceOf_6 rfl rfl (by decide) rfl rfl ?_
      refine m_icmp_ge (tgt := 76) hC dX3_balanceOf_9 (by decide) (by omega) (by omega) (fun c_9 => ?_) (fun c_9 => ?_)
      · refine m_iload_n hC dX3_balanceOf_76 2 rfl ?_
        refine m_ireti hC hR (Or.inl rfl) dX3_balanceOf_77 ⟨Nat.le_of_ble_eq_true rfl, Nat.le_of_ble_eq_true rfl⟩ ?_ ?_
        · rw [hsm, show i = (S 3 1).toNat by omega]
        · rfl
      · refine m_aload_n hC dX3_balanceOf_12 0 rfl ?_
        refine m_iload_n hC dX3_balanceOf_13 3 rfl ?_
        refine m_iconst (v := 0) hC dX3_balanceOf_14 (by decide) ?_
        refine m_callVi (n := 2) hC (c_X3_of (by omega) (by omega)) gX3_balanceOf_X3_of rfl dX3_balanceOf_15 rfl rfl (by decide +kernel) ⟨Nat.le_of_ble_eq_true rfl, Nat.le_of_ble_eq_true rfl⟩ rfl (Nat.le_of_ble_eq_true rfl) ⟨Nat.le_of_ble_eq_true rfl, Nat.le_of_ble_eq_true rfl⟩ rfl ?_
        refine m_iconst (v := 2) hC dX3_balanceOf_18 (by decide) ?_
        refine m_icmp_eq (tgt := 41) hC dX3_balanceOf_19 (by decide) (hT _ _) (by omega) (fun c_19 => ?_) (fun c_19 => ?_)
        · refine m_aload_n hC dX3_balanceOf_41 0 rfl ?_
          refine m_iload_n hC dX3_balanceOf_42 3 rfl ?_
          refine m_iconst (v := 0) hC dX3_balanceOf_43 (by decide) ?_
          refine m_callVi (n := 2) hC (c_X3_of (by omega) (by omega)) gX3_balanceOf_X3_of rfl dX3_balanceOf_44 rfl rfl (by decide +kernel) ⟨Nat.le_of_ble_eq_true rfl, Nat.le_of_ble_eq_true rfl⟩ rfl (Nat.le_of_ble_eq_true rfl) ⟨Nat.le_of_ble_eq_true rfl, Nat.le_of_ble_eq_true rfl⟩ rfl ?_
          refine m_iconst (v := 2) hC dX3_balanceOf_47 (by decide) ?_
          refine m_icmp_eq (tgt := 70) hC dX3_balanceOf_48 (by decide) (hT _ _) (by omega) (fun c_48 => ?_) (fun c_48 => ?_)
          · refine m_iinc hC dX3_balanceOf_70 3 rfl (fun z9 => [(3, .int (z32 z9)), (0, .ref (g.2.2 3)), (1, .int (z32 s)), (2, .int (z32 sm))]) (by decide) (fun _ => rfl) (fun v3_70 hv3_70 => ?_)
            refine m_goto (tgt := 4) hC dX3_balanceOf_73 (by decide) ?_
            refine m_locals [1, 2, 3, 0] rfl ?_
            exact ih4 (i + 1) v3_70 sm (by omega) (by omega) (by omega) (by rw [sI, ← hsm, ← hx]; unfold balF; split <;> split <;> omega)
          · refine m_aload_n hC dX3_balanceOf_51 0 rfl ?_
            refine m_iload_n hC dX3_balanceOf_52 3 rfl ?_
            refine m_iconst (v := 1) hC dX3_balanceOf_53 (by decide) ?_
            refine m_callVi (n := 2) hC (c_X3_of (by omega) (by omega)) gX3_balanceOf_X3_of rfl dX3_balanceOf_54 rfl rfl (by decide +kernel) ⟨Nat.le_of_ble_eq_true rfl, Nat.le_of_ble_eq_true rfl⟩ rfl (Nat.le_of_ble_eq_true rfl) ⟨Nat.le_of_ble_eq_true rfl, Nat.le_of_ble_eq_true rfl⟩ rfl ?_
            refine m_iload_n hC dX3_balanceOf_57 1 rfl ?_
            refine m_icmp_ne (tgt := 70) hC dX3_balanceOf_58 (by decide) (hT _ _) (by omega) (fun c_58 => ?_) (fun c_58 => ?_)
            · refine m_iinc hC dX3_balanceOf_70 3 rfl (fun z9 => [(3, .int (z32 z9)), (0, .ref (g.2.2 3)), (1, .int (z32 s)), (2, .int (z32 sm))]) (by decide) (fun _ => rfl) (fun v3_70 hv3_70 => ?_)
              refine m_goto (tgt := 4) hC dX3_balanceOf_73 (by decide) ?_
              refine m_locals [1, 2, 3, 0] rfl ?_
              exact ih4 (i + 1) v3_70 sm (by omega) (by omega) (by omega) (by rw [sI, ← hsm, ← hx]; unfold balF; split <;> split <;> omega)
            · refine m_iload_n hC dX3_balanceOf_61 2 rfl ?_
              refine m_aload_n hC dX3_balanceOf_62 0 rfl ?_
              refine m_iload_n hC dX3_balanceOf_63 3 rfl ?_
              refine m_iconst (v := 3) hC dX3_balanceOf_64 (by decide) ?_
              refine m_callVi (n := 2) hC (c_X3_of (by omega) (by omega)) gX3_balanceOf_X3_of rfl dX3_balanceOf_65 rfl rfl (by decide +kernel) ⟨Nat.le_of_ble_eq_true rfl, Nat.le_of_ble_eq_true rfl⟩ rfl (Nat.le_of_ble_eq_true rfl) ⟨Nat.le_of_ble_eq_true rfl, Nat.le_of_ble_eq_true rfl⟩ rfl ?_
              refine m_isub hC dX3_balanceOf_68 ?_
              refine m_istore_n hC dX3_balanceOf_69 (fun z9 => [(2, .int (z32 z9)), (0, .ref (g.2.2 3)), (1, .int (z32 s)), (3, .int (z32 x))]) (by decide) (fun _ => rfl) (fun v2_69 hv2_69 => ?_)
              refine m_iinc hC dX3_balanceOf_70 3 rfl (fun z9 => [(3, .int (z32 z9)), (2, .int (z32 v2_69)), (0, .ref (g.2.2 3)), (1, .int (z32 s))]) (by decide) (fun _ => rfl) (fun v3_70 hv3_70 => ?_)
              refine m_goto (tgt := 4) hC dX3_balanceOf_73 (by decide) ?_
              refine m_locals [2, 3, 1, 0] rfl ?_
              exact ih4 (i + 1) v3_70 v2_69 (by omega) (by omega) (by omega) (by rw [sI, ← hsm, ← hx]; unfold balF; split <;> split <;> omega)
        · refine m_aload_n hC dX3_balanceOf_22 0 rfl ?_
          refine m_iload_n hC dX3_balanceOf_23 3 rfl ?_
          refine m_iconst (v := 2) hC dX3_balanceOf_24 (by decide) ?_
          refine m_callVi (n := 2) hC (c_X3_of (by omega) (by omega)) gX3_balanceOf_X3_of rfl dX3_balanceOf_25 rfl rfl (by decide +kernel) ⟨Nat.le_of_ble_eq_true rfl, Nat.le_of_ble_eq_true rfl⟩ rfl (Nat.le_of_ble_eq_true rfl) ⟨Nat.le_of_ble_eq_true rfl, Nat.le_of_ble_eq_true rfl⟩ rfl ?_
          refine m_iload_n hC dX3_balanceOf_28 1 rfl ?_
          refine m_icmp_ne (tgt := 41) hC dX3_balanceOf_29 (by decide) (hT _ _) (by omega) (fun c_29 => ?_) (fun c_29 => ?_)
          · refine m_aload_n hC dX3_balanceOf_41 0 rfl ?_
            refine m_iload_n hC dX3_balanceOf_42 3 rfl ?_
            refine m_iconst (v := 0) hC dX3_balanceOf_43 (by decide) ?_
            refine m_callVi (n := 2) hC (c_X3_of (by omega) (by omega)) gX3_balanceOf_X3_of rfl dX3_balanceOf_44 rfl rfl (by decide +kernel) ⟨Nat.le_of_ble_eq_true rfl, Nat.le_of_ble_eq_true rfl⟩ rfl (Nat.le_of_ble_eq_true rfl) ⟨Nat.le_of_ble_eq_true rfl, Nat.le_of_ble_eq_true rfl⟩ rfl ?_
            refine m_iconst (v := 2) hC dX3_balanceOf_47 (by decide) ?_
            refine m_icmp_eq (tgt := 70) hC dX3_balanceOf_48 (by decide) (hT _ _) (by omega) (fun c_48 => ?_) (fun c_48 => ?_)
            · refine m_iinc hC dX3_balanceOf_70 3 rfl (fun z9 => [(3, .int (z32 z9)), (0, .ref (g.2.2 3)), (1, .int (z32 s)), (2, .int (z32 sm))]) (by decide) (fun _ => rfl) (fun v3_70 hv3_70 => ?_)
              refine m_goto (tgt := 4) hC dX3_balanceOf_73 (by decide) ?_
              refine m_locals [1, 2, 3, 0] rfl ?_
              exact ih4 (i + 1) v3_70 sm (by omega) (by omega) (by omega) (by rw [sI, ← hsm, ← hx]; unfold balF; split <;> split <;> omega)
            · refine m_aload_n hC dX3_balanceOf_51 0 rfl ?_
              refine m_iload_n hC dX3_balanceOf_52 3 rfl ?_
              refine m_iconst (v := 1) hC dX3_balanceOf_53 (by decide) ?_
              refine m_callVi (n := 2) hC (c_X3_of (by omega) (by omega)) gX3_balanceOf_X3_of rfl dX3_balanceOf_54 rfl rfl (by decide +kernel) ⟨Nat.le_of_ble_eq_true rfl, Nat.le_of_ble_eq_true rfl⟩ rfl (Nat.le_of_ble_eq_true rfl) ⟨Nat.le_of_ble_eq_true rfl, Nat.le_of_ble_eq_true rfl⟩ rfl ?_
              refine m_iload_n hC dX3_balanceOf_57 1 rfl ?_
              refine m_icmp_ne (tgt := 70) hC dX3_balanceOf_58 (by decide) (hT _ _) (by omega) (fun c_58 => ?_) (fun c_58 => ?_)
              · refine m_iinc hC dX3_balanceOf_70 3 rfl (fun z9 => [(3, .int (z32 z9)), (0, .ref (g.2.2 3)), (1, .int (z32 s)), (2, .int (z32 sm))]) (by decide) (fun _ => rfl) (fun v3_70 hv3_70 => ?_)
                refine m_goto (tgt := 4) hC dX3_balanceOf_73 (by decide) ?_
                refine m_locals [1, 2, 3, 0] rfl ?_
                exact ih4 (i + 1) v3_70 sm (by omega) (by omega) (by omega) (by rw [sI, ← hsm, ← hx]; unfold balF; split <;> split <;> omega)
              · refine m_iload_n hC dX3_balanceOf_61 2 rfl ?_
                refine m_aload_n hC dX3_balanceOf_62 0 rfl ?_
                refine m_iload_n hC dX3_balanceOf_63 3 rfl ?_
                refine m_iconst (v := 3) hC dX3_balanceOf_64 (by decide) ?_
                refine m_callVi (n := 2) hC (c_X3_of (by omega) (by omega)) gX3_balanceOf_X3_of rfl dX3_balanceOf_65 rfl rfl (by decide +kernel) ⟨Nat.le_of_ble_eq_true rfl, Nat.le_of_ble_eq_true rfl⟩ rfl (Nat.le_of_ble_eq_true rfl) ⟨Nat.le_of_ble_eq_true rfl, Nat.le_of_ble_eq_true rfl⟩ rfl ?_
                refine m_isub hC dX3_balanceOf_68 ?_
                refine m_istore_n hC dX3_balanceOf_69 (fun z9 => [(2, .int (z32 z9)), (0, .ref (g.2.2 3)), (1, .int (z32 s)), (3, .int (z32 x))]) (by decide) (fun _ => rfl) (fun v2_69 hv2_69 => ?_)
                refine m_iinc hC dX3_balanceOf_70 3 rfl (fun z9 => [(3, .int (z32 z9)), (2, .int (z32 v2_69)), (0, .ref (g.2.2 3)), (1, .int (z32 s))]) (by decide) (fun _ => rfl) (fun v3_70 hv3_70 => ?_)
                refine m_goto (tgt := 4) hC dX3_balanceOf_73 (by decide) ?_
                refine m_locals [2, 3, 1, 0] rfl ?_
                exact ih4 (i + 1) v3_70 v2_69 (by omega) (by omega) (by omega) (by rw [sI, ← hsm, ← hx]; unfold balF; split <;> split <;> omega)
          · refine m_iload_n hC dX3_balanceOf_32 2 rfl ?_
            refine m_aload_n hC dX3_balanceOf_33 0 rfl ?_
            refine m_iload_n hC dX3_balanceOf_34 3 rfl ?_
            refine m_iconst (v := 3) hC dX3_balanceOf_35 (by decide) ?_
            refine m_callVi (n := 2) hC (c_X3_of (by omega) (by omega)) gX3_balanceOf_X3_of rfl dX3_balanceOf_36 rfl rfl (by decide +kernel) ⟨Nat.le_of_ble_eq_true rfl, Nat.le_of_ble_eq_true rfl⟩ rfl (Nat.le_of_ble_eq_true rfl) ⟨Nat.le_of_ble_eq_true rfl, Nat.le_of_ble_eq_true rfl⟩ rfl ?_
            refine m_iadd hC dX3_balanceOf_39 ?_
            refine m_istore_n hC dX3_balanceOf_40 (fun z9 => [(2, .int (z32 z9)), (0, .ref (g.2.2 3)), (1, .int (z32 s)), (3, .int (z32 x))]) (by decide) (fun _ => rfl) (fun v2_40 hv2_40 => ?_)
            refine m_aload_n hC dX3_balanceOf_41 1 rfl ?_
            refine m_iload_n hC dX3_balanceOf_42 3 rfl ?_
            refine m_iconst (v := 0) hC dX3_balanceOf_43 (by decide) ?_
            refine m_callVi (n := 2) hC (c_X3_of (by omega) (by omega)) gX3_balanceOf_X3_of rfl dX3_balanceOf_44 rfl rfl (by decide +kernel) ⟨Nat.le_of_ble_eq_true rfl, Nat.le_of_ble_eq_true rfl⟩ rfl (Nat.le_of_ble_eq_true rfl) ⟨Nat.le_of_ble_eq_true rfl, Nat.le_of_ble_eq_true rfl⟩ rfl ?_
            refine m_iconst (v := 2) hC dX3_balanceOf_47 (by decide) ?_
            refine m_icmp_eq (tgt := 70) hC dX3_balanceOf_48 (by decide) (hT _ _) (by omega) (fun c_48 => ?_) (fun c_48 => ?_)
            · refine m_iinc hC dX3_balanceOf_70 3 rfl (fun z9 => [(3, .int (z32 z9)), (2, .int (z32 v2_40)), (0, .ref (g.2.2 3)), (1, .int (z32 s))]) (by decide) (fun _ => rfl) (fun v3_70 hv3_70 => ?_)
              refine m_goto (tgt := 4) hC dX3_balanceOf_73 (by decide) ?_
              refine m_locals [2, 3, 1, 0] rfl ?_
              exact ih4 (i + 1) v3_70 v2_40 (by omega) (by omega) (by omega) (by rw [sI, ← hsm, ← hx]; unfold balF; split <;> split <;> omega)
            · refine m_aload_n hC dX3_balanceOf_51 1 rfl ?_
              refine m_iload_n hC dX3_balanceOf_52 3 rfl ?_
              refine m_iconst (v := 1) hC dX3_balanceOf_53 (by decide) ?_
              refine m_callVi (n := 2) hC (c_X3_of (by omega) (by omega)) gX3_balanceOf_X3_of rfl dX3_balanceOf_54 rfl rfl (by decide +kernel) ⟨Nat.le_of_ble_eq_true rfl, Nat.le_of_ble_eq_true rfl⟩ rfl (Nat.le_of_ble_eq_true rfl) ⟨Nat.le_of_ble_eq_true rfl, Nat.le_of_ble_eq_true rfl⟩ rfl ?_
              refine m_iload_n hC dX3_balanceOf_57 2 rfl ?_
              refine m_icmp_ne (tgt := 70) hC dX3_balanceOf_58 (by decide) (hT _ _) (by omega) (fun c_58 => ?_) (fun c_58 => ?_)
              · refine m_iinc hC dX3_balanceOf_70 3 rfl (fun z9 => [(3, .int (z32 z9)), (2, .int (z32 v2_40)), (0, .ref (g.2.2 3)), (1, .int (z32 s))]) (by decide) (fun _ => rfl) (fun v3_70 hv3_70 => ?_)
                refine m_goto (tgt := 4) hC dX3_balanceOf_73 (by decide) ?_
                refine m_locals [2, 3, 1, 0] rfl ?_
                exact ih4 (i + 1) v3_70 v2_40 (by omega) (by omega) (by omega) (by rw [sI, ← hsm, ← hx]; unfold balF; split <;> split <;> omega)
              · refine m_iload_n hC dX3_balanceOf_61 0 rfl ?_
                refine m_aload_n hC dX3_balanceOf_62 1 rfl ?_
                refine m_iload_n hC dX3_balanceOf_63 3 rfl ?_
                refine m_iconst (v := 3) hC dX3_balanceOf_64 (by decide) ?_
                refine m_callVi (n := 2) hC (c_X3_of (by omega) (by omega)) gX3_balanceOf_X3_of rfl dX3_balanceOf_65 rfl rfl (by decide +kernel) ⟨Nat.le_of_ble_eq_true rfl, Nat.le_of_ble_eq_true rfl⟩ rfl (Nat.le_of_ble_eq_true rfl) ⟨Nat.le_of_ble_eq_true rfl, Nat.le_of_ble_eq_true rfl⟩ rfl ?_
                refine m_isub hC dX3_balanceOf_68 ?_
                refine m_istore_n hC dX3_balanceOf_69 (fun z9 => [(2, .int (z32 z9)), (0, .ref (g.2.2 3)), (1, .int (z32 s)), (3, .int (z32 x))]) (by decide) (fun _ => rfl) (fun v2_69 hv2_69 => ?_)
                refine m_iinc hC dX3_balanceOf_70 3 rfl (fun z9 => [(3, .int (z32 z9)), (2, .int (z32 v2_69)), (0, .ref (g.2.2 3)), (1, .int (z32 s))]) (by decide) (fun _ => rfl) (fun v3_70 hv3_70 => ?_)
                refine m_goto (tgt := 4) hC dX3_balanceOf_73 (by decide) ?_
                refine m_locals [2, 3, 1, 0] rfl ?_
                exact ih4 (i + 1) v3_70 v2_69 (by omega) (by omega) (by omega) (by rw [sI, ← hsm, ← hx]; unfold balF; split <;> split <;> omega)
  refine m_locals [2, 3, 1, 0] rfl ?_
  exact L4 101 0 v3_3 v2_1 (by omega) (by omega) (by omega) (hv2_1)
end
section
set_option maxRecDepth 20000 in
theorem ggX1_init_X2_init : GoodIn wsX1_init wsX2_init := goodIn_r _ [11, 12, 2, 3, 13, 14, 15, 16, 17, 18, 19, 20, 21, 22, 23, 24, 25, 26] (by decide +kernel) (by decide +kernel)
set_option maxRecDepth 20000 in
theorem gX1_init_X2_init : GoodIn wsX1_init (wsX2_init) := ggX1_init_X2_init
theorem dX1_init_0 : decode cX1_init 0 = .ok (.aload_n 0, 1) := by decide +kernel
theorem dX1_init_1 : decode cX1_init 1 = .ok (.invokespecial 3, 3) := by decide +kernel
theorem dX1_init_4 : decode cX1_init 4 = .ok (.aload_n 0, 1) := by decide +kernel
theorem dX1_init_5 : decode cX1_init 5 = .ok (.new 9, 3) := by decide +kernel
theorem dX1_init_8 : decode cX1_init 8 = .ok (.dup, 1) := by decide +kernel
theorem dX1_init_9 : decode cX1_init 9 = .ok (.bipush 57, 2) := by decide +kernel
theorem dX1_init_11 : decode cX1_init 11 = .ok (.bipush 7, 2) := by decide +kernel
theorem dX1_init_13 : decode cX1_init 13 = .ok (.invokespecial 13, 3) := by decide +kernel
theorem dX1_init_16 : decode cX1_init 16 = .ok (.putfield 16, 3) := by decide +kernel
theorem dX1_init_19 : decode cX1_init 19 = .ok (.aload_n 0, 1) := by decide +kernel
theorem dX1_init_20 : decode cX1_init 20 = .ok (.iconst 0, 1) := by decide +kernel
theorem dX1_init_21 : decode cX1_init 21 = .ok (.putfield 20, 3) := by decide +kernel
theorem dX1_init_24 : decode cX1_init 24 = .ok (.return_, 1) := by decide +kernel
theorem dX1_size_0 : decode cX1_size 0 = .ok (.aload_n 0, 1) := by decide +kernel
theorem dX1_size_1 : decode cX1_size 1 = .ok (.getfield 20, 3) := by decide +kernel
theorem dX1_size_4 : decode cX1_size 4 = .ok (.ireturn, 1) := by decide +kernel
set_option maxRecDepth 20000 in
theorem ggX1_of_X2_get : GoodIn wsX1_of wsX2_get := goodIn_r _ [6, 7, 8, 9, 10, 5, 11, 12, 13, 16, 17, 18] (by decide +kernel) (by decide +kernel)
set_option maxRecDepth 20000 in
theorem gX1_of_X2_get : GoodIn wsX1_of (wsV RX1 24 RX2 yX2_get wsX2_get) := goodIn_app (goodIn_of _ (by decide +kernel)) ggX1_of_X2_get
theorem dX1_of_0 : decode cX1_of 0 = .ok (.aload_n 0, 1) := by decide +kernel
theorem dX1_of_1 : decode cX1_of 1 = .ok (.getfield 16, 3) := by decide +kernel
theorem dX1_of_4 : decode cX1_of 4 = .ok (.iload_n 1, 1) := by decide +kernel
theorem dX1_of_5 : decode cX1_of 5 = .ok (.iload_n 2, 1) := by decide +kernel
theorem dX1_of_6 : decode cX1_of 6 = .ok (.invokevirtual 24, 3) := by decide +kernel
theorem dX1_of_9 : decode cX1_of 9 = .ok (.ireturn, 1) := by decide +kernel
set_option maxRecDepth 20000 in
theorem ggX1_netAll_X1_find : GoodIn wsX1_netAll wsX1_find := goodIn_r _ [6, 7, 1, 8, 9, 10, 11, 12, 13, 14, 15, 16, 17, 18, 19, 20, 21, 22, 5, 23, 24, 25, 26, 27, 28, 29, 30, 31, 32, 33, 34, 35, 36, 37, 38, 39, 40, 41, 42, 43, 44, 45, 46, 65, 66, 67, 68, 69, 70, 71] (by decide +kernel) (by decide +kernel)
set_option maxRecDepth 20000 in
theorem gX1_netAll_X1_find : GoodIn wsX1_netAll (wsV RX1 28 RX1 yX1_find wsX1_find) := goodIn_app (goodIn_of _ (by decide +kernel)) ggX1_netAll_X1_find
set_option maxRecDepth 20000 in
theorem ggX1_netAll_X1_net : GoodIn wsX1_netAll wsX1_net := goodIn_r _ [50, 7, 1, 51, 52, 53, 54, 31, 32, 33, 11, 34, 13, 14, 15, 16, 17, 18, 19, 27, 28, 29, 5, 30, 35, 36, 37, 38, 39, 40, 41, 42, 55, 56, 57, 58, 59, 60, 61, 62, 63, 64, 9, 10, 12, 8, 20, 21, 22, 23, 65, 66, 67, 68, 69, 70, 71] (by decide +kernel) (by decide +kernel)
set_option maxRecDepth 20000 in
theorem gX1_netAll_X1_net : GoodIn wsX1_netAll (wsV RX1 32 RX1 yX1_net wsX1_net) := goodIn_app (goodIn_of _ (by decide +kernel)) ggX1_netAll_X1_net
theorem dX1_netAll_0 : decode cX1_netAll 0 = .ok (.aload_n 0, 1) := by decide +kernel
theorem dX1_netAll_1 : decode cX1_netAll 1 = .ok (.iconst 0, 1) := by decide +kernel
theorem dX1_netAll_2 : decode cX1_netAll 2 = .ok (.putfield 20, 3) := by decide +kernel
theorem dX1_netAll_5 : decode cX1_netAll 5 = .ok (.iconst 0, 1) := by decide +kernel
theorem dX1_netAll_6 : decode cX1_netAll 6 = .ok (.istore_n 2, 1) := by decide +kernel
theorem dX1_netAll_7 : decode cX1_netAll 7 = .ok (.iload_n 2, 1) := by decide +kernel
theorem dX1_netAll_8 : decode cX1_netAll 8 = .ok (.bipush 56, 2) := by decide +kernel
theorem dX1_netAll_10 : decode cX1_netAll 10 = .ok (.if_icmp .ge 32, 3) := by decide +kernel
theorem dX1_netAll_13 : decode cX1_netAll 13 = .ok (.aload_n 0, 1) := by decide +kernel
theorem dX1_netAll_14 : decode cX1_netAll 14 = .ok (.aload_n 1, 1) := by decide +kernel
theorem dX1_netAll_15 : decode cX1_netAll 15 = .ok (.invokevirtual 28, 3) := by decide +kernel
theorem dX1_netAll_18 : decode cX1_netAll 18 = .ok (.ifCond .eq 24, 3) := by decide +kernel
theorem dX1_netAll_21 : decode cX1_netAll 21 = .ok (.aload_n 0, 1) := by decide +kernel
theorem dX1_netAll_22 : decode cX1_netAll 22 = .ok (.aload_n 1, 1) := by decide +kernel
theorem dX1_netAll_23 : decode cX1_netAll 23 = .ok (.invokevirtual 32, 3) := by decide +kernel
theorem dX1_netAll_26 : decode cX1_netAll 26 = .ok (.aload_n 0, 1) := by decide +kernel
theorem dX1_netAll_27 : decode cX1_netAll 27 = .ok (.dup, 1) := by decide +kernel
theorem dX1_netAll_28 : decode cX1_netAll 28 = .ok (.getfield 20, 3) := by decide +kernel
theorem dX1_netAll_31 : decode cX1_netAll 31 = .ok (.iconst 1, 1) := by decide +kernel
theorem dX1_netAll_32 : decode cX1_netAll 32 = .ok (.iadd, 1) := by decide +kernel
theorem dX1_netAll_33 : decode cX1_netAll 33 = .ok (.putfield 20, 3) := by decide +kernel
theorem dX1_netAll_36 : decode cX1_netAll 36 = .ok (.iinc 2 1, 3) := by decide +kernel
theorem dX1_netAll_39 : decode cX1_netAll 39 = .ok (.goto (-32), 3) := by decide +kernel
theorem dX1_netAll_42 : decode cX1_netAll 42 = .ok (.return_, 1) := by decide +kernel
set_option maxRecDepth 20000 in
theorem ggX1_shopAt_X2_get : GoodIn wsX1_shopAt wsX2_get := goodIn_r _ [7, 8, 9, 10, 11, 6, 12, 13, 14, 17, 18, 19] (by decide +kernel) (by decide +kernel)
set_option maxRecDepth 20000 in
theorem gX1_shopAt_X2_get : GoodIn wsX1_shopAt (wsV RX1 24 RX2 yX2_get wsX2_get) := goodIn_app (goodIn_of _ (by decide +kernel)) ggX1_shopAt_X2_get
theorem dX1_shopAt_0 : decode cX1_shopAt 0 = .ok (.aload_n 0, 1) := by decide +kernel
theorem dX1_shopAt_1 : decode cX1_shopAt 1 = .ok (.getfield 16, 3) := by decide +kernel
theorem dX1_shopAt_4 : decode cX1_shopAt 4 = .ok (.aload_n 0, 1) := by decide +kernel
theorem dX1_shopAt_5 : decode cX1_shopAt 5 = .ok (.getfield 20, 3) := by decide +kernel
theorem dX1_shopAt_8 : decode cX1_shopAt 8 = .ok (.iconst 2, 1) := by decide +kernel
theorem dX1_shopAt_9 : decode cX1_shopAt 9 = .ok (.iload_n 1, 1) := by decide +kernel
theorem dX1_shopAt_10 : decode cX1_shopAt 10 = .ok (.iadd, 1) := by decide +kernel
theorem dX1_shopAt_11 : decode cX1_shopAt 11 = .ok (.invokevirtual 24, 3) := by decide +kernel
theorem dX1_shopAt_14 : decode cX1_shopAt 14 = .ok (.ireturn, 1) := by decide +kernel
set_option maxRecDepth 20000 in
theorem ggX1_setShopAt_X2_set : GoodIn wsX1_setShopAt wsX2_set := goodIn_r _ [7, 8, 9, 10, 11, 6, 12, 13, 14, 17, 18, 19] (by decide +kernel) (by decide +kernel)
set_option maxRecDepth 20000 in
theorem gX1_setShopAt_X2_set : GoodIn wsX1_setShopAt (wsV RX1 36 RX2 yX2_set wsX2_set) := goodIn_app (goodIn_of _ (by decide +kernel)) ggX1_setShopAt_X2_set
theorem dX1_setShopAt_0 : decode cX1_setShopAt 0 = .ok (.aload_n 0, 1) := by decide +kernel
theorem dX1_setShopAt_1 : decode cX1_setShopAt 1 = .ok (.getfield 16, 3) := by decide +kernel
theorem dX1_setShopAt_4 : decode cX1_setShopAt 4 = .ok (.aload_n 0, 1) := by decide +kernel
theorem dX1_setShopAt_5 : decode cX1_setShopAt 5 = .ok (.getfield 20, 3) := by decide +kernel
theorem dX1_setShopAt_8 : decode cX1_setShopAt 8 = .ok (.iconst 2, 1) := by decide +kernel
theorem dX1_setShopAt_9 : decode cX1_setShopAt 9 = .ok (.iload_n 1, 1) := by decide +kernel
theorem dX1_setShopAt_10 : decode cX1_setShopAt 10 = .ok (.iadd, 1) := by decide +kernel
theorem dX1_setShopAt_11 : decode cX1_setShopAt 11 = .ok (.iload_n 2, 1) := by decide +kernel
theorem dX1_setShopAt_12 : decode cX1_setShopAt 12 = .ok (.invokevirtual 36, 3) := by decide +kernel
theorem dX1_setShopAt_15 : decode cX1_setShopAt 15 = .ok (.return_, 1) := by decide +kernel
set_option maxRecDepth 20000 in
theorem ggX1_find_X2_set : GoodIn wsX1_find wsX2_set := goodIn_r _ [7, 8, 9, 10, 11, 6, 12, 13, 14, 45, 46, 47] (by decide +kernel) (by decide +kernel)
set_option maxRecDepth 20000 in
theorem gX1_find_X2_set : GoodIn wsX1_find (wsV RX1 36 RX2 yX2_set wsX2_set) := goodIn_app (goodIn_of _ (by decide +kernel)) ggX1_find_X2_set
set_option maxRecDepth 20000 in
theorem ggX1_find_X1_setShopAt : GoodIn wsX1_find wsX1_setShopAt := goodIn_r _ [19, 1, 2, 3, 4, 5, 6, 7, 8, 9, 10, 11, 12, 13, 14, 43, 44, 45, 46, 47] (by decide +kernel) (by decide +kernel)
set_option maxRecDepth 20000 in
theorem gX1_find_X1_setShopAt : GoodIn wsX1_find (wsV RX1 40 RX1 yX1_setShopAt wsX1_setShopAt) := goodIn_app (goodIn_of _ (by decide +kernel)) ggX1_find_X1_setShopAt
set_option maxRecDepth 20000 in
theorem ggX1_find_X1_closes : GoodIn wsX1_find wsX1_closes := goodIn_r _ [22, 23, 24, 25, 18, 26, 1, 2, 27, 28, 29, 6, 30, 8, 9, 10, 11, 12, 13, 14, 31, 32, 33, 34, 35, 36, 37, 38, 39, 40, 41, 42, 15, 16, 17, 19, 3, 4, 5, 7, 20, 21, 43, 44, 45, 46, 47, 48, 49] (by decide +kernel) (by decide +kernel)
set_option maxRecDepth 20000 in
theorem gX1_find_X1_closes : GoodIn wsX1_find (va_wsS RX1 43 yX1_closes wsX1_closes) := goodIn_app (goodIn_of _ (by decide +kernel)) ggX1_find_X1_closes
theorem dX1_find_0 : decode cX1_find 0 = .ok (.iconst 2, 1) := by decide +kernel
theorem dX1_find_1 : decode cX1_find 1 = .ok (.istore_n 2, 1) := by decide +kernel
theorem dX1_find_2 : decode cX1_find 2 = .ok (.iload_n 2, 1) := by decide +kernel
theorem dX1_find_3 : decode cX1_find 3 = .ok (.iconst 5, 1) := by decide +kernel
theorem dX1_find_4 : decode cX1_find 4 = .ok (.if_icmp .gt 54, 3) := by decide +kernel
theorem dX1_find_7 : decode cX1_find 7 = .ok (.aload_n 0, 1) := by decide +kernel
theorem dX1_find_8 : decode cX1_find 8 = .ok (.getfield 16, 3) := by decide +kernel
theorem dX1_find_11 : decode cX1_find 11 = .ok (.aload_n 0, 1) := by decide +kernel
theorem dX1_find_12 : decode cX1_find 12 = .ok (.getfield 20, 3) := by decide +kernel
theorem dX1_find_15 : decode cX1_find 15 = .ok (.iconst 0, 1) := by decide +kernel
theorem dX1_find_16 : decode cX1_find 16 = .ok (.iload_n 2, 1) := by decide +kernel
theorem dX1_find_17 : decode cX1_find 17 = .ok (.invokevirtual 36, 3) := by decide +kernel
theorem dX1_find_20 : decode cX1_find 20 = .ok (.iconst 0, 1) := by decide +kernel
theorem dX1_find_21 : decode cX1_find 21 = .ok (.istore_n 3, 1) := by decide +kernel
theorem dX1_find_22 : decode cX1_find 22 = .ok (.iload_n 3, 1) := by decide +kernel
theorem dX1_find_23 : decode cX1_find 23 = .ok (.bipush 8, 2) := by decide +kernel
theorem dX1_find_25 : decode cX1_find 25 = .ok (.if_icmp .ge 27, 3) := by decide +kernel
theorem dX1_find_28 : decode cX1_find 28 = .ok (.aload_n 0, 1) := by decide +kernel
theorem dX1_find_29 : decode cX1_find 29 = .ok (.iconst 0, 1) := by decide +kernel
theorem dX1_find_30 : decode cX1_find 30 = .ok (.iload_n 3, 1) := by decide +kernel
theorem dX1_find_31 : decode cX1_find 31 = .ok (.invokevirtual 40, 3) := by decide +kernel
theorem dX1_find_34 : decode cX1_find 34 = .ok (.aload_n 0, 1) := by decide +kernel
theorem dX1_find_35 : decode cX1_find 35 = .ok (.aload_n 1, 1) := by decide +kernel
theorem dX1_find_36 : decode cX1_find 36 = .ok (.iload_n 2, 1) := by decide +kernel
theorem dX1_find_37 : decode cX1_find 37 = .ok (.iconst 1, 1) := by decide +kernel
theorem dX1_find_38 : decode cX1_find 38 = .ok (.invokestatic 43, 3) := by decide +kernel
theorem dX1_find_41 : decode cX1_find 41 = .ok (.ifCond .eq 5, 3) := by decide +kernel
theorem dX1_find_44 : decode cX1_find 44 = .ok (.iconst 1, 1) := by decide +kernel
theorem dX1_find_45 : decode cX1_find 45 = .ok (.ireturn, 1) := by decide +kernel
theorem dX1_find_46 : decode cX1_find 46 = .ok (.iinc 3 1, 3) := by decide +kernel
theorem dX1_find_49 : decode cX1_find 49 = .ok (.goto (-27), 3) := by decide +kernel
theorem dX1_find_52 : decode cX1_find 52 = .ok (.iinc 2 1, 3) := by decide +kernel
theorem dX1_find_55 : decode cX1_find 55 = .ok (.goto (-53), 3) := by decide +kernel
theorem dX1_find_58 : decode cX1_find 58 = .ok (.iconst 0, 1) := by decide +kernel
theorem dX1_find_59 : decode cX1_find 59 = .ok (.ireturn, 1) := by decide +kernel
set_option maxRecDepth 20000 in
theorem ggX1_closes_X1_shopAt : GoodIn wsX1_closes wsX1_shopAt := goodIn_r _ [5, 6, 7, 8, 9, 10, 11, 12, 13, 14, 15, 16, 17, 18, 19, 42, 43, 44, 45, 46] (by decide +kernel) (by decide +kernel)
set_option maxRecDepth 20000 in
theorem gX1_closes_X1_shopAt : GoodIn wsX1_closes (wsV RX1 47 RX1 yX1_shopAt wsX1_shopAt) := goodIn_app (goodIn_of _ (by decide +kernel)) ggX1_closes_X1_shopAt
set_option maxRecDepth 20000 in
theorem ggX1_closes_X0_open : GoodIn wsX1_closes wsX0_open := goodIn_r _ [24, 25, 26, 27, 9, 10, 11, 12, 13, 14, 15, 16, 17, 18, 19, 47, 48, 44, 45, 46] (by decide +kernel) (by decide +kernel)
set_option maxRecDepth 20000 in
theorem gX1_closes_X0_open : GoodIn wsX1_closes (wsV RX1 51 RX0 yX0_open wsX0_open) := goodIn_app (goodIn_of _ (by decide +kernel)) ggX1_closes_X0_open
set_option maxRecDepth 20000 in
theorem ggX1_closes_X1_isSet : GoodIn wsX1_closes wsX1_isSet := goodIn_r _ [31, 6, 7, 8, 9, 10, 11, 12, 13, 14, 15, 16, 17, 18, 19, 42, 43, 44, 45, 46] (by decide +kernel) (by decide +kernel)
set_option maxRecDepth 20000 in
theorem gX1_closes_X1_isSet : GoodIn wsX1_closes (wsV RX1 56 RX1 yX1_isSet wsX1_isSet) := goodIn_app (goodIn_of _ (by decide +kernel)) ggX1_closes_X1_isSet
set_option maxRecDepth 20000 in
theorem ggX1_closes_X1_setShopAt : GoodIn wsX1_closes wsX1_setShopAt := goodIn_r _ [35, 6, 7, 36, 37, 38, 11, 39, 13, 14, 15, 16, 17, 18, 19, 42, 43, 44, 45, 46] (by decide +kernel) (by decide +kernel)
set_option maxRecDepth 20000 in
theorem gX1_closes_X1_setShopAt : GoodIn wsX1_closes (wsV RX1 40 RX1 yX1_setShopAt wsX1_setShopAt) := goodIn_app (goodIn_of _ (by decide +kernel)) ggX1_closes_X1_setShopAt
set_option maxRecDepth 20000 in
theorem ggX1_closes_X1_closes : GoodIn wsX1_closes wsX1_closes := goodIn_r _ [0, 1, 2, 3, 4, 5, 6, 7, 8, 9, 10, 11, 12, 13, 14, 15, 16, 17, 18, 19, 20, 21, 22, 23, 24, 25, 26, 27, 28, 29, 30, 31, 32, 33, 34, 35, 36, 37, 38, 39, 40, 41, 42, 43, 44, 45, 46, 47, 48] (by decide +kernel) (by decide +kernel)
set_option maxRecDepth 20000 in
theorem gX1_closes_X1_closes : GoodIn wsX1_closes (va_wsS RX1 43 yX1_closes wsX1_closes) := goodIn_app (goodIn_of _ (by decide +kernel)) ggX1_closes_X1_closes
theorem dX1_closes_0 : decode cX1_closes 0 = .ok (.aload_n 0, 1) := by decide +kernel
theorem dX1_closes_1 : decode cX1_closes 1 = .ok (.iconst 0, 1) := by decide +kernel
theorem dX1_closes_2 : decode cX1_closes 2 = .ok (.invokevirtual 47, 3) := by decide +kernel
theorem dX1_closes_5 : decode cX1_closes 5 = .ok (.istore 4, 2) := by decide +kernel
theorem dX1_closes_7 : decode cX1_closes 7 = .ok (.aload_n 0, 1) := by decide +kernel
theorem dX1_closes_8 : decode cX1_closes 8 = .ok (.iload_n 3, 1) := by decide +kernel
theorem dX1_closes_9 : decode cX1_closes 9 = .ok (.iconst 1, 1) := by decide +kernel
theorem dX1_closes_10 : decode cX1_closes 10 = .ok (.isub, 1) := by decide +kernel
theorem dX1_closes_11 : decode cX1_closes 11 = .ok (.invokevirtual 47, 3) := by decide +kernel
theorem dX1_closes_14 : decode cX1_closes 14 = .ok (.istore 5, 2) := by decide +kernel
theorem dX1_closes_16 : decode cX1_closes 16 = .ok (.iload_n 3, 1) := by decide +kernel
theorem dX1_closes_17 : decode cX1_closes 17 = .ok (.iload_n 2, 1) := by decide +kernel
theorem dX1_closes_18 : decode cX1_closes 18 = .ok (.if_icmp .ge 8, 3) := by decide +kernel
theorem dX1_closes_21 : decode cX1_closes 21 = .ok (.iload_n 3, 1) := by decide +kernel
theorem dX1_closes_22 : decode cX1_closes 22 = .ok (.iconst 5, 1) := by decide +kernel
theorem dX1_closes_23 : decode cX1_closes 23 = .ok (.if_icmp .lt 20, 3) := by decide +kernel
theorem dX1_closes_26 : decode cX1_closes 26 = .ok (.aload_n 1, 1) := by decide +kernel
theorem dX1_closes_27 : decode cX1_closes 27 = .ok (.iload 5, 2) := by decide +kernel
theorem dX1_closes_29 : decode cX1_closes 29 = .ok (.iload 4, 2) := by decide +kernel
theorem dX1_closes_31 : decode cX1_closes 31 = .ok (.invokevirtual 51, 3) := by decide +kernel
theorem dX1_closes_34 : decode cX1_closes 34 = .ok (.ifCond .le 7, 3) := by decide +kernel
theorem dX1_closes_37 : decode cX1_closes 37 = .ok (.iconst 1, 1) := by decide +kernel
theorem dX1_closes_38 : decode cX1_closes 38 = .ok (.goto 4, 3) := by decide +kernel
theorem dX1_closes_41 : decode cX1_closes 41 = .ok (.iconst 0, 1) := by decide +kernel
theorem dX1_closes_42 : decode cX1_closes 42 = .ok (.ireturn, 1) := by decide +kernel
theorem dX1_closes_43 : decode cX1_closes 43 = .ok (.iload 4, 2) := by decide +kernel
theorem dX1_closes_45 : decode cX1_closes 45 = .ok (.iconst 1, 1) := by decide +kernel
theorem dX1_closes_46 : decode cX1_closes 46 = .ok (.iadd, 1) := by decide +kernel
theorem dX1_closes_47 : decode cX1_closes 47 = .ok (.istore 6, 2) := by decide +kernel
theorem dX1_closes_49 : decode cX1_closes 49 = .ok (.iload 6, 2) := by decide +kernel
theorem dX1_closes_51 : decode cX1_closes 51 = .ok (.bipush 8, 2) := by decide +kernel
theorem dX1_closes_53 : decode cX1_closes 53 = .ok (.if_icmp .ge 51, 3) := by decide +kernel
theorem dX1_closes_56 : decode cX1_closes 56 = .ok (.aload_n 1, 1) := by decide +kernel
theorem dX1_closes_57 : decode cX1_closes 57 = .ok (.iload 5, 2) := by decide +kernel
theorem dX1_closes_59 : decode cX1_closes 59 = .ok (.iload 6, 2) := by decide +kernel
theorem dX1_closes_61 : decode cX1_closes 61 = .ok (.invokevirtual 51, 3) := by decide +kernel
theorem dX1_closes_64 : decode cX1_closes 64 = .ok (.ifCond .le 34, 3) := by decide +kernel
theorem dX1_closes_67 : decode cX1_closes 67 = .ok (.aload_n 0, 1) := by decide +kernel
theorem dX1_closes_68 : decode cX1_closes 68 = .ok (.iload 6, 2) := by decide +kernel
theorem dX1_closes_70 : decode cX1_closes 70 = .ok (.iload_n 3, 1) := by decide +kernel
theorem dX1_closes_71 : decode cX1_closes 71 = .ok (.invokevirtual 56, 3) := by decide +kernel
theorem dX1_closes_74 : decode cX1_closes 74 = .ok (.ifCond .ne 24, 3) := by decide +kernel
theorem dX1_closes_77 : decode cX1_closes 77 = .ok (.aload_n 0, 1) := by decide +kernel
theorem dX1_closes_78 : decode cX1_closes 78 = .ok (.iload_n 3, 1) := by decide +kernel
theorem dX1_closes_79 : decode cX1_closes 79 = .ok (.iload 6, 2) := by decide +kernel
theorem dX1_closes_81 : decode cX1_closes 81 = .ok (.invokevirtual 40, 3) := by decide +kernel
theorem dX1_closes_84 : decode cX1_closes 84 = .ok (.aload_n 0, 1) := by decide +kernel
theorem dX1_closes_85 : decode cX1_closes 85 = .ok (.aload_n 1, 1) := by decide +kernel
theorem dX1_closes_86 : decode cX1_closes 86 = .ok (.iload_n 2, 1) := by decide +kernel
theorem dX1_closes_87 : decode cX1_closes 87 = .ok (.iload_n 3, 1) := by decide +kernel
theorem dX1_closes_88 : decode cX1_closes 88 = .ok (.iconst 1, 1) := by decide +kernel
theorem dX1_closes_89 : decode cX1_closes 89 = .ok (.iadd, 1) := by decide +kernel
theorem dX1_closes_90 : decode cX1_closes 90 = .ok (.invokestatic 43, 3) := by decide +kernel
theorem dX1_closes_93 : decode cX1_closes 93 = .ok (.ifCond .eq 5, 3) := by decide +kernel
theorem dX1_closes_96 : decode cX1_closes 96 = .ok (.iconst 1, 1) := by decide +kernel
theorem dX1_closes_97 : decode cX1_closes 97 = .ok (.ireturn, 1) := by decide +kernel
theorem dX1_closes_98 : decode cX1_closes 98 = .ok (.iinc 6 1, 3) := by decide +kernel
theorem dX1_closes_101 : decode cX1_closes 101 = .ok (.goto (-52), 3) := by decide +kernel
theorem dX1_closes_104 : decode cX1_closes 104 = .ok (.iconst 0, 1) := by decide +kernel
theorem dX1_closes_105 : decode cX1_closes 105 = .ok (.ireturn, 1) := by decide +kernel
set_option maxRecDepth 20000 in
theorem ggX1_isSet_X2_get : GoodIn wsX1_isSet wsX2_get := goodIn_r _ [7, 8, 9, 10, 11, 6, 12, 13, 14, 17, 18, 19] (by decide +kernel) (by decide +kernel)
set_option maxRecDepth 20000 in
theorem gX1_isSet_X2_get : GoodIn wsX1_isSet (wsV RX1 24 RX2 yX2_get wsX2_get) := goodIn_app (goodIn_of _ (by decide +kernel)) ggX1_isSet_X2_get
theorem dX1_isSet_0 : decode cX1_isSet 0 = .ok (.iconst 0, 1) := by decide +kernel
theorem dX1_isSet_1 : decode cX1_isSet 1 = .ok (.istore_n 3, 1) := by decide +kernel
theorem dX1_isSet_2 : decode cX1_isSet 2 = .ok (.iload_n 3, 1) := by decide +kernel
theorem dX1_isSet_3 : decode cX1_isSet 3 = .ok (.iload_n 2, 1) := by decide +kernel
theorem dX1_isSet_4 : decode cX1_isSet 4 = .ok (.if_icmp .ge 29, 3) := by decide +kernel
theorem dX1_isSet_7 : decode cX1_isSet 7 = .ok (.aload_n 0, 1) := by decide +kernel
theorem dX1_isSet_8 : decode cX1_isSet 8 = .ok (.getfield 16, 3) := by decide +kernel
theorem dX1_isSet_11 : decode cX1_isSet 11 = .ok (.aload_n 0, 1) := by decide +kernel
theorem dX1_isSet_12 : decode cX1_isSet 12 = .ok (.getfield 20, 3) := by decide +kernel
theorem dX1_isSet_15 : decode cX1_isSet 15 = .ok (.iconst 2, 1) := by decide +kernel
theorem dX1_isSet_16 : decode cX1_isSet 16 = .ok (.iload_n 3, 1) := by decide +kernel
theorem dX1_isSet_17 : decode cX1_isSet 17 = .ok (.iadd, 1) := by decide +kernel
theorem dX1_isSet_18 : decode cX1_isSet 18 = .ok (.invokevirtual 24, 3) := by decide +kernel
theorem dX1_isSet_21 : decode cX1_isSet 21 = .ok (.iload_n 1, 1) := by decide +kernel
theorem dX1_isSet_22 : decode cX1_isSet 22 = .ok (.if_icmp .ne 5, 3) := by decide +kernel
theorem dX1_isSet_25 : decode cX1_isSet 25 = .ok (.iconst 1, 1) := by decide +kernel
theorem dX1_isSet_26 : decode cX1_isSet 26 = .ok (.ireturn, 1) := by decide +kernel
theorem dX1_isSet_27 : decode cX1_isSet 27 = .ok (.iinc 3 1, 3) := by decide +kernel
theorem dX1_isSet_30 : decode cX1_isSet 30 = .ok (.goto (-28), 3) := by decide +kernel
theorem dX1_isSet_33 : decode cX1_isSet 33 = .ok (.iconst 0, 1) := by decide +kernel
theorem dX1_isSet_34 : decode cX1_isSet 34 = .ok (.ireturn, 1) := by decide +kernel
set_option maxRecDepth 20000 in
theorem ggX1_net_X2_get : GoodIn wsX1_net wsX2_get := goodIn_r _ [11, 12, 13, 14, 15, 10, 16, 17, 18, 52, 53, 54] (by decide +kernel) (by decide +kernel)
set_option maxRecDepth 20000 in
theorem gX1_net_X2_get : GoodIn wsX1_net (wsV RX1 24 RX2 yX2_get wsX2_get) := goodIn_app (goodIn_of _ (by decide +kernel)) ggX1_net_X2_get
set_option maxRecDepth 20000 in
theorem ggX1_net_X1_shopAt : GoodIn wsX1_net wsX1_shopAt := goodIn_r _ [23, 1, 2, 7, 8, 9, 10, 11, 12, 13, 14, 15, 16, 17, 18, 50, 51, 52, 53, 54] (by decide +kernel) (by decide +kernel)
set_option maxRecDepth 20000 in
theorem gX1_net_X1_shopAt : GoodIn wsX1_net (wsV RX1 47 RX1 yX1_shopAt wsX1_shopAt) := goodIn_app (goodIn_of _ (by decide +kernel)) ggX1_net_X1_shopAt
set_option maxRecDepth 20000 in
theorem ggX1_net_X0_open : GoodIn wsX1_net wsX0_open := goodIn_r _ [28, 29, 30, 31, 8, 9, 10, 11, 12, 13, 14, 15, 16, 17, 18, 55, 56, 52, 53, 54] (by decide +kernel) (by decide +kernel)
set_option maxRecDepth 20000 in
theorem gX1_net_X0_open : GoodIn wsX1_net (wsV RX1 51 RX0 yX0_open wsX0_open) := goodIn_app (goodIn_of _ (by decide +kernel)) ggX1_net_X0_open
set_option maxRecDepth 20000 in
theorem ggX1_net_X0_more : GoodIn wsX1_net wsX0_more := goodIn_r _ [35, 29, 36, 37, 38, 10, 39, 40, 8, 9, 11, 12, 13, 14, 15, 16, 17, 18, 41, 42, 43, 44, 55, 56, 52, 53, 54] (by decide +kernel) (by decide +kernel)
set_option maxRecDepth 20000 in
theorem gX1_net_X0_more : GoodIn wsX1_net (wsV RX1 65 RX0 yX0_more wsX0_more) := goodIn_app (goodIn_of _ (by decide +kernel)) ggX1_net_X0_more
set_option maxRecDepth 20000 in
theorem ggX1_net_X2_set : GoodIn wsX1_net wsX2_set := goodIn_r _ [44, 12, 13, 14, 15, 10, 16, 17, 18, 52, 53, 54] (by decide +kernel) (by decide +kernel)
set_option maxRecDepth 20000 in
theorem gX1_net_X2_set : GoodIn wsX1_net (wsV RX1 36 RX2 yX2_set wsX2_set) := goodIn_app (goodIn_of _ (by decide +kernel)) ggX1_net_X2_set
set_option maxRecDepth 20000 in
theorem ggX1_net_X1_setShopAt : GoodIn wsX1_net wsX1_setShopAt := goodIn_r _ [49, 1, 2, 45, 42, 43, 10, 44, 12, 13, 14, 15, 16, 17, 18, 50, 51, 52, 53, 54] (by decide +kernel) (by decide +kernel)
set_option maxRecDepth 20000 in
theorem gX1_net_X1_setShopAt : GoodIn wsX1_net (wsV RX1 40 RX1 yX1_setShopAt wsX1_setShopAt) := goodIn_app (goodIn_of _ (by decide +kernel)) ggX1_net_X1_setShopAt
theorem dX1_net_0 : decode cX1_net 0 = .ok (.aload_n 0, 1) := by decide +kernel
theorem dX1_net_1 : decode cX1_net 1 = .ok (.getfield 16, 3) := by decide +kernel
theorem dX1_net_4 : decode cX1_net 4 = .ok (.aload_n 0, 1) := by decide +kernel
theorem dX1_net_5 : decode cX1_net 5 = .ok (.getfield 20, 3) := by decide +kernel
theorem dX1_net_8 : decode cX1_net 8 = .ok (.iconst 0, 1) := by decide +kernel
theorem dX1_net_9 : decode cX1_net 9 = .ok (.invokevirtual 24, 3) := by decide +kernel
theorem dX1_net_12 : decode cX1_net 12 = .ok (.istore_n 2, 1) := by decide +kernel
theorem dX1_net_13 : decode cX1_net 13 = .ok (.aload_n 1, 1) := by decide +kernel
theorem dX1_net_14 : decode cX1_net 14 = .ok (.aload_n 0, 1) := by decide +kernel
theorem dX1_net_15 : decode cX1_net 15 = .ok (.iload_n 2, 1) := by decide +kernel
theorem dX1_net_16 : decode cX1_net 16 = .ok (.iconst 1, 1) := by decide +kernel
theorem dX1_net_17 : decode cX1_net 17 = .ok (.isub, 1) := by decide +kernel
theorem dX1_net_18 : decode cX1_net 18 = .ok (.invokevirtual 47, 3) := by decide +kernel
theorem dX1_net_21 : decode cX1_net 21 = .ok (.aload_n 0, 1) := by decide +kernel
theorem dX1_net_22 : decode cX1_net 22 = .ok (.iconst 0, 1) := by decide +kernel
theorem dX1_net_23 : decode cX1_net 23 = .ok (.invokevirtual 47, 3) := by decide +kernel
theorem dX1_net_26 : decode cX1_net 26 = .ok (.invokevirtual 51, 3) := by decide +kernel
theorem dX1_net_29 : decode cX1_net 29 = .ok (.istore_n 3, 1) := by decide +kernel
theorem dX1_net_30 : decode cX1_net 30 = .ok (.iconst 1, 1) := by decide +kernel
theorem dX1_net_31 : decode cX1_net 31 = .ok (.istore 4, 2) := by decide +kernel
theorem dX1_net_33 : decode cX1_net 33 = .ok (.iload 4, 2) := by decide +kernel
theorem dX1_net_35 : decode cX1_net 35 = .ok (.iload_n 2, 1) := by decide +kernel
theorem dX1_net_36 : decode cX1_net 36 = .ok (.if_icmp .ge 32, 3) := by decide +kernel
theorem dX1_net_39 : decode cX1_net 39 = .ok (.iload_n 3, 1) := by decide +kernel
theorem dX1_net_40 : decode cX1_net 40 = .ok (.aload_n 1, 1) := by decide +kernel
theorem dX1_net_41 : decode cX1_net 41 = .ok (.aload_n 0, 1) := by decide +kernel
theorem dX1_net_42 : decode cX1_net 42 = .ok (.iload 4, 2) := by decide +kernel
theorem dX1_net_44 : decode cX1_net 44 = .ok (.iconst 1, 1) := by decide +kernel
theorem dX1_net_45 : decode cX1_net 45 = .ok (.isub, 1) := by decide +kernel
theorem dX1_net_46 : decode cX1_net 46 = .ok (.invokevirtual 47, 3) := by decide +kernel
theorem dX1_net_49 : decode cX1_net 49 = .ok (.aload_n 0, 1) := by decide +kernel
theorem dX1_net_50 : decode cX1_net 50 = .ok (.iload 4, 2) := by decide +kernel
theorem dX1_net_52 : decode cX1_net 52 = .ok (.invokevirtual 47, 3) := by decide +kernel
theorem dX1_net_55 : decode cX1_net 55 = .ok (.invokevirtual 51, 3) := by decide +kernel
theorem dX1_net_58 : decode cX1_net 58 = .ok (.invokestatic 60, 3) := by decide +kernel
theorem dX1_net_61 : decode cX1_net 61 = .ok (.istore_n 3, 1) := by decide +kernel
theorem dX1_net_62 : decode cX1_net 62 = .ok (.iinc 4 1, 3) := by decide +kernel
theorem dX1_net_65 : decode cX1_net 65 = .ok (.goto (-32), 3) := by decide +kernel
theorem dX1_net_68 : decode cX1_net 68 = .ok (.aload_n 1, 1) := by decide +kernel
theorem dX1_net_69 : decode cX1_net 69 = .ok (.aload_n 0, 1) := by decide +kernel
theorem dX1_net_70 : decode cX1_net 70 = .ok (.iload_n 2, 1) := by decide +kernel
theorem dX1_net_71 : decode cX1_net 71 = .ok (.iconst 1, 1) := by decide +kernel
theorem dX1_net_72 : decode cX1_net 72 = .ok (.isub, 1) := by decide +kernel
theorem dX1_net_73 : decode cX1_net 73 = .ok (.invokevirtual 47, 3) := by decide +kernel
theorem dX1_net_76 : decode cX1_net 76 = .ok (.aload_n 0, 1) := by decide +kernel
theorem dX1_net_77 : decode cX1_net 77 = .ok (.iconst 0, 1) := by decide +kernel
theorem dX1_net_78 : decode cX1_net 78 = .ok (.invokevirtual 47, 3) := by decide +kernel
theorem dX1_net_81 : decode cX1_net 81 = .ok (.iload_n 3, 1) := by decide +kernel
theorem dX1_net_82 : decode cX1_net 82 = .ok (.ineg, 1) := by decide +kernel
theorem dX1_net_83 : decode cX1_net 83 = .ok (.invokevirtual 65, 3) := by decide +kernel
theorem dX1_net_86 : decode cX1_net 86 = .ok (.iconst 1, 1) := by decide +kernel
theorem dX1_net_87 : decode cX1_net 87 = .ok (.istore 4, 2) := by decide +kernel
theorem dX1_net_89 : decode cX1_net 89 = .ok (.iload 4, 2) := by decide +kernel
theorem dX1_net_91 : decode cX1_net 91 = .ok (.iload_n 2, 1) := by decide +kernel
theorem dX1_net_92 : decode cX1_net 92 = .ok (.if_icmp .ge 29, 3) := by decide +kernel
theorem dX1_net_95 : decode cX1_net 95 = .ok (.aload_n 1, 1) := by decide +kernel
theorem dX1_net_96 : decode cX1_net 96 = .ok (.aload_n 0, 1) := by decide +kernel
theorem dX1_net_97 : decode cX1_net 97 = .ok (.iload 4, 2) := by decide +kernel
theorem dX1_net_99 : decode cX1_net 99 = .ok (.iconst 1, 1) := by decide +kernel
theorem dX1_net_100 : decode cX1_net 100 = .ok (.isub, 1) := by decide +kernel
theorem dX1_net_101 : decode cX1_net 101 = .ok (.invokevirtual 47, 3) := by decide +kernel
theorem dX1_net_104 : decode cX1_net 104 = .ok (.aload_n 0, 1) := by decide +kernel
theorem dX1_net_105 : decode cX1_net 105 = .ok (.iload 4, 2) := by decide +kernel
theorem dX1_net_107 : decode cX1_net 107 = .ok (.invokevirtual 47, 3) := by decide +kernel
theorem dX1_net_110 : decode cX1_net 110 = .ok (.iload_n 3, 1) := by decide +kernel
theorem dX1_net_111 : decode cX1_net 111 = .ok (.ineg, 1) := by decide +kernel
theorem dX1_net_112 : decode cX1_net 112 = .ok (.invokevirtual 65, 3) := by decide +kernel
theorem dX1_net_115 : decode cX1_net 115 = .ok (.iinc 4 1, 3) := by decide +kernel
theorem dX1_net_118 : decode cX1_net 118 = .ok (.goto (-29), 3) := by decide +kernel
theorem dX1_net_121 : decode cX1_net 121 = .ok (.aload_n 0, 1) := by decide +kernel
theorem dX1_net_122 : decode cX1_net 122 = .ok (.getfield 16, 3) := by decide +kernel
theorem dX1_net_125 : decode cX1_net 125 = .ok (.aload_n 0, 1) := by decide +kernel
theorem dX1_net_126 : decode cX1_net 126 = .ok (.getfield 20, 3) := by decide +kernel
theorem dX1_net_129 : decode cX1_net 129 = .ok (.iconst 1, 1) := by decide +kernel
theorem dX1_net_130 : decode cX1_net 130 = .ok (.iload_n 3, 1) := by decide +kernel
theorem dX1_net_131 : decode cX1_net 131 = .ok (.invokevirtual 36, 3) := by decide +kernel
theorem dX1_net_134 : decode cX1_net 134 = .ok (.iload_n 2, 1) := by decide +kernel
theorem dX1_net_135 : decode cX1_net 135 = .ok (.istore 4, 2) := by decide +kernel
theorem dX1_net_137 : decode cX1_net 137 = .ok (.iload 4, 2) := by decide +kernel
theorem dX1_net_139 : decode cX1_net 139 = .ok (.iconst 5, 1) := by decide +kernel
theorem dX1_net_140 : decode cX1_net 140 = .ok (.if_icmp .ge 16, 3) := by decide +kernel
theorem dX1_net_143 : decode cX1_net 143 = .ok (.aload_n 0, 1) := by decide +kernel
theorem dX1_net_144 : decode cX1_net 144 = .ok (.iload 4, 2) := by decide +kernel
theorem dX1_net_146 : decode cX1_net 146 = .ok (.iconst (-1), 1) := by decide +kernel
theorem dX1_net_147 : decode cX1_net 147 = .ok (.invokevirtual 40, 3) := by decide +kernel
theorem dX1_net_150 : decode cX1_net 150 = .ok (.iinc 4 1, 3) := by decide +kernel
theorem dX1_net_153 : decode cX1_net 153 = .ok (.goto (-16), 3) := by decide +kernel
theorem dX1_net_156 : decode cX1_net 156 = .ok (.return_, 1) := by decide +kernel
end
section
set_option maxRecDepth 20000 in
theorem ggX4_init_X2_init : GoodIn wsX4_init wsX2_init := goodIn_r _ [27, 28, 2, 3, 29, 30, 31, 32, 33, 34, 35, 36, 37, 38, 39, 61, 62, 63] (by decide +kernel) (by decide +kernel)
set_option maxRecDepth 20000 in
theorem gX4_init_X2_init : GoodIn wsX4_init (wsX2_init) := ggX4_init_X2_init
set_option maxRecDepth 20000 in
theorem ggX4_init_X3_init : GoodIn wsX4_init wsX3_init := goodIn_r _ [41, 42, 2, 3, 43, 5, 6, 44, 45, 46, 26, 27, 28, 29, 30, 31, 32, 33, 34, 35, 36, 37, 38, 39, 61, 62, 63, 73, 74] (by decide +kernel) (by decide +kernel)
set_option maxRecDepth 20000 in
theorem gX4_init_X3_init_n20 : GoodIn wsX4_init (wsX3_init) := ggX4_init_X3_init
set_option maxRecDepth 20000 in
theorem ggX4_init_X0_init : GoodIn wsX4_init wsX0_init := goodIn_r _ [48, 49, 2, 3, 50, 5, 6, 51, 52, 53, 26, 27, 28, 29, 30, 31, 32, 33, 34, 35, 36, 37, 38, 39, 61, 62, 63, 75, 76] (by decide +kernel) (by decide +kernel)
set_option maxRecDepth 20000 in
theorem gX4_init_X0_init_n27 : GoodIn wsX4_init (wsX0_init) := ggX4_init_X0_init
set_option maxRecDepth 20000 in
theorem ggX4_init_X1_init : GoodIn wsX4_init wsX1_init := goodIn_r _ [55, 56, 2, 3, 57, 5, 6, 58, 59, 60, 26, 27, 28, 29, 30, 31, 32, 33, 34, 35, 36, 37, 38, 39, 61, 62, 63, 77, 78] (by decide +kernel) (by decide +kernel)
set_option maxRecDepth 20000 in
theorem gX4_init_X1_init_n40 : GoodIn wsX4_init (wsX1_init) := ggX4_init_X1_init
theorem dX4_init_0 : decode cX4_init 0 = .ok (.aload_n 0, 1) := by decide +kernel
theorem dX4_init_1 : decode cX4_init 1 = .ok (.invokespecial 1, 3) := by decide +kernel
theorem dX4_init_4 : decode cX4_init 4 = .ok (.aload_n 0, 1) := by decide +kernel
theorem dX4_init_5 : decode cX4_init 5 = .ok (.new 7, 3) := by decide +kernel
theorem dX4_init_8 : decode cX4_init 8 = .ok (.dup, 1) := by decide +kernel
theorem dX4_init_9 : decode cX4_init 9 = .ok (.bipush 8, 2) := by decide +kernel
theorem dX4_init_11 : decode cX4_init 11 = .ok (.iconst 2, 1) := by decide +kernel
theorem dX4_init_12 : decode cX4_init 12 = .ok (.invokespecial 11, 3) := by decide +kernel
theorem dX4_init_15 : decode cX4_init 15 = .ok (.putfield 14, 3) := by decide +kernel
theorem dX4_init_18 : decode cX4_init 18 = .ok (.aload_n 0, 1) := by decide +kernel
theorem dX4_init_19 : decode cX4_init 19 = .ok (.new 18, 3) := by decide +kernel
theorem dX4_init_22 : decode cX4_init 22 = .ok (.dup, 1) := by decide +kernel
theorem dX4_init_23 : decode cX4_init 23 = .ok (.invokespecial 20, 3) := by decide +kernel
theorem dX4_init_26 : decode cX4_init 26 = .ok (.putfield 21, 3) := by decide +kernel
theorem dX4_init_29 : decode cX4_init 29 = .ok (.aload_n 0, 1) := by decide +kernel
theorem dX4_init_30 : decode cX4_init 30 = .ok (.new 25, 3) := by decide +kernel
theorem dX4_init_33 : decode cX4_init 33 = .ok (.dup, 1) := by decide +kernel
theorem dX4_init_34 : decode cX4_init 34 = .ok (.invokespecial 27, 3) := by decide +kernel
theorem dX4_init_37 : decode cX4_init 37 = .ok (.putfield 28, 3) := by decide +kernel
theorem dX4_init_40 : decode cX4_init 40 = .ok (.aload_n 0, 1) := by decide +kernel
theorem dX4_init_41 : decode cX4_init 41 = .ok (.new 7, 3) := by decide +kernel
theorem dX4_init_44 : decode cX4_init 44 = .ok (.dup, 1) := by decide +kernel
theorem dX4_init_45 : decode cX4_init 45 = .ok (.bipush 9, 2) := by decide +kernel
theorem dX4_init_47 : decode cX4_init 47 = .ok (.bipush 9, 2) := by decide +kernel
theorem dX4_init_49 : decode cX4_init 49 = .ok (.invokespecial 11, 3) := by decide +kernel
theorem dX4_init_52 : decode cX4_init 52 = .ok (.putfield 32, 3) := by decide +kernel
theorem dX4_init_55 : decode cX4_init 55 = .ok (.aload_n 0, 1) := by decide +kernel
theorem dX4_init_56 : decode cX4_init 56 = .ok (.new 7, 3) := by decide +kernel
theorem dX4_init_59 : decode cX4_init 59 = .ok (.dup, 1) := by decide +kernel
theorem dX4_init_60 : decode cX4_init 60 = .ok (.bipush 9, 2) := by decide +kernel
theorem dX4_init_62 : decode cX4_init 62 = .ok (.bipush 9, 2) := by decide +kernel
theorem dX4_init_64 : decode cX4_init 64 = .ok (.invokespecial 11, 3) := by decide +kernel
theorem dX4_init_67 : decode cX4_init 67 = .ok (.putfield 35, 3) := by decide +kernel
theorem dX4_init_70 : decode cX4_init 70 = .ok (.aload_n 0, 1) := by decide +kernel
theorem dX4_init_71 : decode cX4_init 71 = .ok (.new 38, 3) := by decide +kernel
theorem dX4_init_74 : decode cX4_init 74 = .ok (.dup, 1) := by decide +kernel
theorem dX4_init_75 : decode cX4_init 75 = .ok (.invokespecial 40, 3) := by decide +kernel
theorem dX4_init_78 : decode cX4_init 78 = .ok (.putfield 41, 3) := by decide +kernel
theorem dX4_init_81 : decode cX4_init 81 = .ok (.aload_n 0, 1) := by decide +kernel
theorem dX4_init_82 : decode cX4_init 82 = .ok (.iconst 0, 1) := by decide +kernel
theorem dX4_init_83 : decode cX4_init 83 = .ok (.putfield 45, 3) := by decide +kernel
theorem dX4_init_86 : decode cX4_init 86 = .ok (.aload_n 0, 1) := by decide +kernel
theorem dX4_init_87 : decode cX4_init 87 = .ok (.iconst 0, 1) := by decide +kernel
theorem dX4_init_88 : decode cX4_init 88 = .ok (.putfield 49, 3) := by decide +kernel
theorem dX4_init_91 : decode cX4_init 91 = .ok (.aload_n 0, 1) := by decide +kernel
theorem dX4_init_92 : decode cX4_init 92 = .ok (.bipush 10, 2) := by decide +kernel
theorem dX4_init_94 : decode cX4_init 94 = .ok (.putfield 52, 3) := by decide +kernel
theorem dX4_init_97 : decode cX4_init 97 = .ok (.return_, 1) := by decide +kernel
theorem dX4_join_0 : decode cX4_join 0 = .ok (.aload_n 0, 1) := by decide +kernel
theorem dX4_join_1 : decode cX4_join 1 = .ok (.getfield 45, 3) := by decide +kernel
theorem dX4_join_4 : decode cX4_join 4 = .ok (.bipush 8, 2) := by decide +kernel
theorem dX4_join_6 : decode cX4_join 6 = .ok (.if_icmp .lt 13, 3) := by decide +kernel
theorem dX4_join_9 : decode cX4_join 9 = .ok (.new 55, 3) := by decide +kernel
theorem dX4_join_12 : decode cX4_join 12 = .ok (.dup, 1) := by decide +kernel
theorem dX4_join_13 : decode cX4_join 13 = .ok (.ldc 57, 2) := by decide +kernel
theorem dX4_join_15 : decode cX4_join 15 = .ok (.invokespecial 59, 3) := by decide +kernel
theorem dX4_join_18 : decode cX4_join 18 = .ok (.athrow, 1) := by decide +kernel
theorem dX4_join_19 : decode cX4_join 19 = .ok (.aload_n 0, 1) := by decide +kernel
theorem dX4_join_20 : decode cX4_join 20 = .ok (.dup, 1) := by decide +kernel
theorem dX4_join_21 : decode cX4_join 21 = .ok (.getfield 45, 3) := by decide +kernel
theorem dX4_join_24 : decode cX4_join 24 = .ok (.iconst 1, 1) := by decide +kernel
theorem dX4_join_25 : decode cX4_join 25 = .ok (.iadd, 1) := by decide +kernel
theorem dX4_join_26 : decode cX4_join 26 = .ok (.putfield 45, 3) := by decide +kernel
theorem dX4_join_29 : decode cX4_join 29 = .ok (.aload_n 0, 1) := by decide +kernel
theorem dX4_join_30 : decode cX4_join 30 = .ok (.getfield 45, 3) := by decide +kernel
theorem dX4_join_33 : decode cX4_join 33 = .ok (.iconst 1, 1) := by decide +kernel
theorem dX4_join_34 : decode cX4_join 34 = .ok (.isub, 1) := by decide +kernel
theorem dX4_join_35 : decode cX4_join 35 = .ok (.ireturn, 1) := by decide +kernel
set_option maxRecDepth 20000 in
theorem ggX4_leave_X4_needShop : GoodIn wsX4_leave wsX4_needShop := goodIn_ca (goodIn_r _ [10, 11, 12, 13, 14, 15, 9, 16, 5, 17, 18, 19, 20, 21, 22, 23, 24, 25, 26, 27, 28, 29, 30, 31, 32, 33, 102, 103, 104, 105, 106, 107, 108, 109, 110, 111, 112, 113] (by decide +kernel) (by decide +kernel)) (goodIn_sub (fun _ h => List.mem_cons_of_mem _ (List.mem_append_right _ h)) (by decide +kernel))
set_option maxRecDepth 20000 in
theorem gX4_leave_X4_needShop : GoodIn wsX4_leave (wsV RX4 62 RX4 yX4_needShop wsX4_needShop) := goodIn_app (goodIn_of _ (by decide +kernel)) ggX4_leave_X4_needShop
set_option maxRecDepth 20000 in
theorem ggX4_leave_X3_hasDisputedOf : GoodIn wsX4_leave wsX3_hasDisputedOf := goodIn_r _ [38, 39, 40, 41, 42, 37, 43, 44, 45, 46, 47, 48, 49, 23, 24, 25, 26, 27, 28, 29, 30, 31, 32, 33, 114, 115, 111, 112, 113] (by decide +kernel) (by decide +kernel)
set_option maxRecDepth 20000 in
theorem gX4_leave_X3_hasDisputedOf : GoodIn wsX4_leave (wsV RX4 66 RX3 yX3_hasDisputedOf wsX3_hasDisputedOf) := goodIn_app (goodIn_of _ (by decide +kernel)) ggX4_leave_X3_hasDisputedOf
set_option maxRecDepth 20000 in
theorem ggX4_leave_X4_passDebtsThrough : GoodIn wsX4_leave wsX4_passDebtsThrough := goodIn_r _ [53, 54, 55, 56, 57, 58, 59, 60, 61, 62, 63, 64, 65, 23, 24, 25, 26, 27, 28, 29, 30, 31, 32, 33, 66, 67, 68, 69, 70, 71, 72, 73, 74, 75, 76, 77, 78, 79, 80, 81, 9, 82, 102, 103, 104, 105, 106, 107, 108, 109, 110, 116, 117, 111, 112, 113] (by decide +kernel) (by decide +kernel)
set_option maxRecDepth 20000 in
theorem gX4_leave_X4_passDebtsThrough : GoodIn wsX4_leave (wsV RX4 72 RX4 yX4_passDebtsThrough wsX4_passDebtsThrough) := goodIn_app (goodIn_of _ (by decide +kernel)) ggX4_leave_X4_passDebtsThrough
set_option maxRecDepth 20000 in
theorem ggX4_leave_X4_letGuarantorsPay : GoodIn wsX4_leave wsX4_letGuarantorsPay := goodIn_r _ [86, 54, 4, 55, 56, 57, 58, 87, 59, 60, 61, 62, 63, 64, 65, 23, 24, 25, 26, 27, 28, 29, 30, 31, 32, 33, 22, 88, 71, 72, 73, 74, 75, 76, 77, 78, 79, 80, 81, 9, 82, 66, 67, 68, 69, 70, 102, 103, 104, 105, 106, 107, 108, 109, 110, 116, 117, 111, 112, 113] (by decide +kernel) (by decide +kernel)
set_option maxRecDepth 20000 in
theorem gX4_leave_X4_letGuarantorsPay : GoodIn wsX4_leave (wsV RX4 75 RX4 yX4_letGuarantorsPay wsX4_letGuarantorsPay) := goodIn_app (goodIn_of _ (by decide +kernel)) ggX4_leave_X4_letGuarantorsPay
set_option maxRecDepth 20000 in
theorem ggX4_leave_X4_oweInGoodsBy : GoodIn wsX4_leave wsX4_oweInGoodsBy := goodIn_r _ [92, 54, 87, 59, 60, 61, 62, 63, 64, 65, 23, 24, 25, 26, 27, 28, 29, 30, 31, 32, 33, 66, 67, 68, 69, 70, 71, 72, 73, 74, 75, 76, 77, 78, 88, 102, 103, 104, 105, 106, 107, 108, 109, 110, 116, 117, 111, 112, 113] (by decide +kernel) (by decide +kernel)
set_option maxRecDepth 20000 in
theorem gX4_leave_X4_oweInGoodsBy : GoodIn wsX4_leave (wsV RX4 78 RX4 yX4_oweInGoodsBy wsX4_oweInGoodsBy) := goodIn_app (goodIn_of _ (by decide +kernel)) ggX4_leave_X4_oweInGoodsBy
set_option maxRecDepth 20000 in
theorem ggX4_leave_X4_oweInGoodsTo : GoodIn wsX4_leave wsX4_oweInGoodsTo := goodIn_r _ [96, 54, 87, 59, 60, 61, 62, 63, 64, 65, 23, 24, 25, 26, 27, 28, 29, 30, 31, 32, 33, 66, 67, 68, 69, 70, 71, 72, 73, 74, 75, 76, 77, 78, 88, 102, 103, 104, 105, 106, 107, 108, 109, 110, 116, 117, 111, 112, 113] (by decide +kernel) (by decide +kernel)
set_option maxRecDepth 20000 in
theorem gX4_leave_X4_oweInGoodsTo : GoodIn wsX4_leave (wsV RX4 82 RX4 yX4_oweInGoodsTo wsX4_oweInGoodsTo) := goodIn_app (goodIn_of _ (by decide +kernel)) ggX4_leave_X4_oweInGoodsTo
set_option maxRecDepth 20000 in
theorem ggX4_leave_X2_clearAllOf : GoodIn wsX4_leave wsX2_clearAllOf := goodIn_r _ [100, 75, 76, 77, 25, 78, 27, 28, 29, 30, 31, 32, 33, 111, 112, 113] (by decide +kernel) (by decide +kernel)
set_option maxRecDepth 20000 in
theorem gX4_leave_X2_clearAllOf : GoodIn wsX4_leave (wsV RX4 85 RX2 yX2_clearAllOf wsX2_clearAllOf) := goodIn_app (goodIn_of _ (by decide +kernel)) ggX4_leave_X2_clearAllOf
set_option maxRecDepth 20000 in
theorem ggX4_leave_X2_set : GoodIn wsX4_leave wsX2_set := goodIn_r _ [78, 27, 28, 29, 30, 25, 31, 32, 33, 111, 112, 113] (by decide +kernel) (by decide +kernel)
set_option maxRecDepth 20000 in
theorem gX4_leave_X2_set : GoodIn wsX4_leave (wsV RX4 88 RX2 yX2_set wsX2_set) := goodIn_app (goodIn_of _ (by decide +kernel)) ggX4_leave_X2_set
theorem dX4_leave_0 : decode cX4_leave 0 = .ok (.aload_n 0, 1) := by decide +kernel
theorem dX4_leave_1 : decode cX4_leave 1 = .ok (.iload_n 1, 1) := by decide +kernel
theorem dX4_leave_2 : decode cX4_leave 2 = .ok (.invokevirtual 62, 3) := by decide +kernel
theorem dX4_leave_5 : decode cX4_leave 5 = .ok (.aload_n 0, 1) := by decide +kernel
theorem dX4_leave_6 : decode cX4_leave 6 = .ok (.getfield 21, 3) := by decide +kernel
theorem dX4_leave_9 : decode cX4_leave 9 = .ok (.iload_n 1, 1) := by decide +kernel
theorem dX4_leave_10 : decode cX4_leave 10 = .ok (.invokevirtual 66, 3) := by decide +kernel
theorem dX4_leave_13 : decode cX4_leave 13 = .ok (.ifCond .eq 13, 3) := by decide +kernel
theorem dX4_leave_16 : decode cX4_leave 16 = .ok (.new 55, 3) := by decide +kernel
theorem dX4_leave_19 : decode cX4_leave 19 = .ok (.dup, 1) := by decide +kernel
theorem dX4_leave_20 : decode cX4_leave 20 = .ok (.ldc 70, 2) := by decide +kernel
theorem dX4_leave_22 : decode cX4_leave 22 = .ok (.invokespecial 59, 3) := by decide +kernel
theorem dX4_leave_25 : decode cX4_leave 25 = .ok (.athrow, 1) := by decide +kernel
theorem dX4_leave_26 : decode cX4_leave 26 = .ok (.aload_n 0, 1) := by decide +kernel
theorem dX4_leave_27 : decode cX4_leave 27 = .ok (.iload_n 1, 1) := by decide +kernel
theorem dX4_leave_28 : decode cX4_leave 28 = .ok (.invokevirtual 72, 3) := by decide +kernel
theorem dX4_leave_31 : decode cX4_leave 31 = .ok (.aload_n 0, 1) := by decide +kernel
theorem dX4_leave_32 : decode cX4_leave 32 = .ok (.iload_n 1, 1) := by decide +kernel
theorem dX4_leave_33 : decode cX4_leave 33 = .ok (.invokevirtual 75, 3) := by decide +kernel
theorem dX4_leave_36 : decode cX4_leave 36 = .ok (.aload_n 0, 1) := by decide +kernel
theorem dX4_leave_37 : decode cX4_leave 37 = .ok (.iload_n 1, 1) := by decide +kernel
theorem dX4_leave_38 : decode cX4_leave 38 = .ok (.invokevirtual 78, 3) := by decide +kernel
theorem dX4_leave_41 : decode cX4_leave 41 = .ok (.istore_n 2, 1) := by decide +kernel
theorem dX4_leave_42 : decode cX4_leave 42 = .ok (.aload_n 0, 1) := by decide +kernel
theorem dX4_leave_43 : decode cX4_leave 43 = .ok (.iload_n 1, 1) := by decide +kernel
theorem dX4_leave_44 : decode cX4_leave 44 = .ok (.invokevirtual 82, 3) := by decide +kernel
theorem dX4_leave_47 : decode cX4_leave 47 = .ok (.istore_n 3, 1) := by decide +kernel
theorem dX4_leave_48 : decode cX4_leave 48 = .ok (.aload_n 0, 1) := by decide +kernel
theorem dX4_leave_49 : decode cX4_leave 49 = .ok (.getfield 32, 3) := by decide +kernel
theorem dX4_leave_52 : decode cX4_leave 52 = .ok (.iload_n 1, 1) := by decide +kernel
theorem dX4_leave_53 : decode cX4_leave 53 = .ok (.invokevirtual 85, 3) := by decide +kernel
theorem dX4_leave_56 : decode cX4_leave 56 = .ok (.aload_n 0, 1) := by decide +kernel
theorem dX4_leave_57 : decode cX4_leave 57 = .ok (.getfield 14, 3) := by decide +kernel
theorem dX4_leave_60 : decode cX4_leave 60 = .ok (.iload_n 1, 1) := by decide +kernel
theorem dX4_leave_61 : decode cX4_leave 61 = .ok (.iconst 0, 1) := by decide +kernel
theorem dX4_leave_62 : decode cX4_leave 62 = .ok (.iconst 1, 1) := by decide +kernel
theorem dX4_leave_63 : decode cX4_leave 63 = .ok (.invokevirtual 88, 3) := by decide +kernel
theorem dX4_leave_66 : decode cX4_leave 66 = .ok (.aload_n 0, 1) := by decide +kernel
theorem dX4_leave_67 : decode cX4_leave 67 = .ok (.getfield 14, 3) := by decide +kernel
theorem dX4_leave_70 : decode cX4_leave 70 = .ok (.iload_n 1, 1) := by decide +kernel
theorem dX4_leave_71 : decode cX4_leave 71 = .ok (.iconst 1, 1) := by decide +kernel
theorem dX4_leave_72 : decode cX4_leave 72 = .ok (.iload_n 2, 1) := by decide +kernel
theorem dX4_leave_73 : decode cX4_leave 73 = .ok (.iload_n 3, 1) := by decide +kernel
theorem dX4_leave_74 : decode cX4_leave 74 = .ok (.isub, 1) := by decide +kernel
theorem dX4_leave_75 : decode cX4_leave 75 = .ok (.invokevirtual 88, 3) := by decide +kernel
theorem dX4_leave_78 : decode cX4_leave 78 = .ok (.iload_n 2, 1) := by decide +kernel
theorem dX4_leave_79 : decode cX4_leave 79 = .ok (.iload_n 3, 1) := by decide +kernel
theorem dX4_leave_80 : decode cX4_leave 80 = .ok (.iadd, 1) := by decide +kernel
theorem dX4_leave_81 : decode cX4_leave 81 = .ok (.ireturn, 1) := by decide +kernel
set_option maxRecDepth 20000 in
theorem ggX4_trade_X4_needShop : GoodIn wsX4_trade wsX4_needShop := goodIn_ca (goodIn_r _ [10, 11, 12, 13, 14, 15, 9, 16, 17, 18, 19, 20, 21, 22, 23, 24, 25, 26, 27, 28, 29, 30, 31, 32, 33, 34, 106, 107, 108, 109, 110, 111, 112, 113, 114, 115, 116, 117] (by decide +kernel) (by decide +kernel)) (goodIn_sub (fun _ h => List.mem_cons_of_mem _ (List.mem_append_left _ (List.mem_append_right _ h))) (by decide +kernel))
set_option maxRecDepth 20000 in
theorem gX4_trade_X4_needShop : GoodIn wsX4_trade (wsV RX4 62 RX4 yX4_needShop wsX4_needShop) := goodIn_app (goodIn_of _ (by decide +kernel)) ggX4_trade_X4_needShop
set_option maxRecDepth 20000 in
theorem ggX4_trade_X4_needRange : GoodIn wsX4_trade wsX4_needRange := goodIn_ca (goodIn_r _ [37, 38, 39] (by decide +kernel) (by decide +kernel)) (goodIn_sub (fun _ h => List.mem_cons_of_mem _ (List.mem_append_right _ h)) (by decide +kernel))
set_option maxRecDepth 20000 in
theorem gX4_trade_X4_needRange : GoodIn wsX4_trade (va_wsS RX4 92 yX4_needRange wsX4_needRange) := goodIn_app (goodIn_of _ (by decide +kernel)) ggX4_trade_X4_needRange
set_option maxRecDepth 20000 in
theorem ggX4_trade_X4_needUnlike : GoodIn wsX4_trade wsX4_needUnlike := goodIn_ca (goodIn_r _ [42, 38, 39] (by decide +kernel) (by decide +kernel)) (goodIn_sub (fun _ h => List.mem_cons_of_mem _ (List.mem_append_right _ h)) (by decide +kernel))
set_option maxRecDepth 20000 in
theorem gX4_trade_X4_needUnlike : GoodIn wsX4_trade (va_wsS RX4 95 yX4_needUnlike wsX4_needUnlike) := goodIn_app (goodIn_of _ (by decide +kernel)) ggX4_trade_X4_needUnlike
set_option maxRecDepth 20000 in
theorem ggX4_trade_X3_isFull : GoodIn wsX4_trade wsX3_isFull := goodIn_r _ [47, 48, 118, 119] (by decide +kernel) (by decide +kernel)
set_option maxRecDepth 20000 in
theorem gX4_trade_X3_isFull : GoodIn wsX4_trade (wsV RX4 98 RX3 yX3_isFull wsX3_isFull) := goodIn_app (goodIn_of _ (by decide +kernel)) ggX4_trade_X3_isFull
set_option maxRecDepth 20000 in
theorem ggX4_trade_X4_needBearable : GoodIn wsX4_trade wsX4_needBearable := goodIn_ca (goodIn_r _ [52, 1, 2, 4, 53, 54, 55, 56, 57, 58, 59, 60, 61, 26, 62, 33, 63, 24, 25, 27, 28, 29, 30, 31, 32, 34, 64, 65, 66, 67, 68, 69, 70, 9, 71, 3, 5, 72, 73, 74, 75, 46, 76, 48, 77, 78, 79, 80, 81, 82, 83, 84, 85, 86, 87, 88, 106, 107, 108, 109, 110, 111, 112, 113, 114, 120, 121, 115, 116, 117, 118, 119] (by decide +kernel) (by decide +kernel)) (goodIn_sub (fun _ h => List.mem_cons_of_mem _ (List.mem_append_left _ (List.mem_append_left _ (List.mem_append_right _ h)))) (by decide +kernel))
set_option maxRecDepth 20000 in
theorem gX4_trade_X4_needBearable : GoodIn wsX4_trade (wsV RX4 104 RX4 yX4_needBearable wsX4_needBearable) := goodIn_app (goodIn_of _ (by decide +kernel)) ggX4_trade_X4_needBearable
set_option maxRecDepth 20000 in
theorem ggX4_trade_X0_more : GoodIn wsX4_trade wsX0_more := goodIn_r _ [92, 58, 93, 94, 95, 26, 96, 63, 24, 25, 27, 28, 29, 30, 31, 32, 33, 34, 97, 98, 99, 100, 120, 121, 115, 116, 117] (by decide +kernel) (by decide +kernel)
set_option maxRecDepth 20000 in
theorem gX4_trade_X0_more : GoodIn wsX4_trade (wsV RX4 107 RX0 yX0_more wsX0_more) := goodIn_app (goodIn_of _ (by decide +kernel)) ggX4_trade_X0_more
set_option maxRecDepth 20000 in
theorem ggX4_trade_X3_put : GoodIn wsX4_trade wsX3_put := goodIn_r _ [104, 48, 85, 105, 98, 99, 26, 100, 28, 29, 30, 31, 32, 33, 34, 118, 119, 115, 116, 117] (by decide +kernel) (by decide +kernel)
set_option maxRecDepth 20000 in
theorem gX4_trade_X3_put : GoodIn wsX4_trade (wsV RX4 110 RX3 yX3_put wsX3_put) := goodIn_app (goodIn_of _ (by decide +kernel)) ggX4_trade_X3_put
theorem dX4_trade_0 : decode cX4_trade 0 = .ok (.aload_n 0, 1) := by decide +kernel
theorem dX4_trade_1 : decode cX4_trade 1 = .ok (.iload_n 1, 1) := by decide +kernel
theorem dX4_trade_2 : decode cX4_trade 2 = .ok (.invokevirtual 62, 3) := by decide +kernel
theorem dX4_trade_5 : decode cX4_trade 5 = .ok (.aload_n 0, 1) := by decide +kernel
theorem dX4_trade_6 : decode cX4_trade 6 = .ok (.iload_n 2, 1) := by decide +kernel
theorem dX4_trade_7 : decode cX4_trade 7 = .ok (.invokevirtual 62, 3) := by decide +kernel
theorem dX4_trade_10 : decode cX4_trade 10 = .ok (.iload_n 3, 1) := by decide +kernel
theorem dX4_trade_11 : decode cX4_trade 11 = .ok (.iconst 1, 1) := by decide +kernel
theorem dX4_trade_12 : decode cX4_trade 12 = .ok (.sipush 1000, 3) := by decide +kernel
theorem dX4_trade_15 : decode cX4_trade 15 = .ok (.invokestatic 92, 3) := by decide +kernel
theorem dX4_trade_18 : decode cX4_trade 18 = .ok (.iload_n 1, 1) := by decide +kernel
theorem dX4_trade_19 : decode cX4_trade 19 = .ok (.iload_n 2, 1) := by decide +kernel
theorem dX4_trade_20 : decode cX4_trade 20 = .ok (.invokestatic 95, 3) := by decide +kernel
theorem dX4_trade_23 : decode cX4_trade 23 = .ok (.aload_n 0, 1) := by decide +kernel
theorem dX4_trade_24 : decode cX4_trade 24 = .ok (.getfield 21, 3) := by decide +kernel
theorem dX4_trade_27 : decode cX4_trade 27 = .ok (.invokevirtual 98, 3) := by decide +kernel
theorem dX4_trade_30 : decode cX4_trade 30 = .ok (.ifCond .eq 13, 3) := by decide +kernel
theorem dX4_trade_33 : decode cX4_trade 33 = .ok (.new 55, 3) := by decide +kernel
theorem dX4_trade_36 : decode cX4_trade 36 = .ok (.dup, 1) := by decide +kernel
theorem dX4_trade_37 : decode cX4_trade 37 = .ok (.ldc 102, 2) := by decide +kernel
theorem dX4_trade_39 : decode cX4_trade 39 = .ok (.invokespecial 59, 3) := by decide +kernel
theorem dX4_trade_42 : decode cX4_trade 42 = .ok (.athrow, 1) := by decide +kernel
theorem dX4_trade_43 : decode cX4_trade 43 = .ok (.aload_n 0, 1) := by decide +kernel
theorem dX4_trade_44 : decode cX4_trade 44 = .ok (.iload_n 1, 1) := by decide +kernel
theorem dX4_trade_45 : decode cX4_trade 45 = .ok (.iload_n 3, 1) := by decide +kernel
theorem dX4_trade_46 : decode cX4_trade 46 = .ok (.invokevirtual 104, 3) := by decide +kernel
theorem dX4_trade_49 : decode cX4_trade 49 = .ok (.aload_n 0, 1) := by decide +kernel
theorem dX4_trade_50 : decode cX4_trade 50 = .ok (.getfield 28, 3) := by decide +kernel
theorem dX4_trade_53 : decode cX4_trade 53 = .ok (.iload_n 1, 1) := by decide +kernel
theorem dX4_trade_54 : decode cX4_trade 54 = .ok (.iload_n 2, 1) := by decide +kernel
theorem dX4_trade_55 : decode cX4_trade 55 = .ok (.iload_n 3, 1) := by decide +kernel
theorem dX4_trade_56 : decode cX4_trade 56 = .ok (.invokevirtual 107, 3) := by decide +kernel
theorem dX4_trade_59 : decode cX4_trade 59 = .ok (.aload_n 0, 1) := by decide +kernel
theorem dX4_trade_60 : decode cX4_trade 60 = .ok (.getfield 21, 3) := by decide +kernel
theorem dX4_trade_63 : decode cX4_trade 63 = .ok (.iload_n 1, 1) := by decide +kernel
theorem dX4_trade_64 : decode cX4_trade 64 = .ok (.iload_n 2, 1) := by decide +kernel
theorem dX4_trade_65 : decode cX4_trade 65 = .ok (.iload_n 3, 1) := by decide +kernel
theorem dX4_trade_66 : decode cX4_trade 66 = .ok (.aload_n 0, 1) := by decide +kernel
theorem dX4_trade_67 : decode cX4_trade 67 = .ok (.getfield 49, 3) := by decide +kernel
theorem dX4_trade_70 : decode cX4_trade 70 = .ok (.invokevirtual 110, 3) := by decide +kernel
theorem dX4_trade_73 : decode cX4_trade 73 = .ok (.ireturn, 1) := by decide +kernel
set_option maxRecDepth 20000 in
theorem ggX4_dispute_X4_needTrade : GoodIn wsX4_dispute wsX4_needTrade := goodIn_ca (goodIn_r _ [13, 14, 15, 3, 16, 17, 18, 19, 20, 21, 76, 77, 78, 79, 80, 81, 82, 83, 84, 85, 86] (by decide +kernel) (by decide +kernel)) (goodIn_sub (fun _ h => List.mem_cons_of_mem _ (List.mem_append_right _ h)) (by decide +kernel))
set_option maxRecDepth 20000 in
theorem gX4_dispute_X4_needTrade : GoodIn wsX4_dispute (wsV RX4 114 RX4 yX4_needTrade wsX4_needTrade) := goodIn_app (goodIn_of _ (by decide +kernel)) ggX4_dispute_X4_needTrade
set_option maxRecDepth 20000 in
theorem ggX4_dispute_X3_of : GoodIn wsX4_dispute wsX3_of := goodIn_r _ [25, 26, 27, 28, 29, 30, 31, 32, 33, 34, 35, 36, 37, 38, 85, 86, 87, 88, 89] (by decide +kernel) (by decide +kernel)
set_option maxRecDepth 20000 in
theorem gX4_dispute_X3_of : GoodIn wsX4_dispute (wsV RX4 117 RX3 yX3_of wsX3_of) := goodIn_app (goodIn_of _ (by decide +kernel)) ggX4_dispute_X3_of
set_option maxRecDepth 20000 in
theorem ggX4_dispute_X4_isShop : GoodIn wsX4_dispute wsX4_isShop := goodIn_r _ [42, 43, 44, 45, 46, 12, 47, 48, 49, 28, 29, 30, 31, 32, 33, 34, 35, 36, 37, 38, 76, 77, 78, 79, 80, 81, 82, 83, 84, 87, 88, 89] (by decide +kernel) (by decide +kernel)
set_option maxRecDepth 20000 in
theorem gX4_dispute_X4_isShop : GoodIn wsX4_dispute (wsV RX4 121 RX4 yX4_isShop wsX4_isShop) := goodIn_app (goodIn_of _ (by decide +kernel)) ggX4_dispute_X4_isShop
set_option maxRecDepth 20000 in
theorem ggX4_dispute_X0_open : GoodIn wsX4_dispute wsX0_open := goodIn_r _ [54, 55, 56, 57, 28, 29, 30, 31, 32, 33, 34, 35, 36, 37, 38, 90, 91, 87, 88, 89] (by decide +kernel) (by decide +kernel)
set_option maxRecDepth 20000 in
theorem gX4_dispute_X0_open : GoodIn wsX4_dispute (wsV RX4 126 RX0 yX0_open wsX0_open) := goodIn_app (goodIn_of _ (by decide +kernel)) ggX4_dispute_X0_open
set_option maxRecDepth 20000 in
theorem ggX4_dispute_X0_freeze : GoodIn wsX4_dispute wsX0_freeze := goodIn_r _ [61, 56, 62, 63, 64, 30, 65, 66, 28, 29, 31, 32, 33, 34, 35, 36, 37, 38, 67, 68, 69, 70, 90, 91, 87, 88, 89] (by decide +kernel) (by decide +kernel)
set_option maxRecDepth 20000 in
theorem gX4_dispute_X0_freeze : GoodIn wsX4_dispute (wsV RX4 134 RX0 yX0_freeze wsX0_freeze) := goodIn_app (goodIn_of _ (by decide +kernel)) ggX4_dispute_X0_freeze
set_option maxRecDepth 20000 in
theorem ggX4_dispute_X3_turn : GoodIn wsX4_dispute wsX3_turn := goodIn_r _ [74, 26, 75, 68, 69, 30, 70, 32, 33, 34, 35, 36, 37, 38, 85, 86, 87, 88, 89] (by decide +kernel) (by decide +kernel)
set_option maxRecDepth 20000 in
theorem gX4_dispute_X3_turn : GoodIn wsX4_dispute (wsV RX4 137 RX3 yX3_turn wsX3_turn) := goodIn_app (goodIn_of _ (by decide +kernel)) ggX4_dispute_X3_turn
theorem dX4_dispute_0 : decode cX4_dispute 0 = .ok (.aload_n 0, 1) := by decide +kernel
theorem dX4_dispute_1 : decode cX4_dispute 1 = .ok (.iload_n 1, 1) := by decide +kernel
theorem dX4_dispute_2 : decode cX4_dispute 2 = .ok (.invokevirtual 114, 3) := by decide +kernel
theorem dX4_dispute_5 : decode cX4_dispute 5 = .ok (.aload_n 0, 1) := by decide +kernel
theorem dX4_dispute_6 : decode cX4_dispute 6 = .ok (.getfield 21, 3) := by decide +kernel
theorem dX4_dispute_9 : decode cX4_dispute 9 = .ok (.iload_n 1, 1) := by decide +kernel
theorem dX4_dispute_10 : decode cX4_dispute 10 = .ok (.iconst 1, 1) := by decide +kernel
theorem dX4_dispute_11 : decode cX4_dispute 11 = .ok (.invokevirtual 117, 3) := by decide +kernel
theorem dX4_dispute_14 : decode cX4_dispute 14 = .ok (.istore_n 2, 1) := by decide +kernel
theorem dX4_dispute_15 : decode cX4_dispute 15 = .ok (.aload_n 0, 1) := by decide +kernel
theorem dX4_dispute_16 : decode cX4_dispute 16 = .ok (.getfield 21, 3) := by decide +kernel
theorem dX4_dispute_19 : decode cX4_dispute 19 = .ok (.iload_n 1, 1) := by decide +kernel
theorem dX4_dispute_20 : decode cX4_dispute 20 = .ok (.iconst 2, 1) := by decide +kernel
theorem dX4_dispute_21 : decode cX4_dispute 21 = .ok (.invokevirtual 117, 3) := by decide +kernel
theorem dX4_dispute_24 : decode cX4_dispute 24 = .ok (.istore_n 3, 1) := by decide +kernel
theorem dX4_dispute_25 : decode cX4_dispute 25 = .ok (.aload_n 0, 1) := by decide +kernel
theorem dX4_dispute_26 : decode cX4_dispute 26 = .ok (.getfield 21, 3) := by decide +kernel
theorem dX4_dispute_29 : decode cX4_dispute 29 = .ok (.iload_n 1, 1) := by decide +kernel
theorem dX4_dispute_30 : decode cX4_dispute 30 = .ok (.iconst 0, 1) := by decide +kernel
theorem dX4_dispute_31 : decode cX4_dispute 31 = .ok (.invokevirtual 117, 3) := by decide +kernel
theorem dX4_dispute_34 : decode cX4_dispute 34 = .ok (.ifCond .ne 19, 3) := by decide +kernel
theorem dX4_dispute_37 : decode cX4_dispute 37 = .ok (.aload_n 0, 1) := by decide +kernel
theorem dX4_dispute_38 : decode cX4_dispute 38 = .ok (.iload_n 2, 1) := by decide +kernel
theorem dX4_dispute_39 : decode cX4_dispute 39 = .ok (.invokevirtual 121, 3) := by decide +kernel
theorem dX4_dispute_42 : decode cX4_dispute 42 = .ok (.ifCond .eq 11, 3) := by decide +kernel
theorem dX4_dispute_45 : decode cX4_dispute 45 = .ok (.aload_n 0, 1) := by decide +kernel
theorem dX4_dispute_46 : decode cX4_dispute 46 = .ok (.iload_n 3, 1) := by decide +kernel
theorem dX4_dispute_47 : decode cX4_dispute 47 = .ok (.invokevirtual 121, 3) := by decide +kernel
theorem dX4_dispute_50 : decode cX4_dispute 50 = .ok (.ifCond .ne 13, 3) := by decide +kernel
theorem dX4_dispute_53 : decode cX4_dispute 53 = .ok (.new 55, 3) := by decide +kernel
theorem dX4_dispute_56 : decode cX4_dispute 56 = .ok (.dup, 1) := by decide +kernel
theorem dX4_dispute_57 : decode cX4_dispute 57 = .ok (.ldc 124, 2) := by decide +kernel
theorem dX4_dispute_59 : decode cX4_dispute 59 = .ok (.invokespecial 59, 3) := by decide +kernel
theorem dX4_dispute_62 : decode cX4_dispute 62 = .ok (.athrow, 1) := by decide +kernel
theorem dX4_dispute_63 : decode cX4_dispute 63 = .ok (.aload_n 0, 1) := by decide +kernel
theorem dX4_dispute_64 : decode cX4_dispute 64 = .ok (.getfield 21, 3) := by decide +kernel
theorem dX4_dispute_67 : decode cX4_dispute 67 = .ok (.iload_n 1, 1) := by decide +kernel
theorem dX4_dispute_68 : decode cX4_dispute 68 = .ok (.iconst 3, 1) := by decide +kernel
theorem dX4_dispute_69 : decode cX4_dispute 69 = .ok (.invokevirtual 117, 3) := by decide +kernel
theorem dX4_dispute_72 : decode cX4_dispute 72 = .ok (.aload_n 0, 1) := by decide +kernel
theorem dX4_dispute_73 : decode cX4_dispute 73 = .ok (.getfield 28, 3) := by decide +kernel
theorem dX4_dispute_76 : decode cX4_dispute 76 = .ok (.iload_n 2, 1) := by decide +kernel
theorem dX4_dispute_77 : decode cX4_dispute 77 = .ok (.iload_n 3, 1) := by decide +kernel
theorem dX4_dispute_78 : decode cX4_dispute 78 = .ok (.invokevirtual 126, 3) := by decide +kernel
theorem dX4_dispute_81 : decode cX4_dispute 81 = .ok (.invokestatic 129, 3) := by decide +kernel
theorem dX4_dispute_84 : decode cX4_dispute 84 = .ok (.istore 4, 2) := by decide +kernel
theorem dX4_dispute_86 : decode cX4_dispute 86 = .ok (.aload_n 0, 1) := by decide +kernel
theorem dX4_dispute_87 : decode cX4_dispute 87 = .ok (.getfield 28, 3) := by decide +kernel
theorem dX4_dispute_90 : decode cX4_dispute 90 = .ok (.iload_n 2, 1) := by decide +kernel
theorem dX4_dispute_91 : decode cX4_dispute 91 = .ok (.iload_n 3, 1) := by decide +kernel
theorem dX4_dispute_92 : decode cX4_dispute 92 = .ok (.iload 4, 2) := by decide +kernel
theorem dX4_dispute_94 : decode cX4_dispute 94 = .ok (.invokevirtual 134, 3) := by decide +kernel
theorem dX4_dispute_97 : decode cX4_dispute 97 = .ok (.aload_n 0, 1) := by decide +kernel
theorem dX4_dispute_98 : decode cX4_dispute 98 = .ok (.getfield 21, 3) := by decide +kernel
theorem dX4_dispute_101 : decode cX4_dispute 101 = .ok (.iload_n 1, 1) := by decide +kernel
theorem dX4_dispute_102 : decode cX4_dispute 102 = .ok (.iconst 1, 1) := by decide +kernel
theorem dX4_dispute_103 : decode cX4_dispute 103 = .ok (.iload 4, 2) := by decide +kernel
theorem dX4_dispute_105 : decode cX4_dispute 105 = .ok (.invokevirtual 137, 3) := by decide +kernel
theorem dX4_dispute_108 : decode cX4_dispute 108 = .ok (.iload 4, 2) := by decide +kernel
theorem dX4_dispute_110 : decode cX4_dispute 110 = .ok (.ireturn, 1) := by decide +kernel
set_option maxRecDepth 20000 in
theorem ggX4_settle_X4_needTrade : GoodIn wsX4_settle wsX4_needTrade := goodIn_ca (goodIn_r _ [9, 10, 11, 3, 12, 13, 14, 15, 16, 17, 60, 61, 62, 63, 64, 65, 66, 67, 68, 69, 70] (by decide +kernel) (by decide +kernel)) (goodIn_sub (fun _ h => List.mem_cons_of_mem _ (List.mem_append_right _ h)) (by decide +kernel))
set_option maxRecDepth 20000 in
theorem gX4_settle_X4_needTrade : GoodIn wsX4_settle (wsV RX4 114 RX4 yX4_needTrade wsX4_needTrade) := goodIn_app (goodIn_of _ (by decide +kernel)) ggX4_settle_X4_needTrade
set_option maxRecDepth 20000 in
theorem ggX4_settle_X3_of : GoodIn wsX4_settle wsX3_of := goodIn_r _ [21, 22, 23, 24, 25, 26, 27, 28, 29, 30, 31, 32, 33, 34, 69, 70, 71, 72, 73] (by decide +kernel) (by decide +kernel)
set_option maxRecDepth 20000 in
theorem gX4_settle_X3_of : GoodIn wsX4_settle (wsV RX4 117 RX3 yX3_of wsX3_of) := goodIn_app (goodIn_of _ (by decide +kernel)) ggX4_settle_X3_of
set_option maxRecDepth 20000 in
theorem ggX4_settle_X0_freeze : GoodIn wsX4_settle wsX0_freeze := goodIn_r _ [39, 40, 41, 42, 43, 26, 44, 45, 24, 25, 27, 28, 29, 30, 31, 32, 33, 34, 46, 47, 48, 49, 74, 75, 71, 72, 73] (by decide +kernel) (by decide +kernel)
set_option maxRecDepth 20000 in
theorem gX4_settle_X0_freeze : GoodIn wsX4_settle (wsV RX4 134 RX0 yX0_freeze wsX0_freeze) := goodIn_app (goodIn_of _ (by decide +kernel)) ggX4_settle_X0_freeze
set_option maxRecDepth 20000 in
theorem ggX4_settle_X3_turn : GoodIn wsX4_settle wsX3_turn := goodIn_r _ [53, 22, 54, 47, 48, 26, 49, 28, 29, 30, 31, 32, 33, 34, 69, 70, 71, 72, 73] (by decide +kernel) (by decide +kernel)
set_option maxRecDepth 20000 in
theorem gX4_settle_X3_turn : GoodIn wsX4_settle (wsV RX4 137 RX3 yX3_turn wsX3_turn) := goodIn_app (goodIn_of _ (by decide +kernel)) ggX4_settle_X3_turn
set_option maxRecDepth 20000 in
theorem ggX4_settle_X0_more : GoodIn wsX4_settle wsX0_more := goodIn_r _ [58, 59, 41, 42, 43, 26, 44, 45, 24, 25, 27, 28, 29, 30, 31, 32, 33, 34, 46, 47, 48, 49, 74, 75, 71, 72, 73] (by decide +kernel) (by decide +kernel)
set_option maxRecDepth 20000 in
theorem gX4_settle_X0_more : GoodIn wsX4_settle (wsV RX4 107 RX0 yX0_more wsX0_more) := goodIn_app (goodIn_of _ (by decide +kernel)) ggX4_settle_X0_more
theorem dX4_settle_0 : decode cX4_settle 0 = .ok (.aload_n 0, 1) := by decide +kernel
theorem dX4_settle_1 : decode cX4_settle 1 = .ok (.iload_n 1, 1) := by decide +kernel
theorem dX4_settle_2 : decode cX4_settle 2 = .ok (.invokevirtual 114, 3) := by decide +kernel
theorem dX4_settle_5 : decode cX4_settle 5 = .ok (.aload_n 0, 1) := by decide +kernel
theorem dX4_settle_6 : decode cX4_settle 6 = .ok (.getfield 21, 3) := by decide +kernel
theorem dX4_settle_9 : decode cX4_settle 9 = .ok (.iload_n 1, 1) := by decide +kernel
theorem dX4_settle_10 : decode cX4_settle 10 = .ok (.iconst 0, 1) := by decide +kernel
theorem dX4_settle_11 : decode cX4_settle 11 = .ok (.invokevirtual 117, 3) := by decide +kernel
theorem dX4_settle_14 : decode cX4_settle 14 = .ok (.iconst 1, 1) := by decide +kernel
theorem dX4_settle_15 : decode cX4_settle 15 = .ok (.if_icmp .eq 13, 3) := by decide +kernel
theorem dX4_settle_18 : decode cX4_settle 18 = .ok (.new 55, 3) := by decide +kernel
theorem dX4_settle_21 : decode cX4_settle 21 = .ok (.dup, 1) := by decide +kernel
theorem dX4_settle_22 : decode cX4_settle 22 = .ok (.ldc 140, 2) := by decide +kernel
theorem dX4_settle_24 : decode cX4_settle 24 = .ok (.invokespecial 59, 3) := by decide +kernel
theorem dX4_settle_27 : decode cX4_settle 27 = .ok (.athrow, 1) := by decide +kernel
theorem dX4_settle_28 : decode cX4_settle 28 = .ok (.aload_n 0, 1) := by decide +kernel
theorem dX4_settle_29 : decode cX4_settle 29 = .ok (.getfield 21, 3) := by decide +kernel
theorem dX4_settle_32 : decode cX4_settle 32 = .ok (.iload_n 1, 1) := by decide +kernel
theorem dX4_settle_33 : decode cX4_settle 33 = .ok (.iconst 1, 1) := by decide +kernel
theorem dX4_settle_34 : decode cX4_settle 34 = .ok (.invokevirtual 117, 3) := by decide +kernel
theorem dX4_settle_37 : decode cX4_settle 37 = .ok (.istore_n 3, 1) := by decide +kernel
theorem dX4_settle_38 : decode cX4_settle 38 = .ok (.aload_n 0, 1) := by decide +kernel
theorem dX4_settle_39 : decode cX4_settle 39 = .ok (.getfield 21, 3) := by decide +kernel
theorem dX4_settle_42 : decode cX4_settle 42 = .ok (.iload_n 1, 1) := by decide +kernel
theorem dX4_settle_43 : decode cX4_settle 43 = .ok (.iconst 2, 1) := by decide +kernel
theorem dX4_settle_44 : decode cX4_settle 44 = .ok (.invokevirtual 117, 3) := by decide +kernel
theorem dX4_settle_47 : decode cX4_settle 47 = .ok (.istore 4, 2) := by decide +kernel
theorem dX4_settle_49 : decode cX4_settle 49 = .ok (.aload_n 0, 1) := by decide +kernel
theorem dX4_settle_50 : decode cX4_settle 50 = .ok (.getfield 21, 3) := by decide +kernel
theorem dX4_settle_53 : decode cX4_settle 53 = .ok (.iload_n 1, 1) := by decide +kernel
theorem dX4_settle_54 : decode cX4_settle 54 = .ok (.iconst 5, 1) := by decide +kernel
theorem dX4_settle_55 : decode cX4_settle 55 = .ok (.invokevirtual 117, 3) := by decide +kernel
theorem dX4_settle_58 : decode cX4_settle 58 = .ok (.istore 5, 2) := by decide +kernel
theorem dX4_settle_60 : decode cX4_settle 60 = .ok (.aload_n 0, 1) := by decide +kernel
theorem dX4_settle_61 : decode cX4_settle 61 = .ok (.getfield 28, 3) := by decide +kernel
theorem dX4_settle_64 : decode cX4_settle 64 = .ok (.iload_n 3, 1) := by decide +kernel
theorem dX4_settle_65 : decode cX4_settle 65 = .ok (.iload 4, 2) := by decide +kernel
theorem dX4_settle_67 : decode cX4_settle 67 = .ok (.iload 5, 2) := by decide +kernel
theorem dX4_settle_69 : decode cX4_settle 69 = .ok (.ineg, 1) := by decide +kernel
theorem dX4_settle_70 : decode cX4_settle 70 = .ok (.invokevirtual 134, 3) := by decide +kernel
theorem dX4_settle_73 : decode cX4_settle 73 = .ok (.aload_n 0, 1) := by decide +kernel
theorem dX4_settle_74 : decode cX4_settle 74 = .ok (.getfield 21, 3) := by decide +kernel
theorem dX4_settle_77 : decode cX4_settle 77 = .ok (.iload_n 1, 1) := by decide +kernel
theorem dX4_settle_78 : decode cX4_settle 78 = .ok (.iload_n 2, 1) := by decide +kernel
theorem dX4_settle_79 : decode cX4_settle 79 = .ok (.ifCond .eq 7, 3) := by decide +kernel
theorem dX4_settle_82 : decode cX4_settle 82 = .ok (.iconst 2, 1) := by decide +kernel
theorem dX4_settle_83 : decode cX4_settle 83 = .ok (.goto 4, 3) := by decide +kernel
theorem dX4_settle_86 : decode cX4_settle 86 = .ok (.iconst 0, 1) := by decide +kernel
theorem dX4_settle_87 : decode cX4_settle 87 = .ok (.iconst 0, 1) := by decide +kernel
theorem dX4_settle_88 : decode cX4_settle 88 = .ok (.invokevirtual 137, 3) := by decide +kernel
theorem dX4_settle_91 : decode cX4_settle 91 = .ok (.iload_n 2, 1) := by decide +kernel
theorem dX4_settle_92 : decode cX4_settle 92 = .ok (.ifCond .ne 5, 3) := by decide +kernel
theorem dX4_settle_95 : decode cX4_settle 95 = .ok (.iconst 0, 1) := by decide +kernel
theorem dX4_settle_96 : decode cX4_settle 96 = .ok (.ireturn, 1) := by decide +kernel
theorem dX4_settle_97 : decode cX4_settle 97 = .ok (.aload_n 0, 1) := by decide +kernel
theorem dX4_settle_98 : decode cX4_settle 98 = .ok (.getfield 21, 3) := by decide +kernel
theorem dX4_settle_101 : decode cX4_settle 101 = .ok (.iload_n 1, 1) := by decide +kernel
theorem dX4_settle_102 : decode cX4_settle 102 = .ok (.iconst 3, 1) := by decide +kernel
theorem dX4_settle_103 : decode cX4_settle 103 = .ok (.invokevirtual 117, 3) := by decide +kernel
theorem dX4_settle_106 : decode cX4_settle 106 = .ok (.iload 5, 2) := by decide +kernel
theorem dX4_settle_108 : decode cX4_settle 108 = .ok (.isub, 1) := by decide +kernel
theorem dX4_settle_109 : decode cX4_settle 109 = .ok (.istore 6, 2) := by decide +kernel
theorem dX4_settle_111 : decode cX4_settle 111 = .ok (.aload_n 0, 1) := by decide +kernel
theorem dX4_settle_112 : decode cX4_settle 112 = .ok (.getfield 28, 3) := by decide +kernel
theorem dX4_settle_115 : decode cX4_settle 115 = .ok (.iload_n 3, 1) := by decide +kernel
theorem dX4_settle_116 : decode cX4_settle 116 = .ok (.iload 4, 2) := by decide +kernel
theorem dX4_settle_118 : decode cX4_settle 118 = .ok (.iload 5, 2) := by decide +kernel
theorem dX4_settle_120 : decode cX4_settle 120 = .ok (.ineg, 1) := by decide +kernel
theorem dX4_settle_121 : decode cX4_settle 121 = .ok (.invokevirtual 107, 3) := by decide +kernel
theorem dX4_settle_124 : decode cX4_settle 124 = .ok (.aload_n 0, 1) := by decide +kernel
theorem dX4_settle_125 : decode cX4_settle 125 = .ok (.getfield 28, 3) := by decide +kernel
theorem dX4_settle_128 : decode cX4_settle 128 = .ok (.iload 4, 2) := by decide +kernel
theorem dX4_settle_130 : decode cX4_settle 130 = .ok (.iload_n 3, 1) := by decide +kernel
theorem dX4_settle_131 : decode cX4_settle 131 = .ok (.iload 6, 2) := by decide +kernel
theorem dX4_settle_133 : decode cX4_settle 133 = .ok (.invokevirtual 107, 3) := by decide +kernel
theorem dX4_settle_136 : decode cX4_settle 136 = .ok (.iload 6, 2) := by decide +kernel
theorem dX4_settle_138 : decode cX4_settle 138 = .ok (.ireturn, 1) := by decide +kernel
set_option maxRecDepth 20000 in
theorem ggX4_guarantee_X4_needGuaranteeArguments : GoodIn wsX4_guarantee wsX4_needGuaranteeArguments := goodIn_ca (goodIn_ca (goodIn_r _ [8, 9, 10, 11, 7, 12, 13, 14, 15, 16, 17, 18, 19, 20, 21, 22, 23, 24, 25, 26, 27, 28, 29, 30, 31, 32, 33, 34, 35, 36, 37, 38, 39, 40, 41, 42, 43, 44, 97, 98, 99, 100, 101, 102, 103, 104, 105, 106, 107, 108] (by decide +kernel) (by decide +kernel)) (goodIn_sub (fun _ h => List.mem_cons_of_mem _ (List.mem_append_left _ (List.mem_append_right _ h))) (by decide +kernel))) (goodIn_sub (fun _ h => List.mem_cons_of_mem _ (List.mem_append_right _ h)) (by decide +kernel))
set_option maxRecDepth 20000 in
theorem gX4_guarantee_X4_needGuaranteeArguments : GoodIn wsX4_guarantee (wsV RX4 142 RX4 yX4_needGuaranteeArguments wsX4_needGuaranteeArguments) := goodIn_app (goodIn_of _ (by decide +kernel)) ggX4_guarantee_X4_needGuaranteeArguments
set_option maxRecDepth 20000 in
theorem ggX4_guarantee_X2_get : GoodIn wsX4_guarantee wsX2_get := goodIn_r _ [29, 30, 31, 32, 33, 28, 34, 35, 36, 106, 107, 108] (by decide +kernel) (by decide +kernel)
set_option maxRecDepth 20000 in
theorem gX4_guarantee_X2_get : GoodIn wsX4_guarantee (wsV RX4 145 RX2 yX2_get wsX2_get) := goodIn_app (goodIn_of _ (by decide +kernel)) ggX4_guarantee_X2_get
set_option maxRecDepth 20000 in
theorem ggX4_guarantee_X4_needBearable : GoodIn wsX4_guarantee wsX4_needBearable := goodIn_ca (goodIn_r _ [48, 1, 2, 49, 50, 51, 52, 53, 54, 55, 56, 57, 58, 28, 59, 35, 60, 26, 27, 29, 30, 31, 32, 33, 34, 36, 61, 62, 63, 64, 65, 66, 67, 7, 68, 69, 70, 3, 71, 72, 73, 74, 75, 76, 77, 78, 79, 80, 81, 82, 83, 84, 85, 86, 87, 88, 97, 98, 99, 100, 101, 102, 103, 104, 105, 109, 110, 106, 107, 108, 111, 112] (by decide +kernel) (by decide +kernel)) (goodIn_sub (fun _ h => List.mem_cons_of_mem _ (List.mem_append_left _ (List.mem_append_left _ (List.mem_append_right _ h)))) (by decide +kernel))
set_option maxRecDepth 20000 in
theorem gX4_guarantee_X4_needBearable : GoodIn wsX4_guarantee (wsV RX4 104 RX4 yX4_needBearable wsX4_needBearable) := goodIn_app (goodIn_of _ (by decide +kernel)) ggX4_guarantee_X4_needBearable
set_option maxRecDepth 20000 in
theorem ggX4_guarantee_X2_add : GoodIn wsX4_guarantee wsX2_add := goodIn_r _ [92, 60, 26, 27, 28, 29, 30, 31, 32, 33, 34, 35, 36, 93, 94, 95, 96, 106, 107, 108] (by decide +kernel) (by decide +kernel)
set_option maxRecDepth 20000 in
theorem gX4_guarantee_X2_add : GoodIn wsX4_guarantee (wsV RX4 150 RX2 yX2_add wsX2_add) := goodIn_app (goodIn_of _ (by decide +kernel)) ggX4_guarantee_X2_add
theorem dX4_guarantee_0 : decode cX4_guarantee 0 = .ok (.aload_n 0, 1) := by decide +kernel
theorem dX4_guarantee_1 : decode cX4_guarantee 1 = .ok (.iload_n 1, 1) := by decide +kernel
theorem dX4_guarantee_2 : decode cX4_guarantee 2 = .ok (.iload_n 2, 1) := by decide +kernel
theorem dX4_guarantee_3 : decode cX4_guarantee 3 = .ok (.iload_n 3, 1) := by decide +kernel
theorem dX4_guarantee_4 : decode cX4_guarantee 4 = .ok (.invokevirtual 142, 3) := by decide +kernel
theorem dX4_guarantee_7 : decode cX4_guarantee 7 = .ok (.aload_n 0, 1) := by decide +kernel
theorem dX4_guarantee_8 : decode cX4_guarantee 8 = .ok (.getfield 32, 3) := by decide +kernel
theorem dX4_guarantee_11 : decode cX4_guarantee 11 = .ok (.iload_n 1, 1) := by decide +kernel
theorem dX4_guarantee_12 : decode cX4_guarantee 12 = .ok (.iload_n 2, 1) := by decide +kernel
theorem dX4_guarantee_13 : decode cX4_guarantee 13 = .ok (.invokevirtual 145, 3) := by decide +kernel
theorem dX4_guarantee_16 : decode cX4_guarantee 16 = .ok (.iload_n 3, 1) := by decide +kernel
theorem dX4_guarantee_17 : decode cX4_guarantee 17 = .ok (.iadd, 1) := by decide +kernel
theorem dX4_guarantee_18 : decode cX4_guarantee 18 = .ok (.sipush 1000, 3) := by decide +kernel
theorem dX4_guarantee_21 : decode cX4_guarantee 21 = .ok (.if_icmp .le 13, 3) := by decide +kernel
theorem dX4_guarantee_24 : decode cX4_guarantee 24 = .ok (.new 55, 3) := by decide +kernel
theorem dX4_guarantee_27 : decode cX4_guarantee 27 = .ok (.dup, 1) := by decide +kernel
theorem dX4_guarantee_28 : decode cX4_guarantee 28 = .ok (.ldc 148, 2) := by decide +kernel
theorem dX4_guarantee_30 : decode cX4_guarantee 30 = .ok (.invokespecial 59, 3) := by decide +kernel
theorem dX4_guarantee_33 : decode cX4_guarantee 33 = .ok (.athrow, 1) := by decide +kernel
theorem dX4_guarantee_34 : decode cX4_guarantee 34 = .ok (.aload_n 0, 1) := by decide +kernel
theorem dX4_guarantee_35 : decode cX4_guarantee 35 = .ok (.iload_n 1, 1) := by decide +kernel
theorem dX4_guarantee_36 : decode cX4_guarantee 36 = .ok (.iload_n 3, 1) := by decide +kernel
theorem dX4_guarantee_37 : decode cX4_guarantee 37 = .ok (.invokevirtual 104, 3) := by decide +kernel
theorem dX4_guarantee_40 : decode cX4_guarantee 40 = .ok (.aload_n 0, 1) := by decide +kernel
theorem dX4_guarantee_41 : decode cX4_guarantee 41 = .ok (.getfield 32, 3) := by decide +kernel
theorem dX4_guarantee_44 : decode cX4_guarantee 44 = .ok (.iload_n 1, 1) := by decide +kernel
theorem dX4_guarantee_45 : decode cX4_guarantee 45 = .ok (.iload_n 2, 1) := by decide +kernel
theorem dX4_guarantee_46 : decode cX4_guarantee 46 = .ok (.iload_n 3, 1) := by decide +kernel
theorem dX4_guarantee_47 : decode cX4_guarantee 47 = .ok (.invokevirtual 150, 3) := by decide +kernel
theorem dX4_guarantee_50 : decode cX4_guarantee 50 = .ok (.aload_n 0, 1) := by decide +kernel
theorem dX4_guarantee_51 : decode cX4_guarantee 51 = .ok (.getfield 32, 3) := by decide +kernel
theorem dX4_guarantee_54 : decode cX4_guarantee 54 = .ok (.iload_n 1, 1) := by decide +kernel
theorem dX4_guarantee_55 : decode cX4_guarantee 55 = .ok (.iload_n 2, 1) := by decide +kernel
theorem dX4_guarantee_56 : decode cX4_guarantee 56 = .ok (.invokevirtual 145, 3) := by decide +kernel
theorem dX4_guarantee_59 : decode cX4_guarantee 59 = .ok (.ireturn, 1) := by decide +kernel
set_option maxRecDepth 20000 in
theorem ggX4_revoke_X4_needGuaranteeArguments : GoodIn wsX4_revoke wsX4_needGuaranteeArguments := goodIn_ca (goodIn_ca (goodIn_r _ [8, 9, 10, 11, 7, 12, 13, 14, 15, 16, 17, 18, 19, 20, 21, 22, 23, 24, 25, 26, 27, 28, 29, 30, 31, 32, 33, 34, 35, 36, 37, 38, 39, 40, 41, 42, 43, 44, 97, 98, 99, 100, 101, 102, 103, 104, 105, 106, 107, 108] (by decide +kernel) (by decide +kernel)) (goodIn_sub (fun _ h => List.mem_cons_of_mem _ (List.mem_append_left _ (List.mem_append_right _ h))) (by decide +kernel))) (goodIn_sub (fun _ h => List.mem_cons_of_mem _ (List.mem_append_right _ h)) (by decide +kernel))
set_option maxRecDepth 20000 in
theorem gX4_revoke_X4_needGuaranteeArguments : GoodIn wsX4_revoke (wsV RX4 142 RX4 yX4_needGuaranteeArguments wsX4_needGuaranteeArguments) := goodIn_app (goodIn_of _ (by decide +kernel)) ggX4_revoke_X4_needGuaranteeArguments
set_option maxRecDepth 20000 in
theorem ggX4_revoke_X2_get : GoodIn wsX4_revoke wsX2_get := goodIn_r _ [29, 30, 31, 32, 33, 28, 34, 35, 36, 106, 107, 108] (by decide +kernel) (by decide +kernel)
set_option maxRecDepth 20000 in
theorem gX4_revoke_X2_get : GoodIn wsX4_revoke (wsV RX4 145 RX2 yX2_get wsX2_get) := goodIn_app (goodIn_of _ (by decide +kernel)) ggX4_revoke_X2_get
set_option maxRecDepth 20000 in
theorem ggX4_revoke_X4_needBearable : GoodIn wsX4_revoke wsX4_needBearable := goodIn_ca (goodIn_r _ [48, 1, 2, 49, 50, 51, 52, 53, 54, 55, 56, 57, 58, 28, 59, 35, 60, 26, 27, 29, 30, 31, 32, 33, 34, 36, 61, 62, 63, 64, 65, 66, 67, 7, 68, 69, 70, 3, 71, 72, 73, 74, 75, 76, 77, 78, 79, 80, 81, 82, 83, 84, 85, 86, 87, 88, 97, 98, 99, 100, 101, 102, 103, 104, 105, 109, 110, 106, 107, 108, 111, 112] (by decide +kernel) (by decide +kernel)) (goodIn_sub (fun _ h => List.mem_cons_of_mem _ (List.mem_append_left _ (List.mem_append_left _ (List.mem_append_right _ h)))) (by decide +kernel))
set_option maxRecDepth 20000 in
theorem gX4_revoke_X4_needBearable : GoodIn wsX4_revoke (wsV RX4 104 RX4 yX4_needBearable wsX4_needBearable) := goodIn_app (goodIn_of _ (by decide +kernel)) ggX4_revoke_X4_needBearable
set_option maxRecDepth 20000 in
theorem ggX4_revoke_X2_add : GoodIn wsX4_revoke wsX2_add := goodIn_r _ [92, 60, 26, 27, 28, 29, 30, 31, 32, 33, 34, 35, 36, 93, 94, 95, 96, 106, 107, 108] (by decide +kernel) (by decide +kernel)
set_option maxRecDepth 20000 in
theorem gX4_revoke_X2_add : GoodIn wsX4_revoke (wsV RX4 150 RX2 yX2_add wsX2_add) := goodIn_app (goodIn_of _ (by decide +kernel)) ggX4_revoke_X2_add
theorem dX4_revoke_0 : decode cX4_revoke 0 = .ok (.aload_n 0, 1) := by decide +kernel
theorem dX4_revoke_1 : decode cX4_revoke 1 = .ok (.iload_n 1, 1) := by decide +kernel
theorem dX4_revoke_2 : decode cX4_revoke 2 = .ok (.iload_n 2, 1) := by decide +kernel
theorem dX4_revoke_3 : decode cX4_revoke 3 = .ok (.iload_n 3, 1) := by decide +kernel
theorem dX4_revoke_4 : decode cX4_revoke 4 = .ok (.invokevirtual 142, 3) := by decide +kernel
theorem dX4_revoke_7 : decode cX4_revoke 7 = .ok (.aload_n 0, 1) := by decide +kernel
theorem dX4_revoke_8 : decode cX4_revoke 8 = .ok (.getfield 32, 3) := by decide +kernel
theorem dX4_revoke_11 : decode cX4_revoke 11 = .ok (.iload_n 1, 1) := by decide +kernel
theorem dX4_revoke_12 : decode cX4_revoke 12 = .ok (.iload_n 2, 1) := by decide +kernel
theorem dX4_revoke_13 : decode cX4_revoke 13 = .ok (.invokevirtual 145, 3) := by decide +kernel
theorem dX4_revoke_16 : decode cX4_revoke 16 = .ok (.iload_n 3, 1) := by decide +kernel
theorem dX4_revoke_17 : decode cX4_revoke 17 = .ok (.if_icmp .ge 13, 3) := by decide +kernel
theorem dX4_revoke_20 : decode cX4_revoke 20 = .ok (.new 55, 3) := by decide +kernel
theorem dX4_revoke_23 : decode cX4_revoke 23 = .ok (.dup, 1) := by decide +kernel
theorem dX4_revoke_24 : decode cX4_revoke 24 = .ok (.ldc 153, 2) := by decide +kernel
theorem dX4_revoke_26 : decode cX4_revoke 26 = .ok (.invokespecial 59, 3) := by decide +kernel
theorem dX4_revoke_29 : decode cX4_revoke 29 = .ok (.athrow, 1) := by decide +kernel
theorem dX4_revoke_30 : decode cX4_revoke 30 = .ok (.aload_n 0, 1) := by decide +kernel
theorem dX4_revoke_31 : decode cX4_revoke 31 = .ok (.iload_n 2, 1) := by decide +kernel
theorem dX4_revoke_32 : decode cX4_revoke 32 = .ok (.iload_n 3, 1) := by decide +kernel
theorem dX4_revoke_33 : decode cX4_revoke 33 = .ok (.invokevirtual 104, 3) := by decide +kernel
theorem dX4_revoke_36 : decode cX4_revoke 36 = .ok (.aload_n 0, 1) := by decide +kernel
theorem dX4_revoke_37 : decode cX4_revoke 37 = .ok (.getfield 32, 3) := by decide +kernel
theorem dX4_revoke_40 : decode cX4_revoke 40 = .ok (.iload_n 1, 1) := by decide +kernel
theorem dX4_revoke_41 : decode cX4_revoke 41 = .ok (.iload_n 2, 1) := by decide +kernel
theorem dX4_revoke_42 : decode cX4_revoke 42 = .ok (.iload_n 3, 1) := by decide +kernel
theorem dX4_revoke_43 : decode cX4_revoke 43 = .ok (.ineg, 1) := by decide +kernel
theorem dX4_revoke_44 : decode cX4_revoke 44 = .ok (.invokevirtual 150, 3) := by decide +kernel
theorem dX4_revoke_47 : decode cX4_revoke 47 = .ok (.aload_n 0, 1) := by decide +kernel
theorem dX4_revoke_48 : decode cX4_revoke 48 = .ok (.getfield 32, 3) := by decide +kernel
theorem dX4_revoke_51 : decode cX4_revoke 51 = .ok (.iload_n 1, 1) := by decide +kernel
theorem dX4_revoke_52 : decode cX4_revoke 52 = .ok (.iload_n 2, 1) := by decide +kernel
theorem dX4_revoke_53 : decode cX4_revoke 53 = .ok (.invokevirtual 145, 3) := by decide +kernel
theorem dX4_revoke_56 : decode cX4_revoke 56 = .ok (.ireturn, 1) := by decide +kernel
set_option maxRecDepth 20000 in
theorem ggX4_fee_X4_needRange : GoodIn wsX4_fee wsX4_needRange := goodIn_ca (goodIn_r _ [5, 6, 7] (by decide +kernel) (by decide +kernel)) (goodIn_sub (fun _ h => List.mem_cons_of_mem _ (List.mem_append_right _ h)) (by decide +kernel))
set_option maxRecDepth 20000 in
theorem gX4_fee_X4_needRange : GoodIn wsX4_fee (va_wsS RX4 92 yX4_needRange wsX4_needRange) := goodIn_app (goodIn_of _ (by decide +kernel)) ggX4_fee_X4_needRange
theorem dX4_fee_0 : decode cX4_fee 0 = .ok (.iload_n 1, 1) := by decide +kernel
theorem dX4_fee_1 : decode cX4_fee 1 = .ok (.iconst 0, 1) := by decide +kernel
theorem dX4_fee_2 : decode cX4_fee 2 = .ok (.sipush 500, 3) := by decide +kernel
theorem dX4_fee_5 : decode cX4_fee 5 = .ok (.invokestatic 92, 3) := by decide +kernel
theorem dX4_fee_8 : decode cX4_fee 8 = .ok (.aload_n 0, 1) := by decide +kernel
theorem dX4_fee_9 : decode cX4_fee 9 = .ok (.getfield 52, 3) := by decide +kernel
theorem dX4_fee_12 : decode cX4_fee 12 = .ok (.istore_n 2, 1) := by decide +kernel
theorem dX4_fee_13 : decode cX4_fee 13 = .ok (.aload_n 0, 1) := by decide +kernel
theorem dX4_fee_14 : decode cX4_fee 14 = .ok (.iload_n 1, 1) := by decide +kernel
theorem dX4_fee_15 : decode cX4_fee 15 = .ok (.putfield 52, 3) := by decide +kernel
theorem dX4_fee_18 : decode cX4_fee 18 = .ok (.iload_n 2, 1) := by decide +kernel
theorem dX4_fee_19 : decode cX4_fee 19 = .ok (.ireturn, 1) := by decide +kernel
set_option maxRecDepth 20000 in
theorem ggX4_night_X4_needRange : GoodIn wsX4_night wsX4_needRange := goodIn_ca (goodIn_r _ [7, 8, 9] (by decide +kernel) (by decide +kernel)) (goodIn_sub (fun _ h => List.mem_cons_of_mem _ (List.mem_append_right _ h)) (by decide +kernel))
set_option maxRecDepth 20000 in
theorem gX4_night_X4_needRange : GoodIn wsX4_night (va_wsS RX4 92 yX4_needRange wsX4_needRange) := goodIn_app (goodIn_of _ (by decide +kernel)) ggX4_night_X4_needRange
set_option maxRecDepth 20000 in
theorem ggX4_night_X1_netAll : GoodIn wsX4_night wsX1_netAll := goodIn_r _ [14, 15, 16, 17, 18, 13, 19, 20, 21, 22, 23, 24, 25, 26, 27, 28, 29, 30, 31, 32, 33, 34, 35, 36, 37, 38, 39, 40, 41, 42, 43, 44, 45, 46, 47, 48, 49, 50, 51, 52, 53, 54, 55, 56, 57, 58, 59, 60, 61, 62, 63, 64, 65, 66, 67, 68, 69, 70, 71, 72, 73, 74, 75, 76, 77, 143, 144, 145, 146, 147, 148, 149] (by decide +kernel) (by decide +kernel)
set_option maxRecDepth 20000 in
theorem gX4_night_X1_netAll : GoodIn wsX4_night (wsV RX4 155 RX1 yX1_netAll wsX1_netAll) := goodIn_app (goodIn_of _ (by decide +kernel)) ggX4_night_X1_netAll
set_option maxRecDepth 20000 in
theorem ggX4_night_X4_payFees : GoodIn wsX4_night wsX4_payFees := goodIn_r _ [81, 82, 83, 84, 6, 85, 2, 86, 3, 87, 88, 89, 51, 90, 53, 91, 92, 93, 24, 94, 31, 76, 45, 46, 47, 26, 27, 28, 29, 30, 32, 95, 96, 97, 98, 99, 100, 101, 102, 103, 104, 105, 106, 107, 108, 109, 110, 111, 112, 113, 114, 115, 116, 117, 118, 119, 120, 65, 66, 67, 121, 122, 123, 124, 125, 54, 126, 127, 128, 129, 130, 49, 50, 52, 55, 131, 132, 69, 70, 71, 72, 73, 74, 75, 77, 22, 23, 25, 133, 134, 135, 136, 137, 138, 139, 140, 141, 142, 148, 149, 145, 146, 147, 150, 151] (by decide +kernel) (by decide +kernel)
set_option maxRecDepth 20000 in
theorem gX4_night_X4_payFees : GoodIn wsX4_night (wsV RX4 159 RX4 yX4_payFees wsX4_payFees) := goodIn_app (goodIn_of _ (by decide +kernel)) ggX4_night_X4_payFees
theorem dX4_night_0 : decode cX4_night 0 = .ok (.iload_n 1, 1) := by decide +kernel
theorem dX4_night_1 : decode cX4_night 1 = .ok (.iconst 1, 1) := by decide +kernel
theorem dX4_night_2 : decode cX4_night 2 = .ok (.bipush 20, 2) := by decide +kernel
theorem dX4_night_4 : decode cX4_night 4 = .ok (.invokestatic 92, 3) := by decide +kernel
theorem dX4_night_7 : decode cX4_night 7 = .ok (.iconst 0, 1) := by decide +kernel
theorem dX4_night_8 : decode cX4_night 8 = .ok (.istore_n 2, 1) := by decide +kernel
theorem dX4_night_9 : decode cX4_night 9 = .ok (.iload_n 2, 1) := by decide +kernel
theorem dX4_night_10 : decode cX4_night 10 = .ok (.iload_n 1, 1) := by decide +kernel
theorem dX4_night_11 : decode cX4_night 11 = .ok (.if_icmp .ge 40, 3) := by decide +kernel
theorem dX4_night_14 : decode cX4_night 14 = .ok (.iload_n 2, 1) := by decide +kernel
theorem dX4_night_15 : decode cX4_night 15 = .ok (.bipush 20, 2) := by decide +kernel
theorem dX4_night_17 : decode cX4_night 17 = .ok (.if_icmp .ge 34, 3) := by decide +kernel
theorem dX4_night_20 : decode cX4_night 20 = .ok (.aload_n 0, 1) := by decide +kernel
theorem dX4_night_21 : decode cX4_night 21 = .ok (.getfield 41, 3) := by decide +kernel
theorem dX4_night_24 : decode cX4_night 24 = .ok (.aload_n 0, 1) := by decide +kernel
theorem dX4_night_25 : decode cX4_night 25 = .ok (.getfield 28, 3) := by decide +kernel
theorem dX4_night_28 : decode cX4_night 28 = .ok (.invokevirtual 155, 3) := by decide +kernel
theorem dX4_night_31 : decode cX4_night 31 = .ok (.aload_n 0, 1) := by decide +kernel
theorem dX4_night_32 : decode cX4_night 32 = .ok (.invokevirtual 159, 3) := by decide +kernel
theorem dX4_night_35 : decode cX4_night 35 = .ok (.aload_n 0, 1) := by decide +kernel
theorem dX4_night_36 : decode cX4_night 36 = .ok (.dup, 1) := by decide +kernel
theorem dX4_night_37 : decode cX4_night 37 = .ok (.getfield 49, 3) := by decide +kernel
theorem dX4_night_40 : decode cX4_night 40 = .ok (.iconst 1, 1) := by decide +kernel
theorem dX4_night_41 : decode cX4_night 41 = .ok (.iadd, 1) := by decide +kernel
theorem dX4_night_42 : decode cX4_night 42 = .ok (.putfield 49, 3) := by decide +kernel
theorem dX4_night_45 : decode cX4_night 45 = .ok (.iinc 2 1, 3) := by decide +kernel
theorem dX4_night_48 : decode cX4_night 48 = .ok (.goto (-39), 3) := by decide +kernel
theorem dX4_night_51 : decode cX4_night 51 = .ok (.aload_n 0, 1) := by decide +kernel
theorem dX4_night_52 : decode cX4_night 52 = .ok (.getfield 49, 3) := by decide +kernel
theorem dX4_night_55 : decode cX4_night 55 = .ok (.ireturn, 1) := by decide +kernel
set_option maxRecDepth 20000 in
theorem ggX4_balance_X4_needShopEverOrHouse : GoodIn wsX4_balance wsX4_needShopEverOrHouse := goodIn_ca (goodIn_r _ [6, 7, 8, 9, 5, 10, 11, 12, 13, 14, 15, 16, 17, 44, 45, 46, 47, 48, 49, 50, 51, 52] (by decide +kernel) (by decide +kernel)) (goodIn_sub (fun _ h => List.mem_cons_of_mem _ (List.mem_append_right _ h)) (by decide +kernel))
set_option maxRecDepth 20000 in
theorem gX4_balance_X4_needShopEverOrHouse : GoodIn wsX4_balance (wsV RX4 162 RX4 yX4_needShopEverOrHouse wsX4_needShopEverOrHouse) := goodIn_app (goodIn_of _ (by decide +kernel)) ggX4_balance_X4_needShopEverOrHouse
set_option maxRecDepth 20000 in
theorem ggX4_balance_X0_balanceOf : GoodIn wsX4_balance wsX0_balanceOf := goodIn_r _ [22, 23, 24, 25, 26, 27, 28, 29, 30, 31, 32, 33, 34, 35, 36, 37, 38, 39, 40, 41, 42, 43, 53, 54, 55, 56, 57] (by decide +kernel) (by decide +kernel)
set_option maxRecDepth 20000 in
theorem gX4_balance_X0_balanceOf : GoodIn wsX4_balance (wsV RX4 165 RX0 yX0_balanceOf wsX0_balanceOf) := goodIn_app (goodIn_of _ (by decide +kernel)) ggX4_balance_X0_balanceOf
theorem dX4_balance_0 : decode cX4_balance 0 = .ok (.aload_n 0, 1) := by decide +kernel
theorem dX4_balance_1 : decode cX4_balance 1 = .ok (.iload_n 1, 1) := by decide +kernel
theorem dX4_balance_2 : decode cX4_balance 2 = .ok (.invokevirtual 162, 3) := by decide +kernel
theorem dX4_balance_5 : decode cX4_balance 5 = .ok (.aload_n 0, 1) := by decide +kernel
theorem dX4_balance_6 : decode cX4_balance 6 = .ok (.getfield 28, 3) := by decide +kernel
theorem dX4_balance_9 : decode cX4_balance 9 = .ok (.iload_n 1, 1) := by decide +kernel
theorem dX4_balance_10 : decode cX4_balance 10 = .ok (.invokevirtual 165, 3) := by decide +kernel
theorem dX4_balance_13 : decode cX4_balance 13 = .ok (.ireturn, 1) := by decide +kernel
set_option maxRecDepth 20000 in
theorem ggX4_balanceAnew_X4_needShopEverOrHouse : GoodIn wsX4_balanceAnew wsX4_needShopEverOrHouse := goodIn_ca (goodIn_r _ [7, 8, 9, 10, 6, 11, 12, 13, 14, 15, 16, 17, 18, 51, 52, 53, 54, 55, 56, 57, 58, 59] (by decide +kernel) (by decide +kernel)) (goodIn_sub (fun _ h => List.mem_cons_of_mem _ (List.mem_append_right _ h)) (by decide +kernel))
set_option maxRecDepth 20000 in
theorem gX4_balanceAnew_X4_needShopEverOrHouse : GoodIn wsX4_balanceAnew (wsV RX4 162 RX4 yX4_needShopEverOrHouse wsX4_needShopEverOrHouse) := goodIn_app (goodIn_of _ (by decide +kernel)) ggX4_balanceAnew_X4_needShopEverOrHouse
set_option maxRecDepth 20000 in
theorem ggX4_balanceAnew_X3_balanceOf : GoodIn wsX4_balanceAnew wsX3_balanceOf := goodIn_r _ [23, 24, 25, 26, 27, 22, 28, 29, 30, 31, 32, 33, 34, 35, 36, 37, 38, 39, 40, 41, 60, 61, 62, 63, 64] (by decide +kernel) (by decide +kernel)
set_option maxRecDepth 20000 in
theorem gX4_balanceAnew_X3_balanceOf : GoodIn wsX4_balanceAnew (wsV RX4 168 RX3 yX3_balanceOf wsX3_balanceOf) := goodIn_app (goodIn_of _ (by decide +kernel)) ggX4_balanceAnew_X3_balanceOf
set_option maxRecDepth 20000 in
theorem ggX4_balanceAnew_X2_columnSum : GoodIn wsX4_balanceAnew wsX2_columnSum := goodIn_r _ [45, 40, 46, 31, 32, 33, 34, 35, 36, 37, 38, 39, 41, 62, 63, 64] (by decide +kernel) (by decide +kernel)
set_option maxRecDepth 20000 in
theorem gX4_balanceAnew_X2_columnSum : GoodIn wsX4_balanceAnew (wsV RX4 169 RX2 yX2_columnSum wsX2_columnSum) := goodIn_app (goodIn_of _ (by decide +kernel)) ggX4_balanceAnew_X2_columnSum
set_option maxRecDepth 20000 in
theorem ggX4_balanceAnew_X2_rowSum : GoodIn wsX4_balanceAnew wsX2_rowSum := goodIn_r _ [50, 41, 46, 31, 32, 33, 34, 35, 36, 37, 38, 39, 40, 62, 63, 64] (by decide +kernel) (by decide +kernel)
set_option maxRecDepth 20000 in
theorem gX4_balanceAnew_X2_rowSum : GoodIn wsX4_balanceAnew (wsV RX4 172 RX2 yX2_rowSum wsX2_rowSum) := goodIn_app (goodIn_of _ (by decide +kernel)) ggX4_balanceAnew_X2_rowSum
theorem dX4_balanceAnew_0 : decode cX4_balanceAnew 0 = .ok (.aload_n 0, 1) := by decide +kernel
theorem dX4_balanceAnew_1 : decode cX4_balanceAnew 1 = .ok (.iload_n 1, 1) := by decide +kernel
theorem dX4_balanceAnew_2 : decode cX4_balanceAnew 2 = .ok (.invokevirtual 162, 3) := by decide +kernel
theorem dX4_balanceAnew_5 : decode cX4_balanceAnew 5 = .ok (.aload_n 0, 1) := by decide +kernel
theorem dX4_balanceAnew_6 : decode cX4_balanceAnew 6 = .ok (.getfield 21, 3) := by decide +kernel
theorem dX4_balanceAnew_9 : decode cX4_balanceAnew 9 = .ok (.iload_n 1, 1) := by decide +kernel
theorem dX4_balanceAnew_10 : decode cX4_balanceAnew 10 = .ok (.invokevirtual 168, 3) := by decide +kernel
theorem dX4_balanceAnew_13 : decode cX4_balanceAnew 13 = .ok (.aload_n 0, 1) := by decide +kernel
theorem dX4_balanceAnew_14 : decode cX4_balanceAnew 14 = .ok (.getfield 35, 3) := by decide +kernel
theorem dX4_balanceAnew_17 : decode cX4_balanceAnew 17 = .ok (.iload_n 1, 1) := by decide +kernel
theorem dX4_balanceAnew_18 : decode cX4_balanceAnew 18 = .ok (.invokevirtual 169, 3) := by decide +kernel
theorem dX4_balanceAnew_21 : decode cX4_balanceAnew 21 = .ok (.iadd, 1) := by decide +kernel
theorem dX4_balanceAnew_22 : decode cX4_balanceAnew 22 = .ok (.aload_n 0, 1) := by decide +kernel
theorem dX4_balanceAnew_23 : decode cX4_balanceAnew 23 = .ok (.getfield 35, 3) := by decide +kernel
theorem dX4_balanceAnew_26 : decode cX4_balanceAnew 26 = .ok (.iload_n 1, 1) := by decide +kernel
theorem dX4_balanceAnew_27 : decode cX4_balanceAnew 27 = .ok (.invokevirtual 172, 3) := by decide +kernel
theorem dX4_balanceAnew_30 : decode cX4_balanceAnew 30 = .ok (.isub, 1) := by decide +kernel
theorem dX4_balanceAnew_31 : decode cX4_balanceAnew 31 = .ok (.ireturn, 1) := by decide +kernel
set_option maxRecDepth 20000 in
theorem ggX4_limit_X4_needShop : GoodIn wsX4_limit wsX4_needShop := goodIn_ca (goodIn_r _ [5, 6, 7, 8, 9, 10, 4, 11, 12, 13, 14, 15, 16, 17, 18, 19, 20, 21, 22, 23, 24, 25, 26, 27, 28, 29, 62, 63, 64, 65, 66, 67, 68, 69, 70, 71, 72, 73] (by decide +kernel) (by decide +kernel)) (goodIn_sub (fun _ h => List.mem_cons_of_mem _ (List.mem_append_right _ h)) (by decide +kernel))
set_option maxRecDepth 20000 in
theorem gX4_limit_X4_needShop : GoodIn wsX4_limit (wsV RX4 62 RX4 yX4_needShop wsX4_needShop) := goodIn_app (goodIn_of _ (by decide +kernel)) ggX4_limit_X4_needShop
set_option maxRecDepth 20000 in
theorem ggX4_limit_X4_limitOf : GoodIn wsX4_limit wsX4_limitOf := goodIn_r _ [33, 34, 35, 36, 37, 38, 39, 40, 41, 42, 43, 44, 45, 46, 47, 48, 49, 50, 51, 52, 19, 20, 21, 22, 23, 24, 25, 26, 27, 28, 29, 53, 54, 55, 56, 57, 58, 59, 60, 61, 62, 63, 64, 65, 66, 67, 68, 69, 70, 74, 75, 71, 72, 73] (by decide +kernel) (by decide +kernel)
set_option maxRecDepth 20000 in
theorem gX4_limit_X4_limitOf : GoodIn wsX4_limit (wsV RX4 175 RX4 yX4_limitOf wsX4_limitOf) := goodIn_app (goodIn_of _ (by decide +kernel)) ggX4_limit_X4_limitOf
theorem dX4_limit_0 : decode cX4_limit 0 = .ok (.aload_n 0, 1) := by decide +kernel
theorem dX4_limit_1 : decode cX4_limit 1 = .ok (.iload_n 1, 1) := by decide +kernel
theorem dX4_limit_2 : decode cX4_limit 2 = .ok (.invokevirtual 62, 3) := by decide +kernel
theorem dX4_limit_5 : decode cX4_limit 5 = .ok (.aload_n 0, 1) := by decide +kernel
theorem dX4_limit_6 : decode cX4_limit 6 = .ok (.iload_n 1, 1) := by decide +kernel
theorem dX4_limit_7 : decode cX4_limit 7 = .ok (.invokevirtual 175, 3) := by decide +kernel
theorem dX4_limit_10 : decode cX4_limit 10 = .ok (.ireturn, 1) := by decide +kernel
set_option maxRecDepth 20000 in
theorem ggX4_owes_X4_needShopEver : GoodIn wsX4_owes wsX4_needShopEver := goodIn_ca (goodIn_r _ [6, 7, 8, 9, 10, 11, 5, 12, 13, 36, 37, 38, 39, 40, 41, 42, 43, 44] (by decide +kernel) (by decide +kernel)) (goodIn_sub (fun _ h => List.mem_cons_of_mem _ (List.mem_append_right _ h)) (by decide +kernel))
set_option maxRecDepth 20000 in
theorem gX4_owes_X4_needShopEver : GoodIn wsX4_owes (wsV RX4 178 RX4 yX4_needShopEver wsX4_needShopEver) := goodIn_app (goodIn_of _ (by decide +kernel)) ggX4_owes_X4_needShopEver
set_option maxRecDepth 20000 in
theorem ggX4_owes_X4_needShopEverOrHouse : GoodIn wsX4_owes wsX4_needShopEverOrHouse := goodIn_ca (goodIn_r _ [17, 2, 3, 4, 5, 6, 7, 8, 9, 10, 11, 12, 13, 36, 37, 38, 39, 40, 41, 42, 43, 44] (by decide +kernel) (by decide +kernel)) (goodIn_sub (fun _ h => List.mem_cons_of_mem _ (List.mem_append_right _ h)) (by decide +kernel))
set_option maxRecDepth 20000 in
theorem gX4_owes_X4_needShopEverOrHouse : GoodIn wsX4_owes (wsV RX4 162 RX4 yX4_needShopEverOrHouse wsX4_needShopEverOrHouse) := goodIn_app (goodIn_of _ (by decide +kernel)) ggX4_owes_X4_needShopEverOrHouse
set_option maxRecDepth 20000 in
theorem ggX4_owes_X0_owed : GoodIn wsX4_owes wsX0_owed := goodIn_r _ [22, 23, 24, 25, 26, 27, 28, 29, 30, 31, 32, 33, 34, 35, 45, 46, 47, 48, 49] (by decide +kernel) (by decide +kernel)
set_option maxRecDepth 20000 in
theorem gX4_owes_X0_owed : GoodIn wsX4_owes (wsV RX4 181 RX0 yX0_owed wsX0_owed) := goodIn_app (goodIn_of _ (by decide +kernel)) ggX4_owes_X0_owed
theorem dX4_owes_0 : decode cX4_owes 0 = .ok (.aload_n 0, 1) := by decide +kernel
theorem dX4_owes_1 : decode cX4_owes 1 = .ok (.iload_n 1, 1) := by decide +kernel
theorem dX4_owes_2 : decode cX4_owes 2 = .ok (.invokevirtual 178, 3) := by decide +kernel
theorem dX4_owes_5 : decode cX4_owes 5 = .ok (.aload_n 0, 1) := by decide +kernel
theorem dX4_owes_6 : decode cX4_owes 6 = .ok (.iload_n 2, 1) := by decide +kernel
theorem dX4_owes_7 : decode cX4_owes 7 = .ok (.invokevirtual 162, 3) := by decide +kernel
theorem dX4_owes_10 : decode cX4_owes 10 = .ok (.aload_n 0, 1) := by decide +kernel
theorem dX4_owes_11 : decode cX4_owes 11 = .ok (.getfield 28, 3) := by decide +kernel
theorem dX4_owes_14 : decode cX4_owes 14 = .ok (.iload_n 1, 1) := by decide +kernel
theorem dX4_owes_15 : decode cX4_owes 15 = .ok (.iload_n 2, 1) := by decide +kernel
theorem dX4_owes_16 : decode cX4_owes 16 = .ok (.invokevirtual 181, 3) := by decide +kernel
theorem dX4_owes_19 : decode cX4_owes 19 = .ok (.ireturn, 1) := by decide +kernel
set_option maxRecDepth 20000 in
theorem ggX4_frozen_X4_needShopEver : GoodIn wsX4_frozen wsX4_needShopEver := goodIn_ca (goodIn_r _ [6, 7, 8, 9, 10, 11, 5, 12, 13, 32, 33, 34, 35, 36, 37, 38, 39, 40] (by decide +kernel) (by decide +kernel)) (goodIn_sub (fun _ h => List.mem_cons_of_mem _ (List.mem_append_right _ h)) (by decide +kernel))
set_option maxRecDepth 20000 in
theorem gX4_frozen_X4_needShopEver : GoodIn wsX4_frozen (wsV RX4 178 RX4 yX4_needShopEver wsX4_needShopEver) := goodIn_app (goodIn_of _ (by decide +kernel)) ggX4_frozen_X4_needShopEver
set_option maxRecDepth 20000 in
theorem ggX4_frozen_X0_frozenPart : GoodIn wsX4_frozen wsX0_frozenPart := goodIn_r _ [18, 19, 20, 21, 22, 23, 24, 25, 26, 27, 28, 29, 30, 31, 41, 42, 43, 44, 45] (by decide +kernel) (by decide +kernel)
set_option maxRecDepth 20000 in
theorem gX4_frozen_X0_frozenPart : GoodIn wsX4_frozen (wsV RX4 184 RX0 yX0_frozenPart wsX0_frozenPart) := goodIn_app (goodIn_of _ (by decide +kernel)) ggX4_frozen_X0_frozenPart
theorem dX4_frozen_0 : decode cX4_frozen 0 = .ok (.aload_n 0, 1) := by decide +kernel
theorem dX4_frozen_1 : decode cX4_frozen 1 = .ok (.iload_n 1, 1) := by decide +kernel
theorem dX4_frozen_2 : decode cX4_frozen 2 = .ok (.invokevirtual 178, 3) := by decide +kernel
theorem dX4_frozen_5 : decode cX4_frozen 5 = .ok (.aload_n 0, 1) := by decide +kernel
theorem dX4_frozen_6 : decode cX4_frozen 6 = .ok (.iload_n 2, 1) := by decide +kernel
theorem dX4_frozen_7 : decode cX4_frozen 7 = .ok (.invokevirtual 178, 3) := by decide +kernel
theorem dX4_frozen_10 : decode cX4_frozen 10 = .ok (.aload_n 0, 1) := by decide +kernel
theorem dX4_frozen_11 : decode cX4_frozen 11 = .ok (.getfield 28, 3) := by decide +kernel
theorem dX4_frozen_14 : decode cX4_frozen 14 = .ok (.iload_n 1, 1) := by decide +kernel
theorem dX4_frozen_15 : decode cX4_frozen 15 = .ok (.iload_n 2, 1) := by decide +kernel
theorem dX4_frozen_16 : decode cX4_frozen 16 = .ok (.invokevirtual 184, 3) := by decide +kernel
theorem dX4_frozen_19 : decode cX4_frozen 19 = .ok (.ireturn, 1) := by decide +kernel
set_option maxRecDepth 20000 in
theorem ggX4_ofTrade_X4_needTrade : GoodIn wsX4_ofTrade wsX4_needTrade := goodIn_ca (goodIn_r _ [6, 7, 8, 1, 9, 10, 11, 12, 13, 14, 37, 38, 39, 40, 41, 42, 43, 44, 45, 46, 47] (by decide +kernel) (by decide +kernel)) (goodIn_sub (fun _ h => List.mem_cons_of_mem _ (List.mem_append_left _ (List.mem_append_right _ h))) (by decide +kernel))
set_option maxRecDepth 20000 in
theorem gX4_ofTrade_X4_needTrade : GoodIn wsX4_ofTrade (wsV RX4 114 RX4 yX4_needTrade wsX4_needTrade) := goodIn_app (goodIn_of _ (by decide +kernel)) ggX4_ofTrade_X4_needTrade
set_option maxRecDepth 20000 in
theorem ggX4_ofTrade_X4_needRange : GoodIn wsX4_ofTrade wsX4_needRange := goodIn_ca (goodIn_r _ [17, 18, 19] (by decide +kernel) (by decide +kernel)) (goodIn_sub (fun _ h => List.mem_cons_of_mem _ (List.mem_append_right _ h)) (by decide +kernel))
set_option maxRecDepth 20000 in
theorem gX4_ofTrade_X4_needRange : GoodIn wsX4_ofTrade (va_wsS RX4 92 yX4_needRange wsX4_needRange) := goodIn_app (goodIn_of _ (by decide +kernel)) ggX4_ofTrade_X4_needRange
set_option maxRecDepth 20000 in
theorem ggX4_ofTrade_X3_of : GoodIn wsX4_ofTrade wsX3_of := goodIn_r _ [23, 24, 25, 26, 27, 28, 29, 30, 31, 32, 33, 34, 35, 36, 46, 47, 48, 49, 50] (by decide +kernel) (by decide +kernel)
set_option maxRecDepth 20000 in
theorem gX4_ofTrade_X3_of : GoodIn wsX4_ofTrade (wsV RX4 117 RX3 yX3_of wsX3_of) := goodIn_app (goodIn_of _ (by decide +kernel)) ggX4_ofTrade_X3_of
theorem dX4_ofTrade_0 : decode cX4_ofTrade 0 = .ok (.aload_n 0, 1) := by decide +kernel
theorem dX4_ofTrade_1 : decode cX4_ofTrade 1 = .ok (.iload_n 1, 1) := by decide +kernel
theorem dX4_ofTrade_2 : decode cX4_ofTrade 2 = .ok (.invokevirtual 114, 3) := by decide +kernel
theorem dX4_ofTrade_5 : decode cX4_ofTrade 5 = .ok (.iload_n 2, 1) := by decide +kernel
theorem dX4_ofTrade_6 : decode cX4_ofTrade 6 = .ok (.iconst 0, 1) := by decide +kernel
theorem dX4_ofTrade_7 : decode cX4_ofTrade 7 = .ok (.iconst 5, 1) := by decide +kernel
theorem dX4_ofTrade_8 : decode cX4_ofTrade 8 = .ok (.invokestatic 92, 3) := by decide +kernel
theorem dX4_ofTrade_11 : decode cX4_ofTrade 11 = .ok (.aload_n 0, 1) := by decide +kernel
theorem dX4_ofTrade_12 : decode cX4_ofTrade 12 = .ok (.getfield 21, 3) := by decide +kernel
theorem dX4_ofTrade_15 : decode cX4_ofTrade 15 = .ok (.iload_n 1, 1) := by decide +kernel
theorem dX4_ofTrade_16 : decode cX4_ofTrade 16 = .ok (.iload_n 2, 1) := by decide +kernel
theorem dX4_ofTrade_17 : decode cX4_ofTrade 17 = .ok (.invokevirtual 117, 3) := by decide +kernel
theorem dX4_ofTrade_20 : decode cX4_ofTrade 20 = .ok (.ireturn, 1) := by decide +kernel
set_option maxRecDepth 20000 in
theorem ggX4_guaranteed_X4_needShopEver : GoodIn wsX4_guaranteed wsX4_needShopEver := goodIn_ca (goodIn_r _ [6, 7, 8, 9, 10, 11, 5, 12, 13, 26, 27, 28, 29, 30, 31, 32, 33, 34] (by decide +kernel) (by decide +kernel)) (goodIn_sub (fun _ h => List.mem_cons_of_mem _ (List.mem_append_right _ h)) (by decide +kernel))
set_option maxRecDepth 20000 in
theorem gX4_guaranteed_X4_needShopEver : GoodIn wsX4_guaranteed (wsV RX4 178 RX4 yX4_needShopEver wsX4_needShopEver) := goodIn_app (goodIn_of _ (by decide +kernel)) ggX4_guaranteed_X4_needShopEver
set_option maxRecDepth 20000 in
theorem ggX4_guaranteed_X2_get : GoodIn wsX4_guaranteed wsX2_get := goodIn_r _ [18, 19, 20, 21, 22, 17, 23, 24, 25, 35, 36, 37] (by decide +kernel) (by decide +kernel)
set_option maxRecDepth 20000 in
theorem gX4_guaranteed_X2_get : GoodIn wsX4_guaranteed (wsV RX4 145 RX2 yX2_get wsX2_get) := goodIn_app (goodIn_of _ (by decide +kernel)) ggX4_guaranteed_X2_get
theorem dX4_guaranteed_0 : decode cX4_guaranteed 0 = .ok (.aload_n 0, 1) := by decide +kernel
theorem dX4_guaranteed_1 : decode cX4_guaranteed 1 = .ok (.iload_n 1, 1) := by decide +kernel
theorem dX4_guaranteed_2 : decode cX4_guaranteed 2 = .ok (.invokevirtual 178, 3) := by decide +kernel
theorem dX4_guaranteed_5 : decode cX4_guaranteed 5 = .ok (.aload_n 0, 1) := by decide +kernel
theorem dX4_guaranteed_6 : decode cX4_guaranteed 6 = .ok (.iload_n 2, 1) := by decide +kernel
theorem dX4_guaranteed_7 : decode cX4_guaranteed 7 = .ok (.invokevirtual 178, 3) := by decide +kernel
theorem dX4_guaranteed_10 : decode cX4_guaranteed 10 = .ok (.aload_n 0, 1) := by decide +kernel
theorem dX4_guaranteed_11 : decode cX4_guaranteed 11 = .ok (.getfield 32, 3) := by decide +kernel
theorem dX4_guaranteed_14 : decode cX4_guaranteed 14 = .ok (.iload_n 1, 1) := by decide +kernel
theorem dX4_guaranteed_15 : decode cX4_guaranteed 15 = .ok (.iload_n 2, 1) := by decide +kernel
theorem dX4_guaranteed_16 : decode cX4_guaranteed 16 = .ok (.invokevirtual 145, 3) := by decide +kernel
theorem dX4_guaranteed_19 : decode cX4_guaranteed 19 = .ok (.ireturn, 1) := by decide +kernel
set_option maxRecDepth 20000 in
theorem ggX4_goods_X4_needShopEver : GoodIn wsX4_goods wsX4_needShopEver := goodIn_ca (goodIn_r _ [6, 7, 8, 9, 10, 11, 5, 12, 13, 26, 27, 28, 29, 30, 31, 32, 33, 34] (by decide +kernel) (by decide +kernel)) (goodIn_sub (fun _ h => List.mem_cons_of_mem _ (List.mem_append_right _ h)) (by decide +kernel))
set_option maxRecDepth 20000 in
theorem gX4_goods_X4_needShopEver : GoodIn wsX4_goods (wsV RX4 178 RX4 yX4_needShopEver wsX4_needShopEver) := goodIn_app (goodIn_of _ (by decide +kernel)) ggX4_goods_X4_needShopEver
set_option maxRecDepth 20000 in
theorem ggX4_goods_X2_get : GoodIn wsX4_goods wsX2_get := goodIn_r _ [18, 19, 20, 21, 22, 17, 23, 24, 25, 35, 36, 37] (by decide +kernel) (by decide +kernel)
set_option maxRecDepth 20000 in
theorem gX4_goods_X2_get : GoodIn wsX4_goods (wsV RX4 145 RX2 yX2_get wsX2_get) := goodIn_app (goodIn_of _ (by decide +kernel)) ggX4_goods_X2_get
theorem dX4_goods_0 : decode cX4_goods 0 = .ok (.aload_n 0, 1) := by decide +kernel
theorem dX4_goods_1 : decode cX4_goods 1 = .ok (.iload_n 1, 1) := by decide +kernel
theorem dX4_goods_2 : decode cX4_goods 2 = .ok (.invokevirtual 178, 3) := by decide +kernel
theorem dX4_goods_5 : decode cX4_goods 5 = .ok (.aload_n 0, 1) := by decide +kernel
theorem dX4_goods_6 : decode cX4_goods 6 = .ok (.getfield 14, 3) := by decide +kernel
theorem dX4_goods_9 : decode cX4_goods 9 = .ok (.iload_n 1, 1) := by decide +kernel
theorem dX4_goods_10 : decode cX4_goods 10 = .ok (.iconst 1, 1) := by decide +kernel
theorem dX4_goods_11 : decode cX4_goods 11 = .ok (.invokevirtual 145, 3) := by decide +kernel
theorem dX4_goods_14 : decode cX4_goods 14 = .ok (.ireturn, 1) := by decide +kernel
set_option maxRecDepth 20000 in
theorem ggX4_isIdle_X4_needShop : GoodIn wsX4_isIdle wsX4_needShop := goodIn_ca (goodIn_r _ [5, 6, 7, 8, 9, 10, 4, 11, 12, 13, 14, 15, 16, 17, 18, 19, 20, 21, 22, 23, 24, 25, 26, 27, 28, 29, 68, 69, 70, 71, 72, 73, 74, 75, 76, 77, 78, 79] (by decide +kernel) (by decide +kernel)) (goodIn_sub (fun _ h => List.mem_cons_of_mem _ (List.mem_append_right _ h)) (by decide +kernel))
set_option maxRecDepth 20000 in
theorem gX4_isIdle_X4_needShop : GoodIn wsX4_isIdle (wsV RX4 62 RX4 yX4_needShop wsX4_needShop) := goodIn_app (goodIn_of _ (by decide +kernel)) ggX4_isIdle_X4_needShop
set_option maxRecDepth 20000 in
theorem ggX4_isIdle_X4_isIdleShop : GoodIn wsX4_isIdle wsX4_isIdleShop := goodIn_r _ [33, 34, 35, 36, 37, 38, 39, 40, 41, 42, 43, 44, 45, 21, 46, 28, 47, 19, 20, 22, 23, 24, 25, 26, 27, 29, 48, 49, 50, 51, 52, 53, 54, 55, 56, 57, 58, 59, 60, 61, 62, 63, 64, 65, 66, 67, 68, 69, 70, 71, 72, 73, 74, 75, 76, 80, 81, 77, 78, 79, 82, 83] (by decide +kernel) (by decide +kernel)
set_option maxRecDepth 20000 in
theorem gX4_isIdle_X4_isIdleShop : GoodIn wsX4_isIdle (wsV RX4 187 RX4 yX4_isIdleShop wsX4_isIdleShop) := goodIn_app (goodIn_of _ (by decide +kernel)) ggX4_isIdle_X4_isIdleShop
theorem dX4_isIdle_0 : decode cX4_isIdle 0 = .ok (.aload_n 0, 1) := by decide +kernel
theorem dX4_isIdle_1 : decode cX4_isIdle 1 = .ok (.iload_n 1, 1) := by decide +kernel
theorem dX4_isIdle_2 : decode cX4_isIdle 2 = .ok (.invokevirtual 62, 3) := by decide +kernel
theorem dX4_isIdle_5 : decode cX4_isIdle 5 = .ok (.aload_n 0, 1) := by decide +kernel
theorem dX4_isIdle_6 : decode cX4_isIdle 6 = .ok (.iload_n 1, 1) := by decide +kernel
theorem dX4_isIdle_7 : decode cX4_isIdle 7 = .ok (.invokevirtual 187, 3) := by decide +kernel
theorem dX4_isIdle_10 : decode cX4_isIdle 10 = .ok (.ireturn, 1) := by decide +kernel
set_option maxRecDepth 20000 in
theorem ggX4_rings_X1_size : GoodIn wsX4_rings wsX1_size := goodIn_r _ [6, 7, 17, 18] (by decide +kernel) (by decide +kernel)
set_option maxRecDepth 20000 in
theorem gX4_rings_X1_size : GoodIn wsX4_rings (wsV RX4 190 RX1 yX1_size wsX1_size) := goodIn_app (goodIn_of _ (by decide +kernel)) ggX4_rings_X1_size
theorem dX4_rings_0 : decode cX4_rings 0 = .ok (.aload_n 0, 1) := by decide +kernel
theorem dX4_rings_1 : decode cX4_rings 1 = .ok (.getfield 41, 3) := by decide +kernel
theorem dX4_rings_4 : decode cX4_rings 4 = .ok (.invokevirtual 190, 3) := by decide +kernel
theorem dX4_rings_7 : decode cX4_rings 7 = .ok (.ireturn, 1) := by decide +kernel
set_option maxRecDepth 20000 in
theorem ggX4_ring_X1_size : GoodIn wsX4_ring wsX1_size := goodIn_r _ [8, 9, 42, 43] (by decide +kernel) (by decide +kernel)
set_option maxRecDepth 20000 in
theorem gX4_ring_X1_size : GoodIn wsX4_ring (wsV RX4 190 RX1 yX1_size wsX1_size) := goodIn_app (goodIn_of _ (by decide +kernel)) ggX4_ring_X1_size
set_option maxRecDepth 20000 in
theorem ggX4_ring_X4_needRange : GoodIn wsX4_ring wsX4_needRange := goodIn_ca (goodIn_r _ [13, 14, 15] (by decide +kernel) (by decide +kernel)) (goodIn_sub (fun _ h => List.mem_cons_of_mem _ (List.mem_append_right _ h)) (by decide +kernel))
set_option maxRecDepth 20000 in
theorem gX4_ring_X4_needRange : GoodIn wsX4_ring (va_wsS RX4 92 yX4_needRange wsX4_needRange) := goodIn_app (goodIn_of _ (by decide +kernel)) ggX4_ring_X4_needRange
set_option maxRecDepth 20000 in
theorem ggX4_ring_X1_of : GoodIn wsX4_ring wsX1_of := goodIn_r _ [19, 20, 21, 22, 23, 24, 25, 26, 27, 28, 29, 30, 31, 32, 42, 43, 44, 45, 46] (by decide +kernel) (by decide +kernel)
set_option maxRecDepth 20000 in
theorem gX4_ring_X1_of : GoodIn wsX4_ring (wsV RX4 199 RX1 yX1_of wsX1_of) := goodIn_app (goodIn_of _ (by decide +kernel)) ggX4_ring_X1_of
theorem dX4_ring_0 : decode cX4_ring 0 = .ok (.iload_n 1, 1) := by decide +kernel
theorem dX4_ring_1 : decode cX4_ring 1 = .ok (.ifCond .lt 14, 3) := by decide +kernel
theorem dX4_ring_4 : decode cX4_ring 4 = .ok (.iload_n 1, 1) := by decide +kernel
theorem dX4_ring_5 : decode cX4_ring 5 = .ok (.aload_n 0, 1) := by decide +kernel
theorem dX4_ring_6 : decode cX4_ring 6 = .ok (.getfield 41, 3) := by decide +kernel
theorem dX4_ring_9 : decode cX4_ring 9 = .ok (.invokevirtual 190, 3) := by decide +kernel
end
section
theorem dX4_ring_12 : decode cX4_ring 12 = .ok (.if_icmp .lt 13, 3) := by decide +kernel
theorem dX4_ring_15 : decode cX4_ring 15 = .ok (.new 194, 3) := by decide +kernel
theorem dX4_ring_18 : decode cX4_ring 18 = .ok (.dup, 1) := by decide +kernel
theorem dX4_ring_19 : decode cX4_ring 19 = .ok (.ldc 196, 2) := by decide +kernel
theorem dX4_ring_21 : decode cX4_ring 21 = .ok (.invokespecial 198, 3) := by decide +kernel
theorem dX4_ring_24 : decode cX4_ring 24 = .ok (.athrow, 1) := by decide +kernel
theorem dX4_ring_25 : decode cX4_ring 25 = .ok (.iload_n 2, 1) := by decide +kernel
theorem dX4_ring_26 : decode cX4_ring 26 = .ok (.iconst 0, 1) := by decide +kernel
theorem dX4_ring_27 : decode cX4_ring 27 = .ok (.bipush 6, 2) := by decide +kernel
theorem dX4_ring_29 : decode cX4_ring 29 = .ok (.invokestatic 92, 3) := by decide +kernel
theorem dX4_ring_32 : decode cX4_ring 32 = .ok (.aload_n 0, 1) := by decide +kernel
theorem dX4_ring_33 : decode cX4_ring 33 = .ok (.getfield 41, 3) := by decide +kernel
theorem dX4_ring_36 : decode cX4_ring 36 = .ok (.iload_n 1, 1) := by decide +kernel
theorem dX4_ring_37 : decode cX4_ring 37 = .ok (.iload_n 2, 1) := by decide +kernel
theorem dX4_ring_38 : decode cX4_ring 38 = .ok (.invokevirtual 199, 3) := by decide +kernel
theorem dX4_ring_41 : decode cX4_ring 41 = .ok (.ireturn, 1) := by decide +kernel
theorem dX4_wasShop_0 : decode cX4_wasShop 0 = .ok (.iload_n 1, 1) := by decide +kernel
theorem dX4_wasShop_1 : decode cX4_wasShop 1 = .ok (.ifCond .lt 15, 3) := by decide +kernel
theorem dX4_wasShop_4 : decode cX4_wasShop 4 = .ok (.iload_n 1, 1) := by decide +kernel
theorem dX4_wasShop_5 : decode cX4_wasShop 5 = .ok (.aload_n 0, 1) := by decide +kernel
theorem dX4_wasShop_6 : decode cX4_wasShop 6 = .ok (.getfield 45, 3) := by decide +kernel
theorem dX4_wasShop_9 : decode cX4_wasShop 9 = .ok (.if_icmp .ge 7, 3) := by decide +kernel
theorem dX4_wasShop_12 : decode cX4_wasShop 12 = .ok (.iconst 1, 1) := by decide +kernel
theorem dX4_wasShop_13 : decode cX4_wasShop 13 = .ok (.goto 4, 3) := by decide +kernel
theorem dX4_wasShop_16 : decode cX4_wasShop 16 = .ok (.iconst 0, 1) := by decide +kernel
theorem dX4_wasShop_17 : decode cX4_wasShop 17 = .ok (.ireturn, 1) := by decide +kernel
set_option maxRecDepth 20000 in
theorem ggX4_isShop_X4_wasShop : GoodIn wsX4_isShop wsX4_wasShop := goodIn_r _ [6, 7, 20, 21, 22, 23, 24, 25, 26, 27, 28] (by decide +kernel) (by decide +kernel)
set_option maxRecDepth 20000 in
theorem gX4_isShop_X4_wasShop : GoodIn wsX4_isShop (wsV RX4 200 RX4 yX4_wasShop wsX4_wasShop) := goodIn_app (goodIn_of _ (by decide +kernel)) ggX4_isShop_X4_wasShop
set_option maxRecDepth 20000 in
theorem ggX4_isShop_X2_get : GoodIn wsX4_isShop wsX2_get := goodIn_r _ [12, 13, 14, 15, 16, 11, 17, 18, 19, 29, 30, 31] (by decide +kernel) (by decide +kernel)
set_option maxRecDepth 20000 in
theorem gX4_isShop_X2_get : GoodIn wsX4_isShop (wsV RX4 145 RX2 yX2_get wsX2_get) := goodIn_app (goodIn_of _ (by decide +kernel)) ggX4_isShop_X2_get
theorem dX4_isShop_0 : decode cX4_isShop 0 = .ok (.aload_n 0, 1) := by decide +kernel
theorem dX4_isShop_1 : decode cX4_isShop 1 = .ok (.iload_n 1, 1) := by decide +kernel
theorem dX4_isShop_2 : decode cX4_isShop 2 = .ok (.invokevirtual 200, 3) := by decide +kernel
theorem dX4_isShop_5 : decode cX4_isShop 5 = .ok (.ifCond .eq 19, 3) := by decide +kernel
theorem dX4_isShop_8 : decode cX4_isShop 8 = .ok (.aload_n 0, 1) := by decide +kernel
theorem dX4_isShop_9 : decode cX4_isShop 9 = .ok (.getfield 14, 3) := by decide +kernel
theorem dX4_isShop_12 : decode cX4_isShop 12 = .ok (.iload_n 1, 1) := by decide +kernel
theorem dX4_isShop_13 : decode cX4_isShop 13 = .ok (.iconst 0, 1) := by decide +kernel
theorem dX4_isShop_14 : decode cX4_isShop 14 = .ok (.invokevirtual 145, 3) := by decide +kernel
theorem dX4_isShop_17 : decode cX4_isShop 17 = .ok (.ifCond .ne 7, 3) := by decide +kernel
theorem dX4_isShop_20 : decode cX4_isShop 20 = .ok (.iconst 1, 1) := by decide +kernel
theorem dX4_isShop_21 : decode cX4_isShop 21 = .ok (.goto 4, 3) := by decide +kernel
theorem dX4_isShop_24 : decode cX4_isShop 24 = .ok (.iconst 0, 1) := by decide +kernel
theorem dX4_isShop_25 : decode cX4_isShop 25 = .ok (.ireturn, 1) := by decide +kernel
set_option maxRecDepth 20000 in
theorem ggX4_needShop_X4_isShop : GoodIn wsX4_needShop wsX4_isShop := goodIn_r _ [7, 8, 9, 10, 11, 6, 12, 13, 14, 15, 16, 17, 18, 19, 20, 21, 22, 23, 24, 25, 26, 27, 28, 29, 30, 31, 32, 33, 34, 35, 36, 37] (by decide +kernel) (by decide +kernel)
set_option maxRecDepth 20000 in
theorem gX4_needShop_X4_isShop : GoodIn wsX4_needShop (wsV RX4 121 RX4 yX4_isShop wsX4_isShop) := goodIn_app (goodIn_of _ (by decide +kernel)) ggX4_needShop_X4_isShop
theorem dX4_needShop_0 : decode cX4_needShop 0 = .ok (.aload_n 0, 1) := by decide +kernel
theorem dX4_needShop_1 : decode cX4_needShop 1 = .ok (.iload_n 1, 1) := by decide +kernel
theorem dX4_needShop_2 : decode cX4_needShop 2 = .ok (.invokevirtual 121, 3) := by decide +kernel
theorem dX4_needShop_5 : decode cX4_needShop 5 = .ok (.ifCond .ne 13, 3) := by decide +kernel
theorem dX4_needShop_8 : decode cX4_needShop 8 = .ok (.new 194, 3) := by decide +kernel
theorem dX4_needShop_11 : decode cX4_needShop 11 = .ok (.dup, 1) := by decide +kernel
theorem dX4_needShop_12 : decode cX4_needShop 12 = .ok (.ldc 203, 2) := by decide +kernel
theorem dX4_needShop_14 : decode cX4_needShop 14 = .ok (.invokespecial 198, 3) := by decide +kernel
theorem dX4_needShop_17 : decode cX4_needShop 17 = .ok (.athrow, 1) := by decide +kernel
theorem dX4_needShop_18 : decode cX4_needShop 18 = .ok (.return_, 1) := by decide +kernel
set_option maxRecDepth 20000 in
theorem ggX4_needShopEver_X4_wasShop : GoodIn wsX4_needShopEver wsX4_wasShop := goodIn_r _ [7, 8, 9, 10, 11, 12, 13, 14, 15, 16, 17] (by decide +kernel) (by decide +kernel)
set_option maxRecDepth 20000 in
theorem gX4_needShopEver_X4_wasShop : GoodIn wsX4_needShopEver (wsV RX4 200 RX4 yX4_wasShop wsX4_wasShop) := goodIn_app (goodIn_of _ (by decide +kernel)) ggX4_needShopEver_X4_wasShop
theorem dX4_needShopEver_0 : decode cX4_needShopEver 0 = .ok (.aload_n 0, 1) := by decide +kernel
theorem dX4_needShopEver_1 : decode cX4_needShopEver 1 = .ok (.iload_n 1, 1) := by decide +kernel
theorem dX4_needShopEver_2 : decode cX4_needShopEver 2 = .ok (.invokevirtual 200, 3) := by decide +kernel
theorem dX4_needShopEver_5 : decode cX4_needShopEver 5 = .ok (.ifCond .ne 13, 3) := by decide +kernel
theorem dX4_needShopEver_8 : decode cX4_needShopEver 8 = .ok (.new 194, 3) := by decide +kernel
theorem dX4_needShopEver_11 : decode cX4_needShopEver 11 = .ok (.dup, 1) := by decide +kernel
theorem dX4_needShopEver_12 : decode cX4_needShopEver 12 = .ok (.ldc 205, 2) := by decide +kernel
theorem dX4_needShopEver_14 : decode cX4_needShopEver 14 = .ok (.invokespecial 198, 3) := by decide +kernel
theorem dX4_needShopEver_17 : decode cX4_needShopEver 17 = .ok (.athrow, 1) := by decide +kernel
theorem dX4_needShopEver_18 : decode cX4_needShopEver 18 = .ok (.return_, 1) := by decide +kernel
set_option maxRecDepth 20000 in
theorem ggX4_needShopEverOrHouse_X4_needShopEver : GoodIn wsX4_needShopEverOrHouse wsX4_needShopEver := goodIn_ca (goodIn_r _ [5, 6, 7, 8, 9, 10, 4, 11, 12, 13, 14, 15, 16, 17, 18, 19, 20, 21] (by decide +kernel) (by decide +kernel)) (goodIn_sub (fun _ h => List.mem_cons_of_mem _ (List.mem_append_right _ h)) (by decide +kernel))
set_option maxRecDepth 20000 in
theorem gX4_needShopEverOrHouse_X4_needShopEver : GoodIn wsX4_needShopEverOrHouse (wsV RX4 178 RX4 yX4_needShopEver wsX4_needShopEver) := goodIn_app (goodIn_of _ (by decide +kernel)) ggX4_needShopEverOrHouse_X4_needShopEver
theorem dX4_needShopEverOrHouse_0 : decode cX4_needShopEverOrHouse 0 = .ok (.iload_n 1, 1) := by decide +kernel
theorem dX4_needShopEverOrHouse_1 : decode cX4_needShopEverOrHouse 1 = .ok (.bipush 8, 2) := by decide +kernel
theorem dX4_needShopEverOrHouse_3 : decode cX4_needShopEverOrHouse 3 = .ok (.if_icmp .eq 8, 3) := by decide +kernel
theorem dX4_needShopEverOrHouse_6 : decode cX4_needShopEverOrHouse 6 = .ok (.aload_n 0, 1) := by decide +kernel
theorem dX4_needShopEverOrHouse_7 : decode cX4_needShopEverOrHouse 7 = .ok (.iload_n 1, 1) := by decide +kernel
theorem dX4_needShopEverOrHouse_8 : decode cX4_needShopEverOrHouse 8 = .ok (.invokevirtual 178, 3) := by decide +kernel
theorem dX4_needShopEverOrHouse_11 : decode cX4_needShopEverOrHouse 11 = .ok (.return_, 1) := by decide +kernel
set_option maxRecDepth 20000 in
theorem ggX4_needTrade_X3_has : GoodIn wsX4_needTrade wsX3_has := goodIn_r _ [8, 9, 19, 20] (by decide +kernel) (by decide +kernel)
set_option maxRecDepth 20000 in
theorem gX4_needTrade_X3_has : GoodIn wsX4_needTrade (wsV RX4 207 RX3 yX3_has wsX3_has) := goodIn_app (goodIn_of _ (by decide +kernel)) ggX4_needTrade_X3_has
theorem dX4_needTrade_0 : decode cX4_needTrade 0 = .ok (.aload_n 0, 1) := by decide +kernel
theorem dX4_needTrade_1 : decode cX4_needTrade 1 = .ok (.getfield 21, 3) := by decide +kernel
theorem dX4_needTrade_4 : decode cX4_needTrade 4 = .ok (.iload_n 1, 1) := by decide +kernel
theorem dX4_needTrade_5 : decode cX4_needTrade 5 = .ok (.invokevirtual 207, 3) := by decide +kernel
theorem dX4_needTrade_8 : decode cX4_needTrade 8 = .ok (.ifCond .ne 13, 3) := by decide +kernel
theorem dX4_needTrade_11 : decode cX4_needTrade 11 = .ok (.new 194, 3) := by decide +kernel
theorem dX4_needTrade_14 : decode cX4_needTrade 14 = .ok (.dup, 1) := by decide +kernel
theorem dX4_needTrade_15 : decode cX4_needTrade 15 = .ok (.ldc 210, 2) := by decide +kernel
theorem dX4_needTrade_17 : decode cX4_needTrade 17 = .ok (.invokespecial 198, 3) := by decide +kernel
theorem dX4_needTrade_20 : decode cX4_needTrade 20 = .ok (.athrow, 1) := by decide +kernel
theorem dX4_needTrade_21 : decode cX4_needTrade 21 = .ok (.return_, 1) := by decide +kernel
theorem dX4_needRange_0 : decode cX4_needRange 0 = .ok (.iload_n 0, 1) := by decide +kernel
theorem dX4_needRange_1 : decode cX4_needRange 1 = .ok (.iload_n 1, 1) := by decide +kernel
theorem dX4_needRange_2 : decode cX4_needRange 2 = .ok (.if_icmp .lt 8, 3) := by decide +kernel
theorem dX4_needRange_5 : decode cX4_needRange 5 = .ok (.iload_n 0, 1) := by decide +kernel
theorem dX4_needRange_6 : decode cX4_needRange 6 = .ok (.iload_n 2, 1) := by decide +kernel
theorem dX4_needRange_7 : decode cX4_needRange 7 = .ok (.if_icmp .le 13, 3) := by decide +kernel
theorem dX4_needRange_10 : decode cX4_needRange 10 = .ok (.new 212, 3) := by decide +kernel
theorem dX4_needRange_13 : decode cX4_needRange 13 = .ok (.dup, 1) := by decide +kernel
theorem dX4_needRange_14 : decode cX4_needRange 14 = .ok (.ldc 214, 2) := by decide +kernel
theorem dX4_needRange_16 : decode cX4_needRange 16 = .ok (.invokespecial 216, 3) := by decide +kernel
theorem dX4_needRange_19 : decode cX4_needRange 19 = .ok (.athrow, 1) := by decide +kernel
theorem dX4_needRange_20 : decode cX4_needRange 20 = .ok (.return_, 1) := by decide +kernel
theorem dX4_needUnlike_0 : decode cX4_needUnlike 0 = .ok (.iload_n 0, 1) := by decide +kernel
theorem dX4_needUnlike_1 : decode cX4_needUnlike 1 = .ok (.iload_n 1, 1) := by decide +kernel
theorem dX4_needUnlike_2 : decode cX4_needUnlike 2 = .ok (.if_icmp .ne 13, 3) := by decide +kernel
theorem dX4_needUnlike_5 : decode cX4_needUnlike 5 = .ok (.new 212, 3) := by decide +kernel
theorem dX4_needUnlike_8 : decode cX4_needUnlike 8 = .ok (.dup, 1) := by decide +kernel
theorem dX4_needUnlike_9 : decode cX4_needUnlike 9 = .ok (.ldc 217, 2) := by decide +kernel
theorem dX4_needUnlike_11 : decode cX4_needUnlike 11 = .ok (.invokespecial 216, 3) := by decide +kernel
theorem dX4_needUnlike_14 : decode cX4_needUnlike 14 = .ok (.athrow, 1) := by decide +kernel
theorem dX4_needUnlike_15 : decode cX4_needUnlike 15 = .ok (.return_, 1) := by decide +kernel
set_option maxRecDepth 20000 in
theorem ggX4_needGuaranteeArguments_X4_needShop : GoodIn wsX4_needGuaranteeArguments wsX4_needShop := goodIn_ca (goodIn_r _ [5, 6, 7, 8, 9, 10, 4, 11, 12, 13, 14, 15, 16, 17, 18, 19, 20, 21, 22, 23, 24, 25, 26, 27, 28, 29, 38, 39, 40, 41, 42, 43, 44, 45, 46, 47, 48, 49] (by decide +kernel) (by decide +kernel)) (goodIn_sub (fun _ h => List.mem_cons_of_mem _ (List.mem_append_left _ (List.mem_append_right _ h))) (by decide +kernel))
set_option maxRecDepth 20000 in
theorem gX4_needGuaranteeArguments_X4_needShop : GoodIn wsX4_needGuaranteeArguments (wsV RX4 62 RX4 yX4_needShop wsX4_needShop) := goodIn_app (goodIn_of _ (by decide +kernel)) ggX4_needGuaranteeArguments_X4_needShop
set_option maxRecDepth 20000 in
theorem ggX4_needGuaranteeArguments_X4_needRange : GoodIn wsX4_needGuaranteeArguments wsX4_needRange := goodIn_ca (goodIn_r _ [32, 33, 34] (by decide +kernel) (by decide +kernel)) (goodIn_sub (fun _ h => List.mem_cons_of_mem _ (List.mem_append_right _ h)) (by decide +kernel))
set_option maxRecDepth 20000 in
theorem gX4_needGuaranteeArguments_X4_needRange : GoodIn wsX4_needGuaranteeArguments (va_wsS RX4 92 yX4_needRange wsX4_needRange) := goodIn_app (goodIn_of _ (by decide +kernel)) ggX4_needGuaranteeArguments_X4_needRange
set_option maxRecDepth 20000 in
theorem ggX4_needGuaranteeArguments_X4_needUnlike : GoodIn wsX4_needGuaranteeArguments wsX4_needUnlike := goodIn_ca (goodIn_r _ [37, 33, 34] (by decide +kernel) (by decide +kernel)) (goodIn_sub (fun _ h => List.mem_cons_of_mem _ (List.mem_append_right _ h)) (by decide +kernel))
set_option maxRecDepth 20000 in
theorem gX4_needGuaranteeArguments_X4_needUnlike : GoodIn wsX4_needGuaranteeArguments (va_wsS RX4 95 yX4_needUnlike wsX4_needUnlike) := goodIn_app (goodIn_of _ (by decide +kernel)) ggX4_needGuaranteeArguments_X4_needUnlike
theorem dX4_needGuaranteeArguments_0 : decode cX4_needGuaranteeArguments 0 = .ok (.aload_n 0, 1) := by decide +kernel
theorem dX4_needGuaranteeArguments_1 : decode cX4_needGuaranteeArguments 1 = .ok (.iload_n 1, 1) := by decide +kernel
theorem dX4_needGuaranteeArguments_2 : decode cX4_needGuaranteeArguments 2 = .ok (.invokevirtual 62, 3) := by decide +kernel
theorem dX4_needGuaranteeArguments_5 : decode cX4_needGuaranteeArguments 5 = .ok (.aload_n 0, 1) := by decide +kernel
theorem dX4_needGuaranteeArguments_6 : decode cX4_needGuaranteeArguments 6 = .ok (.iload_n 2, 1) := by decide +kernel
theorem dX4_needGuaranteeArguments_7 : decode cX4_needGuaranteeArguments 7 = .ok (.invokevirtual 62, 3) := by decide +kernel
theorem dX4_needGuaranteeArguments_10 : decode cX4_needGuaranteeArguments 10 = .ok (.iload_n 3, 1) := by decide +kernel
theorem dX4_needGuaranteeArguments_11 : decode cX4_needGuaranteeArguments 11 = .ok (.iconst 1, 1) := by decide +kernel
theorem dX4_needGuaranteeArguments_12 : decode cX4_needGuaranteeArguments 12 = .ok (.sipush 500, 3) := by decide +kernel
theorem dX4_needGuaranteeArguments_15 : decode cX4_needGuaranteeArguments 15 = .ok (.invokestatic 92, 3) := by decide +kernel
theorem dX4_needGuaranteeArguments_18 : decode cX4_needGuaranteeArguments 18 = .ok (.iload_n 1, 1) := by decide +kernel
theorem dX4_needGuaranteeArguments_19 : decode cX4_needGuaranteeArguments 19 = .ok (.iload_n 2, 1) := by decide +kernel
theorem dX4_needGuaranteeArguments_20 : decode cX4_needGuaranteeArguments 20 = .ok (.invokestatic 95, 3) := by decide +kernel
theorem dX4_needGuaranteeArguments_23 : decode cX4_needGuaranteeArguments 23 = .ok (.return_, 1) := by decide +kernel
set_option maxRecDepth 20000 in
theorem ggX4_needBearable_X0_balanceOf : GoodIn wsX4_needBearable wsX0_balanceOf := goodIn_r _ [8, 9, 10, 11, 12, 13, 14, 15, 16, 17, 18, 19, 20, 21, 22, 23, 24, 25, 26, 27, 28, 29, 65, 66, 67, 68, 69] (by decide +kernel) (by decide +kernel)
set_option maxRecDepth 20000 in
theorem gX4_needBearable_X0_balanceOf : GoodIn wsX4_needBearable (wsV RX4 165 RX0 yX0_balanceOf wsX0_balanceOf) := goodIn_app (goodIn_of _ (by decide +kernel)) ggX4_needBearable_X0_balanceOf
set_option maxRecDepth 20000 in
theorem ggX4_needBearable_X4_limitOf : GoodIn wsX4_needBearable wsX4_limitOf := goodIn_r _ [34, 35, 36, 37, 38, 39, 40, 41, 42, 43, 44, 45, 46, 47, 48, 49, 50, 51, 52, 53, 17, 18, 13, 19, 20, 21, 22, 23, 24, 15, 25, 54, 11, 12, 14, 16, 55, 27, 28, 29, 56, 57, 58, 59, 60, 61, 62, 63, 64, 70, 71, 67, 68, 69] (by decide +kernel) (by decide +kernel)
set_option maxRecDepth 20000 in
theorem gX4_needBearable_X4_limitOf : GoodIn wsX4_needBearable (wsV RX4 175 RX4 yX4_limitOf wsX4_limitOf) := goodIn_app (goodIn_of _ (by decide +kernel)) ggX4_needBearable_X4_limitOf
theorem dX4_needBearable_0 : decode cX4_needBearable 0 = .ok (.aload_n 0, 1) := by decide +kernel
theorem dX4_needBearable_1 : decode cX4_needBearable 1 = .ok (.getfield 28, 3) := by decide +kernel
theorem dX4_needBearable_4 : decode cX4_needBearable 4 = .ok (.iload_n 1, 1) := by decide +kernel
theorem dX4_needBearable_5 : decode cX4_needBearable 5 = .ok (.invokevirtual 165, 3) := by decide +kernel
theorem dX4_needBearable_8 : decode cX4_needBearable 8 = .ok (.aload_n 0, 1) := by decide +kernel
theorem dX4_needBearable_9 : decode cX4_needBearable 9 = .ok (.iload_n 1, 1) := by decide +kernel
theorem dX4_needBearable_10 : decode cX4_needBearable 10 = .ok (.invokevirtual 175, 3) := by decide +kernel
theorem dX4_needBearable_13 : decode cX4_needBearable 13 = .ok (.iadd, 1) := by decide +kernel
theorem dX4_needBearable_14 : decode cX4_needBearable 14 = .ok (.iload_n 2, 1) := by decide +kernel
theorem dX4_needBearable_15 : decode cX4_needBearable 15 = .ok (.isub, 1) := by decide +kernel
theorem dX4_needBearable_16 : decode cX4_needBearable 16 = .ok (.ifCond .ge 13, 3) := by decide +kernel
theorem dX4_needBearable_19 : decode cX4_needBearable 19 = .ok (.new 55, 3) := by decide +kernel
theorem dX4_needBearable_22 : decode cX4_needBearable 22 = .ok (.dup, 1) := by decide +kernel
theorem dX4_needBearable_23 : decode cX4_needBearable 23 = .ok (.ldc 219, 2) := by decide +kernel
theorem dX4_needBearable_25 : decode cX4_needBearable 25 = .ok (.invokespecial 59, 3) := by decide +kernel
theorem dX4_needBearable_28 : decode cX4_needBearable 28 = .ok (.athrow, 1) := by decide +kernel
theorem dX4_needBearable_29 : decode cX4_needBearable 29 = .ok (.return_, 1) := by decide +kernel
set_option maxRecDepth 20000 in
theorem ggX4_limitOf_X3_amountsSince : GoodIn wsX4_limitOf wsX3_amountsSince := goodIn_r _ [8, 9, 10, 11, 12, 7, 13, 14, 15, 16, 17, 18, 19, 20, 21, 22, 23, 24, 25, 26, 27, 28, 29, 30, 49, 50, 51, 52, 53] (by decide +kernel) (by decide +kernel)
set_option maxRecDepth 20000 in
theorem gX4_limitOf_X3_amountsSince : GoodIn wsX4_limitOf (wsV RX4 221 RX3 yX3_amountsSince wsX3_amountsSince) := goodIn_app (goodIn_of _ (by decide +kernel)) ggX4_limitOf_X3_amountsSince
set_option maxRecDepth 20000 in
theorem ggX4_limitOf_X2_columnSum : GoodIn wsX4_limitOf wsX2_columnSum := goodIn_r _ [34, 29, 35, 20, 21, 22, 23, 24, 25, 26, 27, 28, 30, 51, 52, 53] (by decide +kernel) (by decide +kernel)
set_option maxRecDepth 20000 in
theorem gX4_limitOf_X2_columnSum : GoodIn wsX4_limitOf (wsV RX4 169 RX2 yX2_columnSum wsX2_columnSum) := goodIn_app (goodIn_of _ (by decide +kernel)) ggX4_limitOf_X2_columnSum
set_option maxRecDepth 20000 in
theorem ggX4_limitOf_X2_rowSum : GoodIn wsX4_limitOf wsX2_rowSum := goodIn_r _ [39, 30, 35, 20, 21, 22, 23, 24, 25, 26, 27, 28, 29, 51, 52, 53] (by decide +kernel) (by decide +kernel)
set_option maxRecDepth 20000 in
theorem gX4_limitOf_X2_rowSum : GoodIn wsX4_limitOf (wsV RX4 172 RX2 yX2_rowSum wsX2_rowSum) := goodIn_app (goodIn_of _ (by decide +kernel)) ggX4_limitOf_X2_rowSum
theorem dX4_limitOf_0 : decode cX4_limitOf 0 = .ok (.aload_n 0, 1) := by decide +kernel
theorem dX4_limitOf_1 : decode cX4_limitOf 1 = .ok (.getfield 21, 3) := by decide +kernel
theorem dX4_limitOf_4 : decode cX4_limitOf 4 = .ok (.iload_n 1, 1) := by decide +kernel
theorem dX4_limitOf_5 : decode cX4_limitOf 5 = .ok (.aload_n 0, 1) := by decide +kernel
theorem dX4_limitOf_6 : decode cX4_limitOf 6 = .ok (.getfield 49, 3) := by decide +kernel
theorem dX4_limitOf_9 : decode cX4_limitOf 9 = .ok (.bipush 10, 2) := by decide +kernel
theorem dX4_limitOf_11 : decode cX4_limitOf 11 = .ok (.isub, 1) := by decide +kernel
theorem dX4_limitOf_12 : decode cX4_limitOf 12 = .ok (.iconst 1, 1) := by decide +kernel
theorem dX4_limitOf_13 : decode cX4_limitOf 13 = .ok (.iadd, 1) := by decide +kernel
theorem dX4_limitOf_14 : decode cX4_limitOf 14 = .ok (.invokevirtual 221, 3) := by decide +kernel
theorem dX4_limitOf_17 : decode cX4_limitOf 17 = .ok (.istore_n 2, 1) := by decide +kernel
theorem dX4_limitOf_18 : decode cX4_limitOf 18 = .ok (.sipush 500, 3) := by decide +kernel
theorem dX4_limitOf_21 : decode cX4_limitOf 21 = .ok (.aload_n 0, 1) := by decide +kernel
theorem dX4_limitOf_22 : decode cX4_limitOf 22 = .ok (.getfield 32, 3) := by decide +kernel
theorem dX4_limitOf_25 : decode cX4_limitOf 25 = .ok (.iload_n 1, 1) := by decide +kernel
theorem dX4_limitOf_26 : decode cX4_limitOf 26 = .ok (.invokevirtual 169, 3) := by decide +kernel
theorem dX4_limitOf_29 : decode cX4_limitOf 29 = .ok (.iadd, 1) := by decide +kernel
theorem dX4_limitOf_30 : decode cX4_limitOf 30 = .ok (.aload_n 0, 1) := by decide +kernel
theorem dX4_limitOf_31 : decode cX4_limitOf 31 = .ok (.getfield 32, 3) := by decide +kernel
theorem dX4_limitOf_34 : decode cX4_limitOf 34 = .ok (.iload_n 1, 1) := by decide +kernel
theorem dX4_limitOf_35 : decode cX4_limitOf 35 = .ok (.invokevirtual 172, 3) := by decide +kernel
theorem dX4_limitOf_38 : decode cX4_limitOf 38 = .ok (.isub, 1) := by decide +kernel
theorem dX4_limitOf_39 : decode cX4_limitOf 39 = .ok (.iload_n 2, 1) := by decide +kernel
theorem dX4_limitOf_40 : decode cX4_limitOf 40 = .ok (.bipush 10, 2) := by decide +kernel
theorem dX4_limitOf_42 : decode cX4_limitOf 42 = .ok (.idiv, 1) := by decide +kernel
theorem dX4_limitOf_43 : decode cX4_limitOf 43 = .ok (.iadd, 1) := by decide +kernel
theorem dX4_limitOf_44 : decode cX4_limitOf 44 = .ok (.ireturn, 1) := by decide +kernel
set_option maxRecDepth 20000 in
theorem ggX4_isIdleShop_X0_balanceOf : GoodIn wsX4_isIdleShop wsX0_balanceOf := goodIn_r _ [8, 9, 10, 11, 12, 13, 14, 15, 16, 17, 18, 19, 20, 21, 22, 23, 24, 25, 26, 27, 28, 29, 55, 56, 57, 58, 59] (by decide +kernel) (by decide +kernel)
set_option maxRecDepth 20000 in
theorem gX4_isIdleShop_X0_balanceOf : GoodIn wsX4_isIdleShop (wsV RX4 165 RX0 yX0_balanceOf wsX0_balanceOf) := goodIn_app (goodIn_of _ (by decide +kernel)) ggX4_isIdleShop_X0_balanceOf
set_option maxRecDepth 20000 in
theorem ggX4_isIdleShop_X3_hasSince : GoodIn wsX4_isIdleShop wsX3_hasSince := goodIn_r _ [34, 35, 36, 37, 38, 33, 39, 40, 41, 42, 43, 44, 45, 17, 18, 13, 19, 20, 21, 22, 23, 24, 15, 25, 60, 61, 57, 58, 59] (by decide +kernel) (by decide +kernel)
set_option maxRecDepth 20000 in
theorem gX4_isIdleShop_X3_hasSince : GoodIn wsX4_isIdleShop (wsV RX4 224 RX3 yX3_hasSince wsX3_hasSince) := goodIn_app (goodIn_of _ (by decide +kernel)) ggX4_isIdleShop_X3_hasSince
theorem dX4_isIdleShop_0 : decode cX4_isIdleShop 0 = .ok (.aload_n 0, 1) := by decide +kernel
theorem dX4_isIdleShop_1 : decode cX4_isIdleShop 1 = .ok (.getfield 28, 3) := by decide +kernel
theorem dX4_isIdleShop_4 : decode cX4_isIdleShop 4 = .ok (.iload_n 1, 1) := by decide +kernel
theorem dX4_isIdleShop_5 : decode cX4_isIdleShop 5 = .ok (.invokevirtual 165, 3) := by decide +kernel
theorem dX4_isIdleShop_8 : decode cX4_isIdleShop 8 = .ok (.ifCond .le 26, 3) := by decide +kernel
theorem dX4_isIdleShop_11 : decode cX4_isIdleShop 11 = .ok (.aload_n 0, 1) := by decide +kernel
theorem dX4_isIdleShop_12 : decode cX4_isIdleShop 12 = .ok (.getfield 21, 3) := by decide +kernel
theorem dX4_isIdleShop_15 : decode cX4_isIdleShop 15 = .ok (.iload_n 1, 1) := by decide +kernel
theorem dX4_isIdleShop_16 : decode cX4_isIdleShop 16 = .ok (.aload_n 0, 1) := by decide +kernel
theorem dX4_isIdleShop_17 : decode cX4_isIdleShop 17 = .ok (.getfield 49, 3) := by decide +kernel
theorem dX4_isIdleShop_20 : decode cX4_isIdleShop 20 = .ok (.iconst 5, 1) := by decide +kernel
theorem dX4_isIdleShop_21 : decode cX4_isIdleShop 21 = .ok (.isub, 1) := by decide +kernel
theorem dX4_isIdleShop_22 : decode cX4_isIdleShop 22 = .ok (.iconst 1, 1) := by decide +kernel
theorem dX4_isIdleShop_23 : decode cX4_isIdleShop 23 = .ok (.iadd, 1) := by decide +kernel
theorem dX4_isIdleShop_24 : decode cX4_isIdleShop 24 = .ok (.invokevirtual 224, 3) := by decide +kernel
theorem dX4_isIdleShop_27 : decode cX4_isIdleShop 27 = .ok (.ifCond .ne 7, 3) := by decide +kernel
theorem dX4_isIdleShop_30 : decode cX4_isIdleShop 30 = .ok (.iconst 1, 1) := by decide +kernel
theorem dX4_isIdleShop_31 : decode cX4_isIdleShop 31 = .ok (.goto 4, 3) := by decide +kernel
theorem dX4_isIdleShop_34 : decode cX4_isIdleShop 34 = .ok (.iconst 0, 1) := by decide +kernel
theorem dX4_isIdleShop_35 : decode cX4_isIdleShop 35 = .ok (.ireturn, 1) := by decide +kernel
set_option maxRecDepth 20000 in
theorem ggX4_payFees_X4_isIdleShop : GoodIn wsX4_payFees wsX4_isIdleShop := goodIn_r _ [5, 6, 7, 8, 9, 10, 11, 12, 13, 14, 15, 16, 17, 18, 19, 20, 21, 22, 23, 24, 25, 26, 27, 28, 29, 30, 31, 32, 33, 34, 35, 36, 37, 38, 39, 40, 41, 42, 43, 44, 45, 46, 47, 48, 49, 50, 89, 90, 91, 92, 93, 94, 95, 96, 97, 98, 99, 100, 101, 102, 103, 104] (by decide +kernel) (by decide +kernel)
set_option maxRecDepth 20000 in
theorem gX4_payFees_X4_isIdleShop : GoodIn wsX4_payFees (wsV RX4 187 RX4 yX4_isIdleShop wsX4_isIdleShop) := goodIn_app (goodIn_of _ (by decide +kernel)) ggX4_payFees_X4_isIdleShop
set_option maxRecDepth 20000 in
theorem ggX4_payFees_X4_payFee : GoodIn wsX4_payFees wsX4_payFee := goodIn_r _ [54, 6, 55, 56, 57, 58, 59, 60, 9, 10, 11, 12, 13, 14, 15, 16, 17, 18, 19, 20, 21, 22, 23, 24, 25, 26, 27, 28, 29, 30, 31, 32, 33, 34, 61, 62, 63, 64, 65, 66, 67, 68, 69, 70, 71, 72, 73, 74, 75, 76, 77, 78, 79, 80, 81, 82, 83, 84, 85, 86, 87, 88, 89, 90, 91, 92, 93, 94, 95, 96, 97, 98, 99, 100, 101, 102] (by decide +kernel) (by decide +kernel)
set_option maxRecDepth 20000 in
theorem gX4_payFees_X4_payFee : GoodIn wsX4_payFees (wsV RX4 228 RX4 yX4_payFee wsX4_payFee) := goodIn_app (goodIn_of _ (by decide +kernel)) ggX4_payFees_X4_payFee
theorem dX4_payFees_0 : decode cX4_payFees 0 = .ok (.iconst 0, 1) := by decide +kernel
theorem dX4_payFees_1 : decode cX4_payFees 1 = .ok (.istore_n 1, 1) := by decide +kernel
theorem dX4_payFees_2 : decode cX4_payFees 2 = .ok (.iload_n 1, 1) := by decide +kernel
theorem dX4_payFees_3 : decode cX4_payFees 3 = .ok (.bipush 8, 2) := by decide +kernel
theorem dX4_payFees_5 : decode cX4_payFees 5 = .ok (.if_icmp .ge 22, 3) := by decide +kernel
theorem dX4_payFees_8 : decode cX4_payFees 8 = .ok (.aload_n 0, 1) := by decide +kernel
theorem dX4_payFees_9 : decode cX4_payFees 9 = .ok (.iload_n 1, 1) := by decide +kernel
theorem dX4_payFees_10 : decode cX4_payFees 10 = .ok (.invokevirtual 187, 3) := by decide +kernel
theorem dX4_payFees_13 : decode cX4_payFees 13 = .ok (.ifCond .eq 8, 3) := by decide +kernel
theorem dX4_payFees_16 : decode cX4_payFees 16 = .ok (.aload_n 0, 1) := by decide +kernel
theorem dX4_payFees_17 : decode cX4_payFees 17 = .ok (.iload_n 1, 1) := by decide +kernel
theorem dX4_payFees_18 : decode cX4_payFees 18 = .ok (.invokevirtual 228, 3) := by decide +kernel
theorem dX4_payFees_21 : decode cX4_payFees 21 = .ok (.iinc 1 1, 3) := by decide +kernel
theorem dX4_payFees_24 : decode cX4_payFees 24 = .ok (.goto (-22), 3) := by decide +kernel
theorem dX4_payFees_27 : decode cX4_payFees 27 = .ok (.return_, 1) := by decide +kernel
set_option maxRecDepth 20000 in
theorem ggX4_payFee_X0_balanceOf : GoodIn wsX4_payFee wsX0_balanceOf := goodIn_r _ [12, 13, 14, 15, 16, 17, 18, 19, 20, 21, 22, 23, 24, 25, 26, 27, 28, 29, 30, 31, 32, 33, 71, 72, 73, 74, 75] (by decide +kernel) (by decide +kernel)
set_option maxRecDepth 20000 in
theorem gX4_payFee_X0_balanceOf : GoodIn wsX4_payFee (wsV RX4 165 RX0 yX0_balanceOf wsX0_balanceOf) := goodIn_app (goodIn_of _ (by decide +kernel)) ggX4_payFee_X0_balanceOf
set_option maxRecDepth 20000 in
theorem ggX4_payFee_X0_openTo : GoodIn wsX4_payFee wsX0_openTo := goodIn_r _ [37, 13, 38, 14, 15, 16, 17, 18, 19, 20, 21, 22, 23, 24, 25, 26, 27, 28, 29, 71, 72, 73, 74, 75] (by decide +kernel) (by decide +kernel)
set_option maxRecDepth 20000 in
theorem gX4_payFee_X0_openTo : GoodIn wsX4_payFee (wsV RX4 231 RX0 yX0_openTo wsX0_openTo) := goodIn_app (goodIn_of _ (by decide +kernel)) ggX4_payFee_X0_openTo
set_option maxRecDepth 20000 in
theorem ggX4_payFee_X0_greatestOpenDebtorOf : GoodIn wsX4_payFee wsX0_greatestOpenDebtorOf := goodIn_r _ [42, 43, 44, 45, 11, 46, 13, 38, 47, 21, 22, 17, 23, 24, 25, 26, 27, 28, 19, 29, 71, 72, 73, 74, 75] (by decide +kernel) (by decide +kernel)
set_option maxRecDepth 20000 in
theorem gX4_payFee_X0_greatestOpenDebtorOf : GoodIn wsX4_payFee (wsV RX4 234 RX0 yX0_greatestOpenDebtorOf wsX0_greatestOpenDebtorOf) := goodIn_app (goodIn_of _ (by decide +kernel)) ggX4_payFee_X0_greatestOpenDebtorOf
set_option maxRecDepth 20000 in
theorem ggX4_payFee_X0_open : GoodIn wsX4_payFee wsX0_open := goodIn_r _ [46, 13, 38, 47, 21, 22, 17, 23, 24, 25, 26, 27, 28, 19, 29, 71, 72, 73, 74, 75] (by decide +kernel) (by decide +kernel)
set_option maxRecDepth 20000 in
theorem gX4_payFee_X0_open : GoodIn wsX4_payFee (wsV RX4 126 RX0 yX0_open wsX0_open) := goodIn_app (goodIn_of _ (by decide +kernel)) ggX4_payFee_X0_open
set_option maxRecDepth 20000 in
theorem ggX4_payFee_X0_more : GoodIn wsX4_payFee wsX0_more := goodIn_r _ [52, 13, 53, 54, 55, 17, 56, 20, 21, 22, 23, 24, 25, 26, 27, 28, 19, 29, 57, 58, 59, 60, 71, 72, 73, 74, 75] (by decide +kernel) (by decide +kernel)
set_option maxRecDepth 20000 in
theorem gX4_payFee_X0_more : GoodIn wsX4_payFee (wsV RX4 107 RX0 yX0_more wsX0_more) := goodIn_app (goodIn_of _ (by decide +kernel)) ggX4_payFee_X0_more
set_option maxRecDepth 20000 in
theorem ggX4_payFee_X2_add : GoodIn wsX4_payFee wsX2_add := goodIn_r _ [56, 20, 21, 22, 17, 23, 24, 25, 26, 27, 28, 19, 29, 57, 58, 59, 60, 73, 74, 75] (by decide +kernel) (by decide +kernel)
set_option maxRecDepth 20000 in
theorem gX4_payFee_X2_add : GoodIn wsX4_payFee (wsV RX4 150 RX2 yX2_add wsX2_add) := goodIn_app (goodIn_of _ (by decide +kernel)) ggX4_payFee_X2_add
theorem dX4_payFee_0 : decode cX4_payFee 0 = .ok (.aload_n 0, 1) := by decide +kernel
theorem dX4_payFee_1 : decode cX4_payFee 1 = .ok (.getfield 28, 3) := by decide +kernel
theorem dX4_payFee_4 : decode cX4_payFee 4 = .ok (.iload_n 1, 1) := by decide +kernel
theorem dX4_payFee_5 : decode cX4_payFee 5 = .ok (.invokevirtual 165, 3) := by decide +kernel
theorem dX4_payFee_8 : decode cX4_payFee 8 = .ok (.aload_n 0, 1) := by decide +kernel
theorem dX4_payFee_9 : decode cX4_payFee 9 = .ok (.getfield 52, 3) := by decide +kernel
theorem dX4_payFee_12 : decode cX4_payFee 12 = .ok (.imul, 1) := by decide +kernel
theorem dX4_payFee_13 : decode cX4_payFee 13 = .ok (.sipush 1000, 3) := by decide +kernel
theorem dX4_payFee_16 : decode cX4_payFee 16 = .ok (.idiv, 1) := by decide +kernel
theorem dX4_payFee_17 : decode cX4_payFee 17 = .ok (.istore_n 2, 1) := by decide +kernel
theorem dX4_payFee_18 : decode cX4_payFee 18 = .ok (.iload_n 2, 1) := by decide +kernel
theorem dX4_payFee_19 : decode cX4_payFee 19 = .ok (.aload_n 0, 1) := by decide +kernel
theorem dX4_payFee_20 : decode cX4_payFee 20 = .ok (.getfield 28, 3) := by decide +kernel
theorem dX4_payFee_23 : decode cX4_payFee 23 = .ok (.iload_n 1, 1) := by decide +kernel
theorem dX4_payFee_24 : decode cX4_payFee 24 = .ok (.invokevirtual 231, 3) := by decide +kernel
theorem dX4_payFee_27 : decode cX4_payFee 27 = .ok (.invokestatic 129, 3) := by decide +kernel
theorem dX4_payFee_30 : decode cX4_payFee 30 = .ok (.istore_n 3, 1) := by decide +kernel
theorem dX4_payFee_31 : decode cX4_payFee 31 = .ok (.iconst 0, 1) := by decide +kernel
theorem dX4_payFee_32 : decode cX4_payFee 32 = .ok (.istore 4, 2) := by decide +kernel
theorem dX4_payFee_34 : decode cX4_payFee 34 = .ok (.iload 4, 2) := by decide +kernel
theorem dX4_payFee_36 : decode cX4_payFee 36 = .ok (.bipush 8, 2) := by decide +kernel
theorem dX4_payFee_38 : decode cX4_payFee 38 = .ok (.if_icmp .ge 82, 3) := by decide +kernel
theorem dX4_payFee_41 : decode cX4_payFee 41 = .ok (.iload_n 3, 1) := by decide +kernel
theorem dX4_payFee_42 : decode cX4_payFee 42 = .ok (.ifCond .le 78, 3) := by decide +kernel
theorem dX4_payFee_45 : decode cX4_payFee 45 = .ok (.aload_n 0, 1) := by decide +kernel
theorem dX4_payFee_46 : decode cX4_payFee 46 = .ok (.getfield 28, 3) := by decide +kernel
theorem dX4_payFee_49 : decode cX4_payFee 49 = .ok (.iload_n 1, 1) := by decide +kernel
theorem dX4_payFee_50 : decode cX4_payFee 50 = .ok (.invokevirtual 234, 3) := by decide +kernel
theorem dX4_payFee_53 : decode cX4_payFee 53 = .ok (.istore 5, 2) := by decide +kernel
theorem dX4_payFee_55 : decode cX4_payFee 55 = .ok (.iload_n 3, 1) := by decide +kernel
theorem dX4_payFee_56 : decode cX4_payFee 56 = .ok (.aload_n 0, 1) := by decide +kernel
theorem dX4_payFee_57 : decode cX4_payFee 57 = .ok (.getfield 28, 3) := by decide +kernel
theorem dX4_payFee_60 : decode cX4_payFee 60 = .ok (.iload 5, 2) := by decide +kernel
theorem dX4_payFee_62 : decode cX4_payFee 62 = .ok (.iload_n 1, 1) := by decide +kernel
theorem dX4_payFee_63 : decode cX4_payFee 63 = .ok (.invokevirtual 126, 3) := by decide +kernel
theorem dX4_payFee_66 : decode cX4_payFee 66 = .ok (.invokestatic 129, 3) := by decide +kernel
theorem dX4_payFee_69 : decode cX4_payFee 69 = .ok (.istore 6, 2) := by decide +kernel
theorem dX4_payFee_71 : decode cX4_payFee 71 = .ok (.aload_n 0, 1) := by decide +kernel
theorem dX4_payFee_72 : decode cX4_payFee 72 = .ok (.getfield 28, 3) := by decide +kernel
theorem dX4_payFee_75 : decode cX4_payFee 75 = .ok (.iload 5, 2) := by decide +kernel
theorem dX4_payFee_77 : decode cX4_payFee 77 = .ok (.iload_n 1, 1) := by decide +kernel
theorem dX4_payFee_78 : decode cX4_payFee 78 = .ok (.iload 6, 2) := by decide +kernel
theorem dX4_payFee_80 : decode cX4_payFee 80 = .ok (.ineg, 1) := by decide +kernel
theorem dX4_payFee_81 : decode cX4_payFee 81 = .ok (.invokevirtual 107, 3) := by decide +kernel
theorem dX4_payFee_84 : decode cX4_payFee 84 = .ok (.aload_n 0, 1) := by decide +kernel
theorem dX4_payFee_85 : decode cX4_payFee 85 = .ok (.getfield 28, 3) := by decide +kernel
theorem dX4_payFee_88 : decode cX4_payFee 88 = .ok (.iload 5, 2) := by decide +kernel
theorem dX4_payFee_90 : decode cX4_payFee 90 = .ok (.bipush 8, 2) := by decide +kernel
theorem dX4_payFee_92 : decode cX4_payFee 92 = .ok (.iload 6, 2) := by decide +kernel
theorem dX4_payFee_94 : decode cX4_payFee 94 = .ok (.invokevirtual 107, 3) := by decide +kernel
theorem dX4_payFee_97 : decode cX4_payFee 97 = .ok (.aload_n 0, 1) := by decide +kernel
theorem dX4_payFee_98 : decode cX4_payFee 98 = .ok (.getfield 35, 3) := by decide +kernel
theorem dX4_payFee_101 : decode cX4_payFee 101 = .ok (.iload_n 1, 1) := by decide +kernel
theorem dX4_payFee_102 : decode cX4_payFee 102 = .ok (.bipush 8, 2) := by decide +kernel
theorem dX4_payFee_104 : decode cX4_payFee 104 = .ok (.iload 6, 2) := by decide +kernel
theorem dX4_payFee_106 : decode cX4_payFee 106 = .ok (.invokevirtual 150, 3) := by decide +kernel
theorem dX4_payFee_109 : decode cX4_payFee 109 = .ok (.iload_n 3, 1) := by decide +kernel
theorem dX4_payFee_110 : decode cX4_payFee 110 = .ok (.iload 6, 2) := by decide +kernel
theorem dX4_payFee_112 : decode cX4_payFee 112 = .ok (.isub, 1) := by decide +kernel
theorem dX4_payFee_113 : decode cX4_payFee 113 = .ok (.istore_n 3, 1) := by decide +kernel
theorem dX4_payFee_114 : decode cX4_payFee 114 = .ok (.iinc 4 1, 3) := by decide +kernel
theorem dX4_payFee_117 : decode cX4_payFee 117 = .ok (.goto (-83), 3) := by decide +kernel
theorem dX4_payFee_120 : decode cX4_payFee 120 = .ok (.return_, 1) := by decide +kernel
set_option maxRecDepth 20000 in
theorem ggX4_passDebtsThrough_X0_owed : GoodIn wsX4_passDebtsThrough wsX0_owed := goodIn_r _ [10, 11, 12, 13, 14, 15, 16, 17, 18, 19, 20, 21, 22, 23, 51, 52, 53, 54, 55] (by decide +kernel) (by decide +kernel)
set_option maxRecDepth 20000 in
theorem gX4_passDebtsThrough_X0_owed : GoodIn wsX4_passDebtsThrough (wsV RX4 181 RX0 yX0_owed wsX0_owed) := goodIn_app (goodIn_of _ (by decide +kernel)) ggX4_passDebtsThrough_X0_owed
set_option maxRecDepth 20000 in
theorem ggX4_passDebtsThrough_X0_more : GoodIn wsX4_passDebtsThrough wsX0_more := goodIn_r _ [27, 11, 28, 29, 30, 15, 31, 32, 13, 14, 16, 17, 18, 19, 20, 21, 22, 23, 33, 34, 35, 36, 51, 52, 53, 54, 55] (by decide +kernel) (by decide +kernel)
set_option maxRecDepth 20000 in
theorem gX4_passDebtsThrough_X0_more : GoodIn wsX4_passDebtsThrough (wsV RX4 107 RX0 yX0_more wsX0_more) := goodIn_app (goodIn_of _ (by decide +kernel)) ggX4_passDebtsThrough_X0_more
set_option maxRecDepth 20000 in
theorem ggX4_passDebtsThrough_X4_takeOver : GoodIn wsX4_passDebtsThrough wsX4_takeOver := goodIn_r _ [41, 1, 24, 25, 26, 9, 27, 11, 28, 29, 30, 15, 31, 32, 13, 14, 16, 17, 18, 19, 20, 21, 22, 23, 33, 34, 35, 36, 42, 43, 44, 45, 46, 47, 48, 49, 50, 51, 52, 53, 54, 55] (by decide +kernel) (by decide +kernel)
set_option maxRecDepth 20000 in
theorem gX4_passDebtsThrough_X4_takeOver : GoodIn wsX4_passDebtsThrough (wsV RX4 237 RX4 yX4_takeOver wsX4_takeOver) := goodIn_app (goodIn_of _ (by decide +kernel)) ggX4_passDebtsThrough_X4_takeOver
theorem dX4_passDebtsThrough_0 : decode cX4_passDebtsThrough 0 = .ok (.iconst 0, 1) := by decide +kernel
theorem dX4_passDebtsThrough_1 : decode cX4_passDebtsThrough 1 = .ok (.istore_n 2, 1) := by decide +kernel
theorem dX4_passDebtsThrough_2 : decode cX4_passDebtsThrough 2 = .ok (.iload_n 2, 1) := by decide +kernel
theorem dX4_passDebtsThrough_3 : decode cX4_passDebtsThrough 3 = .ok (.bipush 8, 2) := by decide +kernel
theorem dX4_passDebtsThrough_5 : decode cX4_passDebtsThrough 5 = .ok (.if_icmp .ge 67, 3) := by decide +kernel
theorem dX4_passDebtsThrough_8 : decode cX4_passDebtsThrough 8 = .ok (.iconst 0, 1) := by decide +kernel
theorem dX4_passDebtsThrough_9 : decode cX4_passDebtsThrough 9 = .ok (.istore_n 3, 1) := by decide +kernel
theorem dX4_passDebtsThrough_10 : decode cX4_passDebtsThrough 10 = .ok (.iload_n 3, 1) := by decide +kernel
theorem dX4_passDebtsThrough_11 : decode cX4_passDebtsThrough 11 = .ok (.bipush 9, 2) := by decide +kernel
theorem dX4_passDebtsThrough_13 : decode cX4_passDebtsThrough 13 = .ok (.if_icmp .ge 53, 3) := by decide +kernel
theorem dX4_passDebtsThrough_16 : decode cX4_passDebtsThrough 16 = .ok (.aload_n 0, 1) := by decide +kernel
theorem dX4_passDebtsThrough_17 : decode cX4_passDebtsThrough 17 = .ok (.getfield 28, 3) := by decide +kernel
theorem dX4_passDebtsThrough_20 : decode cX4_passDebtsThrough 20 = .ok (.iload_n 2, 1) := by decide +kernel
theorem dX4_passDebtsThrough_21 : decode cX4_passDebtsThrough 21 = .ok (.iload_n 1, 1) := by decide +kernel
theorem dX4_passDebtsThrough_22 : decode cX4_passDebtsThrough 22 = .ok (.invokevirtual 181, 3) := by decide +kernel
theorem dX4_passDebtsThrough_25 : decode cX4_passDebtsThrough 25 = .ok (.aload_n 0, 1) := by decide +kernel
theorem dX4_passDebtsThrough_26 : decode cX4_passDebtsThrough 26 = .ok (.getfield 28, 3) := by decide +kernel
theorem dX4_passDebtsThrough_29 : decode cX4_passDebtsThrough 29 = .ok (.iload_n 1, 1) := by decide +kernel
theorem dX4_passDebtsThrough_30 : decode cX4_passDebtsThrough 30 = .ok (.iload_n 3, 1) := by decide +kernel
theorem dX4_passDebtsThrough_31 : decode cX4_passDebtsThrough 31 = .ok (.invokevirtual 181, 3) := by decide +kernel
theorem dX4_passDebtsThrough_34 : decode cX4_passDebtsThrough 34 = .ok (.invokestatic 129, 3) := by decide +kernel
theorem dX4_passDebtsThrough_37 : decode cX4_passDebtsThrough 37 = .ok (.istore 4, 2) := by decide +kernel
theorem dX4_passDebtsThrough_39 : decode cX4_passDebtsThrough 39 = .ok (.aload_n 0, 1) := by decide +kernel
theorem dX4_passDebtsThrough_40 : decode cX4_passDebtsThrough 40 = .ok (.getfield 28, 3) := by decide +kernel
theorem dX4_passDebtsThrough_43 : decode cX4_passDebtsThrough 43 = .ok (.iload_n 2, 1) := by decide +kernel
theorem dX4_passDebtsThrough_44 : decode cX4_passDebtsThrough 44 = .ok (.iload_n 1, 1) := by decide +kernel
theorem dX4_passDebtsThrough_45 : decode cX4_passDebtsThrough 45 = .ok (.iload 4, 2) := by decide +kernel
theorem dX4_passDebtsThrough_47 : decode cX4_passDebtsThrough 47 = .ok (.ineg, 1) := by decide +kernel
theorem dX4_passDebtsThrough_48 : decode cX4_passDebtsThrough 48 = .ok (.invokevirtual 107, 3) := by decide +kernel
theorem dX4_passDebtsThrough_51 : decode cX4_passDebtsThrough 51 = .ok (.aload_n 0, 1) := by decide +kernel
theorem dX4_passDebtsThrough_52 : decode cX4_passDebtsThrough 52 = .ok (.iload_n 2, 1) := by decide +kernel
theorem dX4_passDebtsThrough_53 : decode cX4_passDebtsThrough 53 = .ok (.iload_n 1, 1) := by decide +kernel
theorem dX4_passDebtsThrough_54 : decode cX4_passDebtsThrough 54 = .ok (.iload_n 3, 1) := by decide +kernel
theorem dX4_passDebtsThrough_55 : decode cX4_passDebtsThrough 55 = .ok (.iload 4, 2) := by decide +kernel
theorem dX4_passDebtsThrough_57 : decode cX4_passDebtsThrough 57 = .ok (.invokevirtual 237, 3) := by decide +kernel
theorem dX4_passDebtsThrough_60 : decode cX4_passDebtsThrough 60 = .ok (.iinc 3 1, 3) := by decide +kernel
theorem dX4_passDebtsThrough_63 : decode cX4_passDebtsThrough 63 = .ok (.goto (-53), 3) := by decide +kernel
theorem dX4_passDebtsThrough_66 : decode cX4_passDebtsThrough 66 = .ok (.iinc 2 1, 3) := by decide +kernel
theorem dX4_passDebtsThrough_69 : decode cX4_passDebtsThrough 69 = .ok (.goto (-67), 3) := by decide +kernel
theorem dX4_passDebtsThrough_72 : decode cX4_passDebtsThrough 72 = .ok (.return_, 1) := by decide +kernel
set_option maxRecDepth 20000 in
theorem ggX4_letGuarantorsPay_X0_owed : GoodIn wsX4_letGuarantorsPay wsX0_owed := goodIn_r _ [12, 13, 14, 15, 16, 17, 18, 19, 20, 21, 22, 23, 24, 25, 55, 56, 57, 58, 59] (by decide +kernel) (by decide +kernel)
set_option maxRecDepth 20000 in
theorem gX4_letGuarantorsPay_X0_owed : GoodIn wsX4_letGuarantorsPay (wsV RX4 181 RX0 yX0_owed wsX0_owed) := goodIn_app (goodIn_of _ (by decide +kernel)) ggX4_letGuarantorsPay_X0_owed
set_option maxRecDepth 20000 in
theorem ggX4_letGuarantorsPay_X2_get : GoodIn wsX4_letGuarantorsPay wsX2_get := goodIn_r _ [18, 19, 20, 21, 22, 17, 23, 24, 25, 57, 58, 59] (by decide +kernel) (by decide +kernel)
set_option maxRecDepth 20000 in
theorem gX4_letGuarantorsPay_X2_get : GoodIn wsX4_letGuarantorsPay (wsV RX4 145 RX2 yX2_get wsX2_get) := goodIn_app (goodIn_of _ (by decide +kernel)) ggX4_letGuarantorsPay_X2_get
set_option maxRecDepth 20000 in
theorem ggX4_letGuarantorsPay_X2_add : GoodIn wsX4_letGuarantorsPay wsX2_add := goodIn_r _ [30, 31, 15, 16, 17, 18, 19, 20, 21, 22, 23, 24, 25, 32, 33, 34, 35, 57, 58, 59] (by decide +kernel) (by decide +kernel)
set_option maxRecDepth 20000 in
theorem gX4_letGuarantorsPay_X2_add : GoodIn wsX4_letGuarantorsPay (wsV RX4 150 RX2 yX2_add wsX2_add) := goodIn_app (goodIn_of _ (by decide +kernel)) ggX4_letGuarantorsPay_X2_add
set_option maxRecDepth 20000 in
theorem ggX4_letGuarantorsPay_X4_takeOver : GoodIn wsX4_letGuarantorsPay wsX4_takeOver := goodIn_r _ [40, 1, 41, 42, 43, 11, 44, 13, 45, 28, 29, 17, 30, 31, 15, 16, 18, 19, 20, 21, 22, 23, 24, 25, 32, 33, 34, 35, 46, 47, 48, 49, 50, 51, 52, 53, 54, 55, 56, 57, 58, 59] (by decide +kernel) (by decide +kernel)
set_option maxRecDepth 20000 in
theorem gX4_letGuarantorsPay_X4_takeOver : GoodIn wsX4_letGuarantorsPay (wsV RX4 237 RX4 yX4_takeOver wsX4_takeOver) := goodIn_app (goodIn_of _ (by decide +kernel)) ggX4_letGuarantorsPay_X4_takeOver
theorem dX4_letGuarantorsPay_0 : decode cX4_letGuarantorsPay 0 = .ok (.iconst 0, 1) := by decide +kernel
theorem dX4_letGuarantorsPay_1 : decode cX4_letGuarantorsPay 1 = .ok (.istore_n 2, 1) := by decide +kernel
theorem dX4_letGuarantorsPay_2 : decode cX4_letGuarantorsPay 2 = .ok (.iload_n 2, 1) := by decide +kernel
theorem dX4_letGuarantorsPay_3 : decode cX4_letGuarantorsPay 3 = .ok (.bipush 9, 2) := by decide +kernel
theorem dX4_letGuarantorsPay_5 : decode cX4_letGuarantorsPay 5 = .ok (.if_icmp .ge 78, 3) := by decide +kernel
theorem dX4_letGuarantorsPay_8 : decode cX4_letGuarantorsPay 8 = .ok (.iconst 0, 1) := by decide +kernel
theorem dX4_letGuarantorsPay_9 : decode cX4_letGuarantorsPay 9 = .ok (.istore_n 3, 1) := by decide +kernel
theorem dX4_letGuarantorsPay_10 : decode cX4_letGuarantorsPay 10 = .ok (.iload_n 3, 1) := by decide +kernel
theorem dX4_letGuarantorsPay_11 : decode cX4_letGuarantorsPay 11 = .ok (.bipush 8, 2) := by decide +kernel
theorem dX4_letGuarantorsPay_13 : decode cX4_letGuarantorsPay 13 = .ok (.if_icmp .ge 64, 3) := by decide +kernel
theorem dX4_letGuarantorsPay_16 : decode cX4_letGuarantorsPay 16 = .ok (.aload_n 0, 1) := by decide +kernel
theorem dX4_letGuarantorsPay_17 : decode cX4_letGuarantorsPay 17 = .ok (.getfield 28, 3) := by decide +kernel
theorem dX4_letGuarantorsPay_20 : decode cX4_letGuarantorsPay 20 = .ok (.iload_n 1, 1) := by decide +kernel
theorem dX4_letGuarantorsPay_21 : decode cX4_letGuarantorsPay 21 = .ok (.iload_n 2, 1) := by decide +kernel
theorem dX4_letGuarantorsPay_22 : decode cX4_letGuarantorsPay 22 = .ok (.invokevirtual 181, 3) := by decide +kernel
theorem dX4_letGuarantorsPay_25 : decode cX4_letGuarantorsPay 25 = .ok (.aload_n 0, 1) := by decide +kernel
theorem dX4_letGuarantorsPay_26 : decode cX4_letGuarantorsPay 26 = .ok (.getfield 32, 3) := by decide +kernel
theorem dX4_letGuarantorsPay_29 : decode cX4_letGuarantorsPay 29 = .ok (.iload_n 3, 1) := by decide +kernel
theorem dX4_letGuarantorsPay_30 : decode cX4_letGuarantorsPay 30 = .ok (.iload_n 1, 1) := by decide +kernel
theorem dX4_letGuarantorsPay_31 : decode cX4_letGuarantorsPay 31 = .ok (.invokevirtual 145, 3) := by decide +kernel
theorem dX4_letGuarantorsPay_34 : decode cX4_letGuarantorsPay 34 = .ok (.invokestatic 129, 3) := by decide +kernel
theorem dX4_letGuarantorsPay_37 : decode cX4_letGuarantorsPay 37 = .ok (.istore 4, 2) := by decide +kernel
theorem dX4_letGuarantorsPay_39 : decode cX4_letGuarantorsPay 39 = .ok (.aload_n 0, 1) := by decide +kernel
theorem dX4_letGuarantorsPay_40 : decode cX4_letGuarantorsPay 40 = .ok (.getfield 32, 3) := by decide +kernel
theorem dX4_letGuarantorsPay_43 : decode cX4_letGuarantorsPay 43 = .ok (.iload_n 3, 1) := by decide +kernel
theorem dX4_letGuarantorsPay_44 : decode cX4_letGuarantorsPay 44 = .ok (.iload_n 1, 1) := by decide +kernel
theorem dX4_letGuarantorsPay_45 : decode cX4_letGuarantorsPay 45 = .ok (.iload 4, 2) := by decide +kernel
theorem dX4_letGuarantorsPay_47 : decode cX4_letGuarantorsPay 47 = .ok (.ineg, 1) := by decide +kernel
theorem dX4_letGuarantorsPay_48 : decode cX4_letGuarantorsPay 48 = .ok (.invokevirtual 150, 3) := by decide +kernel
theorem dX4_letGuarantorsPay_51 : decode cX4_letGuarantorsPay 51 = .ok (.aload_n 0, 1) := by decide +kernel
theorem dX4_letGuarantorsPay_52 : decode cX4_letGuarantorsPay 52 = .ok (.getfield 35, 3) := by decide +kernel
theorem dX4_letGuarantorsPay_55 : decode cX4_letGuarantorsPay 55 = .ok (.iload_n 3, 1) := by decide +kernel
theorem dX4_letGuarantorsPay_56 : decode cX4_letGuarantorsPay 56 = .ok (.iload_n 1, 1) := by decide +kernel
theorem dX4_letGuarantorsPay_57 : decode cX4_letGuarantorsPay 57 = .ok (.iload 4, 2) := by decide +kernel
theorem dX4_letGuarantorsPay_59 : decode cX4_letGuarantorsPay 59 = .ok (.invokevirtual 150, 3) := by decide +kernel
theorem dX4_letGuarantorsPay_62 : decode cX4_letGuarantorsPay 62 = .ok (.aload_n 0, 1) := by decide +kernel
theorem dX4_letGuarantorsPay_63 : decode cX4_letGuarantorsPay 63 = .ok (.iload_n 3, 1) := by decide +kernel
theorem dX4_letGuarantorsPay_64 : decode cX4_letGuarantorsPay 64 = .ok (.iload_n 1, 1) := by decide +kernel
theorem dX4_letGuarantorsPay_65 : decode cX4_letGuarantorsPay 65 = .ok (.iload_n 2, 1) := by decide +kernel
theorem dX4_letGuarantorsPay_66 : decode cX4_letGuarantorsPay 66 = .ok (.iload 4, 2) := by decide +kernel
theorem dX4_letGuarantorsPay_68 : decode cX4_letGuarantorsPay 68 = .ok (.invokevirtual 237, 3) := by decide +kernel
theorem dX4_letGuarantorsPay_71 : decode cX4_letGuarantorsPay 71 = .ok (.iinc 3 1, 3) := by decide +kernel
theorem dX4_letGuarantorsPay_74 : decode cX4_letGuarantorsPay 74 = .ok (.goto (-64), 3) := by decide +kernel
theorem dX4_letGuarantorsPay_77 : decode cX4_letGuarantorsPay 77 = .ok (.iinc 2 1, 3) := by decide +kernel
theorem dX4_letGuarantorsPay_80 : decode cX4_letGuarantorsPay 80 = .ok (.goto (-78), 3) := by decide +kernel
theorem dX4_letGuarantorsPay_83 : decode cX4_letGuarantorsPay 83 = .ok (.return_, 1) := by decide +kernel
set_option maxRecDepth 20000 in
theorem ggX4_takeOver_X0_more : GoodIn wsX4_takeOver wsX0_more := goodIn_r _ [6, 7, 8, 9, 10, 11, 12, 13, 14, 15, 16, 17, 18, 19, 20, 21, 22, 23, 24, 25, 26, 27, 37, 38, 39, 40, 41] (by decide +kernel) (by decide +kernel)
set_option maxRecDepth 20000 in
theorem gX4_takeOver_X0_more : GoodIn wsX4_takeOver (wsV RX4 107 RX0 yX0_more wsX0_more) := goodIn_app (goodIn_of _ (by decide +kernel)) ggX4_takeOver_X0_more
theorem dX4_takeOver_0 : decode cX4_takeOver 0 = .ok (.aload_n 0, 1) := by decide +kernel
theorem dX4_takeOver_1 : decode cX4_takeOver 1 = .ok (.getfield 28, 3) := by decide +kernel
theorem dX4_takeOver_4 : decode cX4_takeOver 4 = .ok (.iload_n 2, 1) := by decide +kernel
theorem dX4_takeOver_5 : decode cX4_takeOver 5 = .ok (.iload_n 3, 1) := by decide +kernel
theorem dX4_takeOver_6 : decode cX4_takeOver 6 = .ok (.iload 4, 2) := by decide +kernel
theorem dX4_takeOver_8 : decode cX4_takeOver 8 = .ok (.ineg, 1) := by decide +kernel
theorem dX4_takeOver_9 : decode cX4_takeOver 9 = .ok (.invokevirtual 107, 3) := by decide +kernel
theorem dX4_takeOver_12 : decode cX4_takeOver 12 = .ok (.iload_n 1, 1) := by decide +kernel
theorem dX4_takeOver_13 : decode cX4_takeOver 13 = .ok (.iload_n 3, 1) := by decide +kernel
theorem dX4_takeOver_14 : decode cX4_takeOver 14 = .ok (.if_icmp .eq 14, 3) := by decide +kernel
theorem dX4_takeOver_17 : decode cX4_takeOver 17 = .ok (.aload_n 0, 1) := by decide +kernel
theorem dX4_takeOver_18 : decode cX4_takeOver 18 = .ok (.getfield 28, 3) := by decide +kernel
theorem dX4_takeOver_21 : decode cX4_takeOver 21 = .ok (.iload_n 1, 1) := by decide +kernel
theorem dX4_takeOver_22 : decode cX4_takeOver 22 = .ok (.iload_n 3, 1) := by decide +kernel
theorem dX4_takeOver_23 : decode cX4_takeOver 23 = .ok (.iload 4, 2) := by decide +kernel
theorem dX4_takeOver_25 : decode cX4_takeOver 25 = .ok (.invokevirtual 107, 3) := by decide +kernel
theorem dX4_takeOver_28 : decode cX4_takeOver 28 = .ok (.return_, 1) := by decide +kernel
set_option maxRecDepth 20000 in
theorem ggX4_oweInGoodsBy_X0_owed : GoodIn wsX4_oweInGoodsBy wsX0_owed := goodIn_r _ [7, 8, 9, 10, 11, 12, 13, 14, 15, 16, 17, 18, 19, 20, 44, 45, 46, 47, 48] (by decide +kernel) (by decide +kernel)
set_option maxRecDepth 20000 in
theorem gX4_oweInGoodsBy_X0_owed : GoodIn wsX4_oweInGoodsBy (wsV RX4 181 RX0 yX0_owed wsX0_owed) := goodIn_app (goodIn_of _ (by decide +kernel)) ggX4_oweInGoodsBy_X0_owed
set_option maxRecDepth 20000 in
theorem ggX4_oweInGoodsBy_X0_more : GoodIn wsX4_oweInGoodsBy wsX0_more := goodIn_r _ [24, 8, 25, 26, 27, 12, 28, 29, 10, 11, 13, 14, 15, 16, 17, 18, 19, 20, 30, 31, 32, 33, 44, 45, 46, 47, 48] (by decide +kernel) (by decide +kernel)
set_option maxRecDepth 20000 in
theorem gX4_oweInGoodsBy_X0_more : GoodIn wsX4_oweInGoodsBy (wsV RX4 107 RX0 yX0_more wsX0_more) := goodIn_app (goodIn_of _ (by decide +kernel)) ggX4_oweInGoodsBy_X0_more
set_option maxRecDepth 20000 in
theorem ggX4_oweInGoodsBy_X2_add : GoodIn wsX4_oweInGoodsBy wsX2_add := goodIn_r _ [28, 29, 10, 11, 12, 13, 14, 15, 16, 17, 18, 19, 20, 30, 31, 32, 33, 46, 47, 48] (by decide +kernel) (by decide +kernel)
set_option maxRecDepth 20000 in
theorem gX4_oweInGoodsBy_X2_add : GoodIn wsX4_oweInGoodsBy (wsV RX4 150 RX2 yX2_add wsX2_add) := goodIn_app (goodIn_of _ (by decide +kernel)) ggX4_oweInGoodsBy_X2_add
theorem dX4_oweInGoodsBy_0 : decode cX4_oweInGoodsBy 0 = .ok (.iconst 0, 1) := by decide +kernel
theorem dX4_oweInGoodsBy_1 : decode cX4_oweInGoodsBy 1 = .ok (.istore_n 2, 1) := by decide +kernel
theorem dX4_oweInGoodsBy_2 : decode cX4_oweInGoodsBy 2 = .ok (.iconst 0, 1) := by decide +kernel
theorem dX4_oweInGoodsBy_3 : decode cX4_oweInGoodsBy 3 = .ok (.istore_n 3, 1) := by decide +kernel
theorem dX4_oweInGoodsBy_4 : decode cX4_oweInGoodsBy 4 = .ok (.iload_n 3, 1) := by decide +kernel
theorem dX4_oweInGoodsBy_5 : decode cX4_oweInGoodsBy 5 = .ok (.bipush 9, 2) := by decide +kernel
theorem dX4_oweInGoodsBy_7 : decode cX4_oweInGoodsBy 7 = .ok (.if_icmp .ge 48, 3) := by decide +kernel
theorem dX4_oweInGoodsBy_10 : decode cX4_oweInGoodsBy 10 = .ok (.aload_n 0, 1) := by decide +kernel
theorem dX4_oweInGoodsBy_11 : decode cX4_oweInGoodsBy 11 = .ok (.getfield 28, 3) := by decide +kernel
theorem dX4_oweInGoodsBy_14 : decode cX4_oweInGoodsBy 14 = .ok (.iload_n 1, 1) := by decide +kernel
theorem dX4_oweInGoodsBy_15 : decode cX4_oweInGoodsBy 15 = .ok (.iload_n 3, 1) := by decide +kernel
theorem dX4_oweInGoodsBy_16 : decode cX4_oweInGoodsBy 16 = .ok (.invokevirtual 181, 3) := by decide +kernel
theorem dX4_oweInGoodsBy_19 : decode cX4_oweInGoodsBy 19 = .ok (.istore 4, 2) := by decide +kernel
theorem dX4_oweInGoodsBy_21 : decode cX4_oweInGoodsBy 21 = .ok (.aload_n 0, 1) := by decide +kernel
theorem dX4_oweInGoodsBy_22 : decode cX4_oweInGoodsBy 22 = .ok (.getfield 28, 3) := by decide +kernel
theorem dX4_oweInGoodsBy_25 : decode cX4_oweInGoodsBy 25 = .ok (.iload_n 1, 1) := by decide +kernel
theorem dX4_oweInGoodsBy_26 : decode cX4_oweInGoodsBy 26 = .ok (.iload_n 3, 1) := by decide +kernel
theorem dX4_oweInGoodsBy_27 : decode cX4_oweInGoodsBy 27 = .ok (.iload 4, 2) := by decide +kernel
theorem dX4_oweInGoodsBy_29 : decode cX4_oweInGoodsBy 29 = .ok (.ineg, 1) := by decide +kernel
theorem dX4_oweInGoodsBy_30 : decode cX4_oweInGoodsBy 30 = .ok (.invokevirtual 107, 3) := by decide +kernel
theorem dX4_oweInGoodsBy_33 : decode cX4_oweInGoodsBy 33 = .ok (.aload_n 0, 1) := by decide +kernel
theorem dX4_oweInGoodsBy_34 : decode cX4_oweInGoodsBy 34 = .ok (.getfield 35, 3) := by decide +kernel
theorem dX4_oweInGoodsBy_37 : decode cX4_oweInGoodsBy 37 = .ok (.iload_n 3, 1) := by decide +kernel
theorem dX4_oweInGoodsBy_38 : decode cX4_oweInGoodsBy 38 = .ok (.iload_n 1, 1) := by decide +kernel
theorem dX4_oweInGoodsBy_39 : decode cX4_oweInGoodsBy 39 = .ok (.iload 4, 2) := by decide +kernel
theorem dX4_oweInGoodsBy_41 : decode cX4_oweInGoodsBy 41 = .ok (.invokevirtual 150, 3) := by decide +kernel
theorem dX4_oweInGoodsBy_44 : decode cX4_oweInGoodsBy 44 = .ok (.iload_n 2, 1) := by decide +kernel
theorem dX4_oweInGoodsBy_45 : decode cX4_oweInGoodsBy 45 = .ok (.iload 4, 2) := by decide +kernel
theorem dX4_oweInGoodsBy_47 : decode cX4_oweInGoodsBy 47 = .ok (.iadd, 1) := by decide +kernel
theorem dX4_oweInGoodsBy_48 : decode cX4_oweInGoodsBy 48 = .ok (.istore_n 2, 1) := by decide +kernel
theorem dX4_oweInGoodsBy_49 : decode cX4_oweInGoodsBy 49 = .ok (.iinc 3 1, 3) := by decide +kernel
theorem dX4_oweInGoodsBy_52 : decode cX4_oweInGoodsBy 52 = .ok (.goto (-48), 3) := by decide +kernel
theorem dX4_oweInGoodsBy_55 : decode cX4_oweInGoodsBy 55 = .ok (.iload_n 2, 1) := by decide +kernel
theorem dX4_oweInGoodsBy_56 : decode cX4_oweInGoodsBy 56 = .ok (.ireturn, 1) := by decide +kernel
set_option maxRecDepth 20000 in
theorem ggX4_oweInGoodsTo_X0_owed : GoodIn wsX4_oweInGoodsTo wsX0_owed := goodIn_r _ [7, 8, 9, 10, 11, 12, 13, 14, 15, 16, 17, 18, 19, 20, 44, 45, 46, 47, 48] (by decide +kernel) (by decide +kernel)
set_option maxRecDepth 20000 in
theorem gX4_oweInGoodsTo_X0_owed : GoodIn wsX4_oweInGoodsTo (wsV RX4 181 RX0 yX0_owed wsX0_owed) := goodIn_app (goodIn_of _ (by decide +kernel)) ggX4_oweInGoodsTo_X0_owed
set_option maxRecDepth 20000 in
theorem ggX4_oweInGoodsTo_X0_more : GoodIn wsX4_oweInGoodsTo wsX0_more := goodIn_r _ [24, 8, 25, 26, 27, 12, 28, 29, 10, 11, 13, 14, 15, 16, 17, 18, 19, 20, 30, 31, 32, 33, 44, 45, 46, 47, 48] (by decide +kernel) (by decide +kernel)
set_option maxRecDepth 20000 in
theorem gX4_oweInGoodsTo_X0_more : GoodIn wsX4_oweInGoodsTo (wsV RX4 107 RX0 yX0_more wsX0_more) := goodIn_app (goodIn_of _ (by decide +kernel)) ggX4_oweInGoodsTo_X0_more
set_option maxRecDepth 20000 in
theorem ggX4_oweInGoodsTo_X2_add : GoodIn wsX4_oweInGoodsTo wsX2_add := goodIn_r _ [28, 29, 10, 11, 12, 13, 14, 15, 16, 17, 18, 19, 20, 30, 31, 32, 33, 46, 47, 48] (by decide +kernel) (by decide +kernel)
set_option maxRecDepth 20000 in
theorem gX4_oweInGoodsTo_X2_add : GoodIn wsX4_oweInGoodsTo (wsV RX4 150 RX2 yX2_add wsX2_add) := goodIn_app (goodIn_of _ (by decide +kernel)) ggX4_oweInGoodsTo_X2_add
theorem dX4_oweInGoodsTo_0 : decode cX4_oweInGoodsTo 0 = .ok (.iconst 0, 1) := by decide +kernel
theorem dX4_oweInGoodsTo_1 : decode cX4_oweInGoodsTo 1 = .ok (.istore_n 2, 1) := by decide +kernel
theorem dX4_oweInGoodsTo_2 : decode cX4_oweInGoodsTo 2 = .ok (.iconst 0, 1) := by decide +kernel
theorem dX4_oweInGoodsTo_3 : decode cX4_oweInGoodsTo 3 = .ok (.istore_n 3, 1) := by decide +kernel
theorem dX4_oweInGoodsTo_4 : decode cX4_oweInGoodsTo 4 = .ok (.iload_n 3, 1) := by decide +kernel
theorem dX4_oweInGoodsTo_5 : decode cX4_oweInGoodsTo 5 = .ok (.bipush 8, 2) := by decide +kernel
theorem dX4_oweInGoodsTo_7 : decode cX4_oweInGoodsTo 7 = .ok (.if_icmp .ge 48, 3) := by decide +kernel
theorem dX4_oweInGoodsTo_10 : decode cX4_oweInGoodsTo 10 = .ok (.aload_n 0, 1) := by decide +kernel
theorem dX4_oweInGoodsTo_11 : decode cX4_oweInGoodsTo 11 = .ok (.getfield 28, 3) := by decide +kernel
theorem dX4_oweInGoodsTo_14 : decode cX4_oweInGoodsTo 14 = .ok (.iload_n 3, 1) := by decide +kernel
theorem dX4_oweInGoodsTo_15 : decode cX4_oweInGoodsTo 15 = .ok (.iload_n 1, 1) := by decide +kernel
theorem dX4_oweInGoodsTo_16 : decode cX4_oweInGoodsTo 16 = .ok (.invokevirtual 181, 3) := by decide +kernel
theorem dX4_oweInGoodsTo_19 : decode cX4_oweInGoodsTo 19 = .ok (.istore 4, 2) := by decide +kernel
theorem dX4_oweInGoodsTo_21 : decode cX4_oweInGoodsTo 21 = .ok (.aload_n 0, 1) := by decide +kernel
theorem dX4_oweInGoodsTo_22 : decode cX4_oweInGoodsTo 22 = .ok (.getfield 28, 3) := by decide +kernel
theorem dX4_oweInGoodsTo_25 : decode cX4_oweInGoodsTo 25 = .ok (.iload_n 3, 1) := by decide +kernel
theorem dX4_oweInGoodsTo_26 : decode cX4_oweInGoodsTo 26 = .ok (.iload_n 1, 1) := by decide +kernel
theorem dX4_oweInGoodsTo_27 : decode cX4_oweInGoodsTo 27 = .ok (.iload 4, 2) := by decide +kernel
theorem dX4_oweInGoodsTo_29 : decode cX4_oweInGoodsTo 29 = .ok (.ineg, 1) := by decide +kernel
theorem dX4_oweInGoodsTo_30 : decode cX4_oweInGoodsTo 30 = .ok (.invokevirtual 107, 3) := by decide +kernel
theorem dX4_oweInGoodsTo_33 : decode cX4_oweInGoodsTo 33 = .ok (.aload_n 0, 1) := by decide +kernel
theorem dX4_oweInGoodsTo_34 : decode cX4_oweInGoodsTo 34 = .ok (.getfield 35, 3) := by decide +kernel
theorem dX4_oweInGoodsTo_37 : decode cX4_oweInGoodsTo 37 = .ok (.iload_n 1, 1) := by decide +kernel
theorem dX4_oweInGoodsTo_38 : decode cX4_oweInGoodsTo 38 = .ok (.iload_n 3, 1) := by decide +kernel
theorem dX4_oweInGoodsTo_39 : decode cX4_oweInGoodsTo 39 = .ok (.iload 4, 2) := by decide +kernel
theorem dX4_oweInGoodsTo_41 : decode cX4_oweInGoodsTo 41 = .ok (.invokevirtual 150, 3) := by decide +kernel
theorem dX4_oweInGoodsTo_44 : decode cX4_oweInGoodsTo 44 = .ok (.iload_n 2, 1) := by decide +kernel
theorem dX4_oweInGoodsTo_45 : decode cX4_oweInGoodsTo 45 = .ok (.iload 4, 2) := by decide +kernel
theorem dX4_oweInGoodsTo_47 : decode cX4_oweInGoodsTo 47 = .ok (.iadd, 1) := by decide +kernel
theorem dX4_oweInGoodsTo_48 : decode cX4_oweInGoodsTo 48 = .ok (.istore_n 2, 1) := by decide +kernel
theorem dX4_oweInGoodsTo_49 : decode cX4_oweInGoodsTo 49 = .ok (.iinc 3 1, 3) := by decide +kernel
theorem dX4_oweInGoodsTo_52 : decode cX4_oweInGoodsTo 52 = .ok (.goto (-48), 3) := by decide +kernel
theorem dX4_oweInGoodsTo_55 : decode cX4_oweInGoodsTo 55 = .ok (.iload_n 2, 1) := by decide +kernel
theorem dX4_oweInGoodsTo_56 : decode cX4_oweInGoodsTo 56 = .ok (.ireturn, 1) := by decide +kernel
end
section
/-! ===== numbers in squares of nine ===== -/
abbrev Fn : Type := Int → Int
def ix (i j : Int) : Int := 9 * i + j
def up (f : Fn) (k v : Int) : Fn := fun x => if x = k then v else f x
def adF (f : Fn) (i j v : Int) : Fn := up f (ix i j) (f (ix i j) + v)
def mput (S : Mem) (o : Nat) (f : Fn) : Mem := fun o' => if o' = o then f else S o'
theorem up_same (f : Fn) (k v : Int) : up f k v k = v := if_pos rfl
theorem up_ne {f : Fn} {k v x : Int} (h : x ≠ k) : up f k v x = f x := if_neg h
theorem up_self (f : Fn) (k : Int) : up f k (f k) = f := by
  funext x
  unfold up
  split
  · rename_i h; rw [h]
  · rfl
theorem up_up (f : Fn) (k v w : Int) : up (up f k v) k w = up f k w := by
  funext x
  unfold up
  split <;> rfl
theorem up_swap (f : Fn) {k l : Int} (v w : Int) (h : k ≠ l) : up (up f k v) l w = up (up f l w) k v := by
  funext x
  unfold up
  split <;> split <;> first | rfl | omega
theorem mput_same (S : Mem) (o : Nat) (f : Fn) : mput S o f o = f := if_pos rfl
theorem mput_ne {S : Mem} {o o2 : Nat} {f : Fn} (h : o2 ≠ o) : mput S o f o2 = S o2 := if_neg h
theorem mput_self (S : Mem) (o : Nat) : mput S o (S o) = S := by
  funext x
  unfold mput
  split
  · rename_i h; rw [h]
  · rfl
theorem mput_mput (S : Mem) (o : Nat) (f h : Fn) : mput (mput S o f) o h = mput S o h := by
  funext x
  unfold mput
  split <;> rfl
theorem mput_swap (S : Mem) {o o2 : Nat} (f h : Fn) (hn : o ≠ o2) : mput (mput S o f) o2 h = mput (mput S o2 h) o f := by
  funext x
  unfold mput
  split <;> split <;> first | rfl | (exfalso; omega)
theorem mset_mput (S : Mem) (o : Nat) (i v : Int) : mset S o i v = mput S o (up (S o) i v) := by
  funext o' i'
  by_cases h : o' = o
  · subst h
    rw [mput_same]
    unfold mset up
    by_cases h2 : i' = i
    · rw [if_pos ⟨rfl, h2⟩, if_pos h2]
    · rw [if_neg (fun q => h2 q.2), if_neg h2]
  · rw [mput_ne h]
    unfold mset
    rw [if_neg (fun q => h q.1)]
theorem ix_inj {i j i2 j2 : Int} (h1 : 0 ≤ j ∧ j < 9) (h2 : 0 ≤ j2 ∧ j2 < 9) : ix i j = ix i2 j2 ↔ i = i2 ∧ j = j2 := by
  unfold ix
  omega
theorem tg_ix {f : Fn} {i j : Int} (hi : 0 ≤ i ∧ i < 9) (hj : 0 ≤ j ∧ j < 9) : tg 9 9 f i j = f (ix i j) := by
  unfold tg ix
  rw [if_pos (by omega), Int.mul_comm]
theorem ts_ix {S : Mem} {a : Nat} {i j v : Int} (hi : 0 ≤ i ∧ i < 9) (hj : 0 ≤ j ∧ j < 9) : ts S a 9 9 i j v = mput S a (up (S a) (ix i j) v) := by
  unfold ts
  rw [if_pos (by omega), mset_mput]
  unfold ix
  rw [Int.mul_comm]
/-! sums -/
theorem sI_cong {f g : Fn} : ∀ {n : Nat}, (∀ k : Int, 0 ≤ k → k < n → f k = g k) → sI f n = sI g n
  | 0, _ => rfl
  | n + 1, h => by
    rw [sI, sI, sI_cong (n := n) (fun k h0 h1 => h k h0 (by omega)), h n (by omega) (by omega)]
theorem sI_add (f g : Fn) : ∀ n : Nat, sI (fun k => f k + g k) n = sI f n + sI g n
  | 0 => rfl
  | n + 1 => by rw [sI, sI, sI, sI_add f g n]; omega
theorem sI_sub (f g : Fn) : ∀ n : Nat, sI (fun k => f k - g k) n = sI f n - sI g n
  | 0 => rfl
  | n + 1 => by rw [sI, sI, sI, sI_sub f g n]; omega
theorem sI_zero {f : Fn} : ∀ {n : Nat}, (∀ k : Int, 0 ≤ k → k < n → f k = 0) → sI f n = 0
  | 0, _ => rfl
  | n + 1, h => by rw [sI, sI_zero (n := n) (fun k h0 h1 => h k h0 (by omega)), h n (by omega) (by omega)]; rfl
theorem sI_nn {f : Fn} : ∀ {n : Nat}, (∀ k : Int, 0 ≤ k → k < n → 0 ≤ f k) → 0 ≤ sI f n
  | 0, _ => Int.le_refl 0
  | n + 1, h => by
    have h1 := sI_nn (n := n) (fun k h0 h1 => h k h0 (by omega))
    have h2 := h n (by omega) (by omega)
    rw [sI]; omega
theorem sI_mono {f g : Fn} : ∀ {n : Nat}, (∀ k : Int, 0 ≤ k → k < n → f k ≤ g k) → sI f n ≤ sI g n
  | 0, _ => Int.le_refl 0
  | n + 1, h => by
    have h1 := sI_mono (n := n) (fun k h0 h1 => h k h0 (by omega))
    have h2 := h n (by omega) (by omega)
    rw [sI, sI]; omega
theorem sI_ge {f : Fn} {k : Int} : ∀ {n : Nat}, (∀ k : Int, 0 ≤ k → k < n → 0 ≤ f k) → 0 ≤ k → k < n → f k ≤ sI f n
  | 0, _, h0, h1 => by omega
  | n + 1, h, h0, h1 => by
    have h2 := h n (by omega) (by omega)
    have h3 := sI_nn (n := n) (fun k h0 h1 => h k h0 (by omega))
    rw [sI]
    by_cases hk : k = n
    · subst hk; omega
    · have := sI_ge (n := n) (k := k) (fun k h0 h1 => h k h0 (by omega)) h0 (by omega)
      omega
theorem sI_up {f : Fn} {k v : Int} : ∀ {n : Nat}, 0 ≤ k → k < n → sI (up f k v) n = sI f n - f k + v
  | 0, h0, h1 => by omega
  | n + 1, h0, h1 => by
    rw [sI, sI]
    by_cases hk : k = n
    · subst hk
      rw [up_same, sI_cong (f := up f n v) (g := f) (fun k h0 h1 => up_ne (by omega))]
      omega
    · rw [up_ne (by omega), sI_up (n := n) h0 (by omega)]
      omega
/-- one place differs -/
theorem sI_one {f g : Fn} {k : Int} {n : Nat} (h0 : 0 ≤ k) (h1 : k < n) (h : ∀ x : Int, 0 ≤ x → x < n → x ≠ k → g x = f x) : sI g n = sI f n - f k + g k := by
  rw [← sI_up h0 h1]
  apply sI_cong
  intro x hx0 hx1
  unfold up
  split
  · rename_i e; rw [e]
  · rename_i e; exact h x hx0 hx1 e
theorem sI_bound {f : Fn} {c : Int} : ∀ {n : Nat}, (∀ k : Int, 0 ≤ k → k < n → f k ≤ c) → sI f n ≤ n * c
  | 0, _ => by simp [sI]
  | n + 1, h => by
    have h1 := sI_bound (n := n) (fun k h0 h1 => h k h0 (by omega))
    have h2 := h n (by omega) (by omega)
    rw [sI, show ((n + 1 : Nat) : Int) = (n : Int) + 1 by omega, Int.add_mul, Int.one_mul]
    omega
def row (f : Fn) (i : Int) : Int := sI (fun j => f (ix i j)) 9
def col (f : Fn) (j : Int) : Int := sI (fun i => f (ix i j)) 9
def tot (f : Fn) : Int := sI (row f) 9
def bl (f : Fn) (x : Int) : Int := col f x - row f x
def in9 (i : Int) : Prop := 0 ≤ i ∧ i < 9
def nn9 (f : Fn) : Prop := ∀ i j : Int, 0 ≤ i → i < 9 → 0 ≤ j → j < 9 → 0 ≤ f (ix i j)
/-- nothing is below 0, all together are at most so many -/
def Ok (f : Fn) : Prop := nn9 f ∧ tot f ≤ 200000
theorem bal_bl {f : Fn} {x : Int} (h0 : 0 ≤ x) (h1 : x < 9) : bal f x = bl f x := by
  unfold bal bl row col
  rw [sI_cong (f := fun r => tg 9 9 f r x) (g := fun i => f (ix i x)) (fun k a b => tg_ix ⟨a, b⟩ ⟨h0, h1⟩), sI_cong (f := fun c => tg 9 9 f x c) (g := fun j => f (ix x j)) (fun k a b => tg_ix ⟨h0, h1⟩ ⟨a, b⟩)]
theorem adF_at (f : Fn) (i j v : Int) : adF f i j v (ix i j) = f (ix i j) + v := up_same _ _ _
theorem adF_ne {f : Fn} {i j v a b : Int} (hj : 0 ≤ j ∧ j < 9) (hb : 0 ≤ b ∧ b < 9) (h : ¬ (a = i ∧ b = j)) : adF f i j v (ix a b) = f (ix a b) := up_ne (fun q => h ((ix_inj hb hj).mp q))
theorem adF_get {f : Fn} {i j v a b : Int} (hj : 0 ≤ j ∧ j < 9) (hb : 0 ≤ b ∧ b < 9) : adF f i j v (ix a b) = f (ix a b) + if a = i ∧ b = j then v else 0 := by
  split
  · rename_i h
    rw [h.1, h.2, adF_at]
  · rename_i h
    rw [adF_ne hj hb h, Int.add_zero]
theorem adF_0 (f : Fn) (i j : Int) : adF f i j 0 = f := by
  unfold adF
  rw [Int.add_zero, up_self]
theorem row_adF {f : Fn} {i j v x : Int} (hj : 0 ≤ j ∧ j < 9) : row (adF f i j v) x = row f x + if x = i then v else 0 := by
  unfold row
  by_cases h : x = i
  · subst h
    rw [sI_one (n := 9) (f := fun j => f (ix x j)) (k := j) hj.1 hj.2 (fun y h0 h1 hy => adF_ne hj ⟨h0, h1⟩ (fun q => hy q.2)), adF_at, if_pos rfl]
    omega
  · rw [if_neg h, Int.add_zero]
    exact sI_cong (fun y h0 h1 => adF_ne hj ⟨h0, h1⟩ (fun q => h q.1))
theorem col_adF {f : Fn} {i j v x : Int} (hi : 0 ≤ i ∧ i < 9) (hj : 0 ≤ j ∧ j < 9) (hx : 0 ≤ x ∧ x < 9) : col (adF f i j v) x = col f x + if x = j then v else 0 := by
  unfold col
  by_cases h : x = j
  · subst h
    rw [sI_one (n := 9) (f := fun i => f (ix i x)) (k := i) hi.1 hi.2 (fun y h0 h1 hy => adF_ne hj hx (fun q => hy q.1)), adF_at, if_pos rfl]
    omega
  · rw [if_neg h, Int.add_zero]
    exact sI_cong (fun y h0 h1 => adF_ne hj hx (fun q => h q.2))
theorem tot_adF {f : Fn} {i j v : Int} (hi : 0 ≤ i ∧ i < 9) (hj : 0 ≤ j ∧ j < 9) : tot (adF f i j v) = tot f + v := by
  unfold tot
  rw [sI_one (n := 9) (f := row f) (k := i) hi.1 hi.2 (fun y h0 h1 hy => by rw [row_adF hj, if_neg hy, Int.add_zero]), row_adF hj, if_pos rfl]
  omega
theorem bl_adF {f : Fn} {i j v x : Int} (hi : 0 ≤ i ∧ i < 9) (hj : 0 ≤ j ∧ j < 9) (hx : 0 ≤ x ∧ x < 9) : bl (adF f i j v) x = bl f x + (if x = j then v else 0) - (if x = i then v else 0) := by
  unfold bl
  rw [row_adF hj, col_adF hi hj hx]
  omega
theorem row_nn {f : Fn} (h : nn9 f) {i : Int} (hi : 0 ≤ i ∧ i < 9) : 0 ≤ row f i := sI_nn (fun k h0 h1 => h i k hi.1 hi.2 h0 h1)
theorem col_nn {f : Fn} (h : nn9 f) {i : Int} (hi : 0 ≤ i ∧ i < 9) : 0 ≤ col f i := sI_nn (fun k h0 h1 => h k i h0 h1 hi.1 hi.2)
theorem row_ge {f : Fn} (h : nn9 f) {i j : Int} (hi : 0 ≤ i ∧ i < 9) (hj : 0 ≤ j ∧ j < 9) : f (ix i j) ≤ row f i := sI_ge (f := fun j => f (ix i j)) (fun k h0 h1 => h i k hi.1 hi.2 h0 h1) hj.1 hj.2
theorem row_le {f : Fn} (h : nn9 f) {i : Int} (hi : 0 ≤ i ∧ i < 9) : row f i ≤ tot f := sI_ge (f := row f) (fun k h0 h1 => row_nn h ⟨h0, h1⟩) hi.1 hi.2
theorem col_le {f : Fn} (h : nn9 f) {j : Int} (hj : 0 ≤ j ∧ j < 9) : col f j ≤ tot f := sI_mono (fun k h0 h1 => row_ge h ⟨h0, h1⟩ hj)
theorem ent_le {f : Fn} (h : nn9 f) {i j : Int} (hi : 0 ≤ i ∧ i < 9) (hj : 0 ≤ j ∧ j < 9) : f (ix i j) ≤ tot f := Int.le_trans (row_ge h hi hj) (row_le h hi)
theorem Ok.ent {f : Fn} (h : Ok f) {i j : Int} (hi : 0 ≤ i ∧ i < 9) (hj : 0 ≤ j ∧ j < 9) : 0 ≤ f (ix i j) ∧ f (ix i j) ≤ 200000 := ⟨h.1 i j hi.1 hi.2 hj.1 hj.2, Int.le_trans (ent_le h.1 hi hj) h.2⟩
theorem Ok.bl {f : Fn} (h : Ok f) {x : Int} (hx : 0 ≤ x ∧ x < 9) : -200000 ≤ bl f x ∧ bl f x ≤ 200000 := by
  have h1 := row_nn h.1 hx
  have h2 := col_nn h.1 hx
  have h3 := row_le h.1 hx
  have h4 := col_le h.1 hx
  have h5 := h.2
  unfold Jvm.Pilot.CMutualledgerLaw_law_r9768_bec298.bl
  omega
/-- what is taken over -/
def tkF (f : Fn) (one s to m : Int) : Fn := if one = to then adF f s to (-m) else adF (adF f s to (-m)) one to m
def mn (a b : Int) : Int := if b < a then b else a
theorem mn_le (a b : Int) : mn a b ≤ a ∧ mn a b ≤ b ∧ (mn a b = a ∨ mn a b = b) := by
  unfold mn
  split <;> omega
/-- a shop's debt passed on: from d, to c -/
def psF (s d c : Int) (f : Fn) : Fn := tkF (adF f d s (-(mn (f (ix d s)) (f (ix s c))))) d s c (mn (f (ix d s)) (f (ix s c)))
def it {α : Type} (F : Int → α → α) (x : α) : Nat → α
  | 0 => x
  | n + 1 => F n (it F x n)
theorem it_inv {α : Type} {F : Int → α → α} {P : α → Prop} {x : α} (h0 : P x) : ∀ {n : Nat}, (∀ (k : Int) (y : α), 0 ≤ k → k < n → P y → P (F k y)) → P (it F x n)
  | 0, _ => h0
  | n + 1, h => h n _ (by omega) (by omega) (it_inv (n := n) h0 (fun k y a b => h k y a (by omega)))
def dz (f : Fn) : Prop := ∀ i : Int, 0 ≤ i → i < 9 → f (ix i i) = 0
def OkD (f : Fn) : Prop := Ok f ∧ dz f
theorem tkF_get {f : Fn} {one s to m a b : Int} (ht : 0 ≤ to ∧ to < 9) (hb : 0 ≤ b ∧ b < 9) : tkF f one s to m (ix a b) = f (ix a b) + (if a = s ∧ b = to then -m else 0) + (if one ≠ to ∧ a = one ∧ b = to then m else 0) := by
  unfold tkF
  split
  · rename_i h
    rw [adF_get ht hb, if_neg (c := one ≠ to ∧ a = one ∧ b = to) (fun q => q.1 h), Int.add_zero]
  · rename_i h
    rw [adF_get ht hb, adF_get ht hb]
    congr 1
    by_cases q : a = one ∧ b = to
    · rw [if_pos q, if_pos ⟨h, q⟩]
    · rw [if_neg q, if_neg (fun z => q z.2)]
theorem tkF_tot {f : Fn} {one s to m : Int} (h1 : 0 ≤ one ∧ one < 9) (hs : 0 ≤ s ∧ s < 9) (ht : 0 ≤ to ∧ to < 9) : tot (tkF f one s to m) = tot f - m + if one = to then 0 else m := by
  unfold tkF
  split
  · rw [tot_adF hs ht]; omega
  · rw [tot_adF h1 ht, tot_adF hs ht]; omega
theorem psF_get {s d c : Int} {f : Fn} (hs : 0 ≤ s ∧ s < 9) (hc : 0 ≤ c ∧ c < 9) {a b : Int} (hb : 0 ≤ b ∧ b < 9) : psF s d c f (ix a b) = f (ix a b) + (if a = d ∧ b = s then -(mn (f (ix d s)) (f (ix s c))) else 0) + (if a = s ∧ b = c then -(mn (f (ix d s)) (f (ix s c))) else 0) + (if d ≠ c ∧ a = d ∧ b = c then mn (f (ix d s)) (f (ix s c)) else 0) := by
  unfold psF
  rw [tkF_get hc hb, adF_get hs hb]
theorem psF_ok {s d c : Int} {f : Fn} (hs : 0 ≤ s ∧ s < 9) (hd : 0 ≤ d ∧ d < 9) (hc : 0 ≤ c ∧ c < 9) (h : OkD f) : OkD (psF s d c f) := by
  obtain ⟨⟨hn, ht⟩, hz⟩ := h
  have hm := mn_le (f (ix d s)) (f (ix s c))
  have e1 := hn d s hd.1 hd.2 hs.1 hs.2
  have e2 := hn s c hs.1 hs.2 hc.1 hc.2
  have e3 := hz s hs.1 hs.2
  have m0 : d = s ∨ c = s → mn (f (ix d s)) (f (ix s c)) = 0 := by
    rintro (rfl | rfl)
    · rw [e3] at hm ⊢; omega
    · rw [e3] at hm ⊢; omega
  generalize hme : mn (f (ix d s)) (f (ix s c)) = m at hm m0
  refine ⟨⟨fun a b a0 a9 b0 b9 => ?_, ?_⟩, fun a a0 a9 => ?_⟩
  · rw [psF_get hs hc ⟨b0, b9⟩, hme]
    have e4 := hn a b a0 a9 b0 b9
    by_cases q1 : a = d ∧ b = s
    · obtain ⟨rfl, rfl⟩ := q1
      by_cases q2 : a = b ∧ b = c
      · obtain ⟨rfl, rfl⟩ := q2
        have := m0 (Or.inl rfl)
        split <;> split <;> omega
      · rw [if_pos ⟨rfl, rfl⟩, if_neg q2]
        split <;> omega
    · rw [if_neg q1]
      by_cases q2 : a = s ∧ b = c
      · obtain ⟨rfl, rfl⟩ := q2
        rw [if_pos ⟨rfl, rfl⟩]
        split <;> omega
      · rw [if_neg q2]
        split <;> omega
  · unfold psF
    rw [tkF_tot hd hs hc, tot_adF hd hs, hme]
    split <;> omega
  · rw [psF_get hs hc ⟨a0, a9⟩, hme, hz a a0 a9]
    have e5 : (if a = d ∧ a = s then -m else 0) = 0 := by
      split
      · rename_i q; have := m0 (Or.inl (by omega)); omega
      · rfl
    have e6 : (if a = s ∧ a = c then -m else 0) = 0 := by
      split
      · rename_i q; have := m0 (Or.inr (by omega)); omega
      · rfl
    have e7 : (if d ≠ c ∧ a = d ∧ a = c then m else 0) = 0 := if_neg (by omega)
    rw [e5, e6, e7]; rfl
def psI (s d : Int) (f : Fn) (n : Nat) : Fn := it (fun c => psF s d c) f n
def psO (s : Int) (f : Fn) (n : Nat) : Fn := it (fun d f => psI s d f 9) f n
theorem psI_ok {s d : Int} {f : Fn} (hs : 0 ≤ s ∧ s < 9) (hd : 0 ≤ d ∧ d < 9) (h : OkD f) {n : Nat} (hn : n ≤ 9) : OkD (psI s d f n) := it_inv h (fun k y a b hy => psF_ok hs hd (by omega) hy)
theorem psO_ok {s : Int} {f : Fn} (hs : 0 ≤ s ∧ s < 9) (h : OkD f) {n : Nat} (hn : n ≤ 8) : OkD (psO s f n) := it_inv h (fun k y a b hy => psI_ok hs (by omega) hy (Nat.le_refl 9))
/-- a guarantor's payment: g for s, to c: what is owed, what is guaranteed, what was given up -/
def lgF (s c g : Int) (x : Fn × Fn × Fn) : Fn × Fn × Fn := (tkF x.1 g s c (mn (x.1 (ix s c)) (x.2.1 (ix g s))), adF x.2.1 g s (-(mn (x.1 (ix s c)) (x.2.1 (ix g s)))), adF x.2.2 g s (mn (x.1 (ix s c)) (x.2.1 (ix g s))))
def lgI (s c : Int) (x : Fn × Fn × Fn) (n : Nat) : Fn × Fn × Fn := it (fun g => lgF s c g) x n
def lgO (s : Int) (x : Fn × Fn × Fn) (n : Nat) : Fn × Fn × Fn := it (fun c x => lgI s c x 8) x n
def lgOk (x : Fn × Fn × Fn) : Prop := OkD x.1 ∧ OkD x.2.1
theorem tkF_ok {f : Fn} {one s to m : Int} (h1 : 0 ≤ one ∧ one < 9) (hs : 0 ≤ s ∧ s < 9) (ht : 0 ≤ to ∧ to < 9) (h : OkD f) (hm : 0 ≤ m ∧ m ≤ f (ix s to)) : OkD (tkF f one s to m) := by
  obtain ⟨⟨hn, hT⟩, hz⟩ := h
  refine ⟨⟨fun a b a0 a9 b0 b9 => ?_, ?_⟩, fun a a0 a9 => ?_⟩
  · rw [tkF_get ht ⟨b0, b9⟩]
    have e4 := hn a b a0 a9 b0 b9
    by_cases q1 : a = s ∧ b = to
    · obtain ⟨rfl, rfl⟩ := q1
      rw [if_pos ⟨rfl, rfl⟩]
      split <;> omega
    · rw [if_neg q1]
      split <;> omega
  · rw [tkF_tot h1 hs ht]
    split <;> omega
  · rw [tkF_get ht ⟨a0, a9⟩, hz a a0 a9]
    have e5 : (if a = s ∧ a = to then -m else 0) = 0 := by
      split
      · rename_i q
        have e6 := hz a a0 a9
        rw [← q.1, ← q.2, e6] at hm
        omega
      · rfl
    have e7 : (if one ≠ to ∧ a = one ∧ a = to then m else 0) = 0 := if_neg (by omega)
    rw [e5, e7]; rfl
theorem adF_ok {f : Fn} {i j m : Int} (hi : 0 ≤ i ∧ i < 9) (hj : 0 ≤ j ∧ j < 9) (h : OkD f) (hm : 0 ≤ m ∧ m ≤ f (ix i j)) : OkD (adF f i j (-m)) := by
  obtain ⟨⟨hn, hT⟩, hz⟩ := h
  refine ⟨⟨fun a b a0 a9 b0 b9 => ?_, ?_⟩, fun a a0 a9 => ?_⟩
  · rw [adF_get hj ⟨b0, b9⟩]
    have e4 := hn a b a0 a9 b0 b9
    split
    · rename_i q; rw [q.1, q.2]; omega
    · omega
  · rw [tot_adF hi hj]; omega
  · rw [adF_get hj ⟨a0, a9⟩, hz a a0 a9]
    split
    · rename_i q
      have e6 := hz a a0 a9
      rw [← q.1, ← q.2, e6] at hm
      omega
    · rfl
theorem lgF_ok {s c g : Int} {x : Fn × Fn × Fn} (hs : 0 ≤ s ∧ s < 9) (hc : 0 ≤ c ∧ c < 9) (hg : 0 ≤ g ∧ g < 9) (h : lgOk x) : lgOk (lgF s c g x) := by
  have hm := mn_le (x.1 (ix s c)) (x.2.1 (ix g s))
  have e1 := h.1.1.1 s c hs.1 hs.2 hc.1 hc.2
  have e2 := h.2.1.1 g s hg.1 hg.2 hs.1 hs.2
  exact ⟨tkF_ok hg hs hc h.1 (by omega), adF_ok hg hs h.2 (by omega)⟩
theorem lgI_ok {s c : Int} {x : Fn × Fn × Fn} (hs : 0 ≤ s ∧ s < 9) (hc : 0 ≤ c ∧ c < 9) (h : lgOk x) {n : Nat} (hn : n ≤ 9) : lgOk (lgI s c x n) := it_inv h (fun k y a b hy => lgF_ok hs hc (by omega) hy)
theorem lgO_ok {s : Int} {x : Fn × Fn × Fn} (hs : 0 ≤ s ∧ s < 9) (h : lgOk x) {n : Nat} (hn : n ≤ 9) : lgOk (lgO s x n) := it_inv h (fun k y a b hy => lgI_ok hs (by omega) hy (by omega))
/-- what a shop owes, then what is owed to it, in goods: what is owed, what was given up, how much -/
def gbF (s c : Int) (x : Fn × Fn × Int) : Fn × Fn × Int := (adF x.1 s c (-(x.1 (ix s c))), adF x.2.1 c s (x.1 (ix s c)), x.2.2 + x.1 (ix s c))
def gtF (s d : Int) (x : Fn × Fn × Int) : Fn × Fn × Int := (adF x.1 d s (-(x.1 (ix d s))), adF x.2.1 s d (x.1 (ix d s)), x.2.2 + x.1 (ix d s))
def gbI (s : Int) (x : Fn × Fn × Int) (n : Nat) : Fn × Fn × Int := it (fun c => gbF s c) x n
def gtI (s : Int) (x : Fn × Fn × Int) (n : Nat) : Fn × Fn × Int := it (fun c => gtF s c) x n
def m2 (S : Mem) (x : Fn × Fn) : Mem := mput (mput S 8 x.1) 14 x.2
def m3 (S : Mem) (x : Fn × Fn × Fn) : Mem := mput (mput (mput S 8 x.1) 12 x.2.1) 14 x.2.2
end
section
/-! ===== the class: leaving, limits, fees ===== -/
theorem m3_step {S : Mem} (s c g : Int) (x : Fn × Fn × Fn) : mput (mput (mput (m3 S x) 12 (adF (m3 S x 12) g s (-(mn (x.1 (ix s c)) (x.2.1 (ix g s)))))) 14 (adF (mput (m3 S x) 12 (adF (m3 S x 12) g s (-(mn (x.1 (ix s c)) (x.2.1 (ix g s))))) 14) g s (mn (x.1 (ix s c)) (x.2.1 (ix g s))))) 8 (tkF (mput (mput (m3 S x) 12 (adF (m3 S x 12) g s (-(mn (x.1 (ix s c)) (x.2.1 (ix g s)))))) 14 (adF (mput (m3 S x) 12 (adF (m3 S x 12) g s (-(mn (x.1 (ix s c)) (x.2.1 (ix g s))))) 14) g s (mn (x.1 (ix s c)) (x.2.1 (ix g s)))) 8) g s c (mn (x.1 (ix s c)) (x.2.1 (ix g s)))) = m3 S (lgF s c g x) := by
  obtain ⟨a, b, d⟩ := x
  funext o
  simp only [m3, lgF, mput]
  by_cases h8 : o = 8
  · subst h8; simp
  · by_cases h12 : o = 12
    · subst h12; simp
    · by_cases h14 : o = 14
      · subst h14; simp
      · simp [h8, h12, h14]
theorem m2_b {S : Mem} (s c : Int) (x : Fn × Fn × Int) : mput (mput (m2 S (x.1, x.2.1)) 8 (adF (m2 S (x.1, x.2.1) 8) s c (-(x.1 (ix s c))))) 14 (adF (mput (m2 S (x.1, x.2.1)) 8 (adF (m2 S (x.1, x.2.1) 8) s c (-(x.1 (ix s c)))) 14) c s (x.1 (ix s c))) = m2 S ((gbF s c x).1, (gbF s c x).2.1) := by
  obtain ⟨a, b, d⟩ := x
  funext o
  simp only [m2, gbF, mput]
  by_cases h8 : o = 8
  · subst h8; simp
  · by_cases h14 : o = 14
    · subst h14; simp
    · simp [h8, h14]
theorem m2_t {S : Mem} (s c : Int) (x : Fn × Fn × Int) : mput (mput (m2 S (x.1, x.2.1)) 8 (adF (m2 S (x.1, x.2.1) 8) c s (-(x.1 (ix c s))))) 14 (adF (mput (m2 S (x.1, x.2.1)) 8 (adF (m2 S (x.1, x.2.1) 8) c s (-(x.1 (ix c s)))) 14) s c (x.1 (ix c s))) = m2 S ((gtF s c x).1, (gtF s c x).2.1) := by
  obtain ⟨a, b, d⟩ := x
  funext o
  simp only [m2, gtF, mput]
  by_cases h8 : o = 8
  · subst h8; simp
  · by_cases h14 : o = 14
    · subst h14; simp
    · simp [h8, h14]
theorem c_owed9 {g : mG} {S : Mem} {i j : Int} (hi : 0 ≤ i ∧ i < 9) (hj : 0 ≤ j ∧ j < 9) (l : Launch) : Does l yX0_owed wsX0_owed ({ frames := 2, cells := 0, slots := 0, locals := 46 } : Room) g [.ref (g.2.2 6), .int (z32 i), .int (z32 j)] S (PI (S 8 (ix i j)) S) := by
  rw [← tg_ix (f := S 8) hi hj]
  exact c_X0_owed (by omega) (by omega) l
theorem c_open9 {g : mG} {S : Mem} {i j : Int} (hi : 0 ≤ i ∧ i < 9) (hj : 0 ≤ j ∧ j < 9) (l : Launch) : Does l yX0_open wsX0_open ({ frames := 2, cells := 0, slots := 0, locals := 46 } : Room) g [.ref (g.2.2 6), .int (z32 i), .int (z32 j)] S (PI (S 8 (ix i j) - S 10 (ix i j)) S) := by
  rw [← tg_ix (f := S 8) hi hj, ← tg_ix (f := S 10) hi hj]
  exact c_X0_open (by omega) (by omega) l
theorem c_more9 {g : mG} {S : Mem} {i j v : Int} (hi : 0 ≤ i ∧ i < 9) (hj : 0 ≤ j ∧ j < 9) (l : Launch) : Does l yX0_more wsX0_more ({ frames := 3, cells := 0, slots := 0, locals := 70 } : Room) g [.ref (g.2.2 6), .int (z32 i), .int (z32 j), .int (z32 v)] S (PV (mput S 8 (adF (S 8) i j v))) := by
  have h := c_X0_more (g := g) (S := S) (i := i) (j := j) (v := v) (by omega) (by omega) l
  rw [tg_ix hi hj, ts_ix hi hj] at h
  exact h
theorem c_freeze9 {g : mG} {S : Mem} {i j v : Int} (hi : 0 ≤ i ∧ i < 9) (hj : 0 ≤ j ∧ j < 9) (l : Launch) : Does l yX0_freeze wsX0_freeze ({ frames := 3, cells := 0, slots := 0, locals := 70 } : Room) g [.ref (g.2.2 6), .int (z32 i), .int (z32 j), .int (z32 v)] S (PV (mput S 10 (adF (S 10) i j v))) := by
  have h := c_X0_freeze (g := g) (S := S) (i := i) (j := j) (v := v) (by omega) (by omega) l
  rw [tg_ix hi hj, ts_ix hi hj] at h
  exact h
theorem c_bal9 {g : mG} {S : Mem} {j : Int} (hj : 0 ≤ j ∧ j < 9) (l : Launch) : Does l yX0_balanceOf wsX0_balanceOf ({ frames := 3, cells := 0, slots := 0, locals := 69 } : Room) g [.ref (g.2.2 6), .int (z32 j)] S (PI (bl (S 8) j) S) := by
  rw [← bal_bl hj.1 hj.2]
  exact c_X0_balanceOf (by omega) l
theorem c_get12 {g : mG} {S : Mem} {i j : Int} (hi : 0 ≤ i ∧ i < 9) (hj : 0 ≤ j ∧ j < 9) (l : Launch) : Does l yX2_get wsX2_get ({ frames := 1, cells := 0, slots := 0, locals := 23 } : Room) g [.ref (g.2.2 11), .int (z32 i), .int (z32 j)] S (PI (S 12 (ix i j)) S) := by
  rw [← tg_ix (f := S 12) hi hj]
  exact c_X2_get T11 (by omega) (by omega) l
theorem c_add12 {g : mG} {S : Mem} {i j v : Int} (hi : 0 ≤ i ∧ i < 9) (hj : 0 ≤ j ∧ j < 9) (l : Launch) : Does l yX2_add wsX2_add ({ frames := 2, cells := 0, slots := 0, locals := 47 } : Room) g [.ref (g.2.2 11), .int (z32 i), .int (z32 j), .int (z32 v)] S (PV (mput S 12 (adF (S 12) i j v))) := by
  have h := c_X2_add (g := g) (S := S) T11 (r := i) (c := j) (v := v) (by omega) (by omega) l
  rw [tg_ix hi hj, ts_ix hi hj] at h
  exact h
theorem c_col12 {g : mG} {S : Mem} {j : Int} (hj : 0 ≤ j ∧ j < 9) (l : Launch) : Does l yX2_columnSum wsX2_columnSum ({ frames := 2, cells := 0, slots := 0, locals := 46 } : Room) g [.ref (g.2.2 11), .int (z32 j)] S (PI (col (S 12) j) S) := by
  have h := c_X2_columnSum (g := g) (S := S) T11 (c := j) (by omega) l
  rw [show ((9 : Int).toNat) = 9 from rfl, sI_cong (f := fun r => tg 9 9 (S 12) r j) (g := fun i => S 12 (ix i j)) (fun k a b => tg_ix ⟨a, b⟩ hj)] at h
  exact h
theorem c_row12 {g : mG} {S : Mem} {j : Int} (hj : 0 ≤ j ∧ j < 9) (l : Launch) : Does l yX2_rowSum wsX2_rowSum ({ frames := 2, cells := 0, slots := 0, locals := 46 } : Room) g [.ref (g.2.2 11), .int (z32 j)] S (PI (row (S 12) j) S) := by
  have h := c_X2_rowSum (g := g) (S := S) T11 (r := j) (by omega) l
  rw [show ((9 : Int).toNat) = 9 from rfl, sI_cong (f := fun c => tg 9 9 (S 12) j c) (g := fun i => S 12 (ix j i)) (fun k a b => tg_ix hj ⟨a, b⟩)] at h
  exact h
theorem c_get14 {g : mG} {S : Mem} {i j : Int} (hi : 0 ≤ i ∧ i < 9) (hj : 0 ≤ j ∧ j < 9) (l : Launch) : Does l yX2_get wsX2_get ({ frames := 1, cells := 0, slots := 0, locals := 23 } : Room) g [.ref (g.2.2 13), .int (z32 i), .int (z32 j)] S (PI (S 14 (ix i j)) S) := by
  rw [← tg_ix (f := S 14) hi hj]
  exact c_X2_get T13 (by omega) (by omega) l
theorem c_add14 {g : mG} {S : Mem} {i j v : Int} (hi : 0 ≤ i ∧ i < 9) (hj : 0 ≤ j ∧ j < 9) (l : Launch) : Does l yX2_add wsX2_add ({ frames := 2, cells := 0, slots := 0, locals := 47 } : Room) g [.ref (g.2.2 13), .int (z32 i), .int (z32 j), .int (z32 v)] S (PV (mput S 14 (adF (S 14) i j v))) := by
  have h := c_X2_add (g := g) (S := S) T13 (r := i) (c := j) (v := v) (by omega) (by omega) l
  rw [tg_ix hi hj, ts_ix hi hj] at h
  exact h
theorem c_col14 {g : mG} {S : Mem} {j : Int} (hj : 0 ≤ j ∧ j < 9) (l : Launch) : Does l yX2_columnSum wsX2_columnSum ({ frames := 2, cells := 0, slots := 0, locals := 46 } : Room) g [.ref (g.2.2 13), .int (z32 j)] S (PI (col (S 14) j) S) := by
  have h := c_X2_columnSum (g := g) (S := S) T13 (c := j) (by omega) l
  rw [show ((9 : Int).toNat) = 9 from rfl, sI_cong (f := fun r => tg 9 9 (S 14) r j) (g := fun i => S 14 (ix i j)) (fun k a b => tg_ix ⟨a, b⟩ hj)] at h
  exact h
theorem c_row14 {g : mG} {S : Mem} {j : Int} (hj : 0 ≤ j ∧ j < 9) (l : Launch) : Does l yX2_rowSum wsX2_rowSum ({ frames := 2, cells := 0, slots := 0, locals := 46 } : Room) g [.ref (g.2.2 13), .int (z32 j)] S (PI (row (S 14) j) S) := by
  have h := c_X2_rowSum (g := g) (S := S) T13 (r := j) (by omega) l
  rw [show ((9 : Int).toNat) = 9 from rfl, sI_cong (f := fun c => tg 9 9 (S 14) j c) (g := fun i => S 14 (ix j i)) (fun k a b => tg_ix hj ⟨a, b⟩)] at h
  exact h
theorem iX4_takeOver_4 : ∀ w ∈ wsX40, w ∈ wsX4_takeOver := by decide +kernel
theorem fX4_takeOver_28 : Cond.fieldLink RX4 28 "Mutualledger" "debts" "LMutualledger$Debts;" ∈ wsX4_takeOver := by decide +kernel
set_option maxHeartbeats 4000000 in
set_option maxRecDepth 100000 in
theorem c_X4_takeOver {g : mG} {S : Mem} {o s c m : Int} (ho : 0 ≤ o ∧ o < 9) (hs : 0 ≤ s ∧ s < 9) (hc : 0 ≤ c ∧ c < 9) (l : Launch) : Does l yX4_takeOver wsX4_takeOver ({ frames := 4, cells := 0, slots := 0, locals := 93 } : Room) g [.ref (g.2.2 0), .int (z32 o), .int (z32 s), .int (z32 c), .int (z32 m)] S (PV (mput S 8 (tkF (S 8) o s c m))) := by
  refine Does.of (cc := cX4_takeOver) (maxL := 5) (ret := none) (own := RX4) (by decide) rfl rfl (Nat.le_of_ble_eq_true rfl) ?_
  intro C hC hR
  show MW C g 5 (0, 0) 0 [(0, .ref (g.2.2 0)), (1, .int (z32 o)), (2, .int (z32 s)), (3, .int (z32 c)), (4, .int (z32 m))] [] S
  refine m_aload_n hC dX4_takeOver_0 0 rfl ?_
  refine m_getR (o := 0) (j := 2) (a := 6) (CN := RX4) (T := TX4) (N := 9) hC iX4_takeOver_4 fX4_takeOver_28 rfl dX4_takeOver_1 rfl rfl (by decide) rfl ?_
  refine m_iload_n hC dX4_takeOver_4 2 rfl ?_
  refine m_iload_n hC dX4_takeOver_5 3 rfl ?_
  refine m_iload hC dX4_takeOver_6 4 rfl ?_
  refine m_ineg hC dX4_takeOver_8 ?_
  refine m_callVv (n := 3) hC (c_more9 hs hc) gX4_takeOver_X0_more rfl dX4_takeOver_9 rfl rfl (by decide +kernel) ⟨Nat.le_of_ble_eq_true rfl, Nat.le_of_ble_eq_true rfl⟩ rfl (Nat.le_of_ble_eq_true rfl) ⟨Nat.le_of_ble_eq_true rfl, Nat.le_of_ble_eq_true rfl⟩ rfl ?_
  refine m_iload_n hC dX4_takeOver_12 1 rfl ?_
  refine m_iload_n hC dX4_takeOver_13 3 rfl ?_
  refine m_icmp_eq (tgt := 28) hC dX4_takeOver_14 (by decide) (by omega) (by omega) (fun c_14 => ?_) (fun c_14 => ?_)
  · refine m_vretv hC hR dX4_takeOver_28 ⟨Nat.le_of_ble_eq_true rfl, Nat.le_of_ble_eq_true rfl⟩ ?_
    first | (rw [tkF, if_pos (by omega)]; done) | rw [tkF, if_neg (by omega), mput_mput, mput_same]
  · refine m_aload_n hC dX4_takeOver_17 0 rfl ?_
    refine m_getR (o := 0) (j := 2) (a := 6) (CN := RX4) (T := TX4) (N := 9) hC iX4_takeOver_4 fX4_takeOver_28 rfl dX4_takeOver_18 rfl rfl (by decide) rfl ?_
    refine m_iload_n hC dX4_takeOver_21 1 rfl ?_
    refine m_iload_n hC dX4_takeOver_22 3 rfl ?_
    refine m_iload hC dX4_takeOver_23 4 rfl ?_
    refine m_callVv (n := 3) hC (c_more9 ho hc) gX4_takeOver_X0_more rfl dX4_takeOver_25 rfl rfl (by decide +kernel) ⟨Nat.le_of_ble_eq_true rfl, Nat.le_of_ble_eq_true rfl⟩ rfl (Nat.le_of_ble_eq_true rfl) ⟨Nat.le_of_ble_eq_true rfl, Nat.le_of_ble_eq_true rfl⟩ rfl ?_
    refine m_vretv hC hR dX4_takeOver_28 ⟨Nat.le_of_ble_eq_true rfl, Nat.le_of_ble_eq_true rfl⟩ ?_
    first | (rw [tkF, if_pos (by omega)]; done) | rw [tkF, if_neg (by omega), mput_mput, mput_same]
theorem iX4_passDebtsThrough_4 : ∀ w ∈ wsX40, w ∈ wsX4_passDebtsThrough := by decide +kernel
theorem fX4_passDebtsThrough_28 : Cond.fieldLink RX4 28 "Mutualledger" "debts" "LMutualledger$Debts;" ∈ wsX4_passDebtsThrough := by decide +kernel
set_option maxHeartbeats 4000000 in
set_option maxRecDepth 100000 in
theorem c_X4_passDebtsThrough {g : mG} {S : Mem} {s : Int} (hs : 0 ≤ s ∧ s < 9) (hok : OkD (S 8)) (l : Launch) : Does l yX4_passDebtsThrough wsX4_passDebtsThrough ({ frames := 5, cells := 0, slots := 0, locals := 117 } : Room) g [.ref (g.2.2 0), .int (z32 s)] S (PV (mput S 8 (psO s (S 8) 8))) := by
  refine Does.of (cc := cX4_passDebtsThrough) (maxL := 5) (ret := none) (own := RX4) (by decide) rfl rfl (Nat.le_of_ble_eq_true rfl) ?_
  intro C hC hR
  show MW C g 5 (0, 0) 0 [(0, .ref (g.2.2 0)), (1, .int (z32 s))] [] S
  refine m_iconst (v := 0) hC dX4_passDebtsThrough_0 (by decide) ?_
  refine m_istore_n hC dX4_passDebtsThrough_1 (fun z9 => [(2, .int (z32 z9)), (0, .ref (g.2.2 0)), (1, .int (z32 s))]) (by decide) (fun _ => rfl) (fun v2_1 hv2_1 => ?_)
  have L2 : ∀ (n2 : Nat) (i : Nat) (x : Int) (S1 : Mem), 8 - x < (n2 : Int) → x = (i : Int) → i ≤ 8 → S1 = mput S 8 (psO s (S 8) i) → MW C g 5 (0, 0) 2 [(0, .ref (g.2.2 0)), (1, .int (z32 s)), (2, .int (z32 x))] [] S1 := by
    intro n2
    induction n2 with
    | zero => intros; exfalso; omega
    | succ n2 ih2 =>
      intro i x S1 hm2 hx hi hS1
      have hok1 := psO_ok hs hok hi
      refine m_iload_n hC dX4_passDebtsThrough_2 2 rfl ?_
      refine m_bipush (v := 8) hC dX4_passDebtsThrough_3 (by decide) ?_
      refine m_icmp_ge (tgt := 72) hC dX4_passDebtsThrough_5 (by decide) (by omega) (by omega) (fun c_5 => ?_) (fun c_5 => ?_)
      · refine m_vretv hC hR dX4_passDebtsThrough_72 ⟨Nat.le_of_ble_eq_true rfl, Nat.le_of_ble_eq_true rfl⟩ ?_
        rw [hS1, show i = 8 by omega]
      · refine m_iconst (v := 0) hC dX4_passDebtsThrough_8 (by decide) ?_
        refine m_istore_n hC dX4_passDebtsThrough_9 (fun z9 => [(3, .int (z32 z9)), (0, .ref (g.2.2 0)), (1, .int (z32 s)), (2, .int (z32 x))]) (by decide) (fun _ => rfl) (fun v3_9 hv3_9 => ?_)
        have L10 : ∀ (n10 : Nat) (k : Nat) (y : Int) (S2 : Mem), 9 - y < (n10 : Int) → y = (k : Int) → k ≤ 9 → S2 = mput S 8 (psI s x (psO s (S 8) i) k) → MW C g 5 (0, 0) 10 [(0, .ref (g.2.2 0)), (1, .int (z32 s)), (2, .int (z32 x)), (3, .int (z32 y))] [] S2 := by
          intro n10
          induction n10 with
          | zero => intros; exfalso; omega
          | succ n10 ih10 =>
            intro k y S2 hm10 hy hk hS2
            have hok2 := psI_ok (d := x) hs (by omega) hok1 hk
            have e8 : S2 8 = psI s x (psO s (S 8) i) k := by rw [hS2, mput_same]
            rw [← e8] at hok2
            refine m_iload_n hC dX4_passDebtsThrough_10 3 rfl ?_
            refine m_bipush (v := 9) hC dX4_passDebtsThrough_11 (by decide) ?_
            refine m_icmp_ge (tgt := 66) hC dX4_passDebtsThrough_13 (by decide) (by omega) (by omega) (fun c_13 => ?_) (fun c_13 => ?_)
            · refine m_iinc hC dX4_passDebtsThrough_66 2 rfl (fun z9 => [(2, .int (z32 z9)), (0, .ref (g.2.2 0)), (1, .int (z32 s)), (3, .int (z32 y))]) (by decide) (fun _ => rfl) (fun v2_66 hv2_66 => ?_)
              refine m_goto (tgt := 2) hC dX4_passDebtsThrough_69 (by decide) ?_
              refine m_locals [1, 2, 0] rfl ?_
              exact ih2 (i + 1) v2_66 _ (by omega) (by omega) (by omega) (by rw [hS2, show k = 9 by omega, hx]; rfl)
            · refine m_aload_n hC dX4_passDebtsThrough_16 0 rfl ?_
              refine m_getR (o := 0) (j := 2) (a := 6) (CN := RX4) (T := TX4) (N := 9) hC iX4_passDebtsThrough_4 fX4_passDebtsThrough_28 rfl dX4_passDebtsThrough_17 rfl rfl (by decide) rfl ?_
              refine m_iload_n hC dX4_passDebtsThrough_20 2 rfl ?_
              refine m_iload_n hC dX4_passDebtsThrough_21 1 rfl ?_
              refine m_callVi (n := 2) hC (c_owed9 (by omega) hs) gX4_passDebtsThrough_X0_owed rfl dX4_passDebtsThrough_22 rfl rfl (by decide +kernel) ⟨Nat.le_of_ble_eq_true rfl, Nat.le_of_ble_eq_true rfl⟩ rfl (Nat.le_of_ble_eq_true rfl) ⟨Nat.le_of_ble_eq_true rfl, Nat.le_of_ble_eq_true rfl⟩ rfl ?_
              refine m_aload_n hC dX4_passDebtsThrough_25 0 rfl ?_
              refine m_getR (o := 0) (j := 2) (a := 6) (CN := RX4) (T := TX4) (N := 9) hC iX4_passDebtsThrough_4 fX4_passDebtsThrough_28 rfl dX4_passDebtsThrough_26 rfl rfl (by decide) rfl ?_
              refine m_iload_n hC dX4_passDebtsThrough_29 1 rfl ?_
              refine m_iload_n hC dX4_passDebtsThrough_30 3 rfl ?_
              refine m_callVi (n := 2) hC (c_owed9 hs (by omega)) gX4_passDebtsThrough_X0_owed rfl dX4_passDebtsThrough_31 rfl rfl (by decide +kernel) ⟨Nat.le_of_ble_eq_true rfl, Nat.le_of_ble_eq_true rfl⟩ rfl (Nat.le_of_ble_eq_true rfl) ⟨Nat.le_of_ble_eq_true rfl, Nat.le_of_ble_eq_true rfl⟩ rfl ?_
              refine m_min hC (by decide +kernel) (by decide +kernel) (by decide +kernel) (by decide +kernel) dX4_passDebtsThrough_34 (Nat.le_of_ble_eq_true rfl) (Nat.le_of_ble_eq_true rfl) ⟨Nat.le_of_ble_eq_true rfl, Nat.le_of_ble_eq_true rfl⟩ (by have h9 := hok2.1.ent (i := x) (j := s) (by omega) hs; omega) (by have h9 := hok2.1.ent (i := s) (j := y) hs (by omega); omega) ?_
              refine m_istore hC dX4_passDebtsThrough_37 (fun z9 => [(4, .int (z32 z9)), (0, .ref (g.2.2 0)), (1, .int (z32 s)), (2, .int (z32 x)), (3, .int (z32 y))]) (by decide) (fun _ => rfl) (fun v4_37 hv4_37 => ?_)
              refine m_aload_n hC dX4_passDebtsThrough_39 1 rfl ?_
              refine m_getR (o := 0) (j := 2) (a := 6) (CN := RX4) (T := TX4) (N := 9) hC iX4_passDebtsThrough_4 fX4_passDebtsThrough_28 rfl dX4_passDebtsThrough_40 rfl rfl (by decide) rfl ?_
              refine m_iload_n hC dX4_passDebtsThrough_43 3 rfl ?_
              refine m_iload_n hC dX4_passDebtsThrough_44 2 rfl ?_
              refine m_iload hC dX4_passDebtsThrough_45 0 rfl ?_
              refine m_ineg hC dX4_passDebtsThrough_47 ?_
              refine m_callVv (n := 3) hC (c_more9 (by omega) hs) gX4_passDebtsThrough_X0_more rfl dX4_passDebtsThrough_48 rfl rfl (by decide +kernel) ⟨Nat.le_of_ble_eq_true rfl, Nat.le_of_ble_eq_true rfl⟩ rfl (Nat.le_of_ble_eq_true rfl) ⟨Nat.le_of_ble_eq_true rfl, Nat.le_of_ble_eq_true rfl⟩ rfl ?_
              refine m_aload_n hC dX4_passDebtsThrough_51 1 rfl ?_
              refine m_iload_n hC dX4_passDebtsThrough_52 3 rfl ?_
              refine m_iload_n hC dX4_passDebtsThrough_53 2 rfl ?_
              refine m_iload_n hC dX4_passDebtsThrough_54 4 rfl ?_
              refine m_iload hC dX4_passDebtsThrough_55 0 rfl ?_
              refine m_callVv (n := 4) hC (c_X4_takeOver (by omega) hs (by omega)) gX4_passDebtsThrough_X4_takeOver rfl dX4_passDebtsThrough_57 rfl rfl (by decide +kernel) ⟨Nat.le_of_ble_eq_true rfl, Nat.le_of_ble_eq_true rfl⟩ rfl (Nat.le_of_ble_eq_true rfl) ⟨Nat.le_of_ble_eq_true rfl, Nat.le_of_ble_eq_true rfl⟩ rfl ?_
              refine m_iinc hC dX4_passDebtsThrough_60 4 rfl (fun z9 => [(3, .int (z32 z9)), (4, .int (z32 v4_37)), (0, .ref (g.2.2 0)), (1, .int (z32 s)), (2, .int (z32 x))]) (by decide) (fun _ => rfl) (fun v3_60 hv3_60 => ?_)
              refine m_goto (tgt := 10) hC dX4_passDebtsThrough_63 (by decide) ?_
              refine m_locals [2, 3, 4, 0] rfl ?_
              exact ih10 (k + 1) v3_60 _ (by omega) (by omega) (by omega) (by rw [hv4_37, hS2]; simp only [mput_same, mput_mput]; rw [hy]; rfl)
        refine m_locals [1, 2, 3, 0] rfl ?_
        exact L10 10 0 v3_9 _ (by omega) (by omega) (by omega) (hS1)
  refine m_locals [1, 2, 0] rfl ?_
  exact L2 9 0 v2_1 _ (by omega) (by omega) (by omega) ((mput_self S 8).symm)
theorem iX4_letGuarantorsPay_4 : ∀ w ∈ wsX40, w ∈ wsX4_letGuarantorsPay := by decide +kernel
theorem fX4_letGuarantorsPay_28 : Cond.fieldLink RX4 28 "Mutualledger" "debts" "LMutualledger$Debts;" ∈ wsX4_letGuarantorsPay := by decide +kernel
theorem fX4_letGuarantorsPay_32 : Cond.fieldLink RX4 32 "Mutualledger" "guarantees" "LMutualledger$Table;" ∈ wsX4_letGuarantorsPay := by decide +kernel
theorem fX4_letGuarantorsPay_35 : Cond.fieldLink RX4 35 "Mutualledger" "givenUp" "LMutualledger$Table;" ∈ wsX4_letGuarantorsPay := by decide +kernel
set_option maxHeartbeats 4000000 in
set_option maxRecDepth 100000 in
theorem c_X4_letGuarantorsPay {g : mG} {S : Mem} {s : Int} (hs : 0 ≤ s ∧ s < 9) (hok : lgOk (S 8, S 12, S 14)) (l : Launch) : Does l yX4_letGuarantorsPay wsX4_letGuarantorsPay ({ frames := 5, cells := 0, slots := 0, locals := 117 } : Room) g [.ref (g.2.2 0), .int (z32 s)] S (PV (m3 S (lgO s (S 8, S 12, S 14) 9))) := by
  refine Does.of (cc := cX4_letGuarantorsPay) (maxL := 5) (ret := none) (own := RX4) (by decide) rfl rfl (Nat.le_of_ble_eq_true rfl) ?_
  intro C hC hR
  show MW C g 5 (0, 0) 0 [(0, .ref (g.2.2 0)), (1, .int (z32 s))] [] S
  refine m_iconst (v := 0) hC dX4_letGuarantorsPay_0 (by decide) ?_
  refine m_istore_n hC dX4_letGuarantorsPay_1 (fun z9 => [(2, .int (z32 z9)), (0, .ref (g.2.2 0)), (1, .int (z32 s))]) (by decide) (fun _ => rfl) (fun v2_1 hv2_1 => ?_)
  have L2 : ∀ (n2 : Nat) (i : Nat) (x : Int) (S1 : Mem), 9 - x < (n2 : Int) → x = (i : Int) → i ≤ 9 → S1 = m3 S (lgO s (S 8, S 12, S 14) i) → MW C g 5 (0, 0) 2 [(0, .ref (g.2.2 0)), (1, .int (z32 s)), (2, .int (z32 x))] [] S1 := by
    intro n2
    induction n2 with
    | zero => intros; exfalso; omega
    | succ n2 ih2 =>
      intro i x S1 hm2 hx hi hS1
      have hok1 := lgO_ok hs hok hi
      refine m_iload_n hC dX4_letGuarantorsPay_2 2 rfl ?_
      refine m_bipush (v := 9) hC dX4_letGuarantorsPay_3 (by decide) ?_
      refine m_icmp_ge (tgt := 83) hC dX4_letGuarantorsPay_5 (by decide) (by omega) (by omega) (fun c_5 => ?_) (fun c_5 => ?_)
      · refine m_vretv hC hR dX4_letGuarantorsPay_83 ⟨Nat.le_of_ble_eq_true rfl, Nat.le_of_ble_eq_true rfl⟩ ?_
        rw [hS1, show i = 9 by omega]
      · refine m_iconst (v := 0) hC dX4_letGuarantorsPay_8 (by decide) ?_
        refine m_istore_n hC dX4_letGuarantorsPay_9 (fun z9 => [(3, .int (z32 z9)), (0, .ref (g.2.2 0)), (1, .int (z32 s)), (2, .int (z32 x))]) (by decide) (fun _ => rfl) (fun v3_9 hv3_9 => ?_)
        have L10 : ∀ (n10 : Nat) (k : Nat) (y : Int) (S2 : Mem), 8 - y < (n10 : Int) → y = (k : Int) → k ≤ 8 → S2 = m3 S (lgI s x (lgO s (S 8, S 12, S 14) i) k) → MW C g 5 (0, 0) 10 [(0, .ref (g.2.2 0)), (1, .int (z32 s)), (2, .int (z32 x)), (3, .int (z32 y))] [] S2 := by
          intro n10
          induction n10 with
          | zero => intros; exfalso; omega
          | succ n10 ih10 =>
            intro k y S2 hm10 hy hk hS2
            have hok2 := lgI_ok (c := x) hs (by omega) hok1 (show k ≤ 9 by omega)
            have e8 : S2 8 = (lgI s x (lgO s (S 8, S 12, S 14) i) k).1 := by rw [hS2]; rfl
            have e12 : S2 12 = (lgI s x (lgO s (S 8, S 12, S 14) i) k).2.1 := by rw [hS2]; rfl
            refine m_iload_n hC dX4_letGuarantorsPay_10 3 rfl ?_
            refine m_bipush (v := 8) hC dX4_letGuarantorsPay_11 (by decide) ?_
            refine m_icmp_ge (tgt := 77) hC dX4_letGuarantorsPay_13 (by decide) (by omega) (by omega) (fun c_13 => ?_) (fun c_13 => ?_)
            · refine m_iinc hC dX4_letGuarantorsPay_77 2 rfl (fun z9 => [(2, .int (z32 z9)), (0, .ref (g.2.2 0)), (1, .int (z32 s)), (3, .int (z32 y))]) (by decide) (fun _ => rfl) (fun v2_77 hv2_77 => ?_)
              refine m_goto (tgt := 2) hC dX4_letGuarantorsPay_80 (by decide) ?_
              refine m_locals [1, 2, 0] rfl ?_
              exact ih2 (i + 1) v2_77 _ (by omega) (by omega) (by omega) (by rw [hS2, show k = 8 by omega, hx]; rfl)
            · refine m_aload_n hC dX4_letGuarantorsPay_16 0 rfl ?_
              refine m_getR (o := 0) (j := 2) (a := 6) (CN := RX4) (T := TX4) (N := 9) hC iX4_letGuarantorsPay_4 fX4_letGuarantorsPay_28 rfl dX4_letGuarantorsPay_17 rfl rfl (by decide) rfl ?_
              refine m_iload_n hC dX4_letGuarantorsPay_20 1 rfl ?_
              refine m_iload_n hC dX4_letGuarantorsPay_21 2 rfl ?_
              refine m_callVi (n := 2) hC (c_owed9 hs (by omega)) gX4_letGuarantorsPay_X0_owed rfl dX4_letGuarantorsPay_22 rfl rfl (by decide +kernel) ⟨Nat.le_of_ble_eq_true rfl, Nat.le_of_ble_eq_true rfl⟩ rfl (Nat.le_of_ble_eq_true rfl) ⟨Nat.le_of_ble_eq_true rfl, Nat.le_of_ble_eq_true rfl⟩ rfl ?_
              refine m_aload_n hC dX4_letGuarantorsPay_25 0 rfl ?_
              refine m_getR (o := 0) (j := 3) (a := 11) (CN := RX4) (T := TX4) (N := 9) hC iX4_letGuarantorsPay_4 fX4_letGuarantorsPay_32 rfl dX4_letGuarantorsPay_26 rfl rfl (by decide) rfl ?_
              refine m_iload_n hC dX4_letGuarantorsPay_29 3 rfl ?_
              refine m_iload_n hC dX4_letGuarantorsPay_30 1 rfl ?_
              refine m_callVi (n := 2) hC (c_get12 (by omega) hs) gX4_letGuarantorsPay_X2_get rfl dX4_letGuarantorsPay_31 rfl rfl (by decide +kernel) ⟨Nat.le_of_ble_eq_true rfl, Nat.le_of_ble_eq_true rfl⟩ rfl (Nat.le_of_ble_eq_true rfl) ⟨Nat.le_of_ble_eq_true rfl, Nat.le_of_ble_eq_true rfl⟩ rfl ?_
              refine m_min hC (by decide +kernel) (by decide +kernel) (by decide +kernel) (by decide +kernel) dX4_letGuarantorsPay_34 (Nat.le_of_ble_eq_true rfl) (Nat.le_of_ble_eq_true rfl) ⟨Nat.le_of_ble_eq_true rfl, Nat.le_of_ble_eq_true rfl⟩ (by have h9 := hok2.1.1.ent (i := s) (j := x) hs (by omega); rw [e8]; omega) (by have h9 := hok2.2.1.ent (i := y) (j := s) (by omega) hs; rw [e12]; omega) ?_
              refine m_istore hC dX4_letGuarantorsPay_37 (fun z9 => [(4, .int (z32 z9)), (0, .ref (g.2.2 0)), (1, .int (z32 s)), (2, .int (z32 x)), (3, .int (z32 y))]) (by decide) (fun _ => rfl) (fun v4_37 hv4_37 => ?_)
              refine m_aload_n hC dX4_letGuarantorsPay_39 1 rfl ?_
              refine m_getR (o := 0) (j := 3) (a := 11) (CN := RX4) (T := TX4) (N := 9) hC iX4_letGuarantorsPay_4 fX4_letGuarantorsPay_32 rfl dX4_letGuarantorsPay_40 rfl rfl (by decide) rfl ?_
              refine m_iload_n hC dX4_letGuarantorsPay_43 4 rfl ?_
              refine m_iload_n hC dX4_letGuarantorsPay_44 2 rfl ?_
              refine m_iload hC dX4_letGuarantorsPay_45 0 rfl ?_
              refine m_ineg hC dX4_letGuarantorsPay_47 ?_
              refine m_callVv (n := 3) hC (c_add12 (by omega) hs) gX4_letGuarantorsPay_X2_add rfl dX4_letGuarantorsPay_48 rfl rfl (by decide +kernel) ⟨Nat.le_of_ble_eq_true rfl, Nat.le_of_ble_eq_true rfl⟩ rfl (Nat.le_of_ble_eq_true rfl) ⟨Nat.le_of_ble_eq_true rfl, Nat.le_of_ble_eq_true rfl⟩ rfl ?_
              refine m_aload_n hC dX4_letGuarantorsPay_51 1 rfl ?_
              refine m_getR (o := 0) (j := 4) (a := 13) (CN := RX4) (T := TX4) (N := 9) hC iX4_letGuarantorsPay_4 fX4_letGuarantorsPay_35 rfl dX4_letGuarantorsPay_52 rfl rfl (by decide) rfl ?_
              refine m_iload_n hC dX4_letGuarantorsPay_55 4 rfl ?_
              refine m_iload_n hC dX4_letGuarantorsPay_56 2 rfl ?_
              refine m_iload hC dX4_letGuarantorsPay_57 0 rfl ?_
              refine m_callVv (n := 3) hC (c_add14 (by omega) hs) gX4_letGuarantorsPay_X2_add rfl dX4_letGuarantorsPay_59 rfl rfl (by decide +kernel) ⟨Nat.le_of_ble_eq_true rfl, Nat.le_of_ble_eq_true rfl⟩ rfl (Nat.le_of_ble_eq_true rfl) ⟨Nat.le_of_ble_eq_true rfl, Nat.le_of_ble_eq_true rfl⟩ rfl ?_
              refine m_aload_n hC dX4_letGuarantorsPay_62 1 rfl ?_
              refine m_iload_n hC dX4_letGuarantorsPay_63 4 rfl ?_
              refine m_iload_n hC dX4_letGuarantorsPay_64 2 rfl ?_
              refine m_iload_n hC dX4_letGuarantorsPay_65 3 rfl ?_
              refine m_iload hC dX4_letGuarantorsPay_66 0 rfl ?_
              refine m_callVv (n := 4) hC (c_X4_takeOver (by omega) hs (by omega)) gX4_letGuarantorsPay_X4_takeOver rfl dX4_letGuarantorsPay_68 rfl rfl (by decide +kernel) ⟨Nat.le_of_ble_eq_true rfl, Nat.le_of_ble_eq_true rfl⟩ rfl (Nat.le_of_ble_eq_true rfl) ⟨Nat.le_of_ble_eq_true rfl, Nat.le_of_ble_eq_true rfl⟩ rfl ?_
              refine m_iinc hC dX4_letGuarantorsPay_71 4 rfl (fun z9 => [(3, .int (z32 z9)), (4, .int (z32 v4_37)), (0, .ref (g.2.2 0)), (1, .int (z32 s)), (2, .int (z32 x))]) (by decide) (fun _ => rfl) (fun v3_71 hv3_71 => ?_)
              refine m_goto (tgt := 10) hC dX4_letGuarantorsPay_74 (by decide) ?_
              refine m_locals [2, 3, 4, 0] rfl ?_
              exact ih10 (k + 1) v3_71 _ (by omega) (by omega) (by omega) (by rw [show lgI s x (lgO s (S 8, S 12, S 14) i) (k + 1) = lgF s x (k : Int) (lgI s x (lgO s (S 8, S 12, S 14) i) k) from rfl, ← hy, hv4_37, e8, e12]; subst hS2; generalize lgI s x (lgO s (S 8, S 12, S 14) i) k = u; exact m3_step s x y u)
        refine m_locals [1, 2, 3, 0] rfl ?_
        exact L10 9 0 v3_9 _ (by omega) (by omega) (by omega) (hS1)
  refine m_locals [1, 2, 0] rfl ?_
  exact L2 10 0 v2_1 _ (by omega) (by omega) (by omega) (by show S = mput (mput (mput S 8 (S 8)) 12 (S 12)) 14 (S 14); rw [mput_self, mput_self, mput_self])
theorem iX4_oweInGoodsBy_4 : ∀ w ∈ wsX40, w ∈ wsX4_oweInGoodsBy := by decide +kernel
theorem fX4_oweInGoodsBy_28 : Cond.fieldLink RX4 28 "Mutualledger" "debts" "LMutualledger$Debts;" ∈ wsX4_oweInGoodsBy := by decide +kernel
theorem fX4_oweInGoodsBy_35 : Cond.fieldLink RX4 35 "Mutualledger" "givenUp" "LMutualledger$Table;" ∈ wsX4_oweInGoodsBy := by decide +kernel
set_option maxHeartbeats 4000000 in
set_option maxRecDepth 100000 in
theorem c_X4_oweInGoodsBy {g : mG} {S : Mem} {s : Int} (hs : 0 ≤ s ∧ s < 9) (l : Launch) : Does l yX4_oweInGoodsBy wsX4_oweInGoodsBy ({ frames := 4, cells := 0, slots := 0, locals := 93 } : Room) g [.ref (g.2.2 0), .int (z32 s)] S (PI (gbI s (S 8, S 14, 0) 9).2.2 (m2 S ((gbI s (S 8, S 14, 0) 9).1, (gbI s (S 8, S 14, 0) 9).2.1))) := by
  refine Does.of (cc := cX4_oweInGoodsBy) (maxL := 5) (ret := (some .int)) (own := RX4) (by decide) rfl rfl (Nat.le_of_ble_eq_true rfl) ?_
  intro C hC hR
  show MW C g 5 (0, 0) 0 [(0, .ref (g.2.2 0)), (1, .int (z32 s))] [] S
  refine m_iconst (v := 0) hC dX4_oweInGoodsBy_0 (by decide) ?_
  refine m_istore_n hC dX4_oweInGoodsBy_1 (fun z9 => [(2, .int (z32 z9)), (0, .ref (g.2.2 0)), (1, .int (z32 s))]) (by decide) (fun _ => rfl) (fun v2_1 hv2_1 => ?_)
  refine m_iconst (v := 0) hC dX4_oweInGoodsBy_2 (by decide) ?_
  refine m_istore_n hC dX4_oweInGoodsBy_3 (fun z9 => [(3, .int (z32 z9)), (2, .int (z32 v2_1)), (0, .ref (g.2.2 0)), (1, .int (z32 s))]) (by decide) (fun _ => rfl) (fun v3_3 hv3_3 => ?_)
  have L4 : ∀ (n4 : Nat) (i : Nat) (x : Int) (sm : Int) (S1 : Mem), 9 - x < (n4 : Int) → x = (i : Int) → i ≤ 9 → sm = (gbI s (S 8, S 14, 0) i).2.2 → S1 = m2 S ((gbI s (S 8, S 14, 0) i).1, (gbI s (S 8, S 14, 0) i).2.1) → MW C g 5 (0, 0) 4 [(0, .ref (g.2.2 0)), (1, .int (z32 s)), (2, .int (z32 sm)), (3, .int (z32 x))] [] S1 := by
    intro n4
    induction n4 with
    | zero => intros; exfalso; omega
    | succ n4 ih4 =>
      intro i x sm S1 hm4 hx hi hsm hS1
      have e8 : S1 8 = (gbI s (S 8, S 14, 0) i).1 := by rw [hS1]; rfl
      refine m_iload_n hC dX4_oweInGoodsBy_4 3 rfl ?_
      refine m_bipush (v := 9) hC dX4_oweInGoodsBy_5 (by decide) ?_
      refine m_icmp_ge (tgt := 55) hC dX4_oweInGoodsBy_7 (by decide) (by omega) (by omega) (fun c_7 => ?_) (fun c_7 => ?_)
      · refine m_iload_n hC dX4_oweInGoodsBy_55 2 rfl ?_
        refine m_ireti hC hR (Or.inl rfl) dX4_oweInGoodsBy_56 ⟨Nat.le_of_ble_eq_true rfl, Nat.le_of_ble_eq_true rfl⟩ ?_ ?_
        · rw [hsm, show i = 9 by omega]
        · rw [hS1, show i = 9 by omega]
      · refine m_aload_n hC dX4_oweInGoodsBy_10 0 rfl ?_
        refine m_getR (o := 0) (j := 2) (a := 6) (CN := RX4) (T := TX4) (N := 9) hC iX4_oweInGoodsBy_4 fX4_oweInGoodsBy_28 rfl dX4_oweInGoodsBy_11 rfl rfl (by decide) rfl ?_
        refine m_iload_n hC dX4_oweInGoodsBy_14 1 rfl ?_
        refine m_iload_n hC dX4_oweInGoodsBy_15 3 rfl ?_
        refine m_callVi (n := 2) hC (c_owed9 hs (by omega)) gX4_oweInGoodsBy_X0_owed rfl dX4_oweInGoodsBy_16 rfl rfl (by decide +kernel) ⟨Nat.le_of_ble_eq_true rfl, Nat.le_of_ble_eq_true rfl⟩ rfl (Nat.le_of_ble_eq_true rfl) ⟨Nat.le_of_ble_eq_true rfl, Nat.le_of_ble_eq_true rfl⟩ rfl ?_
        refine m_istore hC dX4_oweInGoodsBy_19 (fun z9 => [(4, .int (z32 z9)), (0, .ref (g.2.2 0)), (1, .int (z32 s)), (2, .int (z32 sm)), (3, .int (z32 x))]) (by decide) (fun _ => rfl) (fun v4_19 hv4_19 => ?_)
        refine m_aload_n hC dX4_oweInGoodsBy_21 1 rfl ?_
        refine m_getR (o := 0) (j := 2) (a := 6) (CN := RX4) (T := TX4) (N := 9) hC iX4_oweInGoodsBy_4 fX4_oweInGoodsBy_28 rfl dX4_oweInGoodsBy_22 rfl rfl (by decide) rfl ?_
        refine m_iload_n hC dX4_oweInGoodsBy_25 2 rfl ?_
        refine m_iload_n hC dX4_oweInGoodsBy_26 4 rfl ?_
        refine m_iload hC dX4_oweInGoodsBy_27 0 rfl ?_
        refine m_ineg hC dX4_oweInGoodsBy_29 ?_
        refine m_callVv (n := 3) hC (c_more9 hs (by omega)) gX4_oweInGoodsBy_X0_more rfl dX4_oweInGoodsBy_30 rfl rfl (by decide +kernel) ⟨Nat.le_of_ble_eq_true rfl, Nat.le_of_ble_eq_true rfl⟩ rfl (Nat.le_of_ble_eq_true rfl) ⟨Nat.le_of_ble_eq_true rfl, Nat.le_of_ble_eq_true rfl⟩ rfl ?_
        refine m_aload_n hC dX4_oweInGoodsBy_33 1 rfl ?_
        refine m_getR (o := 0) (j := 4) (a := 13) (CN := RX4) (T := TX4) (N := 9) hC iX4_oweInGoodsBy_4 fX4_oweInGoodsBy_35 rfl dX4_oweInGoodsBy_34 rfl rfl (by decide) rfl ?_
        refine m_iload_n hC dX4_oweInGoodsBy_37 4 rfl ?_
        refine m_iload_n hC dX4_oweInGoodsBy_38 2 rfl ?_
        refine m_iload hC dX4_oweInGoodsBy_39 0 rfl ?_
        refine m_callVv (n := 3) hC (c_add14 (by omega) hs) gX4_oweInGoodsBy_X2_add rfl dX4_oweInGoodsBy_41 rfl rfl (by decide +kernel) ⟨Nat.le_of_ble_eq_true rfl, Nat.le_of_ble_eq_true rfl⟩ rfl (Nat.le_of_ble_eq_true rfl) ⟨Nat.le_of_ble_eq_true rfl, Nat.le_of_ble_eq_true rfl⟩ rfl ?_
        refine m_iload_n hC dX4_oweInGoodsBy_44 3 rfl ?_
        refine m_iload hC dX4_oweInGoodsBy_45 0 rfl ?_
        refine m_iadd hC dX4_oweInGoodsBy_47 ?_
        refine m_istore_n hC dX4_oweInGoodsBy_48 (fun z9 => [(2, .int (z32 z9)), (4, .int (z32 v4_19)), (0, .ref (g.2.2 0)), (1, .int (z32 s)), (3, .int (z32 x))]) (by decide) (fun _ => rfl) (fun v2_48 hv2_48 => ?_)
        refine m_iinc hC dX4_oweInGoodsBy_49 4 rfl (fun z9 => [(3, .int (z32 z9)), (2, .int (z32 v2_48)), (4, .int (z32 v4_19)), (0, .ref (g.2.2 0)), (1, .int (z32 s))]) (by decide) (fun _ => rfl) (fun v3_49 hv3_49 => ?_)
        refine m_goto (tgt := 4) hC dX4_oweInGoodsBy_52 (by decide) ?_
        refine m_locals [3, 4, 1, 0] rfl ?_
        exact ih4 (i + 1) v3_49 v2_48 _ (by omega) (by omega) (by omega) (by rw [show gbI s (S 8, S 14, 0) (i + 1) = gbF s (i : Int) (gbI s (S 8, S 14, 0) i) from rfl, ← hx, hv2_48, hv4_19, hsm, e8]; rfl) (by rw [show gbI s (S 8, S 14, 0) (i + 1) = gbF s (i : Int) (gbI s (S 8, S 14, 0) i) from rfl, ← hx, hv4_19, e8]; subst hS1; generalize gbI s (S 8, S 14, 0) i = u; exact m2_b s x u)
  refine m_locals [2, 3, 1, 0] rfl ?_
  exact L4 10 0 v3_3 v2_1 _ (by omega) (by omega) (by omega) (hv2_1) (by show S = mput (mput S 8 (S 8)) 14 (S 14); rw [mput_self, mput_self])
theorem iX4_oweInGoodsTo_4 : ∀ w ∈ wsX40, w ∈ wsX4_oweInGoodsTo := by decide +kernel
theorem fX4_oweInGoodsTo_28 : Cond.fieldLink RX4 28 "Mutualledger" "debts" "LMutualledger$Debts;" ∈ wsX4_oweInGoodsTo := by decide +kernel
theorem fX4_oweInGoodsTo_35 : Cond.fieldLink RX4 35 "Mutualledger" "givenUp" "LMutualledger$Table;" ∈ wsX4_oweInGoodsTo := by decide +kernel
set_option maxHeartbeats 4000000 in
set_option maxRecDepth 100000 in
theorem c_X4_oweInGoodsTo {g : mG} {S : Mem} {s : Int} (hs : 0 ≤ s ∧ s < 9) (l : Launch) : Does l yX4_oweInGoodsTo wsX4_oweInGoodsTo ({ frames := 4, cells := 0, slots := 0, locals := 93 } : Room) g [.ref (g.2.2 0), .int (z32 s)] S (PI (gtI s (S 8, S 14, 0) 8).2.2 (m2 S ((gtI s (S 8, S 14, 0) 8).1, (gtI s (S 8, S 14, 0) 8).2.1))) := by
  refine Does.of (cc := cX4_oweInGoodsTo) (maxL := 5) (ret := (some .int)) (own := RX4) (by decide) rfl rfl (Nat.le_of_ble_eq_true rfl) ?_
  intro C hC hR
  show MW C g 5 (0, 0) 0 [(0, .ref (g.2.2 0)), (1, .int (z32 s))] [] S
  refine m_iconst (v := 0) hC dX4_oweInGoodsTo_0 (by decide) ?_
  refine m_istore_n hC dX4_oweInGoodsTo_1 (fun z9 => [(2, .int (z32 z9)), (0, .ref (g.2.2 0)), (1, .int (z32 s))]) (by decide) (fun _ => rfl) (fun v2_1 hv2_1 => ?_)
  refine m_iconst (v := 0) hC dX4_oweInGoodsTo_2 (by decide) ?_
  refine m_istore_n hC dX4_oweInGoodsTo_3 (fun z9 => [(3, .int (z32 z9)), (2, .int (z32 v2_1)), (0, .ref (g.2.2 0)), (1, .int (z32 s))]) (by decide) (fun _ => rfl) (fun v3_3 hv3_3 => ?_)
  have L4 : ∀ (n4 : Nat) (i : Nat) (x : Int) (sm : Int) (S1 : Mem), 8 - x < (n4 : Int) → x = (i : Int) → i ≤ 8 → sm = (gtI s (S 8, S 14, 0) i).2.2 → S1 = m2 S ((gtI s (S 8, S 14, 0) i).1, (gtI s (S 8, S 14, 0) i).2.1) → MW C g 5 (0, 0) 4 [(0, .ref (g.2.2 0)), (1, .int (z32 s)), (2, .int (z32 sm)), (3, .int (z32 x))] [] S1 := by
    intro n4
    induction n4 with
    | zero => intros; exfalso; omega
    | succ n4 ih4 =>
      intro i x sm S1 hm4 hx hi hsm hS1
      have e8 : S1 8 = (gtI s (S 8, S 14, 0) i).1 := by rw [hS1]; rfl
      refine m_iload_n hC dX4_oweInGoodsTo_4 3 rfl ?_
      refine m_bipush (v := 8) hC dX4_oweInGoodsTo_5 (by decide) ?_
      refine m_icmp_ge (tgt := 55) hC dX4_oweInGoodsTo_7 (by decide) (by omega) (by omega) (fun c_7 => ?_) (fun c_7 => ?_)
      · refine m_iload_n hC dX4_oweInGoodsTo_55 2 rfl ?_
        refine m_ireti hC hR (Or.inl rfl) dX4_oweInGoodsTo_56 ⟨Nat.le_of_ble_eq_true rfl, Nat.le_of_ble_eq_true rfl⟩ ?_ ?_
        · rw [hsm, show i = 8 by omega]
        · rw [hS1, show i = 8 by omega]
      · refine m_aload_n hC dX4_oweInGoodsTo_10 0 rfl ?_
        refine m_getR (o := 0) (j := 2) (a := 6) (CN := RX4) (T := TX4) (N := 9) hC iX4_oweInGoodsTo_4 fX4_oweInGoodsTo_28 rfl dX4_oweInGoodsTo_11 rfl rfl (by decide) rfl ?_
        refine m_iload_n hC dX4_oweInGoodsTo_14 3 rfl ?_
        refine m_iload_n hC dX4_oweInGoodsTo_15 1 rfl ?_
        refine m_callVi (n := 2) hC (c_owed9 (by omega) hs) gX4_oweInGoodsTo_X0_owed rfl dX4_oweInGoodsTo_16 rfl rfl (by decide +kernel) ⟨Nat.le_of_ble_eq_true rfl, Nat.le_of_ble_eq_true rfl⟩ rfl (Nat.le_of_ble_eq_true rfl) ⟨Nat.le_of_ble_eq_true rfl, Nat.le_of_ble_eq_true rfl⟩ rfl ?_
        refine m_istore hC dX4_oweInGoodsTo_19 (fun z9 => [(4, .int (z32 z9)), (0, .ref (g.2.2 0)), (1, .int (z32 s)), (2, .int (z32 sm)), (3, .int (z32 x))]) (by decide) (fun _ => rfl) (fun v4_19 hv4_19 => ?_)
        refine m_aload_n hC dX4_oweInGoodsTo_21 1 rfl ?_
        refine m_getR (o := 0) (j := 2) (a := 6) (CN := RX4) (T := TX4) (N := 9) hC iX4_oweInGoodsTo_4 fX4_oweInGoodsTo_28 rfl dX4_oweInGoodsTo_22 rfl rfl (by decide) rfl ?_
        refine m_iload_n hC dX4_oweInGoodsTo_25 4 rfl ?_
        refine m_iload_n hC dX4_oweInGoodsTo_26 2 rfl ?_
        refine m_iload hC dX4_oweInGoodsTo_27 0 rfl ?_
        refine m_ineg hC dX4_oweInGoodsTo_29 ?_
        refine m_callVv (n := 3) hC (c_more9 (by omega) hs) gX4_oweInGoodsTo_X0_more rfl dX4_oweInGoodsTo_30 rfl rfl (by decide +kernel) ⟨Nat.le_of_ble_eq_true rfl, Nat.le_of_ble_eq_true rfl⟩ rfl (Nat.le_of_ble_eq_true rfl) ⟨Nat.le_of_ble_eq_true rfl, Nat.le_of_ble_eq_true rfl⟩ rfl ?_
        refine m_aload_n hC dX4_oweInGoodsTo_33 1 rfl ?_
        refine m_getR (o := 0) (j := 4) (a := 13) (CN := RX4) (T := TX4) (N := 9) hC iX4_oweInGoodsTo_4 fX4_oweInGoodsTo_35 rfl dX4_oweInGoodsTo_34 rfl rfl (by decide) rfl ?_
        refine m_iload_n hC dX4_oweInGoodsTo_37 2 rfl ?_
        refine m_iload_n hC dX4_oweInGoodsTo_38 4 rfl ?_
        refine m_iload hC dX4_oweInGoodsTo_39 0 rfl ?_
        refine m_callVv (n := 3) hC (c_add14 hs (by omega)) gX4_oweInGoodsTo_X2_add rfl dX4_oweInGoodsTo_41 rfl rfl (by decide +kernel) ⟨Nat.le_of_ble_eq_true rfl, Nat.le_of_ble_eq_true rfl⟩ rfl (Nat.le_of_ble_eq_true rfl) ⟨Nat.le_of_ble_eq_true rfl, Nat.le_of_ble_eq_true rfl⟩ rfl ?_
        refine m_iload_n hC dX4_oweInGoodsTo_44 3 rfl ?_
        refine m_iload hC dX4_oweInGoodsTo_45 0 rfl ?_
        refine m_iadd hC dX4_oweInGoodsTo_47 ?_
        refine m_istore_n hC dX4_oweInGoodsTo_48 (fun z9 => [(2, .int (z32 z9)), (4, .int (z32 v4_19)), (0, .ref (g.2.2 0)), (1, .int (z32 s)), (3, .int (z32 x))]) (by decide) (fun _ => rfl) (fun v2_48 hv2_48 => ?_)
        refine m_iinc hC dX4_oweInGoodsTo_49 4 rfl (fun z9 => [(3, .int (z32 z9)), (2, .int (z32 v2_48)), (4, .int (z32 v4_19)), (0, .ref (g.2.2 0)), (1, .int (z32 s))]) (by decide) (fun _ => rfl) (fun v3_49 hv3_49 => ?_)
        refine m_goto (tgt := 4) hC dX4_oweInGoodsTo_52 (by decide) ?_
        refine m_locals [3, 4, 1, 0] rfl ?_
        exact ih4 (i + 1) v3_49 v2_48 _ (by omega) (by omega) (by omega) (by rw [show gtI s (S 8, S 14, 0) (i + 1) = gtF s (i : Int) (gtI s (S 8, S 14, 0) i) from rfl, ← hx, hv2_48, hv4_19, hsm, e8]; rfl) (by rw [show gtI s (S 8, S 14, 0) (i + 1) = gtF s (i : Int) (gtI s (S 8, S 14, 0) i) from rfl, ← hx, hv4_19, e8]; subst hS1; generalize gtI s (S 8, S 14, 0) i = u; exact m2_t s x u)
  refine m_locals [2, 3, 1, 0] rfl ?_
  exact L4 10 0 v3_3 v2_1 _ (by omega) (by omega) (by omega) (hv2_1) (by show S = mput (mput S 8 (S 8)) 14 (S 14); rw [mput_self, mput_self])
end
section
/-! ===== fees ===== -/
theorem td_rng {x k B : Int} (hk : 0 < k) (h1 : -B ≤ x) (h2 : x ≤ B) : -B ≤ x.tdiv k ∧ x.tdiv k ≤ B := by
  have nn : ∀ y : Int, 0 ≤ y → 0 ≤ y.tdiv k ∧ y.tdiv k ≤ y := by
    intro y hy
    rw [Int.tdiv_eq_ediv_of_nonneg hy]
    exact ⟨Int.ediv_nonneg hy (by omega), Int.ediv_le_self k hy⟩
  by_cases h : 0 ≤ x
  · have := nn x h
    omega
  · have h3 := nn (-x) (by omega)
    rw [Int.neg_tdiv] at h3
    omega
theorem mul_rng {b f B F : Int} (h1 : -B ≤ b) (h2 : b ≤ B) (h3 : 0 ≤ f) (h4 : f ≤ F) (hB : 0 ≤ B) : -(B * F) ≤ b * f ∧ b * f ≤ B * F := by
  have e1 : b * f ≤ B * f := Int.mul_le_mul_of_nonneg_right h2 h3
  have e2 : B * f ≤ B * F := Int.mul_le_mul_of_nonneg_left h4 hB
  have e3 : -B * f ≤ b * f := Int.mul_le_mul_of_nonneg_right h1 h3
  rw [Int.neg_mul] at e3
  omega
/-- what is frozen is within what is owed -/
def Fz (ow fz : Fn) : Prop := ∀ i j : Int, 0 ≤ i → i < 9 → 0 ≤ j → j < 9 → 0 ≤ fz (ix i j) ∧ fz (ix i j) ≤ ow (ix i j)
def gdF (ow fz : Fn) (s : Int) : Nat → Int
  | 0 => 0
  | n + 1 => if ow (ix (gdF ow fz s n) s) - fz (ix (gdF ow fz s n) s) < ow (ix ((n : Int) + 1) s) - fz (ix ((n : Int) + 1) s) then (n : Int) + 1 else gdF ow fz s n
theorem gdF_in (ow fz : Fn) (s : Int) : ∀ n : Nat, 0 ≤ gdF ow fz s n ∧ gdF ow fz s n ≤ n
  | 0 => by simp [gdF]
  | n + 1 => by
    have := gdF_in ow fz s n
    unfold gdF
    split <;> omega
theorem opn_ix {S : Mem} {i j : Int} (hi : 0 ≤ i ∧ i < 9) (hj : 0 ≤ j ∧ j < 9) : opn S i j = S 8 (ix i j) - S 10 (ix i j) := by
  unfold opn
  rw [tg_ix hi hj, tg_ix hi hj]
theorem god_gdF {S : Mem} {s : Int} (hs : 0 ≤ s ∧ s < 9) : ∀ n : Nat, n ≤ 8 → god S s n = gdF (S 8) (S 10) s n
  | 0, _ => rfl
  | n + 1, h => by
    have h1 := gdF_in (S 8) (S 10) s n
    rw [god, gdF, god_gdF hs n (by omega), opn_ix (by omega) hs, opn_ix (by omega) hs]
theorem opnOk_of {S : Mem} (h : Ok (S 8)) (hf : Fz (S 8) (S 10)) : opnOk S := by
  intro i j
  by_cases hi : 0 ≤ i ∧ i < 9 ∧ 0 ≤ j ∧ j < 9
  · rw [opn_ix (by omega) (by omega)]
    have h1 := h.ent (i := i) (j := j) (by omega) (by omega)
    have h2 := hf i j hi.1 hi.2.1 hi.2.2.1 hi.2.2.2
    omega
  · unfold opn tg
    rw [if_neg (by omega), if_neg (by omega)]
    omega
/-- one debtor's part of a fee: what is owed, what was given up, what is still to pay -/
def pfF (fz : Fn) (s : Int) (x : Fn × Fn × Int) : Fn × Fn × Int :=
  (adF (adF x.1 (gdF x.1 fz s 7) s (-(mn x.2.2 (x.1 (ix (gdF x.1 fz s 7) s) - fz (ix (gdF x.1 fz s 7) s))))) (gdF x.1 fz s 7) 8 (mn x.2.2 (x.1 (ix (gdF x.1 fz s 7) s) - fz (ix (gdF x.1 fz s 7) s))),
   adF x.2.1 s 8 (mn x.2.2 (x.1 (ix (gdF x.1 fz s 7) s) - fz (ix (gdF x.1 fz s 7) s))),
   x.2.2 - mn x.2.2 (x.1 (ix (gdF x.1 fz s 7) s) - fz (ix (gdF x.1 fz s 7) s)))
def pfL (fz : Fn) (s : Int) : Nat → Fn × Fn × Int → Fn × Fn × Int
  | 0, x => x
  | n + 1, x => if 0 < x.2.2 then pfL fz s n (pfF fz s x) else x
theorem pfL_stop {fz : Fn} {s : Int} {x : Fn × Fn × Int} (h : ¬ 0 < x.2.2) : ∀ n, pfL fz s n x = x
  | 0 => rfl
  | n + 1 => if_neg h
def pfOk (fz : Fn) (x : Fn × Fn × Int) : Prop := OkD x.1 ∧ Fz x.1 fz ∧ -100000000 ≤ x.2.2 ∧ x.2.2 ≤ 100000000
theorem pay_ok {ow fz : Fn} {b s m : Int} (hb : 0 ≤ b ∧ b < 8) (hs : 0 ≤ s ∧ s < 8) (h : OkD ow) (hf : Fz ow fz) (hm : 0 ≤ m ∧ m ≤ ow (ix b s) - fz (ix b s)) : OkD (adF (adF ow b s (-m)) b 8 m) ∧ Fz (adF (adF ow b s (-m)) b 8 m) fz := by
  have e0 := hf b s hb.1 (by omega) hs.1 (by omega)
  have h1 := adF_ok (i := b) (j := s) (m := m) (by omega) (by omega) h (by omega)
  have h8 : (0 : Int) ≤ 8 ∧ (8 : Int) < 9 := by omega
  have hs9 : 0 ≤ s ∧ s < 9 := by omega
  refine ⟨⟨⟨fun a c a0 a9 c0 c9 => ?_, ?_⟩, fun a a0 a9 => ?_⟩, fun a c a0 a9 c0 c9 => ?_⟩
  · rw [adF_get h8 ⟨c0, c9⟩]
    have := h1.1.1 a c a0 a9 c0 c9
    split <;> omega
  · rw [tot_adF (by omega) h8, tot_adF (by omega) hs9]
    have := h.1.2
    omega
  · rw [adF_get h8 ⟨a0, a9⟩, h1.2 a a0 a9, if_neg (by omega)]
    rfl
  · rw [adF_get h8 ⟨c0, c9⟩, adF_get hs9 ⟨c0, c9⟩]
    have e1 := hf a c a0 a9 c0 c9
    by_cases q : a = b ∧ c = s
    · obtain ⟨rfl, rfl⟩ := q
      rw [if_pos ⟨rfl, rfl⟩, if_neg (by omega)]
      omega
    · rw [if_neg q]
      split <;> omega
theorem pfF_ok {fz : Fn} {s : Int} {x : Fn × Fn × Int} (hs : 0 ≤ s ∧ s < 8) (h : pfOk fz x) (hr : 0 < x.2.2) : pfOk fz (pfF fz s x) := by
  obtain ⟨h1, h2, h3, h4⟩ := h
  have hg := gdF_in x.1 fz s 7
  have e0 := h2 (gdF x.1 fz s 7) s (by omega) (by omega) (by omega) (by omega)
  have hm := mn_le x.2.2 (x.1 (ix (gdF x.1 fz s 7) s) - fz (ix (gdF x.1 fz s 7) s))
  have hp := pay_ok (b := gdF x.1 fz s 7) (s := s) (m := mn x.2.2 (x.1 (ix (gdF x.1 fz s 7) s) - fz (ix (gdF x.1 fz s 7) s))) (by omega) hs h1 h2 (by omega)
  refine ⟨hp.1, hp.2, ?_, ?_⟩
  · show -100000000 ≤ x.2.2 - mn _ _
    omega
  · show x.2.2 - mn _ _ ≤ 100000000
    omega
theorem pfL_ok {fz : Fn} {s : Int} (hs : 0 ≤ s ∧ s < 8) : ∀ (n : Nat) (x : Fn × Fn × Int), pfOk fz x → pfOk fz (pfL fz s n x)
  | 0, x, h => h
  | n + 1, x, h => by
    unfold pfL
    split
    · rename_i hr
      exact pfL_ok hs n _ (pfF_ok hs h hr)
    · exact h
/-- whether a shop traded of late -/
def rec4 (S : Mem) (s : Int) : Bool := anyI (fun t => isof S s t && decide (S 0 7 - 5 + 1 ≤ trd S t 4)) (S 3 1).toNat
def idF (S : Mem) (ow : Fn) (s : Int) : Bool := decide (0 < bl ow s) && !rec4 S s
def due (S : Mem) (ow : Fn) (s : Int) : Int := (bl ow s * S 0 8).tdiv 1000
def pfR (S : Mem) (s : Int) (x : Fn × Fn) : Fn × Fn := ((pfL (S 10) s 8 (x.1, x.2, mn (due S x.1 s) (col x.1 s - col (S 10) s))).1, (pfL (S 10) s 8 (x.1, x.2, mn (due S x.1 s) (col x.1 s - col (S 10) s))).2.1)
def fsF (S : Mem) (s : Int) (x : Fn × Fn) : Fn × Fn := if idF S x.1 s = true then pfR S s x else x
def fsA (S : Mem) (x : Fn × Fn) (n : Nat) : Fn × Fn := it (fun s => fsF S s) x n
theorem due_rng {S : Mem} {ow : Fn} {s : Int} (h : Ok ow) (hs : 0 ≤ s ∧ s < 9) (hf : 0 ≤ S 0 8 ∧ S 0 8 ≤ 500) : (-100000000 ≤ bl ow s * S 0 8 ∧ bl ow s * S 0 8 ≤ 100000000) ∧ -100000000 ≤ due S ow s ∧ due S ow s ≤ 100000000 := by
  have h1 := h.bl hs
  have h2 := mul_rng h1.1 h1.2 hf.1 hf.2 (by omega)
  rw [show (200000 : Int) * 500 = 100000000 from rfl] at h2
  exact ⟨h2, td_rng (by omega) h2.1 h2.2⟩
theorem open_rng {ow fz : Fn} {s : Int} (h : Ok ow) (hf : Fz ow fz) (hs : 0 ≤ s ∧ s < 9) : 0 ≤ col ow s - col fz s ∧ col ow s - col fz s ≤ 200000 := by
  have h1 : 0 ≤ col fz s := sI_nn (fun k a b => (hf k s a b hs.1 hs.2).1)
  have h2 : col fz s ≤ col ow s := sI_mono (fun k a b => (hf k s a b hs.1 hs.2).2)
  have h3 := col_le h.1 hs
  have h4 := h.2
  omega
theorem pf0_ok {S : Mem} {x : Fn × Fn} {s : Int} (hs : 0 ≤ s ∧ s < 9) (h1 : OkD x.1) (h2 : Fz x.1 (S 10)) (hf : 0 ≤ S 0 8 ∧ S 0 8 ≤ 500) : pfOk (S 10) (x.1, x.2, mn (due S x.1 s) (col x.1 s - col (S 10) s)) := by
  have e1 := due_rng (S := S) h1.1 hs hf
  have e2 := open_rng h1.1 h2 hs
  have e3 := mn_le (due S x.1 s) (col x.1 s - col (S 10) s)
  refine ⟨h1, h2, ?_, ?_⟩
  · show -100000000 ≤ mn _ _
    omega
  · show mn _ _ ≤ 100000000
    omega
def fsOk (S : Mem) (x : Fn × Fn) : Prop := OkD x.1 ∧ Fz x.1 (S 10)
theorem fsF_ok {S : Mem} {x : Fn × Fn} {s : Int} (hs : 0 ≤ s ∧ s < 8) (hf : 0 ≤ S 0 8 ∧ S 0 8 ≤ 500) (h : fsOk S x) : fsOk S (fsF S s x) := by
  unfold fsF
  split
  · have := pfL_ok hs 8 _ (pf0_ok (s := s) (by omega) h.1 h.2 hf)
    exact ⟨this.1, this.2.1⟩
  · exact h
theorem fsA_ok {S : Mem} {x : Fn × Fn} (hf : 0 ≤ S 0 8 ∧ S 0 8 ≤ 500) (h : fsOk S x) {n : Nat} (hn : n ≤ 8) : fsOk S (fsA S x n) := it_inv h (fun k y a b hy => fsF_ok (by omega) hf hy)
/-- ranges of the class's small numbers -/
def Rg (S : Mem) : Prop := (0 ≤ S 0 6 ∧ S 0 6 ≤ 8) ∧ (0 ≤ S 0 7 ∧ S 0 7 ≤ 20000) ∧ (0 ≤ S 0 8 ∧ S 0 8 ≤ 500) ∧ (0 ≤ S 3 1 ∧ S 3 1 ≤ 100) ∧ (∀ i, 0 ≤ tg 8 2 (S 2) i 0 ∧ tg 8 2 (S 2) i 0 ≤ 1) ∧ ∀ t w, -1000000 ≤ trd S t w ∧ trd S t w ≤ 1000000
theorem Rg.trd {S : Mem} (h : Rg S) : trdOk S := fun t w => by
  have := h.2.2.2.2.2 t w
  omega
def was (S : Mem) (s : Int) : Bool := decide (0 ≤ s ∧ s < S 0 6)
def liv (S : Mem) (s : Int) : Bool := was S s && decide (tg 8 2 (S 2) s 0 = 0)
def lim (S : Mem) (s : Int) : Int := 500 + col (S 12) s - row (S 12) s + (sI (amtF S s (S 0 7 - 10 + 1)) (S 3 1).toNat).tdiv 10
theorem amt_rng {S : Mem} (h : Rg S) (s d : Int) : -100000000 ≤ sI (amtF S s d) (S 3 1).toNat ∧ sI (amtF S s d) (S 3 1).toNat ≤ 100000000 := by
  have hn := h.2.2.2.1
  have hb : ∀ k : Int, -1000000 ≤ amtF S s d k ∧ amtF S s d k ≤ 1000000 := by
    intro k
    have := h.2.2.2.2.2 k 3
    unfold amtF
    split <;> omega
  have e1 := sI_bound (f := amtF S s d) (c := 1000000) (n := (S 3 1).toNat) (fun k _ _ => (hb k).2)
  have e2 := sI_bound (f := fun k => 0 - amtF S s d k) (c := 1000000) (n := (S 3 1).toNat) (fun k _ _ => by have := hb k; omega)
  rw [sI_sub (fun _ => 0) (amtF S s d), sI_zero (f := fun _ => 0) (fun _ _ _ => rfl)] at e2
  omega
end
section
/-! ===== the class: shops, limits, fees ===== -/
theorem m2_m2 (S : Mem) (u q : Fn × Fn) : m2 (m2 S u) q = m2 S q := by
  funext o
  simp only [m2, mput]
  by_cases h14 : o = 14
  · subst h14; simp
  · by_cases h8 : o = 8
    · subst h8; simp
    · simp [h8, h14]
theorem m2_pf {S : Mem} (s : Int) (x : Fn × Fn × Int) : mput (mput (mput (m2 S (x.1, x.2.1)) 8 (adF (m2 S (x.1, x.2.1) 8) (gdF x.1 (S 10) s 7) s (-(mn x.2.2 (x.1 (ix (gdF x.1 (S 10) s 7) s) - S 10 (ix (gdF x.1 (S 10) s 7) s)))))) 8 (adF (mput (m2 S (x.1, x.2.1)) 8 (adF (m2 S (x.1, x.2.1) 8) (gdF x.1 (S 10) s 7) s (-(mn x.2.2 (x.1 (ix (gdF x.1 (S 10) s 7) s) - S 10 (ix (gdF x.1 (S 10) s 7) s))))) 8) (gdF x.1 (S 10) s 7) 8 (mn x.2.2 (x.1 (ix (gdF x.1 (S 10) s 7) s) - S 10 (ix (gdF x.1 (S 10) s 7) s))))) 14 (adF (mput (mput (m2 S (x.1, x.2.1)) 8 (adF (m2 S (x.1, x.2.1) 8) (gdF x.1 (S 10) s 7) s (-(mn x.2.2 (x.1 (ix (gdF x.1 (S 10) s 7) s) - S 10 (ix (gdF x.1 (S 10) s 7) s)))))) 8 (adF (mput (m2 S (x.1, x.2.1)) 8 (adF (m2 S (x.1, x.2.1) 8) (gdF x.1 (S 10) s 7) s (-(mn x.2.2 (x.1 (ix (gdF x.1 (S 10) s 7) s) - S 10 (ix (gdF x.1 (S 10) s 7) s))))) 8) (gdF x.1 (S 10) s 7) 8 (mn x.2.2 (x.1 (ix (gdF x.1 (S 10) s 7) s) - S 10 (ix (gdF x.1 (S 10) s 7) s)))) 14) s 8 (mn x.2.2 (x.1 (ix (gdF x.1 (S 10) s 7) s) - S 10 (ix (gdF x.1 (S 10) s 7) s)))) = m2 S ((pfF (S 10) s x).1, (pfF (S 10) s x).2.1) := by
  obtain ⟨a, b, d⟩ := x
  funext o
  simp only [m2, pfF, mput]
  by_cases h8 : o = 8
  · subst h8; simp
  · by_cases h14 : o = 14
    · subst h14; simp
    · simp [h8, h14]
theorem c_openTo9 {g : mG} {S : Mem} {j : Int} (hj : 0 ≤ j ∧ j < 9) (l : Launch) : Does l yX0_openTo wsX0_openTo ({ frames := 3, cells := 0, slots := 0, locals := 69 } : Room) g [.ref (g.2.2 6), .int (z32 j)] S (PI (col (S 8) j - col (S 10) j) S) := by
  have h := c_X0_openTo (g := g) (S := S) (j := j) (by omega) l
  rw [sI_cong (f := fun r => tg 9 9 (S 8) r j) (g := fun i => S 8 (ix i j)) (fun k a b => tg_ix ⟨a, b⟩ hj), sI_cong (f := fun r => tg 9 9 (S 10) r j) (g := fun i => S 10 (ix i j)) (fun k a b => tg_ix ⟨a, b⟩ hj)] at h
  exact h
theorem c_god9 {g : mG} {S : Mem} {s : Int} (hs : 0 ≤ s ∧ s < 9) (hO : opnOk S) (l : Launch) : Does l yX0_greatestOpenDebtorOf wsX0_greatestOpenDebtorOf ({ frames := 3, cells := 0, slots := 0, locals := 68 } : Room) g [.ref (g.2.2 6), .int (z32 s)] S (PI (gdF (S 8) (S 10) s 7) S) := by
  rw [← god_gdF hs 7 (by omega)]
  exact c_X0_greatestOpenDebtorOf (by omega) hO l
theorem iX4_wasShop_4 : ∀ w ∈ wsX40, w ∈ wsX4_wasShop := by decide +kernel
theorem fX4_wasShop_45 : Cond.fieldLink RX4 45 "Mutualledger" "joined" "I" ∈ wsX4_wasShop := by decide +kernel
set_option maxHeartbeats 4000000 in
set_option maxRecDepth 100000 in
theorem c_X4_wasShop {g : mG} {S : Mem} {s : Int} (hs : -2147483648 ≤ s ∧ s < 2147483648) (hg : Rg S) (l : Launch) : Does l yX4_wasShop wsX4_wasShop ({ frames := 0, cells := 0, slots := 0, locals := 0 } : Room) g [.ref (g.2.2 0), .int (z32 s)] S (PI (bI (was S s)) S) := by
  refine Does.of (cc := cX4_wasShop) (maxL := 2) (ret := (some .boolean)) (own := RX4) (by decide) rfl rfl (Nat.le_of_ble_eq_true rfl) ?_
  intro C hC hR
  show MW C g 2 (0, 0) 0 [(0, .ref (g.2.2 0)), (1, .int (z32 s))] [] S
  obtain ⟨r1, r2, r3, r4, r5, r6⟩ := id hg
  refine m_iload_n hC dX4_wasShop_0 1 rfl ?_
  refine m_if_lt (tgt := 16) hC dX4_wasShop_1 (by decide) (by omega) (fun c_1 => ?_) (fun c_1 => ?_)
  · refine m_iconst (v := 0) hC dX4_wasShop_16 (by decide) ?_
    refine m_ireti hC hR (Or.inr ⟨rfl, by first | exact Or.inl rfl | exact Or.inr rfl | omega⟩) dX4_wasShop_17 ⟨Nat.le_of_ble_eq_true rfl, Nat.le_of_ble_eq_true rfl⟩ ?_ ?_
    · first | (rw [bI, if_neg (by simp only [was, decide_eq_true_eq]; omega)]; done) | rw [bI, if_pos (by simp only [was, decide_eq_true_eq]; omega)]
    · rfl
  · refine m_iload_n hC dX4_wasShop_4 1 rfl ?_
    refine m_aload_n hC dX4_wasShop_5 0 rfl ?_
    refine m_getI (o := 0) (j := 6) (ji := 6) (CN := RX4) (T := TX4) (N := 9) hC iX4_wasShop_4 fX4_wasShop_45 rfl dX4_wasShop_6 rfl rfl (by decide) rfl rfl ?_
    refine m_icmp_ge (tgt := 16) hC dX4_wasShop_9 (by decide) (by omega) (by omega) (fun c_9 => ?_) (fun c_9 => ?_)
    · refine m_iconst (v := 0) hC dX4_wasShop_16 (by decide) ?_
      refine m_ireti hC hR (Or.inr ⟨rfl, by first | exact Or.inl rfl | exact Or.inr rfl | omega⟩) dX4_wasShop_17 ⟨Nat.le_of_ble_eq_true rfl, Nat.le_of_ble_eq_true rfl⟩ ?_ ?_
      · first | (rw [bI, if_neg (by simp only [was, decide_eq_true_eq]; omega)]; done) | rw [bI, if_pos (by simp only [was, decide_eq_true_eq]; omega)]
      · rfl
    · refine m_iconst (v := 1) hC dX4_wasShop_12 (by decide) ?_
      refine m_goto (tgt := 17) hC dX4_wasShop_13 (by decide) ?_
      refine m_ireti hC hR (Or.inr ⟨rfl, by first | exact Or.inl rfl | exact Or.inr rfl | omega⟩) dX4_wasShop_17 ⟨Nat.le_of_ble_eq_true rfl, Nat.le_of_ble_eq_true rfl⟩ ?_ ?_
      · first | (rw [bI, if_neg (by simp only [was, decide_eq_true_eq]; omega)]; done) | rw [bI, if_pos (by simp only [was, decide_eq_true_eq]; omega)]
      · rfl
theorem iX4_isShop_4 : ∀ w ∈ wsX40, w ∈ wsX4_isShop := by decide +kernel
theorem fX4_isShop_14 : Cond.fieldLink RX4 14 "Mutualledger" "shops" "LMutualledger$Table;" ∈ wsX4_isShop := by decide +kernel
set_option maxHeartbeats 4000000 in
set_option maxRecDepth 100000 in
theorem c_X4_isShop {g : mG} {S : Mem} {s : Int} (hs : -2147483648 ≤ s ∧ s < 2147483648) (hg : Rg S) (l : Launch) : Does l yX4_isShop wsX4_isShop ({ frames := 2, cells := 0, slots := 0, locals := 46 } : Room) g [.ref (g.2.2 0), .int (z32 s)] S (PI (bI (liv S s)) S) := by
  refine Does.of (cc := cX4_isShop) (maxL := 2) (ret := (some .boolean)) (own := RX4) (by decide) rfl rfl (Nat.le_of_ble_eq_true rfl) ?_
  intro C hC hR
  show MW C g 2 (0, 0) 0 [(0, .ref (g.2.2 0)), (1, .int (z32 s))] [] S
  obtain ⟨r1, r2, r3, r4, r5, r6⟩ := id hg
  refine m_aload_n hC dX4_isShop_0 0 rfl ?_
  refine m_iload_n hC dX4_isShop_1 1 rfl ?_
  refine m_callVi (n := 1) hC (c_X4_wasShop hs hg) gX4_isShop_X4_wasShop rfl dX4_isShop_2 rfl rfl (by decide +kernel) ⟨Nat.le_of_ble_eq_true rfl, Nat.le_of_ble_eq_true rfl⟩ rfl (Nat.le_of_ble_eq_true rfl) ⟨Nat.le_of_ble_eq_true rfl, Nat.le_of_ble_eq_true rfl⟩ rfl ?_
  refine m_if_eq (tgt := 24) hC dX4_isShop_5 (by decide) (by have := bI_rng (was S s); omega) (fun c_5 => ?_) (fun c_5 => ?_)
  · have hb := bI_0 c_5
    refine m_iconst (v := 0) hC dX4_isShop_24 (by decide) ?_
    refine m_ireti hC hR (Or.inr ⟨rfl, by first | exact Or.inl rfl | exact Or.inr rfl | omega⟩) dX4_isShop_25 ⟨Nat.le_of_ble_eq_true rfl, Nat.le_of_ble_eq_true rfl⟩ ?_ ?_
    · simp [bI, liv, *]
    · rfl
  · have hb := bI_1 c_5
    refine m_aload_n hC dX4_isShop_8 0 rfl ?_
    refine m_getR (o := 0) (j := 0) (a := 1) (CN := RX4) (T := TX4) (N := 9) hC iX4_isShop_4 fX4_isShop_14 rfl dX4_isShop_9 rfl rfl (by decide) rfl ?_
    refine m_iload_n hC dX4_isShop_12 1 rfl ?_
    refine m_iconst (v := 0) hC dX4_isShop_13 (by decide) ?_
    refine m_callVi (n := 2) hC (c_X2_get T1 hs (by omega)) gX4_isShop_X2_get rfl dX4_isShop_14 rfl rfl (by decide +kernel) ⟨Nat.le_of_ble_eq_true rfl, Nat.le_of_ble_eq_true rfl⟩ rfl (Nat.le_of_ble_eq_true rfl) ⟨Nat.le_of_ble_eq_true rfl, Nat.le_of_ble_eq_true rfl⟩ rfl ?_
    refine m_if_ne (tgt := 24) hC dX4_isShop_17 (by decide) (by have := r5 s; omega) (fun c_17 => ?_) (fun c_17 => ?_)
    · refine m_iconst (v := 0) hC dX4_isShop_24 (by decide) ?_
      refine m_ireti hC hR (Or.inr ⟨rfl, by first | exact Or.inl rfl | exact Or.inr rfl | omega⟩) dX4_isShop_25 ⟨Nat.le_of_ble_eq_true rfl, Nat.le_of_ble_eq_true rfl⟩ ?_ ?_
      · simp [bI, liv, *]
      · rfl
    · refine m_iconst (v := 1) hC dX4_isShop_20 (by decide) ?_
      refine m_goto (tgt := 25) hC dX4_isShop_21 (by decide) ?_
      refine m_ireti hC hR (Or.inr ⟨rfl, by first | exact Or.inl rfl | exact Or.inr rfl | omega⟩) dX4_isShop_25 ⟨Nat.le_of_ble_eq_true rfl, Nat.le_of_ble_eq_true rfl⟩ ?_ ?_
      · simp [bI, liv, *]
      · rfl
theorem iX4_limitOf_4 : ∀ w ∈ wsX40, w ∈ wsX4_limitOf := by decide +kernel
theorem fX4_limitOf_21 : Cond.fieldLink RX4 21 "Mutualledger" "trades" "LMutualledger$Trades;" ∈ wsX4_limitOf := by decide +kernel
theorem fX4_limitOf_49 : Cond.fieldLink RX4 49 "Mutualledger" "today" "I" ∈ wsX4_limitOf := by decide +kernel
theorem fX4_limitOf_32 : Cond.fieldLink RX4 32 "Mutualledger" "guarantees" "LMutualledger$Table;" ∈ wsX4_limitOf := by decide +kernel
set_option maxHeartbeats 4000000 in
set_option maxRecDepth 100000 in
theorem c_X4_limitOf {g : mG} {S : Mem} {s : Int} (hs : 0 ≤ s ∧ s < 9) (hg : Rg S) (l : Launch) : Does l yX4_limitOf wsX4_limitOf ({ frames := 5, cells := 0, slots := 0, locals := 115 } : Room) g [.ref (g.2.2 0), .int (z32 s)] S (PI (lim S s) S) := by
  refine Does.of (cc := cX4_limitOf) (maxL := 3) (ret := (some .int)) (own := RX4) (by decide) rfl rfl (Nat.le_of_ble_eq_true rfl) ?_
  intro C hC hR
  show MW C g 3 (0, 0) 0 [(0, .ref (g.2.2 0)), (1, .int (z32 s))] [] S
  obtain ⟨r1, r2, r3, r4, r5, r6⟩ := id hg
  have ha := amt_rng hg s (S 0 7 - 10 + 1)
  refine m_aload_n hC dX4_limitOf_0 0 rfl ?_
  refine m_getR (o := 0) (j := 1) (a := 3) (CN := RX4) (T := TX4) (N := 9) hC iX4_limitOf_4 fX4_limitOf_21 rfl dX4_limitOf_1 rfl rfl (by decide) rfl ?_
  refine m_iload_n hC dX4_limitOf_4 1 rfl ?_
  refine m_aload_n hC dX4_limitOf_5 0 rfl ?_
  refine m_getI (o := 0) (j := 7) (ji := 7) (CN := RX4) (T := TX4) (N := 9) hC iX4_limitOf_4 fX4_limitOf_49 rfl dX4_limitOf_6 rfl rfl (by decide) rfl rfl ?_
  refine m_bipush (v := 10) hC dX4_limitOf_9 (by decide) ?_
  refine m_isub hC dX4_limitOf_11 ?_
  refine m_iconst (v := 1) hC dX4_limitOf_12 (by decide) ?_
  refine m_iadd hC dX4_limitOf_13 ?_
  refine m_callVi (n := 2) hC (c_X3_amountsSince (by omega) (by omega) hg.trd r4) gX4_limitOf_X3_amountsSince rfl dX4_limitOf_14 rfl rfl (by decide +kernel) ⟨Nat.le_of_ble_eq_true rfl, Nat.le_of_ble_eq_true rfl⟩ rfl (Nat.le_of_ble_eq_true rfl) ⟨Nat.le_of_ble_eq_true rfl, Nat.le_of_ble_eq_true rfl⟩ rfl ?_
  refine m_istore_n hC dX4_limitOf_17 (fun z9 => [(2, .int (z32 z9)), (0, .ref (g.2.2 0)), (1, .int (z32 s))]) (by decide) (fun _ => rfl) (fun v2_17 hv2_17 => ?_)
  refine m_sipush (v := 500) hC dX4_limitOf_18 (by decide) ?_
  refine m_aload_n hC dX4_limitOf_21 1 rfl ?_
  refine m_getR (o := 0) (j := 3) (a := 11) (CN := RX4) (T := TX4) (N := 9) hC iX4_limitOf_4 fX4_limitOf_32 rfl dX4_limitOf_22 rfl rfl (by decide) rfl ?_
  refine m_iload_n hC dX4_limitOf_25 2 rfl ?_
  refine m_callVi (n := 1) hC (c_col12 hs) gX4_limitOf_X2_columnSum rfl dX4_limitOf_26 rfl rfl (by decide +kernel) ⟨Nat.le_of_ble_eq_true rfl, Nat.le_of_ble_eq_true rfl⟩ rfl (Nat.le_of_ble_eq_true rfl) ⟨Nat.le_of_ble_eq_true rfl, Nat.le_of_ble_eq_true rfl⟩ rfl ?_
  refine m_iadd hC dX4_limitOf_29 ?_
  refine m_aload_n hC dX4_limitOf_30 1 rfl ?_
  refine m_getR (o := 0) (j := 3) (a := 11) (CN := RX4) (T := TX4) (N := 9) hC iX4_limitOf_4 fX4_limitOf_32 rfl dX4_limitOf_31 rfl rfl (by decide) rfl ?_
  refine m_iload_n hC dX4_limitOf_34 2 rfl ?_
  refine m_callVi (n := 1) hC (c_row12 hs) gX4_limitOf_X2_rowSum rfl dX4_limitOf_35 rfl rfl (by decide +kernel) ⟨Nat.le_of_ble_eq_true rfl, Nat.le_of_ble_eq_true rfl⟩ rfl (Nat.le_of_ble_eq_true rfl) ⟨Nat.le_of_ble_eq_true rfl, Nat.le_of_ble_eq_true rfl⟩ rfl ?_
  refine m_isub hC dX4_limitOf_38 ?_
  refine m_iload_n hC dX4_limitOf_39 0 rfl ?_
  refine m_bipush (v := 10) hC dX4_limitOf_40 (by decide) ?_
  refine m_idiv hC dX4_limitOf_42 (by omega) (by omega) ?_
  refine m_iadd hC dX4_limitOf_43 ?_
  refine m_ireti hC hR (Or.inl rfl) dX4_limitOf_44 ⟨Nat.le_of_ble_eq_true rfl, Nat.le_of_ble_eq_true rfl⟩ ?_ ?_
  · rw [hv2_17]; rfl
  · rfl
theorem iX4_isIdleShop_4 : ∀ w ∈ wsX40, w ∈ wsX4_isIdleShop := by decide +kernel
theorem fX4_isIdleShop_28 : Cond.fieldLink RX4 28 "Mutualledger" "debts" "LMutualledger$Debts;" ∈ wsX4_isIdleShop := by decide +kernel
theorem fX4_isIdleShop_21 : Cond.fieldLink RX4 21 "Mutualledger" "trades" "LMutualledger$Trades;" ∈ wsX4_isIdleShop := by decide +kernel
theorem fX4_isIdleShop_49 : Cond.fieldLink RX4 49 "Mutualledger" "today" "I" ∈ wsX4_isIdleShop := by decide +kernel
set_option maxHeartbeats 4000000 in
set_option maxRecDepth 100000 in
theorem c_X4_isIdleShop {g : mG} {S : Mem} {s : Int} (hs : 0 ≤ s ∧ s < 9) (hg : Rg S) (hok : Ok (S 8)) (l : Launch) : Does l yX4_isIdleShop wsX4_isIdleShop ({ frames := 5, cells := 0, slots := 0, locals := 113 } : Room) g [.ref (g.2.2 0), .int (z32 s)] S (PI (bI (idF S (S 8) s)) S) := by
  refine Does.of (cc := cX4_isIdleShop) (maxL := 2) (ret := (some .boolean)) (own := RX4) (by decide) rfl rfl (Nat.le_of_ble_eq_true rfl) ?_
  intro C hC hR
  show MW C g 2 (0, 0) 0 [(0, .ref (g.2.2 0)), (1, .int (z32 s))] [] S
  obtain ⟨r1, r2, r3, r4, r5, r6⟩ := id hg
  have hbl := hok.bl hs
  refine m_aload_n hC dX4_isIdleShop_0 0 rfl ?_
  refine m_getR (o := 0) (j := 2) (a := 6) (CN := RX4) (T := TX4) (N := 9) hC iX4_isIdleShop_4 fX4_isIdleShop_28 rfl dX4_isIdleShop_1 rfl rfl (by decide) rfl ?_
  refine m_iload_n hC dX4_isIdleShop_4 1 rfl ?_
  refine m_callVi (n := 1) hC (c_bal9 hs) gX4_isIdleShop_X0_balanceOf rfl dX4_isIdleShop_5 rfl rfl (by decide +kernel) ⟨Nat.le_of_ble_eq_true rfl, Nat.le_of_ble_eq_true rfl⟩ rfl (Nat.le_of_ble_eq_true rfl) ⟨Nat.le_of_ble_eq_true rfl, Nat.le_of_ble_eq_true rfl⟩ rfl ?_
  refine m_if_le (tgt := 34) hC dX4_isIdleShop_8 (by decide) (by omega) (fun c_8 => ?_) (fun c_8 => ?_)
  · refine m_iconst (v := 0) hC dX4_isIdleShop_34 (by decide) ?_
    refine m_ireti hC hR (Or.inr ⟨rfl, by first | exact Or.inl rfl | exact Or.inr rfl | omega⟩) dX4_isIdleShop_35 ⟨Nat.le_of_ble_eq_true rfl, Nat.le_of_ble_eq_true rfl⟩ ?_ ?_
    · first | (simp [bI, idF, rec4, *]; done) | (simp [bI, idF, rec4, *]; omega)
    · rfl
  · refine m_aload_n hC dX4_isIdleShop_11 0 rfl ?_
    refine m_getR (o := 0) (j := 1) (a := 3) (CN := RX4) (T := TX4) (N := 9) hC iX4_isIdleShop_4 fX4_isIdleShop_21 rfl dX4_isIdleShop_12 rfl rfl (by decide) rfl ?_
    refine m_iload_n hC dX4_isIdleShop_15 1 rfl ?_
    refine m_aload_n hC dX4_isIdleShop_16 0 rfl ?_
    refine m_getI (o := 0) (j := 7) (ji := 7) (CN := RX4) (T := TX4) (N := 9) hC iX4_isIdleShop_4 fX4_isIdleShop_49 rfl dX4_isIdleShop_17 rfl rfl (by decide) rfl rfl ?_
    refine m_iconst (v := 5) hC dX4_isIdleShop_20 (by decide) ?_
    refine m_isub hC dX4_isIdleShop_21 ?_
    refine m_iconst (v := 1) hC dX4_isIdleShop_22 (by decide) ?_
    refine m_iadd hC dX4_isIdleShop_23 ?_
    refine m_callVi (n := 2) hC (c_X3_hasSince (by omega) (by omega) hg.trd r4) gX4_isIdleShop_X3_hasSince rfl dX4_isIdleShop_24 rfl rfl (by decide +kernel) ⟨Nat.le_of_ble_eq_true rfl, Nat.le_of_ble_eq_true rfl⟩ rfl (Nat.le_of_ble_eq_true rfl) ⟨Nat.le_of_ble_eq_true rfl, Nat.le_of_ble_eq_true rfl⟩ rfl ?_
    refine m_if_ne (tgt := 34) hC dX4_isIdleShop_27 (by decide) (by have := bI_rng (anyI (fun t => isof S s t && decide (S 0 7 - 5 + 1 ≤ trd S t 4)) (S 3 1).toNat); omega) (fun c_27 => ?_) (fun c_27 => ?_)
    · have hb := bI_1 c_27
      refine m_iconst (v := 0) hC dX4_isIdleShop_34 (by decide) ?_
      refine m_ireti hC hR (Or.inr ⟨rfl, by first | exact Or.inl rfl | exact Or.inr rfl | omega⟩) dX4_isIdleShop_35 ⟨Nat.le_of_ble_eq_true rfl, Nat.le_of_ble_eq_true rfl⟩ ?_ ?_
      · first | (simp [bI, idF, rec4, *]; done) | (simp [bI, idF, rec4, *]; omega)
      · rfl
    · have hb := bI_0 (Decidable.of_not_not c_27)
      refine m_iconst (v := 1) hC dX4_isIdleShop_30 (by decide) ?_
      refine m_goto (tgt := 35) hC dX4_isIdleShop_31 (by decide) ?_
      refine m_ireti hC hR (Or.inr ⟨rfl, by first | exact Or.inl rfl | exact Or.inr rfl | omega⟩) dX4_isIdleShop_35 ⟨Nat.le_of_ble_eq_true rfl, Nat.le_of_ble_eq_true rfl⟩ ?_ ?_
      · first | (simp [bI, idF, rec4, *]; done) | (simp [bI, idF, rec4, *]; omega)
      · rfl
theorem iX4_payFee_4 : ∀ w ∈ wsX40, w ∈ wsX4_payFee := by decide +kernel
theorem fX4_payFee_28 : Cond.fieldLink RX4 28 "Mutualledger" "debts" "LMutualledger$Debts;" ∈ wsX4_payFee := by decide +kernel
theorem fX4_payFee_52 : Cond.fieldLink RX4 52 "Mutualledger" "thousandths" "I" ∈ wsX4_payFee := by decide +kernel
theorem fX4_payFee_35 : Cond.fieldLink RX4 35 "Mutualledger" "givenUp" "LMutualledger$Table;" ∈ wsX4_payFee := by decide +kernel
set_option maxHeartbeats 4000000 in
set_option maxRecDepth 100000 in
theorem c_X4_payFee {g : mG} {S : Mem} {s : Int} (hs : 0 ≤ s ∧ s < 8) (hg : Rg S) (hok : OkD (S 8)) (hfz : Fz (S 8) (S 10)) (l : Launch) : Does l yX4_payFee wsX4_payFee ({ frames := 4, cells := 0, slots := 0, locals := 93 } : Room) g [.ref (g.2.2 0), .int (z32 s)] S (PV (m2 S (pfR S s (S 8, S 14)))) := by
  refine Does.of (cc := cX4_payFee) (maxL := 7) (ret := none) (own := RX4) (by decide) rfl rfl (Nat.le_of_ble_eq_true rfl) ?_
  intro C hC hR
  show MW C g 7 (0, 0) 0 [(0, .ref (g.2.2 0)), (1, .int (z32 s))] [] S
  obtain ⟨r1, r2, r3, r4, r5, r6⟩ := id hg
  have hbl := hok.1.bl (x := s) (by omega)
  have hdu := due_rng (S := S) hok.1 (s := s) (by omega) r3
  have hop := open_rng hok.1 hfz (s := s) (by omega)
  have hp0 := pf0_ok (S := S) (x := (S 8, S 14)) (s := s) (by omega) hok hfz r3
  refine m_aload_n hC dX4_payFee_0 0 rfl ?_
  refine m_getR (o := 0) (j := 2) (a := 6) (CN := RX4) (T := TX4) (N := 9) hC iX4_payFee_4 fX4_payFee_28 rfl dX4_payFee_1 rfl rfl (by decide) rfl ?_
  refine m_iload_n hC dX4_payFee_4 1 rfl ?_
  refine m_callVi (n := 1) hC (c_bal9 (by omega)) gX4_payFee_X0_balanceOf rfl dX4_payFee_5 rfl rfl (by decide +kernel) ⟨Nat.le_of_ble_eq_true rfl, Nat.le_of_ble_eq_true rfl⟩ rfl (Nat.le_of_ble_eq_true rfl) ⟨Nat.le_of_ble_eq_true rfl, Nat.le_of_ble_eq_true rfl⟩ rfl ?_
  refine m_aload_n hC dX4_payFee_8 0 rfl ?_
  refine m_getI (o := 0) (j := 8) (ji := 8) (CN := RX4) (T := TX4) (N := 9) hC iX4_payFee_4 fX4_payFee_52 rfl dX4_payFee_9 rfl rfl (by decide) rfl rfl ?_
  refine m_imul hC dX4_payFee_12 ?_
  refine m_sipush (v := 1000) hC dX4_payFee_13 (by decide) ?_
  refine m_idiv hC dX4_payFee_16 (by omega) (by omega) ?_
  refine m_istore_n hC dX4_payFee_17 (fun z9 => [(2, .int (z32 z9)), (0, .ref (g.2.2 0)), (1, .int (z32 s))]) (by decide) (fun _ => rfl) (fun v2_17 hv2_17 => ?_)
  refine m_iload_n hC dX4_payFee_18 0 rfl ?_
  refine m_aload_n hC dX4_payFee_19 1 rfl ?_
  refine m_getR (o := 0) (j := 2) (a := 6) (CN := RX4) (T := TX4) (N := 9) hC iX4_payFee_4 fX4_payFee_28 rfl dX4_payFee_20 rfl rfl (by decide) rfl ?_
  refine m_iload_n hC dX4_payFee_23 2 rfl ?_
  refine m_callVi (n := 1) hC (c_openTo9 (by omega)) gX4_payFee_X0_openTo rfl dX4_payFee_24 rfl rfl (by decide +kernel) ⟨Nat.le_of_ble_eq_true rfl, Nat.le_of_ble_eq_true rfl⟩ rfl (Nat.le_of_ble_eq_true rfl) ⟨Nat.le_of_ble_eq_true rfl, Nat.le_of_ble_eq_true rfl⟩ rfl ?_
  refine m_min hC (by decide +kernel) (by decide +kernel) (by decide +kernel) (by decide +kernel) dX4_payFee_27 (Nat.le_of_ble_eq_true rfl) (Nat.le_of_ble_eq_true rfl) ⟨Nat.le_of_ble_eq_true rfl, Nat.le_of_ble_eq_true rfl⟩ (by rw [hv2_17]; show -2147483648 ≤ due S (S 8) s ∧ due S (S 8) s < 2147483648; omega) (by omega) ?_
  refine m_istore_n hC dX4_payFee_30 (fun z9 => [(3, .int (z32 z9)), (2, .int (z32 v2_17)), (0, .ref (g.2.2 0)), (1, .int (z32 s))]) (by decide) (fun _ => rfl) (fun v3_30 hv3_30 => ?_)
  refine m_iconst (v := 0) hC dX4_payFee_31 (by decide) ?_
  refine m_istore hC dX4_payFee_32 (fun z9 => [(4, .int (z32 z9)), (3, .int (z32 v3_30)), (2, .int (z32 v2_17)), (0, .ref (g.2.2 0)), (1, .int (z32 s))]) (by decide) (fun _ => rfl) (fun v4_32 hv4_32 => ?_)
  have L34 : ∀ (n34 : Nat) (i : Nat) (t : Int) (r : Int) (S1 : Mem) (x : Fn × Fn × Int), 8 - t < (n34 : Int) → t = 8 - (i : Int) → i ≤ 8 → r = x.2.2 → S1 = m2 S (x.1, x.2.1) → pfOk (S 10) x → pfL (S 10) s i x = pfL (S 10) s 8 (S 8, S 14, mn (due S (S 8) s) (col (S 8) s - col (S 10) s)) → MW C g 7 (0, 0) 34 [(0, .ref (g.2.2 0)), (1, .int (z32 s)), (3, .int (z32 r)), (4, .int (z32 t))] [] S1 := by
    intro n34
    induction n34 with
    | zero => intros; exfalso; omega
    | succ n34 ih34 =>
      intro i t r S1 x hm34 ht hi hr hS1 hx hfin
      have e8 : S1 8 = x.1 := by rw [hS1]; rfl
      have e10 : S1 10 = S 10 := by rw [hS1]; rfl
      have hO : opnOk S1 := opnOk_of (by rw [e8]; exact hx.1.1) (by rw [e8, e10]; exact hx.2.1)
      have hx3 := hx.2.2.1
      have hx4 := hx.2.2.2
      have hgi := gdF_in (S1 8) (S1 10) s 7
      refine m_iload hC dX4_payFee_34 3 rfl ?_
      refine m_bipush (v := 8) hC dX4_payFee_36 (by decide) ?_
      refine m_icmp_ge (tgt := 120) hC dX4_payFee_38 (by decide) (by omega) (by omega) (fun c_38 => ?_) (fun c_38 => ?_)
      · refine m_vretv hC hR dX4_payFee_120 ⟨Nat.le_of_ble_eq_true rfl, Nat.le_of_ble_eq_true rfl⟩ ?_
        first | (rw [hS1, pfR, show (S 8, S 14).1 = S 8 from rfl, show (S 8, S 14).2 = S 14 from rfl, ← hfin, show i = 0 by omega]; rfl) | (rw [hS1, pfR, show (S 8, S 14).1 = S 8 from rfl, show (S 8, S 14).2 = S 14 from rfl, ← hfin, pfL_stop (by omega)])
      · refine m_iload_n hC dX4_payFee_41 2 rfl ?_
        refine m_if_le (tgt := 120) hC dX4_payFee_42 (by decide) (by omega) (fun c_42 => ?_) (fun c_42 => ?_)
        · refine m_vretv hC hR dX4_payFee_120 ⟨Nat.le_of_ble_eq_true rfl, Nat.le_of_ble_eq_true rfl⟩ ?_
          first | (rw [hS1, pfR, show (S 8, S 14).1 = S 8 from rfl, show (S 8, S 14).2 = S 14 from rfl, ← hfin, show i = 0 by omega]; rfl) | (rw [hS1, pfR, show (S 8, S 14).1 = S 8 from rfl, show (S 8, S 14).2 = S 14 from rfl, ← hfin, pfL_stop (by omega)])
        · refine m_aload_n hC dX4_payFee_45 0 rfl ?_
          refine m_getR (o := 0) (j := 2) (a := 6) (CN := RX4) (T := TX4) (N := 9) hC iX4_payFee_4 fX4_payFee_28 rfl dX4_payFee_46 rfl rfl (by decide) rfl ?_
          refine m_iload_n hC dX4_payFee_49 1 rfl ?_
          refine m_callVi (n := 1) hC (c_god9 (by omega) hO) gX4_payFee_X0_greatestOpenDebtorOf rfl dX4_payFee_50 rfl rfl (by decide +kernel) ⟨Nat.le_of_ble_eq_true rfl, Nat.le_of_ble_eq_true rfl⟩ rfl (Nat.le_of_ble_eq_true rfl) ⟨Nat.le_of_ble_eq_true rfl, Nat.le_of_ble_eq_true rfl⟩ rfl ?_
          refine m_istore hC dX4_payFee_53 (fun z9 => [(5, .int (z32 z9)), (0, .ref (g.2.2 0)), (1, .int (z32 s)), (3, .int (z32 r)), (4, .int (z32 t))]) (by decide) (fun _ => rfl) (fun v5_53 hv5_53 => ?_)
          refine m_iload_n hC dX4_payFee_55 3 rfl ?_
          refine m_aload_n hC dX4_payFee_56 1 rfl ?_
          refine m_getR (o := 0) (j := 2) (a := 6) (CN := RX4) (T := TX4) (N := 9) hC iX4_payFee_4 fX4_payFee_28 rfl dX4_payFee_57 rfl rfl (by decide) rfl ?_
          refine m_iload hC dX4_payFee_60 0 rfl ?_
          refine m_iload_n hC dX4_payFee_62 2 rfl ?_
          refine m_callVi (n := 2) hC (c_open9 (by omega) (by omega)) gX4_payFee_X0_open rfl dX4_payFee_63 rfl rfl (by decide +kernel) ⟨Nat.le_of_ble_eq_true rfl, Nat.le_of_ble_eq_true rfl⟩ rfl (Nat.le_of_ble_eq_true rfl) ⟨Nat.le_of_ble_eq_true rfl, Nat.le_of_ble_eq_true rfl⟩ rfl ?_
          refine m_min hC (by decide +kernel) (by decide +kernel) (by decide +kernel) (by decide +kernel) dX4_payFee_66 (Nat.le_of_ble_eq_true rfl) (Nat.le_of_ble_eq_true rfl) ⟨Nat.le_of_ble_eq_true rfl, Nat.le_of_ble_eq_true rfl⟩ (by omega) (by have h9 := hO v5_53 s; rw [opn_ix (by omega) (by omega)] at h9; exact h9) ?_
          refine m_istore hC dX4_payFee_69 (fun z9 => [(6, .int (z32 z9)), (5, .int (z32 v5_53)), (0, .ref (g.2.2 0)), (1, .int (z32 s)), (3, .int (z32 r)), (4, .int (z32 t))]) (by decide) (fun _ => rfl) (fun v6_69 hv6_69 => ?_)
          refine m_aload_n hC dX4_payFee_71 2 rfl ?_
          refine m_getR (o := 0) (j := 2) (a := 6) (CN := RX4) (T := TX4) (N := 9) hC iX4_payFee_4 fX4_payFee_28 rfl dX4_payFee_72 rfl rfl (by decide) rfl ?_
          refine m_iload hC dX4_payFee_75 1 rfl ?_
          refine m_iload_n hC dX4_payFee_77 3 rfl ?_
          refine m_iload hC dX4_payFee_78 0 rfl ?_
          refine m_ineg hC dX4_payFee_80 ?_
          refine m_callVv (n := 3) hC (c_more9 (by omega) (by omega)) gX4_payFee_X0_more rfl dX4_payFee_81 rfl rfl (by decide +kernel) ⟨Nat.le_of_ble_eq_true rfl, Nat.le_of_ble_eq_true rfl⟩ rfl (Nat.le_of_ble_eq_true rfl) ⟨Nat.le_of_ble_eq_true rfl, Nat.le_of_ble_eq_true rfl⟩ rfl ?_
          refine m_aload_n hC dX4_payFee_84 2 rfl ?_
          refine m_getR (o := 0) (j := 2) (a := 6) (CN := RX4) (T := TX4) (N := 9) hC iX4_payFee_4 fX4_payFee_28 rfl dX4_payFee_85 rfl rfl (by decide) rfl ?_
          refine m_iload hC dX4_payFee_88 1 rfl ?_
          refine m_bipush (v := 8) hC dX4_payFee_90 (by decide) ?_
          refine m_iload hC dX4_payFee_92 0 rfl ?_
          refine m_callVv (n := 3) hC (c_more9 (by omega) (by omega)) gX4_payFee_X0_more rfl dX4_payFee_94 rfl rfl (by decide +kernel) ⟨Nat.le_of_ble_eq_true rfl, Nat.le_of_ble_eq_true rfl⟩ rfl (Nat.le_of_ble_eq_true rfl) ⟨Nat.le_of_ble_eq_true rfl, Nat.le_of_ble_eq_true rfl⟩ rfl ?_
          refine m_aload_n hC dX4_payFee_97 2 rfl ?_
          refine m_getR (o := 0) (j := 4) (a := 13) (CN := RX4) (T := TX4) (N := 9) hC iX4_payFee_4 fX4_payFee_35 rfl dX4_payFee_98 rfl rfl (by decide) rfl ?_
          refine m_iload_n hC dX4_payFee_101 3 rfl ?_
          refine m_bipush (v := 8) hC dX4_payFee_102 (by decide) ?_
          refine m_iload hC dX4_payFee_104 0 rfl ?_
          refine m_callVv (n := 3) hC (c_add14 (by omega) (by omega)) gX4_payFee_X2_add rfl dX4_payFee_106 rfl rfl (by decide +kernel) ⟨Nat.le_of_ble_eq_true rfl, Nat.le_of_ble_eq_true rfl⟩ rfl (Nat.le_of_ble_eq_true rfl) ⟨Nat.le_of_ble_eq_true rfl, Nat.le_of_ble_eq_true rfl⟩ rfl ?_
          refine m_iload_n hC dX4_payFee_109 4 rfl ?_
          refine m_iload hC dX4_payFee_110 0 rfl ?_
          refine m_isub hC dX4_payFee_112 ?_
          refine m_istore_n hC dX4_payFee_113 (fun z9 => [(3, .int (z32 z9)), (6, .int (z32 v6_69)), (5, .int (z32 v5_53)), (0, .ref (g.2.2 0)), (1, .int (z32 s)), (4, .int (z32 t))]) (by decide) (fun _ => rfl) (fun v3_113 hv3_113 => ?_)
          refine m_iinc hC dX4_payFee_114 5 rfl (fun z9 => [(4, .int (z32 z9)), (3, .int (z32 v3_113)), (6, .int (z32 v6_69)), (5, .int (z32 v5_53)), (0, .ref (g.2.2 0)), (1, .int (z32 s))]) (by decide) (fun _ => rfl) (fun v4_114 hv4_114 => ?_)
          refine m_goto (tgt := 34) hC dX4_payFee_117 (by decide) ?_
          refine m_locals [4, 5, 1, 0] rfl ?_
          exact ih34 (i - 1) v4_114 v3_113 _ (pfF (S 10) s x) (by omega) (by omega) (by omega) (by rw [hv3_113, hv6_69, hv5_53, hr, e8, e10]; rfl) (by rw [hv6_69, hv5_53, e8, e10, hr]; subst hS1; exact m2_pf s x) (pfF_ok hs hx (by omega)) (by rw [← hfin]; obtain ⟨j, rfl⟩ : ∃ j, i = j + 1 := ⟨i - 1, by omega⟩; rw [Nat.add_sub_cancel, pfL, if_pos (by omega)])
  refine m_locals [3, 4, 1, 0] rfl ?_
  exact L34 9 8 v4_32 v3_30 _ (S 8, S 14, mn (due S (S 8) s) (col (S 8) s - col (S 10) s)) (by omega) (by omega) (by omega) (by rw [hv3_30, hv2_17]; rfl) (by show S = mput (mput S 8 (S 8)) 14 (S 14); rw [mput_self, mput_self]) (hp0) (rfl)
set_option maxHeartbeats 4000000 in
set_option maxRecDepth 100000 in
theorem c_X4_payFees {g : mG} {S : Mem} (hg : Rg S) (hok : OkD (S 8)) (hfz : Fz (S 8) (S 10)) (l : Launch) : Does l yX4_payFees wsX4_payFees ({ frames := 6, cells := 0, slots := 0, locals := 134 } : Room) g [.ref (g.2.2 0)] S (PV (m2 S (fsA S (S 8, S 14) 8))) := by
  refine Does.of (cc := cX4_payFees) (maxL := 2) (ret := none) (own := RX4) (by decide) rfl rfl (Nat.le_of_ble_eq_true rfl) ?_
  intro C hC hR
  show MW C g 2 (0, 0) 0 [(0, .ref (g.2.2 0))] [] S
  obtain ⟨r1, r2, r3, r4, r5, r6⟩ := id hg
  refine m_iconst (v := 0) hC dX4_payFees_0 (by decide) ?_
  refine m_istore_n hC dX4_payFees_1 (fun z9 => [(1, .int (z32 z9)), (0, .ref (g.2.2 0))]) (by decide) (fun _ => rfl) (fun v1_1 hv1_1 => ?_)
  have L2 : ∀ (n2 : Nat) (i : Nat) (x : Int) (S1 : Mem), 8 - x < (n2 : Int) → x = (i : Int) → i ≤ 8 → S1 = m2 S (fsA S (S 8, S 14) i) → MW C g 2 (0, 0) 2 [(0, .ref (g.2.2 0)), (1, .int (z32 x))] [] S1 := by
    intro n2
    induction n2 with
    | zero => intros; exfalso; omega
    | succ n2 ih2 =>
      intro i x S1 hm2 hx hi hS1
      have hxo := fsA_ok (S := S) (x := (S 8, S 14)) r3 ⟨hok, hfz⟩ hi
      have e8 : S1 8 = (fsA S (S 8, S 14) i).1 := by rw [hS1]; rfl
      have e10 : S1 10 = S 10 := by rw [hS1]; rfl
      have e14 : S1 14 = (fsA S (S 8, S 14) i).2 := by rw [hS1]; rfl
      have hg1 : Rg S1 := by rw [hS1]; exact hg
      have hid : idF S1 (S1 8) x = idF S (fsA S (S 8, S 14) i).1 x := by rw [e8, hS1]; rfl
      refine m_iload_n hC dX4_payFees_2 1 rfl ?_
      refine m_bipush (v := 8) hC dX4_payFees_3 (by decide) ?_
      refine m_icmp_ge (tgt := 27) hC dX4_payFees_5 (by decide) (by omega) (by omega) (fun c_5 => ?_) (fun c_5 => ?_)
      · refine m_vretv hC hR dX4_payFees_27 ⟨Nat.le_of_ble_eq_true rfl, Nat.le_of_ble_eq_true rfl⟩ ?_
        rw [hS1, show i = 8 by omega]
      · refine m_aload_n hC dX4_payFees_8 0 rfl ?_
        refine m_iload_n hC dX4_payFees_9 1 rfl ?_
        refine m_callVi (n := 1) hC (c_X4_isIdleShop (by omega) hg1 (by rw [e8]; exact hxo.1.1)) gX4_payFees_X4_isIdleShop rfl dX4_payFees_10 rfl rfl (by decide +kernel) ⟨Nat.le_of_ble_eq_true rfl, Nat.le_of_ble_eq_true rfl⟩ rfl (Nat.le_of_ble_eq_true rfl) ⟨Nat.le_of_ble_eq_true rfl, Nat.le_of_ble_eq_true rfl⟩ rfl ?_
        refine m_if_eq (tgt := 21) hC dX4_payFees_13 (by decide) (by have := bI_rng (idF S1 (S1 8) x); omega) (fun c_13 => ?_) (fun c_13 => ?_)
        · have hb := bI_0 c_13
          refine m_iinc hC dX4_payFees_21 1 rfl (fun z9 => [(1, .int (z32 z9)), (0, .ref (g.2.2 0))]) (by decide) (fun _ => rfl) (fun v1_21 hv1_21 => ?_)
          refine m_goto (tgt := 2) hC dX4_payFees_24 (by decide) ?_
          refine m_locals [1, 0] rfl ?_
          exact ih2 (i + 1) v1_21 _ (by omega) (by omega) (by omega) (by rw [show fsA S (S 8, S 14) (i + 1) = fsF S (i : Int) (fsA S (S 8, S 14) i) from rfl, ← hx]; unfold fsF; first | (rw [if_neg (by rw [← hid, hb]; decide)]; exact hS1) | (rw [if_pos (by rw [← hid, hb])]; rw [e8, e14]; subst hS1; exact m2_m2 S _ _))
        · have hb := bI_1 c_13
          refine m_aload_n hC dX4_payFees_16 0 rfl ?_
          refine m_iload_n hC dX4_payFees_17 1 rfl ?_
          refine m_callVv (n := 1) hC (c_X4_payFee (by omega) hg1 (by rw [e8]; exact hxo.1) (by rw [e8, e10]; exact hxo.2)) gX4_payFees_X4_payFee rfl dX4_payFees_18 rfl rfl (by decide +kernel) ⟨Nat.le_of_ble_eq_true rfl, Nat.le_of_ble_eq_true rfl⟩ rfl (Nat.le_of_ble_eq_true rfl) ⟨Nat.le_of_ble_eq_true rfl, Nat.le_of_ble_eq_true rfl⟩ rfl ?_
          refine m_iinc hC dX4_payFees_21 1 rfl (fun z9 => [(1, .int (z32 z9)), (0, .ref (g.2.2 0))]) (by decide) (fun _ => rfl) (fun v1_21 hv1_21 => ?_)
          refine m_goto (tgt := 2) hC dX4_payFees_24 (by decide) ?_
          refine m_locals [1, 0] rfl ?_
          exact ih2 (i + 1) v1_21 _ (by omega) (by omega) (by omega) (by rw [show fsA S (S 8, S 14) (i + 1) = fsF S (i : Int) (fsA S (S 8, S 14) i) from rfl, ← hx]; unfold fsF; first | (rw [if_neg (by rw [← hid, hb]; decide)]; exact hS1) | (rw [if_pos (by rw [← hid, hb])]; rw [e8, e14]; subst hS1; exact m2_m2 S _ _))
  refine m_locals [1, 0] rfl ?_
  exact L2 9 0 v1_1 _ (by omega) (by omega) (by omega) (by show S = mput (mput S 8 (S 8)) 14 (S 14); rw [mput_self, mput_self])
end
section
/-! ===== rings: paths as lists, the last shop first ===== -/
def rix (c k : Int) : Int := 7 * c + k
theorem tg_rix {f : Fn} {c k : Int} (hc : 0 ≤ c ∧ c < 57) (hk : 0 ≤ k ∧ k < 7) : tg 57 7 f c k = f (rix c k) := by
  unfold tg rix
  rw [if_pos (by omega), Int.mul_comm]
theorem ts_rix {S : Mem} {a : Nat} {c k v : Int} (hc : 0 ≤ c ∧ c < 57) (hk : 0 ≤ k ∧ k < 7) : ts S a 57 7 c k v = mput S a (up (S a) (rix c k) v) := by
  unfold ts
  rw [if_pos (by omega), mset_mput]
  unfold rix
  rw [Int.mul_comm]
def pl (f : Fn) : Nat → List Int
  | 0 => []
  | n + 1 => f n :: pl f n
theorem pl_cong {f g : Fn} : ∀ {n : Nat}, (∀ k : Int, 0 ≤ k → k < n → f k = g k) → pl f n = pl g n
  | 0, _ => rfl
  | n + 1, h => by rw [pl, pl, h n (by omega) (by omega), pl_cong (n := n) (fun k a b => h k a (by omega))]
theorem pl_len (f : Fn) : ∀ n : Nat, (pl f n).length = n
  | 0 => rfl
  | n + 1 => by rw [pl, List.length_cons, pl_len f n]
theorem pl_has (f : Fn) (y : Int) : ∀ n : Nat, (pl f n).contains y = anyI (fun k => decide (f k = y)) n
  | 0 => rfl
  | n + 1 => by
    rw [pl, anyI, ← pl_has f y n, List.contains_cons, Bool.or_comm]
    congr 1
    by_cases h : f n = y
    · subst h; simp
    · rw [decide_eq_false h, beq_eq_false_iff_ne]; exact fun q => h q.symm
def scan {α : Type} (F : Int → Option α) (a : Int) : Nat → Option α
  | 0 => none
  | n + 1 => match F a with
    | some x => some x
    | none => scan F (a + 1) n
theorem scan_none {α : Type} {F : Int → Option α} {a : Int} {n : Nat} (h : F a = none) : scan F a (n + 1) = scan F (a + 1) n := by
  rw [scan, h]
theorem scan_some {α : Type} {F : Int → Option α} {a : Int} {n : Nat} {x : α} (h : F a = some x) : scan F a (n + 1) = some x := by
  rw [scan, h]
theorem scan_cong {α : Type} {F F2 : Int → Option α} : ∀ {n : Nat} {a : Int}, (∀ k : Int, a ≤ k → k < a + n → F k = F2 k) → scan F a n = scan F2 a n
  | 0, _, _ => rfl
  | n + 1, a, h => by rw [scan, scan, h a (by omega) (by omega), scan_cong (n := n) (a := a + 1) (fun k h1 h2 => h k (by omega) (by omega))]
theorem scan_is {α : Type} {F : Int → Option α} {x : α} : ∀ {n : Nat} {a : Int}, scan F a n = some x → ∃ k : Int, a ≤ k ∧ k < a + n ∧ F k = some x
  | 0, _, h => by cases h
  | n + 1, a, h => by
    rw [scan] at h
    cases hF : F a with
    | some y => rw [hF] at h; cases h; exact ⟨a, by omega, by omega, hF⟩
    | none =>
      rw [hF] at h
      obtain ⟨k, h1, h2, h3⟩ := scan_is (n := n) (a := a + 1) h
      exact ⟨k, by omega, by omega, h3⟩
/-- the first way to make the path l, begun at a, a ring with so many shops more -/
def dfs (G : Int → Int → Bool) (a : Int) : Nat → List Int → Option (List Int)
  | 0, l => if G (l.headD 0) a = true then some l else none
  | r + 1, l => scan (fun y => if (G (l.headD 0) y && !l.contains y) = true then dfs G a r (y :: l) else none) (a + 1) (7 - a).toNat
def fnd (G : Int → Int → Bool) : Option (List Int) := scan (fun z => scan (fun a => dfs G a (z - 1).toNat [a]) 0 8) 2 4
def Gb (ow fz : Fn) (i j : Int) : Bool := decide (0 < ow (ix i j) - fz (ix i j))
/-- a path that may become a ring -/
def VP (G : Int → Int → Bool) (a : Int) : List Int → Prop
  | [] => False
  | [x] => x = a ∧ 0 ≤ x ∧ x < 8
  | x :: y :: t => G y x = true ∧ (y :: t).contains x = false ∧ a < x ∧ x < 8 ∧ VP G a (y :: t)
theorem VP_a {G : Int → Int → Bool} {a : Int} : ∀ {l : List Int}, VP G a l → l.getLastD 0 = a ∧ 0 ≤ a ∧ a < 8
  | [], h => h.elim
  | [y], h => by
    obtain ⟨h1, h2, h3⟩ := h
    subst h1
    exact ⟨rfl, h2, h3⟩
  | y :: z :: t, h => by
    have := VP_a h.2.2.2.2
    exact ⟨by rw [← this.1]; rfl, this.2⟩
theorem VP_in {G : Int → Int → Bool} {a : Int} : ∀ {l : List Int}, VP G a l → ∀ x ∈ l, a ≤ x ∧ 0 ≤ x ∧ x < 8
  | [], h, _, _ => h.elim
  | [y], h, x, hx => by
    obtain ⟨h1, h2, h3⟩ := h
    rw [List.mem_singleton.mp hx]
    omega
  | y :: z :: t, h, x, hx => by
    obtain ⟨h1, h2, h3, h4, h5⟩ := h
    have h6 := VP_a h5
    rcases List.mem_cons.mp hx with rfl | q
    · omega
    · exact VP_in h5 x q
theorem VP_ne {G : Int → Int → Bool} {a : Int} {l : List Int} (h : VP G a l) : ∃ x t, l = x :: t := by
  cases l with
  | nil => exact h.elim
  | cons x t => exact ⟨x, t, rfl⟩
theorem VP_cons {G : Int → Int → Bool} {a y : Int} {l : List Int} (h : VP G a l) (h1 : G (l.headD 0) y = true) (h2 : l.contains y = false) (h3 : a < y) (h4 : y < 8) : VP G a (y :: l) := by
  obtain ⟨x, t, rfl⟩ := VP_ne h
  exact ⟨h1, h2, h3, h4, h⟩
theorem dfs_is {G : Int → Int → Bool} {a : Int} : ∀ {r : Nat} {l m : List Int}, VP G a l → dfs G a r l = some m → VP G a m ∧ G (m.headD 0) a = true ∧ m.length = l.length + r
  | 0, l, m, hv, h => by
    rw [dfs] at h
    split at h
    · rename_i q
      cases h
      exact ⟨hv, q, rfl⟩
    · cases h
  | r + 1, l, m, hv, h => by
    rw [dfs] at h
    obtain ⟨k, h1, h2, h3⟩ := scan_is h
    split at h3
    · rename_i q
      simp only [Bool.and_eq_true, Bool.not_eq_true'] at q
      have ha := VP_a hv
      have h4 := dfs_is (VP_cons hv q.1 q.2 (by omega) (by omega)) h3
      refine ⟨h4.1, h4.2.1, ?_⟩
      rw [h4.2.2, List.length_cons]
      omega
    · cases h3
theorem fnd_is {G : Int → Int → Bool} {m : List Int} (h : fnd G = some m) : ∃ a, VP G a m ∧ G (m.headD 0) a = true ∧ 2 ≤ m.length ∧ m.length ≤ 5 := by
  obtain ⟨z, h1, h2, h3⟩ := scan_is h
  obtain ⟨a, h4, h5, h6⟩ := scan_is h3
  have h7 := dfs_is (l := [a]) ⟨rfl, by omega, by omega⟩ h6
  refine ⟨a, h7.1, h7.2.1, ?_, ?_⟩
  · rw [h7.2.2]; simp only [List.length_singleton]; omega
  · rw [h7.2.2]; simp only [List.length_singleton]; omega
/-- the least along the path, beside c -/
def lsL (op : Int → Int → Int) (c : Int) : List Int → Int
  | [] => c
  | [_] => c
  | x :: y :: t => mn (lsL op c (y :: t)) (op y x)
/-- each owes less along the path -/
def ntL (ow : Fn) (v : Int) : List Int → Fn
  | [] => ow
  | [_] => ow
  | x :: y :: t => adF (ntL ow v (y :: t)) y x (-v)
def opF (ow fz : Fn) (i j : Int) : Int := ow (ix i j) - fz (ix i j)
def lsR (ow fz : Fn) (l : List Int) : Int := lsL (opF ow fz) (opF ow fz (l.headD 0) (l.getLastD 0)) l
def ntR (ow fz : Fn) (l : List Int) : Fn := ntL (adF ow (l.headD 0) (l.getLastD 0) (-(lsR ow fz l))) (lsR ow fz l) l
/-- a ring netted, if there is one -/
def stp (fz ow : Fn) : Fn := match fnd (Gb ow fz) with
  | some l => ntR ow fz l
  | none => ow
def rgN (fz ow : Fn) : Nat → Fn
  | 0 => ow
  | n + 1 => stp fz (rgN fz ow n)
/-- what a row tells of a ring -/
def rowIs (h : Fn) (c v : Int) (l : List Int) : Prop := h (rix c 0) = l.length ∧ h (rix c 1) = v ∧ pl (fun k => h (rix c (2 + k))) l.length = l ∧ ∀ k : Int, l.length ≤ k → k < 5 → h (rix c (2 + k)) = -1
theorem pl_last (f : Fn) : ∀ n : Nat, 0 < n → (pl f n).getLastD 0 = f 0
  | 0, h => absurd h (Nat.lt_irrefl 0)
  | 1, _ => rfl
  | n + 2, _ => by
    have := pl_last f (n + 1) (by omega)
    rw [← this]
    rfl
theorem pl_head (f : Fn) (n : Nat) (h : 0 < n) : (pl f n).headD 0 = f ((n : Int) - 1) := by
  obtain ⟨k, rfl⟩ : ∃ k, n = k + 1 := ⟨n - 1, by omega⟩
  rw [pl, show ((k + 1 : Nat) : Int) - 1 = k by omega]
  rfl
theorem pl_in {f : Fn} {n : Nat} {k : Int} (h0 : 0 ≤ k) (h1 : k < n) : f k ∈ pl f n := by
  induction n with
  | zero => omega
  | succ n ih =>
    rw [pl]
    by_cases h : k = n
    · subst h; exact List.mem_cons_self
    · exact List.mem_cons_of_mem _ (ih (by omega))
theorem adF_comm (f : Fn) (i j v a b w : Int) : adF (adF f i j v) a b w = adF (adF f a b w) i j v := by
  unfold adF
  by_cases h : ix i j = ix a b
  · rw [h, up_same, up_same, up_up, up_up]
    congr 1
    omega
  · rw [up_ne (fun q => h q.symm), up_ne h, up_swap _ _ _ h]
theorem ntL_adF (ow : Fn) (v a b w : Int) : ∀ l : List Int, ntL (adF ow a b w) v l = adF (ntL ow v l) a b w
  | [] => rfl
  | [_] => rfl
  | x :: y :: t => by rw [ntL, ntL, ntL_adF ow v a b w (y :: t), adF_comm]
/-! what netting does -/
def eds : List Int → List (Int × Int)
  | [] => []
  | [_] => []
  | x :: y :: t => (y, x) :: eds (y :: t)
theorem eds_in : ∀ {l : List Int} {a b : Int}, (a, b) ∈ eds l → a ∈ l ∧ b ∈ l
  | [], _, _, h => by cases h
  | [_], _, _, h => by cases h
  | x :: y :: t, a, b, h => by
    rw [eds] at h
    rcases List.mem_cons.mp h with q | q
    · cases q
      exact ⟨List.mem_cons_of_mem _ List.mem_cons_self, List.mem_cons_self⟩
    · have := eds_in q
      exact ⟨List.mem_cons_of_mem _ this.1, List.mem_cons_of_mem _ this.2⟩
theorem notin_of_contains {l : List Int} {x : Int} (h : l.contains x = false) : x ∉ l := fun q => by
  rw [List.contains_iff_mem.mpr q] at h
  cases h
/-- the last one of a path is nobody's next -/
theorem eds_nlast {G : Int → Int → Bool} {a : Int} : ∀ {l : List Int} {i j : Int}, VP G a l → (i, j) ∈ eds l → a < j
  | [], _, _, h, _ => h.elim
  | [_], _, _, _, h => by cases h
  | x :: y :: t, i, j, hv, h => by
    rw [eds] at h
    rcases List.mem_cons.mp h with q | q
    · cases q; exact hv.2.2.1
    · exact eds_nlast hv.2.2.2.2 q
theorem eds_G {G : Int → Int → Bool} {a : Int} : ∀ {l : List Int} {i j : Int}, VP G a l → (i, j) ∈ eds l → G i j = true ∧ i ≠ j
  | [], _, _, h, _ => h.elim
  | [_], _, _, _, h => by cases h
  | x :: y :: t, i, j, hv, h => by
    rw [eds] at h
    rcases List.mem_cons.mp h with q | q
    · cases q
      exact ⟨hv.1, fun e => notin_of_contains hv.2.1 (e ▸ List.mem_cons_self)⟩
    · exact eds_G hv.2.2.2.2 q
theorem ntL_get {G : Int → Int → Bool} {a v : Int} {ow : Fn} : ∀ {l : List Int}, VP G a l → ∀ {i j : Int}, 0 ≤ j ∧ j < 9 → ntL ow v l (ix i j) = ow (ix i j) - if (i, j) ∈ eds l then v else 0
  | [], h, _, _, _ => h.elim
  | [_], _, i, j, _ => by rw [ntL, if_neg (by rw [eds]; exact List.not_mem_nil)]; omega
  | x :: y :: t, hv, i, j, hj => by
    have hx := VP_in hv x List.mem_cons_self
    rw [ntL, adF_get (by omega) hj, ntL_get hv.2.2.2.2 hj, eds]
    by_cases q : i = y ∧ j = x
    · obtain ⟨rfl, rfl⟩ := q
      rw [if_neg (fun z => notin_of_contains hv.2.1 (eds_in z).2), if_pos ⟨rfl, rfl⟩, if_pos List.mem_cons_self]
      omega
    · rw [if_neg q]
      have : ((i, j) ∈ (y, x) :: eds (y :: t)) ↔ (i, j) ∈ eds (y :: t) := by
        rw [List.mem_cons]
        exact ⟨fun h => h.elim (fun e => absurd (by cases e; exact ⟨rfl, rfl⟩) q) id, Or.inr⟩
      by_cases z : (i, j) ∈ eds (y :: t)
      · rw [if_pos z, if_pos (this.mpr z)]; omega
      · rw [if_neg z, if_neg (fun w => z (this.mp w))]; omega
theorem ntL_tot {G : Int → Int → Bool} {a v : Int} {ow : Fn} (hv0 : 0 ≤ v) : ∀ {l : List Int}, VP G a l → tot (ntL ow v l) ≤ tot ow
  | [], h => h.elim
  | [_], _ => Int.le_refl _
  | x :: y :: t, hv => by
    have hx := VP_in hv x List.mem_cons_self
    have hy := VP_in hv y (List.mem_cons_of_mem _ List.mem_cons_self)
    have := ntL_tot (ow := ow) hv0 hv.2.2.2.2
    rw [ntL, tot_adF (by omega) (by omega)]
    omega
theorem lsL_le {op : Int → Int → Int} {c : Int} : ∀ {l : List Int}, lsL op c l ≤ c ∧ (∀ i j : Int, (i, j) ∈ eds l → lsL op c l ≤ op i j) ∧ (lsL op c l = c ∨ ∃ i j : Int, (i, j) ∈ eds l ∧ lsL op c l = op i j)
  | [] => ⟨Int.le_refl _, (fun _ _ h => by cases h), Or.inl rfl⟩
  | [_] => ⟨Int.le_refl _, (fun _ _ h => by cases h), Or.inl rfl⟩
  | x :: y :: t => by
    obtain ⟨h1, h2, h3⟩ := lsL_le (op := op) (c := c) (l := y :: t)
    rw [lsL, eds]
    have hm := mn_le (lsL op c (y :: t)) (op y x)
    refine ⟨by omega, fun i j h => ?_, ?_⟩
    · rcases List.mem_cons.mp h with q | q
      · cases q; exact hm.2.1
      · exact Int.le_trans hm.1 (h2 i j q)
    · rcases hm.2.2 with q | q
      · rcases h3 with z | ⟨i, j, z1, z2⟩
        · exact Or.inl (q.trans z)
        · exact Or.inr ⟨i, j, List.mem_cons_of_mem _ z1, q.trans z2⟩
      · exact Or.inr ⟨y, x, List.mem_cons_self, q⟩
/-- the ring's debts -/
def rgE (l : List Int) (i j : Int) : Prop := (i = l.headD 0 ∧ j = l.getLastD 0) ∨ (i, j) ∈ eds l
theorem ring_facts {ow fz : Fn} {a : Int} {l : List Int} (hv : VP (Gb ow fz) a l) (hc : Gb ow fz (l.headD 0) a = true) (h2 : 2 ≤ l.length) : (∀ i j : Int, rgE l i j → 0 ≤ i ∧ i < 8 ∧ 0 ≤ j ∧ j < 8 ∧ i ≠ j ∧ lsR ow fz l ≤ opF ow fz i j) ∧ 0 < lsR ow fz l ∧ (∃ i j : Int, rgE l i j ∧ lsR ow fz l = opF ow fz i j) ∧ (∀ i j : Int, 0 ≤ j ∧ j < 9 → (rgE l i j → ntR ow fz l (ix i j) = ow (ix i j) - lsR ow fz l) ∧ (¬ rgE l i j → ntR ow fz l (ix i j) = ow (ix i j))) ∧ tot (ntR ow fz l) ≤ tot ow := by
  obtain ⟨x, t, rfl⟩ := VP_ne hv
  have hl := VP_a hv
  have hx := VP_in hv x List.mem_cons_self
  have hgt : a < x := by
    cases t with
    | nil => exact absurd h2 (by simp)
    | cons y t => exact hv.2.2.1
  have hhd : (x :: t).headD 0 = x := rfl
  have hle := lsL_le (op := opF ow fz) (c := opF ow fz ((x :: t).headD 0) ((x :: t).getLastD 0)) (l := x :: t)
  have hpos : ∀ i j : Int, rgE (x :: t) i j → 0 < opF ow fz i j := by
    rintro i j (⟨h6, h7⟩ | h)
    · rw [h6, h7, hl.1]
      exact of_decide_eq_true hc
    · exact of_decide_eq_true (eds_G hv h).1
  have hE : ∀ i j : Int, rgE (x :: t) i j → 0 ≤ i ∧ i < 8 ∧ 0 ≤ j ∧ j < 8 ∧ i ≠ j ∧ lsR ow fz (x :: t) ≤ opF ow fz i j := by
    rintro i j (⟨h6, h7⟩ | h)
    · have e6 : i = x := h6
      have e7 : j = a := h7.trans hl.1
      rw [e6, e7]
      refine ⟨by omega, by omega, by omega, by omega, by omega, ?_⟩
      have h8 : lsR ow fz (x :: t) ≤ opF ow fz ((x :: t).headD 0) ((x :: t).getLastD 0) := hle.1
      rw [hl.1] at h8
      exact h8
    · have h5 := eds_in h
      have h6 := VP_in hv i h5.1
      have h7 := VP_in hv j h5.2
      exact ⟨by omega, by omega, by omega, by omega, (eds_G hv h).2, hle.2.1 i j h⟩
  have hmin : ∃ i j : Int, rgE (x :: t) i j ∧ lsR ow fz (x :: t) = opF ow fz i j := by
    rcases hle.2.2 with q | ⟨i, j, q1, q2⟩
    · exact ⟨_, _, Or.inl ⟨rfl, rfl⟩, q⟩
    · exact ⟨i, j, Or.inr q1, q2⟩
  have hv0 : 0 < lsR ow fz (x :: t) := by
    obtain ⟨i, j, h1, h3⟩ := hmin
    rw [h3]
    exact hpos i j h1
  refine ⟨hE, hv0, hmin, fun i j hj => ?_, ?_⟩
  · have hnc : ((x :: t).headD 0, (x :: t).getLastD 0) ∉ eds (x :: t) := fun z => by
      have := eds_nlast hv z
      rw [hl.1] at this
      omega
    have hget : ntR ow fz (x :: t) (ix i j) = ow (ix i j) + (if i = (x :: t).headD 0 ∧ j = (x :: t).getLastD 0 then -(lsR ow fz (x :: t)) else 0) - if (i, j) ∈ eds (x :: t) then lsR ow fz (x :: t) else 0 := by
      unfold ntR
      rw [ntL_get hv hj, adF_get (by rw [hl.1]; omega) hj]
    constructor
    · rintro (h | h)
      · rw [hget, if_pos h, if_neg (by rw [h.1, h.2]; exact hnc)]
        omega
      · rw [hget, if_neg (fun z => hnc (by rw [← z.1, ← z.2]; exact h)), if_pos h]
        omega
    · intro h
      rw [hget, if_neg (fun z => h (Or.inl z)), if_neg (fun z => h (Or.inr z))]
      omega
  · unfold ntR
    have h3 := ntL_tot (ow := adF ow ((x :: t).headD 0) ((x :: t).getLastD 0) (-(lsR ow fz (x :: t)))) (Int.le_of_lt hv0) hv
    rw [tot_adF (by rw [hhd]; omega) (by rw [hl.1]; omega)] at h3
    omega
/-- how many debts between shops aren't frozen whole -/
def cnF (ow fz : Fn) (i : Int) : Int := sI (fun j => if Gb ow fz i j = true then 1 else 0) 8
def cnp (ow fz : Fn) : Int := sI (cnF ow fz) 8
theorem stp_ok {ow fz : Fn} (h : OkD ow) (hf : Fz ow fz) : OkD (stp fz ow) ∧ Fz (stp fz ow) fz ∧ (fnd (Gb ow fz) ≠ none → cnp (stp fz ow) fz < cnp ow fz) := by
  unfold stp
  cases hq : fnd (Gb ow fz) with
  | none => exact ⟨h, hf, fun z => absurd rfl z⟩
  | some l =>
    obtain ⟨a, hv, hc, h2, h5⟩ := fnd_is hq
    obtain ⟨e1, e2, e3, e4, e5⟩ := ring_facts hv hc h2
    have key : ∀ i j : Int, 0 ≤ j ∧ j < 9 → ntR ow fz l (ix i j) ≤ ow (ix i j) ∧ (ntR ow fz l (ix i j) < ow (ix i j) → rgE l i j ∧ ntR ow fz l (ix i j) = ow (ix i j) - lsR ow fz l) := by
      intro i j hj
      by_cases z : rgE l i j
      · have := (e4 i j hj).1 z
        exact ⟨by omega, fun _ => ⟨z, this⟩⟩
      · have := (e4 i j hj).2 z
        exact ⟨by omega, fun w => by omega⟩
    have hfz : Fz (ntR ow fz l) fz := by
      intro i j i0 i9 j0 j9
      have h6 := hf i j i0 i9 j0 j9
      by_cases z : rgE l i j
      · rw [(e4 i j ⟨j0, j9⟩).1 z]
        have h7 := (e1 i j z).2.2.2.2.2
        unfold opF at h7
        omega
      · rw [(e4 i j ⟨j0, j9⟩).2 z]
        exact h6
    have mono : ∀ i j : Int, 0 ≤ j ∧ j < 9 → (if Gb (ntR ow fz l) fz i j = true then (1 : Int) else 0) ≤ if Gb ow fz i j = true then 1 else 0 := by
      intro i j hj
      have h6 := (key i j hj).1
      unfold Gb
      simp only [decide_eq_true_eq]
      split <;> split <;> omega
    refine ⟨⟨⟨fun i j i0 i9 j0 j9 => ?_, ?_⟩, fun i i0 i9 => ?_⟩, hfz, fun _ => ?_⟩
    · have := hfz i j i0 i9 j0 j9
      show 0 ≤ ntR ow fz l (ix i j)
      omega
    · have := h.1.2
      show tot (ntR ow fz l) ≤ 200000
      omega
    · have h6 := h.2 i i0 i9
      have h7 : ¬ rgE l i i := fun z => (e1 i i z).2.2.2.2.1 rfl
      show ntR ow fz l (ix i i) = 0
      rw [(e4 i i ⟨i0, i9⟩).2 h7, h6]
    · obtain ⟨i, j, z, hz⟩ := e3
      have hr := e1 i j z
      show cnp (ntR ow fz l) fz < cnp ow fz
      have h7 : Gb (ntR ow fz l) fz i j = false := by
        unfold Gb
        rw [(e4 i j (by omega)).1 z, hz]
        unfold opF
        exact decide_eq_false (by omega)
      have h8 : Gb ow fz i j = true := by
        unfold Gb
        unfold opF at hz
        exact decide_eq_true (by omega)
      have rowle : ∀ k : Int, 0 ≤ k → k < (8 : Nat) → cnF (ntR ow fz l) fz k ≤ cnF ow fz k := fun k _ _ => sI_mono (fun m m0 m1 => mono k m (by omega))
      have rowlt : cnF (ntR ow fz l) fz i < cnF ow fz i := by
        unfold cnF
        have e6 := sI_one (n := 8) (f := fun m => if Gb ow fz i m = true then (1 : Int) else 0) (g := up (fun m => if Gb ow fz i m = true then (1 : Int) else 0) j 0) (k := j) (by omega) (by omega) (fun m _ _ hm => up_ne hm)
        rw [up_same] at e6
        simp only [h8, if_true] at e6
        have e7 : sI (fun m => if Gb (ntR ow fz l) fz i m = true then (1 : Int) else 0) 8 ≤ sI (up (fun m => if Gb ow fz i m = true then (1 : Int) else 0) j 0) 8 := by
          apply sI_mono
          intro m m0 m1
          by_cases hm : m = j
          · subst hm
            rw [up_same]
            simp [h7]
          · rw [up_ne hm]
            exact mono i m (by omega)
        omega
      unfold cnp
      have e6 := sI_one (n := 8) (f := cnF ow fz) (g := up (cnF ow fz) i (cnF (ntR ow fz l) fz i)) (k := i) (by omega) (by omega) (fun m _ _ hm => up_ne hm)
      rw [up_same] at e6
      have e7 : sI (cnF (ntR ow fz l) fz) 8 ≤ sI (up (cnF ow fz) i (cnF (ntR ow fz l) fz i)) 8 := by
        apply sI_mono
        intro m m0 m1
        by_cases hm : m = i
        · subst hm
          rw [up_same]
          exact Int.le_refl _
        · rw [up_ne hm]
          exact rowle m m0 m1
      omega
theorem cnp_rng {ow fz : Fn} (h : OkD ow) (hf : Fz ow fz) : 0 ≤ cnp ow fz ∧ cnp ow fz ≤ 56 := by
  have b1 : ∀ i j : Int, 0 ≤ (if Gb ow fz i j = true then (1 : Int) else 0) ∧ (if Gb ow fz i j = true then (1 : Int) else 0) ≤ 1 := by
    intro i j
    split <;> omega
  have r0 : ∀ i : Int, 0 ≤ cnF ow fz i := fun i => sI_nn (fun j _ _ => (b1 i j).1)
  have r7 : ∀ i : Int, 0 ≤ i → i < (8 : Nat) → cnF ow fz i ≤ 7 := by
    intro i i0 i8
    have d0 : Gb ow fz i i = false := by
      unfold Gb
      have e1 := h.2 i i0 (by omega)
      have e2 := hf i i i0 (by omega) i0 (by omega)
      exact decide_eq_false (by omega)
    have e6 := sI_one (n := 8) (f := fun j => if Gb ow fz i j = true then (1 : Int) else 0) (g := up (fun j => if Gb ow fz i j = true then (1 : Int) else 0) i 1) (k := i) (by omega) (by omega) (fun m _ _ hm => up_ne hm)
    rw [up_same] at e6
    simp only [d0] at e6
    have e7 := sI_bound (n := 8) (f := up (fun j => if Gb ow fz i j = true then (1 : Int) else 0) i 1) (c := 1) (fun k _ _ => by
      unfold up
      split
      · omega
      · exact (b1 i k).2)
    rw [if_neg (show ¬ (false = true) by decide)] at e6
    show sI (fun j => if Gb ow fz i j = true then (1 : Int) else 0) 8 ≤ 7
    omega
  have e1 := sI_bound (n := 8) (f := cnF ow fz) (c := 7) r7
  have e2 : 0 ≤ sI (cnF ow fz) 8 := sI_nn (fun i _ _ => r0 i)
  unfold cnp
  omega
theorem rgN_ok {ow fz : Fn} (h : OkD ow) (hf : Fz ow fz) : ∀ n : Nat, OkD (rgN fz ow n) ∧ Fz (rgN fz ow n) fz
  | 0 => ⟨h, hf⟩
  | n + 1 => by
    have := rgN_ok h hf n
    have := stp_ok this.1 this.2
    exact ⟨this.1, this.2.1⟩
theorem rgN_cn {ow fz : Fn} (h : OkD ow) (hf : Fz ow fz) : ∀ n : Nat, (∀ k : Nat, k < n → fnd (Gb (rgN fz ow k) fz) ≠ none) → cnp (rgN fz ow n) fz + n ≤ cnp ow fz
  | 0, _ => by simp [rgN]
  | n + 1, hk => by
    have e1 := rgN_cn h hf n (fun k q => hk k (by omega))
    have e2 := rgN_ok h hf n
    have e3 := (stp_ok e2.1 e2.2).2.2 (hk n (by omega))
    show cnp (stp fz (rgN fz ow n)) fz + ((n + 1 : Nat) : Int) ≤ cnp ow fz
    omega
/-- after 56 rings there is none left -/
theorem rgN_56 {ow fz : Fn} (h : OkD ow) (hf : Fz ow fz) {n : Nat} (hk : ∀ k : Nat, k < n → fnd (Gb (rgN fz ow k) fz) ≠ none) : n ≤ 56 ∧ (n = 56 → fnd (Gb (rgN fz ow n) fz) = none) := by
  have e1 := rgN_cn h hf n hk
  have e2 := cnp_rng h hf
  have e3 := rgN_ok h hf n
  have e4 := cnp_rng e3.1 e3.2
  refine ⟨by omega, fun e => ?_⟩
  by_cases q : fnd (Gb (rgN fz ow n) fz) = none
  · exact q
  · have e5 := rgN_cn h hf (n + 1) (fun k hk2 => by
      by_cases z : k < n
      · exact hk k z
      · rw [show k = n by omega]; exact q)
    have e6 := rgN_ok h hf (n + 1)
    have e7 := cnp_rng e6.1 e6.2
    omega
end
section
/-! ===== rings: what the search has done so far ===== -/
def pth (S : Mem) : Fn := fun k => S 17 (rix (S 15 1) (2 + k))
def GS (S : Mem) : Int → Int → Bool := Gb (S 8) (S 10)
/-- the scratch row, from a place on, may differ -/
def agr (S : Mem) (n : Int) (h : Fn) : Prop := ∀ x : Int, ¬ (rix (S 15 1) n ≤ x ∧ x < rix (S 15 1) 7) → h x = S 17 x
def clP (S : Mem) (n r : Nat) (v : Int) (S' : Mem) : Prop := ∃ h : Fn, S' = mput S 17 h ∧ agr S (2 + n) h ∧ ((v = 1 ∧ dfs (GS S) (pth S 0) r (pl (pth S) n) = some (pl (pth S') (n + r))) ∨ (v = 0 ∧ dfs (GS S) (pth S 0) r (pl (pth S) n) = none))
def clF (G : Int → Int → Bool) (a : Int) (r : Nat) (l : List Int) (y : Int) : Option (List Int) := if (G (l.headD 0) y && !l.contains y) = true then dfs G a r (y :: l) else none
def clI (S : Mem) (n r : Nat) (y : Int) (S1 : Mem) : Prop := ∃ h : Fn, S1 = mput S 17 h ∧ agr S (2 + n) h ∧ pth S 0 + 1 ≤ y ∧ y ≤ 8 ∧ scan (clF (GS S) (pth S 0) r (pl (pth S) n)) y (8 - y).toNat = dfs (GS S) (pth S 0) (r + 1) (pl (pth S) n)
theorem mput17 {S : Mem} {h : Fn} : mput S 17 h 8 = S 8 ∧ mput S 17 h 10 = S 10 ∧ mput S 17 h 15 = S 15 ∧ mput S 17 h 17 = h := ⟨rfl, rfl, rfl, rfl⟩
theorem clP_v {S : Mem} {n r : Nat} {v : Int} {S' : Mem} (h : clP S n r v S') : v = 0 ∨ v = 1 := by
  obtain ⟨h, -, -, q | q⟩ := h
  · exact Or.inr q.1
  · exact Or.inl q.1
theorem clP_0 {S : Mem} {n : Nat} {v : Int} (hn : 1 ≤ n) (hv : v = if 0 < S 8 (ix (pth S ((n : Int) - 1)) (pth S 0)) - S 10 (ix (pth S ((n : Int) - 1)) (pth S 0)) then 1 else 0) : clP S n 0 v S := by
  refine ⟨S 17, (mput_self S 17).symm, fun x _ => rfl, ?_⟩
  rw [dfs, pl_head _ _ hn]
  unfold GS Gb
  simp only [decide_eq_true_eq]
  by_cases q : 0 < S 8 (ix (pth S ((n : Int) - 1)) (pth S 0)) - S 10 (ix (pth S ((n : Int) - 1)) (pth S 0))
  · rw [if_pos q] at hv ⊢
    exact Or.inl ⟨hv, rfl⟩
  · rw [if_neg q] at hv ⊢
    exact Or.inr ⟨hv, rfl⟩
theorem clI_0 {S : Mem} {n r : Nat} (h0 : 0 ≤ pth S 0 ∧ pth S 0 < 8) : clI S n r (pth S 0 + 1) S := by
  refine ⟨S 17, (mput_self S 17).symm, fun x _ => rfl, Int.le_refl _, by omega, ?_⟩
  rw [show (8 - (pth S 0 + 1)).toNat = (7 - pth S 0).toNat by omega]
  rfl
theorem clI_mem {S : Mem} {n r : Nat} {y : Int} {S1 : Mem} (h : clI S n r y S1) : S1 8 = S 8 ∧ S1 10 = S 10 ∧ S1 15 = S 15 ∧ pth S 0 + 1 ≤ y ∧ y ≤ 8 ∧ ∀ k : Int, 0 ≤ k → k < n → pth S1 k = pth S k := by
  obtain ⟨h, rfl, ha, h1, h2, -⟩ := h
  refine ⟨rfl, rfl, rfl, h1, h2, fun k k0 k1 => ?_⟩
  show h (rix (S 15 1) (2 + k)) = _
  refine ha _ (fun q => ?_)
  have := q.1
  unfold rix at this
  omega
theorem clI_skip {S : Mem} {n r : Nat} {y : Int} {S1 : Mem} (h : clI S n r y S1) (hy : y < 8) (hF : clF (GS S) (pth S 0) r (pl (pth S) n) y = none) : clI S n r (y + 1) S1 := by
  obtain ⟨h, e1, e2, e3, e4, e5⟩ := h
  refine ⟨h, e1, e2, by omega, by omega, ?_⟩
  rw [← e5, show (8 - y).toNat = (8 - (y + 1)).toNat + 1 by omega, scan_none hF]
theorem clF_no1 {S : Mem} {n r : Nat} {y : Int} (hn : 1 ≤ n) (h : ¬ 0 < S 8 (ix (pth S ((n : Int) - 1)) y) - S 10 (ix (pth S ((n : Int) - 1)) y)) : clF (GS S) (pth S 0) r (pl (pth S) n) y = none := by
  unfold clF
  rw [if_neg]
  rw [pl_head _ _ hn]
  unfold GS Gb
  rw [decide_eq_false h]
  simp
theorem clF_no2 {S : Mem} {n r : Nat} {y : Int} (h : anyI (fun k => decide (pth S k = y)) n = true) : clF (GS S) (pth S 0) r (pl (pth S) n) y = none := by
  unfold clF
  rw [if_neg]
  rw [pl_has, h]
  simp
theorem clF_go {S : Mem} {n r : Nat} {y : Int} (hn : 1 ≤ n) (h1 : 0 < S 8 (ix (pth S ((n : Int) - 1)) y) - S 10 (ix (pth S ((n : Int) - 1)) y)) (h : anyI (fun k => decide (pth S k = y)) n = false) : clF (GS S) (pth S 0) r (pl (pth S) n) y = dfs (GS S) (pth S 0) r (y :: pl (pth S) n) := by
  unfold clF
  rw [if_pos]
  rw [pl_has, h, pl_head _ _ hn]
  unfold GS Gb
  rw [decide_eq_true h1]
  rfl
def put17 (S : Mem) (k v : Int) : Mem := mput S 17 (up (S 17) (rix (S 15 1) k) v)
theorem put17_at {S : Mem} {k v : Int} : pth (put17 S (2 + k) v) k = v := up_same _ _ _
theorem put17_ne {S : Mem} {k v j : Int} (h : j ≠ k) : pth (put17 S (2 + k) v) j = pth S j := up_ne (by unfold rix; show 7 * S 15 1 + (2 + j) ≠ 7 * S 15 1 + (2 + k); omega)
theorem cl_set {S : Mem} {n r : Nat} {y : Int} {S1 : Mem} (h : clI S n r y S1) (hn : 1 ≤ n) : pth (put17 S1 (2 + n) y) 0 = pth S 0 ∧ pl (pth (put17 S1 (2 + n) y)) (n + 1) = y :: pl (pth S) n ∧ GS (put17 S1 (2 + n) y) = GS S ∧ (∀ k : Int, 0 ≤ k → k < n → pth (put17 S1 (2 + n) y) k = pth S k) := by
  have hm := clI_mem h
  have e : ∀ k : Int, 0 ≤ k → k < n → pth (put17 S1 (2 + n) y) k = pth S k := fun k k0 k1 => by rw [put17_ne (by omega), hm.2.2.2.2.2 k k0 k1]
  refine ⟨e 0 (Int.le_refl 0) (by omega), ?_, ?_, e⟩
  · rw [pl, put17_at, pl_cong e]
  · show Gb (S1 8) (S1 10) = _
    rw [hm.1, hm.2.1]
    rfl
theorem cl_back {S : Mem} {n r : Nat} {y v : Int} {S1 S3 : Mem} (h : clI S n r y S1) (hn : 1 ≤ n) (hy : y < 8) (hr : n + 1 + r ≤ 5) (h1 : 0 < S 8 (ix (pth S ((n : Int) - 1)) y) - S 10 (ix (pth S ((n : Int) - 1)) y)) (h2 : anyI (fun k => decide (pth S k = y)) n = false) (hp : clP (put17 S1 (2 + n) y) (n + 1) r v S3) : (v = 0 → clI S n r (y + 1) S3) ∧ (v ≠ 0 → clP S n (r + 1) 1 S3) := by
  have hs := cl_set h hn
  have hgo := clF_go (r := r) hn h1 h2
  obtain ⟨h, e1, e2, e3, e4, e5⟩ := h
  obtain ⟨h3, f1, f2, f3⟩ := hp
  rw [hs.1, hs.2.1, hs.2.2.1] at f3
  have hS3 : S3 = mput S 17 h3 := by
    rw [f1, e1]
    unfold put17
    rw [mput_mput, mput_mput]
  have hag : agr S (2 + n) h3 := by
    intro x hx
    have g1 : (put17 S1 (2 + n) y) 17 x = S 17 x := by
      subst e1
      show up h (rix (S 15 1) (2 + n)) y x = _
      have : x ≠ rix (S 15 1) (2 + n) := fun q => hx (by
        unfold rix at q ⊢
        omega)
      rw [up_ne this]
      exact e2 x hx
    rw [← g1]
    refine f2 x (fun q => hx ?_)
    have g2 : (put17 S1 (2 + n) y) 15 1 = S 15 1 := by subst e1; rfl
    rw [g2] at q
    unfold rix at q ⊢
    omega
  constructor
  · intro v0
    refine ⟨h3, hS3, hag, by omega, by omega, ?_⟩
    rw [← e5, show (8 - y).toNat = (8 - (y + 1)).toNat + 1 by omega, scan_none]
    rw [hgo]
    rcases f3 with q | q
    · omega
    · exact q.2
  · intro v0
    refine ⟨h3, hS3, hag, Or.inl ⟨rfl, ?_⟩⟩
    rw [← e5, show (8 - y).toNat = (8 - (y + 1)).toNat + 1 by omega]
    rcases f3 with q | q
    · rw [scan_some (hgo.trans q.2), show n + (r + 1) = n + 1 + r by omega]
    · omega
theorem cl_end {S : Mem} {n r : Nat} {S1 : Mem} (h : clI S n r 8 S1) : clP S n (r + 1) 0 S1 := by
  obtain ⟨h, e1, e2, e3, e4, e5⟩ := h
  exact ⟨h, e1, e2, Or.inr ⟨rfl, e5.symm⟩⟩
/-! the search over all lengths and first shops -/
def fiZ (S : Mem) (z : Int) : Option (List Int) := scan (fun a => dfs (GS S) a (z - 1).toNat [a]) 0 8
def fiI (S : Mem) (z : Int) (S1 : Mem) : Prop := ∃ h : Fn, S1 = mput S 17 h ∧ agr S 0 h ∧ 2 ≤ z ∧ z ≤ 6 ∧ scan (fiZ S) z (6 - z).toNat = fnd (GS S)
def fjI (S : Mem) (z y : Int) (S1 : Mem) : Prop := ∃ h : Fn, S1 = mput S 17 h ∧ agr S 0 h ∧ h (rix (S 15 1) 0) = z ∧ 0 ≤ y ∧ y ≤ 8 ∧ 2 ≤ z ∧ z ≤ 5 ∧ scan (fun a => dfs (GS S) a (z - 1).toNat [a]) y (8 - y).toNat = fiZ S z ∧ scan (fiZ S) z (6 - z).toNat = fnd (GS S)
def fiP (S : Mem) (v : Int) (S' : Mem) : Prop := ∃ h : Fn, S' = mput S 17 h ∧ agr S 0 h ∧ ((v = 1 ∧ ∃ n : Nat, fnd (GS S) = some (pl (pth S') n) ∧ S' 17 (rix (S 15 1) 0) = n) ∨ (v = 0 ∧ fnd (GS S) = none))
theorem fiI_0 (S : Mem) : fiI S 2 S := ⟨S 17, (mput_self S 17).symm, fun x _ => rfl, by omega, by omega, rfl⟩
theorem fiI_mem {S : Mem} {z : Int} {S1 : Mem} (h : fiI S z S1) : S1 8 = S 8 ∧ S1 10 = S 10 ∧ S1 15 = S 15 := by
  obtain ⟨h, rfl, -⟩ := h
  exact ⟨rfl, rfl, rfl⟩
theorem fjI_mem {S : Mem} {z y : Int} {S1 : Mem} (h : fjI S z y S1) : S1 8 = S 8 ∧ S1 10 = S 10 ∧ S1 15 = S 15 := by
  obtain ⟨h, rfl, -⟩ := h
  exact ⟨rfl, rfl, rfl⟩
theorem fjI_0 {S : Mem} {z : Int} {S1 : Mem} (h : fiI S z S1) (hz : z ≤ 5) : fjI S z 0 (put17 S1 0 z) := by
  obtain ⟨h, rfl, e2, e3, e4, e5⟩ := h
  refine ⟨up h (rix (S 15 1) 0) z, ?_, fun x hx => ?_, up_same _ _ _, Int.le_refl 0, by omega, e3, hz, rfl, e5⟩
  · show mput (mput S 17 h) 17 _ = _
    rw [mput_mput]
    rfl
  · rw [up_ne (fun q => hx (by unfold rix at q ⊢; omega))]
    exact e2 x hx
theorem fj_back {S : Mem} {z y v : Int} {S1 S3 : Mem} (h : fjI S z y S1) (hy : y < 8) (hp : clP (put17 S1 (2 + 0) y) 1 (z - 1).toNat v S3) : (v = 0 → fjI S z (y + 1) S3) ∧ (v ≠ 0 → fiP S 1 S3) := by
  obtain ⟨h, rfl, e2, e3, e4, e5, e6, e7, e8, e9⟩ := h
  obtain ⟨h3, rfl, f2, f3⟩ := hp
  have p0 : pth (put17 (mput S 17 h) (2 + 0) y) 0 = y := put17_at
  have p1 : pl (pth (put17 (mput S 17 h) (2 + 0) y)) 1 = [y] := by
    show [pth (put17 (mput S 17 h) (2 + 0) y) ((0 : Nat) : Int)] = [y]
    exact congrArg (fun q => [q]) p0
  have p2 : GS (put17 (mput S 17 h) (2 + 0) y) = GS S := rfl
  rw [p0, p1, p2] at f3
  have hS3 : mput (put17 (mput S 17 h) (2 + 0) y) 17 h3 = mput S 17 h3 := by
    unfold put17
    rw [mput_mput, mput_mput]
  have hag : agr S 0 h3 := by
    intro x hx
    have g1 : (put17 (mput S 17 h) (2 + 0) y) 17 x = S 17 x := by
      show up h (rix (S 15 1) (2 + 0)) y x = _
      rw [up_ne (fun q => hx (by unfold rix at q ⊢; omega))]
      exact e2 x hx
    rw [← g1]
    refine f2 x (fun q => hx ?_)
    have g2 : (put17 (mput S 17 h) (2 + 0) y) 15 1 = S 15 1 := rfl
    rw [g2] at q
    unfold rix at q ⊢
    omega
  have hz0 : h3 (rix (S 15 1) 0) = z := by
    have g1 : (put17 (mput S 17 h) (2 + 0) y) 17 (rix (S 15 1) 0) = z := by
      show up h (rix (S 15 1) (2 + 0)) y (rix (S 15 1) 0) = _
      rw [up_ne (by unfold rix; omega)]
      exact e3
    rw [← g1]
    refine f2 _ (fun q => ?_)
    have g2 : (put17 (mput S 17 h) (2 + 0) y) 15 1 = S 15 1 := rfl
    rw [g2] at q
    unfold rix at q
    omega
  have hsc : (8 - y).toNat = (8 - (y + 1)).toNat + 1 := by omega
  rw [hS3] at f3 ⊢
  constructor
  · intro v0
    refine ⟨h3, rfl, hag, hz0, by omega, by omega, e6, e7, ?_, e9⟩
    rw [← e8, hsc, scan_none]
    rcases f3 with q | q
    · omega
    · exact q.2
  · intro v0
    refine ⟨h3, rfl, hag, Or.inl ⟨rfl, 1 + (z - 1).toNat, ?_, ?_⟩⟩
    · rw [← e9, show (6 - z).toNat = (5 - z).toNat + 1 by omega]
      apply scan_some
      rw [← e8, hsc]
      rcases f3 with q | q
      · exact scan_some q.2
      · omega
    · show h3 (rix (S 15 1) 0) = _
      rw [hz0]
      omega
theorem fi_next {S : Mem} {z : Int} {S1 : Mem} (h : fjI S z 8 S1) : fiI S (z + 1) S1 := by
  obtain ⟨h, e1, e2, e3, e4, e5, e6, e7, e8, e9⟩ := h
  refine ⟨h, e1, e2, by omega, by omega, ?_⟩
  rw [← e9, show (6 - z).toNat = (6 - (z + 1)).toNat + 1 by omega]
  exact (scan_none e8.symm).symm
theorem fi_end {S : Mem} {S1 : Mem} (h : fiI S 6 S1) : fiP S 0 S1 := by
  obtain ⟨h, e1, e2, e3, e4, e5⟩ := h
  exact ⟨h, e1, e2, Or.inr ⟨rfl, e5.symm⟩⟩
theorem anyI_cong {p q : Int → Bool} : ∀ {n : Nat}, (∀ k : Int, 0 ≤ k → k < n → p k = q k) → anyI p n = anyI q n
  | 0, _ => rfl
  | n + 1, h => by rw [anyI, anyI, anyI_cong (n := n) (fun k a b => h k a (by omega)), h n (by omega) (by omega)]
theorem cl_rng {S : Mem} {n r : Nat} {y : Int} {S1 : Mem} (h : clI S n r y S1) (hn : 1 ≤ n) (hp : ∀ k : Int, 0 ≤ k → k < n → 0 ≤ pth S k ∧ pth S k < 8) (hy : 0 ≤ y ∧ y < 8) : ∀ k : Int, 0 ≤ k → k < ((n + 1 : Nat) : Int) → 0 ≤ pth (put17 S1 (2 + n) y) k ∧ pth (put17 S1 (2 + n) y) k < 8 := by
  intro k k0 k1
  by_cases q : k < n
  · rw [(cl_set h hn).2.2.2 k k0 q]
    exact hp k k0 q
  · rw [show k = (n : Int) by omega, put17_at]
    exact hy
end
section
/-! ===== rings: the search ===== -/
theorem c_get16 {g : mG} {S : Mem} {c k : Int} (hc : 0 ≤ c ∧ c < 57) (hk : 0 ≤ k ∧ k < 7) (l : Launch) : Does l yX2_get wsX2_get ({ frames := 1, cells := 0, slots := 0, locals := 23 } : Room) g [.ref (g.2.2 16), .int (z32 c), .int (z32 k)] S (PI (S 17 (rix c k)) S) := by
  rw [← tg_rix (f := S 17) hc hk]
  exact c_X2_get T16 (by omega) (by omega) l
theorem c_set16 {g : mG} {S : Mem} {v : Int} {c k : Int} (hc : 0 ≤ c ∧ c < 57) (hk : 0 ≤ k ∧ k < 7) (l : Launch) : Does l yX2_set wsX2_set ({ frames := 1, cells := 0, slots := 0, locals := 23 } : Room) g [.ref (g.2.2 16), .int (z32 c), .int (z32 k), .int (z32 v)] S (PV (mput S 17 (up (S 17) (rix c k) v))) := by
  rw [← ts_rix hc hk]
  exact c_X2_set T16 (by omega) (by omega) l
theorem iX1_size_1 : ∀ w ∈ wsX10, w ∈ wsX1_size := by decide +kernel
theorem fX1_size_20 : Cond.fieldLink RX1 20 "Mutualledger$Rings" "count" "I" ∈ wsX1_size := by decide +kernel
set_option maxHeartbeats 4000000 in
set_option maxRecDepth 100000 in
theorem c_X1_size {g : mG} {S : Mem} (l : Launch) : Does l yX1_size wsX1_size ({ frames := 0, cells := 0, slots := 0, locals := 0 } : Room) g [.ref (g.2.2 15)] S (PI (S 15 1) S) := by
  refine Does.of (cc := cX1_size) (maxL := 1) (ret := (some .int)) (own := RX1) (by decide) rfl rfl (Nat.le_of_ble_eq_true rfl) ?_
  intro C hC hR
  show MW C g 1 (0, 0) 0 [(0, .ref (g.2.2 15))] [] S
  refine m_aload_n hC dX1_size_0 0 rfl ?_
  refine m_getI (o := 15) (j := 1) (ji := 1) (CN := RX1) (T := TX1) (N := 2) hC iX1_size_1 fX1_size_20 rfl dX1_size_1 rfl rfl (by decide) rfl rfl ?_
  refine m_ireti hC hR (Or.inl rfl) dX1_size_4 ⟨Nat.le_of_ble_eq_true rfl, Nat.le_of_ble_eq_true rfl⟩ ?_ ?_
  · first | rfl | omega
  · rfl
theorem iX1_of_1 : ∀ w ∈ wsX10, w ∈ wsX1_of := by decide +kernel
theorem fX1_of_16 : Cond.fieldLink RX1 16 "Mutualledger$Rings" "rows" "LMutualledger$Table;" ∈ wsX1_of := by decide +kernel
set_option maxHeartbeats 4000000 in
set_option maxRecDepth 100000 in
theorem c_X1_of {g : mG} {S : Mem} {r w : Int} (hr : -2147483648 ≤ r ∧ r < 2147483648) (hw : -2147483648 ≤ w ∧ w < 2147483648) (l : Launch) : Does l yX1_of wsX1_of ({ frames := 2, cells := 0, slots := 0, locals := 46 } : Room) g [.ref (g.2.2 15), .int (z32 r), .int (z32 w)] S (PI (tg 57 7 (S 17) r w) S) := by
  refine Does.of (cc := cX1_of) (maxL := 3) (ret := (some .int)) (own := RX1) (by decide) rfl rfl (Nat.le_of_ble_eq_true rfl) ?_
  intro C hC hR
  show MW C g 3 (0, 0) 0 [(0, .ref (g.2.2 15)), (1, .int (z32 r)), (2, .int (z32 w))] [] S
  refine m_aload_n hC dX1_of_0 0 rfl ?_
  refine m_getR (o := 15) (j := 0) (a := 16) (CN := RX1) (T := TX1) (N := 2) hC iX1_of_1 fX1_of_16 rfl dX1_of_1 rfl rfl (by decide) rfl ?_
  refine m_iload_n hC dX1_of_4 1 rfl ?_
  refine m_iload_n hC dX1_of_5 2 rfl ?_
  refine m_callVi (n := 2) hC (c_X2_get T16 hr hw) gX1_of_X2_get rfl dX1_of_6 rfl rfl (by decide +kernel) ⟨Nat.le_of_ble_eq_true rfl, Nat.le_of_ble_eq_true rfl⟩ rfl (Nat.le_of_ble_eq_true rfl) ⟨Nat.le_of_ble_eq_true rfl, Nat.le_of_ble_eq_true rfl⟩ rfl ?_
  refine m_ireti hC hR (Or.inl rfl) dX1_of_9 ⟨Nat.le_of_ble_eq_true rfl, Nat.le_of_ble_eq_true rfl⟩ ?_ ?_
  · first | rfl | omega
  · rfl
theorem iX1_shopAt_1 : ∀ w ∈ wsX10, w ∈ wsX1_shopAt := by decide +kernel
theorem fX1_shopAt_16 : Cond.fieldLink RX1 16 "Mutualledger$Rings" "rows" "LMutualledger$Table;" ∈ wsX1_shopAt := by decide +kernel
theorem fX1_shopAt_20 : Cond.fieldLink RX1 20 "Mutualledger$Rings" "count" "I" ∈ wsX1_shopAt := by decide +kernel
set_option maxHeartbeats 4000000 in
set_option maxRecDepth 100000 in
theorem c_X1_shopAt {g : mG} {S : Mem} (hc : 0 ≤ S 15 1 ∧ S 15 1 < 57) {p : Int} (hp : 0 ≤ p ∧ p < 5) (l : Launch) : Does l yX1_shopAt wsX1_shopAt ({ frames := 2, cells := 0, slots := 0, locals := 46 } : Room) g [.ref (g.2.2 15), .int (z32 p)] S (PI (pth S p) S) := by
  refine Does.of (cc := cX1_shopAt) (maxL := 2) (ret := (some .int)) (own := RX1) (by decide) rfl rfl (Nat.le_of_ble_eq_true rfl) ?_
  intro C hC hR
  show MW C g 2 (0, 0) 0 [(0, .ref (g.2.2 15)), (1, .int (z32 p))] [] S
  refine m_aload_n hC dX1_shopAt_0 0 rfl ?_
  refine m_getR (o := 15) (j := 0) (a := 16) (CN := RX1) (T := TX1) (N := 2) hC iX1_shopAt_1 fX1_shopAt_16 rfl dX1_shopAt_1 rfl rfl (by decide) rfl ?_
  refine m_aload_n hC dX1_shopAt_4 0 rfl ?_
  refine m_getI (o := 15) (j := 1) (ji := 1) (CN := RX1) (T := TX1) (N := 2) hC iX1_shopAt_1 fX1_shopAt_20 rfl dX1_shopAt_5 rfl rfl (by decide) rfl rfl ?_
  refine m_iconst (v := 2) hC dX1_shopAt_8 (by decide) ?_
  refine m_iload_n hC dX1_shopAt_9 1 rfl ?_
  refine m_iadd hC dX1_shopAt_10 ?_
  refine m_callVi (n := 2) hC (c_get16 hc (by omega)) gX1_shopAt_X2_get rfl dX1_shopAt_11 rfl rfl (by decide +kernel) ⟨Nat.le_of_ble_eq_true rfl, Nat.le_of_ble_eq_true rfl⟩ rfl (Nat.le_of_ble_eq_true rfl) ⟨Nat.le_of_ble_eq_true rfl, Nat.le_of_ble_eq_true rfl⟩ rfl ?_
  refine m_ireti hC hR (Or.inl rfl) dX1_shopAt_14 ⟨Nat.le_of_ble_eq_true rfl, Nat.le_of_ble_eq_true rfl⟩ ?_ ?_
  · first | rfl | omega
  · rfl
theorem iX1_setShopAt_1 : ∀ w ∈ wsX10, w ∈ wsX1_setShopAt := by decide +kernel
theorem fX1_setShopAt_16 : Cond.fieldLink RX1 16 "Mutualledger$Rings" "rows" "LMutualledger$Table;" ∈ wsX1_setShopAt := by decide +kernel
theorem fX1_setShopAt_20 : Cond.fieldLink RX1 20 "Mutualledger$Rings" "count" "I" ∈ wsX1_setShopAt := by decide +kernel
set_option maxHeartbeats 4000000 in
set_option maxRecDepth 100000 in
theorem c_X1_setShopAt {g : mG} {S : Mem} (hc : 0 ≤ S 15 1 ∧ S 15 1 < 57) {p v : Int} (hp : 0 ≤ p ∧ p < 5) (l : Launch) : Does l yX1_setShopAt wsX1_setShopAt ({ frames := 2, cells := 0, slots := 0, locals := 47 } : Room) g [.ref (g.2.2 15), .int (z32 p), .int (z32 v)] S (PV (put17 S (2 + p) v)) := by
  refine Does.of (cc := cX1_setShopAt) (maxL := 3) (ret := none) (own := RX1) (by decide) rfl rfl (Nat.le_of_ble_eq_true rfl) ?_
  intro C hC hR
  show MW C g 3 (0, 0) 0 [(0, .ref (g.2.2 15)), (1, .int (z32 p)), (2, .int (z32 v))] [] S
  refine m_aload_n hC dX1_setShopAt_0 0 rfl ?_
  refine m_getR (o := 15) (j := 0) (a := 16) (CN := RX1) (T := TX1) (N := 2) hC iX1_setShopAt_1 fX1_setShopAt_16 rfl dX1_setShopAt_1 rfl rfl (by decide) rfl ?_
  refine m_aload_n hC dX1_setShopAt_4 0 rfl ?_
  refine m_getI (o := 15) (j := 1) (ji := 1) (CN := RX1) (T := TX1) (N := 2) hC iX1_setShopAt_1 fX1_setShopAt_20 rfl dX1_setShopAt_5 rfl rfl (by decide) rfl rfl ?_
  refine m_iconst (v := 2) hC dX1_setShopAt_8 (by decide) ?_
  refine m_iload_n hC dX1_setShopAt_9 1 rfl ?_
  refine m_iadd hC dX1_setShopAt_10 ?_
  refine m_iload_n hC dX1_setShopAt_11 2 rfl ?_
  refine m_callVv (n := 3) hC (c_set16 hc (by omega)) gX1_setShopAt_X2_set rfl dX1_setShopAt_12 rfl rfl (by decide +kernel) ⟨Nat.le_of_ble_eq_true rfl, Nat.le_of_ble_eq_true rfl⟩ rfl (Nat.le_of_ble_eq_true rfl) ⟨Nat.le_of_ble_eq_true rfl, Nat.le_of_ble_eq_true rfl⟩ rfl ?_
  refine m_vretv hC hR dX1_setShopAt_15 ⟨Nat.le_of_ble_eq_true rfl, Nat.le_of_ble_eq_true rfl⟩ ?_
  rfl
theorem iX1_isSet_1 : ∀ w ∈ wsX10, w ∈ wsX1_isSet := by decide +kernel
theorem fX1_isSet_16 : Cond.fieldLink RX1 16 "Mutualledger$Rings" "rows" "LMutualledger$Table;" ∈ wsX1_isSet := by decide +kernel
theorem fX1_isSet_20 : Cond.fieldLink RX1 20 "Mutualledger$Rings" "count" "I" ∈ wsX1_isSet := by decide +kernel
set_option maxHeartbeats 4000000 in
set_option maxRecDepth 100000 in
theorem c_X1_isSet {g : mG} {S : Mem} (hc : 0 ≤ S 15 1 ∧ S 15 1 < 57) {n : Nat} {y len : Int} (hl : len = n) (hn : n ≤ 5) (hy : -2147483648 ≤ y ∧ y < 2147483648) (hr : ∀ k : Int, 0 ≤ k → k < n → -10 ≤ pth S k ∧ pth S k ≤ 10) (l : Launch) : Does l yX1_isSet wsX1_isSet ({ frames := 2, cells := 0, slots := 0, locals := 46 } : Room) g [.ref (g.2.2 15), .int (z32 y), .int (z32 len)] S (PI (bI (anyI (fun k => decide (pth S k = y)) n)) S) := by
  refine Does.of (cc := cX1_isSet) (maxL := 4) (ret := (some .boolean)) (own := RX1) (by decide) rfl rfl (Nat.le_of_ble_eq_true rfl) ?_
  intro C hC hR
  show MW C g 4 (0, 0) 0 [(0, .ref (g.2.2 15)), (1, .int (z32 y)), (2, .int (z32 len))] [] S
  refine m_iconst (v := 0) hC dX1_isSet_0 (by decide) ?_
  refine m_istore_n hC dX1_isSet_1 (fun z9 => [(3, .int (z32 z9)), (0, .ref (g.2.2 15)), (1, .int (z32 y)), (2, .int (z32 len))]) (by decide) (fun _ => rfl) (fun v3_1 hv3_1 => ?_)
  have L2 : ∀ (n2 : Nat) (i : Nat) (x : Int), len - x < (n2 : Int) → x = (i : Int) → i ≤ n → anyI (fun k => decide (pth S k = y)) i = false → MW C g 4 (0, 0) 2 [(0, .ref (g.2.2 15)), (1, .int (z32 y)), (2, .int (z32 len)), (3, .int (z32 x))] [] S := by
    intro n2
    induction n2 with
    | zero => intros; exfalso; omega
    | succ n2 ih2 =>
      intro i x hm2 hx hi hno
      refine m_iload_n hC dX1_isSet_2 3 rfl ?_
      refine m_iload_n hC dX1_isSet_3 2 rfl ?_
      refine m_icmp_ge (tgt := 33) hC dX1_isSet_4 (by decide) (by omega) (by omega) (fun c_4 => ?_) (fun c_4 => ?_)
      · refine m_iconst (v := 0) hC dX1_isSet_33 (by decide) ?_
        refine m_ireti hC hR (Or.inr ⟨rfl, Or.inl rfl⟩) dX1_isSet_34 ⟨Nat.le_of_ble_eq_true rfl, Nat.le_of_ble_eq_true rfl⟩ ?_ ?_
        · rw [show n = i by omega, hno]; rfl
        · rfl
      · refine m_aload_n hC dX1_isSet_7 0 rfl ?_
        refine m_getR (o := 15) (j := 0) (a := 16) (CN := RX1) (T := TX1) (N := 2) hC iX1_isSet_1 fX1_isSet_16 rfl dX1_isSet_8 rfl rfl (by decide) rfl ?_
        refine m_aload_n hC dX1_isSet_11 0 rfl ?_
        refine m_getI (o := 15) (j := 1) (ji := 1) (CN := RX1) (T := TX1) (N := 2) hC iX1_isSet_1 fX1_isSet_20 rfl dX1_isSet_12 rfl rfl (by decide) rfl rfl ?_
        refine m_iconst (v := 2) hC dX1_isSet_15 (by decide) ?_
        refine m_iload_n hC dX1_isSet_16 3 rfl ?_
        refine m_iadd hC dX1_isSet_17 ?_
        refine m_callVi (n := 2) hC (c_get16 hc (by omega)) gX1_isSet_X2_get rfl dX1_isSet_18 rfl rfl (by decide +kernel) ⟨Nat.le_of_ble_eq_true rfl, Nat.le_of_ble_eq_true rfl⟩ rfl (Nat.le_of_ble_eq_true rfl) ⟨Nat.le_of_ble_eq_true rfl, Nat.le_of_ble_eq_true rfl⟩ rfl ?_
        refine m_iload_n hC dX1_isSet_21 1 rfl ?_
        refine m_icmp_ne (tgt := 27) hC dX1_isSet_22 (by decide) (by have h9 := hr x (by omega) (by omega); unfold pth at h9; omega) (by omega) (fun c_22 => ?_) (fun c_22 => ?_)
        · refine m_iinc hC dX1_isSet_27 3 rfl (fun z9 => [(3, .int (z32 z9)), (0, .ref (g.2.2 15)), (1, .int (z32 y)), (2, .int (z32 len))]) (by decide) (fun _ => rfl) (fun v3_27 hv3_27 => ?_)
          refine m_goto (tgt := 2) hC dX1_isSet_30 (by decide) ?_
          refine m_locals [1, 2, 3, 0] rfl ?_
          exact ih2 (i + 1) v3_27 (by omega) (by omega) (by omega) (by rw [anyI, hno, Bool.false_or, ← hx]; exact decide_eq_false c_22)
        · refine m_iconst (v := 1) hC dX1_isSet_25 (by decide) ?_
          refine m_ireti hC hR (Or.inr ⟨rfl, Or.inr rfl⟩) dX1_isSet_26 ⟨Nat.le_of_ble_eq_true rfl, Nat.le_of_ble_eq_true rfl⟩ ?_ ?_
          · rw [anyI_yes (i := i) (by rw [← hx]; exact decide_eq_true (Decidable.of_not_not c_22)) (by omega)]; rfl
          · rfl
  refine m_locals [1, 2, 3, 0] rfl ?_
  exact L2 6 0 v3_1 (by omega) (by omega) (by omega) (rfl)
set_option maxHeartbeats 4000000 in
set_option maxRecDepth 100000 in
theorem c_closes_0 {g : mG} {S : Mem} (hc : 0 ≤ S 15 1 ∧ S 15 1 < 57) {n : Nat} {z len : Int} (hl : len = n) (hz : z = (n : Int) + 0) (hn : 1 ≤ n) (h5 : n + 0 ≤ 5) (hp : ∀ k : Int, 0 ≤ k → k < n → 0 ≤ pth S k ∧ pth S k < 8) (hok : Ok (S 8)) (hf : Fz (S 8) (S 10)) (l : Launch) : Does l yX1_closes wsX1_closes ({ frames := 3, cells := 0, slots := 0, locals := 68 } : Room) g [.ref (g.2.2 15), .ref (g.2.2 6), .int (z32 z), .int (z32 len)] S (PIx (fun v S' => clP S n 0 v S')) := by
  refine Does.of (cc := cX1_closes) (maxL := 7) (ret := (some .boolean)) (own := RX1) (by decide) rfl rfl (Nat.le_of_ble_eq_true rfl) ?_
  intro C hC hR
  show MW C g 7 (0, 0) 0 [(0, .ref (g.2.2 15)), (1, .ref (g.2.2 6)), (2, .int (z32 z)), (3, .int (z32 len))] [] S
  have hO := opnOk_of hok hf
  have hp0 := hp 0 (by omega) (by omega)
  have hpl := hp (len - 1) (by omega) (by omega)
  refine m_aload_n hC dX1_closes_0 0 rfl ?_
  refine m_iconst (v := 0) hC dX1_closes_1 (by decide) ?_
  refine m_callVi (n := 1) hC (c_X1_shopAt hc (by omega)) gX1_closes_X1_shopAt rfl dX1_closes_2 rfl rfl (by decide +kernel) ⟨Nat.le_of_ble_eq_true rfl, Nat.le_of_ble_eq_true rfl⟩ rfl (Nat.le_of_ble_eq_true rfl) ⟨Nat.le_of_ble_eq_true rfl, Nat.le_of_ble_eq_true rfl⟩ rfl ?_
  refine m_istore hC dX1_closes_5 (fun z9 => [(4, .int (z32 z9)), (0, .ref (g.2.2 15)), (1, .ref (g.2.2 6)), (2, .int (z32 z)), (3, .int (z32 len))]) (by decide) (fun _ => rfl) (fun v4_5 hv4_5 => ?_)
  refine m_aload_n hC dX1_closes_7 1 rfl ?_
  refine m_iload_n hC dX1_closes_8 4 rfl ?_
  refine m_iconst (v := 1) hC dX1_closes_9 (by decide) ?_
  refine m_isub hC dX1_closes_10 ?_
  refine m_callVi (n := 1) hC (c_X1_shopAt hc (by omega)) gX1_closes_X1_shopAt rfl dX1_closes_11 rfl rfl (by decide +kernel) ⟨Nat.le_of_ble_eq_true rfl, Nat.le_of_ble_eq_true rfl⟩ rfl (Nat.le_of_ble_eq_true rfl) ⟨Nat.le_of_ble_eq_true rfl, Nat.le_of_ble_eq_true rfl⟩ rfl ?_
  refine m_istore hC dX1_closes_14 (fun z9 => [(5, .int (z32 z9)), (4, .int (z32 v4_5)), (0, .ref (g.2.2 15)), (1, .ref (g.2.2 6)), (2, .int (z32 z)), (3, .int (z32 len))]) (by decide) (fun _ => rfl) (fun v5_14 hv5_14 => ?_)
  refine m_iload_n hC dX1_closes_16 5 rfl ?_
  refine m_iload_n hC dX1_closes_17 4 rfl ?_
  refine m_icmp_ge (tgt := 26) hC dX1_closes_18 (by decide) (by omega) (by omega) (fun c_18 => ?_) (fun c_18 => ?_)
  · refine m_aload_n hC dX1_closes_26 3 rfl ?_
    refine m_iload hC dX1_closes_27 0 rfl ?_
    refine m_iload hC dX1_closes_29 1 rfl ?_
    refine m_callVi (n := 2) hC (c_open9 (by omega) (by omega)) gX1_closes_X0_open rfl dX1_closes_31 rfl rfl (by decide +kernel) ⟨Nat.le_of_ble_eq_true rfl, Nat.le_of_ble_eq_true rfl⟩ rfl (Nat.le_of_ble_eq_true rfl) ⟨Nat.le_of_ble_eq_true rfl, Nat.le_of_ble_eq_true rfl⟩ rfl ?_
    refine m_if_le (tgt := 41) hC dX1_closes_34 (by decide) (by have h9 := hO v5_14 v4_5; rw [opn_ix (by omega) (by omega)] at h9; exact h9) (fun c_34 => ?_) (fun c_34 => ?_)
    · refine m_iconst (v := 0) hC dX1_closes_41 (by decide) ?_
      refine m_iretx hC hR (Or.inr ⟨rfl, by first | exact Or.inl rfl | exact Or.inr rfl | omega⟩) dX1_closes_42 ⟨Nat.le_of_ble_eq_true rfl, Nat.le_of_ble_eq_true rfl⟩ ?_
      exact clP_0 hn (by rw [← hl, ← hv5_14, ← hv4_5]; first | rw [if_pos (by omega)] | rw [if_neg (by omega)])
    · refine m_iconst (v := 1) hC dX1_closes_37 (by decide) ?_
      refine m_goto (tgt := 42) hC dX1_closes_38 (by decide) ?_
      refine m_iretx hC hR (Or.inr ⟨rfl, by first | exact Or.inl rfl | exact Or.inr rfl | omega⟩) dX1_closes_42 ⟨Nat.le_of_ble_eq_true rfl, Nat.le_of_ble_eq_true rfl⟩ ?_
      exact clP_0 hn (by rw [← hl, ← hv5_14, ← hv4_5]; first | rw [if_pos (by omega)] | rw [if_neg (by omega)])
  · exfalso; omega
set_option maxHeartbeats 4000000 in
set_option maxRecDepth 100000 in
theorem c_closes_1 {g : mG} {S : Mem} (hc : 0 ≤ S 15 1 ∧ S 15 1 < 57) {n : Nat} {z len : Int} (hl : len = n) (hz : z = (n : Int) + 1) (hn : 1 ≤ n) (h5 : n + 1 ≤ 5) (hp : ∀ k : Int, 0 ≤ k → k < n → 0 ≤ pth S k ∧ pth S k < 8) (hok : Ok (S 8)) (hf : Fz (S 8) (S 10)) (l : Launch) : Does l yX1_closes wsX1_closes ({ frames := 4, cells := 0, slots := 0, locals := 94 } : Room) g [.ref (g.2.2 15), .ref (g.2.2 6), .int (z32 z), .int (z32 len)] S (PIx (fun v S' => clP S n 1 v S')) := by
  refine Does.of (cc := cX1_closes) (maxL := 7) (ret := (some .boolean)) (own := RX1) (by decide) rfl rfl (Nat.le_of_ble_eq_true rfl) ?_
  intro C hC hR
  show MW C g 7 (0, 0) 0 [(0, .ref (g.2.2 15)), (1, .ref (g.2.2 6)), (2, .int (z32 z)), (3, .int (z32 len))] [] S
  have hO := opnOk_of hok hf
  have hp0 := hp 0 (by omega) (by omega)
  have hpl := hp (len - 1) (by omega) (by omega)
  refine m_aload_n hC dX1_closes_0 0 rfl ?_
  refine m_iconst (v := 0) hC dX1_closes_1 (by decide) ?_
  refine m_callVi (n := 1) hC (c_X1_shopAt hc (by omega)) gX1_closes_X1_shopAt rfl dX1_closes_2 rfl rfl (by decide +kernel) ⟨Nat.le_of_ble_eq_true rfl, Nat.le_of_ble_eq_true rfl⟩ rfl (Nat.le_of_ble_eq_true rfl) ⟨Nat.le_of_ble_eq_true rfl, Nat.le_of_ble_eq_true rfl⟩ rfl ?_
  refine m_istore hC dX1_closes_5 (fun z9 => [(4, .int (z32 z9)), (0, .ref (g.2.2 15)), (1, .ref (g.2.2 6)), (2, .int (z32 z)), (3, .int (z32 len))]) (by decide) (fun _ => rfl) (fun v4_5 hv4_5 => ?_)
  refine m_aload_n hC dX1_closes_7 1 rfl ?_
  refine m_iload_n hC dX1_closes_8 4 rfl ?_
  refine m_iconst (v := 1) hC dX1_closes_9 (by decide) ?_
  refine m_isub hC dX1_closes_10 ?_
  refine m_callVi (n := 1) hC (c_X1_shopAt hc (by omega)) gX1_closes_X1_shopAt rfl dX1_closes_11 rfl rfl (by decide +kernel) ⟨Nat.le_of_ble_eq_true rfl, Nat.le_of_ble_eq_true rfl⟩ rfl (Nat.le_of_ble_eq_true rfl) ⟨Nat.le_of_ble_eq_true rfl, Nat.le_of_ble_eq_true rfl⟩ rfl ?_
  refine m_istore hC dX1_closes_14 (fun z9 => [(5, .int (z32 z9)), (4, .int (z32 v4_5)), (0, .ref (g.2.2 15)), (1, .ref (g.2.2 6)), (2, .int (z32 z)), (3, .int (z32 len))]) (by decide) (fun _ => rfl) (fun v5_14 hv5_14 => ?_)
  refine m_iload_n hC dX1_closes_16 5 rfl ?_
  refine m_iload_n hC dX1_closes_17 4 rfl ?_
  refine m_icmp_ge (tgt := 26) hC dX1_closes_18 (by decide) (by omega) (by omega) (fun c_18 => ?_) (fun c_18 => ?_)
  · exfalso; omega
  · refine m_iload_n hC dX1_closes_21 5 rfl ?_
    refine m_iconst (v := 5) hC dX1_closes_22 (by decide) ?_
    refine m_icmp_lt (tgt := 43) hC dX1_closes_23 (by decide) (by omega) (by omega) (fun c_23 => ?_) (fun c_23 => ?_)
    · refine m_iload hC dX1_closes_43 1 rfl ?_
      refine m_iconst (v := 1) hC dX1_closes_45 (by decide) ?_
      refine m_iadd hC dX1_closes_46 ?_
      refine m_istore hC dX1_closes_47 (fun z9 => [(6, .int (z32 z9)), (5, .int (z32 v5_14)), (4, .int (z32 v4_5)), (0, .ref (g.2.2 15)), (1, .ref (g.2.2 6)), (2, .int (z32 z)), (3, .int (z32 len))]) (by decide) (fun _ => rfl) (fun v6_47 hv6_47 => ?_)
      have L49 : ∀ (n49 : Nat) (y : Int) (S1 : Mem), 8 - y < (n49 : Int) → clI S n 0 y S1 → v4_5 + 1 ≤ y → y ≤ 8 → MW C g 7 (0, 0) 49 [(0, .ref (g.2.2 15)), (1, .ref (g.2.2 6)), (2, .int (z32 z)), (3, .int (z32 len)), (4, .int (z32 v4_5)), (5, .int (z32 v5_14)), (6, .int (z32 y))] [] S1 := by
        intro n49
        induction n49 with
        | zero => intros; exfalso; omega
        | succ n49 ih49 =>
          intro y S1 hm49 hI hy1 hy2
          have hm := clI_mem hI
          have hA : anyI (fun k => decide (pth S1 k = y)) n = anyI (fun k => decide (pth S k = y)) n := anyI_cong (fun k k0 k1 => by rw [hm.2.2.2.2.2 k k0 k1])
          have hc1 : 0 ≤ S1 15 1 ∧ S1 15 1 < 57 := by rw [hm.2.2.1]; exact hc
          have hst := cl_set hI hn
          refine m_iload hC dX1_closes_49 6 rfl ?_
          refine m_bipush (v := 8) hC dX1_closes_51 (by decide) ?_
          refine m_icmp_ge (tgt := 104) hC dX1_closes_53 (by decide) (by omega) (by omega) (fun c_53 => ?_) (fun c_53 => ?_)
          · refine m_iconst (v := 0) hC dX1_closes_104 (by decide) ?_
            refine m_iretx hC hR (Or.inr ⟨rfl, Or.inl rfl⟩) dX1_closes_105 ⟨Nat.le_of_ble_eq_true rfl, Nat.le_of_ble_eq_true rfl⟩ ?_
            exact cl_end (by rw [show (8 : Int) = y by omega]; exact hI)
          · refine m_aload_n hC dX1_closes_56 1 rfl ?_
            refine m_iload hC dX1_closes_57 5 rfl ?_
            refine m_iload hC dX1_closes_59 6 rfl ?_
            refine m_callVi (n := 2) hC (c_open9 (by omega) (by omega)) gX1_closes_X0_open rfl dX1_closes_61 rfl rfl (by decide +kernel) ⟨Nat.le_of_ble_eq_true rfl, Nat.le_of_ble_eq_true rfl⟩ rfl (Nat.le_of_ble_eq_true rfl) ⟨Nat.le_of_ble_eq_true rfl, Nat.le_of_ble_eq_true rfl⟩ rfl ?_
            refine m_if_le (tgt := 98) hC dX1_closes_64 (by decide) (by rw [hm.1, hm.2.1]; have h9 := hO v5_14 y; rw [opn_ix (by omega) (by omega)] at h9; exact h9) (fun c_64 => ?_) (fun c_64 => ?_)
            · have hN := clI_skip hI (by omega) (clF_no1 (r := 0) (y := y) hn (by rw [← hm.1, ← hm.2.1, ← hl, ← hv5_14]; omega))
              refine m_iinc hC dX1_closes_98 6 rfl (fun z9 => [(6, .int (z32 z9)), (0, .ref (g.2.2 15)), (1, .ref (g.2.2 6)), (2, .int (z32 z)), (3, .int (z32 len)), (4, .int (z32 v4_5)), (5, .int (z32 v5_14))]) (by decide) (fun _ => rfl) (fun v6_98 hv6_98 => ?_)
              refine m_goto (tgt := 49) hC dX1_closes_101 (by decide) ?_
              refine m_locals [1, 2, 3, 4, 5, 6, 0] rfl ?_
              exact ih49 v6_98 _ (by omega) (by rw [hv6_98]; exact hN) (by omega) (by omega)
            · have hG1 : 0 < S 8 (ix (pth S ((n : Int) - 1)) y) - S 10 (ix (pth S ((n : Int) - 1)) y) := by rw [← hm.1, ← hm.2.1, ← hl, ← hv5_14]; omega
              refine m_aload_n hC dX1_closes_67 0 rfl ?_
              refine m_iload hC dX1_closes_68 6 rfl ?_
              refine m_iload_n hC dX1_closes_70 3 rfl ?_
              refine m_callVi (n := 2) hC (c_X1_isSet hc1 hl (by omega) (by omega) (fun k k0 k1 => by rw [hm.2.2.2.2.2 k k0 k1]; have := hp k k0 k1; omega)) gX1_closes_X1_isSet rfl dX1_closes_71 rfl rfl (by decide +kernel) ⟨Nat.le_of_ble_eq_true rfl, Nat.le_of_ble_eq_true rfl⟩ rfl (Nat.le_of_ble_eq_true rfl) ⟨Nat.le_of_ble_eq_true rfl, Nat.le_of_ble_eq_true rfl⟩ rfl ?_
              refine m_if_ne (tgt := 98) hC dX1_closes_74 (by decide) (by have := bI_rng (anyI (fun k => decide (pth S1 k = y)) n); omega) (fun c_74 => ?_) (fun c_74 => ?_)
              · have hN := clI_skip hI (by omega) (clF_no2 (r := 0) (by rw [← hA]; exact bI_1 c_74))
                refine m_iinc hC dX1_closes_98 6 rfl (fun z9 => [(6, .int (z32 z9)), (0, .ref (g.2.2 15)), (1, .ref (g.2.2 6)), (2, .int (z32 z)), (3, .int (z32 len)), (4, .int (z32 v4_5)), (5, .int (z32 v5_14))]) (by decide) (fun _ => rfl) (fun v6_98 hv6_98 => ?_)
                refine m_goto (tgt := 49) hC dX1_closes_101 (by decide) ?_
                refine m_locals [1, 2, 3, 4, 5, 6, 0] rfl ?_
                exact ih49 v6_98 _ (by omega) (by rw [hv6_98]; exact hN) (by omega) (by omega)
              · have hA2 : anyI (fun k => decide (pth S k = y)) n = false := by rw [← hA]; exact bI_0 (Decidable.of_not_not c_74)
                refine m_aload_n hC dX1_closes_77 0 rfl ?_
                refine m_iload_n hC dX1_closes_78 3 rfl ?_
                refine m_iload hC dX1_closes_79 6 rfl ?_
                refine m_callVv (n := 2) hC (c_X1_setShopAt hc1 (by omega)) gX1_closes_X1_setShopAt rfl dX1_closes_81 rfl rfl (by decide +kernel) ⟨Nat.le_of_ble_eq_true rfl, Nat.le_of_ble_eq_true rfl⟩ rfl (Nat.le_of_ble_eq_true rfl) ⟨Nat.le_of_ble_eq_true rfl, Nat.le_of_ble_eq_true rfl⟩ rfl ?_
                refine m_aload_n hC dX1_closes_84 0 rfl ?_
                refine m_aload_n hC dX1_closes_85 1 rfl ?_
                refine m_iload_n hC dX1_closes_86 2 rfl ?_
                refine m_iload_n hC dX1_closes_87 3 rfl ?_
                refine m_iconst (v := 1) hC dX1_closes_88 (by decide) ?_
                refine m_iadd hC dX1_closes_89 ?_
                refine m_callSix (n := 4) hC (c_closes_0 (S := put17 S1 (2 + len) y) (n := n + 1) (z := z) (len := len + 1) hc1 (by omega) (by omega) (by omega) (by omega) (by rw [hl]; exact cl_rng hI hn hp (by omega)) (by show Ok (S1 8); rw [hm.1]; exact hok) (by show Fz (S1 8) (S1 10); rw [hm.1, hm.2.1]; exact hf)) gX1_closes_X1_closes rfl dX1_closes_90 (by decide +kernel) ⟨Nat.le_of_ble_eq_true rfl, Nat.le_of_ble_eq_true rfl⟩ rfl (Nat.le_of_ble_eq_true rfl) ⟨Nat.le_of_ble_eq_true rfl, Nat.le_of_ble_eq_true rfl⟩ rfl (fun v9 S3 hv9 => ?_)
                rw [hl] at hv9
                refine m_if_eq (tgt := 98) hC dX1_closes_93 (by decide) (by have := clP_v hv9; omega) (fun c_93 => ?_) (fun c_93 => ?_)
                · have hN := (cl_back hI hn (by omega) (by omega) hG1 hA2 hv9).1 c_93
                  refine m_iinc hC dX1_closes_98 6 rfl (fun z9 => [(6, .int (z32 z9)), (0, .ref (g.2.2 15)), (1, .ref (g.2.2 6)), (2, .int (z32 z)), (3, .int (z32 len)), (4, .int (z32 v4_5)), (5, .int (z32 v5_14))]) (by decide) (fun _ => rfl) (fun v6_98 hv6_98 => ?_)
                  refine m_goto (tgt := 49) hC dX1_closes_101 (by decide) ?_
                  refine m_locals [1, 2, 3, 4, 5, 6, 0] rfl ?_
                  exact ih49 v6_98 _ (by omega) (by rw [hv6_98]; exact hN) (by omega) (by omega)
                · refine m_iconst (v := 1) hC dX1_closes_96 (by decide) ?_
                  refine m_iretx hC hR (Or.inr ⟨rfl, Or.inr rfl⟩) dX1_closes_97 ⟨Nat.le_of_ble_eq_true rfl, Nat.le_of_ble_eq_true rfl⟩ ?_
                  exact (cl_back hI hn (by omega) (by omega) hG1 hA2 hv9).2 c_93
      refine m_locals [3, 4, 5, 6, 2, 1, 0] rfl ?_
      exact L49 9 v6_47 S (by omega) (by rw [hv6_47, hv4_5]; exact clI_0 hp0) (by omega) (by omega)
    · exfalso; omega
set_option maxHeartbeats 4000000 in
set_option maxRecDepth 100000 in
theorem c_closes_2 {g : mG} {S : Mem} (hc : 0 ≤ S 15 1 ∧ S 15 1 < 57) {n : Nat} {z len : Int} (hl : len = n) (hz : z = (n : Int) + 2) (hn : 1 ≤ n) (h5 : n + 2 ≤ 5) (hp : ∀ k : Int, 0 ≤ k → k < n → 0 ≤ pth S k ∧ pth S k < 8) (hok : Ok (S 8)) (hf : Fz (S 8) (S 10)) (l : Launch) : Does l yX1_closes wsX1_closes ({ frames := 5, cells := 0, slots := 0, locals := 120 } : Room) g [.ref (g.2.2 15), .ref (g.2.2 6), .int (z32 z), .int (z32 len)] S (PIx (fun v S' => clP S n 2 v S')) := by
  refine Does.of (cc := cX1_closes) (maxL := 7) (ret := (some .boolean)) (own := RX1) (by decide) rfl rfl (Nat.le_of_ble_eq_true rfl) ?_
  intro C hC hR
  show MW C g 7 (0, 0) 0 [(0, .ref (g.2.2 15)), (1, .ref (g.2.2 6)), (2, .int (z32 z)), (3, .int (z32 len))] [] S
  have hO := opnOk_of hok hf
  have hp0 := hp 0 (by omega) (by omega)
  have hpl := hp (len - 1) (by omega) (by omega)
  refine m_aload_n hC dX1_closes_0 0 rfl ?_
  refine m_iconst (v := 0) hC dX1_closes_1 (by decide) ?_
  refine m_callVi (n := 1) hC (c_X1_shopAt hc (by omega)) gX1_closes_X1_shopAt rfl dX1_closes_2 rfl rfl (by decide +kernel) ⟨Nat.le_of_ble_eq_true rfl, Nat.le_of_ble_eq_true rfl⟩ rfl (Nat.le_of_ble_eq_true rfl) ⟨Nat.le_of_ble_eq_true rfl, Nat.le_of_ble_eq_true rfl⟩ rfl ?_
  refine m_istore hC dX1_closes_5 (fun z9 => [(4, .int (z32 z9)), (0, .ref (g.2.2 15)), (1, .ref (g.2.2 6)), (2, .int (z32 z)), (3, .int (z32 len))]) (by decide) (fun _ => rfl) (fun v4_5 hv4_5 => ?_)
  refine m_aload_n hC dX1_closes_7 1 rfl ?_
  refine m_iload_n hC dX1_closes_8 4 rfl ?_
  refine m_iconst (v := 1) hC dX1_closes_9 (by decide) ?_
  refine m_isub hC dX1_closes_10 ?_
  refine m_callVi (n := 1) hC (c_X1_shopAt hc (by omega)) gX1_closes_X1_shopAt rfl dX1_closes_11 rfl rfl (by decide +kernel) ⟨Nat.le_of_ble_eq_true rfl, Nat.le_of_ble_eq_true rfl⟩ rfl (Nat.le_of_ble_eq_true rfl) ⟨Nat.le_of_ble_eq_true rfl, Nat.le_of_ble_eq_true rfl⟩ rfl ?_
  refine m_istore hC dX1_closes_14 (fun z9 => [(5, .int (z32 z9)), (4, .int (z32 v4_5)), (0, .ref (g.2.2 15)), (1, .ref (g.2.2 6)), (2, .int (z32 z)), (3, .int (z32 len))]) (by decide) (fun _ => rfl) (fun v5_14 hv5_14 => ?_)
  refine m_iload_n hC dX1_closes_16 5 rfl ?_
  refine m_iload_n hC dX1_closes_17 4 rfl ?_
  refine m_icmp_ge (tgt := 26) hC dX1_closes_18 (by decide) (by omega) (by omega) (fun c_18 => ?_) (fun c_18 => ?_)
  · exfalso; omega
  · refine m_iload_n hC dX1_closes_21 5 rfl ?_
    refine m_iconst (v := 5) hC dX1_closes_22 (by decide) ?_
    refine m_icmp_lt (tgt := 43) hC dX1_closes_23 (by decide) (by omega) (by omega) (fun c_23 => ?_) (fun c_23 => ?_)
    · refine m_iload hC dX1_closes_43 1 rfl ?_
      refine m_iconst (v := 1) hC dX1_closes_45 (by decide) ?_
      refine m_iadd hC dX1_closes_46 ?_
      refine m_istore hC dX1_closes_47 (fun z9 => [(6, .int (z32 z9)), (5, .int (z32 v5_14)), (4, .int (z32 v4_5)), (0, .ref (g.2.2 15)), (1, .ref (g.2.2 6)), (2, .int (z32 z)), (3, .int (z32 len))]) (by decide) (fun _ => rfl) (fun v6_47 hv6_47 => ?_)
      have L49 : ∀ (n49 : Nat) (y : Int) (S1 : Mem), 8 - y < (n49 : Int) → clI S n 1 y S1 → v4_5 + 1 ≤ y → y ≤ 8 → MW C g 7 (0, 0) 49 [(0, .ref (g.2.2 15)), (1, .ref (g.2.2 6)), (2, .int (z32 z)), (3, .int (z32 len)), (4, .int (z32 v4_5)), (5, .int (z32 v5_14)), (6, .int (z32 y))] [] S1 := by
        intro n49
        induction n49 with
        | zero => intros; exfalso; omega
        | succ n49 ih49 =>
          intro y S1 hm49 hI hy1 hy2
          have hm := clI_mem hI
          have hA : anyI (fun k => decide (pth S1 k = y)) n = anyI (fun k => decide (pth S k = y)) n := anyI_cong (fun k k0 k1 => by rw [hm.2.2.2.2.2 k k0 k1])
          have hc1 : 0 ≤ S1 15 1 ∧ S1 15 1 < 57 := by rw [hm.2.2.1]; exact hc
          have hst := cl_set hI hn
          refine m_iload hC dX1_closes_49 6 rfl ?_
          refine m_bipush (v := 8) hC dX1_closes_51 (by decide) ?_
          refine m_icmp_ge (tgt := 104) hC dX1_closes_53 (by decide) (by omega) (by omega) (fun c_53 => ?_) (fun c_53 => ?_)
          · refine m_iconst (v := 0) hC dX1_closes_104 (by decide) ?_
            refine m_iretx hC hR (Or.inr ⟨rfl, Or.inl rfl⟩) dX1_closes_105 ⟨Nat.le_of_ble_eq_true rfl, Nat.le_of_ble_eq_true rfl⟩ ?_
            exact cl_end (by rw [show (8 : Int) = y by omega]; exact hI)
          · refine m_aload_n hC dX1_closes_56 1 rfl ?_
            refine m_iload hC dX1_closes_57 5 rfl ?_
            refine m_iload hC dX1_closes_59 6 rfl ?_
            refine m_callVi (n := 2) hC (c_open9 (by omega) (by omega)) gX1_closes_X0_open rfl dX1_closes_61 rfl rfl (by decide +kernel) ⟨Nat.le_of_ble_eq_true rfl, Nat.le_of_ble_eq_true rfl⟩ rfl (Nat.le_of_ble_eq_true rfl) ⟨Nat.le_of_ble_eq_true rfl, Nat.le_of_ble_eq_true rfl⟩ rfl ?_
            refine m_if_le (tgt := 98) hC dX1_closes_64 (by decide) (by rw [hm.1, hm.2.1]; have h9 := hO v5_14 y; rw [opn_ix (by omega) (by omega)] at h9; exact h9) (fun c_64 => ?_) (fun c_64 => ?_)
            · have hN := clI_skip hI (by omega) (clF_no1 (r := 1) (y := y) hn (by rw [← hm.1, ← hm.2.1, ← hl, ← hv5_14]; omega))
              refine m_iinc hC dX1_closes_98 6 rfl (fun z9 => [(6, .int (z32 z9)), (0, .ref (g.2.2 15)), (1, .ref (g.2.2 6)), (2, .int (z32 z)), (3, .int (z32 len)), (4, .int (z32 v4_5)), (5, .int (z32 v5_14))]) (by decide) (fun _ => rfl) (fun v6_98 hv6_98 => ?_)
              refine m_goto (tgt := 49) hC dX1_closes_101 (by decide) ?_
              refine m_locals [1, 2, 3, 4, 5, 6, 0] rfl ?_
              exact ih49 v6_98 _ (by omega) (by rw [hv6_98]; exact hN) (by omega) (by omega)
            · have hG1 : 0 < S 8 (ix (pth S ((n : Int) - 1)) y) - S 10 (ix (pth S ((n : Int) - 1)) y) := by rw [← hm.1, ← hm.2.1, ← hl, ← hv5_14]; omega
              refine m_aload_n hC dX1_closes_67 0 rfl ?_
              refine m_iload hC dX1_closes_68 6 rfl ?_
              refine m_iload_n hC dX1_closes_70 3 rfl ?_
              refine m_callVi (n := 2) hC (c_X1_isSet hc1 hl (by omega) (by omega) (fun k k0 k1 => by rw [hm.2.2.2.2.2 k k0 k1]; have := hp k k0 k1; omega)) gX1_closes_X1_isSet rfl dX1_closes_71 rfl rfl (by decide +kernel) ⟨Nat.le_of_ble_eq_true rfl, Nat.le_of_ble_eq_true rfl⟩ rfl (Nat.le_of_ble_eq_true rfl) ⟨Nat.le_of_ble_eq_true rfl, Nat.le_of_ble_eq_true rfl⟩ rfl ?_
              refine m_if_ne (tgt := 98) hC dX1_closes_74 (by decide) (by have := bI_rng (anyI (fun k => decide (pth S1 k = y)) n); omega) (fun c_74 => ?_) (fun c_74 => ?_)
              · have hN := clI_skip hI (by omega) (clF_no2 (r := 1) (by rw [← hA]; exact bI_1 c_74))
                refine m_iinc hC dX1_closes_98 6 rfl (fun z9 => [(6, .int (z32 z9)), (0, .ref (g.2.2 15)), (1, .ref (g.2.2 6)), (2, .int (z32 z)), (3, .int (z32 len)), (4, .int (z32 v4_5)), (5, .int (z32 v5_14))]) (by decide) (fun _ => rfl) (fun v6_98 hv6_98 => ?_)
                refine m_goto (tgt := 49) hC dX1_closes_101 (by decide) ?_
                refine m_locals [1, 2, 3, 4, 5, 6, 0] rfl ?_
                exact ih49 v6_98 _ (by omega) (by rw [hv6_98]; exact hN) (by omega) (by omega)
              · have hA2 : anyI (fun k => decide (pth S k = y)) n = false := by rw [← hA]; exact bI_0 (Decidable.of_not_not c_74)
                refine m_aload_n hC dX1_closes_77 0 rfl ?_
                refine m_iload_n hC dX1_closes_78 3 rfl ?_
                refine m_iload hC dX1_closes_79 6 rfl ?_
                refine m_callVv (n := 2) hC (c_X1_setShopAt hc1 (by omega)) gX1_closes_X1_setShopAt rfl dX1_closes_81 rfl rfl (by decide +kernel) ⟨Nat.le_of_ble_eq_true rfl, Nat.le_of_ble_eq_true rfl⟩ rfl (Nat.le_of_ble_eq_true rfl) ⟨Nat.le_of_ble_eq_true rfl, Nat.le_of_ble_eq_true rfl⟩ rfl ?_
                refine m_aload_n hC dX1_closes_84 0 rfl ?_
                refine m_aload_n hC dX1_closes_85 1 rfl ?_
                refine m_iload_n hC dX1_closes_86 2 rfl ?_
                refine m_iload_n hC dX1_closes_87 3 rfl ?_
                refine m_iconst (v := 1) hC dX1_closes_88 (by decide) ?_
                refine m_iadd hC dX1_closes_89 ?_
                refine m_callSix (n := 4) hC (c_closes_1 (S := put17 S1 (2 + len) y) (n := n + 1) (z := z) (len := len + 1) hc1 (by omega) (by omega) (by omega) (by omega) (by rw [hl]; exact cl_rng hI hn hp (by omega)) (by show Ok (S1 8); rw [hm.1]; exact hok) (by show Fz (S1 8) (S1 10); rw [hm.1, hm.2.1]; exact hf)) gX1_closes_X1_closes rfl dX1_closes_90 (by decide +kernel) ⟨Nat.le_of_ble_eq_true rfl, Nat.le_of_ble_eq_true rfl⟩ rfl (Nat.le_of_ble_eq_true rfl) ⟨Nat.le_of_ble_eq_true rfl, Nat.le_of_ble_eq_true rfl⟩ rfl (fun v9 S3 hv9 => ?_)
                rw [hl] at hv9
                refine m_if_eq (tgt := 98) hC dX1_closes_93 (by decide) (by have := clP_v hv9; omega) (fun c_93 => ?_) (fun c_93 => ?_)
                · have hN := (cl_back hI hn (by omega) (by omega) hG1 hA2 hv9).1 c_93
                  refine m_iinc hC dX1_closes_98 6 rfl (fun z9 => [(6, .int (z32 z9)), (0, .ref (g.2.2 15)), (1, .ref (g.2.2 6)), (2, .int (z32 z)), (3, .int (z32 len)), (4, .int (z32 v4_5)), (5, .int (z32 v5_14))]) (by decide) (fun _ => rfl) (fun v6_98 hv6_98 => ?_)
                  refine m_goto (tgt := 49) hC dX1_closes_101 (by decide) ?_
                  refine m_locals [1, 2, 3, 4, 5, 6, 0] rfl ?_
                  exact ih49 v6_98 _ (by omega) (by rw [hv6_98]; exact hN) (by omega) (by omega)
                · refine m_iconst (v := 1) hC dX1_closes_96 (by decide) ?_
                  refine m_iretx hC hR (Or.inr ⟨rfl, Or.inr rfl⟩) dX1_closes_97 ⟨Nat.le_of_ble_eq_true rfl, Nat.le_of_ble_eq_true rfl⟩ ?_
                  exact (cl_back hI hn (by omega) (by omega) hG1 hA2 hv9).2 c_93
      refine m_locals [3, 4, 5, 6, 2, 1, 0] rfl ?_
      exact L49 9 v6_47 S (by omega) (by rw [hv6_47, hv4_5]; exact clI_0 hp0) (by omega) (by omega)
    · exfalso; omega
set_option maxHeartbeats 4000000 in
set_option maxRecDepth 100000 in
theorem c_closes_3 {g : mG} {S : Mem} (hc : 0 ≤ S 15 1 ∧ S 15 1 < 57) {n : Nat} {z len : Int} (hl : len = n) (hz : z = (n : Int) + 3) (hn : 1 ≤ n) (h5 : n + 3 ≤ 5) (hp : ∀ k : Int, 0 ≤ k → k < n → 0 ≤ pth S k ∧ pth S k < 8) (hok : Ok (S 8)) (hf : Fz (S 8) (S 10)) (l : Launch) : Does l yX1_closes wsX1_closes ({ frames := 6, cells := 0, slots := 0, locals := 146 } : Room) g [.ref (g.2.2 15), .ref (g.2.2 6), .int (z32 z), .int (z32 len)] S (PIx (fun v S' => clP S n 3 v S')) := by
  refine Does.of (cc := cX1_closes) (maxL := 7) (ret := (some .boolean)) (own := RX1) (by decide) rfl rfl (Nat.le_of_ble_eq_true rfl) ?_
  intro C hC hR
  show MW C g 7 (0, 0) 0 [(0, .ref (g.2.2 15)), (1, .ref (g.2.2 6)), (2, .int (z32 z)), (3, .int (z32 len))] [] S
  have hO := opnOk_of hok hf
  have hp0 := hp 0 (by omega) (by omega)
  have hpl := hp (len - 1) (by omega) (by omega)
  refine m_aload_n hC dX1_closes_0 0 rfl ?_
  refine m_iconst (v := 0) hC dX1_closes_1 (by decide) ?_
  refine m_callVi (n := 1) hC (c_X1_shopAt hc (by omega)) gX1_closes_X1_shopAt rfl dX1_closes_2 rfl rfl (by decide +kernel) ⟨Nat.le_of_ble_eq_true rfl, Nat.le_of_ble_eq_true rfl⟩ rfl (Nat.le_of_ble_eq_true rfl) ⟨Nat.le_of_ble_eq_true rfl, Nat.le_of_ble_eq_true rfl⟩ rfl ?_
  refine m_istore hC dX1_closes_5 (fun z9 => [(4, .int (z32 z9)), (0, .ref (g.2.2 15)), (1, .ref (g.2.2 6)), (2, .int (z32 z)), (3, .int (z32 len))]) (by decide) (fun _ => rfl) (fun v4_5 hv4_5 => ?_)
  refine m_aload_n hC dX1_closes_7 1 rfl ?_
  refine m_iload_n hC dX1_closes_8 4 rfl ?_
  refine m_iconst (v := 1) hC dX1_closes_9 (by decide) ?_
  refine m_isub hC dX1_closes_10 ?_
  refine m_callVi (n := 1) hC (c_X1_shopAt hc (by omega)) gX1_closes_X1_shopAt rfl dX1_closes_11 rfl rfl (by decide +kernel) ⟨Nat.le_of_ble_eq_true rfl, Nat.le_of_ble_eq_true rfl⟩ rfl (Nat.le_of_ble_eq_true rfl) ⟨Nat.le_of_ble_eq_true rfl, Nat.le_of_ble_eq_true rfl⟩ rfl ?_
  refine m_istore hC dX1_closes_14 (fun z9 => [(5, .int (z32 z9)), (4, .int (z32 v4_5)), (0, .ref (g.2.2 15)), (1, .ref (g.2.2 6)), (2, .int (z32 z)), (3, .int (z32 len))]) (by decide) (fun _ => rfl) (fun v5_14 hv5_14 => ?_)
  refine m_iload_n hC dX1_closes_16 5 rfl ?_
  refine m_iload_n hC dX1_closes_17 4 rfl ?_
  refine m_icmp_ge (tgt := 26) hC dX1_closes_18 (by decide) (by omega) (by omega) (fun c_18 => ?_) (fun c_18 => ?_)
  · exfalso; omega
  · refine m_iload_n hC dX1_closes_21 5 rfl ?_
    refine m_iconst (v := 5) hC dX1_closes_22 (by decide) ?_
    refine m_icmp_lt (tgt := 43) hC dX1_closes_23 (by decide) (by omega) (by omega) (fun c_23 => ?_) (fun c_23 => ?_)
    · refine m_iload hC dX1_closes_43 1 rfl ?_
      refine m_iconst (v := 1) hC dX1_closes_45 (by decide) ?_
      refine m_iadd hC dX1_closes_46 ?_
      refine m_istore hC dX1_closes_47 (fun z9 => [(6, .int (z32 z9)), (5, .int (z32 v5_14)), (4, .int (z32 v4_5)), (0, .ref (g.2.2 15)), (1, .ref (g.2.2 6)), (2, .int (z32 z)), (3, .int (z32 len))]) (by decide) (fun _ => rfl) (fun v6_47 hv6_47 => ?_)
      have L49 : ∀ (n49 : Nat) (y : Int) (S1 : Mem), 8 - y < (n49 : Int) → clI S n 2 y S1 → v4_5 + 1 ≤ y → y ≤ 8 → MW C g 7 (0, 0) 49 [(0, .ref (g.2.2 15)), (1, .ref (g.2.2 6)), (2, .int (z32 z)), (3, .int (z32 len)), (4, .int (z32 v4_5)), (5, .int (z32 v5_14)), (6, .int (z32 y))] [] S1 := by
        intro n49
        induction n49 with
        | zero => intros; exfalso; omega
        | succ n49 ih49 =>
          intro y S1 hm49 hI hy1 hy2
          have hm := clI_mem hI
          have hA : anyI (fun k => decide (pth S1 k = y)) n = anyI (fun k => decide (pth S k = y)) n := anyI_cong (fun k k0 k1 => by rw [hm.2.2.2.2.2 k k0 k1])
          have hc1 : 0 ≤ S1 15 1 ∧ S1 15 1 < 57 := by rw [hm.2.2.1]; exact hc
          have hst := cl_set hI hn
          refine m_iload hC dX1_closes_49 6 rfl ?_
          refine m_bipush (v := 8) hC dX1_closes_51 (by decide) ?_
          refine m_icmp_ge (tgt := 104) hC dX1_closes_53 (by decide) (by omega) (by omega) (fun c_53 => ?_) (fun c_53 => ?_)
          · refine m_iconst (v := 0) hC dX1_closes_104 (by decide) ?_
            refine m_iretx hC hR (Or.inr ⟨rfl, Or.inl rfl⟩) dX1_closes_105 ⟨Nat.le_of_ble_eq_true rfl, Nat.le_of_ble_eq_true rfl⟩ ?_
            exact cl_end (by rw [show (8 : Int) = y by omega]; exact hI)
          · refine m_aload_n hC dX1_closes_56 1 rfl ?_
            refine m_iload hC dX1_closes_57 5 rfl ?_
            refine m_iload hC dX1_closes_59 6 rfl ?_
            refine m_callVi (n := 2) hC (c_open9 (by omega) (by omega)) gX1_closes_X0_open rfl dX1_closes_61 rfl rfl (by decide +kernel) ⟨Nat.le_of_ble_eq_true rfl, Nat.le_of_ble_eq_true rfl⟩ rfl (Nat.le_of_ble_eq_true rfl) ⟨Nat.le_of_ble_eq_true rfl, Nat.le_of_ble_eq_true rfl⟩ rfl ?_
            refine m_if_le (tgt := 98) hC dX1_closes_64 (by decide) (by rw [hm.1, hm.2.1]; have h9 := hO v5_14 y; rw [opn_ix (by omega) (by omega)] at h9; exact h9) (fun c_64 => ?_) (fun c_64 => ?_)
            · have hN := clI_skip hI (by omega) (clF_no1 (r := 2) (y := y) hn (by rw [← hm.1, ← hm.2.1, ← hl, ← hv5_14]; omega))
              refine m_iinc hC dX1_closes_98 6 rfl (fun z9 => [(6, .int (z32 z9)), (0, .ref (g.2.2 15)), (1, .ref (g.2.2 6)), (2, .int (z32 z)), (3, .int (z32 len)), (4, .int (z32 v4_5)), (5, .int (z32 v5_14))]) (by decide) (fun _ => rfl) (fun v6_98 hv6_98 => ?_)
              refine m_goto (tgt := 49) hC dX1_closes_101 (by decide) ?_
              refine m_locals [1, 2, 3, 4, 5, 6, 0] rfl ?_
              exact ih49 v6_98 _ (by omega) (by rw [hv6_98]; exact hN) (by omega) (by omega)
            · have hG1 : 0 < S 8 (ix (pth S ((n : Int) - 1)) y) - S 10 (ix (pth S ((n : Int) - 1)) y) := by rw [← hm.1, ← hm.2.1, ← hl, ← hv5_14]; omega
              refine m_aload_n hC dX1_closes_67 0 rfl ?_
              refine m_iload hC dX1_closes_68 6 rfl ?_
              refine m_iload_n hC dX1_closes_70 3 rfl ?_
              refine m_callVi (n := 2) hC (c_X1_isSet hc1 hl (by omega) (by omega) (fun k k0 k1 => by rw [hm.2.2.2.2.2 k k0 k1]; have := hp k k0 k1; omega)) gX1_closes_X1_isSet rfl dX1_closes_71 rfl rfl (by decide +kernel) ⟨Nat.le_of_ble_eq_true rfl, Nat.le_of_ble_eq_true rfl⟩ rfl (Nat.le_of_ble_eq_true rfl) ⟨Nat.le_of_ble_eq_true rfl, Nat.le_of_ble_eq_true rfl⟩ rfl ?_
              refine m_if_ne (tgt := 98) hC dX1_closes_74 (by decide) (by have := bI_rng (anyI (fun k => decide (pth S1 k = y)) n); omega) (fun c_74 => ?_) (fun c_74 => ?_)
              · have hN := clI_skip hI (by omega) (clF_no2 (r := 2) (by rw [← hA]; exact bI_1 c_74))
                refine m_iinc hC dX1_closes_98 6 rfl (fun z9 => [(6, .int (z32 z9)), (0, .ref (g.2.2 15)), (1, .ref (g.2.2 6)), (2, .int (z32 z)), (3, .int (z32 len)), (4, .int (z32 v4_5)), (5, .int (z32 v5_14))]) (by decide) (fun _ => rfl) (fun v6_98 hv6_98 => ?_)
                refine m_goto (tgt := 49) hC dX1_closes_101 (by decide) ?_
                refine m_locals [1, 2, 3, 4, 5, 6, 0] rfl ?_
                exact ih49 v6_98 _ (by omega) (by rw [hv6_98]; exact hN) (by omega) (by omega)
              · have hA2 : anyI (fun k => decide (pth S k = y)) n = false := by rw [← hA]; exact bI_0 (Decidable.of_not_not c_74)
                refine m_aload_n hC dX1_closes_77 0 rfl ?_
                refine m_iload_n hC dX1_closes_78 3 rfl ?_
                refine m_iload hC dX1_closes_79 6 rfl ?_
                refine m_callVv (n := 2) hC (c_X1_setShopAt hc1 (by omega)) gX1_closes_X1_setShopAt rfl dX1_closes_81 rfl rfl (by decide +kernel) ⟨Nat.le_of_ble_eq_true rfl, Nat.le_of_ble_eq_true rfl⟩ rfl (Nat.le_of_ble_eq_true rfl) ⟨Nat.le_of_ble_eq_true rfl, Nat.le_of_ble_eq_true rfl⟩ rfl ?_
                refine m_aload_n hC dX1_closes_84 0 rfl ?_
                refine m_aload_n hC dX1_closes_85 1 rfl ?_
                refine m_iload_n hC dX1_closes_86 2 rfl ?_
                refine m_iload_n hC dX1_closes_87 3 rfl ?_
                refine m_iconst (v := 1) hC dX1_closes_88 (by decide) ?_
                refine m_iadd hC dX1_closes_89 ?_
                refine m_callSix (n := 4) hC (c_closes_2 (S := put17 S1 (2 + len) y) (n := n + 1) (z := z) (len := len + 1) hc1 (by omega) (by omega) (by omega) (by omega) (by rw [hl]; exact cl_rng hI hn hp (by omega)) (by show Ok (S1 8); rw [hm.1]; exact hok) (by show Fz (S1 8) (S1 10); rw [hm.1, hm.2.1]; exact hf)) gX1_closes_X1_closes rfl dX1_closes_90 (by decide +kernel) ⟨Nat.le_of_ble_eq_true rfl, Nat.le_of_ble_eq_true rfl⟩ rfl (Nat.le_of_ble_eq_true rfl) ⟨Nat.le_of_ble_eq_true rfl, Nat.le_of_ble_eq_true rfl⟩ rfl (fun v9 S3 hv9 => ?_)
                rw [hl] at hv9
                refine m_if_eq (tgt := 98) hC dX1_closes_93 (by decide) (by have := clP_v hv9; omega) (fun c_93 => ?_) (fun c_93 => ?_)
                · have hN := (cl_back hI hn (by omega) (by omega) hG1 hA2 hv9).1 c_93
                  refine m_iinc hC dX1_closes_98 6 rfl (fun z9 => [(6, .int (z32 z9)), (0, .ref (g.2.2 15)), (1, .ref (g.2.2 6)), (2, .int (z32 z)), (3, .int (z32 len)), (4, .int (z32 v4_5)), (5, .int (z32 v5_14))]) (by decide) (fun _ => rfl) (fun v6_98 hv6_98 => ?_)
                  refine m_goto (tgt := 49) hC dX1_closes_101 (by decide) ?_
                  refine m_locals [1, 2, 3, 4, 5, 6, 0] rfl ?_
                  exact ih49 v6_98 _ (by omega) (by rw [hv6_98]; exact hN) (by omega) (by omega)
                · refine m_iconst (v := 1) hC dX1_closes_96 (by decide) ?_
                  refine m_iretx hC hR (Or.inr ⟨rfl, Or.inr rfl⟩) dX1_closes_97 ⟨Nat.le_of_ble_eq_true rfl, Nat.le_of_ble_eq_true rfl⟩ ?_
                  exact (cl_back hI hn (by omega) (by omega) hG1 hA2 hv9).2 c_93
      refine m_locals [3, 4, 5, 6, 2, 1, 0] rfl ?_
      exact L49 9 v6_47 S (by omega) (by rw [hv6_47, hv4_5]; exact clI_0 hp0) (by omega) (by omega)
    · exfalso; omega
set_option maxHeartbeats 4000000 in
set_option maxRecDepth 100000 in
theorem c_closes_4 {g : mG} {S : Mem} (hc : 0 ≤ S 15 1 ∧ S 15 1 < 57) {n : Nat} {z len : Int} (hl : len = n) (hz : z = (n : Int) + 4) (hn : 1 ≤ n) (h5 : n + 4 ≤ 5) (hp : ∀ k : Int, 0 ≤ k → k < n → 0 ≤ pth S k ∧ pth S k < 8) (hok : Ok (S 8)) (hf : Fz (S 8) (S 10)) (l : Launch) : Does l yX1_closes wsX1_closes ({ frames := 7, cells := 0, slots := 0, locals := 172 } : Room) g [.ref (g.2.2 15), .ref (g.2.2 6), .int (z32 z), .int (z32 len)] S (PIx (fun v S' => clP S n 4 v S')) := by
  refine Does.of (cc := cX1_closes) (maxL := 7) (ret := (some .boolean)) (own := RX1) (by decide) rfl rfl (Nat.le_of_ble_eq_true rfl) ?_
  intro C hC hR
  show MW C g 7 (0, 0) 0 [(0, .ref (g.2.2 15)), (1, .ref (g.2.2 6)), (2, .int (z32 z)), (3, .int (z32 len))] [] S
  have hO := opnOk_of hok hf
  have hp0 := hp 0 (by omega) (by omega)
  have hpl := hp (len - 1) (by omega) (by omega)
  refine m_aload_n hC dX1_closes_0 0 rfl ?_
  refine m_iconst (v := 0) hC dX1_closes_1 (by decide) ?_
  refine m_callVi (n := 1) hC (c_X1_shopAt hc (by omega)) gX1_closes_X1_shopAt rfl dX1_closes_2 rfl rfl (by decide +kernel) ⟨Nat.le_of_ble_eq_true rfl, Nat.le_of_ble_eq_true rfl⟩ rfl (Nat.le_of_ble_eq_true rfl) ⟨Nat.le_of_ble_eq_true rfl, Nat.le_of_ble_eq_true rfl⟩ rfl ?_
  refine m_istore hC dX1_closes_5 (fun z9 => [(4, .int (z32 z9)), (0, .ref (g.2.2 15)), (1, .ref (g.2.2 6)), (2, .int (z32 z)), (3, .int (z32 len))]) (by decide) (fun _ => rfl) (fun v4_5 hv4_5 => ?_)
  refine m_aload_n hC dX1_closes_7 1 rfl ?_
  refine m_iload_n hC dX1_closes_8 4 rfl ?_
  refine m_iconst (v := 1) hC dX1_closes_9 (by decide) ?_
  refine m_isub hC dX1_closes_10 ?_
  refine m_callVi (n := 1) hC (c_X1_shopAt hc (by omega)) gX1_closes_X1_shopAt rfl dX1_closes_11 rfl rfl (by decide +kernel) ⟨Nat.le_of_ble_eq_true rfl, Nat.le_of_ble_eq_true rfl⟩ rfl (Nat.le_of_ble_eq_true rfl) ⟨Nat.le_of_ble_eq_true rfl, Nat.le_of_ble_eq_true rfl⟩ rfl ?_
  refine m_istore hC dX1_closes_14 (fun z9 => [(5, .int (z32 z9)), (4, .int (z32 v4_5)), (0, .ref (g.2.2 15)), (1, .ref (g.2.2 6)), (2, .int (z32 z)), (3, .int (z32 len))]) (by decide) (fun _ => rfl) (fun v5_14 hv5_14 => ?_)
  refine m_iload_n hC dX1_closes_16 5 rfl ?_
  refine m_iload_n hC dX1_closes_17 4 rfl ?_
  refine m_icmp_ge (tgt := 26) hC dX1_closes_18 (by decide) (by omega) (by omega) (fun c_18 => ?_) (fun c_18 => ?_)
  · exfalso; omega
  · refine m_iload_n hC dX1_closes_21 5 rfl ?_
    refine m_iconst (v := 5) hC dX1_closes_22 (by decide) ?_
    refine m_icmp_lt (tgt := 43) hC dX1_closes_23 (by decide) (by omega) (by omega) (fun c_23 => ?_) (fun c_23 => ?_)
    · refine m_iload hC dX1_closes_43 1 rfl ?_
      refine m_iconst (v := 1) hC dX1_closes_45 (by decide) ?_
      refine m_iadd hC dX1_closes_46 ?_
      refine m_istore hC dX1_closes_47 (fun z9 => [(6, .int (z32 z9)), (5, .int (z32 v5_14)), (4, .int (z32 v4_5)), (0, .ref (g.2.2 15)), (1, .ref (g.2.2 6)), (2, .int (z32 z)), (3, .int (z32 len))]) (by decide) (fun _ => rfl) (fun v6_47 hv6_47 => ?_)
      have L49 : ∀ (n49 : Nat) (y : Int) (S1 : Mem), 8 - y < (n49 : Int) → clI S n 3 y S1 → v4_5 + 1 ≤ y → y ≤ 8 → MW C g 7 (0, 0) 49 [(0, .ref (g.2.2 15)), (1, .ref (g.2.2 6)), (2, .int (z32 z)), (3, .int (z32 len)), (4, .int (z32 v4_5)), (5, .int (z32 v5_14)), (6, .int (z32 y))] [] S1 := by
        intro n49
        induction n49 with
        | zero => intros; exfalso; omega
        | succ n49 ih49 =>
          intro y S1 hm49 hI hy1 hy2
          have hm := clI_mem hI
          have hA : anyI (fun k => decide (pth S1 k = y)) n = anyI (fun k => decide (pth S k = y)) n := anyI_cong (fun k k0 k1 => by rw [hm.2.2.2.2.2 k k0 k1])
          have hc1 : 0 ≤ S1 15 1 ∧ S1 15 1 < 57 := by rw [hm.2.2.1]; exact hc
          have hst := cl_set hI hn
          refine m_iload hC dX1_closes_49 6 rfl ?_
          refine m_bipush (v := 8) hC dX1_closes_51 (by decide) ?_
          refine m_icmp_ge (tgt := 104) hC dX1_closes_53 (by decide) (by omega) (by omega) (fun c_53 => ?_) (fun c_53 => ?_)
          · refine m_iconst (v := 0) hC dX1_closes_104 (by decide) ?_
            refine m_iretx hC hR (Or.inr ⟨rfl, Or.inl rfl⟩) dX1_closes_105 ⟨Nat.le_of_ble_eq_true rfl, Nat.le_of_ble_eq_true rfl⟩ ?_
            exact cl_end (by rw [show (8 : Int) = y by omega]; exact hI)
          · refine m_aload_n hC dX1_closes_56 1 rfl ?_
            refine m_iload hC dX1_closes_57 5 rfl ?_
            refine m_iload hC dX1_closes_59 6 rfl ?_
            refine m_callVi (n := 2) hC (c_open9 (by omega) (by omega)) gX1_closes_X0_open rfl dX1_closes_61 rfl rfl (by decide +kernel) ⟨Nat.le_of_ble_eq_true rfl, Nat.le_of_ble_eq_true rfl⟩ rfl (Nat.le_of_ble_eq_true rfl) ⟨Nat.le_of_ble_eq_true rfl, Nat.le_of_ble_eq_true rfl⟩ rfl ?_
            refine m_if_le (tgt := 98) hC dX1_closes_64 (by decide) (by rw [hm.1, hm.2.1]; have h9 := hO v5_14 y; rw [opn_ix (by omega) (by omega)] at h9; exact h9) (fun c_64 => ?_) (fun c_64 => ?_)
            · have hN := clI_skip hI (by omega) (clF_no1 (r := 3) (y := y) hn (by rw [← hm.1, ← hm.2.1, ← hl, ← hv5_14]; omega))
              refine m_iinc hC dX1_closes_98 6 rfl (fun z9 => [(6, .int (z32 z9)), (0, .ref (g.2.2 15)), (1, .ref (g.2.2 6)), (2, .int (z32 z)), (3, .int (z32 len)), (4, .int (z32 v4_5)), (5, .int (z32 v5_14))]) (by decide) (fun _ => rfl) (fun v6_98 hv6_98 => ?_)
              refine m_goto (tgt := 49) hC dX1_closes_101 (by decide) ?_
              refine m_locals [1, 2, 3, 4, 5, 6, 0] rfl ?_
              exact ih49 v6_98 _ (by omega) (by rw [hv6_98]; exact hN) (by omega) (by omega)
            · have hG1 : 0 < S 8 (ix (pth S ((n : Int) - 1)) y) - S 10 (ix (pth S ((n : Int) - 1)) y) := by rw [← hm.1, ← hm.2.1, ← hl, ← hv5_14]; omega
              refine m_aload_n hC dX1_closes_67 0 rfl ?_
              refine m_iload hC dX1_closes_68 6 rfl ?_
              refine m_iload_n hC dX1_closes_70 3 rfl ?_
              refine m_callVi (n := 2) hC (c_X1_isSet hc1 hl (by omega) (by omega) (fun k k0 k1 => by rw [hm.2.2.2.2.2 k k0 k1]; have := hp k k0 k1; omega)) gX1_closes_X1_isSet rfl dX1_closes_71 rfl rfl (by decide +kernel) ⟨Nat.le_of_ble_eq_true rfl, Nat.le_of_ble_eq_true rfl⟩ rfl (Nat.le_of_ble_eq_true rfl) ⟨Nat.le_of_ble_eq_true rfl, Nat.le_of_ble_eq_true rfl⟩ rfl ?_
              refine m_if_ne (tgt := 98) hC dX1_closes_74 (by decide) (by have := bI_rng (anyI (fun k => decide (pth S1 k = y)) n); omega) (fun c_74 => ?_) (fun c_74 => ?_)
              · have hN := clI_skip hI (by omega) (clF_no2 (r := 3) (by rw [← hA]; exact bI_1 c_74))
                refine m_iinc hC dX1_closes_98 6 rfl (fun z9 => [(6, .int (z32 z9)), (0, .ref (g.2.2 15)), (1, .ref (g.2.2 6)), (2, .int (z32 z)), (3, .int (z32 len)), (4, .int (z32 v4_5)), (5, .int (z32 v5_14))]) (by decide) (fun _ => rfl) (fun v6_98 hv6_98 => ?_)
                refine m_goto (tgt := 49) hC dX1_closes_101 (by decide) ?_
                refine m_locals [1, 2, 3, 4, 5, 6, 0] rfl ?_
                exact ih49 v6_98 _ (by omega) (by rw [hv6_98]; exact hN) (by omega) (by omega)
              · have hA2 : anyI (fun k => decide (pth S k = y)) n = false := by rw [← hA]; exact bI_0 (Decidable.of_not_not c_74)
                refine m_aload_n hC dX1_closes_77 0 rfl ?_
                refine m_iload_n hC dX1_closes_78 3 rfl ?_
                refine m_iload hC dX1_closes_79 6 rfl ?_
                refine m_callVv (n := 2) hC (c_X1_setShopAt hc1 (by omega)) gX1_closes_X1_setShopAt rfl dX1_closes_81 rfl rfl (by decide +kernel) ⟨Nat.le_of_ble_eq_true rfl, Nat.le_of_ble_eq_true rfl⟩ rfl (Nat.le_of_ble_eq_true rfl) ⟨Nat.le_of_ble_eq_true rfl, Nat.le_of_ble_eq_true rfl⟩ rfl ?_
                refine m_aload_n hC dX1_closes_84 0 rfl ?_
                refine m_aload_n hC dX1_closes_85 1 rfl ?_
                refine m_iload_n hC dX1_closes_86 2 rfl ?_
                refine m_iload_n hC dX1_closes_87 3 rfl ?_
                refine m_iconst (v := 1) hC dX1_closes_88 (by decide) ?_
                refine m_iadd hC dX1_closes_89 ?_
                refine m_callSix (n := 4) hC (c_closes_3 (S := put17 S1 (2 + len) y) (n := n + 1) (z := z) (len := len + 1) hc1 (by omega) (by omega) (by omega) (by omega) (by rw [hl]; exact cl_rng hI hn hp (by omega)) (by show Ok (S1 8); rw [hm.1]; exact hok) (by show Fz (S1 8) (S1 10); rw [hm.1, hm.2.1]; exact hf)) gX1_closes_X1_closes rfl dX1_closes_90 (by decide +kernel) ⟨Nat.le_of_ble_eq_true rfl, Nat.le_of_ble_eq_true rfl⟩ rfl (Nat.le_of_ble_eq_true rfl) ⟨Nat.le_of_ble_eq_true rfl, Nat.le_of_ble_eq_true rfl⟩ rfl (fun v9 S3 hv9 => ?_)
                rw [hl] at hv9
                refine m_if_eq (tgt := 98) hC dX1_closes_93 (by decide) (by have := clP_v hv9; omega) (fun c_93 => ?_) (fun c_93 => ?_)
                · have hN := (cl_back hI hn (by omega) (by omega) hG1 hA2 hv9).1 c_93
                  refine m_iinc hC dX1_closes_98 6 rfl (fun z9 => [(6, .int (z32 z9)), (0, .ref (g.2.2 15)), (1, .ref (g.2.2 6)), (2, .int (z32 z)), (3, .int (z32 len)), (4, .int (z32 v4_5)), (5, .int (z32 v5_14))]) (by decide) (fun _ => rfl) (fun v6_98 hv6_98 => ?_)
                  refine m_goto (tgt := 49) hC dX1_closes_101 (by decide) ?_
                  refine m_locals [1, 2, 3, 4, 5, 6, 0] rfl ?_
                  exact ih49 v6_98 _ (by omega) (by rw [hv6_98]; exact hN) (by omega) (by omega)
                · refine m_iconst (v := 1) hC dX1_closes_96 (by decide) ?_
                  refine m_iretx hC hR (Or.inr ⟨rfl, Or.inr rfl⟩) dX1_closes_97 ⟨Nat.le_of_ble_eq_true rfl, Nat.le_of_ble_eq_true rfl⟩ ?_
                  exact (cl_back hI hn (by omega) (by omega) hG1 hA2 hv9).2 c_93
      refine m_locals [3, 4, 5, 6, 2, 1, 0] rfl ?_
      exact L49 9 v6_47 S (by omega) (by rw [hv6_47, hv4_5]; exact clI_0 hp0) (by omega) (by omega)
    · exfalso; omega
set_option maxHeartbeats 4000000 in
set_option maxRecDepth 100000 in
theorem c_closes_t1 {g : mG} {S : Mem} (hc : 0 ≤ S 15 1 ∧ S 15 1 < 57) {n : Nat} {z len : Int} (hl : len = n) (hz : z = (n : Int) + 1) (hn : 1 ≤ n) (h5 : n + 1 ≤ 5) (hp : ∀ k : Int, 0 ≤ k → k < n → 0 ≤ pth S k ∧ pth S k < 8) (hok : Ok (S 8)) (hf : Fz (S 8) (S 10)) (l : Launch) : Does l yX1_closes wsX1_closes ({ frames := 7, cells := 0, slots := 0, locals := 172 } : Room) g [.ref (g.2.2 15), .ref (g.2.2 6), .int (z32 z), .int (z32 len)] S (PIx (fun v S' => clP S n 1 v S')) := by
  refine Does.of (cc := cX1_closes) (maxL := 7) (ret := (some .boolean)) (own := RX1) (by decide) rfl rfl (Nat.le_of_ble_eq_true rfl) ?_
  intro C hC hR
  show MW C g 7 (0, 0) 0 [(0, .ref (g.2.2 15)), (1, .ref (g.2.2 6)), (2, .int (z32 z)), (3, .int (z32 len))] [] S
  have hO := opnOk_of hok hf
  have hp0 := hp 0 (by omega) (by omega)
  have hpl := hp (len - 1) (by omega) (by omega)
  refine m_aload_n hC dX1_closes_0 0 rfl ?_
  refine m_iconst (v := 0) hC dX1_closes_1 (by decide) ?_
  refine m_callVi (n := 1) hC (c_X1_shopAt hc (by omega)) gX1_closes_X1_shopAt rfl dX1_closes_2 rfl rfl (by decide +kernel) ⟨Nat.le_of_ble_eq_true rfl, Nat.le_of_ble_eq_true rfl⟩ rfl (Nat.le_of_ble_eq_true rfl) ⟨Nat.le_of_ble_eq_true rfl, Nat.le_of_ble_eq_true rfl⟩ rfl ?_
  refine m_istore hC dX1_closes_5 (fun z9 => [(4, .int (z32 z9)), (0, .ref (g.2.2 15)), (1, .ref (g.2.2 6)), (2, .int (z32 z)), (3, .int (z32 len))]) (by decide) (fun _ => rfl) (fun v4_5 hv4_5 => ?_)
  refine m_aload_n hC dX1_closes_7 1 rfl ?_
  refine m_iload_n hC dX1_closes_8 4 rfl ?_
  refine m_iconst (v := 1) hC dX1_closes_9 (by decide) ?_
  refine m_isub hC dX1_closes_10 ?_
  refine m_callVi (n := 1) hC (c_X1_shopAt hc (by omega)) gX1_closes_X1_shopAt rfl dX1_closes_11 rfl rfl (by decide +kernel) ⟨Nat.le_of_ble_eq_true rfl, Nat.le_of_ble_eq_true rfl⟩ rfl (Nat.le_of_ble_eq_true rfl) ⟨Nat.le_of_ble_eq_true rfl, Nat.le_of_ble_eq_true rfl⟩ rfl ?_
  refine m_istore hC dX1_closes_14 (fun z9 => [(5, .int (z32 z9)), (4, .int (z32 v4_5)), (0, .ref (g.2.2 15)), (1, .ref (g.2.2 6)), (2, .int (z32 z)), (3, .int (z32 len))]) (by decide) (fun _ => rfl) (fun v5_14 hv5_14 => ?_)
  refine m_iload_n hC dX1_closes_16 5 rfl ?_
  refine m_iload_n hC dX1_closes_17 4 rfl ?_
  refine m_icmp_ge (tgt := 26) hC dX1_closes_18 (by decide) (by omega) (by omega) (fun c_18 => ?_) (fun c_18 => ?_)
  · exfalso; omega
  · refine m_iload_n hC dX1_closes_21 5 rfl ?_
    refine m_iconst (v := 5) hC dX1_closes_22 (by decide) ?_
    refine m_icmp_lt (tgt := 43) hC dX1_closes_23 (by decide) (by omega) (by omega) (fun c_23 => ?_) (fun c_23 => ?_)
    · refine m_iload hC dX1_closes_43 1 rfl ?_
      refine m_iconst (v := 1) hC dX1_closes_45 (by decide) ?_
      refine m_iadd hC dX1_closes_46 ?_
      refine m_istore hC dX1_closes_47 (fun z9 => [(6, .int (z32 z9)), (5, .int (z32 v5_14)), (4, .int (z32 v4_5)), (0, .ref (g.2.2 15)), (1, .ref (g.2.2 6)), (2, .int (z32 z)), (3, .int (z32 len))]) (by decide) (fun _ => rfl) (fun v6_47 hv6_47 => ?_)
      have L49 : ∀ (n49 : Nat) (y : Int) (S1 : Mem), 8 - y < (n49 : Int) → clI S n 0 y S1 → v4_5 + 1 ≤ y → y ≤ 8 → MW C g 7 (0, 0) 49 [(0, .ref (g.2.2 15)), (1, .ref (g.2.2 6)), (2, .int (z32 z)), (3, .int (z32 len)), (4, .int (z32 v4_5)), (5, .int (z32 v5_14)), (6, .int (z32 y))] [] S1 := by
        intro n49
        induction n49 with
        | zero => intros; exfalso; omega
        | succ n49 ih49 =>
          intro y S1 hm49 hI hy1 hy2
          have hm := clI_mem hI
          have hA : anyI (fun k => decide (pth S1 k = y)) n = anyI (fun k => decide (pth S k = y)) n := anyI_cong (fun k k0 k1 => by rw [hm.2.2.2.2.2 k k0 k1])
          have hc1 : 0 ≤ S1 15 1 ∧ S1 15 1 < 57 := by rw [hm.2.2.1]; exact hc
          have hst := cl_set hI hn
          refine m_iload hC dX1_closes_49 6 rfl ?_
          refine m_bipush (v := 8) hC dX1_closes_51 (by decide) ?_
          refine m_icmp_ge (tgt := 104) hC dX1_closes_53 (by decide) (by omega) (by omega) (fun c_53 => ?_) (fun c_53 => ?_)
          · refine m_iconst (v := 0) hC dX1_closes_104 (by decide) ?_
            refine m_iretx hC hR (Or.inr ⟨rfl, Or.inl rfl⟩) dX1_closes_105 ⟨Nat.le_of_ble_eq_true rfl, Nat.le_of_ble_eq_true rfl⟩ ?_
            exact cl_end (by rw [show (8 : Int) = y by omega]; exact hI)
          · refine m_aload_n hC dX1_closes_56 1 rfl ?_
            refine m_iload hC dX1_closes_57 5 rfl ?_
            refine m_iload hC dX1_closes_59 6 rfl ?_
            refine m_callVi (n := 2) hC (c_open9 (by omega) (by omega)) gX1_closes_X0_open rfl dX1_closes_61 rfl rfl (by decide +kernel) ⟨Nat.le_of_ble_eq_true rfl, Nat.le_of_ble_eq_true rfl⟩ rfl (Nat.le_of_ble_eq_true rfl) ⟨Nat.le_of_ble_eq_true rfl, Nat.le_of_ble_eq_true rfl⟩ rfl ?_
            refine m_if_le (tgt := 98) hC dX1_closes_64 (by decide) (by rw [hm.1, hm.2.1]; have h9 := hO v5_14 y; rw [opn_ix (by omega) (by omega)] at h9; exact h9) (fun c_64 => ?_) (fun c_64 => ?_)
            · have hN := clI_skip hI (by omega) (clF_no1 (r := 0) (y := y) hn (by rw [← hm.1, ← hm.2.1, ← hl, ← hv5_14]; omega))
              refine m_iinc hC dX1_closes_98 6 rfl (fun z9 => [(6, .int (z32 z9)), (0, .ref (g.2.2 15)), (1, .ref (g.2.2 6)), (2, .int (z32 z)), (3, .int (z32 len)), (4, .int (z32 v4_5)), (5, .int (z32 v5_14))]) (by decide) (fun _ => rfl) (fun v6_98 hv6_98 => ?_)
              refine m_goto (tgt := 49) hC dX1_closes_101 (by decide) ?_
              refine m_locals [1, 2, 3, 4, 5, 6, 0] rfl ?_
              exact ih49 v6_98 _ (by omega) (by rw [hv6_98]; exact hN) (by omega) (by omega)
            · have hG1 : 0 < S 8 (ix (pth S ((n : Int) - 1)) y) - S 10 (ix (pth S ((n : Int) - 1)) y) := by rw [← hm.1, ← hm.2.1, ← hl, ← hv5_14]; omega
              refine m_aload_n hC dX1_closes_67 0 rfl ?_
              refine m_iload hC dX1_closes_68 6 rfl ?_
              refine m_iload_n hC dX1_closes_70 3 rfl ?_
              refine m_callVi (n := 2) hC (c_X1_isSet hc1 hl (by omega) (by omega) (fun k k0 k1 => by rw [hm.2.2.2.2.2 k k0 k1]; have := hp k k0 k1; omega)) gX1_closes_X1_isSet rfl dX1_closes_71 rfl rfl (by decide +kernel) ⟨Nat.le_of_ble_eq_true rfl, Nat.le_of_ble_eq_true rfl⟩ rfl (Nat.le_of_ble_eq_true rfl) ⟨Nat.le_of_ble_eq_true rfl, Nat.le_of_ble_eq_true rfl⟩ rfl ?_
              refine m_if_ne (tgt := 98) hC dX1_closes_74 (by decide) (by have := bI_rng (anyI (fun k => decide (pth S1 k = y)) n); omega) (fun c_74 => ?_) (fun c_74 => ?_)
              · have hN := clI_skip hI (by omega) (clF_no2 (r := 0) (by rw [← hA]; exact bI_1 c_74))
                refine m_iinc hC dX1_closes_98 6 rfl (fun z9 => [(6, .int (z32 z9)), (0, .ref (g.2.2 15)), (1, .ref (g.2.2 6)), (2, .int (z32 z)), (3, .int (z32 len)), (4, .int (z32 v4_5)), (5, .int (z32 v5_14))]) (by decide) (fun _ => rfl) (fun v6_98 hv6_98 => ?_)
                refine m_goto (tgt := 49) hC dX1_closes_101 (by decide) ?_
                refine m_locals [1, 2, 3, 4, 5, 6, 0] rfl ?_
                exact ih49 v6_98 _ (by omega) (by rw [hv6_98]; exact hN) (by omega) (by omega)
              · have hA2 : anyI (fun k => decide (pth S k = y)) n = false := by rw [← hA]; exact bI_0 (Decidable.of_not_not c_74)
                refine m_aload_n hC dX1_closes_77 0 rfl ?_
                refine m_iload_n hC dX1_closes_78 3 rfl ?_
                refine m_iload hC dX1_closes_79 6 rfl ?_
                refine m_callVv (n := 2) hC (c_X1_setShopAt hc1 (by omega)) gX1_closes_X1_setShopAt rfl dX1_closes_81 rfl rfl (by decide +kernel) ⟨Nat.le_of_ble_eq_true rfl, Nat.le_of_ble_eq_true rfl⟩ rfl (Nat.le_of_ble_eq_true rfl) ⟨Nat.le_of_ble_eq_true rfl, Nat.le_of_ble_eq_true rfl⟩ rfl ?_
                refine m_aload_n hC dX1_closes_84 0 rfl ?_
                refine m_aload_n hC dX1_closes_85 1 rfl ?_
                refine m_iload_n hC dX1_closes_86 2 rfl ?_
                refine m_iload_n hC dX1_closes_87 3 rfl ?_
                refine m_iconst (v := 1) hC dX1_closes_88 (by decide) ?_
                refine m_iadd hC dX1_closes_89 ?_
                refine m_callSix (n := 4) hC (c_closes_0 (S := put17 S1 (2 + len) y) (n := n + 1) (z := z) (len := len + 1) hc1 (by omega) (by omega) (by omega) (by omega) (by rw [hl]; exact cl_rng hI hn hp (by omega)) (by show Ok (S1 8); rw [hm.1]; exact hok) (by show Fz (S1 8) (S1 10); rw [hm.1, hm.2.1]; exact hf)) gX1_closes_X1_closes rfl dX1_closes_90 (by decide +kernel) ⟨Nat.le_of_ble_eq_true rfl, Nat.le_of_ble_eq_true rfl⟩ rfl (Nat.le_of_ble_eq_true rfl) ⟨Nat.le_of_ble_eq_true rfl, Nat.le_of_ble_eq_true rfl⟩ rfl (fun v9 S3 hv9 => ?_)
                rw [hl] at hv9
                refine m_if_eq (tgt := 98) hC dX1_closes_93 (by decide) (by have := clP_v hv9; omega) (fun c_93 => ?_) (fun c_93 => ?_)
                · have hN := (cl_back hI hn (by omega) (by omega) hG1 hA2 hv9).1 c_93
                  refine m_iinc hC dX1_closes_98 6 rfl (fun z9 => [(6, .int (z32 z9)), (0, .ref (g.2.2 15)), (1, .ref (g.2.2 6)), (2, .int (z32 z)), (3, .int (z32 len)), (4, .int (z32 v4_5)), (5, .int (z32 v5_14))]) (by decide) (fun _ => rfl) (fun v6_98 hv6_98 => ?_)
                  refine m_goto (tgt := 49) hC dX1_closes_101 (by decide) ?_
                  refine m_locals [1, 2, 3, 4, 5, 6, 0] rfl ?_
                  exact ih49 v6_98 _ (by omega) (by rw [hv6_98]; exact hN) (by omega) (by omega)
                · refine m_iconst (v := 1) hC dX1_closes_96 (by decide) ?_
                  refine m_iretx hC hR (Or.inr ⟨rfl, Or.inr rfl⟩) dX1_closes_97 ⟨Nat.le_of_ble_eq_true rfl, Nat.le_of_ble_eq_true rfl⟩ ?_
                  exact (cl_back hI hn (by omega) (by omega) hG1 hA2 hv9).2 c_93
      refine m_locals [3, 4, 5, 6, 2, 1, 0] rfl ?_
      exact L49 9 v6_47 S (by omega) (by rw [hv6_47, hv4_5]; exact clI_0 hp0) (by omega) (by omega)
    · exfalso; omega
set_option maxHeartbeats 4000000 in
set_option maxRecDepth 100000 in
theorem c_closes_t2 {g : mG} {S : Mem} (hc : 0 ≤ S 15 1 ∧ S 15 1 < 57) {n : Nat} {z len : Int} (hl : len = n) (hz : z = (n : Int) + 2) (hn : 1 ≤ n) (h5 : n + 2 ≤ 5) (hp : ∀ k : Int, 0 ≤ k → k < n → 0 ≤ pth S k ∧ pth S k < 8) (hok : Ok (S 8)) (hf : Fz (S 8) (S 10)) (l : Launch) : Does l yX1_closes wsX1_closes ({ frames := 7, cells := 0, slots := 0, locals := 172 } : Room) g [.ref (g.2.2 15), .ref (g.2.2 6), .int (z32 z), .int (z32 len)] S (PIx (fun v S' => clP S n 2 v S')) := by
  refine Does.of (cc := cX1_closes) (maxL := 7) (ret := (some .boolean)) (own := RX1) (by decide) rfl rfl (Nat.le_of_ble_eq_true rfl) ?_
  intro C hC hR
  show MW C g 7 (0, 0) 0 [(0, .ref (g.2.2 15)), (1, .ref (g.2.2 6)), (2, .int (z32 z)), (3, .int (z32 len))] [] S
  have hO := opnOk_of hok hf
  have hp0 := hp 0 (by omega) (by omega)
  have hpl := hp (len - 1) (by omega) (by omega)
  refine m_aload_n hC dX1_closes_0 0 rfl ?_
  refine m_iconst (v := 0) hC dX1_closes_1 (by decide) ?_
  refine m_callVi (n := 1) hC (c_X1_shopAt hc (by omega)) gX1_closes_X1_shopAt rfl dX1_closes_2 rfl rfl (by decide +kernel) ⟨Nat.le_of_ble_eq_true rfl, Nat.le_of_ble_eq_true rfl⟩ rfl (Nat.le_of_ble_eq_true rfl) ⟨Nat.le_of_ble_eq_true rfl, Nat.le_of_ble_eq_true rfl⟩ rfl ?_
  refine m_istore hC dX1_closes_5 (fun z9 => [(4, .int (z32 z9)), (0, .ref (g.2.2 15)), (1, .ref (g.2.2 6)), (2, .int (z32 z)), (3, .int (z32 len))]) (by decide) (fun _ => rfl) (fun v4_5 hv4_5 => ?_)
  refine m_aload_n hC dX1_closes_7 1 rfl ?_
  refine m_iload_n hC dX1_closes_8 4 rfl ?_
  refine m_iconst (v := 1) hC dX1_closes_9 (by decide) ?_
  refine m_isub hC dX1_closes_10 ?_
  refine m_callVi (n := 1) hC (c_X1_shopAt hc (by omega)) gX1_closes_X1_shopAt rfl dX1_closes_11 rfl rfl (by decide +kernel) ⟨Nat.le_of_ble_eq_true rfl, Nat.le_of_ble_eq_true rfl⟩ rfl (Nat.le_of_ble_eq_true rfl) ⟨Nat.le_of_ble_eq_true rfl, Nat.le_of_ble_eq_true rfl⟩ rfl ?_
  refine m_istore hC dX1_closes_14 (fun z9 => [(5, .int (z32 z9)), (4, .int (z32 v4_5)), (0, .ref (g.2.2 15)), (1, .ref (g.2.2 6)), (2, .int (z32 z)), (3, .int (z32 len))]) (by decide) (fun _ => rfl) (fun v5_14 hv5_14 => ?_)
  refine m_iload_n hC dX1_closes_16 5 rfl ?_
  refine m_iload_n hC dX1_closes_17 4 rfl ?_
  refine m_icmp_ge (tgt := 26) hC dX1_closes_18 (by decide) (by omega) (by omega) (fun c_18 => ?_) (fun c_18 => ?_)
  · exfalso; omega
  · refine m_iload_n hC dX1_closes_21 5 rfl ?_
    refine m_iconst (v := 5) hC dX1_closes_22 (by decide) ?_
    refine m_icmp_lt (tgt := 43) hC dX1_closes_23 (by decide) (by omega) (by omega) (fun c_23 => ?_) (fun c_23 => ?_)
    · refine m_iload hC dX1_closes_43 1 rfl ?_
      refine m_iconst (v := 1) hC dX1_closes_45 (by decide) ?_
      refine m_iadd hC dX1_closes_46 ?_
      refine m_istore hC dX1_closes_47 (fun z9 => [(6, .int (z32 z9)), (5, .int (z32 v5_14)), (4, .int (z32 v4_5)), (0, .ref (g.2.2 15)), (1, .ref (g.2.2 6)), (2, .int (z32 z)), (3, .int (z32 len))]) (by decide) (fun _ => rfl) (fun v6_47 hv6_47 => ?_)
      have L49 : ∀ (n49 : Nat) (y : Int) (S1 : Mem), 8 - y < (n49 : Int) → clI S n 1 y S1 → v4_5 + 1 ≤ y → y ≤ 8 → MW C g 7 (0, 0) 49 [(0, .ref (g.2.2 15)), (1, .ref (g.2.2 6)), (2, .int (z32 z)), (3, .int (z32 len)), (4, .int (z32 v4_5)), (5, .int (z32 v5_14)), (6, .int (z32 y))] [] S1 := by
        intro n49
        induction n49 with
        | zero => intros; exfalso; omega
        | succ n49 ih49 =>
          intro y S1 hm49 hI hy1 hy2
          have hm := clI_mem hI
          have hA : anyI (fun k => decide (pth S1 k = y)) n = anyI (fun k => decide (pth S k = y)) n := anyI_cong (fun k k0 k1 => by rw [hm.2.2.2.2.2 k k0 k1])
          have hc1 : 0 ≤ S1 15 1 ∧ S1 15 1 < 57 := by rw [hm.2.2.1]; exact hc
          have hst := cl_set hI hn
          refine m_iload hC dX1_closes_49 6 rfl ?_
          refine m_bipush (v := 8) hC dX1_closes_51 (by decide) ?_
          refine m_icmp_ge (tgt := 104) hC dX1_closes_53 (by decide) (by omega) (by omega) (fun c_53 => ?_) (fun c_53 => ?_)
          · refine m_iconst (v := 0) hC dX1_closes_104 (by decide) ?_
            refine m_iretx hC hR (Or.inr ⟨rfl, Or.inl rfl⟩) dX1_closes_105 ⟨Nat.le_of_ble_eq_true rfl, Nat.le_of_ble_eq_true rfl⟩ ?_
            exact cl_end (by rw [show (8 : Int) = y by omega]; exact hI)
          · refine m_aload_n hC dX1_closes_56 1 rfl ?_
            refine m_iload hC dX1_closes_57 5 rfl ?_
            refine m_iload hC dX1_closes_59 6 rfl ?_
            refine m_callVi (n := 2) hC (c_open9 (by omega) (by omega)) gX1_closes_X0_open rfl dX1_closes_61 rfl rfl (by decide +kernel) ⟨Nat.le_of_ble_eq_true rfl, Nat.le_of_ble_eq_true rfl⟩ rfl (Nat.le_of_ble_eq_true rfl) ⟨Nat.le_of_ble_eq_true rfl, Nat.le_of_ble_eq_true rfl⟩ rfl ?_
            refine m_if_le (tgt := 98) hC dX1_closes_64 (by decide) (by rw [hm.1, hm.2.1]; have h9 := hO v5_14 y; rw [opn_ix (by omega) (by omega)] at h9; exact h9) (fun c_64 => ?_) (fun c_64 => ?_)
            · have hN := clI_skip hI (by omega) (clF_no1 (r := 1) (y := y) hn (by rw [← hm.1, ← hm.2.1, ← hl, ← hv5_14]; omega))
              refine m_iinc hC dX1_closes_98 6 rfl (fun z9 => [(6, .int (z32 z9)), (0, .ref (g.2.2 15)), (1, .ref (g.2.2 6)), (2, .int (z32 z)), (3, .int (z32 len)), (4, .int (z32 v4_5)), (5, .int (z32 v5_14))]) (by decide) (fun _ => rfl) (fun v6_98 hv6_98 => ?_)
              refine m_goto (tgt := 49) hC dX1_closes_101 (by decide) ?_
              refine m_locals [1, 2, 3, 4, 5, 6, 0] rfl ?_
              exact ih49 v6_98 _ (by omega) (by rw [hv6_98]; exact hN) (by omega) (by omega)
            · have hG1 : 0 < S 8 (ix (pth S ((n : Int) - 1)) y) - S 10 (ix (pth S ((n : Int) - 1)) y) := by rw [← hm.1, ← hm.2.1, ← hl, ← hv5_14]; omega
              refine m_aload_n hC dX1_closes_67 0 rfl ?_
              refine m_iload hC dX1_closes_68 6 rfl ?_
              refine m_iload_n hC dX1_closes_70 3 rfl ?_
              refine m_callVi (n := 2) hC (c_X1_isSet hc1 hl (by omega) (by omega) (fun k k0 k1 => by rw [hm.2.2.2.2.2 k k0 k1]; have := hp k k0 k1; omega)) gX1_closes_X1_isSet rfl dX1_closes_71 rfl rfl (by decide +kernel) ⟨Nat.le_of_ble_eq_true rfl, Nat.le_of_ble_eq_true rfl⟩ rfl (Nat.le_of_ble_eq_true rfl) ⟨Nat.le_of_ble_eq_true rfl, Nat.le_of_ble_eq_true rfl⟩ rfl ?_
              refine m_if_ne (tgt := 98) hC dX1_closes_74 (by decide) (by have := bI_rng (anyI (fun k => decide (pth S1 k = y)) n); omega) (fun c_74 => ?_) (fun c_74 => ?_)
              · have hN := clI_skip hI (by omega) (clF_no2 (r := 1) (by rw [← hA]; exact bI_1 c_74))
                refine m_iinc hC dX1_closes_98 6 rfl (fun z9 => [(6, .int (z32 z9)), (0, .ref (g.2.2 15)), (1, .ref (g.2.2 6)), (2, .int (z32 z)), (3, .int (z32 len)), (4, .int (z32 v4_5)), (5, .int (z32 v5_14))]) (by decide) (fun _ => rfl) (fun v6_98 hv6_98 => ?_)
                refine m_goto (tgt := 49) hC dX1_closes_101 (by decide) ?_
                refine m_locals [1, 2, 3, 4, 5, 6, 0] rfl ?_
                exact ih49 v6_98 _ (by omega) (by rw [hv6_98]; exact hN) (by omega) (by omega)
              · have hA2 : anyI (fun k => decide (pth S k = y)) n = false := by rw [← hA]; exact bI_0 (Decidable.of_not_not c_74)
                refine m_aload_n hC dX1_closes_77 0 rfl ?_
                refine m_iload_n hC dX1_closes_78 3 rfl ?_
                refine m_iload hC dX1_closes_79 6 rfl ?_
                refine m_callVv (n := 2) hC (c_X1_setShopAt hc1 (by omega)) gX1_closes_X1_setShopAt rfl dX1_closes_81 rfl rfl (by decide +kernel) ⟨Nat.le_of_ble_eq_true rfl, Nat.le_of_ble_eq_true rfl⟩ rfl (Nat.le_of_ble_eq_true rfl) ⟨Nat.le_of_ble_eq_true rfl, Nat.le_of_ble_eq_true rfl⟩ rfl ?_
                refine m_aload_n hC dX1_closes_84 0 rfl ?_
                refine m_aload_n hC dX1_closes_85 1 rfl ?_
                refine m_iload_n hC dX1_closes_86 2 rfl ?_
                refine m_iload_n hC dX1_closes_87 3 rfl ?_
                refine m_iconst (v := 1) hC dX1_closes_88 (by decide) ?_
                refine m_iadd hC dX1_closes_89 ?_
                refine m_callSix (n := 4) hC (c_closes_1 (S := put17 S1 (2 + len) y) (n := n + 1) (z := z) (len := len + 1) hc1 (by omega) (by omega) (by omega) (by omega) (by rw [hl]; exact cl_rng hI hn hp (by omega)) (by show Ok (S1 8); rw [hm.1]; exact hok) (by show Fz (S1 8) (S1 10); rw [hm.1, hm.2.1]; exact hf)) gX1_closes_X1_closes rfl dX1_closes_90 (by decide +kernel) ⟨Nat.le_of_ble_eq_true rfl, Nat.le_of_ble_eq_true rfl⟩ rfl (Nat.le_of_ble_eq_true rfl) ⟨Nat.le_of_ble_eq_true rfl, Nat.le_of_ble_eq_true rfl⟩ rfl (fun v9 S3 hv9 => ?_)
                rw [hl] at hv9
                refine m_if_eq (tgt := 98) hC dX1_closes_93 (by decide) (by have := clP_v hv9; omega) (fun c_93 => ?_) (fun c_93 => ?_)
                · have hN := (cl_back hI hn (by omega) (by omega) hG1 hA2 hv9).1 c_93
                  refine m_iinc hC dX1_closes_98 6 rfl (fun z9 => [(6, .int (z32 z9)), (0, .ref (g.2.2 15)), (1, .ref (g.2.2 6)), (2, .int (z32 z)), (3, .int (z32 len)), (4, .int (z32 v4_5)), (5, .int (z32 v5_14))]) (by decide) (fun _ => rfl) (fun v6_98 hv6_98 => ?_)
                  refine m_goto (tgt := 49) hC dX1_closes_101 (by decide) ?_
                  refine m_locals [1, 2, 3, 4, 5, 6, 0] rfl ?_
                  exact ih49 v6_98 _ (by omega) (by rw [hv6_98]; exact hN) (by omega) (by omega)
                · refine m_iconst (v := 1) hC dX1_closes_96 (by decide) ?_
                  refine m_iretx hC hR (Or.inr ⟨rfl, Or.inr rfl⟩) dX1_closes_97 ⟨Nat.le_of_ble_eq_true rfl, Nat.le_of_ble_eq_true rfl⟩ ?_
                  exact (cl_back hI hn (by omega) (by omega) hG1 hA2 hv9).2 c_93
      refine m_locals [3, 4, 5, 6, 2, 1, 0] rfl ?_
      exact L49 9 v6_47 S (by omega) (by rw [hv6_47, hv4_5]; exact clI_0 hp0) (by omega) (by omega)
    · exfalso; omega
set_option maxHeartbeats 4000000 in
set_option maxRecDepth 100000 in
theorem c_closes_t3 {g : mG} {S : Mem} (hc : 0 ≤ S 15 1 ∧ S 15 1 < 57) {n : Nat} {z len : Int} (hl : len = n) (hz : z = (n : Int) + 3) (hn : 1 ≤ n) (h5 : n + 3 ≤ 5) (hp : ∀ k : Int, 0 ≤ k → k < n → 0 ≤ pth S k ∧ pth S k < 8) (hok : Ok (S 8)) (hf : Fz (S 8) (S 10)) (l : Launch) : Does l yX1_closes wsX1_closes ({ frames := 7, cells := 0, slots := 0, locals := 172 } : Room) g [.ref (g.2.2 15), .ref (g.2.2 6), .int (z32 z), .int (z32 len)] S (PIx (fun v S' => clP S n 3 v S')) := by
  refine Does.of (cc := cX1_closes) (maxL := 7) (ret := (some .boolean)) (own := RX1) (by decide) rfl rfl (Nat.le_of_ble_eq_true rfl) ?_
  intro C hC hR
  show MW C g 7 (0, 0) 0 [(0, .ref (g.2.2 15)), (1, .ref (g.2.2 6)), (2, .int (z32 z)), (3, .int (z32 len))] [] S
  have hO := opnOk_of hok hf
  have hp0 := hp 0 (by omega) (by omega)
  have hpl := hp (len - 1) (by omega) (by omega)
  refine m_aload_n hC dX1_closes_0 0 rfl ?_
  refine m_iconst (v := 0) hC dX1_closes_1 (by decide) ?_
  refine m_callVi (n := 1) hC (c_X1_shopAt hc (by omega)) gX1_closes_X1_shopAt rfl dX1_closes_2 rfl rfl (by decide +kernel) ⟨Nat.le_of_ble_eq_true rfl, Nat.le_of_ble_eq_true rfl⟩ rfl (Nat.le_of_ble_eq_true rfl) ⟨Nat.le_of_ble_eq_true rfl, Nat.le_of_ble_eq_true rfl⟩ rfl ?_
  refine m_istore hC dX1_closes_5 (fun z9 => [(4, .int (z32 z9)), (0, .ref (g.2.2 15)), (1, .ref (g.2.2 6)), (2, .int (z32 z)), (3, .int (z32 len))]) (by decide) (fun _ => rfl) (fun v4_5 hv4_5 => ?_)
  refine m_aload_n hC dX1_closes_7 1 rfl ?_
  refine m_iload_n hC dX1_closes_8 4 rfl ?_
  refine m_iconst (v := 1) hC dX1_closes_9 (by decide) ?_
  refine m_isub hC dX1_closes_10 ?_
  refine m_callVi (n := 1) hC (c_X1_shopAt hc (by omega)) gX1_closes_X1_shopAt rfl dX1_closes_11 rfl rfl (by decide +kernel) ⟨Nat.le_of_ble_eq_true rfl, Nat.le_of_ble_eq_true rfl⟩ rfl (Nat.le_of_ble_eq_true rfl) ⟨Nat.le_of_ble_eq_true rfl, Nat.le_of_ble_eq_true rfl⟩ rfl ?_
  refine m_istore hC dX1_closes_14 (fun z9 => [(5, .int (z32 z9)), (4, .int (z32 v4_5)), (0, .ref (g.2.2 15)), (1, .ref (g.2.2 6)), (2, .int (z32 z)), (3, .int (z32 len))]) (by decide) (fun _ => rfl) (fun v5_14 hv5_14 => ?_)
  refine m_iload_n hC dX1_closes_16 5 rfl ?_
  refine m_iload_n hC dX1_closes_17 4 rfl ?_
  refine m_icmp_ge (tgt := 26) hC dX1_closes_18 (by decide) (by omega) (by omega) (fun c_18 => ?_) (fun c_18 => ?_)
  · exfalso; omega
  · refine m_iload_n hC dX1_closes_21 5 rfl ?_
    refine m_iconst (v := 5) hC dX1_closes_22 (by decide) ?_
    refine m_icmp_lt (tgt := 43) hC dX1_closes_23 (by decide) (by omega) (by omega) (fun c_23 => ?_) (fun c_23 => ?_)
    · refine m_iload hC dX1_closes_43 1 rfl ?_
      refine m_iconst (v := 1) hC dX1_closes_45 (by decide) ?_
      refine m_iadd hC dX1_closes_46 ?_
      refine m_istore hC dX1_closes_47 (fun z9 => [(6, .int (z32 z9)), (5, .int (z32 v5_14)), (4, .int (z32 v4_5)), (0, .ref (g.2.2 15)), (1, .ref (g.2.2 6)), (2, .int (z32 z)), (3, .int (z32 len))]) (by decide) (fun _ => rfl) (fun v6_47 hv6_47 => ?_)
      have L49 : ∀ (n49 : Nat) (y : Int) (S1 : Mem), 8 - y < (n49 : Int) → clI S n 2 y S1 → v4_5 + 1 ≤ y → y ≤ 8 → MW C g 7 (0, 0) 49 [(0, .ref (g.2.2 15)), (1, .ref (g.2.2 6)), (2, .int (z32 z)), (3, .int (z32 len)), (4, .int (z32 v4_5)), (5, .int (z32 v5_14)), (6, .int (z32 y))] [] S1 := by
        intro n49
        induction n49 with
        | zero => intros; exfalso; omega
        | succ n49 ih49 =>
          intro y S1 hm49 hI hy1 hy2
          have hm := clI_mem hI
          have hA : anyI (fun k => decide (pth S1 k = y)) n = anyI (fun k => decide (pth S k = y)) n := anyI_cong (fun k k0 k1 => by rw [hm.2.2.2.2.2 k k0 k1])
          have hc1 : 0 ≤ S1 15 1 ∧ S1 15 1 < 57 := by rw [hm.2.2.1]; exact hc
          have hst := cl_set hI hn
          refine m_iload hC dX1_closes_49 6 rfl ?_
          refine m_bipush (v := 8) hC dX1_closes_51 (by decide) ?_
          refine m_icmp_ge (tgt := 104) hC dX1_closes_53 (by decide) (by omega) (by omega) (fun c_53 => ?_) (fun c_53 => ?_)
          · refine m_iconst (v := 0) hC dX1_closes_104 (by decide) ?_
            refine m_iretx hC hR (Or.inr ⟨rfl, Or.inl rfl⟩) dX1_closes_105 ⟨Nat.le_of_ble_eq_true rfl, Nat.le_of_ble_eq_true rfl⟩ ?_
            exact cl_end (by rw [show (8 : Int) = y by omega]; exact hI)
          · refine m_aload_n hC dX1_closes_56 1 rfl ?_
            refine m_iload hC dX1_closes_57 5 rfl ?_
            refine m_iload hC dX1_closes_59 6 rfl ?_
            refine m_callVi (n := 2) hC (c_open9 (by omega) (by omega)) gX1_closes_X0_open rfl dX1_closes_61 rfl rfl (by decide +kernel) ⟨Nat.le_of_ble_eq_true rfl, Nat.le_of_ble_eq_true rfl⟩ rfl (Nat.le_of_ble_eq_true rfl) ⟨Nat.le_of_ble_eq_true rfl, Nat.le_of_ble_eq_true rfl⟩ rfl ?_
            refine m_if_le (tgt := 98) hC dX1_closes_64 (by decide) (by rw [hm.1, hm.2.1]; have h9 := hO v5_14 y; rw [opn_ix (by omega) (by omega)] at h9; exact h9) (fun c_64 => ?_) (fun c_64 => ?_)
            · have hN := clI_skip hI (by omega) (clF_no1 (r := 2) (y := y) hn (by rw [← hm.1, ← hm.2.1, ← hl, ← hv5_14]; omega))
              refine m_iinc hC dX1_closes_98 6 rfl (fun z9 => [(6, .int (z32 z9)), (0, .ref (g.2.2 15)), (1, .ref (g.2.2 6)), (2, .int (z32 z)), (3, .int (z32 len)), (4, .int (z32 v4_5)), (5, .int (z32 v5_14))]) (by decide) (fun _ => rfl) (fun v6_98 hv6_98 => ?_)
              refine m_goto (tgt := 49) hC dX1_closes_101 (by decide) ?_
              refine m_locals [1, 2, 3, 4, 5, 6, 0] rfl ?_
              exact ih49 v6_98 _ (by omega) (by rw [hv6_98]; exact hN) (by omega) (by omega)
            · have hG1 : 0 < S 8 (ix (pth S ((n : Int) - 1)) y) - S 10 (ix (pth S ((n : Int) - 1)) y) := by rw [← hm.1, ← hm.2.1, ← hl, ← hv5_14]; omega
              refine m_aload_n hC dX1_closes_67 0 rfl ?_
              refine m_iload hC dX1_closes_68 6 rfl ?_
              refine m_iload_n hC dX1_closes_70 3 rfl ?_
              refine m_callVi (n := 2) hC (c_X1_isSet hc1 hl (by omega) (by omega) (fun k k0 k1 => by rw [hm.2.2.2.2.2 k k0 k1]; have := hp k k0 k1; omega)) gX1_closes_X1_isSet rfl dX1_closes_71 rfl rfl (by decide +kernel) ⟨Nat.le_of_ble_eq_true rfl, Nat.le_of_ble_eq_true rfl⟩ rfl (Nat.le_of_ble_eq_true rfl) ⟨Nat.le_of_ble_eq_true rfl, Nat.le_of_ble_eq_true rfl⟩ rfl ?_
              refine m_if_ne (tgt := 98) hC dX1_closes_74 (by decide) (by have := bI_rng (anyI (fun k => decide (pth S1 k = y)) n); omega) (fun c_74 => ?_) (fun c_74 => ?_)
              · have hN := clI_skip hI (by omega) (clF_no2 (r := 2) (by rw [← hA]; exact bI_1 c_74))
                refine m_iinc hC dX1_closes_98 6 rfl (fun z9 => [(6, .int (z32 z9)), (0, .ref (g.2.2 15)), (1, .ref (g.2.2 6)), (2, .int (z32 z)), (3, .int (z32 len)), (4, .int (z32 v4_5)), (5, .int (z32 v5_14))]) (by decide) (fun _ => rfl) (fun v6_98 hv6_98 => ?_)
                refine m_goto (tgt := 49) hC dX1_closes_101 (by decide) ?_
                refine m_locals [1, 2, 3, 4, 5, 6, 0] rfl ?_
                exact ih49 v6_98 _ (by omega) (by rw [hv6_98]; exact hN) (by omega) (by omega)
              · have hA2 : anyI (fun k => decide (pth S k = y)) n = false := by rw [← hA]; exact bI_0 (Decidable.of_not_not c_74)
                refine m_aload_n hC dX1_closes_77 0 rfl ?_
                refine m_iload_n hC dX1_closes_78 3 rfl ?_
                refine m_iload hC dX1_closes_79 6 rfl ?_
                refine m_callVv (n := 2) hC (c_X1_setShopAt hc1 (by omega)) gX1_closes_X1_setShopAt rfl dX1_closes_81 rfl rfl (by decide +kernel) ⟨Nat.le_of_ble_eq_true rfl, Nat.le_of_ble_eq_true rfl⟩ rfl (Nat.le_of_ble_eq_true rfl) ⟨Nat.le_of_ble_eq_true rfl, Nat.le_of_ble_eq_true rfl⟩ rfl ?_
                refine m_aload_n hC dX1_closes_84 0 rfl ?_
                refine m_aload_n hC dX1_closes_85 1 rfl ?_
                refine m_iload_n hC dX1_closes_86 2 rfl ?_
                refine m_iload_n hC dX1_closes_87 3 rfl ?_
                refine m_iconst (v := 1) hC dX1_closes_88 (by decide) ?_
                refine m_iadd hC dX1_closes_89 ?_
                refine m_callSix (n := 4) hC (c_closes_2 (S := put17 S1 (2 + len) y) (n := n + 1) (z := z) (len := len + 1) hc1 (by omega) (by omega) (by omega) (by omega) (by rw [hl]; exact cl_rng hI hn hp (by omega)) (by show Ok (S1 8); rw [hm.1]; exact hok) (by show Fz (S1 8) (S1 10); rw [hm.1, hm.2.1]; exact hf)) gX1_closes_X1_closes rfl dX1_closes_90 (by decide +kernel) ⟨Nat.le_of_ble_eq_true rfl, Nat.le_of_ble_eq_true rfl⟩ rfl (Nat.le_of_ble_eq_true rfl) ⟨Nat.le_of_ble_eq_true rfl, Nat.le_of_ble_eq_true rfl⟩ rfl (fun v9 S3 hv9 => ?_)
                rw [hl] at hv9
                refine m_if_eq (tgt := 98) hC dX1_closes_93 (by decide) (by have := clP_v hv9; omega) (fun c_93 => ?_) (fun c_93 => ?_)
                · have hN := (cl_back hI hn (by omega) (by omega) hG1 hA2 hv9).1 c_93
                  refine m_iinc hC dX1_closes_98 6 rfl (fun z9 => [(6, .int (z32 z9)), (0, .ref (g.2.2 15)), (1, .ref (g.2.2 6)), (2, .int (z32 z)), (3, .int (z32 len)), (4, .int (z32 v4_5)), (5, .int (z32 v5_14))]) (by decide) (fun _ => rfl) (fun v6_98 hv6_98 => ?_)
                  refine m_goto (tgt := 49) hC dX1_closes_101 (by decide) ?_
                  refine m_locals [1, 2, 3, 4, 5, 6, 0] rfl ?_
                  exact ih49 v6_98 _ (by omega) (by rw [hv6_98]; exact hN) (by omega) (by omega)
                · refine m_iconst (v := 1) hC dX1_closes_96 (by decide) ?_
                  refine m_iretx hC hR (Or.inr ⟨rfl, Or.inr rfl⟩) dX1_closes_97 ⟨Nat.le_of_ble_eq_true rfl, Nat.le_of_ble_eq_true rfl⟩ ?_
                  exact (cl_back hI hn (by omega) (by omega) hG1 hA2 hv9).2 c_93
      refine m_locals [3, 4, 5, 6, 2, 1, 0] rfl ?_
      exact L49 9 v6_47 S (by omega) (by rw [hv6_47, hv4_5]; exact clI_0 hp0) (by omega) (by omega)
    · exfalso; omega
theorem c_closes_any {g : mG} {S : Mem} (hc : 0 ≤ S 15 1 ∧ S 15 1 < 57) {z : Int} (hz : 2 ≤ z ∧ z ≤ 5) (hp : 0 ≤ pth S 0 ∧ pth S 0 < 8) (hok : Ok (S 8)) (hf : Fz (S 8) (S 10)) (l : Launch) : Does l yX1_closes wsX1_closes ({ frames := 7, cells := 0, slots := 0, locals := 172 } : Room) g [.ref (g.2.2 15), .ref (g.2.2 6), .int (z32 z), .int (z32 1)] S (PIx (fun v S' => clP S 1 (z - 1).toNat v S')) := by
  have hp1 : ∀ k : Int, 0 ≤ k → k < ((1 : Nat) : Int) → 0 ≤ pth S k ∧ pth S k < 8 := fun k k0 k1 => by
    rw [show k = 0 by omega]; exact hp
  rcases (show z = 2 ∨ z = 3 ∨ z = 4 ∨ z = 5 by omega) with rfl | rfl | rfl | rfl
  · exact c_closes_t1 (n := 1) hc (by omega) (by omega) (by omega) (by omega) hp1 hok hf l
  · exact c_closes_t2 (n := 1) hc (by omega) (by omega) (by omega) (by omega) hp1 hok hf l
  · exact c_closes_t3 (n := 1) hc (by omega) (by omega) (by omega) (by omega) hp1 hok hf l
  · exact c_closes_4 (n := 1) hc (by omega) (by omega) (by omega) (by omega) hp1 hok hf l
theorem iX1_find_1 : ∀ w ∈ wsX10, w ∈ wsX1_find := by decide +kernel
theorem fX1_find_16 : Cond.fieldLink RX1 16 "Mutualledger$Rings" "rows" "LMutualledger$Table;" ∈ wsX1_find := by decide +kernel
theorem fX1_find_20 : Cond.fieldLink RX1 20 "Mutualledger$Rings" "count" "I" ∈ wsX1_find := by decide +kernel
set_option maxHeartbeats 4000000 in
set_option maxRecDepth 100000 in
theorem c_X1_find {g : mG} {S : Mem} (hc : 0 ≤ S 15 1 ∧ S 15 1 < 57) (hok : Ok (S 8)) (hf : Fz (S 8) (S 10)) (l : Launch) : Does l yX1_find wsX1_find ({ frames := 8, cells := 0, slots := 0, locals := 198 } : Room) g [.ref (g.2.2 15), .ref (g.2.2 6)] S (PIx (fun v S' => fiP S v S')) := by
  refine Does.of (cc := cX1_find) (maxL := 4) (ret := (some .boolean)) (own := RX1) (by decide) rfl rfl (Nat.le_of_ble_eq_true rfl) ?_
  intro C hC hR
  show MW C g 4 (0, 0) 0 [(0, .ref (g.2.2 15)), (1, .ref (g.2.2 6))] [] S
  refine m_iconst (v := 2) hC dX1_find_0 (by decide) ?_
  refine m_istore_n hC dX1_find_1 (fun z9 => [(2, .int (z32 z9)), (0, .ref (g.2.2 15)), (1, .ref (g.2.2 6))]) (by decide) (fun _ => rfl) (fun v2_1 hv2_1 => ?_)
  have L2 : ∀ (n2 : Nat) (z : Int) (S1 : Mem), 6 - z < (n2 : Int) → fiI S z S1 → 2 ≤ z → z ≤ 6 → MW C g 4 (0, 0) 2 [(0, .ref (g.2.2 15)), (1, .ref (g.2.2 6)), (2, .int (z32 z))] [] S1 := by
    intro n2
    induction n2 with
    | zero => intros; exfalso; omega
    | succ n2 ih2 =>
      intro z S1 hm2 hI hz1 hz2
      have hm := fiI_mem hI
      have hc1 : 0 ≤ S1 15 1 ∧ S1 15 1 < 57 := by rw [hm.2.2]; exact hc
      refine m_iload_n hC dX1_find_2 2 rfl ?_
      refine m_iconst (v := 5) hC dX1_find_3 (by decide) ?_
      refine m_icmp_gt (tgt := 58) hC dX1_find_4 (by decide) (by omega) (by omega) (fun c_4 => ?_) (fun c_4 => ?_)
      · refine m_iconst (v := 0) hC dX1_find_58 (by decide) ?_
        refine m_iretx hC hR (Or.inr ⟨rfl, Or.inl rfl⟩) dX1_find_59 ⟨Nat.le_of_ble_eq_true rfl, Nat.le_of_ble_eq_true rfl⟩ ?_
        exact fi_end (by rw [show (6 : Int) = z by omega]; exact hI)
      · refine m_aload_n hC dX1_find_7 0 rfl ?_
        refine m_getR (o := 15) (j := 0) (a := 16) (CN := RX1) (T := TX1) (N := 2) hC iX1_find_1 fX1_find_16 rfl dX1_find_8 rfl rfl (by decide) rfl ?_
        refine m_aload_n hC dX1_find_11 0 rfl ?_
        refine m_getI (o := 15) (j := 1) (ji := 1) (CN := RX1) (T := TX1) (N := 2) hC iX1_find_1 fX1_find_20 rfl dX1_find_12 rfl rfl (by decide) rfl rfl ?_
        refine m_iconst (v := 0) hC dX1_find_15 (by decide) ?_
        refine m_iload_n hC dX1_find_16 2 rfl ?_
        refine m_callVv (n := 3) hC (c_set16 hc1 (by omega)) gX1_find_X2_set rfl dX1_find_17 rfl rfl (by decide +kernel) ⟨Nat.le_of_ble_eq_true rfl, Nat.le_of_ble_eq_true rfl⟩ rfl (Nat.le_of_ble_eq_true rfl) ⟨Nat.le_of_ble_eq_true rfl, Nat.le_of_ble_eq_true rfl⟩ rfl ?_
        refine m_iconst (v := 0) hC dX1_find_20 (by decide) ?_
        refine m_istore_n hC dX1_find_21 (fun z9 => [(3, .int (z32 z9)), (0, .ref (g.2.2 15)), (1, .ref (g.2.2 6)), (2, .int (z32 z))]) (by decide) (fun _ => rfl) (fun v3_21 hv3_21 => ?_)
        have L22 : ∀ (n22 : Nat) (y : Int) (S2 : Mem), 8 - y < (n22 : Int) → fjI S z y S2 → 0 ≤ y → y ≤ 8 → MW C g 4 (0, 0) 22 [(0, .ref (g.2.2 15)), (1, .ref (g.2.2 6)), (2, .int (z32 z)), (3, .int (z32 y))] [] S2 := by
          intro n22
          induction n22 with
          | zero => intros; exfalso; omega
          | succ n22 ih22 =>
            intro y S2 hm22 hJ hy1 hy2
            have hm2 := fjI_mem hJ
            have hc2 : 0 ≤ S2 15 1 ∧ S2 15 1 < 57 := by rw [hm2.2.2]; exact hc
            refine m_iload_n hC dX1_find_22 3 rfl ?_
            refine m_bipush (v := 8) hC dX1_find_23 (by decide) ?_
            refine m_icmp_ge (tgt := 52) hC dX1_find_25 (by decide) (by omega) (by omega) (fun c_25 => ?_) (fun c_25 => ?_)
            · refine m_iinc hC dX1_find_52 2 rfl (fun z9 => [(2, .int (z32 z9)), (0, .ref (g.2.2 15)), (1, .ref (g.2.2 6)), (3, .int (z32 y))]) (by decide) (fun _ => rfl) (fun v2_52 hv2_52 => ?_)
              refine m_goto (tgt := 2) hC dX1_find_55 (by decide) ?_
              refine m_locals [1, 2, 0] rfl ?_
              exact ih2 v2_52 _ (by omega) (by rw [hv2_52]; exact fi_next (by rw [show (8 : Int) = y by omega]; exact hJ)) (by omega) (by omega)
            · refine m_aload_n hC dX1_find_28 0 rfl ?_
              refine m_iconst (v := 0) hC dX1_find_29 (by decide) ?_
              refine m_iload_n hC dX1_find_30 3 rfl ?_
              refine m_callVv (n := 2) hC (c_X1_setShopAt hc2 (by omega)) gX1_find_X1_setShopAt rfl dX1_find_31 rfl rfl (by decide +kernel) ⟨Nat.le_of_ble_eq_true rfl, Nat.le_of_ble_eq_true rfl⟩ rfl (Nat.le_of_ble_eq_true rfl) ⟨Nat.le_of_ble_eq_true rfl, Nat.le_of_ble_eq_true rfl⟩ rfl ?_
              refine m_aload_n hC dX1_find_34 0 rfl ?_
              refine m_aload_n hC dX1_find_35 1 rfl ?_
              refine m_iload_n hC dX1_find_36 2 rfl ?_
              refine m_iconst (v := 1) hC dX1_find_37 (by decide) ?_
              refine m_callSix (n := 4) hC (c_closes_any (S := put17 S2 (2 + 0) y) (z := z) hc2 (by omega) (by rw [put17_at]; omega) (by show Ok (S2 8); rw [hm2.1]; exact hok) (by show Fz (S2 8) (S2 10); rw [hm2.1, hm2.2.1]; exact hf)) gX1_find_X1_closes rfl dX1_find_38 (by decide +kernel) ⟨Nat.le_of_ble_eq_true rfl, Nat.le_of_ble_eq_true rfl⟩ rfl (Nat.le_of_ble_eq_true rfl) ⟨Nat.le_of_ble_eq_true rfl, Nat.le_of_ble_eq_true rfl⟩ rfl (fun v9 S3 hv9 => ?_)
              refine m_if_eq (tgt := 46) hC dX1_find_41 (by decide) (by have := clP_v hv9; omega) (fun c_41 => ?_) (fun c_41 => ?_)
              · have hN := (fj_back hJ (by omega) hv9).1 c_41
                refine m_iinc hC dX1_find_46 3 rfl (fun z9 => [(3, .int (z32 z9)), (0, .ref (g.2.2 15)), (1, .ref (g.2.2 6)), (2, .int (z32 z))]) (by decide) (fun _ => rfl) (fun v3_46 hv3_46 => ?_)
                refine m_goto (tgt := 22) hC dX1_find_49 (by decide) ?_
                refine m_locals [1, 2, 3, 0] rfl ?_
                exact ih22 v3_46 _ (by omega) (by rw [hv3_46]; exact hN) (by omega) (by omega)
              · refine m_iconst (v := 1) hC dX1_find_44 (by decide) ?_
                refine m_iretx hC hR (Or.inr ⟨rfl, Or.inr rfl⟩) dX1_find_45 ⟨Nat.le_of_ble_eq_true rfl, Nat.le_of_ble_eq_true rfl⟩ ?_
                exact (fj_back hJ (by omega) hv9).2 c_41
        refine m_locals [1, 2, 3, 0] rfl ?_
        exact L22 9 v3_21 _ (by omega) (by rw [hv3_21]; exact fjI_0 hI (by omega)) (by omega) (by omega)
  refine m_locals [1, 2, 0] rfl ?_
  exact L2 5 v2_1 _ (by omega) (by rw [hv2_1]; exact fiI_0 S) (by omega) (by omega)
end
section
/-! ===== rings: netting ===== -/
theorem lsL_pl {op : Int → Int → Int} {c : Int} {p : Fn} {k : Nat} (hk : 1 ≤ k) : lsL op c (pl p (k + 1)) = mn (lsL op c (pl p k)) (op (p ((k : Int) - 1)) (p k)) := by
  obtain ⟨j, rfl⟩ : ∃ j, k = j + 1 := ⟨k - 1, by omega⟩
  rw [show (((j + 1 : Nat) : Int) - 1) = (j : Int) by omega]
  rfl
theorem ntL_pl {ow : Fn} {v : Int} {p : Fn} {k : Nat} (hk : 1 ≤ k) : ntL ow v (pl p (k + 1)) = adF (ntL ow v (pl p k)) (p ((k : Int) - 1)) (p k) (-v) := by
  obtain ⟨j, rfl⟩ : ∃ j, k = j + 1 := ⟨k - 1, by omega⟩
  rw [show (((j + 1 : Nat) : Int) - 1) = (j : Int) by omega]
  rfl
theorem lsR_pl {ow fz : Fn} {p : Fn} {n : Nat} (hn : 1 ≤ n) : lsR ow fz (pl p n) = lsL (opF ow fz) (opF ow fz (p ((n : Int) - 1)) (p 0)) (pl p n) := by
  unfold lsR
  rw [pl_head _ _ hn, pl_last _ _ hn]
theorem ntR_pl {ow fz : Fn} {p : Fn} {n : Nat} (hn : 1 ≤ n) : ntR ow fz (pl p n) = ntL (adF ow (p ((n : Int) - 1)) (p 0) (-(lsR ow fz (pl p n)))) (lsR ow fz (pl p n)) (pl p n) := by
  unfold ntR
  rw [pl_head _ _ hn, pl_last _ _ hn]
def ntI (S : Mem) (ow : Fn) (n : Nat) (v u : Int) (S2 : Mem) : Prop := ∃ h : Fn, S2 = mput (mput S 8 ow) 17 h ∧ agr S 0 h ∧ h (rix (S 15 1) 0) = n ∧ h (rix (S 15 1) 1) = v ∧ (∀ k : Int, 0 ≤ k → k < n → h (rix (S 15 1) (2 + k)) = pth S k) ∧ ∀ k : Int, n ≤ k → k < u → h (rix (S 15 1) (2 + k)) = -1
def ntP (S : Mem) (n : Nat) (S' : Mem) : Prop := ∃ h : Fn, S' = mput (mput S 8 (ntR (S 8) (S 10) (pl (pth S) n))) 17 h ∧ agr S 0 h ∧ rowIs h (S 15 1) (lsR (S 8) (S 10) (pl (pth S) n)) (pl (pth S) n)
theorem ntI_0 {S : Mem} {ow : Fn} {n : Nat} {v : Int} (hn : S 17 (rix (S 15 1) 0) = n) (h5 : n ≤ 5) : ntI S ow n v n (put17 (mput S 8 ow) 1 v) := by
  refine ⟨up (S 17) (rix (S 15 1) 1) v, rfl, fun x hx => up_ne (fun q => hx (by unfold rix at q ⊢; omega)), ?_, up_same _ _ _, fun k k0 k1 => up_ne (by unfold rix; omega), fun k k0 k1 => by omega⟩
  rw [up_ne (by unfold rix; omega)]
  exact hn
theorem ntI_step {S : Mem} {ow : Fn} {n : Nat} {v u : Int} {S2 : Mem} (h : ntI S ow n v u S2) (hu : n ≤ u ∧ u < 5) : ntI S ow n v (u + 1) (put17 S2 (2 + u) (-1)) := by
  obtain ⟨h, rfl, e1, e2, e3, e4, e5⟩ := h
  refine ⟨up h (rix (S 15 1) (2 + u)) (-1), ?_, fun x hx => ?_, ?_, ?_, fun k k0 k1 => ?_, fun k k0 k1 => ?_⟩
  · show mput (mput (mput S 8 ow) 17 h) 17 _ = _
    rw [mput_mput]
    rfl
  · rw [up_ne (fun q => hx (by unfold rix at q ⊢; omega))]
    exact e1 x hx
  · rw [up_ne (by unfold rix; omega)]; exact e2
  · rw [up_ne (by unfold rix; omega)]; exact e3
  · rw [up_ne (by unfold rix; omega)]; exact e4 k k0 k1
  · by_cases q : k = u
    · subst q; exact up_same _ _ _
    · rw [up_ne (by unfold rix; omega)]; exact e5 k k0 (by omega)
theorem ntI_mem {S : Mem} {ow : Fn} {n : Nat} {v u : Int} {S2 : Mem} (h : ntI S ow n v u S2) : S2 15 = S 15 := by
  obtain ⟨h, rfl, -⟩ := h
  rfl
theorem ntI_end {S : Mem} {n : Nat} {S2 : Mem} (h : ntI S (ntR (S 8) (S 10) (pl (pth S) n)) n (lsR (S 8) (S 10) (pl (pth S) n)) 5 S2) : ntP S n S2 := by
  obtain ⟨h, e0, e1, e2, e3, e4, e5⟩ := h
  refine ⟨h, e0, e1, by rw [pl_len]; exact e2, e3, ?_, ?_⟩
  · rw [pl_len]
    exact pl_cong (fun k k0 k1 => e4 k k0 k1)
  · rw [pl_len]
    exact e5
/-- the rings netted so far -/
def raI (S : Mem) (i : Nat) (S1 : Mem) : Prop := ∃ h : Fn, S1 = mput (mput (mput S 8 (rgN (S 10) (S 8) i)) 17 h) 15 (up (S 15) 1 i) ∧ ∀ k : Nat, k < i → ∃ l : List Int, fnd (Gb (rgN (S 10) (S 8) k) (S 10)) = some l ∧ rowIs h k (lsR (rgN (S 10) (S 8) k) (S 10) l) l
def raP (S S' : Mem) : Prop := ∃ n : Nat, n ≤ 56 ∧ raI S n S' ∧ fnd (Gb (rgN (S 10) (S 8) n) (S 10)) = none
theorem raI_0 {S : Mem} : raI S 0 (mset S 15 1 0) := by
  refine ⟨S 17, ?_, fun k hk => absurd hk (Nat.not_lt_zero k)⟩
  rw [mset_mput]
  show _ = mput (mput (mput S 8 (S 8)) 17 (S 17)) 15 _
  rw [mput_self, mput_self]
  rfl
theorem raI_mem {S : Mem} {i : Nat} {S1 : Mem} (h : raI S i S1) (hok : OkD (S 8)) (hf : Fz (S 8) (S 10)) : OkD (S1 8) ∧ Fz (S1 8) (S1 10) ∧ S1 15 1 = i ∧ i ≤ 56 := by
  obtain ⟨h, rfl, hr⟩ := h
  have e1 := rgN_ok hok hf i
  refine ⟨e1.1, e1.2, rfl, (rgN_56 hok hf (n := i) (fun k hk => ?_)).1⟩
  obtain ⟨l, q, -⟩ := hr k hk
  rw [q]
  exact fun z => by cases z
theorem raI_end {S : Mem} {i : Nat} {S1 S2 : Mem} (h : raI S i S1) (hok : OkD (S 8)) (hf : Fz (S 8) (S 10)) (hp : fiP S1 0 S2) : raP S S2 := by
  have hm := raI_mem h hok hf
  obtain ⟨h, rfl, hr⟩ := h
  obtain ⟨h2, rfl, f1, f2⟩ := hp
  have hrow : ∀ k : Nat, k < i → ∃ l : List Int, fnd (Gb (rgN (S 10) (S 8) k) (S 10)) = some l ∧ rowIs h2 k (lsR (rgN (S 10) (S 8) k) (S 10) l) l := by
    intro k hk
    obtain ⟨l, q1, q2, q3, q4, q5⟩ := hr k hk
    have hl : l.length ≤ 5 := (fnd_is q1).choose_spec.2.2.2
    have ag : ∀ z : Int, 0 ≤ z → z < 7 → h2 (rix k z) = h (rix k z) := fun z z0 z7 => f1 _ (fun q => by
      have q1 := q.1
      have q2 := q.2
      rw [hm.2.2.1] at q1
      unfold rix at q1
      omega)
    refine ⟨l, q1, by rw [ag 0 (by omega) (by omega)]; exact q2, by rw [ag 1 (by omega) (by omega)]; exact q3, ?_, fun z z0 z5 => by rw [ag (2 + z) (by omega) (by omega)]; exact q5 z z0 z5⟩
    rw [← q4]
    rw [pl_len]
    exact pl_cong (fun z z0 z1 => ag (2 + z) (by omega) (by rw [q4] at *; omega))
  refine ⟨i, hm.2.2.2, ⟨h2, ?_, hrow⟩, ?_⟩
  · funext o
    simp only [mput]
    by_cases h17 : o = 17
    · subst h17; simp
    · by_cases h15 : o = 15
      · subst h15; simp
      · simp [h17, h15]
  · rcases f2 with q | q
    · omega
    · exact q.2
theorem raI_step {S : Mem} {i : Nat} {S1 S2 : Mem} {v : Int} (h : raI S i S1) (hok : OkD (S 8)) (hf : Fz (S 8) (S 10)) (hp : fiP S1 v S2) (hv : v ≠ 0) : S2 15 = S1 15 ∧ S2 8 = S1 8 ∧ S2 10 = S1 10 ∧ ∃ n : Nat, 2 ≤ n ∧ n ≤ 5 ∧ S2 17 (rix (S2 15 1) 0) = n ∧ (∀ k : Int, 0 ≤ k → k < n → 0 ≤ pth S2 k ∧ pth S2 k < 8) ∧ ∀ S3 : Mem, ntP S2 n S3 → S3 15 = S1 15 ∧ raI S (i + 1) (mset S3 15 1 (S3 15 1 + 1)) := by
  have hm := raI_mem h hok hf
  obtain ⟨h, rfl, hr⟩ := h
  obtain ⟨h2, rfl, f1, f2⟩ := hp
  refine ⟨rfl, rfl, rfl, ?_⟩
  rcases f2 with ⟨-, n, q1, q2⟩ | q
  · obtain ⟨a, g1, g2, g3, g4⟩ := fnd_is q1
    rw [pl_len] at g3 g4
    refine ⟨n, g3, g4, q2, fun k k0 k1 => (VP_in g1 _ (pl_in k0 k1)).2, fun S3 hn => ?_⟩
    obtain ⟨h3, rfl, f3, f4⟩ := hn
    refine ⟨rfl, h3, ?_, ?_⟩
    · rw [mset_mput]
      show mput (mput (mput (mput (mput (mput (mput S 8 (rgN (S 10) (S 8) i)) 17 h) 15 (up (S 15) 1 i)) 17 h2) 8 (ntR (rgN (S 10) (S 8) i) (S 10) _)) 17 h3) 15 (up (up (S 15) 1 i) 1 (up (S 15) 1 i 1 + 1)) = _
      rw [up_up, up_same]
      have hst : rgN (S 10) (S 8) (i + 1) = ntR (rgN (S 10) (S 8) i) (S 10) (pl (pth (mput (mput (mput (mput S 8 (rgN (S 10) (S 8) i)) 17 h) 15 (up (S 15) 1 i)) 17 h2)) n) := by
        show stp (S 10) (rgN (S 10) (S 8) i) = _
        unfold stp
        rw [show fnd (Gb (rgN (S 10) (S 8) i) (S 10)) = _ from q1]
      rw [hst]
      funext o
      simp only [mput]
      by_cases h17 : o = 17
      · subst h17; simp
      · by_cases h15 : o = 15
        · subst h15; simp
        · by_cases h8 : o = 8
          · subst h8; simp
          · simp [h17, h15, h8]
    · intro k hk
      by_cases hki : k < i
      · obtain ⟨l, r1, r2, r3, r4, r5⟩ := hr k hki
        have hl : l.length ≤ 5 := (fnd_is r1).choose_spec.2.2.2
        have ag : ∀ z : Int, 0 ≤ z → z < 7 → h3 (rix k z) = h (rix k z) := fun z z0 z7 => by
          have e1 : h3 (rix k z) = h2 (rix k z) := f3 _ (fun q => by
            have q3 : rix (i : Int) 0 ≤ rix k z := q.1
            unfold rix at q3
            omega)
          have e2 : h2 (rix k z) = h (rix k z) := f1 _ (fun q => by
            have q3 : rix (i : Int) 0 ≤ rix k z := q.1
            unfold rix at q3
            omega)
          rw [e1, e2]
        refine ⟨l, r1, by rw [ag 0 (by omega) (by omega)]; exact r2, by rw [ag 1 (by omega) (by omega)]; exact r3, ?_, fun z z0 z5 => by rw [ag (2 + z) (by omega) (by omega)]; exact r5 z z0 z5⟩
        rw [← r4]
        rw [pl_len]
        exact pl_cong (fun z z0 z1 => ag (2 + z) (by omega) (by omega))
      · have : k = i := by omega
        subst this
        exact ⟨_, q1, f4⟩
  · exact absurd q.1 hv
theorem fiP_v {S : Mem} {v : Int} {S' : Mem} (h : fiP S v S') : v = 0 ∨ v = 1 := by
  obtain ⟨h, -, -, q | q⟩ := h
  · exact Or.inr q.1
  · exact Or.inl q.1
theorem raI_full {S : Mem} {i : Nat} {S1 : Mem} (h : raI S i S1) (hok : OkD (S 8)) (hf : Fz (S 8) (S 10)) (hi : 56 ≤ i) : raP S S1 := by
  have hm := raI_mem h hok hf
  refine ⟨i, hm.2.2.2, h, ?_⟩
  obtain ⟨h, rfl, hr⟩ := h
  exact (rgN_56 hok hf (n := i) (fun k hk => by
    obtain ⟨l, q, -⟩ := hr k hk
    rw [q]
    exact fun z => by cases z)).2 (by omega)
end
section
/-! ===== rings: netting, by the machine ===== -/
theorem iX1_net_1 : ∀ w ∈ wsX10, w ∈ wsX1_net := by decide +kernel
theorem fX1_net_16 : Cond.fieldLink RX1 16 "Mutualledger$Rings" "rows" "LMutualledger$Table;" ∈ wsX1_net := by decide +kernel
theorem fX1_net_20 : Cond.fieldLink RX1 20 "Mutualledger$Rings" "count" "I" ∈ wsX1_net := by decide +kernel
set_option maxHeartbeats 4000000 in
set_option maxRecDepth 100000 in
theorem c_X1_net {g : mG} {S : Mem} (hc : 0 ≤ S 15 1 ∧ S 15 1 < 57) {n : Nat} (h2 : 2 ≤ n) (h5 : n ≤ 5) (hn : S 17 (rix (S 15 1) 0) = n) (hp : ∀ k : Int, 0 ≤ k → k < n → 0 ≤ pth S k ∧ pth S k < 8) (hok : Ok (S 8)) (hf : Fz (S 8) (S 10)) (l : Launch) : Does l yX1_net wsX1_net ({ frames := 4, cells := 0, slots := 0, locals := 93 } : Room) g [.ref (g.2.2 15), .ref (g.2.2 6)] S (PVx (fun S' => ntP S n S')) := by
  refine Does.of (cc := cX1_net) (maxL := 5) (ret := none) (own := RX1) (by decide) rfl rfl (Nat.le_of_ble_eq_true rfl) ?_
  intro C hC hR
  show MW C g 5 (0, 0) 0 [(0, .ref (g.2.2 15)), (1, .ref (g.2.2 6))] [] S
  have hO : ∀ i j : Int, 0 ≤ i ∧ i < 9 → 0 ≤ j ∧ j < 9 → 0 ≤ S 8 (ix i j) - S 10 (ix i j) ∧ S 8 (ix i j) - S 10 (ix i j) ≤ 200000 := fun i j hi hj => by
    have h1 := hok.ent hi hj
    have h3 := hf i j hi.1 hi.2 hj.1 hj.2
    omega
  have hp0 := hp 0 (by omega) (by omega)
  have hpl := hp ((n : Int) - 1) (by omega) (by omega)
  refine m_aload_n hC dX1_net_0 0 rfl ?_
  refine m_getR (o := 15) (j := 0) (a := 16) (CN := RX1) (T := TX1) (N := 2) hC iX1_net_1 fX1_net_16 rfl dX1_net_1 rfl rfl (by decide) rfl ?_
  refine m_aload_n hC dX1_net_4 0 rfl ?_
  refine m_getI (o := 15) (j := 1) (ji := 1) (CN := RX1) (T := TX1) (N := 2) hC iX1_net_1 fX1_net_20 rfl dX1_net_5 rfl rfl (by decide) rfl rfl ?_
  refine m_iconst (v := 0) hC dX1_net_8 (by decide) ?_
  refine m_callVi (n := 2) hC (c_get16 hc (by omega)) gX1_net_X2_get rfl dX1_net_9 rfl rfl (by decide +kernel) ⟨Nat.le_of_ble_eq_true rfl, Nat.le_of_ble_eq_true rfl⟩ rfl (Nat.le_of_ble_eq_true rfl) ⟨Nat.le_of_ble_eq_true rfl, Nat.le_of_ble_eq_true rfl⟩ rfl ?_
  refine m_istore_n hC dX1_net_12 (fun z9 => [(2, .int (z32 z9)), (0, .ref (g.2.2 15)), (1, .ref (g.2.2 6))]) (by decide) (fun _ => rfl) (fun v2_12 hv2_12 => ?_)
  refine m_aload_n hC dX1_net_13 2 rfl ?_
  refine m_aload_n hC dX1_net_14 1 rfl ?_
  refine m_iload_n hC dX1_net_15 0 rfl ?_
  refine m_iconst (v := 1) hC dX1_net_16 (by decide) ?_
  refine m_isub hC dX1_net_17 ?_
  refine m_callVi (n := 1) hC (c_X1_shopAt hc (by omega)) gX1_net_X1_shopAt rfl dX1_net_18 rfl rfl (by decide +kernel) ⟨Nat.le_of_ble_eq_true rfl, Nat.le_of_ble_eq_true rfl⟩ rfl (Nat.le_of_ble_eq_true rfl) ⟨Nat.le_of_ble_eq_true rfl, Nat.le_of_ble_eq_true rfl⟩ rfl ?_
  refine m_aload_n hC dX1_net_21 1 rfl ?_
  refine m_iconst (v := 0) hC dX1_net_22 (by decide) ?_
  refine m_callVi (n := 1) hC (c_X1_shopAt hc (by omega)) gX1_net_X1_shopAt rfl dX1_net_23 rfl rfl (by decide +kernel) ⟨Nat.le_of_ble_eq_true rfl, Nat.le_of_ble_eq_true rfl⟩ rfl (Nat.le_of_ble_eq_true rfl) ⟨Nat.le_of_ble_eq_true rfl, Nat.le_of_ble_eq_true rfl⟩ rfl ?_
  refine m_callVi (n := 2) hC (c_open9 (by rw [hv2_12, hn]; omega) (by omega)) gX1_net_X0_open rfl dX1_net_26 rfl rfl (by decide +kernel) ⟨Nat.le_of_ble_eq_true rfl, Nat.le_of_ble_eq_true rfl⟩ rfl (Nat.le_of_ble_eq_true rfl) ⟨Nat.le_of_ble_eq_true rfl, Nat.le_of_ble_eq_true rfl⟩ rfl ?_
  refine m_istore_n hC dX1_net_29 (fun z9 => [(3, .int (z32 z9)), (2, .int (z32 v2_12)), (0, .ref (g.2.2 15)), (1, .ref (g.2.2 6))]) (by decide) (fun _ => rfl) (fun v3_29 hv3_29 => ?_)
  refine m_iconst (v := 1) hC dX1_net_30 (by decide) ?_
  refine m_istore hC dX1_net_31 (fun z9 => [(4, .int (z32 z9)), (3, .int (z32 v3_29)), (2, .int (z32 v2_12)), (0, .ref (g.2.2 15)), (1, .ref (g.2.2 6))]) (by decide) (fun _ => rfl) (fun v4_31 hv4_31 => ?_)
  have L33 : ∀ (n33 : Nat) (k : Nat) (x : Int) (v : Int), v2_12 - x < (n33 : Int) → x = (k : Int) → 1 ≤ k → k ≤ n → v = lsL (opF (S 8) (S 10)) (opF (S 8) (S 10) (pth S ((n : Int) - 1)) (pth S 0)) (pl (pth S) k) → 0 ≤ v → v ≤ 200000 → MW C g 5 (0, 0) 33 [(0, .ref (g.2.2 15)), (1, .ref (g.2.2 6)), (2, .int (z32 v2_12)), (3, .int (z32 v)), (4, .int (z32 x))] [] S := by
    intro n33
    induction n33 with
    | zero => intros; exfalso; omega
    | succ n33 ih33 =>
      intro k x v hm33 hx hk1 hk2 hv hv1 hv2
      refine m_iload hC dX1_net_33 4 rfl ?_
      refine m_iload_n hC dX1_net_35 2 rfl ?_
      refine m_icmp_ge (tgt := 68) hC dX1_net_36 (by decide) (by omega) (by omega) (fun c_36 => ?_) (fun c_36 => ?_)
      · have hvR : v = lsR (S 8) (S 10) (pl (pth S) n) := by rw [lsR_pl (by omega), hv, show k = n by omega]
        refine m_aload_n hC dX1_net_68 1 rfl ?_
        refine m_aload_n hC dX1_net_69 0 rfl ?_
        refine m_iload_n hC dX1_net_70 2 rfl ?_
        refine m_iconst (v := 1) hC dX1_net_71 (by decide) ?_
        refine m_isub hC dX1_net_72 ?_
        refine m_callVi (n := 1) hC (c_X1_shopAt hc (by omega)) gX1_net_X1_shopAt rfl dX1_net_73 rfl rfl (by decide +kernel) ⟨Nat.le_of_ble_eq_true rfl, Nat.le_of_ble_eq_true rfl⟩ rfl (Nat.le_of_ble_eq_true rfl) ⟨Nat.le_of_ble_eq_true rfl, Nat.le_of_ble_eq_true rfl⟩ rfl ?_
        refine m_aload_n hC dX1_net_76 0 rfl ?_
        refine m_iconst (v := 0) hC dX1_net_77 (by decide) ?_
        refine m_callVi (n := 1) hC (c_X1_shopAt hc (by omega)) gX1_net_X1_shopAt rfl dX1_net_78 rfl rfl (by decide +kernel) ⟨Nat.le_of_ble_eq_true rfl, Nat.le_of_ble_eq_true rfl⟩ rfl (Nat.le_of_ble_eq_true rfl) ⟨Nat.le_of_ble_eq_true rfl, Nat.le_of_ble_eq_true rfl⟩ rfl ?_
        refine m_iload_n hC dX1_net_81 3 rfl ?_
        refine m_ineg hC dX1_net_82 ?_
        refine m_callVv (n := 3) hC (c_more9 (by rw [hv2_12, hn]; omega) (by omega)) gX1_net_X0_more rfl dX1_net_83 rfl rfl (by decide +kernel) ⟨Nat.le_of_ble_eq_true rfl, Nat.le_of_ble_eq_true rfl⟩ rfl (Nat.le_of_ble_eq_true rfl) ⟨Nat.le_of_ble_eq_true rfl, Nat.le_of_ble_eq_true rfl⟩ rfl ?_
        refine m_iconst (v := 1) hC dX1_net_86 (by decide) ?_
        refine m_istore hC dX1_net_87 (fun z9 => [(4, .int (z32 z9)), (0, .ref (g.2.2 15)), (1, .ref (g.2.2 6)), (2, .int (z32 v2_12)), (3, .int (z32 v))]) (by decide) (fun _ => rfl) (fun v4_87 hv4_87 => ?_)
        have L89 : ∀ (n89 : Nat) (j : Nat) (w : Int) (S1 : Mem), v2_12 - w < (n89 : Int) → w = (j : Int) → 1 ≤ j → j ≤ n → S1 = mput S 8 (ntL (adF (S 8) (pth S ((n : Int) - 1)) (pth S 0) (-(lsR (S 8) (S 10) (pl (pth S) n)))) v (pl (pth S) j)) → MW C g 5 (0, 0) 89 [(0, .ref (g.2.2 15)), (1, .ref (g.2.2 6)), (2, .int (z32 v2_12)), (3, .int (z32 v)), (4, .int (z32 w))] [] S1 := by
          intro n89
          induction n89 with
          | zero => intros; exfalso; omega
          | succ n89 ih89 =>
            intro j w S1 hm89 hw hj1 hj2 hS1
            have hc1 : 0 ≤ S1 15 1 ∧ S1 15 1 < 57 := by rw [hS1]; exact hc
            have hpth : pth S1 = pth S := by rw [hS1]; rfl
            refine m_iload hC dX1_net_89 4 rfl ?_
            refine m_iload_n hC dX1_net_91 2 rfl ?_
            refine m_icmp_ge (tgt := 121) hC dX1_net_92 (by decide) (by omega) (by omega) (fun c_92 => ?_) (fun c_92 => ?_)
            · refine m_aload_n hC dX1_net_121 0 rfl ?_
              refine m_getR (o := 15) (j := 0) (a := 16) (CN := RX1) (T := TX1) (N := 2) hC iX1_net_1 fX1_net_16 rfl dX1_net_122 rfl rfl (by decide) rfl ?_
              refine m_aload_n hC dX1_net_125 0 rfl ?_
              refine m_getI (o := 15) (j := 1) (ji := 1) (CN := RX1) (T := TX1) (N := 2) hC iX1_net_1 fX1_net_20 rfl dX1_net_126 rfl rfl (by decide) rfl rfl ?_
              refine m_iconst (v := 1) hC dX1_net_129 (by decide) ?_
              refine m_iload_n hC dX1_net_130 3 rfl ?_
              refine m_callVv (n := 3) hC (c_set16 hc1 (by omega)) gX1_net_X2_set rfl dX1_net_131 rfl rfl (by decide +kernel) ⟨Nat.le_of_ble_eq_true rfl, Nat.le_of_ble_eq_true rfl⟩ rfl (Nat.le_of_ble_eq_true rfl) ⟨Nat.le_of_ble_eq_true rfl, Nat.le_of_ble_eq_true rfl⟩ rfl ?_
              refine m_iload_n hC dX1_net_134 2 rfl ?_
              refine m_istore hC dX1_net_135 (fun z9 => [(4, .int (z32 z9)), (0, .ref (g.2.2 15)), (1, .ref (g.2.2 6)), (2, .int (z32 v2_12)), (3, .int (z32 v))]) (by decide) (fun _ => rfl) (fun v4_135 hv4_135 => ?_)
              have L137 : ∀ (n137 : Nat) (u : Int) (S2 : Mem), 5 - u < (n137 : Int) → ntI S (ntR (S 8) (S 10) (pl (pth S) n)) n v u S2 → (n : Int) ≤ u → u ≤ 5 → MW C g 5 (0, 0) 137 [(0, .ref (g.2.2 15)), (1, .ref (g.2.2 6)), (2, .int (z32 v2_12)), (3, .int (z32 v)), (4, .int (z32 u))] [] S2 := by
                intro n137
                induction n137 with
                | zero => intros; exfalso; omega
                | succ n137 ih137 =>
                  intro u S2 hm137 hI hu1 hu2
                  have hc2 : 0 ≤ S2 15 1 ∧ S2 15 1 < 57 := by rw [ntI_mem hI]; exact hc
                  refine m_iload hC dX1_net_137 4 rfl ?_
                  refine m_iconst (v := 5) hC dX1_net_139 (by decide) ?_
                  refine m_icmp_ge (tgt := 156) hC dX1_net_140 (by decide) (by omega) (by omega) (fun c_140 => ?_) (fun c_140 => ?_)
                  · refine m_vretx hC hR dX1_net_156 ⟨Nat.le_of_ble_eq_true rfl, Nat.le_of_ble_eq_true rfl⟩ ?_
                    exact ntI_end (by rw [← hvR, show (5 : Int) = u by omega]; exact hI)
                  · refine m_aload_n hC dX1_net_143 0 rfl ?_
                    refine m_iload hC dX1_net_144 4 rfl ?_
                    refine m_iconst (v := -1) hC dX1_net_146 (by decide) ?_
                    refine m_callVv (n := 2) hC (c_X1_setShopAt hc2 (by omega)) gX1_net_X1_setShopAt rfl dX1_net_147 rfl rfl (by decide +kernel) ⟨Nat.le_of_ble_eq_true rfl, Nat.le_of_ble_eq_true rfl⟩ rfl (Nat.le_of_ble_eq_true rfl) ⟨Nat.le_of_ble_eq_true rfl, Nat.le_of_ble_eq_true rfl⟩ rfl ?_
                    refine m_iinc hC dX1_net_150 4 rfl (fun z9 => [(4, .int (z32 z9)), (0, .ref (g.2.2 15)), (1, .ref (g.2.2 6)), (2, .int (z32 v2_12)), (3, .int (z32 v))]) (by decide) (fun _ => rfl) (fun v4_150 hv4_150 => ?_)
                    refine m_goto (tgt := 137) hC dX1_net_153 (by decide) ?_
                    refine m_locals [1, 2, 3, 4, 0] rfl ?_
                    exact ih137 v4_150 _ (by omega) (by rw [hv4_150]; exact ntI_step hI (by omega)) (by omega) (by omega)
              refine m_locals [1, 2, 3, 4, 0] rfl ?_
              exact L137 6 v4_135 _ (by omega) (by rw [hv4_135, hv2_12, hn, hS1, show j = n by omega, hvR, ← ntR_pl (by omega)]; exact ntI_0 hn h5) (by omega) (by omega)
            · refine m_aload_n hC dX1_net_95 1 rfl ?_
              refine m_aload_n hC dX1_net_96 0 rfl ?_
              refine m_iload hC dX1_net_97 4 rfl ?_
              refine m_iconst (v := 1) hC dX1_net_99 (by decide) ?_
              refine m_isub hC dX1_net_100 ?_
              refine m_callVi (n := 1) hC (c_X1_shopAt hc1 (by omega)) gX1_net_X1_shopAt rfl dX1_net_101 rfl rfl (by decide +kernel) ⟨Nat.le_of_ble_eq_true rfl, Nat.le_of_ble_eq_true rfl⟩ rfl (Nat.le_of_ble_eq_true rfl) ⟨Nat.le_of_ble_eq_true rfl, Nat.le_of_ble_eq_true rfl⟩ rfl ?_
              refine m_aload_n hC dX1_net_104 0 rfl ?_
              refine m_iload hC dX1_net_105 4 rfl ?_
              refine m_callVi (n := 1) hC (c_X1_shopAt hc1 (by omega)) gX1_net_X1_shopAt rfl dX1_net_107 rfl rfl (by decide +kernel) ⟨Nat.le_of_ble_eq_true rfl, Nat.le_of_ble_eq_true rfl⟩ rfl (Nat.le_of_ble_eq_true rfl) ⟨Nat.le_of_ble_eq_true rfl, Nat.le_of_ble_eq_true rfl⟩ rfl ?_
              refine m_iload_n hC dX1_net_110 3 rfl ?_
              refine m_ineg hC dX1_net_111 ?_
              rw [hpth]
              have hq1 := hp (w - 1) (by omega) (by omega)
              have hq2 := hp w (by omega) (by omega)
              refine m_callVv (n := 3) hC (c_more9 (by omega) (by omega)) gX1_net_X0_more rfl dX1_net_112 rfl rfl (by decide +kernel) ⟨Nat.le_of_ble_eq_true rfl, Nat.le_of_ble_eq_true rfl⟩ rfl (Nat.le_of_ble_eq_true rfl) ⟨Nat.le_of_ble_eq_true rfl, Nat.le_of_ble_eq_true rfl⟩ rfl ?_
              refine m_iinc hC dX1_net_115 4 rfl (fun z9 => [(4, .int (z32 z9)), (0, .ref (g.2.2 15)), (1, .ref (g.2.2 6)), (2, .int (z32 v2_12)), (3, .int (z32 v))]) (by decide) (fun _ => rfl) (fun v4_115 hv4_115 => ?_)
              refine m_goto (tgt := 89) hC dX1_net_118 (by decide) ?_
              refine m_locals [1, 2, 3, 4, 0] rfl ?_
              exact ih89 (j + 1) v4_115 _ (by omega) (by omega) (by omega) (by omega) (by rw [ntL_pl hj1, ← hw]; subst hS1; rw [mput_mput, mput_same])
        refine m_locals [1, 2, 3, 4, 0] rfl ?_
        exact L89 6 1 v4_87 _ (by omega) (by omega) (by omega) (by omega) (by rw [← hvR, hv2_12, hn]; rfl)
      · refine m_iload_n hC dX1_net_39 3 rfl ?_
        refine m_aload_n hC dX1_net_40 1 rfl ?_
        refine m_aload_n hC dX1_net_41 0 rfl ?_
        refine m_iload hC dX1_net_42 4 rfl ?_
        refine m_iconst (v := 1) hC dX1_net_44 (by decide) ?_
        refine m_isub hC dX1_net_45 ?_
        refine m_callVi (n := 1) hC (c_X1_shopAt hc (by omega)) gX1_net_X1_shopAt rfl dX1_net_46 rfl rfl (by decide +kernel) ⟨Nat.le_of_ble_eq_true rfl, Nat.le_of_ble_eq_true rfl⟩ rfl (Nat.le_of_ble_eq_true rfl) ⟨Nat.le_of_ble_eq_true rfl, Nat.le_of_ble_eq_true rfl⟩ rfl ?_
        refine m_aload_n hC dX1_net_49 0 rfl ?_
        refine m_iload hC dX1_net_50 4 rfl ?_
        refine m_callVi (n := 1) hC (c_X1_shopAt hc (by omega)) gX1_net_X1_shopAt rfl dX1_net_52 rfl rfl (by decide +kernel) ⟨Nat.le_of_ble_eq_true rfl, Nat.le_of_ble_eq_true rfl⟩ rfl (Nat.le_of_ble_eq_true rfl) ⟨Nat.le_of_ble_eq_true rfl, Nat.le_of_ble_eq_true rfl⟩ rfl ?_
        have hq1 := hp (x - 1) (by omega) (by omega)
        have hq2 := hp x (by omega) (by omega)
        have hq3 := hO (pth S (x - 1)) (pth S x) (by omega) (by omega)
        refine m_callVi (n := 2) hC (c_open9 (by omega) (by omega)) gX1_net_X0_open rfl dX1_net_55 rfl rfl (by decide +kernel) ⟨Nat.le_of_ble_eq_true rfl, Nat.le_of_ble_eq_true rfl⟩ rfl (Nat.le_of_ble_eq_true rfl) ⟨Nat.le_of_ble_eq_true rfl, Nat.le_of_ble_eq_true rfl⟩ rfl ?_
        refine m_min hC (by decide +kernel) (by decide +kernel) (by decide +kernel) (by decide +kernel) dX1_net_58 (Nat.le_of_ble_eq_true rfl) (Nat.le_of_ble_eq_true rfl) ⟨Nat.le_of_ble_eq_true rfl, Nat.le_of_ble_eq_true rfl⟩ (by omega) (by omega) ?_
        refine m_istore_n hC dX1_net_61 (fun z9 => [(3, .int (z32 z9)), (0, .ref (g.2.2 15)), (1, .ref (g.2.2 6)), (2, .int (z32 v2_12)), (4, .int (z32 x))]) (by decide) (fun _ => rfl) (fun v3_61 hv3_61 => ?_)
        refine m_iinc hC dX1_net_62 4 rfl (fun z9 => [(4, .int (z32 z9)), (3, .int (z32 v3_61)), (0, .ref (g.2.2 15)), (1, .ref (g.2.2 6)), (2, .int (z32 v2_12))]) (by decide) (fun _ => rfl) (fun v4_62 hv4_62 => ?_)
        refine m_goto (tgt := 33) hC dX1_net_65 (by decide) ?_
        refine m_locals [2, 3, 4, 1, 0] rfl ?_
        exact ih33 (k + 1) v4_62 v3_61 (by omega) (by omega) (by omega) (by omega) (by rw [lsL_pl hk1, ← hv, ← hx, hv3_61]; rfl) (by rw [hv3_61]; split <;> omega) (by rw [hv3_61]; split <;> omega)
  refine m_locals [3, 4, 2, 1, 0] rfl ?_
  exact L33 6 1 v4_31 v3_29 (by omega) (by omega) (by omega) (by omega) (by rw [hv3_29, hv2_12, hn]; rfl) (by have h9 := hO (pth S (v2_12 - 1)) (pth S 0) (by rw [hv2_12, hn]; omega) (by omega); omega) (by have h9 := hO (pth S (v2_12 - 1)) (pth S 0) (by rw [hv2_12, hn]; omega) (by omega); omega)
theorem iX1_netAll_1 : ∀ w ∈ wsX10, w ∈ wsX1_netAll := by decide +kernel
theorem fX1_netAll_20 : Cond.fieldLink RX1 20 "Mutualledger$Rings" "count" "I" ∈ wsX1_netAll := by decide +kernel
set_option maxHeartbeats 4000000 in
set_option maxRecDepth 100000 in
theorem c_X1_netAll {g : mG} {S : Mem} (hok : OkD (S 8)) (hf : Fz (S 8) (S 10)) (l : Launch) : Does l yX1_netAll wsX1_netAll ({ frames := 9, cells := 0, slots := 0, locals := 221 } : Room) g [.ref (g.2.2 15), .ref (g.2.2 6)] S (PVx (fun S' => raP S S')) := by
  refine Does.of (cc := cX1_netAll) (maxL := 3) (ret := none) (own := RX1) (by decide) rfl rfl (Nat.le_of_ble_eq_true rfl) ?_
  intro C hC hR
  show MW C g 3 (0, 0) 0 [(0, .ref (g.2.2 15)), (1, .ref (g.2.2 6))] [] S
  refine m_aload_n hC dX1_netAll_0 0 rfl ?_
  refine m_iconst (v := 0) hC dX1_netAll_1 (by decide) ?_
  refine m_putI (o := 15) (j := 1) (ji := 1) (CN := RX1) (T := TX1) (N := 2) hC iX1_netAll_1 fX1_netAll_20 rfl dX1_netAll_2 rfl rfl (by decide) rfl tyX1 tyX1_ok nmX1 rfl (by decide +kernel) rfl ?_
  refine m_iconst (v := 0) hC dX1_netAll_5 (by decide) ?_
  refine m_istore_n hC dX1_netAll_6 (fun z9 => [(2, .int (z32 z9)), (0, .ref (g.2.2 15)), (1, .ref (g.2.2 6))]) (by decide) (fun _ => rfl) (fun v2_6 hv2_6 => ?_)
  have L7 : ∀ (n7 : Nat) (i : Nat) (x : Int) (S1 : Mem), 56 - x < (n7 : Int) → x = (i : Int) → raI S i S1 → MW C g 3 (0, 0) 7 [(0, .ref (g.2.2 15)), (1, .ref (g.2.2 6)), (2, .int (z32 x))] [] S1 := by
    intro n7
    induction n7 with
    | zero => intros; exfalso; have := raI_mem ‹raI S _ _› hok hf; omega
    | succ n7 ih7 =>
      intro i x S1 hm7 hx hI
      have hm := raI_mem hI hok hf
      have hc1 : 0 ≤ S1 15 1 ∧ S1 15 1 < 57 := by omega
      refine m_iload_n hC dX1_netAll_7 2 rfl ?_
      refine m_bipush (v := 56) hC dX1_netAll_8 (by decide) ?_
      refine m_icmp_ge (tgt := 42) hC dX1_netAll_10 (by decide) (by omega) (by omega) (fun c_10 => ?_) (fun c_10 => ?_)
      · refine m_vretx hC hR dX1_netAll_42 ⟨Nat.le_of_ble_eq_true rfl, Nat.le_of_ble_eq_true rfl⟩ ?_
        first | exact raI_end hI hok hf hv9 | exact raI_full hI hok hf (by omega)
      · refine m_aload_n hC dX1_netAll_13 0 rfl ?_
        refine m_aload_n hC dX1_netAll_14 1 rfl ?_
        refine m_callVix (n := 1) hC (c_X1_find hc1 hm.1.1 hm.2.1) gX1_netAll_X1_find rfl dX1_netAll_15 rfl rfl (by decide +kernel) ⟨Nat.le_of_ble_eq_true rfl, Nat.le_of_ble_eq_true rfl⟩ rfl (Nat.le_of_ble_eq_true rfl) ⟨Nat.le_of_ble_eq_true rfl, Nat.le_of_ble_eq_true rfl⟩ rfl (fun v9 S2 hv9 => ?_)
        refine m_if_eq (tgt := 42) hC dX1_netAll_18 (by decide) (by have := fiP_v hv9; omega) (fun c_18 => ?_) (fun c_18 => ?_)
        · rw [c_18] at hv9
          refine m_vretx hC hR dX1_netAll_42 ⟨Nat.le_of_ble_eq_true rfl, Nat.le_of_ble_eq_true rfl⟩ ?_
          first | exact raI_end hI hok hf hv9 | exact raI_full hI hok hf (by omega)
        · obtain ⟨f15, f8, f10, n, n2, n5, n0, n8, hn6⟩ := raI_step hI hok hf hv9 c_18
          refine m_aload_n hC dX1_netAll_21 0 rfl ?_
          refine m_aload_n hC dX1_netAll_22 1 rfl ?_
          refine m_callVvx (n := 1) hC (c_X1_net (by rw [f15]; exact hc1) n2 n5 n0 n8 (by rw [f8]; exact hm.1.1) (by rw [f8, f10]; exact hm.2.1)) gX1_netAll_X1_net rfl dX1_netAll_23 rfl rfl (by decide +kernel) ⟨Nat.le_of_ble_eq_true rfl, Nat.le_of_ble_eq_true rfl⟩ rfl (Nat.le_of_ble_eq_true rfl) ⟨Nat.le_of_ble_eq_true rfl, Nat.le_of_ble_eq_true rfl⟩ rfl (fun S3 hv10 => ?_)
          refine m_aload_n hC dX1_netAll_26 0 rfl ?_
          refine m_dup hC dX1_netAll_27 rfl ?_
          refine m_getI (o := 15) (j := 1) (ji := 1) (CN := RX1) (T := TX1) (N := 2) hC iX1_netAll_1 fX1_netAll_20 rfl dX1_netAll_28 rfl rfl (by decide) rfl rfl ?_
          refine m_iconst (v := 1) hC dX1_netAll_31 (by decide) ?_
          refine m_iadd hC dX1_netAll_32 ?_
          refine m_putI (o := 15) (j := 1) (ji := 1) (CN := RX1) (T := TX1) (N := 2) hC iX1_netAll_1 fX1_netAll_20 rfl dX1_netAll_33 rfl rfl (by decide) rfl tyX1 tyX1_ok nmX1 rfl (by decide +kernel) rfl ?_
          refine m_iinc hC dX1_netAll_36 2 rfl (fun z9 => [(2, .int (z32 z9)), (0, .ref (g.2.2 15)), (1, .ref (g.2.2 6))]) (by decide) (fun _ => rfl) (fun v2_36 hv2_36 => ?_)
          refine m_goto (tgt := 7) hC dX1_netAll_39 (by decide) ?_
          refine m_locals [1, 2, 0] rfl ?_
          exact ih7 (i + 1) v2_36 _ (by omega) (by omega) ((hn6 S3 hv10).2)
  refine m_locals [1, 2, 0] rfl ?_
  exact L7 57 0 v2_6 _ (by omega) (by omega) (raI_0)
end
