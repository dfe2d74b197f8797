section
-- ===== PART A: goes FIRST, ahead of the names: the tables' words, and 'selects' of the private methods out of them =====
/-- a private method of a class that the tables say can be made, by its rows of tables_1 -/
def lw_okq (q : MethodName × Nat) : Prop := (q.1.cls ≠ "java/lang/invoke/MethodHandle" ∧ q.1.cls ≠ "java/lang/invoke/VarHandle") ∧ Cond.instantiable q.1.cls q.2 ∈ tables_1 ∧ Cond.privateMethod q.1 ∈ tables_1 ∧ Cond.instanceMethod q.1 ∈ tables_1
theorem lw_p0 : lw_okq (⟨"CacheDirectory", "addLine", "(JI)J"⟩, 3) := ⟨⟨by decide +kernel, by decide +kernel⟩, List.mem_of_getElem? (i := 26) (by decide +kernel), List.mem_of_getElem? (i := 243) (by decide +kernel), List.mem_of_getElem? (i := 244) (by decide +kernel)⟩
theorem lw_p1 : lw_okq (⟨"CacheDirectory", "homeOf", "(I)LCacheDirectory$Home;"⟩, 3) := ⟨⟨by decide +kernel, by decide +kernel⟩, List.mem_of_getElem? (i := 26) (by decide +kernel), List.mem_of_getElem? (i := 247) (by decide +kernel), List.mem_of_getElem? (i := 248) (by decide +kernel)⟩
theorem lw_p2 : lw_okq (⟨"java/lang/Throwable", "fillInStackTrace", "(I)Ljava/lang/Throwable;"⟩, 6) := ⟨⟨by decide +kernel, by decide +kernel⟩, List.mem_of_getElem? (i := 293) (by decide +kernel), List.mem_of_getElem? (i := 291) (by decide +kernel), List.mem_of_getElem? (i := 292) (by decide +kernel)⟩
theorem lw_p3 : lw_okq (⟨"CacheDirectory", "cacheAt", "(I)LCacheDirectory$Cache;"⟩, 3) := ⟨⟨by decide +kernel, by decide +kernel⟩, List.mem_of_getElem? (i := 26) (by decide +kernel), List.mem_of_getElem? (i := 349) (by decide +kernel), List.mem_of_getElem? (i := 350) (by decide +kernel)⟩
theorem lw_p4 : lw_okq (⟨"CacheDirectory$Cache", "leaveUseOrder", "(I)V"⟩, 14) := ⟨⟨by decide +kernel, by decide +kernel⟩, List.mem_of_getElem? (i := 72) (by decide +kernel), List.mem_of_getElem? (i := 421) (by decide +kernel), List.mem_of_getElem? (i := 422) (by decide +kernel)⟩
theorem lw_p5 : lw_okq (⟨"java/util/ArrayList", "add", "(Ljava/lang/Object;[Ljava/lang/Object;I)V"⟩, 3) := ⟨⟨by decide +kernel, by decide +kernel⟩, List.mem_of_getElem? (i := 40) (by decide +kernel), List.mem_of_getElem? (i := 484) (by decide +kernel), List.mem_of_getElem? (i := 485) (by decide +kernel)⟩
theorem lw_p6 : lw_okq (⟨"java/util/ArrayList", "grow", "()[Ljava/lang/Object;"⟩, 3) := ⟨⟨by decide +kernel, by decide +kernel⟩, List.mem_of_getElem? (i := 40) (by decide +kernel), List.mem_of_getElem? (i := 488) (by decide +kernel), List.mem_of_getElem? (i := 489) (by decide +kernel)⟩
theorem lw_p7 : lw_okq (⟨"java/util/ArrayList", "grow", "(I)[Ljava/lang/Object;"⟩, 3) := ⟨⟨by decide +kernel, by decide +kernel⟩, List.mem_of_getElem? (i := 40) (by decide +kernel), List.mem_of_getElem? (i := 492) (by decide +kernel), List.mem_of_getElem? (i := 493) (by decide +kernel)⟩
theorem lw_p8 : lw_okq (⟨"CacheDirectory", "messageAt", "(I)LCacheDirectory$Message;"⟩, 3) := ⟨⟨by decide +kernel, by decide +kernel⟩, List.mem_of_getElem? (i := 26) (by decide +kernel), List.mem_of_getElem? (i := 674) (by decide +kernel), List.mem_of_getElem? (i := 675) (by decide +kernel)⟩
theorem lw_p9 : lw_okq (⟨"CacheDirectory", "handOver", "(I)V"⟩, 3) := ⟨⟨by decide +kernel, by decide +kernel⟩, List.mem_of_getElem? (i := 26) (by decide +kernel), List.mem_of_getElem? (i := 707) (by decide +kernel), List.mem_of_getElem? (i := 708) (by decide +kernel)⟩
theorem lw_p10 : lw_okq (⟨"java/util/ArrayList", "fastRemove", "([Ljava/lang/Object;I)V"⟩, 3) := ⟨⟨by decide +kernel, by decide +kernel⟩, List.mem_of_getElem? (i := 40) (by decide +kernel), List.mem_of_getElem? (i := 715) (by decide +kernel), List.mem_of_getElem? (i := 716) (by decide +kernel)⟩
theorem lw_p11 : lw_okq (⟨"CacheDirectory$Home", "process", "(LCacheDirectory$Message;)V"⟩, 9) := ⟨⟨by decide +kernel, by decide +kernel⟩, List.mem_of_getElem? (i := 169) (by decide +kernel), List.mem_of_getElem? (i := 731) (by decide +kernel), List.mem_of_getElem? (i := 732) (by decide +kernel)⟩
theorem lw_p12 : lw_okq (⟨"CacheDirectory$Home", "processRead", "(I)V"⟩, 9) := ⟨⟨by decide +kernel, by decide +kernel⟩, List.mem_of_getElem? (i := 169) (by decide +kernel), List.mem_of_getElem? (i := 735) (by decide +kernel), List.mem_of_getElem? (i := 736) (by decide +kernel)⟩
theorem lw_p13 : lw_okq (⟨"CacheDirectory$Home", "processWrite", "(I)V"⟩, 9) := ⟨⟨by decide +kernel, by decide +kernel⟩, List.mem_of_getElem? (i := 169) (by decide +kernel), List.mem_of_getElem? (i := 740) (by decide +kernel), List.mem_of_getElem? (i := 741) (by decide +kernel)⟩
theorem lw_p14 : lw_okq (⟨"CacheDirectory$Home", "processPut", "(LCacheDirectory$Message;)V"⟩, 9) := ⟨⟨by decide +kernel, by decide +kernel⟩, List.mem_of_getElem? (i := 169) (by decide +kernel), List.mem_of_getElem? (i := 750) (by decide +kernel), List.mem_of_getElem? (i := 751) (by decide +kernel)⟩
theorem lw_p15 : lw_okq (⟨"CacheDirectory$Cache", "finishIfComplete", "(I)V"⟩, 14) := ⟨⟨by decide +kernel, by decide +kernel⟩, List.mem_of_getElem? (i := 72) (by decide +kernel), List.mem_of_getElem? (i := 759) (by decide +kernel), List.mem_of_getElem? (i := 760) (by decide +kernel)⟩
def lw_privs_1 : List (MethodName × Nat) := [(⟨"CacheDirectory", "addLine", "(JI)J"⟩, 3), (⟨"CacheDirectory", "homeOf", "(I)LCacheDirectory$Home;"⟩, 3), (⟨"java/lang/Throwable", "fillInStackTrace", "(I)Ljava/lang/Throwable;"⟩, 6), (⟨"CacheDirectory", "cacheAt", "(I)LCacheDirectory$Cache;"⟩, 3), (⟨"CacheDirectory$Cache", "leaveUseOrder", "(I)V"⟩, 14), (⟨"java/util/ArrayList", "add", "(Ljava/lang/Object;[Ljava/lang/Object;I)V"⟩, 3), (⟨"java/util/ArrayList", "grow", "()[Ljava/lang/Object;"⟩, 3), (⟨"java/util/ArrayList", "grow", "(I)[Ljava/lang/Object;"⟩, 3), (⟨"CacheDirectory", "messageAt", "(I)LCacheDirectory$Message;"⟩, 3), (⟨"CacheDirectory", "handOver", "(I)V"⟩, 3), (⟨"java/util/ArrayList", "fastRemove", "([Ljava/lang/Object;I)V"⟩, 3), (⟨"CacheDirectory$Home", "process", "(LCacheDirectory$Message;)V"⟩, 9), (⟨"CacheDirectory$Home", "processRead", "(I)V"⟩, 9), (⟨"CacheDirectory$Home", "processWrite", "(I)V"⟩, 9), (⟨"CacheDirectory$Home", "processPut", "(LCacheDirectory$Message;)V"⟩, 9), (⟨"CacheDirectory$Cache", "finishIfComplete", "(I)V"⟩, 14)]
theorem lw_r1 : ∀ q ∈ lw_privs_1, lw_okq q := List.forall_mem_cons.mpr ⟨lw_p0, List.forall_mem_cons.mpr ⟨lw_p1, List.forall_mem_cons.mpr ⟨lw_p2, List.forall_mem_cons.mpr ⟨lw_p3, List.forall_mem_cons.mpr ⟨lw_p4, List.forall_mem_cons.mpr ⟨lw_p5, List.forall_mem_cons.mpr ⟨lw_p6, List.forall_mem_cons.mpr ⟨lw_p7, List.forall_mem_cons.mpr ⟨lw_p8, List.forall_mem_cons.mpr ⟨lw_p9, List.forall_mem_cons.mpr ⟨lw_p10, List.forall_mem_cons.mpr ⟨lw_p11, List.forall_mem_cons.mpr ⟨lw_p12, List.forall_mem_cons.mpr ⟨lw_p13, List.forall_mem_cons.mpr ⟨lw_p14, List.forall_mem_cons.mpr ⟨lw_p15, fun _ h => absurd h List.not_mem_nil⟩⟩⟩⟩⟩⟩⟩⟩⟩⟩⟩⟩⟩⟩⟩⟩
theorem lw_p16 : lw_okq (⟨"CacheDirectory$Cache", "passOn", "(LCacheDirectory$Message;)V"⟩, 14) := ⟨⟨by decide +kernel, by decide +kernel⟩, List.mem_of_getElem? (i := 72) (by decide +kernel), List.mem_of_getElem? (i := 768) (by decide +kernel), List.mem_of_getElem? (i := 769) (by decide +kernel)⟩
theorem lw_p17 : lw_okq (⟨"CacheDirectoryModel", "failed", "(I)Z"⟩, 29) := ⟨⟨by decide +kernel, by decide +kernel⟩, List.mem_of_getElem? (i := 802) (by decide +kernel), List.mem_of_getElem? (i := 908) (by decide +kernel), List.mem_of_getElem? (i := 909) (by decide +kernel)⟩
theorem lw_p18 : lw_okq (⟨"CacheDirectoryModel", "linesIn", "(I)I"⟩, 29) := ⟨⟨by decide +kernel, by decide +kernel⟩, List.mem_of_getElem? (i := 802) (by decide +kernel), List.mem_of_getElem? (i := 912) (by decide +kernel), List.mem_of_getElem? (i := 913) (by decide +kernel)⟩
theorem lw_p19 : lw_okq (⟨"CacheDirectoryModel", "victimsIn", "(I)I"⟩, 29) := ⟨⟨by decide +kernel, by decide +kernel⟩, List.mem_of_getElem? (i := 802) (by decide +kernel), List.mem_of_getElem? (i := 919) (by decide +kernel), List.mem_of_getElem? (i := 920) (by decide +kernel)⟩
theorem lw_p20 : lw_okq (⟨"CacheDirectoryModel", "fail", "(I)I"⟩, 29) := ⟨⟨by decide +kernel, by decide +kernel⟩, List.mem_of_getElem? (i := 802) (by decide +kernel), List.mem_of_getElem? (i := 930) (by decide +kernel), List.mem_of_getElem? (i := 931) (by decide +kernel)⟩
theorem lw_p21 : lw_okq (⟨"CacheDirectoryModel", "use", "(II)V"⟩, 29) := ⟨⟨by decide +kernel, by decide +kernel⟩, List.mem_of_getElem? (i := 802) (by decide +kernel), List.mem_of_getElem? (i := 934) (by decide +kernel), List.mem_of_getElem? (i := 935) (by decide +kernel)⟩
theorem lw_p22 : lw_okq (⟨"CacheDirectoryModel", "canStart", "(II)Z"⟩, 29) := ⟨⟨by decide +kernel, by decide +kernel⟩, List.mem_of_getElem? (i := 802) (by decide +kernel), List.mem_of_getElem? (i := 938) (by decide +kernel), List.mem_of_getElem? (i := 939) (by decide +kernel)⟩
theorem lw_p23 : lw_okq (⟨"CacheDirectoryModel", "leaving", "(II)I"⟩, 29) := ⟨⟨by decide +kernel, by decide +kernel⟩, List.mem_of_getElem? (i := 802) (by decide +kernel), List.mem_of_getElem? (i := 942) (by decide +kernel), List.mem_of_getElem? (i := 943) (by decide +kernel)⟩
theorem lw_p24 : lw_okq (⟨"CacheDirectoryModel", "lineBy", "(II)I"⟩, 29) := ⟨⟨by decide +kernel, by decide +kernel⟩, List.mem_of_getElem? (i := 802) (by decide +kernel), List.mem_of_getElem? (i := 946) (by decide +kernel), List.mem_of_getElem? (i := 947) (by decide +kernel)⟩
theorem lw_p25 : lw_okq (⟨"CacheDirectoryModel", "canRemove", "(II)Z"⟩, 29) := ⟨⟨by decide +kernel, by decide +kernel⟩, List.mem_of_getElem? (i := 802) (by decide +kernel), List.mem_of_getElem? (i := 950) (by decide +kernel), List.mem_of_getElem? (i := 951) (by decide +kernel)⟩
theorem lw_p26 : lw_okq (⟨"CacheDirectoryModel", "start", "(IIZI)V"⟩, 29) := ⟨⟨by decide +kernel, by decide +kernel⟩, List.mem_of_getElem? (i := 802) (by decide +kernel), List.mem_of_getElem? (i := 954) (by decide +kernel), List.mem_of_getElem? (i := 955) (by decide +kernel)⟩
theorem lw_p27 : lw_okq (⟨"CacheDirectoryModel", "remove", "(II)V"⟩, 29) := ⟨⟨by decide +kernel, by decide +kernel⟩, List.mem_of_getElem? (i := 802) (by decide +kernel), List.mem_of_getElem? (i := 958) (by decide +kernel), List.mem_of_getElem? (i := 959) (by decide +kernel)⟩
theorem lw_p28 : lw_okq (⟨"CacheDirectoryModel", "send", "(IIIIIII)V"⟩, 29) := ⟨⟨by decide +kernel, by decide +kernel⟩, List.mem_of_getElem? (i := 802) (by decide +kernel), List.mem_of_getElem? (i := 962) (by decide +kernel), List.mem_of_getElem? (i := 963) (by decide +kernel)⟩
theorem lw_p29 : lw_okq (⟨"CacheDirectoryModel", "part", "(II)I"⟩, 29) := ⟨⟨by decide +kernel, by decide +kernel⟩, List.mem_of_getElem? (i := 802) (by decide +kernel), List.mem_of_getElem? (i := 1026) (by decide +kernel), List.mem_of_getElem? (i := 1027) (by decide +kernel)⟩
theorem lw_p30 : lw_okq (⟨"CacheDirectoryModel", "isMessage", "(I)Z"⟩, 29) := ⟨⟨by decide +kernel, by decide +kernel⟩, List.mem_of_getElem? (i := 802) (by decide +kernel), List.mem_of_getElem? (i := 1030) (by decide +kernel), List.mem_of_getElem? (i := 1031) (by decide +kernel)⟩
theorem lw_p31 : lw_okq (⟨"CacheDirectoryModel", "take", "(I)V"⟩, 29) := ⟨⟨by decide +kernel, by decide +kernel⟩, List.mem_of_getElem? (i := 802) (by decide +kernel), List.mem_of_getElem? (i := 1050) (by decide +kernel), List.mem_of_getElem? (i := 1051) (by decide +kernel)⟩
def lw_privs_2 : List (MethodName × Nat) := [(⟨"CacheDirectory$Cache", "passOn", "(LCacheDirectory$Message;)V"⟩, 14), (⟨"CacheDirectoryModel", "failed", "(I)Z"⟩, 29), (⟨"CacheDirectoryModel", "linesIn", "(I)I"⟩, 29), (⟨"CacheDirectoryModel", "victimsIn", "(I)I"⟩, 29), (⟨"CacheDirectoryModel", "fail", "(I)I"⟩, 29), (⟨"CacheDirectoryModel", "use", "(II)V"⟩, 29), (⟨"CacheDirectoryModel", "canStart", "(II)Z"⟩, 29), (⟨"CacheDirectoryModel", "leaving", "(II)I"⟩, 29), (⟨"CacheDirectoryModel", "lineBy", "(II)I"⟩, 29), (⟨"CacheDirectoryModel", "canRemove", "(II)Z"⟩, 29), (⟨"CacheDirectoryModel", "start", "(IIZI)V"⟩, 29), (⟨"CacheDirectoryModel", "remove", "(II)V"⟩, 29), (⟨"CacheDirectoryModel", "send", "(IIIIIII)V"⟩, 29), (⟨"CacheDirectoryModel", "part", "(II)I"⟩, 29), (⟨"CacheDirectoryModel", "isMessage", "(I)Z"⟩, 29), (⟨"CacheDirectoryModel", "take", "(I)V"⟩, 29)]
theorem lw_r2 : ∀ q ∈ lw_privs_2, lw_okq q := List.forall_mem_cons.mpr ⟨lw_p16, List.forall_mem_cons.mpr ⟨lw_p17, List.forall_mem_cons.mpr ⟨lw_p18, List.forall_mem_cons.mpr ⟨lw_p19, List.forall_mem_cons.mpr ⟨lw_p20, List.forall_mem_cons.mpr ⟨lw_p21, List.forall_mem_cons.mpr ⟨lw_p22, List.forall_mem_cons.mpr ⟨lw_p23, List.forall_mem_cons.mpr ⟨lw_p24, List.forall_mem_cons.mpr ⟨lw_p25, List.forall_mem_cons.mpr ⟨lw_p26, List.forall_mem_cons.mpr ⟨lw_p27, List.forall_mem_cons.mpr ⟨lw_p28, List.forall_mem_cons.mpr ⟨lw_p29, List.forall_mem_cons.mpr ⟨lw_p30, List.forall_mem_cons.mpr ⟨lw_p31, fun _ h => absurd h List.not_mem_nil⟩⟩⟩⟩⟩⟩⟩⟩⟩⟩⟩⟩⟩⟩⟩⟩
theorem lw_p32 : lw_okq (⟨"CacheDirectoryModel", "receive", "(II)V"⟩, 29) := ⟨⟨by decide +kernel, by decide +kernel⟩, List.mem_of_getElem? (i := 802) (by decide +kernel), List.mem_of_getElem? (i := 1054) (by decide +kernel), List.mem_of_getElem? (i := 1055) (by decide +kernel)⟩
theorem lw_p33 : lw_okq (⟨"CacheDirectoryModel", "complete", "(I)V"⟩, 29) := ⟨⟨by decide +kernel, by decide +kernel⟩, List.mem_of_getElem? (i := 802) (by decide +kernel), List.mem_of_getElem? (i := 1058) (by decide +kernel), List.mem_of_getElem? (i := 1059) (by decide +kernel)⟩
theorem lw_p34 : lw_okq (⟨"CacheDirectoryModel", "free", "(I)V"⟩, 29) := ⟨⟨by decide +kernel, by decide +kernel⟩, List.mem_of_getElem? (i := 802) (by decide +kernel), List.mem_of_getElem? (i := 1062) (by decide +kernel), List.mem_of_getElem? (i := 1063) (by decide +kernel)⟩
theorem lw_p35 : lw_okq (⟨"CacheDirectoryModel", "process", "(II)V"⟩, 29) := ⟨⟨by decide +kernel, by decide +kernel⟩, List.mem_of_getElem? (i := 802) (by decide +kernel), List.mem_of_getElem? (i := 1066) (by decide +kernel), List.mem_of_getElem? (i := 1067) (by decide +kernel)⟩
theorem lw_p36 : lw_okq (⟨"CacheDirectoryModel", "enqueue", "(I)V"⟩, 29) := ⟨⟨by decide +kernel, by decide +kernel⟩, List.mem_of_getElem? (i := 802) (by decide +kernel), List.mem_of_getElem? (i := 1070) (by decide +kernel), List.mem_of_getElem? (i := 1071) (by decide +kernel)⟩
def lw_privs_3 : List (MethodName × Nat) := [(⟨"CacheDirectoryModel", "receive", "(II)V"⟩, 29), (⟨"CacheDirectoryModel", "complete", "(I)V"⟩, 29), (⟨"CacheDirectoryModel", "free", "(I)V"⟩, 29), (⟨"CacheDirectoryModel", "process", "(II)V"⟩, 29), (⟨"CacheDirectoryModel", "enqueue", "(I)V"⟩, 29)]
theorem lw_r3 : ∀ q ∈ lw_privs_3, lw_okq q := List.forall_mem_cons.mpr ⟨lw_p32, List.forall_mem_cons.mpr ⟨lw_p33, List.forall_mem_cons.mpr ⟨lw_p34, List.forall_mem_cons.mpr ⟨lw_p35, List.forall_mem_cons.mpr ⟨lw_p36, fun _ h => absurd h List.not_mem_nil⟩⟩⟩⟩⟩
def lw_privs : List (MethodName × Nat) := lw_privs_1 ++ (lw_privs_2 ++ (lw_privs_3))
def lw_tbl : List Cond := k2_sels lw_privs ++ tables_1
theorem lw_privs_ok : ∀ q ∈ lw_privs, lw_okq q := by
  show ∀ q ∈ lw_privs_1 ++ (lw_privs_2 ++ (lw_privs_3)), lw_okq q
  exact List.forall_mem_append.mpr ⟨lw_r1, List.forall_mem_append.mpr ⟨lw_r2, lw_r3⟩⟩
end
section
/-! ===== BEGIN words of one list among another's, by their places ===== -/
theorem goodIn_r {big : List Cond} (ws : List Cond) (ps : List Nat) (hp : ws = ps.filterMap (fun i => big[i]?)) (h : ws.all goodWord = true) : GoodIn big ws := by
  intro w hw
  have h1 := List.all_eq_true.mp h w hw
  rw [hp] at hw
  obtain ⟨i, -, hi⟩ := List.mem_filterMap.mp hw
  have hm : w ∈ big := by first | exact List.mem_of_getElem? hi | exact List.getElem?_mem hi
  exact ⟨hm, good_of_word h1⟩
theorem goodIn_app {big a b : List Cond} (ha : GoodIn big a) (hb : GoodIn big b) : GoodIn big (a ++ b) := fun w h => (List.mem_append.mp h).elim (ha w) (hb w)
theorem goodIn_ca {big a b : List Cond} {c : Cond} (ha : GoodIn big (c :: a)) (hb : GoodIn big b) : GoodIn big (c :: (a ++ b)) := fun w h => (List.mem_cons.mp h).elim (fun e => ha w (List.mem_cons.mpr (Or.inl e))) (fun h => (List.mem_append.mp h).elim (fun h => ha w (List.mem_cons.mpr (Or.inr h))) (hb w))
theorem goodIn_sub {big ws : List Cond} (hm : ∀ w ∈ ws, w ∈ big) (h : ws.all goodWord = true) : GoodIn big ws := fun w hw => ⟨hm w hw, good_of_word (List.all_eq_true.mp h w hw)⟩
/-! ===== END ===== -/

/-! ===== BEGIN exceptions that leave a method, and their catching by the caller (launches without stack traces) ===== -/
section VXA
/-! The laws vx_back, vx_callV, vx_callS, vx_callSW, vx_throw0, vx_throwS follow proofs of the library, with one case more: JvmDerived/Free/Laws.lean (Back.of_free), Shelf42/LK1.lean (callV, callS), Shelf/KitTraced.lean (throwNew0V, throwNewS). -/
/-- where a method has thrown q: the class by its name, the cell, what was written, the world -/
def vx_T (XC : String → State → State → Prop) (st : State) (q : Addr) (t : State) (mc ms : Nat) (free : Addr → Prop) : Prop :=
  ∃ (E : String) (ce : Cell) (L : List Loc), XC E st t ∧ t.heap[q]? = some ce ∧ ce.vm = .none ∧ st.vm.findClass E = some ce.cls ∧ st.WarmedH t.vm ∧ st.sameButNew ({ t with vm := st.vm } : State) L mc ms ∧ ∀ z ∈ L, free z.base
def vx_Q (Qc : Array Value → State → Outcome → State → Prop) (XC : String → State → State → Prop) (mc ms : Nat) (free : Addr → Prop) : Array Value → State → Outcome → State → Prop := fun a st o t =>
  (Qc a st o t ∧ ∃ L, FrameEnd st o t L mc ms ∧ ∀ q ∈ L, free q.base) ∨ ∃ q, o = .threw q ∧ vx_T XC st q t mc ms free
/-- a callee that returns or throws -/
def vx_Met (l : Launch) (y : MethodName) (ws : List Cond) (rm : Room) (Pc : Array Value → State → Prop) (Qc : Array Value → State → Outcome → State → Prop) (XC : String → State → State → Prop) (mc ms : Nat) (free : Addr → Prop) : Prop :=
  MetFree l y (headSpec ws rm) Pc (fun _ _ _ _ _ => True) (vx_Q Qc XC mc ms free)
def vx_Post (XC : String → State → State → Prop) (mc ms : Nat) (free : Addr → Prop) : Pt → Array Value → Addr → Pt → Prop := fun A a q B =>
  ∃ (g : JFrame) (mk : MethodId) (t : State) (L : List Loc) (E : String) (ce : Cell), B.U.heap = t.heap ∧ B.U.vm = t.vm ∧ XC E (A.U.calling g mk a) t ∧ t.heap[q]? = some ce ∧ ce.vm = .none ∧ A.U.vm.findClass E = some ce.cls ∧ B.locs = A.locs ++ L ∧ (∀ z ∈ L, free z.base) ∧ B.cells = A.cells + mc ∧ B.slots = A.slots + ms
def vx_Back (l : Launch) (R : Room) (p : Program) (e : Env) (below : List Frame) (s : State) (sargs : Array Value) (y : MethodName) (len W9 : Nat)
    (Pre : Pt → Array Value → Prop) (Post : Pt → Array Value → Option Value → Pt → Prop) (PostX : Pt → Array Value → Addr → Pt → Prop) : Prop :=
  ∀ (m : MethodId) (meth : Method) (c : Code) (A : Pt) (g : JFrame) (ig : Instr) (mk : MethodId) (a : Array Value),
    Stand p l e R s m sargs below meth c A.U A.locs A.cells A.slots → g.method = m → g.locals.size = c.maxLocals → decode c.code g.pc = .ok (ig, len) →
    2 * g.monitorRoom + (g.stack.map fun v => v.category).sum ≤ W9 → A.U.methodNamed? y = some mk → Pre A a →
    (∃ (v : Option Value) (B : Pt), Stand p l e R s m sargs below meth c B.U B.locs B.cells B.slots ∧ Post A a v B ∧
      Steps p.tables e below (doInvoke e (A.U.setTop g) [] mk a).1 (B.U.setTop { g with pc := g.pc + len, stack := v.toList ++ g.stack })) ∨
    (∃ (q : Addr) (B : Pt), Stand p l e R s m sargs below meth c B.U B.locs B.cells B.slots ∧ PostX A a q B ∧
      Steps p.tables e below (doInvoke e (A.U.setTop g) [] mk a).1 ((B.U.setTop g).pushFrame (.throwing q)))
section Payer
variable {l : Launch} {R : Room} {p : Program} {e : Env} {below : List Frame} {s : State} {sargs : Array Value} {y : MethodName} {len W9 : Nat}
theorem vx_back {ws : List Cond} {rm : Room} {Pc : Array Value → State → Prop} {Qc : Array Value → State → Outcome → State → Prop} {XC : String → State → State → Prop} {mc ms : Nat} {free : Addr → Prop} {bytes : ByteArray} {maxL : Nat} {ret : Option FieldType}
    (hM : vx_Met l y ws rm Pc Qc XC mc ms free) (hblind : FrameBlind Pc) (hrc : rm.cells = mc) (hrs : rm.slots = ms)
    (hframes : rm.frames + 1 ≤ R.frames) (hlocals : W9 + (maxL + 11) + rm.locals ≤ R.locals)
    (hws : ∀ w ∈ ws, ∀ a' U, s.WarmedH U.vm → w.before a' U = true) (hcode : Cond.code y bytes maxL ret ∈ ws) (hinit : ∀ a' U, s.WarmedH U.vm → (Cond.initialized y.cls).before a' U = true) :
    vx_Back l R p e below s sargs y len W9 (PreOf R mc ms Pc) (PostOf Qc mc ms free) (vx_Post XC mc ms free) := by
  intro m meth c A g ig mk a X hg hsize hdg hW hn hp
  have h1 : (headSpec ws rm).pre.before a A.U = true := atoms_intro fun w hw => hws w hw _ _ X.warmed
  have h2 : (Cond.code y bytes maxL ret).before a A.U = true := hws _ hcode _ _ X.warmed
  have h3 : (Cond.initialized y.cls).before a A.U = true := hinit _ _ X.warmed
  have h4 : A.cells + (headSpec ws rm).room.cells ≤ R.cells := by rw [show (headSpec ws rm).room.cells = mc from hrc]; exact hp.1
  have h5 : A.slots + (headSpec ws rm).room.slots ≤ R.slots := by rw [show (headSpec ws rm).room.slots = ms from hrs]; exact hp.2.1
  have hPc : Pc a (A.U.calling g mk a) := hblind _ _ _ _ hp.2.2
  obtain ⟨U, Ls, c0, s0⟩ := A
  dsimp only [Pt.U, Pt.locs, Pt.cells, Pt.slots] at h1 h2 h3 h4 h5 X hn hPc ⊢
  obtain ⟨methY, cY, hmY, hcY, -, hlY, -, -, -, -⟩ := Cond.code_spec hn h2
  obtain ⟨kY, hkY, -⟩ := className_of_methodNamed hn
  have hinitY : kY.init = .initialized := Cond.initialized_spec (findClass_of_methodNamed hn) hkY h3
  have h : At U g.method c below := by rw [hg]; exact X.here
  have hlocals9 : W9 + (maxL + 11) + (headSpec ws rm).room.locals ≤ R.locals := hlocals
  have happ : (headSpec ws rm).appliesLoose y e.platform (U.calling g mk a) = true :=
    Spec.appliesLoose_calling (g := g) h hdg hn hkY hinitY
      (X.room_calling (g := g) (R' := (headSpec ws rm).room) hsize hmY hcY hframes (by rw [hlY]; omega) h4 h5) h1
  obtain ⟨mid, hmid⟩ := h.above
  have hfr : (U.setTop g).frames = (.java g :: mid) ++ below := by rw [State.frames_setTop' g h.top, hmid]; rfl
  obtain ⟨o, s₂, hsteps, -, hend, hq⟩ := Steps.callFree hM p X.admits X.cas X.clock (acts := []) hfr happ hPc trivial
  have hq' : vx_Q Qc XC mc ms free a (U.calling g mk a) o s₂ := hq
  rw [State.frames_setTop' g h.top] at hend
  obtain ⟨g₀, hg0⟩ := Option.isSome_iff_exists.mp h.top
  obtain ⟨r, hr⟩ := State.topJava?_eq_some.mp hg0
  have hr' : (({ U with heap := s₂.heap, slotsUsed := s₂.slotsUsed } : State).setVm s₂.vm).frames = .java g₀ :: r := hr
  rcases hq' with ⟨hqc, L, hfe, hL⟩ | ⟨q, rfl, E, ce, L, hx, hce, hcv, hcl, hW₂, hsm, hL⟩
  · obtain ⟨⟨v, rfl⟩, hW₂, e2, q2, q3, q4, q5, q6⟩ := id hfe
    have e3 : s₂ = ({ (U.calling g mk a).setFrames s₂.frames with heap := s₂.heap, slotsUsed := s₂.slotsUsed } : State).setVm s₂.vm := by
      have : s₂ = ({ s₂ with vm := (U.calling g mk a).vm } : State).setVm s₂.vm := rfl
      rw [e2] at this
      exact this
    obtain ⟨c₂, i₂, len₂, hc₂, hd₂, hf₂⟩ := hend
    have hW' : U.WarmedH s₂.vm := hW₂
    have hcc : c₂ = c := by
      have h1 : s₂.code? g.method = U.code? g.method := by
        rw [State.code?_eq, State.code?_eq, hW'.alike.method?]
      exact Option.some.inj (hc₂.symm.trans (h1.trans h.code))
    subst hcc
    have hlen : len₂ = len := by rw [hdg] at hd₂; cases hd₂; rfl
    subst hlen
    have hs₂ : s₂ = (({ U with heap := s₂.heap, slotsUsed := s₂.slotsUsed } : State).setVm s₂.vm).setTop { g with pc := g.pc + len₂, stack := v.toList ++ g.stack } := by
      refine e3.trans ?_
      rw [hf₂, State.calling_eq h.top, State.setFrames_setFrames, State.setTop_of_frames _ hr', hr]
      rfl
    have hsame : U.sameButNew ({ U with heap := s₂.heap, slotsUsed := s₂.slotsUsed } : State) L mc ms := by
      refine ⟨?_, q2, q3, q4, q5, q6⟩
      obtain ⟨t, ht, -⟩ := State.frames_cons hr
      show ({ U with heap := s₂.heap, slotsUsed := s₂.slotsUsed } : State) = { U.setFrames U.frames with heap := s₂.heap, slotsUsed := s₂.slotsUsed }
      rw [State.setFrames_self ht]
    subst hg
    refine Or.inl ⟨v, ⟨(({ U with heap := s₂.heap, slotsUsed := s₂.slotsUsed } : State).setVm s₂.vm), Ls ++ L, c0 + mc, s0 + ms⟩,
      ⟨X.admits, X.cas, X.clock, X.frames, X.room, X.hears, X.method, X.code, (X.here.setHeapUsed s₂.heap s₂.slotsUsed).setVm hW'.alike, X.tail, State.WarmedH.trans X.warmed hW', X.limits, X.bytes, X.same.trans (hsame.setVm s.vm)⟩,
      ⟨g, mk, s₂, L, rfl, rfl, hqc, rfl, hL, rfl, rfl⟩, ?_⟩
    show Steps p.tables e below _ ((({ U with heap := s₂.heap, slotsUsed := s₂.slotsUsed } : State).setVm s₂.vm).setTop { g with pc := g.pc + len₂, stack := v.toList ++ g.stack })
    rw [← hs₂]
    exact hsteps
  · obtain ⟨e2, q2, q3, q4, q5, q6⟩ := id hsm
    have e3 : s₂ = ({ (U.calling g mk a).setFrames s₂.frames with heap := s₂.heap, slotsUsed := s₂.slotsUsed } : State).setVm s₂.vm := by
      have : s₂ = ({ s₂ with vm := (U.calling g mk a).vm } : State).setVm s₂.vm := rfl
      rw [e2] at this
      exact this
    have hf₂ : s₂.frames = .throwing q :: .java g :: U.frames.tail := hend
    have hW' : U.WarmedH s₂.vm := hW₂
    have hs₂ : s₂ = ((({ U with heap := s₂.heap, slotsUsed := s₂.slotsUsed } : State).setVm s₂.vm).setTop g).pushFrame (.throwing q) := by
      refine e3.trans ?_
      rw [hf₂, State.calling_eq h.top, State.setFrames_setFrames, State.pushFrame, State.frames_setTop _ hr', State.setTop_of_frames _ hr', State.setFrames_setFrames, hr]
      rfl
    have hsame : U.sameButNew ({ U with heap := s₂.heap, slotsUsed := s₂.slotsUsed } : State) L mc ms := by
      refine ⟨?_, q2, q3, q4, q5, q6⟩
      obtain ⟨t, ht, -⟩ := State.frames_cons hr
      show ({ U with heap := s₂.heap, slotsUsed := s₂.slotsUsed } : State) = { U.setFrames U.frames with heap := s₂.heap, slotsUsed := s₂.slotsUsed }
      rw [State.setFrames_self ht]
    subst hg
    refine Or.inr ⟨q, ⟨(({ U with heap := s₂.heap, slotsUsed := s₂.slotsUsed } : State).setVm s₂.vm), Ls ++ L, c0 + mc, s0 + ms⟩,
      ⟨X.admits, X.cas, X.clock, X.frames, X.room, X.hears, X.method, X.code, (X.here.setHeapUsed s₂.heap s₂.slotsUsed).setVm hW'.alike, X.tail, State.WarmedH.trans X.warmed hW', X.limits, X.bytes, X.same.trans (hsame.setVm s.vm)⟩,
      ⟨g, mk, s₂, L, E, ce, rfl, rfl, hx, hce, hcv, hcl, rfl, hL, rfl, rfl⟩, ?_⟩
    show Steps p.tables e below _ (((({ U with heap := s₂.heap, slotsUsed := s₂.slotsUsed } : State).setVm s₂.vm).setTop g).pushFrame (.throwing q))
    rw [← hs₂]
    exact hsteps
end Payer
section Calls
variable {p : Program} {l : Launch} {e : Env} {R : Room} {s : State} {m : MethodId} {args : Array Value} {below : List Frame} {meth : Method} {c : Code} {T : State} {locs : List Loc} {cells slots : Nat}
theorem vx_callV (X : Stand p l e R s m args below meth c T locs cells slots) (hexec : p.tables.exec = Jvm.exec) {own C : String} {index : Nat} {y : MethodName} {bytes : ByteArray} {maxL : Nat} {ret : Option FieldType}
    (hown : s.vm.findClass own = some m.cls) (hlink : (Cond.methodLink own index y).before args s = true) (hinst : (Cond.instanceMethod y).before args s = true) (hsel : (Cond.selects C y y).before args s = true)
    (hcode : (Cond.code y bytes maxL ret).before args s = true) (hy : y.cls ≠ "java/lang/invoke/MethodHandle" ∧ y.cls ≠ "java/lang/invoke/VarHandle")
    {W9 : Nat} {Pre : Pt → Array Value → Prop} {Post : Pt → Array Value → Option Value → Pt → Prop} {PostX : Pt → Array Value → Addr → Pt → Prop} (hK : vx_Back l R p e below s args y 3 W9 Pre Post PostX)
    {b : Addr} {cellB : Cell} (hcell : T.heap[b]? = some cellB) (hobj : cellB.vm.isStatics = false) (hcls : s.vm.findClass C = some cellB.cls)
    {g : JFrame} (hg : g.method = m) (hsize : g.locals.size = c.maxLocals) {argsL rest : List Value} (hlen : ∀ sig, parseMethodDescriptor y.desc = some sig → argsL.length = sig.parameters.length)
    (hstack : g.stack = argsL.reverse ++ .ref b :: rest) (hW : 2 * g.monitorRoom + (rest.map fun v => v.category).sum ≤ W9) (hdg : decode c.code g.pc = .ok (.invokevirtual index, 3))
    (hpre : ∀ vm₁, s.WarmedH vm₁ → Pre ⟨T.setVm vm₁, locs, cells, slots⟩ (Value.ref b :: argsL).toArray) :
    (∃ (v : Option Value) (vm₁ : Vm) (B : Pt), s.WarmedH vm₁ ∧ Stand p l e R s m args below meth c B.U B.locs B.cells B.slots ∧ Post ⟨T.setVm vm₁, locs, cells, slots⟩ (Value.ref b :: argsL).toArray v B ∧
      ∀ target, Steps p.tables e below (B.U.setTop { g with pc := g.pc + 3, stack := v.toList ++ rest }) target → Steps p.tables e below (T.setTop g) target) ∨
    (∃ (q : Addr) (vm₁ : Vm) (B : Pt), s.WarmedH vm₁ ∧ Stand p l e R s m args below meth c B.U B.locs B.cells B.slots ∧ PostX ⟨T.setVm vm₁, locs, cells, slots⟩ (Value.ref b :: argsL).toArray q B ∧
      Steps p.tables e below (T.setTop g) ((B.U.setTop { g with stack := rest }).pushFrame (.throwing q))) := by
  obtain ⟨mk, methM, hnamed, hmethM, hstM, habM⟩ := Cond.instanceMethod_spec hinst
  obtain ⟨methM', cM, hmethM', -, -, -, -, -, -, hsigM⟩ := Cond.code_spec hnamed hcode
  cases hmethM.symm.trans hmethM'
  obtain ⟨c2, r2, m2, q1, q2, q3, q4, kP, hkP, hkPi⟩ := Cond.selects_spec hsel
  cases hcls.symm.trans q1
  cases (State.methodFound?_of_named hnamed hy).symm.trans q2
  cases hnamed.symm.trans q3
  have hselP : selectMethod e.platform s.vm cellB.cls mk = .method mk := by rw [Launch.admits_selectMethod X.admits]; exact q4
  obtain ⟨vm₁, X₁, hstep₁⟩ := X.invokevirtual hexec hown hlink hnamed hmethM hstM hkP hkPi hy (a := b) (cell := cellB) hcell
    (fun z h => by rw [h] at hobj; cases hobj) hselP hmethM habM hkP hkPi (g := g) hg (argsL := argsL) (rest := rest) (hlen _ hsigM) hstack hdg
  rcases hK m meth c ⟨T.setVm vm₁, locs, cells, slots⟩ { g with stack := rest } (.invokevirtual index) mk (Value.ref b :: argsL).toArray X₁ hg hsize hdg hW (X₁.named hnamed) (hpre vm₁ X₁.warmed) with ⟨v, B, X', hpost, hsteps⟩ | ⟨q, B, X', hpost, hsteps⟩
  · exact Or.inl ⟨v, vm₁, B, X₁.warmed, X', hpost, fun target h => hstep₁ _ fun acts => by rw [doInvoke_state]; exact hsteps.trans h⟩
  · exact Or.inr ⟨q, vm₁, B, X₁.warmed, X', hpost, hstep₁ _ fun acts => by rw [doInvoke_state]; exact hsteps⟩
theorem vx_callS (X : Stand p l e R s m args below meth c T locs cells slots) (hexec : p.tables.exec = Jvm.exec) {own : String} {index : Nat} {y : MethodName} {bytes : ByteArray} {maxL : Nat} {ret : Option FieldType}
    (hown : s.vm.findClass own = some m.cls) (hlink : (Cond.methodLink own index y).before args s = true) (hstat : (Cond.static y).before args s = true) (hinit : (Cond.initialized y.cls).before args s = true)
    (hcode : (Cond.code y bytes maxL ret).before args s = true) (hy : y.cls ≠ "java/lang/invoke/MethodHandle" ∧ y.cls ≠ "java/lang/invoke/VarHandle")
    {W9 : Nat} {Pre : Pt → Array Value → Prop} {Post : Pt → Array Value → Option Value → Pt → Prop} {PostX : Pt → Array Value → Addr → Pt → Prop} (hK : vx_Back l R p e below s args y 3 W9 Pre Post PostX)
    {g : JFrame} (hg : g.method = m) (hsize : g.locals.size = c.maxLocals) {argsL rest : List Value} (hlen : ∀ sig, parseMethodDescriptor y.desc = some sig → argsL.length = sig.parameters.length)
    (hstack : g.stack = argsL.reverse ++ rest) (hW : 2 * g.monitorRoom + (rest.map fun v => v.category).sum ≤ W9) (hdg : decode c.code g.pc = .ok (.invokestatic index, 3))
    (hpre : ∀ vm₁, s.WarmedH vm₁ → Pre ⟨T.setVm vm₁, locs, cells, slots⟩ argsL.toArray) :
    (∃ (v : Option Value) (vm₁ : Vm) (B : Pt), s.WarmedH vm₁ ∧ Stand p l e R s m args below meth c B.U B.locs B.cells B.slots ∧ Post ⟨T.setVm vm₁, locs, cells, slots⟩ argsL.toArray v B ∧
      ∀ target, Steps p.tables e below (B.U.setTop { g with pc := g.pc + 3, stack := v.toList ++ rest }) target → Steps p.tables e below (T.setTop g) target) ∨
    (∃ (q : Addr) (vm₁ : Vm) (B : Pt), s.WarmedH vm₁ ∧ Stand p l e R s m args below meth c B.U B.locs B.cells B.slots ∧ PostX ⟨T.setVm vm₁, locs, cells, slots⟩ argsL.toArray q B ∧
      Steps p.tables e below (T.setTop g) ((B.U.setTop { g with stack := rest }).pushFrame (.throwing q))) := by
  obtain ⟨mk, hnamed⟩ := Cond.code_named hcode
  obtain ⟨methM, cM, hmethM, -, -, -, -, -, -, hsigM⟩ := Cond.code_spec hnamed hcode
  have hstatic : methM.isStatic = true := Cond.static_spec hnamed hmethM hstat
  obtain ⟨kP, hkP, -⟩ := className_of_methodNamed hnamed
  have hinitP : kP.init = .initialized := Cond.initialized_spec (findClass_of_methodNamed hnamed) hkP hinit
  obtain ⟨vm₁, X₁, hstep₁⟩ := X.invokestatic hexec hown hlink hnamed hmethM hstatic hkP hinitP hy (g := g) hg (argsL := argsL) (rest := rest) (hlen _ hsigM) hstack hdg
  rcases hK m meth c ⟨T.setVm vm₁, locs, cells, slots⟩ { g with stack := rest } (.invokestatic index) mk argsL.toArray X₁ hg hsize hdg hW (X₁.named hnamed) (hpre vm₁ X₁.warmed) with ⟨v, B, X', hpost, hsteps⟩ | ⟨q, B, X', hpost, hsteps⟩
  · exact Or.inl ⟨v, vm₁, B, X₁.warmed, X', hpost, fun target h => hstep₁ _ fun acts => by rw [doInvoke_state]; exact hsteps.trans h⟩
  · exact Or.inr ⟨q, vm₁, B, X₁.warmed, X', hpost, hstep₁ _ fun acts => by rw [doInvoke_state]; exact hsteps⟩
end Calls
theorem vx_cls {s : State} {T : State} {vm₁ : Vm} {E : String} {k : ClassId} (hW : s.WarmedH vm₁) (h : (T.setVm vm₁).vm.findClass E = some k) : s.vm.findClass E = some k := by
  have h1 : vm₁.findClass E = some k := h
  rw [hW.alike.findClass] at h1
  exact h1
/-- the method's frame g, with q thrown over it -/
def vx_W (p : Program) (l : Launch) (e : Env) (R : Room) (s : State) (m : MethodId) (args : Array Value) (below : List Frame) (meth : Method) (c : Code) (H : Heap) (locs : List Loc) (cells slots : Nat) (Q : State → Prop) (g : JFrame) (q : Addr) : Prop :=
  ∀ T : State, T.heap = H → Stand p l e R s m args below meth c T locs cells slots → ∃ t, Steps p.tables e below ((T.setTop g).pushFrame (.throwing q)) t ∧ Q t
def vx_Run (p : Program) (l : Launch) (e : Env) (R : Room) (s : State) (m : MethodId) (args : Array Value) (below : List Frame) (meth : Method) (c : Code) (H : Heap) (locs : List Loc) (cells slots mc ms : Nat) (g : JFrame) (rest : List Value) (Qa : State → Outcome → State → Prop) (XC : String → State → State → Prop) (free : Addr → Prop) : Prop :=
  ∀ T : State, T.heap = H → Stand p l e R s m args below meth c T locs cells slots →
    (∃ (v : Option Value) (st₀ t T' : State) (L : List Loc), st₀.heap = H ∧ Stand p l e R s m args below meth c T' (locs ++ L) (cells + mc) (slots + ms) ∧ (∀ q ∈ L, free q.base) ∧ T'.heap = t.heap ∧ T'.vm = t.vm ∧ Qa st₀ (.returned v) t ∧
      Goes p e below T g T' { g with pc := g.pc + 3, stack := v.toList ++ rest }) ∨
    (∃ (q : Addr) (st₀ t T' : State) (L : List Loc) (E : String) (ce : Cell), st₀.heap = H ∧ Stand p l e R s m args below meth c T' (locs ++ L) (cells + mc) (slots + ms) ∧ (∀ z ∈ L, free z.base) ∧ T'.heap = t.heap ∧ T'.vm = t.vm ∧ XC E st₀ t ∧ t.heap[q]? = some ce ∧ ce.vm = .none ∧ s.vm.findClass E = some ce.cls ∧
      Steps p.tables e below (T.setTop g) ((T'.setTop { g with stack := rest }).pushFrame (.throwing q)))
def vx_X {S : Type} (px : S → Prop) (B : String → S → State → Prop) (A : Nat → Prop) : String → State → State → Prop := fun E st t => ∃ u : S, px u ∧ B E u t ∧ va_F A st t
section Runs
variable {p : Program} {l : Launch} {e : Env} {R : Room} {s : State} {m : MethodId} {args : Array Value} {below : List Frame} {meth : Method} {c : Code} {H : Heap} {locs : List Loc} {cells slots : Nat}
variable {y : MethodName} {bytes cc : ByteArray} {maxL nL mc ms n index : Nat} {ret : Option FieldType} {ws : List Cond} {rm : Room} {Pc : Array Value → State → Prop} {Qc : Array Value → State → Outcome → State → Prop} {XC : String → State → State → Prop} {free : Addr → Prop} {Ts : List Cond} {own C : String} {b : Addr} {As rest : List Value} {g : JFrame}
theorem vx_callBack (cb : CallB R s args own index y bytes maxL ret ws rm mc ms n) (hM : vx_Met l y ws rm Pc Qc XC mc ms free) (hbl : FrameBlind Pc) : vx_Back l R p e below s args y 3 8 (PreOf R mc ms Pc) (PostOf Qc mc ms free) (vx_Post XC mc ms free) := by
  obtain ⟨hrc, hrs, hfr, hlo, hws, hcw, -, hini, -⟩ := cb
  exact vx_back (bytes := bytes) (maxL := maxL) (ret := ret) hM hbl hrc hrs hfr hlo hws hcw (fun a' U hW => word_at hW (Or.inl (by first | rfl | simp [Cond.onTables, Cond.keeps, Cond.steady])) hini)
theorem vx_runV (S : CallFix p m c cc nL s args Ts own) (hM : vx_Met l y ws rm Pc Qc XC mc ms free) (cw : CallW R s args own C index y bytes maxL ret ws rm mc ms n) (hp : PreV s H C b Pc As)
    (hg : g.method = m) (hn : As.length = n) (hsize : g.locals.size = nL) (hstack : g.stack = As.reverse ++ .ref b :: rest) (hW : 2 * g.monitorRoom + (rest.map fun v => v.category).sum ≤ 8) (hdg : decode cc g.pc = .ok (.invokevirtual index, 3)) (hf : cells + mc ≤ R.cells ∧ slots + ms ≤ R.slots) :
    vx_Run p l e R s m args below meth c H locs cells slots mc ms g rest (Qc (Value.ref b :: As).toArray) XC free := by
  have hK : vx_Back l R p e below s args y 3 8 (PreOf R mc ms Pc) (PostOf Qc mc ms free) (vx_Post XC mc ms free) := vx_callBack cw.1 hM hp.1
  obtain ⟨⟨-, -, -, -, -, -, hcode, -, hy, hlen, hl⟩, hin, hse⟩ := cw
  obtain ⟨hx, hb, hml, ho, -⟩ := S
  obtain ⟨-, ⟨cellB, hcB, hoB, hclB⟩, hPc⟩ := hp
  intro T hT X
  rcases vx_callV X hx (C := C) (bytes := bytes) (maxL := maxL) (ret := ret) ho hl hin hse hcode hy hK (by rw [hT]; exact hcB) hoB hclB hg (hsize.trans hml.symm) (argsL := As) (rest := rest) (fun sig h => hn.trans (hlen sig h)) hstack hW (by rw [hb]; exact hdg)
    (fun vm₁ hW₁ => ⟨hf.1, hf.2, hPc (T.setVm vm₁) hT hW₁⟩) with ⟨v, vm₁, ⟨U', l2, c2, s2⟩, hW₁, X', ⟨g', mk, t, L, e1, e2, hq, h1, hL, h2, h3⟩, st⟩ | ⟨q, vm₁, ⟨U', l2, c2, s2⟩, hW₁, X', ⟨g', mk, t, L, E, ce, e1, e2, hq, hce, hcv, hcl, h1, hL, h2, h3⟩, st⟩
  · dsimp only [Pt.U, Pt.locs, Pt.cells, Pt.slots] at X' e1 e2 h1 h2 h3 st
    subst h1; subst h2; subst h3
    exact Or.inl ⟨v, (T.setVm vm₁).calling g' mk (Value.ref b :: As).toArray, t, U', L, hT, X', hL, e1, e2, hq, st⟩
  · dsimp only [Pt.U, Pt.locs, Pt.cells, Pt.slots] at X' e1 e2 h1 h2 h3 st hcl
    subst h1; subst h2; subst h3
    exact Or.inr ⟨q, (T.setVm vm₁).calling g' mk (Value.ref b :: As).toArray, t, U', L, E, ce, hT, X', hL, e1, e2, hq, hce, hcv, vx_cls hW₁ hcl, st⟩
theorem vx_runS (S : CallFix p m c cc nL s args Ts own) (hM : vx_Met l y ws rm Pc Qc XC mc ms free) (cw : CallB R s args own index y bytes maxL ret ws rm mc ms n ∧ (Cond.static y).before args s = true) (hp : PreS s H Pc As)
    (hg : g.method = m) (hn : As.length = n) (hsize : g.locals.size = nL) (hstack : g.stack = As.reverse ++ rest) (hW : 2 * g.monitorRoom + (rest.map fun v => v.category).sum ≤ 8) (hdg : decode cc g.pc = .ok (.invokestatic index, 3)) (hf : cells + mc ≤ R.cells ∧ slots + ms ≤ R.slots) :
    vx_Run p l e R s m args below meth c H locs cells slots mc ms g rest (Qc As.toArray) XC free := by
  have hK : vx_Back l R p e below s args y 3 8 (PreOf R mc ms Pc) (PostOf Qc mc ms free) (vx_Post XC mc ms free) := vx_callBack cw.1 hM hp.1
  obtain ⟨⟨-, -, -, -, -, -, hcode, hini, hy, hlen, hl⟩, hstt⟩ := cw
  obtain ⟨hx, hb, hml, ho, -⟩ := S
  intro T hT X
  rcases vx_callS X hx (bytes := bytes) (maxL := maxL) (ret := ret) ho hl hstt hini hcode hy hK hg (hsize.trans hml.symm) (argsL := As) (rest := rest) (fun sig h => hn.trans (hlen sig h)) hstack hW (by rw [hb]; exact hdg)
    (fun vm₁ hW₁ => ⟨hf.1, hf.2, hp.2 (T.setVm vm₁) hT hW₁⟩) with ⟨v, vm₁, ⟨U', l2, c2, s2⟩, hW₁, X', ⟨g', mk, t, L, e1, e2, hq, h1, hL, h2, h3⟩, st⟩ | ⟨q, vm₁, ⟨U', l2, c2, s2⟩, hW₁, X', ⟨g', mk, t, L, E, ce, e1, e2, hq, hce, hcv, hcl, h1, hL, h2, h3⟩, st⟩
  · dsimp only [Pt.U, Pt.locs, Pt.cells, Pt.slots] at X' e1 e2 h1 h2 h3 st
    subst h1; subst h2; subst h3
    exact Or.inl ⟨v, (T.setVm vm₁).calling g' mk As.toArray, t, U', L, hT, X', hL, e1, e2, hq, st⟩
  · dsimp only [Pt.U, Pt.locs, Pt.cells, Pt.slots] at X' e1 e2 h1 h2 h3 st hcl
    subst h1; subst h2; subst h3
    exact Or.inr ⟨q, (T.setVm vm₁).calling g' mk As.toArray, t, U', L, E, ce, hT, X', hL, e1, e2, hq, hce, hcv, vx_cls hW₁ hcl, st⟩
end Runs
section Rows
variable {p : Program} {l : Launch} {e : Env} {R : Room} {s : State} {m : MethodId} {args : Array Value} {below : List Frame} {meth : Method} {c : Code} {H : Heap} {locs : List Loc} {cells slots : Nat} {Q : State → Prop}
variable {mc ms : Nat} {free : Addr → Prop} {A0 A1 : Nat → Prop} {H0 : Heap} {a : Array Value} {pc : Nat} {ls : Array Slot} {st0 rest : List Value}
theorem vx_keep {st₀ t T' : State} {L : List Loc} (h0 : st₀.heap = H) (e1 : T'.heap = t.heap) (hS : va_S A0 H0 H locs) (hA : ∀ q, q < H.size → A1 q → A0 q) (hf : ∀ q, free q → A0 q) (hL : ∀ q ∈ L, free q.base) (hF : va_F A1 st₀ t) :
    H.size ≤ T'.heap.size ∧ (∀ q : Nat, q < H.size → ¬ A1 q → T'.heap[q]? = H[q]?) ∧ va_S A0 H0 T'.heap (locs ++ L) := by
  obtain ⟨hz, hk⟩ := hF
  rw [h0] at hz hk
  exact ⟨by rw [e1]; exact hz, fun q h1 h2 => by rw [e1]; exact hk q h1 h2,
    ⟨Nat.le_trans hS.1 (by rw [e1]; exact hz), fun q h1 h2 => by rw [e1, hk q (Nat.lt_of_lt_of_le h1 hS.1) (fun z => h2 (hA q (Nat.lt_of_lt_of_le h1 hS.1) z))]; exact hS.2.1 q h1 h2, fun q hq => by
      rcases List.mem_append.mp hq with h | h
      · exact hS.2.2 q h
      · exact hf _ (hL q h)⟩⟩
theorem vx_calli {S SX : Type} {post : Int32 → S → Prop} {px : SX → Prop} {B : S → State → Prop} {BX : String → SX → State → Prop} {AX : Nat → Prop} (hr : vx_Run p l e R s m args below meth c H locs cells slots mc ms (F0 m pc ls st0) rest (va_Qi post B A1 a) (vx_X px BX AX) free) (hS : va_S A0 H0 H locs) (hA : ∀ q, q < H.size → A1 q → A0 q) (hf : ∀ q, free q → A0 q) (hAX : ∀ q, q < H.size → AX q → A0 q)
    (kx : ∀ (E : String) (ce : Cell) (q9 : Addr) (u : SX) (t : State) (H1 : Heap) (locs1 : List Loc), t.heap = H1 → s.vm.Alike t.vm → px u → BX E u t → H.size ≤ H1.size → (∀ q : Nat, q < H.size → ¬ AX q → H1[q]? = H[q]?) → va_S A0 H0 H1 locs1 → H1[q9]? = some ce → ce.vm = .none → s.vm.findClass E = some ce.cls → vx_W p l e R s m args below meth c H1 locs1 (cells + mc) (slots + ms) Q (F0 m pc ls rest) q9)
    (kk : ∀ (r : Int32) (u : S) (t : State) (H1 : Heap) (locs1 : List Loc), t.heap = H1 → s.vm.Alike t.vm → post r u → B u t → H.size ≤ H1.size → (∀ q : Nat, q < H.size → ¬ A1 q → H1[q]? = H[q]?) → va_S A0 H0 H1 locs1 → W p l e R s m args below meth c H1 locs1 (cells + mc) (slots + ms) Q (F0 m (pc + 3) ls (.int r :: rest))) : W p l e R s m args below meth c H locs cells slots Q (F0 m pc ls st0) := by
  intro T hT X
  rcases hr T hT X with ⟨v, st₀, t, T', L, h0, X', hL, e1, e2, ⟨⟨r, u, hv, hp, hb⟩, hF⟩, st⟩ | ⟨q, st₀, t, T', L, E, ce, h0, X', hL, e1, e2, ⟨u, hp, hb, hF⟩, hce, hcv, hcl, st⟩
  · cases hv
    obtain ⟨k1, k2, k3⟩ := vx_keep h0 e1 hS hA hf hL hF
    obtain ⟨t2, a1, b1⟩ := kk r u t T'.heap (locs ++ L) e1.symm (by rw [← e2]; exact X'.warmed.alike) hp hb k1 k2 k3 T' rfl X'
    exact ⟨t2, st t2 a1, b1⟩
  · obtain ⟨k1, k2, k3⟩ := vx_keep h0 e1 hS hAX hf hL hF
    obtain ⟨t2, a1, b1⟩ := kx E ce q u t T'.heap (locs ++ L) e1.symm (by rw [← e2]; exact X'.warmed.alike) hp hb k1 k2 k3 (by rw [e1]; exact hce) hcv hcl T' rfl X'
    exact ⟨t2, st.trans a1, b1⟩
theorem vx_calll {S SX : Type} {post : Int64 → S → Prop} {px : SX → Prop} {B : S → State → Prop} {BX : String → SX → State → Prop} {AX : Nat → Prop} (hr : vx_Run p l e R s m args below meth c H locs cells slots mc ms (F0 m pc ls st0) rest (va_Ql post B A1 a) (vx_X px BX AX) free) (hS : va_S A0 H0 H locs) (hA : ∀ q, q < H.size → A1 q → A0 q) (hf : ∀ q, free q → A0 q) (hAX : ∀ q, q < H.size → AX q → A0 q)
    (kx : ∀ (E : String) (ce : Cell) (q9 : Addr) (u : SX) (t : State) (H1 : Heap) (locs1 : List Loc), t.heap = H1 → s.vm.Alike t.vm → px u → BX E u t → H.size ≤ H1.size → (∀ q : Nat, q < H.size → ¬ AX q → H1[q]? = H[q]?) → va_S A0 H0 H1 locs1 → H1[q9]? = some ce → ce.vm = .none → s.vm.findClass E = some ce.cls → vx_W p l e R s m args below meth c H1 locs1 (cells + mc) (slots + ms) Q (F0 m pc ls rest) q9)
    (kk : ∀ (r : Int64) (u : S) (t : State) (H1 : Heap) (locs1 : List Loc), t.heap = H1 → s.vm.Alike t.vm → post r u → B u t → H.size ≤ H1.size → (∀ q : Nat, q < H.size → ¬ A1 q → H1[q]? = H[q]?) → va_S A0 H0 H1 locs1 → W p l e R s m args below meth c H1 locs1 (cells + mc) (slots + ms) Q (F0 m (pc + 3) ls (.long r :: rest))) : W p l e R s m args below meth c H locs cells slots Q (F0 m pc ls st0) := by
  intro T hT X
  rcases hr T hT X with ⟨v, st₀, t, T', L, h0, X', hL, e1, e2, ⟨⟨r, u, hv, hp, hb⟩, hF⟩, st⟩ | ⟨q, st₀, t, T', L, E, ce, h0, X', hL, e1, e2, ⟨u, hp, hb, hF⟩, hce, hcv, hcl, st⟩
  · cases hv
    obtain ⟨k1, k2, k3⟩ := vx_keep h0 e1 hS hA hf hL hF
    obtain ⟨t2, a1, b1⟩ := kk r u t T'.heap (locs ++ L) e1.symm (by rw [← e2]; exact X'.warmed.alike) hp hb k1 k2 k3 T' rfl X'
    exact ⟨t2, st t2 a1, b1⟩
  · obtain ⟨k1, k2, k3⟩ := vx_keep h0 e1 hS hAX hf hL hF
    obtain ⟨t2, a1, b1⟩ := kx E ce q u t T'.heap (locs ++ L) e1.symm (by rw [← e2]; exact X'.warmed.alike) hp hb k1 k2 k3 (by rw [e1]; exact hce) hcv hcl T' rfl X'
    exact ⟨t2, st.trans a1, b1⟩
theorem vx_callf {S SX : Type} {post : UInt32 → S → Prop} {px : SX → Prop} {B : S → State → Prop} {BX : String → SX → State → Prop} {AX : Nat → Prop} (hr : vx_Run p l e R s m args below meth c H locs cells slots mc ms (F0 m pc ls st0) rest (va_Qf post B A1 a) (vx_X px BX AX) free) (hS : va_S A0 H0 H locs) (hA : ∀ q, q < H.size → A1 q → A0 q) (hf : ∀ q, free q → A0 q) (hAX : ∀ q, q < H.size → AX q → A0 q)
    (kx : ∀ (E : String) (ce : Cell) (q9 : Addr) (u : SX) (t : State) (H1 : Heap) (locs1 : List Loc), t.heap = H1 → s.vm.Alike t.vm → px u → BX E u t → H.size ≤ H1.size → (∀ q : Nat, q < H.size → ¬ AX q → H1[q]? = H[q]?) → va_S A0 H0 H1 locs1 → H1[q9]? = some ce → ce.vm = .none → s.vm.findClass E = some ce.cls → vx_W p l e R s m args below meth c H1 locs1 (cells + mc) (slots + ms) Q (F0 m pc ls rest) q9)
    (kk : ∀ (r : UInt32) (u : S) (t : State) (H1 : Heap) (locs1 : List Loc), t.heap = H1 → s.vm.Alike t.vm → post r u → B u t → H.size ≤ H1.size → (∀ q : Nat, q < H.size → ¬ A1 q → H1[q]? = H[q]?) → va_S A0 H0 H1 locs1 → W p l e R s m args below meth c H1 locs1 (cells + mc) (slots + ms) Q (F0 m (pc + 3) ls (.float r :: rest))) : W p l e R s m args below meth c H locs cells slots Q (F0 m pc ls st0) := by
  intro T hT X
  rcases hr T hT X with ⟨v, st₀, t, T', L, h0, X', hL, e1, e2, ⟨⟨r, u, hv, hp, hb⟩, hF⟩, st⟩ | ⟨q, st₀, t, T', L, E, ce, h0, X', hL, e1, e2, ⟨u, hp, hb, hF⟩, hce, hcv, hcl, st⟩
  · cases hv
    obtain ⟨k1, k2, k3⟩ := vx_keep h0 e1 hS hA hf hL hF
    obtain ⟨t2, a1, b1⟩ := kk r u t T'.heap (locs ++ L) e1.symm (by rw [← e2]; exact X'.warmed.alike) hp hb k1 k2 k3 T' rfl X'
    exact ⟨t2, st t2 a1, b1⟩
  · obtain ⟨k1, k2, k3⟩ := vx_keep h0 e1 hS hAX hf hL hF
    obtain ⟨t2, a1, b1⟩ := kx E ce q u t T'.heap (locs ++ L) e1.symm (by rw [← e2]; exact X'.warmed.alike) hp hb k1 k2 k3 (by rw [e1]; exact hce) hcv hcl T' rfl X'
    exact ⟨t2, st.trans a1, b1⟩
theorem vx_calld {S SX : Type} {post : UInt64 → S → Prop} {px : SX → Prop} {B : S → State → Prop} {BX : String → SX → State → Prop} {AX : Nat → Prop} (hr : vx_Run p l e R s m args below meth c H locs cells slots mc ms (F0 m pc ls st0) rest (va_Qd post B A1 a) (vx_X px BX AX) free) (hS : va_S A0 H0 H locs) (hA : ∀ q, q < H.size → A1 q → A0 q) (hf : ∀ q, free q → A0 q) (hAX : ∀ q, q < H.size → AX q → A0 q)
    (kx : ∀ (E : String) (ce : Cell) (q9 : Addr) (u : SX) (t : State) (H1 : Heap) (locs1 : List Loc), t.heap = H1 → s.vm.Alike t.vm → px u → BX E u t → H.size ≤ H1.size → (∀ q : Nat, q < H.size → ¬ AX q → H1[q]? = H[q]?) → va_S A0 H0 H1 locs1 → H1[q9]? = some ce → ce.vm = .none → s.vm.findClass E = some ce.cls → vx_W p l e R s m args below meth c H1 locs1 (cells + mc) (slots + ms) Q (F0 m pc ls rest) q9)
    (kk : ∀ (r : UInt64) (u : S) (t : State) (H1 : Heap) (locs1 : List Loc), t.heap = H1 → s.vm.Alike t.vm → post r u → B u t → H.size ≤ H1.size → (∀ q : Nat, q < H.size → ¬ A1 q → H1[q]? = H[q]?) → va_S A0 H0 H1 locs1 → W p l e R s m args below meth c H1 locs1 (cells + mc) (slots + ms) Q (F0 m (pc + 3) ls (.double r :: rest))) : W p l e R s m args below meth c H locs cells slots Q (F0 m pc ls st0) := by
  intro T hT X
  rcases hr T hT X with ⟨v, st₀, t, T', L, h0, X', hL, e1, e2, ⟨⟨r, u, hv, hp, hb⟩, hF⟩, st⟩ | ⟨q, st₀, t, T', L, E, ce, h0, X', hL, e1, e2, ⟨u, hp, hb, hF⟩, hce, hcv, hcl, st⟩
  · cases hv
    obtain ⟨k1, k2, k3⟩ := vx_keep h0 e1 hS hA hf hL hF
    obtain ⟨t2, a1, b1⟩ := kk r u t T'.heap (locs ++ L) e1.symm (by rw [← e2]; exact X'.warmed.alike) hp hb k1 k2 k3 T' rfl X'
    exact ⟨t2, st t2 a1, b1⟩
  · obtain ⟨k1, k2, k3⟩ := vx_keep h0 e1 hS hAX hf hL hF
    obtain ⟨t2, a1, b1⟩ := kx E ce q u t T'.heap (locs ++ L) e1.symm (by rw [← e2]; exact X'.warmed.alike) hp hb k1 k2 k3 (by rw [e1]; exact hce) hcv hcl T' rfl X'
    exact ⟨t2, st.trans a1, b1⟩
theorem vx_callv {S SX : Type} {post : S → Prop} {px : SX → Prop} {B : S → State → Prop} {BX : String → SX → State → Prop} {AX : Nat → Prop} (hr : vx_Run p l e R s m args below meth c H locs cells slots mc ms (F0 m pc ls st0) rest (va_Qv post B A1 a) (vx_X px BX AX) free) (hS : va_S A0 H0 H locs) (hA : ∀ q, q < H.size → A1 q → A0 q) (hf : ∀ q, free q → A0 q) (hAX : ∀ q, q < H.size → AX q → A0 q)
    (kx : ∀ (E : String) (ce : Cell) (q9 : Addr) (u : SX) (t : State) (H1 : Heap) (locs1 : List Loc), t.heap = H1 → s.vm.Alike t.vm → px u → BX E u t → H.size ≤ H1.size → (∀ q : Nat, q < H.size → ¬ AX q → H1[q]? = H[q]?) → va_S A0 H0 H1 locs1 → H1[q9]? = some ce → ce.vm = .none → s.vm.findClass E = some ce.cls → vx_W p l e R s m args below meth c H1 locs1 (cells + mc) (slots + ms) Q (F0 m pc ls rest) q9)
    (kk : ∀ (u : S) (t : State) (H1 : Heap) (locs1 : List Loc), t.heap = H1 → s.vm.Alike t.vm → post u → B u t → H.size ≤ H1.size → (∀ q : Nat, q < H.size → ¬ A1 q → H1[q]? = H[q]?) → va_S A0 H0 H1 locs1 → W p l e R s m args below meth c H1 locs1 (cells + mc) (slots + ms) Q (F0 m (pc + 3) ls (rest))) : W p l e R s m args below meth c H locs cells slots Q (F0 m pc ls st0) := by
  intro T hT X
  rcases hr T hT X with ⟨v, st₀, t, T', L, h0, X', hL, e1, e2, ⟨⟨u, hv, hp, hb⟩, hF⟩, st⟩ | ⟨q, st₀, t, T', L, E, ce, h0, X', hL, e1, e2, ⟨u, hp, hb, hF⟩, hce, hcv, hcl, st⟩
  · cases hv
    obtain ⟨k1, k2, k3⟩ := vx_keep h0 e1 hS hA hf hL hF
    obtain ⟨t2, a1, b1⟩ := kk u t T'.heap (locs ++ L) e1.symm (by rw [← e2]; exact X'.warmed.alike) hp hb k1 k2 k3 T' rfl X'
    exact ⟨t2, st t2 a1, b1⟩
  · obtain ⟨k1, k2, k3⟩ := vx_keep h0 e1 hS hAX hf hL hF
    obtain ⟨t2, a1, b1⟩ := kx E ce q u t T'.heap (locs ++ L) e1.symm (by rw [← e2]; exact X'.warmed.alike) hp hb k1 k2 k3 (by rw [e1]; exact hce) hcv hcl T' rfl X'
    exact ⟨t2, st.trans a1, b1⟩
/-- caught by the row x of this method's table; the rows ahead don't take it -/
theorem vx_catch {own name : String} {E : String} {ce : Cell} {q : Addr} (hown : s.vm.findClass own = some m.cls) (pre : List ExceptionTableEntry) (x : ExceptionTableEntry) (suf : List ExceptionTableEntry) (hsplit : c.exceptionTable.toList = pre ++ x :: suf)
    (hpass : ∀ z ∈ pre, covers z pc = false ∨ (z.catchType ≠ 0 ∧ ∃ nm : String, (Cond.classLink own z.catchType nm).before args s = true ∧ va_Nc E nm s)) (hx : covers x pc = true) (h0 : x.catchType ≠ 0)
    (hlink : (Cond.classLink own x.catchType name).before args s = true) (hcast : (Cond.castable E name).before args s = true) (hcell : H[q]? = some ce) (hv : ce.vm = .none) (hcl : s.vm.findClass E = some ce.cls)
    (kk : W p l e R s m args below meth c H locs cells slots Q (F0 m x.handlerPc ls [.ref q])) : vx_W p l e R s m args below meth c H locs cells slots Q (F0 m pc ls rest) q := by
  intro T hT X
  have hpl : e.platform.magicAccessors = ({} : Platform).magicAccessors := by rw [X.admits.platform]
  obtain ⟨c3, c4, hc3, hc4, hasg⟩ := Cond.castable_spec hcast
  cases Option.some.inj (hc3.symm.trans hcl)
  obtain ⟨c5, hc5, hcl5⟩ := Cond.classLink_spec hown hlink e.platform hpl
  cases Option.some.inj (hc4.symm.trans hc5)
  obtain ⟨vm', X', st⟩ := X.thenCaughtThrough q (g := F0 m pc ls rest) rfl (Steps.refl _) (by rw [hT]; exact hcell) (by rw [hv]; rfl) (by obtain ⟨k9, h9, -⟩ := Vm.findClass_spec hcl; exact ⟨k9, h9⟩) pre x suf hsplit
    (fun z hz => by
      rcases hpass z hz with h | ⟨hz0, nm, hl1, hn1⟩
      · exact Or.inl h
      · obtain ⟨c6, hc6, hcl6⟩ := Cond.classLink_spec hown hl1 e.platform hpl
        obtain ⟨a8, b8, h1, h2, h3⟩ := hn1
        cases Option.some.inj (h1.symm.trans hcl)
        cases Option.some.inj (h2.symm.trans hc6)
        exact Or.inr ⟨hz0, _, hcl6, h3⟩) hx (Or.inr ⟨h0, c4, hcl5, hasg⟩)
  obtain ⟨t, a1, b1⟩ := kk (T.setVm vm') hT X'
  exact ⟨t, st.trans a1, b1⟩
end Rows
section Ends
variable {p : Program} {l : Launch} {e : Env} {R : Room} {s : State} {m : MethodId} {args : Array Value} {below : List Frame} {meth : Method} {c : Code} {H : Heap} {locs : List Loc} {cells slots : Nat} {Q : State → Prop}
variable {mc ms : Nat} {free : Addr → Prop} {A0 A1 : Nat → Prop} {H0 : Heap} {a : Array Value} {ls : Array Slot} {st0 rest : List Value}
variable {Qc : Array Value → State → Outcome → State → Prop} {XC : String → State → State → Prop}
/-- what a body that may throw owes at its end -/
def vx_MQ (below : List Frame) (Qc : Array Value → State → Outcome → State → Prop) (XC : String → State → State → Prop) (a : Array Value) (s : State) (mc ms : Nat) (free : Addr → Prop) : State → Prop := fun t =>
  ∃ o, t.status = .running ∧ Ended t below o ∧ vx_Q Qc XC mc ms free a s o t
theorem vx_ret {g : JFrame} {mc ms : Nat} (k : W p l e R s m args below meth c H locs cells slots (MQ below Qc args s mc ms free) g) : W p l e R s m args below meth c H locs cells slots (vx_MQ below Qc XC args s mc ms free) g := by
  intro T hT X
  obtain ⟨t, a1, o, b1, b2, b3, b4⟩ := k T hT X
  exact ⟨t, a1, o, b1, b2, Or.inl ⟨b3, b4⟩⟩
/-- not caught here: it goes on to the caller -/
theorem vx_widen {g : JFrame} {q : Addr} {k n : Nat} (h1 : cells ≤ k) (h2 : slots ≤ n) (kk : vx_W p l e R s m args below meth c H locs k n Q g q) : vx_W p l e R s m args below meth c H locs cells slots Q g q := fun T hT X => kk T hT (stand_widen X h1 h2)
theorem vx_out {pc : Nat} {E : String} {ce : Cell} {q : Addr} {mc ms : Nat} (hout : ∀ x ∈ c.exceptionTable.toList, covers x pc = false) (hlocks : meth.locks = false) (hcell : H[q]? = some ce) (hv : ce.vm = .none) (hcl : s.vm.findClass E = some ce.cls)
    (hx : ∀ t : State, t.heap = H → s.vm.Alike t.vm → XC E s t) (hf : ∀ z ∈ locs, free z.base) (hc : cells ≤ mc) (hs : slots ≤ ms) :
    vx_W p l e R s m args below meth c H locs cells slots (vx_MQ below Qc XC args s mc ms free) (F0 m pc ls rest) q := by
  intro T hT X
  obtain ⟨st1, hrun, hend, hW, hsm⟩ := X.leaveThrown q (g := F0 m pc ls rest) rfl rfl rfl hout hlocks
  have hcell9 : (T.setFrames (.throwing q :: below)).heap[q]? = some ce := by
    show T.heap[q]? = some ce
    rw [hT]; exact hcell
  exact ⟨_, st1, .threw q, hrun, hend, Or.inr ⟨q, rfl, E, ce, locs, hx _ hT hW.alike, hcell9, hv, hcl, hW, hsm.mono hc hs, hf⟩⟩
theorem vx_frame {U : State} {k n : Nat} (h : s.sameButNew ({ U with vm := s.vm } : State) locs k n) : s.heap.size ≤ U.heap.size ∧ ∀ q : Nat, q < s.heap.size → (∀ z ∈ locs, z.base ≠ q) → U.heap[q]? = s.heap[q]? := by
  obtain ⟨-, h2, -, -, -, h6⟩ := h
  refine ⟨h2, fun q hq hz => ?_⟩
  obtain ⟨c9, e1, e2, e3, e4⟩ := h6 q _ (Array.getElem?_eq_getElem hq)
  have hs : c9.slots = (s.heap[q]).slots := Array.ext_getElem? fun i => e4 i fun hm => hz _ hm rfl
  have h9 : c9 = s.heap[q] := by
    rw [hs] at e2
    exact e2
  have e5 : U.heap[q]? = some c9 := e1
  rw [e5, h9, Array.getElem?_eq_getElem hq]
/-- the words of a throw but the four that speak of the heap -/
def vx_no (w : Cond) : Bool := decide (w ≠ .isRef (.static Bundle.tN "UNASSIGNED_STACK" Bundle.steD)) && decide (w ≠ .isRef (.static Bundle.tN "SUPPRESSED_SENTINEL" Bundle.listD)) && decide (w ≠ .laysStatic Bundle.tN "UNASSIGNED_STACK" Bundle.steD) && decide (w ≠ .laysStatic Bundle.tN "SUPPRESSED_SENTINEL" Bundle.listD)
def vx_at0 (own : String) (ic : Nat) (X : String) (names : List String) : List Cond := (Bundle.ownAtoms0 own ic X names).filter vx_no
def vx_atS (own : String) (ic : Nat) (X : String) (names : List String) : List Cond := (Bundle.ownAtoms own ic X names).filter vx_no
/-- a word that the tables alone decide, or a good one -/
def vx_ot (w : Cond) : Bool := w.onTables || goodWord w
theorem vx_ot_at {args a' : Array Value} {s U : State} {w : Cond} (hW : s.WarmedH U.vm) (hvm : s.vm = U.vm) (hg : vx_ot w = true) (h : w.before args s = true) : w.before a' U = true := by
  simp only [vx_ot, Bool.or_eq_true] at hg
  rcases hg with hg | hg
  · exact va_tabs hg hvm h
  · exact word_at hW (good_of_word hg) h
/-- a list's words: the good ones out of the method's own list, the others by premises of their own -/
theorem vx_hat {args : Array Value} {s : State} {L B : List Cond} (h1 : ∀ w ∈ L.filter goodWord, w.before args s = true) (h2 : ∀ w ∈ L.filter (fun w => !goodWord w), w ∈ B) (h3 : ∀ w ∈ B, w.before args s = true) : ∀ w ∈ L, w.before args s = true := by
  intro w hw
  by_cases g : goodWord w = true
  · exact h1 w (List.mem_filter.mpr ⟨hw, g⟩)
  · refine h3 w (h2 w (List.mem_filter.mpr ⟨hw, ?_⟩))
    show (!goodWord w) = true
    cases hgw : goodWord w
    · rfl
    · exact absurd hgw g
theorem vx_c {args : Array Value} {s : State} {w : Cond} {B : List Cond} (h : w.before args s = true) (t : ∀ w ∈ B, w.before args s = true) : ∀ w' ∈ w :: B, w'.before args s = true := fun w' h' => (List.mem_cons.mp h').elim (fun e => by rw [e]; exact h) (t w')
theorem vx_n {args : Array Value} {s : State} : ∀ w ∈ ([] : List Cond), w.before args s = true := fun _ h => nomatch h
theorem vx_own {args : Array Value} {s : State} {L : List Cond} (h1 : ∀ w ∈ L.filter vx_no, w.before args s = true)
    (hU : (Cond.isRef (.static Bundle.tN "UNASSIGNED_STACK" Bundle.steD)).before args s = true) (hN : (Cond.isRef (.static Bundle.tN "SUPPRESSED_SENTINEL" Bundle.listD)).before args s = true)
    (lU : (Cond.laysStatic Bundle.tN "UNASSIGNED_STACK" Bundle.steD).before args s = true) (lN : (Cond.laysStatic Bundle.tN "SUPPRESSED_SENTINEL" Bundle.listD).before args s = true) : ∀ w ∈ L, w.before args s = true := by
  intro w hw
  by_cases e1 : w = .isRef (.static Bundle.tN "UNASSIGNED_STACK" Bundle.steD)
  · rw [e1]; exact hU
  · by_cases e2 : w = .isRef (.static Bundle.tN "SUPPRESSED_SENTINEL" Bundle.listD)
    · rw [e2]; exact hN
    · by_cases e3 : w = .laysStatic Bundle.tN "UNASSIGNED_STACK" Bundle.steD
      · rw [e3]; exact lU
      · by_cases e4 : w = .laysStatic Bundle.tN "SUPPRESSED_SENTINEL" Bundle.listD
        · rw [e4]; exact lN
        · exact h1 w (List.mem_filter.mpr ⟨hw, by unfold vx_no; rw [decide_eq_true e1, decide_eq_true e2, decide_eq_true e3, decide_eq_true e4]; rfl⟩)
/-- where a static field lies, its class's statics cell in H -/
def vx_L (C n d : String) (A : Nat → Prop) (U : State) (H : Heap) : Prop := ∃ (c : ClassId) (k : Class) (i : Nat) (f : Field) (a : Nat) (cell : Cell), U.vm.findClass C = some c ∧ U.fieldFound? C n d = some (c, k, i, f) ∧ f.isStatic = true ∧ k.statics = some a ∧ H[a]? = some cell ∧ cell.vm.isStatics = true ∧ cell.cls = c ∧ f.slot < cell.slots.size ∧ k.staticTypes[f.slot]? = some f.type ∧ ¬ A a
theorem vx_L.moved {C n d : String} {A : Nat → Prop} {u U : State} {H : Heap} (hvm : u.vm.Alike U.vm) (h : vx_L C n d A u H) : vx_L C n d A U H := by
  obtain ⟨c, k, i, f, a, cell, h1, h2, h3, h4, h5, h6, h7, h8, h9, h10⟩ := h
  obtain ⟨k', hi', he⟩ := State.fieldFound?_setVm hvm h2
  exact ⟨c, k', i, f, a, cell, by rw [hvm.findClass]; exact h1, hi', h3, by rw [he]; exact h4, h5, h6, h7, h8, by rw [he]; exact h9, h10⟩
theorem vx_L.kept {C n d : String} {A : Nat → Prop} {U : State} {H H1 : Heap} (h : vx_L C n d A U H) (hq : ∀ a : Nat, a < H.size → ¬ A a → H1[a]? = H[a]?) : vx_L C n d A U H1 := by
  obtain ⟨c, k, i, f, a, cell, h1, h2, h3, h4, h5, h6, h7, h8, h9, h10⟩ := h
  exact ⟨c, k, i, f, a, cell, h1, h2, h3, h4, by rw [hq a (Array.getElem?_eq_some_iff.mp h5).1 h10]; exact h5, h6, h7, h8, h9, h10⟩
theorem vx_L.narrow {C n d : String} {A B : Nat → Prop} {U : State} {H : Heap} (h : vx_L C n d A U H) (hAB : ∀ q, B q → A q) : vx_L C n d B U H := by
  obtain ⟨c, k, i, f, a, cell, h1, h2, h3, h4, h5, h6, h7, h8, h9, h10⟩ := h
  exact ⟨c, k, i, f, a, cell, h1, h2, h3, h4, h5, h6, h7, h8, h9, fun z => h10 (hAB _ z)⟩
theorem vx_L.word {C n d : String} {A : Nat → Prop} {s : State} {args : Array Value} (h : vx_L C n d A s s.heap) : (Cond.laysStatic C n d).before args s = true := by
  obtain ⟨c, k, i, f, a, cell, h1, h2, h3, h4, h5, h6, h7, h8, h9, -⟩ := h
  show (Cond.laysStatic C n d).holds args s none s [] = true
  exact Cond.laysStatic_of h1 h2 h3 h4 h5 h6 h7 h8 h9
/-- .. and what it holds: null or some reference -/
def vx_Zq (C n d : String) (A : Nat → Prop) (U : State) (H : Heap) : Prop := va_Zq C n d A U H ∧ vx_L C n d A U H
theorem vx_Zq.moved {C n d : String} {A : Nat → Prop} {u U : State} {H : Heap} (hvm : u.vm.Alike U.vm) (h : vx_Zq C n d A u H) : vx_Zq C n d A U H := ⟨va_Zq.moved hvm h.1, vx_L.moved hvm h.2⟩
theorem vx_Zq.kept {C n d : String} {A : Nat → Prop} {U : State} {H H1 : Heap} (h : vx_Zq C n d A U H) (hq : ∀ a : Nat, a < H.size → ¬ A a → H1[a]? = H[a]?) : vx_Zq C n d A U H1 := ⟨va_Zq.kept h.1 hq, vx_L.kept h.2 hq⟩
theorem vx_Zq.narrow {C n d : String} {A B : Nat → Prop} {U : State} {H : Heap} (h : vx_Zq C n d A U H) (hAB : ∀ q, B q → A q) : vx_Zq C n d B U H := ⟨va_Zq.narrow h.1 hAB, vx_L.narrow h.2 hAB⟩
theorem vx_Zqof {args : Array Value} {s : State} {C n d : String} {A : Nat → Prop} (hl : (Cond.laysStatic C n d).before args s = true) (hini : (Cond.initialized C).before args s = true) (h : (Cond.isRef (.static C n d)).before args s = true) (hA : ∀ a : Nat, a < s.heap.size → ¬ A a) : vx_Zq C n d A s s.heap := by
  refine ⟨va_Zqof hl hini h hA, ?_⟩
  obtain ⟨c, k, i, f, a, cell, h1, h2, h3, h4, h5, h6, h7, h8, h9⟩ := Cond.laysStatic_spec hl
  exact ⟨c, k, i, f, a, cell, h1, h2, h3, h4, h5, h6, h7, h8, h9, hA a (Array.getElem?_eq_some_iff.mp h5).1⟩
theorem vx_isRef {C n d : String} {v : Value} {A : Nat → Prop} {s : State} {args : Array Value} (h : va_Z C n d v A s s.heap) (hv : v.isRef = true) : (Cond.isRef (.static C n d)).before args s = true := by
  obtain ⟨cf, kf, fi, f, a, cell, h1, h2, h3, h4, h5, h6, h7, -⟩ := h
  have he : (Term.static C n d).eval args s none [] s = some v := by
    simp [Term.eval, State.fieldNamed?, h1, h2, h4, h5, h6, h7]
  simp only [Cond.before, Cond.holds, Cond.value, he]
  cases v <;> simp_all [Value.isRef]
theorem vx_isRefq {C n d : String} {A : Nat → Prop} {s : State} {args : Array Value} (h : va_Zq C n d A s s.heap) : (Cond.isRef (.static C n d)).before args s = true := by
  rcases h with h | ⟨t, h⟩
  · exact vx_isRef h rfl
  · exact vx_isRef h rfl
/-- the same frame, seen from here: as if the method were called anew in this heap -/
theorem vx_rebase {T : State} (X : Stand p l e R s m args below meth c T locs cells slots) {R' : Room} (hf : R'.frames ≤ R.frames) (hl : R'.locals ≤ R.locals) (hc : cells + R'.cells ≤ R.cells) (hs : slots + R'.slots ≤ R.slots) :
    Stand p l e R' ((T.setVm s.vm).setFrames (.invoking m args :: below)) m args below meth c T [] 0 0 := by
  have htop : (T.setVm s.vm).topJava?.isSome := X.here.top
  have hF : ((T.setVm s.vm).setFrames (.invoking m args :: below)).frames = .invoking m args :: below := State.frames_setFrames _ (State.cur_lt_of_top htop)
  obtain ⟨g₀, hg0⟩ := Option.isSome_iff_exists.mp htop
  obtain ⟨r, hr⟩ := State.topJava?_eq_some.mp hg0
  have hl9 : e.platform.stackLimits (T.setVm s.vm).me = e.platform.stackLimits s.me := X.limits
  have hb9 : (T.setVm s.vm).me.stackBytes = s.me.stackBytes := X.bytes
  refine ⟨X.admits, X.cas, X.clock, hF, ?_, X.hears, X.method, X.code, X.here, X.tail, X.warmed, ?_, ?_, ?_⟩
  · have h := X.room
    have hU : ((T.setVm s.vm).setFrames (.invoking m args :: below)).localsInUse = s.localsInUse := by
      rw [State.localsInUse_invoking hF (meth := meth) (c := c) X.method X.code, State.localsInUse_invoking X.frames X.method X.code]
    simp only [State.hasRoom, Bool.and_eq_true, decide_eq_true_eq] at h ⊢
    obtain ⟨⟨⟨⟨h1, h2, h3, h4, h5, h6⟩, h7⟩, h8⟩, h9⟩ := h
    rw [X.frames, List.length_cons] at h2 h3
    have q1 := X.heapSize
    have q2 := X.used
    simp only [hF, hU, List.length_cons, State.stackLimits_setFrames, State.stackBytes_setFrames, hl9, hb9]
    refine ⟨⟨⟨⟨by omega, by omega, by omega, by omega, by omega, h6⟩, ?_⟩, ?_⟩, X.book⟩
    · show T.heap.size + R'.cells ≤ e.platform.maxCells
      omega
    · show T.slotsUsed + R'.slots ≤ e.platform.maxSlots
      omega
  · rw [State.stackLimits_setFrames]; rfl
  · rw [State.stackBytes_setFrames]; rfl
  · refine ⟨?_, Nat.le_refl _, Nat.le_refl _, ?_, ?_, fun a c9 h9 => ⟨c9, h9, rfl, rfl, fun _ _ => rfl⟩⟩
    · obtain ⟨t, ht, -⟩ := State.frames_cons hr
      show T.setVm s.vm = { ((T.setVm s.vm).setFrames (.invoking m args :: below)).setFrames (T.setVm s.vm).frames with heap := T.heap, slotsUsed := T.slotsUsed }
      rw [State.setFrames_setFrames, State.setFrames_self ht]
      rfl
    · show T.slotsUsed = T.slotsUsed + ((T.heap.toList.drop T.heap.size).map (·.slots.size)).sum
      rw [List.drop_eq_nil_of_le (Nat.le_of_eq Array.length_toList)]
      rfl
    · show ((T.heap.toList.drop T.heap.size).map (·.slots.size)).sum ≤ 0
      rw [List.drop_eq_nil_of_le (Nat.le_of_eq Array.length_toList)]
      exact Nat.le_refl _
/-- 'throw new E()': new; dup; invokespecial; athrow -/
theorem vx_throw0 {cc : ByteArray} {pc : Nat} (hexec : p.tables.exec = Jvm.exec) (hb : c.code = cc) (hl : l.stackTraces = false) {own cls : String} {names : List String} {ik ic mc ms : Nat} {A : Nat → Prop}
    (hown : s.vm.findClass own = some m.cls) (hcls : Bundle.fit cls = true) (hnames : ∀ n ∈ names, Bundle.fit n = true)
    (hk : (Cond.classLink own ik cls).before args s = true) (hini : (Cond.initialized cls).before args s = true) (hat : ∀ w ∈ vx_at0 own ic cls names, w.before args s = true)
    (hgood : ∀ w ∈ Cond.classLink own ik cls :: Cond.initialized cls :: vx_at0 own ic cls names, vx_ot w = true)
    (hU : vx_Zq Bundle.tN "UNASSIGNED_STACK" Bundle.steD A s s.heap) (hN : vx_Zq Bundle.tN "SUPPRESSED_SENTINEL" Bundle.listD A s s.heap) (hS : va_S A s.heap H locs) (hsize : ls.size = c.maxLocals)
    (d0 : decode cc pc = .ok (.new ik, 3)) (d3 : decode cc (pc + 3) = .ok (.dup, 1)) (d4 : decode cc (pc + 4) = .ok (.invokespecial ic, 3)) (d7 : decode cc (pc + 7) = .ok (.athrow, 1))
    (hout : ∀ x ∈ c.exceptionTable.toList, covers x (pc + 7) = false)
    (hRframes : names.length + 3 < R.frames) (hRlocals : (rest.map fun v => v.category).sum + (13 * (names.length + 1) + 42) ≤ R.locals) (hRcells : cells + 1 ≤ R.cells) (hRslots : slots + 6 ≤ R.slots) (hlocks : meth.locks = false)
    (hx : ∀ t : State, s.vm.Alike t.vm → H.size ≤ t.heap.size → (∀ q : Nat, q < H.size → t.heap[q]? = H[q]?) → XC cls s t)
    (hf : ∀ z ∈ locs, free z.base) (hc : cells + 1 ≤ mc) (hs : slots + 6 ≤ ms) :
    W p l e R s m args below meth c H locs cells slots (vx_MQ below Qc XC args s mc ms free) (F0 m pc ls rest) := by
  intro T hT X
  have htr : e.platform.stackTraces = false := (show e.platform.stackTraces = l.stackTraces by rw [X.admits.platform]).trans hl
  have Y := vx_rebase X (R' := { frames := R.frames, locals := R.locals, cells := 1, slots := 6 }) (Nat.le_refl _) (Nat.le_refl _) hRcells hRslots
  obtain ⟨s', hA⟩ : ∃ z, z = (T.setVm s.vm).setFrames (.invoking m args :: below) := ⟨_, rfl⟩
  rw [← hA] at Y
  have hvm : s'.vm = s.vm := by rw [hA]; rfl
  have hhp : s'.heap = H := by rw [hA]; exact hT
  have hW0 : s.WarmedH s'.vm := by rw [hvm]; exact State.WarmedH.refl s
  have hat' : ∀ w ∈ vx_at0 own ic cls names, w.before args s' = true := fun w hw => vx_ot_at hW0 hvm.symm (hgood w (List.mem_cons_of_mem _ (List.mem_cons_of_mem _ hw))) (hat w hw)
  have hk' : (Cond.classLink own ik cls).before args s' = true := vx_ot_at hW0 hvm.symm (hgood _ List.mem_cons_self) hk
  have hini' : (Cond.initialized cls).before args s' = true := vx_ot_at hW0 hvm.symm (hgood _ (List.mem_cons_of_mem _ List.mem_cons_self)) hini
  have hU' : vx_Zq Bundle.tN "UNASSIGNED_STACK" Bundle.steD A s' s'.heap := by rw [hhp]; exact vx_Zq.moved hW0.alike (hU.kept hS.2.1)
  have hN' : vx_Zq Bundle.tN "SUPPRESSED_SENTINEL" Bundle.listD A s' s'.heap := by rw [hhp]; exact vx_Zq.moved hW0.alike (hN.kept hS.2.1)
  have h : ∀ w ∈ Bundle.ownAtoms0 own ic cls names, w.before args s' = true := vx_own hat' (vx_isRefq hU'.1) (vx_isRefq hN'.1) hU'.2.word hN'.2.word
  have hown' : s'.vm.findClass own = some m.cls := by rw [hvm]; exact hown
  have hins : (Cond.instantiable cls 6).before args s' = true := h _ (by simp [Bundle.ownAtoms0])
  obtain ⟨vm₁, cX, kX, hfX, hkX, -, -, X₁, st1⟩ := Y.newCold hexec (own := own) (C := cls) (index := ik) (n := 6) hown' hk' hins hini'
    (g := F0 m pc ls rest) rfl (by rw [hb]; exact d0) (Nat.le_refl _) (Nat.le_refl _)
  generalize hT1 : (T.setVm vm₁).pushCell { cls := cX, slots := kX.instanceTypes.map defaultValue, vm := .none } = T1 at X₁ st1
  have hcat : (Value.ref T.heap.size).category = 1 := rfl
  have hcellA : T1.heap[T.heap.size]? = some (freshCell cX kX) := by rw [← hT1]; exact State.heap_pushCell_size _ _
  have d3' : decode c.code (pc + 3) = .ok (.dup, 1) := by rw [hb]; exact d3
  obtain ⟨U, hsteps, hrun, hend, hW, hsame, ce, hce, hO⟩ := X₁.ctorThrow0 hexec htr (own := own) (cls := cls) (names := names) (ic := ic) hown' hcls hnames h (fun x hx => nomatch hx) hfX hkX hcellA (by rw [hhp, hT]; exact Nat.le_refl _)
    (g := { method := m, pc := pc + 4, locals := ls, stack := .ref T.heap.size :: .ref T.heap.size :: rest, locked := none }) rfl hsize rfl rfl (rest := rest) rfl
    (by rw [hb]; exact d4) (by rw [hb]; exact d7) hout hRframes (by simp only [List.map_cons, List.sum_cons, hcat]; omega) hlocks
  obtain ⟨f1, f2⟩ := vx_frame hsame
  rw [hhp] at f1 f2
  have hWs : s.WarmedH U.vm := State.WarmedH.trans hW0 hW
  have hcl : s.vm.findClass cls = some ce.cls := by
    have h9 := hO.cls
    rw [hvm] at h9
    exact h9
  have hall : s.sameButNew ({ U with vm := s.vm } : State) locs mc ms := by
    subst hA
    obtain ⟨e1, e2⟩ := hsame
    rw [State.setFrames_setFrames] at e1
    have h2 : (T.setVm s.vm).sameButNew ({ U with vm := s.vm } : State) [] (0 + 1) (0 + 6) := ⟨e1, e2⟩
    have h3 := X.same.trans h2
    rw [List.append_nil] at h3
    exact h3.mono hc hs
  refine ⟨U, ?_, .threw T.heap.size, hrun, hend, Or.inr ⟨T.heap.size, rfl, cls, ce, locs, hx U hWs.alike f1 (fun q hq => f2 q hq (fun z hz => nomatch hz)), hce, hO.vm, hcl, hWs, hall, hf⟩⟩
  refine st1 _ ?_
  show Steps p.tables e below (T1.setTop { method := m, pc := pc + 3, locals := ls, stack := .ref T.heap.size :: rest, locked := none }) _
  jvm_step X₁.here [X₁.here.top, hexec, d3', Value.category]
  exact hsteps
/-- 'throw new E("text")': new; dup; ldc; invokespecial; athrow -/
theorem vx_throwS {cc : ByteArray} {pc : Nat} (hexec : p.tables.exec = Jvm.exec) (hb : c.code = cc) (hl : l.stackTraces = false) {own cls text : String} {names : List String} {ik is ic mc ms sa : Nat} {A : Nat → Prop}
    (hown : s.vm.findClass own = some m.cls) (hcls : Bundle.fit cls = true) (hnames : ∀ n ∈ names, Bundle.fit n = true)
    (hk : (Cond.classLink own ik cls).before args s = true) (hini : (Cond.initialized cls).before args s = true) (hstr : vk_R own is text sa s) (hat : ∀ w ∈ vx_atS own ic cls names, w.before args s = true)
    (hgood : ∀ w ∈ Cond.classLink own ik cls :: Cond.initialized cls :: vx_atS own ic cls names, vx_ot w = true)
    (hU : vx_Zq Bundle.tN "UNASSIGNED_STACK" Bundle.steD A s s.heap) (hN : vx_Zq Bundle.tN "SUPPRESSED_SENTINEL" Bundle.listD A s s.heap) (hS : va_S A s.heap H locs) (hsize : ls.size = c.maxLocals)
    (d0 : decode cc pc = .ok (.new ik, 3)) (d3 : decode cc (pc + 3) = .ok (.dup, 1)) (d4 : decode cc (pc + 4) = .ok (.ldc is, 2)) (d6 : decode cc (pc + 6) = .ok (.invokespecial ic, 3)) (d9 : decode cc (pc + 9) = .ok (.athrow, 1))
    (hout : ∀ x ∈ c.exceptionTable.toList, covers x (pc + 9) = false)
    (hRframes : names.length + 3 < R.frames) (hRlocals : (rest.map fun v => v.category).sum + (13 * (names.length + 1) + 43) ≤ R.locals) (hRcells : cells + 1 ≤ R.cells) (hRslots : slots + 6 ≤ R.slots) (hlocks : meth.locks = false)
    (hx : ∀ t : State, s.vm.Alike t.vm → H.size ≤ t.heap.size → (∀ q : Nat, q < H.size → t.heap[q]? = H[q]?) → XC cls s t)
    (hf : ∀ z ∈ locs, free z.base) (hc : cells + 1 ≤ mc) (hs : slots + 6 ≤ ms) :
    W p l e R s m args below meth c H locs cells slots (vx_MQ below Qc XC args s mc ms free) (F0 m pc ls rest) := by
  intro T hT X
  have htr : e.platform.stackTraces = false := (show e.platform.stackTraces = l.stackTraces by rw [X.admits.platform]).trans hl
  have Y := vx_rebase X (R' := { frames := R.frames, locals := R.locals, cells := 1, slots := 6 }) (Nat.le_refl _) (Nat.le_refl _) hRcells hRslots
  obtain ⟨s', hA⟩ : ∃ z, z = (T.setVm s.vm).setFrames (.invoking m args :: below) := ⟨_, rfl⟩
  rw [← hA] at Y
  have hvm : s'.vm = s.vm := by rw [hA]; rfl
  have hhp : s'.heap = H := by rw [hA]; exact hT
  have hW0 : s.WarmedH s'.vm := by rw [hvm]; exact State.WarmedH.refl s
  have hat' : ∀ w ∈ vx_atS own ic cls names, w.before args s' = true := fun w hw => vx_ot_at hW0 hvm.symm (hgood w (List.mem_cons_of_mem _ (List.mem_cons_of_mem _ hw))) (hat w hw)
  have hk' : (Cond.classLink own ik cls).before args s' = true := vx_ot_at hW0 hvm.symm (hgood _ List.mem_cons_self) hk
  have hini' : (Cond.initialized cls).before args s' = true := vx_ot_at hW0 hvm.symm (hgood _ (List.mem_cons_of_mem _ List.mem_cons_self)) hini
  have hU' : vx_Zq Bundle.tN "UNASSIGNED_STACK" Bundle.steD A s' s'.heap := by rw [hhp]; exact vx_Zq.moved hW0.alike (hU.kept hS.2.1)
  have hN' : vx_Zq Bundle.tN "SUPPRESSED_SENTINEL" Bundle.listD A s' s'.heap := by rw [hhp]; exact vx_Zq.moved hW0.alike (hN.kept hS.2.1)
  have h : ∀ w ∈ Bundle.ownAtoms own ic cls names, w.before args s' = true := vx_own hat' (vx_isRefq hU'.1) (vx_isRefq hN'.1) hU'.2.word hN'.2.word
  have hown' : s'.vm.findClass own = some m.cls := by rw [hvm]; exact hown
  have hins : (Cond.instantiable cls 6).before args s' = true := h _ (by simp [Bundle.ownAtoms])
  obtain ⟨vm₁, cX, kX, hfX, hkX, -, -, X₁, st1⟩ := Y.newCold hexec (own := own) (C := cls) (index := ik) (n := 6) hown' hk' hins hini'
    (g := F0 m pc ls rest) rfl (by rw [hb]; exact d0) (Nat.le_refl _) (Nat.le_refl _)
  generalize hT1 : (T.setVm vm₁).pushCell { cls := cX, slots := kX.instanceTypes.map defaultValue, vm := .none } = T1 at X₁ st1
  have hcat : (Value.ref T.heap.size).category = 1 := rfl
  have hcellA : T1.heap[T.heap.size]? = some (freshCell cX kX) := by rw [← hT1]; exact State.heap_pushCell_size _ _
  have d3' : decode c.code (pc + 3) = .ok (.dup, 1) := by rw [hb]; exact d3
  have d4' : decode c.code (pc + 4) = .ok (.ldc is, 2) := by rw [hb]; exact d4
  have hstr' : vk_R own is text sa s' := vk_R.warm hW0 hstr
  obtain ⟨U, hsteps, hrun, hend, hW, hsame, ce, hce, hO⟩ := X₁.ctorThrowS hexec htr (own := own) (cls := cls) (names := names) (ic := ic) hown' hcls hnames h (fun x hx => nomatch hx) hfX hkX hcellA (by rw [hhp, hT]; exact Nat.le_refl _) (msg := .ref sa) rfl
    (g := { method := m, pc := pc + 6, locals := ls, stack := .ref sa :: .ref T.heap.size :: .ref T.heap.size :: rest, locked := none }) rfl hsize rfl rfl (rest := rest) rfl
    (by rw [hb]; exact d6) (by rw [hb]; exact d9) hout hRframes (by simp only [List.map_cons, List.sum_cons, hcat]; omega) hlocks
  obtain ⟨f1, f2⟩ := vx_frame hsame
  rw [hhp] at f1 f2
  have hWs : s.WarmedH U.vm := State.WarmedH.trans hW0 hW
  have hcl : s.vm.findClass cls = some ce.cls := by
    have h9 := hO.cls
    rw [hvm] at h9
    exact h9
  have hall : s.sameButNew ({ U with vm := s.vm } : State) locs mc ms := by
    subst hA
    obtain ⟨e1, e2⟩ := hsame
    rw [State.setFrames_setFrames] at e1
    have h2 : (T.setVm s.vm).sameButNew ({ U with vm := s.vm } : State) [] (0 + 1) (0 + 6) := ⟨e1, e2⟩
    have h3 := X.same.trans h2
    rw [List.append_nil] at h3
    exact h3.mono hc hs
  refine ⟨U, ?_, .threw T.heap.size, hrun, hend, Or.inr ⟨T.heap.size, rfl, cls, ce, locs, hx U hWs.alike f1 (fun q hq => f2 q hq (fun z hz => nomatch hz)), hce, hO.vm, hcl, hWs, hall, hf⟩⟩
  refine st1 _ ?_
  show Steps p.tables e below (T1.setTop { method := m, pc := pc + 3, locals := ls, stack := .ref T.heap.size :: rest, locked := none }) _
  jvm_step X₁.here [X₁.here.top, hexec, d3', Value.category]
  exact X₁.ldcString hexec (own := own) (text := text) (index := is) (a := sa) hown' hstr'.1 hstr'.2
    (g := { method := m, pc := pc + 4, locals := ls, stack := .ref T.heap.size :: .ref T.heap.size :: rest, locked := none }) rfl d4' _ hsteps
/-- 'throw new E("text")', the text by a wide index -/
theorem vx_throwSW {cc : ByteArray} {pc : Nat} (hexec : p.tables.exec = Jvm.exec) (hb : c.code = cc) (hl : l.stackTraces = false) {own cls text : String} {names : List String} {ik is ic mc ms sa : Nat} {A : Nat → Prop}
    (hown : s.vm.findClass own = some m.cls) (hcls : Bundle.fit cls = true) (hnames : ∀ n ∈ names, Bundle.fit n = true)
    (hk : (Cond.classLink own ik cls).before args s = true) (hini : (Cond.initialized cls).before args s = true) (hstr : vk_R own is text sa s) (hat : ∀ w ∈ vx_atS own ic cls names, w.before args s = true)
    (hgood : ∀ w ∈ Cond.classLink own ik cls :: Cond.initialized cls :: vx_atS own ic cls names, vx_ot w = true)
    (hU : vx_Zq Bundle.tN "UNASSIGNED_STACK" Bundle.steD A s s.heap) (hN : vx_Zq Bundle.tN "SUPPRESSED_SENTINEL" Bundle.listD A s s.heap) (hS : va_S A s.heap H locs) (hsize : ls.size = c.maxLocals)
    (d0 : decode cc pc = .ok (.new ik, 3)) (d3 : decode cc (pc + 3) = .ok (.dup, 1)) (d4 : decode cc (pc + 4) = .ok (.ldc_w is, 3)) (d7 : decode cc (pc + 7) = .ok (.invokespecial ic, 3)) (d10 : decode cc (pc + 10) = .ok (.athrow, 1))
    (hout : ∀ x ∈ c.exceptionTable.toList, covers x (pc + 10) = false)
    (hRframes : names.length + 3 < R.frames) (hRlocals : (rest.map fun v => v.category).sum + (13 * (names.length + 1) + 43) ≤ R.locals) (hRcells : cells + 1 ≤ R.cells) (hRslots : slots + 6 ≤ R.slots) (hlocks : meth.locks = false)
    (hx : ∀ t : State, s.vm.Alike t.vm → H.size ≤ t.heap.size → (∀ q : Nat, q < H.size → t.heap[q]? = H[q]?) → XC cls s t)
    (hf : ∀ z ∈ locs, free z.base) (hc : cells + 1 ≤ mc) (hs : slots + 6 ≤ ms) :
    W p l e R s m args below meth c H locs cells slots (vx_MQ below Qc XC args s mc ms free) (F0 m pc ls rest) := by
  intro T hT X
  have htr : e.platform.stackTraces = false := (show e.platform.stackTraces = l.stackTraces by rw [X.admits.platform]).trans hl
  have Y := vx_rebase X (R' := { frames := R.frames, locals := R.locals, cells := 1, slots := 6 }) (Nat.le_refl _) (Nat.le_refl _) hRcells hRslots
  obtain ⟨s', hA⟩ : ∃ z, z = (T.setVm s.vm).setFrames (.invoking m args :: below) := ⟨_, rfl⟩
  rw [← hA] at Y
  have hvm : s'.vm = s.vm := by rw [hA]; rfl
  have hhp : s'.heap = H := by rw [hA]; exact hT
  have hW0 : s.WarmedH s'.vm := by rw [hvm]; exact State.WarmedH.refl s
  have hat' : ∀ w ∈ vx_atS own ic cls names, w.before args s' = true := fun w hw => vx_ot_at hW0 hvm.symm (hgood w (List.mem_cons_of_mem _ (List.mem_cons_of_mem _ hw))) (hat w hw)
  have hk' : (Cond.classLink own ik cls).before args s' = true := vx_ot_at hW0 hvm.symm (hgood _ List.mem_cons_self) hk
  have hini' : (Cond.initialized cls).before args s' = true := vx_ot_at hW0 hvm.symm (hgood _ (List.mem_cons_of_mem _ List.mem_cons_self)) hini
  have hU' : vx_Zq Bundle.tN "UNASSIGNED_STACK" Bundle.steD A s' s'.heap := by rw [hhp]; exact vx_Zq.moved hW0.alike (hU.kept hS.2.1)
  have hN' : vx_Zq Bundle.tN "SUPPRESSED_SENTINEL" Bundle.listD A s' s'.heap := by rw [hhp]; exact vx_Zq.moved hW0.alike (hN.kept hS.2.1)
  have h : ∀ w ∈ Bundle.ownAtoms own ic cls names, w.before args s' = true := vx_own hat' (vx_isRefq hU'.1) (vx_isRefq hN'.1) hU'.2.word hN'.2.word
  have hown' : s'.vm.findClass own = some m.cls := by rw [hvm]; exact hown
  have hins : (Cond.instantiable cls 6).before args s' = true := h _ (by simp [Bundle.ownAtoms])
  obtain ⟨vm₁, cX, kX, hfX, hkX, -, -, X₁, st1⟩ := Y.newCold hexec (own := own) (C := cls) (index := ik) (n := 6) hown' hk' hins hini'
    (g := F0 m pc ls rest) rfl (by rw [hb]; exact d0) (Nat.le_refl _) (Nat.le_refl _)
  generalize hT1 : (T.setVm vm₁).pushCell { cls := cX, slots := kX.instanceTypes.map defaultValue, vm := .none } = T1 at X₁ st1
  have hcat : (Value.ref T.heap.size).category = 1 := rfl
  have hcellA : T1.heap[T.heap.size]? = some (freshCell cX kX) := by rw [← hT1]; exact State.heap_pushCell_size _ _
  have d3' : decode c.code (pc + 3) = .ok (.dup, 1) := by rw [hb]; exact d3
  have d4' : decode c.code (pc + 4) = .ok (.ldc_w is, 3) := by rw [hb]; exact d4
  have hstr' : vk_R own is text sa s' := vk_R.warm hW0 hstr
  obtain ⟨U, hsteps, hrun, hend, hW, hsame, ce, hce, hO⟩ := X₁.ctorThrowS hexec htr (own := own) (cls := cls) (names := names) (ic := ic) hown' hcls hnames h (fun x hx => nomatch hx) hfX hkX hcellA (by rw [hhp, hT]; exact Nat.le_refl _) (msg := .ref sa) rfl
    (g := { method := m, pc := pc + 7, locals := ls, stack := .ref sa :: .ref T.heap.size :: .ref T.heap.size :: rest, locked := none }) rfl hsize rfl rfl (rest := rest) rfl
    (by rw [hb]; exact d7) (by rw [hb]; exact d10) hout hRframes (by simp only [List.map_cons, List.sum_cons, hcat]; omega) hlocks
  obtain ⟨f1, f2⟩ := vx_frame hsame
  rw [hhp] at f1 f2
  have hWs : s.WarmedH U.vm := State.WarmedH.trans hW0 hW
  have hcl : s.vm.findClass cls = some ce.cls := by
    have h9 := hO.cls
    rw [hvm] at h9
    exact h9
  have hall : s.sameButNew ({ U with vm := s.vm } : State) locs mc ms := by
    subst hA
    obtain ⟨e1, e2⟩ := hsame
    rw [State.setFrames_setFrames] at e1
    have h2 : (T.setVm s.vm).sameButNew ({ U with vm := s.vm } : State) [] (0 + 1) (0 + 6) := ⟨e1, e2⟩
    have h3 := X.same.trans h2
    rw [List.append_nil] at h3
    exact h3.mono hc hs
  refine ⟨U, ?_, .threw T.heap.size, hrun, hend, Or.inr ⟨T.heap.size, rfl, cls, ce, locs, hx U hWs.alike f1 (fun q hq => f2 q hq (fun z hz => nomatch hz)), hce, hO.vm, hcl, hWs, hall, hf⟩⟩
  refine st1 _ ?_
  show Steps p.tables e below (T1.setTop { method := m, pc := pc + 3, locals := ls, stack := .ref T.heap.size :: rest, locked := none }) _
  jvm_step X₁.here [X₁.here.top, hexec, d3', Value.category]
  exact X₁.ldcStringW hexec (own := own) (text := text) (index := is) (a := sa) hown' hstr'.1 hstr'.2
    (g := { method := m, pc := pc + 4, locals := ls, stack := .ref T.heap.size :: .ref T.heap.size :: rest, locked := none }) rfl d4' _ hsteps
end Ends
section Bodies
variable {l : Launch}
theorem vx_ofW {y : MethodName} {ws ws' : List Cond} {rm : Room} {Pc : Array Value → State → Prop} {Qc : Array Value → State → Outcome → State → Prop} {XC : String → State → State → Prop} {mc ms : Nat} {free : Addr → Prop} {cc : ByteArray} {maxL : Nat} {ret : Option FieldType}
    (hy : plainName y.cls = true) (hw : ws = Cond.code y cc maxL ret :: ws')
    (body : ∀ p e s m args below meth c s₁, BodyLoose p l y (headSpec ws rm) cc maxL ret e s m args below meth c s₁ → c.maxLocals = maxL → (∀ x ∈ c.exceptionTable.toList, False) → Pc args s →
      W p l e (headSpec ws rm).room s m args below meth c s.heap [] 0 0 (vx_MQ below Qc XC args s mc ms free) (entryFrame m args maxL)) : vx_Met l y ws rm Pc Qc XC mc ms free := by
  refine MetFree.of_bodyS (code := cc) (maxLocals := maxL) (ret := ret) hy ?_ ?_
  · intro args s m h hn
    obtain ⟨meth, c, h1, h2, h3, h4, h5, h6, -, -⟩ := Cond.code_spec hn (atoms_spec (ws := ws) h _ (by rw [hw]; exact List.mem_cons_self))
    exact ⟨meth, c, h1, h2, h3, h4, h5, h6⟩
  · intro p e s m args below meth c s₁ B hml hP _
    have hh0 : s₁.heap = s.heap := by rw [B.state]; rfl
    have ht : ∀ x ∈ c.exceptionTable.toList, False := by
      obtain ⟨meth9, c9, h1, h2, -, -, -, -, h7, -⟩ := Cond.code_spec B.named (atoms_spec (ws := ws) B.pre _ (by rw [hw]; exact List.mem_cons_self))
      cases Option.some.inj (h1.symm.trans B.method)
      cases Option.some.inj (h2.symm.trans (Stand.of_body B).code)
      intro x hx
      rw [Array.isEmpty_iff.mp h7] at hx
      cases hx
    obtain ⟨t, a1, o, b1, b2, b3⟩ := body p e s m args below meth c s₁ B hml ht hP s₁ hh0 (Stand.of_body B)
    exact ⟨t, o, a1, b1, b2, b3⟩
/-- the table of a body with handlers -/
theorem vx_table {p : Program} {x y : MethodName} {S : Spec} {cc bytes : ByteArray} {maxL maxL' : Nat} {ret ret' : Option FieldType} {e : Env} {s s₁ : State} {m : MethodId} {args : Array Value} {below : List Frame} {meth : Method} {c : Code} {hh : List (Nat × Nat × Nat × Nat)}
    (B : BodyLoose p l y S cc maxL ret e s m args below meth c s₁) (h : (Cond.codeWith y bytes maxL' ret' hh).before args s = true) : c.exceptionTable.toList = tableOf hh := by
  obtain ⟨m9, meth9, c9, hn9, h1, h2, -, -, h6, -⟩ := Cond.codeWith_spec h
  cases Option.some.inj (hn9.symm.trans B.named)
  cases Option.some.inj (h1.symm.trans B.method)
  cases Option.some.inj (h2.symm.trans (Stand.of_body B).code)
  rw [← h6, table_eq]
end Bodies
end VXA
/-! ===== END ===== -/
/-! ===== BEGIN a static call of a method with an exception table ===== -/
section VXS
variable {p : Program} {l : Launch} {e : Env} {R : Room} {s : State} {m : MethodId} {args : Array Value} {below : List Frame} {meth : Method} {c : Code} {T : State} {H : Heap} {locs : List Loc} {cells slots : Nat}
abbrev vx_CSW (R : Room) (s : State) (args : Array Value) (own : String) (index : Nat) (y : MethodName) (bytes : ByteArray) (maxL : Nat) (ret : Option FieldType) (hh : List (Nat × Nat × Nat × Nat)) (ws : List Cond) (rm : Room) (mc ms n : Nat) : Prop :=
  (rm.cells = mc ∧ rm.slots = ms ∧ rm.frames + 1 ≤ R.frames ∧ 8 + (maxL + 11) + rm.locals ≤ R.locals ∧ (∀ w ∈ ws, ∀ (a' : Array Value) (U : State), s.WarmedH U.vm → w.before a' U = true) ∧ Cond.codeWith y bytes maxL ret hh ∈ ws) ∧
  (Cond.codeWith y bytes maxL ret hh).before args s = true ∧ (Cond.initialized y.cls).before args s = true ∧ (y.cls ≠ "java/lang/invoke/MethodHandle" ∧ y.cls ≠ "java/lang/invoke/VarHandle") ∧
  (∀ sig, parseMethodDescriptor y.desc = some sig → n = sig.parameters.length) ∧ (Cond.methodLink own index y).before args s = true ∧ (Cond.static y).before args s = true
theorem vx_cwSW {own : String} {index maxL mc ms : Nat} {y : MethodName} {bytes : ByteArray} {ret : Option FieldType} {hh : List (Nat × Nat × Nat × Nat)} {Ts ws ws' : List Cond} {rm : Room} (n : Nat) (ht : ∀ w ∈ Ts, w.before args s = true) (hT : GoodIn Ts (va_wsS own index y ws)) (hw : ws = Cond.codeWith y bytes maxL ret hh :: ws') (hrc : rm.cells = mc) (hrs : rm.slots = ms)
    (hd : y.cls ≠ "java/lang/invoke/MethodHandle" ∧ y.cls ≠ "java/lang/invoke/VarHandle" ∧ (parseMethodDescriptor y.desc).map (fun d => d.parameters.length) = some n) (hR : rm.frames + 1 ≤ R.frames ∧ 8 + (maxL + 11) + rm.locals ≤ R.locals) :
    vx_CSW R s args own index y bytes maxL ret hh ws rm mc ms n := by
  have ok : ∀ w ∈ va_wsS own index y ws, w.before args s = true := fun w h => ht w (hT w h).1
  have hG : GoodIn Ts ws := fun w h => hT w (by unfold va_wsS; exact List.mem_append_right _ h)
  have hc : Cond.codeWith y bytes maxL ret hh ∈ ws := by rw [hw]; exact List.mem_cons_self
  refine ⟨⟨hrc, hrs, hR.1, hR.2, pay_in ht hG, hc⟩, ht _ (hG _ hc).1, ok _ (by simp [va_wsS]), ⟨hd.1, hd.2.1⟩, fun sig h => ?_, ok _ (by simp [va_wsS]), ok _ (by simp [va_wsS])⟩
  have h2 := hd.2.2
  rw [h] at h2
  exact (Option.some.inj h2).symm
theorem vx_callSW (X : Stand p l e R s m args below meth c T locs cells slots) (hexec : p.tables.exec = Jvm.exec) {own : String} {index : Nat} {y : MethodName} {bytes : ByteArray} {maxL : Nat} {ret : Option FieldType} {hh : List (Nat × Nat × Nat × Nat)}
    (hown : s.vm.findClass own = some m.cls) (hlink : (Cond.methodLink own index y).before args s = true) (hstat : (Cond.static y).before args s = true) (hinit : (Cond.initialized y.cls).before args s = true)
    (hcode : (Cond.codeWith y bytes maxL ret hh).before args s = true) (hy : y.cls ≠ "java/lang/invoke/MethodHandle" ∧ y.cls ≠ "java/lang/invoke/VarHandle")
    {W9 : Nat} {Pre : Pt → Array Value → Prop} {Post : Pt → Array Value → Option Value → Pt → Prop} (hK : Back l R p e below s args y 3 W9 Pre Post)
    {g : JFrame} (hg : g.method = m) (hsize : g.locals.size = c.maxLocals) {argsL rest : List Value} (hlen : ∀ sig, parseMethodDescriptor y.desc = some sig → argsL.length = sig.parameters.length)
    (hstack : g.stack = argsL.reverse ++ rest) (hW : 2 * g.monitorRoom + (rest.map fun v => v.category).sum ≤ W9) (hdg : decode c.code g.pc = .ok (.invokestatic index, 3))
    (hpre : ∀ vm₁, s.WarmedH vm₁ → Pre ⟨T.setVm vm₁, locs, cells, slots⟩ argsL.toArray) :
    ∃ (v : Option Value) (vm₁ : Vm) (B : Pt), s.WarmedH vm₁ ∧ Stand p l e R s m args below meth c B.U B.locs B.cells B.slots ∧ Post ⟨T.setVm vm₁, locs, cells, slots⟩ argsL.toArray v B ∧
      ∀ target, Steps p.tables e below (B.U.setTop { g with pc := g.pc + 3, stack := v.toList ++ rest }) target → Steps p.tables e below (T.setTop g) target := by
  obtain ⟨mk, methM, cM, hnamed, hmethM, -, -, -, -, -, -, hsigM⟩ := Cond.codeWith_spec hcode
  have hstatic : methM.isStatic = true := Cond.static_spec hnamed hmethM hstat
  obtain ⟨kP, hkP, -⟩ := className_of_methodNamed hnamed
  have hinitP : kP.init = .initialized := Cond.initialized_spec (findClass_of_methodNamed hnamed) hkP hinit
  obtain ⟨vm₁, X₁, hstep₁⟩ := X.invokestatic hexec hown hlink hnamed hmethM hstatic hkP hinitP hy (g := g) hg (argsL := argsL) (rest := rest) (hlen _ hsigM) hstack hdg
  obtain ⟨v, B, X', hpost, hsteps⟩ := hK m meth c ⟨T.setVm vm₁, locs, cells, slots⟩ { g with stack := rest } (.invokestatic index) mk argsL.toArray X₁ hg hsize hdg hW (X₁.named hnamed) (hpre vm₁ X₁.warmed)
  exact ⟨v, vm₁, B, X₁.warmed, X', hpost, fun target h => hstep₁ _ fun acts => by rw [doInvoke_state]; exact hsteps.trans h⟩
theorem vx_runSW {y : MethodName} {bytes cc : ByteArray} {maxL nL mc ms n index : Nat} {ret : Option FieldType} {hh : List (Nat × Nat × Nat × Nat)} {ws : List Cond} {rm : Room} {Pc : Array Value → State → Prop} {Qc : Array Value → State → Outcome → State → Prop} {free : Addr → Prop} {Ts : List Cond} {own : String} {As rest : List Value} {g : JFrame}
    (S : CallFix p m c cc nL s args Ts own) (hM : Met l y ws rm Pc Qc mc ms free) (cw : vx_CSW R s args own index y bytes maxL ret hh ws rm mc ms n) (hp : PreS s H Pc As)
    (hg : g.method = m) (hn : As.length = n) (hsize : g.locals.size = nL) (hstack : g.stack = As.reverse ++ rest) (hW : 2 * g.monitorRoom + (rest.map fun v => v.category).sum ≤ 8) (hdg : decode cc g.pc = .ok (.invokestatic index, 3)) (hf : cells + mc ≤ R.cells ∧ slots + ms ≤ R.slots) :
    va_Run p l e R s m args below meth c H locs cells slots mc ms g rest (Qc As.toArray) (free) := by
  obtain ⟨⟨hrc, hrs, hfr, hlo, hws, hcw⟩, hcode, hini, hy, hlen, hl, hstt⟩ := cw
  have hK : Back l R p e below s args y 3 8 (PreOf R mc ms Pc) (PostOf Qc mc ms free) := va_backW (hh := hh) (bytes := bytes) (maxL := maxL) (ret := ret) hM hp.1 hrc hrs hfr hlo hws hcw (fun a' U hW => word_at hW (Or.inl (by first | rfl | simp [Cond.onTables, Cond.keeps, Cond.steady])) hini)
  obtain ⟨hx, hb, hml, ho, -⟩ := S
  intro T hT X
  obtain ⟨v, vm₁, ⟨U', l2, c2, s2⟩, hW₁, X', ⟨g', mk, t, L, e1, e2, hq, h1, hL, h2, h3⟩, st⟩ := vx_callSW X hx (hh := hh) (bytes := bytes) (maxL := maxL) (ret := ret) ho hl hstt hini hcode hy hK hg (hsize.trans hml.symm) (argsL := As) (rest := rest) (fun sig h => hn.trans (hlen sig h)) hstack hW (by rw [hb]; exact hdg)
    (fun vm₁ hW₁ => ⟨hf.1, hf.2, hp.2 (T.setVm vm₁) hT hW₁⟩)
  dsimp only [Pt.U, Pt.locs, Pt.cells, Pt.slots] at X' e1 e2 h1 h2 h3 st
  subst h1; subst h2; subst h3
  exact ⟨v, (T.setVm vm₁).calling g' mk As.toArray, t, U', L, hT, X', hL, e1, e2, hq, st⟩
/-- not caught here, past rows that name other classes: it goes on to the caller -/
theorem vx_outP {p : Program} {l : Launch} {e : Env} {R : Room} {s : State} {m : MethodId} {args : Array Value} {below : List Frame} {meth : Method} {c : Code} {H : Heap} {locs : List Loc} {cells slots : Nat} {free : Addr → Prop} {ls : Array Slot} {rest : List Value} {Qc : Array Value → State → Outcome → State → Prop} {XC : String → State → State → Prop}
    {pc : Nat} {own E : String} {ce : Cell} {q : Addr} {mc ms : Nat} (hown : s.vm.findClass own = some m.cls) (hlocks : meth.locks = false)
    (hpass : ∀ z ∈ c.exceptionTable.toList, covers z pc = false ∨ (z.catchType ≠ 0 ∧ ∃ nm : String, (Cond.classLink own z.catchType nm).before args s = true ∧ va_Nc E nm s)) (hcell : H[q]? = some ce) (hv : ce.vm = .none) (hcl : s.vm.findClass E = some ce.cls)
    (hx : ∀ t : State, t.heap = H → s.vm.Alike t.vm → XC E s t) (hf : ∀ z ∈ locs, free z.base) (hc : cells ≤ mc) (hs : slots ≤ ms) :
    vx_W p l e R s m args below meth c H locs cells slots (vx_MQ below Qc XC args s mc ms free) (F0 m pc ls rest) q := by
  intro T hT X
  have hpl : e.platform.magicAccessors = ({} : Platform).magicAccessors := by rw [X.admits.platform]
  obtain ⟨vm', hW', X', st⟩ := X.outThrough hlocks q (g := F0 m pc ls rest) rfl rfl rfl (cell := ce) (by rw [hT]; exact hcell) (by rw [hv]; rfl)
    (by obtain ⟨k9, h9, -⟩ := Vm.findClass_spec hcl; exact ⟨k9, h9⟩) (fun z hz => by
      rcases hpass z hz with h | ⟨hz0, nm, hl1, hn1⟩
      · exact Or.inl h
      · obtain ⟨c6, hc6, hcl6⟩ := Cond.classLink_spec hown hl1 e.platform hpl
        obtain ⟨a8, b8, h1, h2, h3⟩ := hn1
        cases Option.some.inj (h1.symm.trans hcl)
        cases Option.some.inj (h2.symm.trans hc6)
        exact Or.inr ⟨hz0, _, hcl6, h3⟩)
  obtain ⟨g₀, hfr⟩ := X'.frames_eq
  have hcell9 : ((T.setVm vm').setFrames (.throwing q :: below)).heap[q]? = some ce := by
    show T.heap[q]? = some ce
    rw [hT]; exact hcell
  have hend : Ended ((T.setVm vm').setFrames (.throwing q :: below)) below (.threw q) := State.frames_setFrames _ (State.cur_lt_of_frames hfr)
  refine ⟨(T.setVm vm').setFrames (.throwing q :: below), ?_, .threw q, X'.here.running, hend, Or.inr ⟨q, rfl, E, ce, locs, hx _ hT (X'.ends _).1.alike, hcell9, hv, hcl, (X'.ends _).1, (X'.ends _).2.mono hc hs, hf⟩⟩
  rw [X.pushThrowing_eq]
  exact st
/-- a thing of a world lies in the heap -/
theorem vx_lt {D : va_G} {cl : List vw_C} {ws : va_W} {H1 : Heap} (h : va_P D cl ws H1) {k : Nat} {q : Nat × va_E} (hk : ws[k]? = some q) : q.1 < H1.size := (h k q hk).lt
end VXS
/-! ===== END ===== -/
/-! ===== BEGIN methods with a table of their own: called by a name, returning or throwing ===== -/
section VXH
/-! vx_backW, vx_callVX, vx_callSX, vx_callVW, vx_runVW, vx_runVX, vx_runSX, vx_ofWH follow the same proofs as their sisters above (Free/Laws.lean, Shelf42/LK1.lean); vx_outP calls Shelf42/NT130.lean (outThrough). -/
section
variable {l : Launch} {R : Room} {p : Program} {e : Env} {below : List Frame} {s : State} {sargs : Array Value} {y : MethodName} {len W9 : Nat}
theorem vx_backW {ws : List Cond} {rm : Room} {Pc : Array Value → State → Prop} {Qc : Array Value → State → Outcome → State → Prop} {XC : String → State → State → Prop} {mc ms : Nat} {free : Addr → Prop} {bytes : ByteArray} {maxL : Nat} {ret : Option FieldType} {hh : List (Nat × Nat × Nat × Nat)}
    (hM : vx_Met l y ws rm Pc Qc XC mc ms free) (hblind : FrameBlind Pc) (hrc : rm.cells = mc) (hrs : rm.slots = ms)
    (hframes : rm.frames + 1 ≤ R.frames) (hlocals : W9 + (maxL + 11) + rm.locals ≤ R.locals)
    (hws : ∀ w ∈ ws, ∀ a' U, s.WarmedH U.vm → w.before a' U = true) (hcode : Cond.codeWith y bytes maxL ret hh ∈ ws) (hinit : ∀ a' U, s.WarmedH U.vm → (Cond.initialized y.cls).before a' U = true) :
    vx_Back l R p e below s sargs y len W9 (PreOf R mc ms Pc) (PostOf Qc mc ms free) (vx_Post XC mc ms free) := by
  intro m meth c A g ig mk a X hg hsize hdg hW hn hp
  have h1 : (headSpec ws rm).pre.before a A.U = true := atoms_intro fun w hw => hws w hw _ _ X.warmed
  have h2 : (Cond.codeWith y bytes maxL ret hh).before a A.U = true := hws _ hcode _ _ X.warmed
  have h3 : (Cond.initialized y.cls).before a A.U = true := hinit _ _ X.warmed
  have h4 : A.cells + (headSpec ws rm).room.cells ≤ R.cells := by rw [show (headSpec ws rm).room.cells = mc from hrc]; exact hp.1
  have h5 : A.slots + (headSpec ws rm).room.slots ≤ R.slots := by rw [show (headSpec ws rm).room.slots = ms from hrs]; exact hp.2.1
  have hPc : Pc a (A.U.calling g mk a) := hblind _ _ _ _ hp.2.2
  obtain ⟨U, Ls, c0, s0⟩ := A
  dsimp only [Pt.U, Pt.locs, Pt.cells, Pt.slots] at h1 h2 h3 h4 h5 X hn hPc ⊢
  obtain ⟨m9, methY, cY, hn9, hmY, hcY, -, hlY, -⟩ := Cond.codeWith_spec h2
  cases Option.some.inj (hn9.symm.trans hn)
  obtain ⟨kY, hkY, -⟩ := className_of_methodNamed hn
  have hinitY : kY.init = .initialized := Cond.initialized_spec (findClass_of_methodNamed hn) hkY h3
  have h : At U g.method c below := by rw [hg]; exact X.here
  have hlocals9 : W9 + (maxL + 11) + (headSpec ws rm).room.locals ≤ R.locals := hlocals
  have happ : (headSpec ws rm).appliesLoose y e.platform (U.calling g mk a) = true :=
    Spec.appliesLoose_calling (g := g) h hdg hn hkY hinitY
      (X.room_calling (g := g) (R' := (headSpec ws rm).room) hsize hmY hcY hframes (by rw [hlY]; omega) h4 h5) h1
  obtain ⟨mid, hmid⟩ := h.above
  have hfr : (U.setTop g).frames = (.java g :: mid) ++ below := by rw [State.frames_setTop' g h.top, hmid]; rfl
  obtain ⟨o, s₂, hsteps, -, hend, hq⟩ := Steps.callFree hM p X.admits X.cas X.clock (acts := []) hfr happ hPc trivial
  have hq' : vx_Q Qc XC mc ms free a (U.calling g mk a) o s₂ := hq
  rw [State.frames_setTop' g h.top] at hend
  obtain ⟨g₀, hg0⟩ := Option.isSome_iff_exists.mp h.top
  obtain ⟨r, hr⟩ := State.topJava?_eq_some.mp hg0
  have hr' : (({ U with heap := s₂.heap, slotsUsed := s₂.slotsUsed } : State).setVm s₂.vm).frames = .java g₀ :: r := hr
  rcases hq' with ⟨hqc, L, hfe, hL⟩ | ⟨q, rfl, E, ce, L, hx, hce, hcv, hcl, hW₂, hsm, hL⟩
  · obtain ⟨⟨v, rfl⟩, hW₂, e2, q2, q3, q4, q5, q6⟩ := id hfe
    have e3 : s₂ = ({ (U.calling g mk a).setFrames s₂.frames with heap := s₂.heap, slotsUsed := s₂.slotsUsed } : State).setVm s₂.vm := by
      have : s₂ = ({ s₂ with vm := (U.calling g mk a).vm } : State).setVm s₂.vm := rfl
      rw [e2] at this
      exact this
    obtain ⟨c₂, i₂, len₂, hc₂, hd₂, hf₂⟩ := hend
    have hW' : U.WarmedH s₂.vm := hW₂
    have hcc : c₂ = c := by
      have h1 : s₂.code? g.method = U.code? g.method := by
        rw [State.code?_eq, State.code?_eq, hW'.alike.method?]
      exact Option.some.inj (hc₂.symm.trans (h1.trans h.code))
    subst hcc
    have hlen : len₂ = len := by rw [hdg] at hd₂; cases hd₂; rfl
    subst hlen
    have hs₂ : s₂ = (({ U with heap := s₂.heap, slotsUsed := s₂.slotsUsed } : State).setVm s₂.vm).setTop { g with pc := g.pc + len₂, stack := v.toList ++ g.stack } := by
      refine e3.trans ?_
      rw [hf₂, State.calling_eq h.top, State.setFrames_setFrames, State.setTop_of_frames _ hr', hr]
      rfl
    have hsame : U.sameButNew ({ U with heap := s₂.heap, slotsUsed := s₂.slotsUsed } : State) L mc ms := by
      refine ⟨?_, q2, q3, q4, q5, q6⟩
      obtain ⟨t, ht, -⟩ := State.frames_cons hr
      show ({ U with heap := s₂.heap, slotsUsed := s₂.slotsUsed } : State) = { U.setFrames U.frames with heap := s₂.heap, slotsUsed := s₂.slotsUsed }
      rw [State.setFrames_self ht]
    subst hg
    refine Or.inl ⟨v, ⟨(({ U with heap := s₂.heap, slotsUsed := s₂.slotsUsed } : State).setVm s₂.vm), Ls ++ L, c0 + mc, s0 + ms⟩,
      ⟨X.admits, X.cas, X.clock, X.frames, X.room, X.hears, X.method, X.code, (X.here.setHeapUsed s₂.heap s₂.slotsUsed).setVm hW'.alike, X.tail, State.WarmedH.trans X.warmed hW', X.limits, X.bytes, X.same.trans (hsame.setVm s.vm)⟩,
      ⟨g, mk, s₂, L, rfl, rfl, hqc, rfl, hL, rfl, rfl⟩, ?_⟩
    show Steps p.tables e below _ ((({ U with heap := s₂.heap, slotsUsed := s₂.slotsUsed } : State).setVm s₂.vm).setTop { g with pc := g.pc + len₂, stack := v.toList ++ g.stack })
    rw [← hs₂]
    exact hsteps
  · obtain ⟨e2, q2, q3, q4, q5, q6⟩ := id hsm
    have e3 : s₂ = ({ (U.calling g mk a).setFrames s₂.frames with heap := s₂.heap, slotsUsed := s₂.slotsUsed } : State).setVm s₂.vm := by
      have : s₂ = ({ s₂ with vm := (U.calling g mk a).vm } : State).setVm s₂.vm := rfl
      rw [e2] at this
      exact this
    have hf₂ : s₂.frames = .throwing q :: .java g :: U.frames.tail := hend
    have hW' : U.WarmedH s₂.vm := hW₂
    have hs₂ : s₂ = ((({ U with heap := s₂.heap, slotsUsed := s₂.slotsUsed } : State).setVm s₂.vm).setTop g).pushFrame (.throwing q) := by
      refine e3.trans ?_
      rw [hf₂, State.calling_eq h.top, State.setFrames_setFrames, State.pushFrame, State.frames_setTop _ hr', State.setTop_of_frames _ hr', State.setFrames_setFrames, hr]
      rfl
    have hsame : U.sameButNew ({ U with heap := s₂.heap, slotsUsed := s₂.slotsUsed } : State) L mc ms := by
      refine ⟨?_, q2, q3, q4, q5, q6⟩
      obtain ⟨t, ht, -⟩ := State.frames_cons hr
      show ({ U with heap := s₂.heap, slotsUsed := s₂.slotsUsed } : State) = { U.setFrames U.frames with heap := s₂.heap, slotsUsed := s₂.slotsUsed }
      rw [State.setFrames_self ht]
    subst hg
    refine Or.inr ⟨q, ⟨(({ U with heap := s₂.heap, slotsUsed := s₂.slotsUsed } : State).setVm s₂.vm), Ls ++ L, c0 + mc, s0 + ms⟩,
      ⟨X.admits, X.cas, X.clock, X.frames, X.room, X.hears, X.method, X.code, (X.here.setHeapUsed s₂.heap s₂.slotsUsed).setVm hW'.alike, X.tail, State.WarmedH.trans X.warmed hW', X.limits, X.bytes, X.same.trans (hsame.setVm s.vm)⟩,
      ⟨g, mk, s₂, L, E, ce, rfl, rfl, hx, hce, hcv, hcl, rfl, hL, rfl, rfl⟩, ?_⟩
    show Steps p.tables e below _ (((({ U with heap := s₂.heap, slotsUsed := s₂.slotsUsed } : State).setVm s₂.vm).setTop g).pushFrame (.throwing q))
    rw [← hs₂]
    exact hsteps
end
variable {p : Program} {l : Launch} {e : Env} {R : Room} {s : State} {m : MethodId} {args : Array Value} {below : List Frame} {meth : Method} {c : Code} {T : State} {H : Heap} {locs : List Loc} {cells slots : Nat}
theorem vx_callVX (X : Stand p l e R s m args below meth c T locs cells slots) (hexec : p.tables.exec = Jvm.exec) {own C : String} {index : Nat} {y : MethodName} {bytes : ByteArray} {maxL : Nat} {ret : Option FieldType} {hh : List (Nat × Nat × Nat × Nat)}
    (hown : s.vm.findClass own = some m.cls) (hlink : (Cond.methodLink own index y).before args s = true) (hinst : (Cond.instanceMethod y).before args s = true) (hsel : (Cond.selects C y y).before args s = true)
    (hcode : (Cond.codeWith y bytes maxL ret hh).before args s = true) (hy : y.cls ≠ "java/lang/invoke/MethodHandle" ∧ y.cls ≠ "java/lang/invoke/VarHandle")
    {W9 : Nat} {Pre : Pt → Array Value → Prop} {Post : Pt → Array Value → Option Value → Pt → Prop} {PostX : Pt → Array Value → Addr → Pt → Prop} (hK : vx_Back l R p e below s args y 3 W9 Pre Post PostX)
    {b : Addr} {cellB : Cell} (hcell : T.heap[b]? = some cellB) (hobj : cellB.vm.isStatics = false) (hcls : s.vm.findClass C = some cellB.cls)
    {g : JFrame} (hg : g.method = m) (hsize : g.locals.size = c.maxLocals) {argsL rest : List Value} (hlen : ∀ sig, parseMethodDescriptor y.desc = some sig → argsL.length = sig.parameters.length)
    (hstack : g.stack = argsL.reverse ++ .ref b :: rest) (hW : 2 * g.monitorRoom + (rest.map fun v => v.category).sum ≤ W9) (hdg : decode c.code g.pc = .ok (.invokevirtual index, 3))
    (hpre : ∀ vm₁, s.WarmedH vm₁ → Pre ⟨T.setVm vm₁, locs, cells, slots⟩ (Value.ref b :: argsL).toArray) :
    (∃ (v : Option Value) (vm₁ : Vm) (B : Pt), s.WarmedH vm₁ ∧ Stand p l e R s m args below meth c B.U B.locs B.cells B.slots ∧ Post ⟨T.setVm vm₁, locs, cells, slots⟩ (Value.ref b :: argsL).toArray v B ∧
      ∀ target, Steps p.tables e below (B.U.setTop { g with pc := g.pc + 3, stack := v.toList ++ rest }) target → Steps p.tables e below (T.setTop g) target) ∨
    (∃ (q : Addr) (vm₁ : Vm) (B : Pt), s.WarmedH vm₁ ∧ Stand p l e R s m args below meth c B.U B.locs B.cells B.slots ∧ PostX ⟨T.setVm vm₁, locs, cells, slots⟩ (Value.ref b :: argsL).toArray q B ∧
      Steps p.tables e below (T.setTop g) ((B.U.setTop { g with stack := rest }).pushFrame (.throwing q))) := by
  obtain ⟨mk, methM, hnamed, hmethM, hstM, habM⟩ := Cond.instanceMethod_spec hinst
  obtain ⟨m8, methM', cM, hn8, hmethM', -, -, -, -, -, -, hsigM⟩ := Cond.codeWith_spec hcode
  cases Option.some.inj (hn8.symm.trans hnamed)
  cases hmethM.symm.trans hmethM'
  obtain ⟨c2, r2, m2, q1, q2, q3, q4, kP, hkP, hkPi⟩ := Cond.selects_spec hsel
  cases hcls.symm.trans q1
  cases (State.methodFound?_of_named hnamed hy).symm.trans q2
  cases hnamed.symm.trans q3
  have hselP : selectMethod e.platform s.vm cellB.cls mk = .method mk := by rw [Launch.admits_selectMethod X.admits]; exact q4
  obtain ⟨vm₁, X₁, hstep₁⟩ := X.invokevirtual hexec hown hlink hnamed hmethM hstM hkP hkPi hy (a := b) (cell := cellB) hcell
    (fun z h => by rw [h] at hobj; cases hobj) hselP hmethM habM hkP hkPi (g := g) hg (argsL := argsL) (rest := rest) (hlen _ hsigM) hstack hdg
  rcases hK m meth c ⟨T.setVm vm₁, locs, cells, slots⟩ { g with stack := rest } (.invokevirtual index) mk (Value.ref b :: argsL).toArray X₁ hg hsize hdg hW (X₁.named hnamed) (hpre vm₁ X₁.warmed) with ⟨v, B, X', hpost, hsteps⟩ | ⟨q, B, X', hpost, hsteps⟩
  · exact Or.inl ⟨v, vm₁, B, X₁.warmed, X', hpost, fun target h => hstep₁ _ fun acts => by rw [doInvoke_state]; exact hsteps.trans h⟩
  · exact Or.inr ⟨q, vm₁, B, X₁.warmed, X', hpost, hstep₁ _ fun acts => by rw [doInvoke_state]; exact hsteps⟩
theorem vx_callSX (X : Stand p l e R s m args below meth c T locs cells slots) (hexec : p.tables.exec = Jvm.exec) {own : String} {index : Nat} {y : MethodName} {bytes : ByteArray} {maxL : Nat} {ret : Option FieldType} {hh : List (Nat × Nat × Nat × Nat)}
    (hown : s.vm.findClass own = some m.cls) (hlink : (Cond.methodLink own index y).before args s = true) (hstat : (Cond.static y).before args s = true) (hinit : (Cond.initialized y.cls).before args s = true)
    (hcode : (Cond.codeWith y bytes maxL ret hh).before args s = true) (hy : y.cls ≠ "java/lang/invoke/MethodHandle" ∧ y.cls ≠ "java/lang/invoke/VarHandle")
    {W9 : Nat} {Pre : Pt → Array Value → Prop} {Post : Pt → Array Value → Option Value → Pt → Prop} {PostX : Pt → Array Value → Addr → Pt → Prop} (hK : vx_Back l R p e below s args y 3 W9 Pre Post PostX)
    {g : JFrame} (hg : g.method = m) (hsize : g.locals.size = c.maxLocals) {argsL rest : List Value} (hlen : ∀ sig, parseMethodDescriptor y.desc = some sig → argsL.length = sig.parameters.length)
    (hstack : g.stack = argsL.reverse ++ rest) (hW : 2 * g.monitorRoom + (rest.map fun v => v.category).sum ≤ W9) (hdg : decode c.code g.pc = .ok (.invokestatic index, 3))
    (hpre : ∀ vm₁, s.WarmedH vm₁ → Pre ⟨T.setVm vm₁, locs, cells, slots⟩ argsL.toArray) :
    (∃ (v : Option Value) (vm₁ : Vm) (B : Pt), s.WarmedH vm₁ ∧ Stand p l e R s m args below meth c B.U B.locs B.cells B.slots ∧ Post ⟨T.setVm vm₁, locs, cells, slots⟩ argsL.toArray v B ∧
      ∀ target, Steps p.tables e below (B.U.setTop { g with pc := g.pc + 3, stack := v.toList ++ rest }) target → Steps p.tables e below (T.setTop g) target) ∨
    (∃ (q : Addr) (vm₁ : Vm) (B : Pt), s.WarmedH vm₁ ∧ Stand p l e R s m args below meth c B.U B.locs B.cells B.slots ∧ PostX ⟨T.setVm vm₁, locs, cells, slots⟩ argsL.toArray q B ∧
      Steps p.tables e below (T.setTop g) ((B.U.setTop { g with stack := rest }).pushFrame (.throwing q))) := by
  obtain ⟨mk, methM, cM, hnamed, hmethM, -, -, -, -, -, -, hsigM⟩ := Cond.codeWith_spec hcode
  have hstatic : methM.isStatic = true := Cond.static_spec hnamed hmethM hstat
  obtain ⟨kP, hkP, -⟩ := className_of_methodNamed hnamed
  have hinitP : kP.init = .initialized := Cond.initialized_spec (findClass_of_methodNamed hnamed) hkP hinit
  obtain ⟨vm₁, X₁, hstep₁⟩ := X.invokestatic hexec hown hlink hnamed hmethM hstatic hkP hinitP hy (g := g) hg (argsL := argsL) (rest := rest) (hlen _ hsigM) hstack hdg
  rcases hK m meth c ⟨T.setVm vm₁, locs, cells, slots⟩ { g with stack := rest } (.invokestatic index) mk argsL.toArray X₁ hg hsize hdg hW (X₁.named hnamed) (hpre vm₁ X₁.warmed) with ⟨v, B, X', hpost, hsteps⟩ | ⟨q, B, X', hpost, hsteps⟩
  · exact Or.inl ⟨v, vm₁, B, X₁.warmed, X', hpost, fun target h => hstep₁ _ fun acts => by rw [doInvoke_state]; exact hsteps.trans h⟩
  · exact Or.inr ⟨q, vm₁, B, X₁.warmed, X', hpost, hstep₁ _ fun acts => by rw [doInvoke_state]; exact hsteps⟩
theorem vx_callVW (X : Stand p l e R s m args below meth c T locs cells slots) (hexec : p.tables.exec = Jvm.exec) {own C : String} {index : Nat} {y : MethodName} {bytes : ByteArray} {maxL : Nat} {ret : Option FieldType} {hh : List (Nat × Nat × Nat × Nat)}
    (hown : s.vm.findClass own = some m.cls) (hlink : (Cond.methodLink own index y).before args s = true) (hinst : (Cond.instanceMethod y).before args s = true) (hsel : (Cond.selects C y y).before args s = true)
    (hcode : (Cond.codeWith y bytes maxL ret hh).before args s = true) (hy : y.cls ≠ "java/lang/invoke/MethodHandle" ∧ y.cls ≠ "java/lang/invoke/VarHandle")
    {W9 : Nat} {Pre : Pt → Array Value → Prop} {Post : Pt → Array Value → Option Value → Pt → Prop} (hK : Back l R p e below s args y 3 W9 Pre Post)
    {b : Addr} {cellB : Cell} (hcell : T.heap[b]? = some cellB) (hobj : cellB.vm.isStatics = false) (hcls : s.vm.findClass C = some cellB.cls)
    {g : JFrame} (hg : g.method = m) (hsize : g.locals.size = c.maxLocals) {argsL rest : List Value} (hlen : ∀ sig, parseMethodDescriptor y.desc = some sig → argsL.length = sig.parameters.length)
    (hstack : g.stack = argsL.reverse ++ .ref b :: rest) (hW : 2 * g.monitorRoom + (rest.map fun v => v.category).sum ≤ W9) (hdg : decode c.code g.pc = .ok (.invokevirtual index, 3))
    (hpre : ∀ vm₁, s.WarmedH vm₁ → Pre ⟨T.setVm vm₁, locs, cells, slots⟩ (Value.ref b :: argsL).toArray) :
    ∃ (v : Option Value) (vm₁ : Vm) (B : Pt), s.WarmedH vm₁ ∧ Stand p l e R s m args below meth c B.U B.locs B.cells B.slots ∧ Post ⟨T.setVm vm₁, locs, cells, slots⟩ (Value.ref b :: argsL).toArray v B ∧
      ∀ target, Steps p.tables e below (B.U.setTop { g with pc := g.pc + 3, stack := v.toList ++ rest }) target → Steps p.tables e below (T.setTop g) target := by
  obtain ⟨mk, methM, hnamed, hmethM, hstM, habM⟩ := Cond.instanceMethod_spec hinst
  obtain ⟨m8, methM', cM, hn8, hmethM', -, -, -, -, -, -, hsigM⟩ := Cond.codeWith_spec hcode
  cases Option.some.inj (hn8.symm.trans hnamed)
  cases hmethM.symm.trans hmethM'
  obtain ⟨c2, r2, m2, q1, q2, q3, q4, kP, hkP, hkPi⟩ := Cond.selects_spec hsel
  cases hcls.symm.trans q1
  cases (State.methodFound?_of_named hnamed hy).symm.trans q2
  cases hnamed.symm.trans q3
  have hselP : selectMethod e.platform s.vm cellB.cls mk = .method mk := by rw [Launch.admits_selectMethod X.admits]; exact q4
  obtain ⟨vm₁, X₁, hstep₁⟩ := X.invokevirtual hexec hown hlink hnamed hmethM hstM hkP hkPi hy (a := b) (cell := cellB) hcell
    (fun z h => by rw [h] at hobj; cases hobj) hselP hmethM habM hkP hkPi (g := g) hg (argsL := argsL) (rest := rest) (hlen _ hsigM) hstack hdg
  obtain ⟨v, B, X', hpost, hsteps⟩ := hK m meth c ⟨T.setVm vm₁, locs, cells, slots⟩ { g with stack := rest } (.invokevirtual index) mk (Value.ref b :: argsL).toArray X₁ hg hsize hdg hW (X₁.named hnamed) (hpre vm₁ X₁.warmed)
  exact ⟨v, vm₁, B, X₁.warmed, X', hpost, fun target h => hstep₁ _ fun acts => by rw [doInvoke_state]; exact hsteps.trans h⟩
abbrev vx_CVW (R : Room) (s : State) (args : Array Value) (own C : String) (index : Nat) (y : MethodName) (bytes : ByteArray) (maxL : Nat) (ret : Option FieldType) (hh : List (Nat × Nat × Nat × Nat)) (ws : List Cond) (rm : Room) (mc ms n : Nat) : Prop :=
  (rm.cells = mc ∧ rm.slots = ms ∧ rm.frames + 1 ≤ R.frames ∧ 8 + (maxL + 11) + rm.locals ≤ R.locals ∧ (∀ w ∈ ws, ∀ (a' : Array Value) (U : State), s.WarmedH U.vm → w.before a' U = true) ∧ Cond.codeWith y bytes maxL ret hh ∈ ws) ∧
  (Cond.codeWith y bytes maxL ret hh).before args s = true ∧ (Cond.initialized y.cls).before args s = true ∧ (y.cls ≠ "java/lang/invoke/MethodHandle" ∧ y.cls ≠ "java/lang/invoke/VarHandle") ∧
  (∀ sig, parseMethodDescriptor y.desc = some sig → n = sig.parameters.length) ∧ (Cond.methodLink own index y).before args s = true ∧ (Cond.instanceMethod y).before args s = true ∧ (Cond.selects C y y).before args s = true
theorem vx_cwVW {own C : String} {index maxL mc ms : Nat} {y : MethodName} {bytes : ByteArray} {ret : Option FieldType} {hh : List (Nat × Nat × Nat × Nat)} {Ts ws ws' : List Cond} {rm : Room} (n : Nat) (ht : ∀ w ∈ Ts, w.before args s = true) (hT : GoodIn Ts (wsV own index C y ws)) (hw : ws = Cond.codeWith y bytes maxL ret hh :: ws') (hrc : rm.cells = mc) (hrs : rm.slots = ms)
    (hd : y.cls = C ∧ y.cls ≠ "java/lang/invoke/MethodHandle" ∧ y.cls ≠ "java/lang/invoke/VarHandle" ∧ (parseMethodDescriptor y.desc).map (fun d => d.parameters.length) = some n) (hR : rm.frames + 1 ≤ R.frames ∧ 8 + (maxL + 11) + rm.locals ≤ R.locals) :
    vx_CVW R s args own C index y bytes maxL ret hh ws rm mc ms n := by
  obtain ⟨hC, hd⟩ := hd
  subst hC
  have ok : ∀ w ∈ wsV own index y.cls y ws, w.before args s = true := fun w h => ht w (hT w h).1
  have hG : GoodIn Ts ws := fun w h => hT w (by unfold wsV; exact List.mem_append_right _ h)
  have hc : Cond.codeWith y bytes maxL ret hh ∈ ws := by rw [hw]; exact List.mem_cons_self
  refine ⟨⟨hrc, hrs, hR.1, hR.2, pay_in ht hG, hc⟩, ht _ (hG _ hc).1, ok _ (by simp [wsV]), ⟨hd.1, hd.2.1⟩, fun sig h => ?_, ok _ (by simp [wsV]), ok _ (by simp [wsV]), ok _ (by simp [wsV])⟩
  have h2 := hd.2.2
  rw [h] at h2
  exact (Option.some.inj h2).symm
theorem vx_runVW {y : MethodName} {bytes cc : ByteArray} {maxL nL mc ms n index : Nat} {ret : Option FieldType} {hh : List (Nat × Nat × Nat × Nat)} {ws : List Cond} {rm : Room} {Pc : Array Value → State → Prop} {Qc : Array Value → State → Outcome → State → Prop} {free : Addr → Prop} {Ts : List Cond} {own C : String} {b : Addr} {As rest : List Value} {g : JFrame}
    (S : CallFix p m c cc nL s args Ts own) (hM : Met l y ws rm Pc Qc mc ms free) (cw : vx_CVW R s args own C index y bytes maxL ret hh ws rm mc ms n) (hp : PreV s H C b Pc As)
    (hg : g.method = m) (hn : As.length = n) (hsize : g.locals.size = nL) (hstack : g.stack = As.reverse ++ .ref b :: rest) (hW : 2 * g.monitorRoom + (rest.map fun v => v.category).sum ≤ 8) (hdg : decode cc g.pc = .ok (.invokevirtual index, 3)) (hf : cells + mc ≤ R.cells ∧ slots + ms ≤ R.slots) :
    va_Run p l e R s m args below meth c H locs cells slots mc ms g rest (Qc (Value.ref b :: As).toArray) free := by
  obtain ⟨⟨hrc, hrs, hfr, hlo, hws, hcw⟩, hcode, hini, hy, hlen, hl, hin, hse⟩ := cw
  have hK : Back l R p e below s args y 3 8 (PreOf R mc ms Pc) (PostOf Qc mc ms free) := va_backW (hh := hh) (bytes := bytes) (maxL := maxL) (ret := ret) hM hp.1 hrc hrs hfr hlo hws hcw (fun a' U hW => word_at hW (Or.inl (by first | rfl | simp [Cond.onTables, Cond.keeps, Cond.steady])) hini)
  obtain ⟨hx, hb, hml, ho, -⟩ := S
  obtain ⟨-, ⟨cellB, hcB, hoB, hclB⟩, hPc⟩ := hp
  intro T hT X
  obtain ⟨v, vm₁, ⟨U', l2, c2, s2⟩, hW₁, X', ⟨g', mk, t, L, e1, e2, hq, h1, hL, h2, h3⟩, st⟩ := vx_callVW X hx (C := C) (hh := hh) (bytes := bytes) (maxL := maxL) (ret := ret) ho hl hin hse hcode hy hK (by rw [hT]; exact hcB) hoB hclB hg (hsize.trans hml.symm) (argsL := As) (rest := rest) (fun sig h => hn.trans (hlen sig h)) hstack hW (by rw [hb]; exact hdg)
    (fun vm₁ hW₁ => ⟨hf.1, hf.2, hPc (T.setVm vm₁) hT hW₁⟩)
  dsimp only [Pt.U, Pt.locs, Pt.cells, Pt.slots] at X' e1 e2 h1 h2 h3 st
  subst h1; subst h2; subst h3
  exact ⟨v, (T.setVm vm₁).calling g' mk (Value.ref b :: As).toArray, t, U', L, hT, X', hL, e1, e2, hq, st⟩
section
variable {y : MethodName} {bytes cc : ByteArray} {maxL nL mc ms n index : Nat} {ret : Option FieldType} {ws : List Cond} {rm : Room} {Pc : Array Value → State → Prop} {Qc : Array Value → State → Outcome → State → Prop} {XC : String → State → State → Prop} {free : Addr → Prop} {Ts : List Cond} {own C : String} {b : Addr} {As rest : List Value} {g : JFrame}
theorem vx_runVX {hh : List (Nat × Nat × Nat × Nat)} (S : CallFix p m c cc nL s args Ts own) (hM : vx_Met l y ws rm Pc Qc XC mc ms free) (cw : vx_CVW R s args own C index y bytes maxL ret hh ws rm mc ms n) (hp : PreV s H C b Pc As)
    (hg : g.method = m) (hn : As.length = n) (hsize : g.locals.size = nL) (hstack : g.stack = As.reverse ++ .ref b :: rest) (hW : 2 * g.monitorRoom + (rest.map fun v => v.category).sum ≤ 8) (hdg : decode cc g.pc = .ok (.invokevirtual index, 3)) (hf : cells + mc ≤ R.cells ∧ slots + ms ≤ R.slots) :
    vx_Run p l e R s m args below meth c H locs cells slots mc ms g rest (Qc (Value.ref b :: As).toArray) XC free := by
  obtain ⟨⟨hrc, hrs, hfr, hlo, hws, hcw⟩, hcode, hini, hy, hlen, hl, hin, hse⟩ := cw
  have hK : vx_Back l R p e below s args y 3 8 (PreOf R mc ms Pc) (PostOf Qc mc ms free) (vx_Post XC mc ms free) := vx_backW (hh := hh) (bytes := bytes) (maxL := maxL) (ret := ret) hM hp.1 hrc hrs hfr hlo hws hcw (fun a' U hW => word_at hW (Or.inl (by first | rfl | simp [Cond.onTables, Cond.keeps, Cond.steady])) hini)
  obtain ⟨hx, hb, hml, ho, -⟩ := S
  obtain ⟨-, ⟨cellB, hcB, hoB, hclB⟩, hPc⟩ := hp
  intro T hT X
  rcases vx_callVX X hx (C := C) (hh := hh) (bytes := bytes) (maxL := maxL) (ret := ret) ho hl hin hse hcode hy hK (by rw [hT]; exact hcB) hoB hclB hg (hsize.trans hml.symm) (argsL := As) (rest := rest) (fun sig h => hn.trans (hlen sig h)) hstack hW (by rw [hb]; exact hdg)
    (fun vm₁ hW₁ => ⟨hf.1, hf.2, hPc (T.setVm vm₁) hT hW₁⟩) with ⟨v, vm₁, ⟨U', l2, c2, s2⟩, hW₁, X', ⟨g', mk, t, L, e1, e2, hq, h1, hL, h2, h3⟩, st⟩ | ⟨q, vm₁, ⟨U', l2, c2, s2⟩, hW₁, X', ⟨g', mk, t, L, E, ce, e1, e2, hq, hce, hcv, hcl, h1, hL, h2, h3⟩, st⟩
  · dsimp only [Pt.U, Pt.locs, Pt.cells, Pt.slots] at X' e1 e2 h1 h2 h3 st
    subst h1; subst h2; subst h3
    exact Or.inl ⟨v, (T.setVm vm₁).calling g' mk (Value.ref b :: As).toArray, t, U', L, hT, X', hL, e1, e2, hq, st⟩
  · dsimp only [Pt.U, Pt.locs, Pt.cells, Pt.slots] at X' e1 e2 h1 h2 h3 st hcl
    subst h1; subst h2; subst h3
    exact Or.inr ⟨q, (T.setVm vm₁).calling g' mk (Value.ref b :: As).toArray, t, U', L, E, ce, hT, X', hL, e1, e2, hq, hce, hcv, vx_cls hW₁ hcl, st⟩
theorem vx_runSX {hh : List (Nat × Nat × Nat × Nat)} (S : CallFix p m c cc nL s args Ts own) (hM : vx_Met l y ws rm Pc Qc XC mc ms free) (cw : vx_CSW R s args own index y bytes maxL ret hh ws rm mc ms n) (hp : PreS s H Pc As)
    (hg : g.method = m) (hn : As.length = n) (hsize : g.locals.size = nL) (hstack : g.stack = As.reverse ++ rest) (hW : 2 * g.monitorRoom + (rest.map fun v => v.category).sum ≤ 8) (hdg : decode cc g.pc = .ok (.invokestatic index, 3)) (hf : cells + mc ≤ R.cells ∧ slots + ms ≤ R.slots) :
    vx_Run p l e R s m args below meth c H locs cells slots mc ms g rest (Qc As.toArray) XC free := by
  obtain ⟨⟨hrc, hrs, hfr, hlo, hws, hcw⟩, hcode, hini, hy, hlen, hl, hstt⟩ := cw
  have hK : vx_Back l R p e below s args y 3 8 (PreOf R mc ms Pc) (PostOf Qc mc ms free) (vx_Post XC mc ms free) := vx_backW (hh := hh) (bytes := bytes) (maxL := maxL) (ret := ret) hM hp.1 hrc hrs hfr hlo hws hcw (fun a' U hW => word_at hW (Or.inl (by first | rfl | simp [Cond.onTables, Cond.keeps, Cond.steady])) hini)
  obtain ⟨hx, hb, hml, ho, -⟩ := S
  intro T hT X
  rcases vx_callSX X hx (hh := hh) (bytes := bytes) (maxL := maxL) (ret := ret) ho hl hstt hini hcode hy hK hg (hsize.trans hml.symm) (argsL := As) (rest := rest) (fun sig h => hn.trans (hlen sig h)) hstack hW (by rw [hb]; exact hdg)
    (fun vm₁ hW₁ => ⟨hf.1, hf.2, hp.2 (T.setVm vm₁) hT hW₁⟩) with ⟨v, vm₁, ⟨U', l2, c2, s2⟩, hW₁, X', ⟨g', mk, t, L, e1, e2, hq, h1, hL, h2, h3⟩, st⟩ | ⟨q, vm₁, ⟨U', l2, c2, s2⟩, hW₁, X', ⟨g', mk, t, L, E, ce, e1, e2, hq, hce, hcv, hcl, h1, hL, h2, h3⟩, st⟩
  · dsimp only [Pt.U, Pt.locs, Pt.cells, Pt.slots] at X' e1 e2 h1 h2 h3 st
    subst h1; subst h2; subst h3
    exact Or.inl ⟨v, (T.setVm vm₁).calling g' mk As.toArray, t, U', L, hT, X', hL, e1, e2, hq, st⟩
  · dsimp only [Pt.U, Pt.locs, Pt.cells, Pt.slots] at X' e1 e2 h1 h2 h3 st hcl
    subst h1; subst h2; subst h3
    exact Or.inr ⟨q, (T.setVm vm₁).calling g' mk As.toArray, t, U', L, E, ce, hT, X', hL, e1, e2, hq, hce, hcv, vx_cls hW₁ hcl, st⟩
end
end VXH
theorem vx_ofWH {l : Launch} {y : MethodName} {ws ws' : List Cond} {rm : Room} {Pc : Array Value → State → Prop} {Qc : Array Value → State → Outcome → State → Prop} {XC : String → State → State → Prop} {mc ms : Nat} {free : Addr → Prop} {cc : ByteArray} {maxL : Nat} {ret : Option FieldType} {hh : List (Nat × Nat × Nat × Nat)}
    (hy : plainName y.cls = true) (hw : ws = Cond.codeWith y cc maxL ret hh :: ws')
    (body : ∀ p e s m args below meth c s₁, BodyLoose p l y (headSpec ws rm) cc maxL ret e s m args below meth c s₁ → c.maxLocals = maxL → Pc args s →
      W p l e (headSpec ws rm).room s m args below meth c s.heap [] 0 0 (vx_MQ below Qc XC args s mc ms free) (entryFrame m args maxL)) : vx_Met l y ws rm Pc Qc XC mc ms free := by
  refine MetFree.of_bodyS (code := cc) (maxLocals := maxL) (ret := ret) hy ?_ ?_
  · intro args s m h hn
    obtain ⟨m9, meth, c, hn9, h1, h2, h3, h4, -, h5, h6, -⟩ := Cond.codeWith_spec (atoms_spec (ws := ws) h _ (by rw [hw]; exact List.mem_cons_self))
    cases hn.symm.trans hn9
    exact ⟨meth, c, h1, h2, h3, h4, h5, h6⟩
  · intro p e s m args below meth c s₁ B hml hP _
    have hh0 : s₁.heap = s.heap := by rw [B.state]; rfl
    obtain ⟨t, a1, o, b1, b2, b3⟩ := body p e s m args below meth c s₁ B hml hP s₁ hh0 (Stand.of_body B)
    exact ⟨t, o, a1, b1, b2, b3⟩
/-! ===== END ===== -/
end
section

/-! ===== BEGIN printed: names, fields, word lists, decode rows ===== -/
def RX0 : String := "CacheDirectory$Cache"
def TX0 : u_T := fun k => match k with
  | 0 => ("CacheDirectory$Cache", "number", "I", true)
  | 1 => ("CacheDirectory$Cache", "network", "LCacheDirectory$Network;", true)
  | 2 => ("CacheDirectory$Cache", "request", "LCacheDirectory$Request;", true)
  | 3 => ("CacheDirectory$Cache", "states", "[I", true)
  | 4 => ("CacheDirectory$Cache", "values", "[I", true)
  | 5 => ("CacheDirectory$Cache", "victimValues", "[I", true)
  | 6 => ("CacheDirectory$Cache", "useOrder", "[I", true)
  | 7 => ("CacheDirectory$Cache", "lineCount", "I", false)
  | 8 => ("CacheDirectory$Cache", "victimCount", "I", false)
  | 9 => ("CacheDirectory$Cache", "ways", "I", false)
  | 10 => ("CacheDirectory$Cache", "victimRoom", "I", false)
  | 11 => ("CacheDirectory$Cache", "latestResult", "I", false)
  | 12 => ("CacheDirectory$Cache", "hitCount", "I", false)
  | _ => ("CacheDirectory$Cache", "missCount", "I", false)
def tyX0 : Nat → FieldType := fun k => match k with
  | 0 => .int
  | 1 => .object "CacheDirectory$Network"
  | 2 => .object "CacheDirectory$Request"
  | 3 => .array .int
  | 4 => .array .int
  | 5 => .array .int
  | 6 => .array .int
  | 7 => .int
  | 8 => .int
  | 9 => .int
  | 10 => .int
  | 11 => .int
  | 12 => .int
  | _ => .int
abbrev wsX00 : List Cond := u_ws RX0 TX0 14
theorem nmX0 : ∀ a, a < 14 → ∀ b, b < 14 → a ≠ b → (TX0 a).2.1 ≠ (TX0 b).2.1 := by decide +kernel
theorem tyX0_ok : ∀ k, k < 14 → parseFieldDescriptor (TX0 k).2.2.1 = some (tyX0 k) := by decide +kernel
abbrev cX0_init : ByteArray := prog_2_method_1_code
def yX0_init : MethodName := ⟨RX0, "<init>", "(ILCacheDirectory$Network;)V"⟩
abbrev cX0_isInUse : ByteArray := prog_2_method_2_code
def yX0_isInUse : MethodName := ⟨RX0, "isInUse", "()Z"⟩
abbrev cX0_holds : ByteArray := prog_2_method_3_code
def yX0_holds : MethodName := ⟨RX0, "holds", "(I)Z"⟩
abbrev cX0_needsWayFor : ByteArray := prog_2_method_4_code
def yX0_needsWayFor : MethodName := ⟨RX0, "needsWayFor", "(I)Z"⟩
abbrev cX0_lacksVictimRoomFor : ByteArray := prog_2_method_5_code
def yX0_lacksVictimRoomFor : MethodName := ⟨RX0, "lacksVictimRoomFor", "(I)Z"⟩
abbrev cX0_startRequest : ByteArray := prog_2_method_6_code
def yX0_startRequest : MethodName := ⟨RX0, "startRequest", "(IZI)V"⟩
abbrev cX0_moveOut : ByteArray := prog_2_method_7_code
def yX0_moveOut : MethodName := ⟨RX0, "moveOut", "(I)V"⟩
abbrev cX0_receive : ByteArray := prog_2_method_8_code
def yX0_receive : MethodName := ⟨RX0, "receive", "(LCacheDirectory$Message;)V"⟩
abbrev cX0_finishIfComplete : ByteArray := prog_2_method_9_code
def yX0_finishIfComplete : MethodName := ⟨RX0, "finishIfComplete", "(I)V"⟩
abbrev cX0_passOn : ByteArray := prog_2_method_10_code
def yX0_passOn : MethodName := ⟨RX0, "passOn", "(LCacheDirectory$Message;)V"⟩
abbrev cX0_store : ByteArray := prog_2_method_11_code
def yX0_store : MethodName := ⟨RX0, "store", "(III)V"⟩
abbrev cX0_drop : ByteArray := prog_2_method_12_code
def yX0_drop : MethodName := ⟨RX0, "drop", "(I)V"⟩
abbrev cX0_markUsed : ByteArray := prog_2_method_13_code
def yX0_markUsed : MethodName := ⟨RX0, "markUsed", "(I)V"⟩
abbrev cX0_leaveUseOrder : ByteArray := prog_2_method_14_code
def yX0_leaveUseOrder : MethodName := ⟨RX0, "leaveUseOrder", "(I)V"⟩
def RX1 : String := "CacheDirectory$Home"
def TX1 : u_T := fun k => match k with
  | 0 => ("CacheDirectory$Home", "line", "I", true)
  | 1 => ("CacheDirectory$Home", "network", "LCacheDirectory$Network;", true)
  | 2 => ("CacheDirectory$Home", "waiting", "Ljava/util/ArrayList;", true)
  | 3 => ("CacheDirectory$Home", "memoryValue", "I", false)
  | 4 => ("CacheDirectory$Home", "ownerCache", "I", false)
  | 5 => ("CacheDirectory$Home", "sharerSet", "I", false)
  | 6 => ("CacheDirectory$Home", "busy", "Z", false)
  | 7 => ("CacheDirectory$Home", "timelyPuts", "I", false)
  | _ => ("CacheDirectory$Home", "latePuts", "I", false)
def tyX1 : Nat → FieldType := fun k => match k with
  | 0 => .int
  | 1 => .object "CacheDirectory$Network"
  | 2 => .object "java/util/ArrayList"
  | 3 => .int
  | 4 => .int
  | 5 => .int
  | 6 => .boolean
  | 7 => .int
  | _ => .int
abbrev wsX10 : List Cond := u_ws RX1 TX1 9
theorem nmX1 : ∀ a, a < 9 → ∀ b, b < 9 → a ≠ b → (TX1 a).2.1 ≠ (TX1 b).2.1 := by decide +kernel
theorem tyX1_ok : ∀ k, k < 9 → parseFieldDescriptor (TX1 k).2.2.1 = some (tyX1 k) := by decide +kernel
abbrev cX1_init : ByteArray := prog_3_method_1_code
def yX1_init : MethodName := ⟨RX1, "<init>", "(ILCacheDirectory$Network;)V"⟩
abbrev cX1_receive : ByteArray := prog_3_method_2_code
def yX1_receive : MethodName := ⟨RX1, "receive", "(LCacheDirectory$Message;)V"⟩
abbrev cX1_process : ByteArray := prog_3_method_3_code
def yX1_process : MethodName := ⟨RX1, "process", "(LCacheDirectory$Message;)V"⟩
abbrev cX1_processRead : ByteArray := prog_3_method_4_code
def yX1_processRead : MethodName := ⟨RX1, "processRead", "(I)V"⟩
abbrev cX1_processWrite : ByteArray := prog_3_method_5_code
def yX1_processWrite : MethodName := ⟨RX1, "processWrite", "(I)V"⟩
abbrev cX1_processPut : ByteArray := prog_3_method_6_code
def yX1_processPut : MethodName := ⟨RX1, "processPut", "(LCacheDirectory$Message;)V"⟩
def RX2 : String := "CacheDirectory$Message"
def TX2 : u_T := fun k => match k with
  | 0 => ("CacheDirectory$Message", "kind", "I", true)
  | 1 => ("CacheDirectory$Message", "line", "I", true)
  | 2 => ("CacheDirectory$Message", "sender", "I", true)
  | 3 => ("CacheDirectory$Message", "receiver", "I", true)
  | 4 => ("CacheDirectory$Message", "carried", "I", false)
  | 5 => ("CacheDirectory$Message", "count", "I", false)
  | _ => ("CacheDirectory$Message", "requester", "I", false)
def tyX2 : Nat → FieldType := fun k => match k with
  | 0 => .int
  | 1 => .int
  | 2 => .int
  | 3 => .int
  | 4 => .int
  | 5 => .int
  | _ => .int
abbrev wsX20 : List Cond := u_ws RX2 TX2 7
theorem nmX2 : ∀ a, a < 7 → ∀ b, b < 7 → a ≠ b → (TX2 a).2.1 ≠ (TX2 b).2.1 := by decide +kernel
theorem tyX2_ok : ∀ k, k < 7 → parseFieldDescriptor (TX2 k).2.2.1 = some (tyX2 k) := by decide +kernel
abbrev cX2_init : ByteArray := prog_4_method_1_code
def yX2_init : MethodName := ⟨RX2, "<init>", "(IIII)V"⟩
def RX3 : String := "CacheDirectory$Network"
def TX3 : u_T := fun k => match k with
  | _ => ("CacheDirectory$Network", "onTheWay", "Ljava/util/ArrayList;", true)
def tyX3 : Nat → FieldType := fun k => match k with
  | _ => .object "java/util/ArrayList"
abbrev wsX30 : List Cond := u_ws RX3 TX3 1
theorem nmX3 : ∀ a, a < 1 → ∀ b, b < 1 → a ≠ b → (TX3 a).2.1 ≠ (TX3 b).2.1 := by decide +kernel
theorem tyX3_ok : ∀ k, k < 1 → parseFieldDescriptor (TX3 k).2.2.1 = some (tyX3 k) := by decide +kernel
abbrev cX3_init : ByteArray := prog_5_method_1_code
def yX3_init : MethodName := ⟨RX3, "<init>", "()V"⟩
abbrev cX3_send : ByteArray := prog_5_method_2_code
def yX3_send : MethodName := ⟨RX3, "send", "(IIII)LCacheDirectory$Message;"⟩
def RX4 : String := "CacheDirectory$Request"
def TX4 : u_T := fun k => match k with
  | 0 => ("CacheDirectory$Request", "line", "I", false)
  | 1 => ("CacheDirectory$Request", "forWriting", "Z", false)
  | 2 => ("CacheDirectory$Request", "toWrite", "I", false)
  | 3 => ("CacheDirectory$Request", "answered", "Z", false)
  | 4 => ("CacheDirectory$Request", "received", "I", false)
  | 5 => ("CacheDirectory$Request", "invalidationsDue", "I", false)
  | _ => ("CacheDirectory$Request", "invalidationsDone", "I", false)
def tyX4 : Nat → FieldType := fun k => match k with
  | 0 => .int
  | 1 => .boolean
  | 2 => .int
  | 3 => .boolean
  | 4 => .int
  | 5 => .int
  | _ => .int
abbrev wsX40 : List Cond := u_ws RX4 TX4 7
theorem nmX4 : ∀ a, a < 7 → ∀ b, b < 7 → a ≠ b → (TX4 a).2.1 ≠ (TX4 b).2.1 := by decide +kernel
theorem tyX4_ok : ∀ k, k < 7 → parseFieldDescriptor (TX4 k).2.2.1 = some (tyX4 k) := by decide +kernel
abbrev cX4_init : ByteArray := prog_6_method_1_code
def yX4_init : MethodName := ⟨RX4, "<init>", "()V"⟩
abbrev cX4_open : ByteArray := prog_6_method_2_code
def yX4_open : MethodName := ⟨RX4, "open", "(IZI)V"⟩
abbrev cX4_isComplete : ByteArray := prog_6_method_3_code
def yX4_isComplete : MethodName := ⟨RX4, "isComplete", "()Z"⟩
def RX5 : String := "CacheDirectory"
def TX5 : u_T := fun k => match k with
  | 0 => ("CacheDirectory", "network", "LCacheDirectory$Network;", true)
  | 1 => ("CacheDirectory", "caches", "[LCacheDirectory$Cache;", true)
  | _ => ("CacheDirectory", "homes", "[LCacheDirectory$Home;", true)
def tyX5 : Nat → FieldType := fun k => match k with
  | 0 => .object "CacheDirectory$Network"
  | 1 => .array (.object "CacheDirectory$Cache")
  | _ => .array (.object "CacheDirectory$Home")
abbrev wsX50 : List Cond := u_ws RX5 TX5 3
theorem nmX5 : ∀ a, a < 3 → ∀ b, b < 3 → a ≠ b → (TX5 a).2.1 ≠ (TX5 b).2.1 := by decide +kernel
theorem tyX5_ok : ∀ k, k < 3 → parseFieldDescriptor (TX5 k).2.2.1 = some (tyX5 k) := by decide +kernel
abbrev cX5_init : ByteArray := prog_1_method_1_code
def yX5_init : MethodName := ⟨RX5, "<init>", "()V"⟩
abbrev cX5_setRoom : ByteArray := prog_1_method_2_code
def yX5_setRoom : MethodName := ⟨RX5, "setRoom", "(III)Z"⟩
abbrev cX5_read : ByteArray := prog_1_method_3_code
def yX5_read : MethodName := ⟨RX5, "read", "(II)I"⟩
abbrev cX5_write : ByteArray := prog_1_method_4_code
def yX5_write : MethodName := ⟨RX5, "write", "(III)Z"⟩
abbrev cX5_evict : ByteArray := prog_1_method_5_code
def yX5_evict : MethodName := ⟨RX5, "evict", "(II)I"⟩
abbrev cX5_state : ByteArray := prog_1_method_6_code
def yX5_state : MethodName := ⟨RX5, "state", "(II)I"⟩
abbrev cX5_value : ByteArray := prog_1_method_7_code
def yX5_value : MethodName := ⟨RX5, "value", "(II)I"⟩
abbrev cX5_victimValue : ByteArray := prog_1_method_8_code
def yX5_victimValue : MethodName := ⟨RX5, "victimValue", "(II)I"⟩
abbrev cX5_openLine : ByteArray := prog_1_method_9_code
def yX5_openLine : MethodName := ⟨RX5, "openLine", "(I)I"⟩
abbrev cX5_latestRead : ByteArray := prog_1_method_10_code
def yX5_latestRead : MethodName := ⟨RX5, "latestRead", "(I)I"⟩
abbrev cX5_lineAt : ByteArray := prog_1_method_11_code
def yX5_lineAt : MethodName := ⟨RX5, "lineAt", "(II)I"⟩
abbrev cX5_owner : ByteArray := prog_1_method_12_code
def yX5_owner : MethodName := ⟨RX5, "owner", "(I)I"⟩
abbrev cX5_sharers : ByteArray := prog_1_method_13_code
def yX5_sharers : MethodName := ⟨RX5, "sharers", "(I)I"⟩
abbrev cX5_isBusy : ByteArray := prog_1_method_14_code
def yX5_isBusy : MethodName := ⟨RX5, "isBusy", "(I)Z"⟩
abbrev cX5_queued : ByteArray := prog_1_method_15_code
def yX5_queued : MethodName := ⟨RX5, "queued", "(I)I"⟩
abbrev cX5_memory : ByteArray := prog_1_method_16_code
def yX5_memory : MethodName := ⟨RX5, "memory", "(I)I"⟩
abbrev cX5_messageCount : ByteArray := prog_1_method_17_code
def yX5_messageCount : MethodName := ⟨RX5, "messageCount", "()I"⟩
abbrev cX5_messageKind : ByteArray := prog_1_method_18_code
def yX5_messageKind : MethodName := ⟨RX5, "messageKind", "(I)I"⟩
abbrev cX5_messageLine : ByteArray := prog_1_method_19_code
def yX5_messageLine : MethodName := ⟨RX5, "messageLine", "(I)I"⟩
abbrev cX5_messageFrom : ByteArray := prog_1_method_20_code
def yX5_messageFrom : MethodName := ⟨RX5, "messageFrom", "(I)I"⟩
abbrev cX5_messageTo : ByteArray := prog_1_method_21_code
def yX5_messageTo : MethodName := ⟨RX5, "messageTo", "(I)I"⟩
abbrev cX5_deliver : ByteArray := prog_1_method_22_code
def yX5_deliver : MethodName := ⟨RX5, "deliver", "(I)I"⟩
abbrev cX5_settle : ByteArray := prog_1_method_23_code
def yX5_settle : MethodName := ⟨RX5, "settle", "(I)I"⟩
abbrev cX5_hits : ByteArray := prog_1_method_24_code
def yX5_hits : MethodName := ⟨RX5, "hits", "(I)I"⟩
abbrev cX5_misses : ByteArray := prog_1_method_25_code
def yX5_misses : MethodName := ⟨RX5, "misses", "(I)I"⟩
abbrev cX5_writebacks : ByteArray := prog_1_method_26_code
def yX5_writebacks : MethodName := ⟨RX5, "writebacks", "()I"⟩
abbrev cX5_lateWritebacks : ByteArray := prog_1_method_27_code
def yX5_lateWritebacks : MethodName := ⟨RX5, "lateWritebacks", "()I"⟩
abbrev cX5_isInOrder : ByteArray := prog_1_method_28_code
def yX5_isInOrder : MethodName := ⟨RX5, "isInOrder", "(I)Z"⟩
abbrev cX5_digest : ByteArray := prog_1_method_29_code
def yX5_digest : MethodName := ⟨RX5, "digest", "()J"⟩
abbrev cX5_addLine : ByteArray := prog_1_method_30_code
def yX5_addLine : MethodName := ⟨RX5, "addLine", "(JI)J"⟩
abbrev cX5_cacheAt : ByteArray := prog_1_method_31_code
def yX5_cacheAt : MethodName := ⟨RX5, "cacheAt", "(I)LCacheDirectory$Cache;"⟩
abbrev cX5_homeOf : ByteArray := prog_1_method_32_code
def yX5_homeOf : MethodName := ⟨RX5, "homeOf", "(I)LCacheDirectory$Home;"⟩
abbrev cX5_messageAt : ByteArray := prog_1_method_33_code
def yX5_messageAt : MethodName := ⟨RX5, "messageAt", "(I)LCacheDirectory$Message;"⟩
abbrev cX5_checkLine : ByteArray := prog_1_method_34_code
def yX5_checkLine : MethodName := ⟨RX5, "checkLine", "(I)V"⟩
abbrev cX5_checkHeld : ByteArray := prog_1_method_35_code
def yX5_checkHeld : MethodName := ⟨RX5, "checkHeld", "(LCacheDirectory$Cache;I)V"⟩
abbrev cX5_checkAccess : ByteArray := prog_1_method_36_code
def yX5_checkAccess : MethodName := ⟨RX5, "checkAccess", "(LCacheDirectory$Cache;I)V"⟩
abbrev cX5_handOver : ByteArray := prog_1_method_37_code
def yX5_handOver : MethodName := ⟨RX5, "handOver", "(I)V"⟩
def RX6 : String := "CacheDirectoryModel"
def TX6 : u_T := fun k => match k with
  | 0 => ("CacheDirectoryModel", "thrown", "I", false)
  | 1 => ("CacheDirectoryModel", "ways", "[I", true)
  | 2 => ("CacheDirectoryModel", "rooms", "[I", true)
  | 3 => ("CacheDirectoryModel", "states", "[I", true)
  | 4 => ("CacheDirectoryModel", "values", "[I", true)
  | 5 => ("CacheDirectoryModel", "uses", "[I", true)
  | 6 => ("CacheDirectoryModel", "victims", "[I", true)
  | 7 => ("CacheDirectoryModel", "time", "I", false)
  | 8 => ("CacheDirectoryModel", "hits", "[I", true)
  | 9 => ("CacheDirectoryModel", "misses", "[I", true)
  | 10 => ("CacheDirectoryModel", "latest", "[I", true)
  | 11 => ("CacheDirectoryModel", "openLines", "[I", true)
  | 12 => ("CacheDirectoryModel", "isWriting", "[Z", true)
  | 13 => ("CacheDirectoryModel", "toWrite", "[I", true)
  | 14 => ("CacheDirectoryModel", "isAnswered", "[Z", true)
  | 15 => ("CacheDirectoryModel", "answers", "[I", true)
  | 16 => ("CacheDirectoryModel", "needed", "[I", true)
  | 17 => ("CacheDirectoryModel", "got", "[I", true)
  | 18 => ("CacheDirectoryModel", "memory", "[I", true)
  | 19 => ("CacheDirectoryModel", "owners", "[I", true)
  | 20 => ("CacheDirectoryModel", "sharers", "[I", true)
  | 21 => ("CacheDirectoryModel", "isBusy", "[Z", true)
  | 22 => ("CacheDirectoryModel", "queues", "[I", true)
  | 23 => ("CacheDirectoryModel", "queued", "[I", true)
  | 24 => ("CacheDirectoryModel", "writebacks", "I", false)
  | 25 => ("CacheDirectoryModel", "late", "I", false)
  | 26 => ("CacheDirectoryModel", "messages", "[I", true)
  | 27 => ("CacheDirectoryModel", "sent", "I", false)
  | _ => ("CacheDirectoryModel", "now", "[I", true)
def tyX6 : Nat → FieldType := fun k => match k with
  | 0 => .int
  | 1 => .array .int
  | 2 => .array .int
  | 3 => .array .int
  | 4 => .array .int
  | 5 => .array .int
  | 6 => .array .int
  | 7 => .int
  | 8 => .array .int
  | 9 => .array .int
  | 10 => .array .int
  | 11 => .array .int
  | 12 => .array .boolean
  | 13 => .array .int
  | 14 => .array .boolean
  | 15 => .array .int
  | 16 => .array .int
  | 17 => .array .int
  | 18 => .array .int
  | 19 => .array .int
  | 20 => .array .int
  | 21 => .array .boolean
  | 22 => .array .int
  | 23 => .array .int
  | 24 => .int
  | 25 => .int
  | 26 => .array .int
  | 27 => .int
  | _ => .array .int
abbrev wsX60 : List Cond := u_ws RX6 TX6 29
theorem nmX6 : ∀ a, a < 29 → ∀ b, b < 29 → a ≠ b → (TX6 a).2.1 ≠ (TX6 b).2.1 := by decide +kernel
theorem tyX6_ok : ∀ k, k < 29 → parseFieldDescriptor (TX6 k).2.2.1 = some (tyX6 k) := by decide +kernel
abbrev cX6_init : ByteArray := prog_8_method_1_code
def yX6_init : MethodName := ⟨RX6, "<init>", "()V"⟩
abbrev cX6_thrown : ByteArray := prog_8_method_2_code
def yX6_thrown : MethodName := ⟨RX6, "thrown", "()I"⟩
abbrev cX6_fail : ByteArray := prog_8_method_3_code
def yX6_fail : MethodName := ⟨RX6, "fail", "(I)I"⟩
abbrev cX6_failed : ByteArray := prog_8_method_4_code
def yX6_failed : MethodName := ⟨RX6, "failed", "(I)Z"⟩
abbrev cX6_isCache : ByteArray := prog_8_method_5_code
def yX6_isCache : MethodName := ⟨RX6, "isCache", "(I)Z"⟩
abbrev cX6_isLine : ByteArray := prog_8_method_6_code
def yX6_isLine : MethodName := ⟨RX6, "isLine", "(I)Z"⟩
abbrev cX6_at : ByteArray := prog_8_method_7_code
def yX6_at : MethodName := ⟨RX6, "at", "(II)I"⟩
abbrev cX6_linesIn : ByteArray := prog_8_method_8_code
def yX6_linesIn : MethodName := ⟨RX6, "linesIn", "(I)I"⟩
abbrev cX6_victimsIn : ByteArray := prog_8_method_9_code
def yX6_victimsIn : MethodName := ⟨RX6, "victimsIn", "(I)I"⟩
abbrev cX6_use : ByteArray := prog_8_method_10_code
def yX6_use : MethodName := ⟨RX6, "use", "(II)V"⟩
abbrev cX6_lineBy : ByteArray := prog_8_method_11_code
def yX6_lineBy : MethodName := ⟨RX6, "lineBy", "(II)I"⟩
abbrev cX6_send : ByteArray := prog_8_method_12_code
def yX6_send : MethodName := ⟨RX6, "send", "(IIIIIII)V"⟩
abbrev cX6_setRoom : ByteArray := prog_8_method_13_code
def yX6_setRoom : MethodName := ⟨RX6, "setRoom", "(III)Z"⟩
abbrev cX6_canRemove : ByteArray := prog_8_method_14_code
def yX6_canRemove : MethodName := ⟨RX6, "canRemove", "(II)Z"⟩
abbrev cX6_remove : ByteArray := prog_8_method_15_code
def yX6_remove : MethodName := ⟨RX6, "remove", "(II)V"⟩
abbrev cX6_leaving : ByteArray := prog_8_method_16_code
def yX6_leaving : MethodName := ⟨RX6, "leaving", "(II)I"⟩
abbrev cX6_canStart : ByteArray := prog_8_method_17_code
def yX6_canStart : MethodName := ⟨RX6, "canStart", "(II)Z"⟩
abbrev cX6_start : ByteArray := prog_8_method_18_code
def yX6_start : MethodName := ⟨RX6, "start", "(IIZI)V"⟩
abbrev cX6_read : ByteArray := prog_8_method_19_code
def yX6_read : MethodName := ⟨RX6, "read", "(II)I"⟩
abbrev cX6_write : ByteArray := prog_8_method_20_code
def yX6_write : MethodName := ⟨RX6, "write", "(III)Z"⟩
abbrev cX6_evict : ByteArray := prog_8_method_21_code
def yX6_evict : MethodName := ⟨RX6, "evict", "(II)I"⟩
abbrev cX6_state : ByteArray := prog_8_method_22_code
def yX6_state : MethodName := ⟨RX6, "state", "(II)I"⟩
abbrev cX6_value : ByteArray := prog_8_method_23_code
def yX6_value : MethodName := ⟨RX6, "value", "(II)I"⟩
abbrev cX6_victimValue : ByteArray := prog_8_method_24_code
def yX6_victimValue : MethodName := ⟨RX6, "victimValue", "(II)I"⟩
abbrev cX6_openLine : ByteArray := prog_8_method_25_code
def yX6_openLine : MethodName := ⟨RX6, "openLine", "(I)I"⟩
abbrev cX6_latestRead : ByteArray := prog_8_method_26_code
def yX6_latestRead : MethodName := ⟨RX6, "latestRead", "(I)I"⟩
abbrev cX6_lineAt : ByteArray := prog_8_method_27_code
def yX6_lineAt : MethodName := ⟨RX6, "lineAt", "(II)I"⟩
abbrev cX6_owner : ByteArray := prog_8_method_28_code
def yX6_owner : MethodName := ⟨RX6, "owner", "(I)I"⟩
abbrev cX6_sharers : ByteArray := prog_8_method_29_code
def yX6_sharers : MethodName := ⟨RX6, "sharers", "(I)I"⟩
abbrev cX6_isBusy : ByteArray := prog_8_method_30_code
def yX6_isBusy : MethodName := ⟨RX6, "isBusy", "(I)Z"⟩
abbrev cX6_queued : ByteArray := prog_8_method_31_code
def yX6_queued : MethodName := ⟨RX6, "queued", "(I)I"⟩
abbrev cX6_memory : ByteArray := prog_8_method_32_code
def yX6_memory : MethodName := ⟨RX6, "memory", "(I)I"⟩
abbrev cX6_isMessage : ByteArray := prog_8_method_33_code
def yX6_isMessage : MethodName := ⟨RX6, "isMessage", "(I)Z"⟩
abbrev cX6_part : ByteArray := prog_8_method_34_code
def yX6_part : MethodName := ⟨RX6, "part", "(II)I"⟩
abbrev cX6_messageCount : ByteArray := prog_8_method_35_code
def yX6_messageCount : MethodName := ⟨RX6, "messageCount", "()I"⟩
abbrev cX6_messageKind : ByteArray := prog_8_method_36_code
def yX6_messageKind : MethodName := ⟨RX6, "messageKind", "(I)I"⟩
abbrev cX6_messageLine : ByteArray := prog_8_method_37_code
def yX6_messageLine : MethodName := ⟨RX6, "messageLine", "(I)I"⟩
abbrev cX6_messageFrom : ByteArray := prog_8_method_38_code
def yX6_messageFrom : MethodName := ⟨RX6, "messageFrom", "(I)I"⟩
abbrev cX6_messageTo : ByteArray := prog_8_method_39_code
def yX6_messageTo : MethodName := ⟨RX6, "messageTo", "(I)I"⟩
abbrev cX6_deliver : ByteArray := prog_8_method_40_code
def yX6_deliver : MethodName := ⟨RX6, "deliver", "(I)I"⟩
abbrev cX6_settle : ByteArray := prog_8_method_41_code
def yX6_settle : MethodName := ⟨RX6, "settle", "(I)I"⟩
abbrev cX6_take : ByteArray := prog_8_method_42_code
def yX6_take : MethodName := ⟨RX6, "take", "(I)V"⟩
abbrev cX6_enqueue : ByteArray := prog_8_method_43_code
def yX6_enqueue : MethodName := ⟨RX6, "enqueue", "(I)V"⟩
abbrev cX6_free : ByteArray := prog_8_method_44_code
def yX6_free : MethodName := ⟨RX6, "free", "(I)V"⟩
abbrev cX6_process : ByteArray := prog_8_method_45_code
def yX6_process : MethodName := ⟨RX6, "process", "(II)V"⟩
abbrev cX6_receive : ByteArray := prog_8_method_46_code
def yX6_receive : MethodName := ⟨RX6, "receive", "(II)V"⟩
abbrev cX6_complete : ByteArray := prog_8_method_47_code
def yX6_complete : MethodName := ⟨RX6, "complete", "(I)V"⟩
abbrev cX6_hits : ByteArray := prog_8_method_48_code
def yX6_hits : MethodName := ⟨RX6, "hits", "(I)I"⟩
abbrev cX6_misses : ByteArray := prog_8_method_49_code
def yX6_misses : MethodName := ⟨RX6, "misses", "(I)I"⟩
abbrev cX6_writebacks : ByteArray := prog_8_method_50_code
def yX6_writebacks : MethodName := ⟨RX6, "writebacks", "()I"⟩
abbrev cX6_lateWritebacks : ByteArray := prog_8_method_51_code
def yX6_lateWritebacks : MethodName := ⟨RX6, "lateWritebacks", "()I"⟩
abbrev cX6_isInOrder : ByteArray := prog_8_method_52_code
def yX6_isInOrder : MethodName := ⟨RX6, "isInOrder", "(I)Z"⟩
abbrev cX6_digest : ByteArray := prog_8_method_53_code
def yX6_digest : MethodName := ⟨RX6, "digest", "()J"⟩
def RJx145de : String := "java/io/Serializable"
def TJx145de : u_T := fun k => match k with
  | _ => ("", "", "", false)
def tyJx145de : Nat → FieldType := fun k => match k with
  | _ => .int
abbrev wsJx145de0 : List Cond := u_ws RJx145de TJx145de 0
theorem nmJx145de : ∀ a, a < 0 → ∀ b, b < 0 → a ≠ b → (TJx145de a).2.1 ≠ (TJx145de b).2.1 := by decide +kernel
theorem tyJx145de_ok : ∀ k, k < 0 → parseFieldDescriptor (TJx145de k).2.2.1 = some (tyJx145de k) := by decide +kernel
def RJx8e188 : String := "java/lang/Cloneable"
def TJx8e188 : u_T := fun k => match k with
  | _ => ("", "", "", false)
def tyJx8e188 : Nat → FieldType := fun k => match k with
  | _ => .int
abbrev wsJx8e1880 : List Cond := u_ws RJx8e188 TJx8e188 0
theorem nmJx8e188 : ∀ a, a < 0 → ∀ b, b < 0 → a ≠ b → (TJx8e188 a).2.1 ≠ (TJx8e188 b).2.1 := by decide +kernel
theorem tyJx8e188_ok : ∀ k, k < 0 → parseFieldDescriptor (TJx8e188 k).2.2.1 = some (tyJx8e188 k) := by decide +kernel
def RJ6 : String := "java/lang/Integer"
def TJ6 : u_T := fun k => match k with
  | _ => ("", "", "", false)
def tyJ6 : Nat → FieldType := fun k => match k with
  | _ => .int
abbrev wsJ60 : List Cond := u_ws RJ6 TJ6 0
theorem nmJ6 : ∀ a, a < 0 → ∀ b, b < 0 → a ≠ b → (TJ6 a).2.1 ≠ (TJ6 b).2.1 := by decide +kernel
theorem tyJ6_ok : ∀ k, k < 0 → parseFieldDescriptor (TJ6 k).2.2.1 = some (tyJ6 k) := by decide +kernel
abbrev cJ6_bitCount_0f7a4 : ByteArray := prog_15_method_49_code
def yJ6_bitCount_0f7a4 : MethodName := ⟨RJ6, "bitCount", "(I)I"⟩
def RJxab1ab : String := "java/lang/Iterable"
def TJxab1ab : u_T := fun k => match k with
  | _ => ("", "", "", false)
def tyJxab1ab : Nat → FieldType := fun k => match k with
  | _ => .int
abbrev wsJxab1ab0 : List Cond := u_ws RJxab1ab TJxab1ab 0
theorem nmJxab1ab : ∀ a, a < 0 → ∀ b, b < 0 → a ≠ b → (TJxab1ab a).2.1 ≠ (TJxab1ab b).2.1 := by decide +kernel
theorem tyJxab1ab_ok : ∀ k, k < 0 → parseFieldDescriptor (TJxab1ab k).2.2.1 = some (tyJxab1ab k) := by decide +kernel
def RJ9 : String := "java/lang/Math"
def TJ9 : u_T := fun k => match k with
  | _ => ("", "", "", false)
def tyJ9 : Nat → FieldType := fun k => match k with
  | _ => .int
abbrev wsJ90 : List Cond := u_ws RJ9 TJ9 0
theorem nmJ9 : ∀ a, a < 0 → ∀ b, b < 0 → a ≠ b → (TJ9 a).2.1 ≠ (TJ9 b).2.1 := by decide +kernel
theorem tyJ9_ok : ∀ k, k < 0 → parseFieldDescriptor (TJ9 k).2.2.1 = some (tyJ9 k) := by decide +kernel
abbrev cJ9_max_7cf53 : ByteArray := prog_17_method_65_code
def yJ9_max_7cf53 : MethodName := ⟨RJ9, "max", "(II)I"⟩
abbrev cJ9_min_7cf53 : ByteArray := prog_17_method_69_code
def yJ9_min_7cf53 : MethodName := ⟨RJ9, "min", "(II)I"⟩
def RJ0 : String := "java/lang/String"
def TJ0 : u_T := fun k => match k with
  | _ => ("", "", "", false)
def tyJ0 : Nat → FieldType := fun k => match k with
  | _ => .int
abbrev wsJ00 : List Cond := u_ws RJ0 TJ0 0
theorem nmJ0 : ∀ a, a < 0 → ∀ b, b < 0 → a ≠ b → (TJ0 a).2.1 ≠ (TJ0 b).2.1 := by decide +kernel
theorem tyJ0_ok : ∀ k, k < 0 → parseFieldDescriptor (TJ0 k).2.2.1 = some (tyJ0 k) := by decide +kernel
def RJ10 : String := "java/lang/System"
def TJ10 : u_T := fun k => match k with
  | _ => ("", "", "", false)
def tyJ10 : Nat → FieldType := fun k => match k with
  | _ => .int
abbrev wsJ100 : List Cond := u_ws RJ10 TJ10 0
theorem nmJ10 : ∀ a, a < 0 → ∀ b, b < 0 → a ≠ b → (TJ10 a).2.1 ≠ (TJ10 b).2.1 := by decide +kernel
theorem tyJ10_ok : ∀ k, k < 0 → parseFieldDescriptor (TJ10 k).2.2.1 = some (tyJ10 k) := by decide +kernel
def RJxa1e45 : String := "java/util/AbstractCollection"
def TJxa1e45 : u_T := fun k => match k with
  | _ => ("", "", "", false)
def tyJxa1e45 : Nat → FieldType := fun k => match k with
  | _ => .int
abbrev wsJxa1e450 : List Cond := u_ws RJxa1e45 TJxa1e45 0
theorem nmJxa1e45 : ∀ a, a < 0 → ∀ b, b < 0 → a ≠ b → (TJxa1e45 a).2.1 ≠ (TJxa1e45 b).2.1 := by decide +kernel
theorem tyJxa1e45_ok : ∀ k, k < 0 → parseFieldDescriptor (TJxa1e45 k).2.2.1 = some (tyJxa1e45 k) := by decide +kernel
abbrev cJxa1e45_init_da8c8 : ByteArray := prog_22_method_1_code
def yJxa1e45_init_da8c8 : MethodName := ⟨RJxa1e45, "<init>", "()V"⟩
def RJxc12de : String := "java/util/AbstractList"
def TJxc12de : u_T := fun k => match k with
  | _ => ("", "", "", false)
def tyJxc12de : Nat → FieldType := fun k => match k with
  | _ => .int
abbrev wsJxc12de0 : List Cond := u_ws RJxc12de TJxc12de 0
theorem nmJxc12de : ∀ a, a < 0 → ∀ b, b < 0 → a ≠ b → (TJxc12de a).2.1 ≠ (TJxc12de b).2.1 := by decide +kernel
theorem tyJxc12de_ok : ∀ k, k < 0 → parseFieldDescriptor (TJxc12de k).2.2.1 = some (tyJxc12de k) := by decide +kernel
abbrev cJxc12de_init_da8c8 : ByteArray := prog_23_method_1_code
def yJxc12de_init_da8c8 : MethodName := ⟨RJxc12de, "<init>", "()V"⟩
def RJx4a65c : String := "java/util/ArrayList"
def TJx4a65c : u_T := fun k => match k with
  | 0 => ("java/util/AbstractList", "modCount", "I", false)
  | 1 => ("java/util/ArrayList", "elementData", "[Ljava/lang/Object;", false)
  | _ => ("java/util/ArrayList", "size", "I", false)
def tyJx4a65c : Nat → FieldType := fun k => match k with
  | 0 => .int
  | 1 => .array (.object "java/lang/Object")
  | _ => .int
abbrev wsJx4a65c0 : List Cond := u_ws RJx4a65c TJx4a65c 3
theorem nmJx4a65c : ∀ a, a < 3 → ∀ b, b < 3 → a ≠ b → (TJx4a65c a).2.1 ≠ (TJx4a65c b).2.1 := by decide +kernel
theorem tyJx4a65c_ok : ∀ k, k < 3 → parseFieldDescriptor (TJx4a65c k).2.2.1 = some (tyJx4a65c k) := by decide +kernel
abbrev cJx4a65c_init_da8c8 : ByteArray := prog_24_method_2_code
def yJx4a65c_init_da8c8 : MethodName := ⟨RJx4a65c, "<init>", "()V"⟩
abbrev cJx4a65c_grow_92f84 : ByteArray := prog_24_method_6_code
def yJx4a65c_grow_92f84 : MethodName := ⟨RJx4a65c, "grow", "(I)[Ljava/lang/Object;"⟩
abbrev cJx4a65c_grow_d5877 : ByteArray := prog_24_method_7_code
def yJx4a65c_grow_d5877 : MethodName := ⟨RJx4a65c, "grow", "()[Ljava/lang/Object;"⟩
abbrev cJx4a65c_size_8abf5 : ByteArray := prog_24_method_8_code
def yJx4a65c_size_8abf5 : MethodName := ⟨RJx4a65c, "size", "()I"⟩
abbrev cJx4a65c_isEmpty_aae02 : ByteArray := prog_24_method_9_code
def yJx4a65c_isEmpty_aae02 : MethodName := ⟨RJx4a65c, "isEmpty", "()Z"⟩
abbrev cJx4a65c_elementData_915e3 : ByteArray := prog_24_method_18_code
def yJx4a65c_elementData_915e3 : MethodName := ⟨RJx4a65c, "elementData", "(I)Ljava/lang/Object;"⟩
abbrev cJx4a65c_get_915e3 : ByteArray := prog_24_method_20_code
def yJx4a65c_get_915e3 : MethodName := ⟨RJx4a65c, "get", "(I)Ljava/lang/Object;"⟩
abbrev cJx4a65c_add_72be8 : ByteArray := prog_24_method_24_code
def yJx4a65c_add_72be8 : MethodName := ⟨RJx4a65c, "add", "(Ljava/lang/Object;[Ljava/lang/Object;I)V"⟩
abbrev cJx4a65c_add_9ea2d : ByteArray := prog_24_method_25_code
def yJx4a65c_add_9ea2d : MethodName := ⟨RJx4a65c, "add", "(Ljava/lang/Object;)Z"⟩
abbrev cJx4a65c_remove_915e3 : ByteArray := prog_24_method_29_code
def yJx4a65c_remove_915e3 : MethodName := ⟨RJx4a65c, "remove", "(I)Ljava/lang/Object;"⟩
abbrev cJx4a65c_fastRemove_b59b0 : ByteArray := prog_24_method_39_code
def yJx4a65c_fastRemove_b59b0 : MethodName := ⟨RJx4a65c, "fastRemove", "([Ljava/lang/Object;I)V"⟩
def RJ7 : String := "java/util/Arrays"
def TJ7 : u_T := fun k => match k with
  | _ => ("", "", "", false)
def tyJ7 : Nat → FieldType := fun k => match k with
  | _ => .int
abbrev wsJ70 : List Cond := u_ws RJ7 TJ7 0
theorem nmJ7 : ∀ a, a < 0 → ∀ b, b < 0 → a ≠ b → (TJ7 a).2.1 ≠ (TJ7 b).2.1 := by decide +kernel
theorem tyJ7_ok : ∀ k, k < 0 → parseFieldDescriptor (TJ7 k).2.2.1 = some (tyJ7 k) := by decide +kernel
abbrev cJ7_copyOf_1904c : ByteArray := prog_25_method_119_code
def yJ7_copyOf_1904c : MethodName := ⟨RJ7, "copyOf", "([Ljava/lang/Object;I)[Ljava/lang/Object;"⟩
abbrev cJ7_copyOf_6403c : ByteArray := prog_25_method_120_code
def yJ7_copyOf_6403c : MethodName := ⟨RJ7, "copyOf", "([Ljava/lang/Object;ILjava/lang/Class;)[Ljava/lang/Object;"⟩
def RJx5ef63 : String := "java/util/Collection"
def TJx5ef63 : u_T := fun k => match k with
  | _ => ("", "", "", false)
def tyJx5ef63 : Nat → FieldType := fun k => match k with
  | _ => .int
abbrev wsJx5ef630 : List Cond := u_ws RJx5ef63 TJx5ef63 0
theorem nmJx5ef63 : ∀ a, a < 0 → ∀ b, b < 0 → a ≠ b → (TJx5ef63 a).2.1 ≠ (TJx5ef63 b).2.1 := by decide +kernel
theorem tyJx5ef63_ok : ∀ k, k < 0 → parseFieldDescriptor (TJx5ef63 k).2.2.1 = some (tyJx5ef63 k) := by decide +kernel
def RJxbd725 : String := "java/util/List"
def TJxbd725 : u_T := fun k => match k with
  | _ => ("", "", "", false)
def tyJxbd725 : Nat → FieldType := fun k => match k with
  | _ => .int
abbrev wsJxbd7250 : List Cond := u_ws RJxbd725 TJxbd725 0
theorem nmJxbd725 : ∀ a, a < 0 → ∀ b, b < 0 → a ≠ b → (TJxbd725 a).2.1 ≠ (TJxbd725 b).2.1 := by decide +kernel
theorem tyJxbd725_ok : ∀ k, k < 0 → parseFieldDescriptor (TJxbd725 k).2.2.1 = some (tyJxbd725 k) := by decide +kernel
def RJ15 : String := "java/util/Objects"
def TJ15 : u_T := fun k => match k with
  | _ => ("", "", "", false)
def tyJ15 : Nat → FieldType := fun k => match k with
  | _ => .int
abbrev wsJ150 : List Cond := u_ws RJ15 TJ15 0
theorem nmJ15 : ∀ a, a < 0 → ∀ b, b < 0 → a ≠ b → (TJ15 a).2.1 ≠ (TJ15 b).2.1 := by decide +kernel
theorem tyJ15_ok : ∀ k, k < 0 → parseFieldDescriptor (TJ15 k).2.2.1 = some (tyJ15 k) := by decide +kernel
abbrev cJ15_checkIndex_7cf53 : ByteArray := prog_29_method_17_code
def yJ15_checkIndex_7cf53 : MethodName := ⟨RJ15, "checkIndex", "(II)I"⟩
def RJxf0a74 : String := "java/util/RandomAccess"
def TJxf0a74 : u_T := fun k => match k with
  | _ => ("", "", "", false)
def tyJxf0a74 : Nat → FieldType := fun k => match k with
  | _ => .int
abbrev wsJxf0a740 : List Cond := u_ws RJxf0a74 TJxf0a74 0
theorem nmJxf0a74 : ∀ a, a < 0 → ∀ b, b < 0 → a ≠ b → (TJxf0a74 a).2.1 ≠ (TJxf0a74 b).2.1 := by decide +kernel
theorem tyJxf0a74_ok : ∀ k, k < 0 → parseFieldDescriptor (TJxf0a74 k).2.2.1 = some (tyJxf0a74 k) := by decide +kernel
def RJxa66e6 : String := "java/util/SequencedCollection"
def TJxa66e6 : u_T := fun k => match k with
  | _ => ("", "", "", false)
def tyJxa66e6 : Nat → FieldType := fun k => match k with
  | _ => .int
abbrev wsJxa66e60 : List Cond := u_ws RJxa66e6 TJxa66e6 0
theorem nmJxa66e6 : ∀ a, a < 0 → ∀ b, b < 0 → a ≠ b → (TJxa66e6 a).2.1 ≠ (TJxa66e6 b).2.1 := by decide +kernel
theorem tyJxa66e6_ok : ∀ k, k < 0 → parseFieldDescriptor (TJxa66e6 k).2.2.1 = some (tyJxa66e6 k) := by decide +kernel
def RJ8 : String := "jdk/internal/util/ArraysSupport"
def TJ8 : u_T := fun k => match k with
  | _ => ("", "", "", false)
def tyJ8 : Nat → FieldType := fun k => match k with
  | _ => .int
abbrev wsJ80 : List Cond := u_ws RJ8 TJ8 0
theorem nmJ8 : ∀ a, a < 0 → ∀ b, b < 0 → a ≠ b → (TJ8 a).2.1 ≠ (TJ8 b).2.1 := by decide +kernel
theorem tyJ8_ok : ∀ k, k < 0 → parseFieldDescriptor (TJ8 k).2.2.1 = some (tyJ8 k) := by decide +kernel
abbrev cJ8_newLength_cabcc : ByteArray := prog_32_method_27_code
def yJ8_newLength_cabcc : MethodName := ⟨RJ8, "newLength", "(III)I"⟩
abbrev cJ8_hugeLength_7cf53 : ByteArray := prog_32_method_28_code
def yJ8_hugeLength_7cf53 : MethodName := ⟨RJ8, "hugeLength", "(II)I"⟩
def RJ3 : String := "jdk/internal/util/Preconditions"
def TJ3 : u_T := fun k => match k with
  | _ => ("", "", "", false)
def tyJ3 : Nat → FieldType := fun k => match k with
  | _ => .int
abbrev wsJ30 : List Cond := u_ws RJ3 TJ3 0
theorem nmJ3 : ∀ a, a < 0 → ∀ b, b < 0 → a ≠ b → (TJ3 a).2.1 ≠ (TJ3 b).2.1 := by decide +kernel
theorem tyJ3_ok : ∀ k, k < 0 → parseFieldDescriptor (TJ3 k).2.2.1 = some (tyJ3 k) := by decide +kernel
abbrev cJ3_checkIndex_8e157 : ByteArray := prog_33_method_11_code
def yJ3_checkIndex_8e157 : MethodName := ⟨RJ3, "checkIndex", "(IILjava/util/function/BiFunction;)I"⟩
def RL : String := "CacheDirectoryLaw"
abbrev cL_setRoom : ByteArray := method_3_code
def yL_setRoom : MethodName := ⟨RL, "setRoom", "(LCacheDirectory;III[J)I"⟩
abbrev cL_read : ByteArray := method_4_code
def yL_read : MethodName := ⟨RL, "read", "(LCacheDirectory;II[J)I"⟩
abbrev cL_write : ByteArray := method_5_code
def yL_write : MethodName := ⟨RL, "write", "(LCacheDirectory;III[J)I"⟩
abbrev cL_evict : ByteArray := method_6_code
def yL_evict : MethodName := ⟨RL, "evict", "(LCacheDirectory;II[J)I"⟩
abbrev cL_state : ByteArray := method_7_code
def yL_state : MethodName := ⟨RL, "state", "(LCacheDirectory;II[J)I"⟩
abbrev cL_value : ByteArray := method_8_code
def yL_value : MethodName := ⟨RL, "value", "(LCacheDirectory;II[J)I"⟩
abbrev cL_victimValue : ByteArray := method_9_code
def yL_victimValue : MethodName := ⟨RL, "victimValue", "(LCacheDirectory;II[J)I"⟩
abbrev cL_openLine : ByteArray := method_10_code
def yL_openLine : MethodName := ⟨RL, "openLine", "(LCacheDirectory;I[J)I"⟩
abbrev cL_latestRead : ByteArray := method_11_code
def yL_latestRead : MethodName := ⟨RL, "latestRead", "(LCacheDirectory;I[J)I"⟩
abbrev cL_lineAt : ByteArray := method_12_code
def yL_lineAt : MethodName := ⟨RL, "lineAt", "(LCacheDirectory;II[J)I"⟩
abbrev cL_owner : ByteArray := method_13_code
def yL_owner : MethodName := ⟨RL, "owner", "(LCacheDirectory;I[J)I"⟩
abbrev cL_sharers : ByteArray := method_14_code
def yL_sharers : MethodName := ⟨RL, "sharers", "(LCacheDirectory;I[J)I"⟩
abbrev cL_isBusy : ByteArray := method_15_code
def yL_isBusy : MethodName := ⟨RL, "isBusy", "(LCacheDirectory;I[J)I"⟩
abbrev cL_queued : ByteArray := method_16_code
def yL_queued : MethodName := ⟨RL, "queued", "(LCacheDirectory;I[J)I"⟩
abbrev cL_memory : ByteArray := method_17_code
def yL_memory : MethodName := ⟨RL, "memory", "(LCacheDirectory;I[J)I"⟩
abbrev cL_messageKind : ByteArray := method_18_code
def yL_messageKind : MethodName := ⟨RL, "messageKind", "(LCacheDirectory;I[J)I"⟩
abbrev cL_messageLine : ByteArray := method_19_code
def yL_messageLine : MethodName := ⟨RL, "messageLine", "(LCacheDirectory;I[J)I"⟩
abbrev cL_messageFrom : ByteArray := method_20_code
def yL_messageFrom : MethodName := ⟨RL, "messageFrom", "(LCacheDirectory;I[J)I"⟩
abbrev cL_messageTo : ByteArray := method_21_code
def yL_messageTo : MethodName := ⟨RL, "messageTo", "(LCacheDirectory;I[J)I"⟩
abbrev cL_deliver : ByteArray := method_22_code
def yL_deliver : MethodName := ⟨RL, "deliver", "(LCacheDirectory;I[J)I"⟩
abbrev cL_settle : ByteArray := method_23_code
def yL_settle : MethodName := ⟨RL, "settle", "(LCacheDirectory;I[J)I"⟩
abbrev cL_hits : ByteArray := method_24_code
def yL_hits : MethodName := ⟨RL, "hits", "(LCacheDirectory;I[J)I"⟩
abbrev cL_misses : ByteArray := method_25_code
def yL_misses : MethodName := ⟨RL, "misses", "(LCacheDirectory;I[J)I"⟩
abbrev cL_isInOrder : ByteArray := method_26_code
def yL_isInOrder : MethodName := ⟨RL, "isInOrder", "(LCacheDirectory;I[J)I"⟩
abbrev cL_law : ByteArray := code
def yL_law : MethodName := ⟨RL, "law", "([I)Z"⟩
def wsX4_init : List Cond := .code yX4_init cX4_init 1 none :: ([.methodLink RX4 3 objectInit, .instanceMethod objectInit, .code objectInit ⟨#[0xb1]⟩ 1 none, .fieldLink RX4 9 "CacheDirectory$Request" "line" "I"] ++ wsX40)
def wsX0_init_r1 : List Cond := [Cond.methodLink RX0 3 objectInit, Cond.instanceMethod objectInit, Cond.code objectInit ⟨#[0xb1]⟩ 1 none, Cond.classLink RX0 9 RX4, Cond.instantiable RX4 7, Cond.initialized RX4, Cond.fieldLink RX0 12 "CacheDirectory$Cache" "request" "LCacheDirectory$Request;", Cond.arrayClass .int, Cond.fieldLink RX0 18 "CacheDirectory$Cache" "states" "[I", Cond.fieldLink RX0 22 "CacheDirectory$Cache" "values" "[I", Cond.fieldLink RX0 25 "CacheDirectory$Cache" "victimValues" "[I", Cond.fieldLink RX0 28 "CacheDirectory$Cache" "useOrder" "[I", Cond.fieldLink RX0 31 "CacheDirectory$Cache" "lineCount" "I", Cond.fieldLink RX0 35 "CacheDirectory$Cache" "victimCount" "I", Cond.fieldLink RX0 38 "CacheDirectory$Cache" "ways" "I", Cond.fieldLink RX0 41 "CacheDirectory$Cache" "victimRoom" "I", Cond.fieldLink RX0 44 "CacheDirectory$Cache" "latestResult" "I", Cond.fieldLink RX0 47 "CacheDirectory$Cache" "hitCount" "I", Cond.fieldLink RX0 50 "CacheDirectory$Cache" "missCount" "I", Cond.fieldLink RX0 53 "CacheDirectory$Cache" "number" "I", Cond.fieldLink RX0 56 "CacheDirectory$Cache" "network" "LCacheDirectory$Network;", Cond.instanceMethod yX4_init, Cond.code yX4_init cX4_init 1 none, Cond.methodLink RX4 3 objectInit]
def wsX0_init_r2 : List Cond := [Cond.fieldLink RX4 9 "CacheDirectory$Request" "line" "I"]
def wsX0_init : List Cond := .code yX0_init cX0_init 4 none :: ((wsX0_init_r1 ++ wsX0_init_r2) ++ wsX40 ++ wsX00)
def wsX0_isInUse : List Cond := .code yX0_isInUse cX0_isInUse 1 (some .boolean) :: ([.fieldLink RX0 31 "CacheDirectory$Cache" "lineCount" "I", .fieldLink RX0 35 "CacheDirectory$Cache" "victimCount" "I", .fieldLink RX0 12 "CacheDirectory$Cache" "request" "LCacheDirectory$Request;", .fieldLink RX0 60 "CacheDirectory$Request" "line" "I"] ++ wsX00 ++ wsX40)
def wsX0_holds : List Cond := .code yX0_holds cX0_holds 2 (some .boolean) :: ([.fieldLink RX0 18 "CacheDirectory$Cache" "states" "[I"] ++ wsX00)
def wsX0_needsWayFor : List Cond := .code yX0_needsWayFor cX0_needsWayFor 2 (some .boolean) :: ([.fieldLink RX0 31 "CacheDirectory$Cache" "lineCount" "I", .fieldLink RX0 38 "CacheDirectory$Cache" "ways" "I", .methodLink RX0 63 yX0_holds, .instanceMethod yX0_holds, .selects RX0 yX0_holds yX0_holds, .initialized RX0, .code yX0_holds cX0_holds 2 (some .boolean), .fieldLink RX0 18 "CacheDirectory$Cache" "states" "[I"] ++ wsX00)
def wsX0_lacksVictimRoomFor : List Cond := .code yX0_lacksVictimRoomFor cX0_lacksVictimRoomFor 2 (some .boolean) :: ([.fieldLink RX0 18 "CacheDirectory$Cache" "states" "[I", .fieldLink RX0 35 "CacheDirectory$Cache" "victimCount" "I", .fieldLink RX0 41 "CacheDirectory$Cache" "victimRoom" "I"] ++ wsX00)
def wsX2_init : List Cond := .code yX2_init cX2_init 5 none :: ([.methodLink RX2 3 objectInit, .instanceMethod objectInit, .code objectInit ⟨#[0xb1]⟩ 1 none, .fieldLink RX2 9 "CacheDirectory$Message" "carried" "I", .fieldLink RX2 15 "CacheDirectory$Message" "count" "I", .fieldLink RX2 18 "CacheDirectory$Message" "requester" "I", .fieldLink RX2 21 "CacheDirectory$Message" "kind" "I", .fieldLink RX2 24 "CacheDirectory$Message" "line" "I", .fieldLink RX2 27 "CacheDirectory$Message" "sender" "I", .fieldLink RX2 30 "CacheDirectory$Message" "receiver" "I"] ++ wsX20)
def wsJ8_hugeLength_7cf53 : List Cond := .code yJ8_hugeLength_7cf53 cJ8_hugeLength_7cf53 3 (some .int) :: ([.constant RJ8 200 (2147483639)])
def wsJ8_newLength_cabcc : List Cond := .code yJ8_newLength_cabcc cJ8_newLength_cabcc 4 (some .int) :: ([.methodLink RJ8 194 Lib.Math.max.name, .static Lib.Math.max.name, .initialized "java/lang/Math", .code Lib.Math.max.name Lib.Math.max.code 2 (some .int), .constant RJ8 200 (2147483639), .methodLink RJ8 201 yJ8_hugeLength_7cf53, .static yJ8_hugeLength_7cf53, .initialized RJ8, .code yJ8_hugeLength_7cf53 cJ8_hugeLength_7cf53 3 (some .int)])
def wsJ7_copyOf_6403c : List Cond := .code yJ7_copyOf_6403c cJ7_copyOf_6403c 4 (some (.array (.object "java/lang/Object"))) :: ([.classLink RJ7 110 "[Ljava/lang/Object;", .classLink RJ7 2 "java/lang/Object", .methodLink RJ7 304 Lib.Math.min.name, .static Lib.Math.min.name, .initialized "java/lang/Math", .code Lib.Math.min.name Lib.Math.min.code 2 (some .int), .methodLink RJ7 150 arraycopyName, .native arraycopyName, .static arraycopyName, .initialized "java/lang/System"])
def wsJ7_copyOf_1904c : List Cond := .code yJ7_copyOf_1904c cJ7_copyOf_1904c 2 (some (.array (.object "java/lang/Object"))) :: ([.methodLink RJ7 86 ⟨"java/lang/Object", "getClass", "()Ljava/lang/Class;"⟩, .selects "[Ljava/lang/Object;" ⟨"java/lang/Object", "getClass", "()Ljava/lang/Class;"⟩ ⟨"java/lang/Object", "getClass", "()Ljava/lang/Class;"⟩, .instanceMethod ⟨"java/lang/Object", "getClass", "()Ljava/lang/Class;"⟩, .native ⟨"java/lang/Object", "getClass", "()Ljava/lang/Class;"⟩, .methodLink RJ7 300 yJ7_copyOf_6403c, .static yJ7_copyOf_6403c, .initialized RJ7, .code yJ7_copyOf_6403c cJ7_copyOf_6403c 4 (some (.array (.object "java/lang/Object"))), .classLink RJ7 110 "[Ljava/lang/Object;", .classLink RJ7 2 "java/lang/Object", .methodLink RJ7 304 Lib.Math.min.name, .static Lib.Math.min.name, .initialized "java/lang/Math", .code Lib.Math.min.name Lib.Math.min.code 2 (some .int), .methodLink RJ7 150 arraycopyName, .native arraycopyName, .static arraycopyName, .initialized "java/lang/System"])
def wsJx4a65c_grow_92f84_r1 : List Cond := [Cond.fieldLink RJx4a65c 9 "java/util/ArrayList" "elementData" "[Ljava/lang/Object;", Cond.fieldLink RJx4a65c 39 "java/util/ArrayList" "DEFAULTCAPACITY_EMPTY_ELEMENTDATA" "[Ljava/lang/Object;", Cond.methodLink RJx4a65c 79 Lib.Math.max.name, Cond.static Lib.Math.max.name, Cond.initialized "java/lang/Math", Cond.code Lib.Math.max.name Lib.Math.max.code 2 (some .int), Cond.classLink RJx4a65c 7 "java/lang/Object", Cond.methodLink RJx4a65c 73 yJ8_newLength_cabcc, Cond.static yJ8_newLength_cabcc, Cond.initialized RJ8, Cond.code yJ8_newLength_cabcc cJ8_newLength_cabcc 4 (some .int), Cond.methodLink RJ8 194 Lib.Math.max.name, Cond.constant RJ8 200 (2147483639), Cond.methodLink RJ8 201 yJ8_hugeLength_7cf53, Cond.static yJ8_hugeLength_7cf53, Cond.code yJ8_hugeLength_7cf53 cJ8_hugeLength_7cf53 3 (some .int), Cond.methodLink RJx4a65c 66 yJ7_copyOf_1904c, Cond.static yJ7_copyOf_1904c, Cond.initialized RJ7, Cond.code yJ7_copyOf_1904c cJ7_copyOf_1904c 2 (some (.array (.object "java/lang/Object"))), Cond.methodLink RJ7 86 ⟨"java/lang/Object", "getClass", "()Ljava/lang/Class;"⟩, Cond.selects "[Ljava/lang/Object;" ⟨"java/lang/Object", "getClass", "()Ljava/lang/Class;"⟩ ⟨"java/lang/Object", "getClass", "()Ljava/lang/Class;"⟩, Cond.instanceMethod ⟨"java/lang/Object", "getClass", "()Ljava/lang/Class;"⟩, Cond.native ⟨"java/lang/Object", "getClass", "()Ljava/lang/Class;"⟩]
def wsJx4a65c_grow_92f84_r2 : List Cond := [Cond.methodLink RJ7 300 yJ7_copyOf_6403c, Cond.static yJ7_copyOf_6403c, Cond.code yJ7_copyOf_6403c cJ7_copyOf_6403c 4 (some (.array (.object "java/lang/Object"))), Cond.classLink RJ7 110 "[Ljava/lang/Object;", Cond.classLink RJ7 2 "java/lang/Object", Cond.methodLink RJ7 304 Lib.Math.min.name, Cond.static Lib.Math.min.name, Cond.code Lib.Math.min.name Lib.Math.min.code 2 (some .int), Cond.methodLink RJ7 150 arraycopyName, Cond.native arraycopyName, Cond.static arraycopyName, Cond.initialized "java/lang/System"]
def wsJx4a65c_grow_92f84 : List Cond := .code yJx4a65c_grow_92f84 cJx4a65c_grow_92f84 4 (some (.array (.object "java/lang/Object"))) :: ((wsJx4a65c_grow_92f84_r1 ++ wsJx4a65c_grow_92f84_r2) ++ wsJx4a65c0)
def wsJx4a65c_grow_d5877_r1 : List Cond := [Cond.fieldLink RJx4a65c 48 "java/util/ArrayList" "size" "I", Cond.methodLink RJx4a65c 69 yJx4a65c_grow_92f84, Cond.instanceMethod yJx4a65c_grow_92f84, Cond.selects RJx4a65c yJx4a65c_grow_92f84 yJx4a65c_grow_92f84, Cond.initialized RJx4a65c, Cond.code yJx4a65c_grow_92f84 cJx4a65c_grow_92f84 4 (some (.array (.object "java/lang/Object"))), Cond.fieldLink RJx4a65c 9 "java/util/ArrayList" "elementData" "[Ljava/lang/Object;", Cond.fieldLink RJx4a65c 39 "java/util/ArrayList" "DEFAULTCAPACITY_EMPTY_ELEMENTDATA" "[Ljava/lang/Object;", Cond.methodLink RJx4a65c 79 Lib.Math.max.name, Cond.static Lib.Math.max.name, Cond.initialized "java/lang/Math", Cond.code Lib.Math.max.name Lib.Math.max.code 2 (some .int), Cond.classLink RJx4a65c 7 "java/lang/Object", Cond.methodLink RJx4a65c 73 yJ8_newLength_cabcc, Cond.static yJ8_newLength_cabcc, Cond.initialized RJ8, Cond.code yJ8_newLength_cabcc cJ8_newLength_cabcc 4 (some .int), Cond.methodLink RJ8 194 Lib.Math.max.name, Cond.constant RJ8 200 (2147483639), Cond.methodLink RJ8 201 yJ8_hugeLength_7cf53, Cond.static yJ8_hugeLength_7cf53, Cond.code yJ8_hugeLength_7cf53 cJ8_hugeLength_7cf53 3 (some .int), Cond.methodLink RJx4a65c 66 yJ7_copyOf_1904c, Cond.static yJ7_copyOf_1904c]
def wsJx4a65c_grow_d5877_r2 : List Cond := [Cond.initialized RJ7, Cond.code yJ7_copyOf_1904c cJ7_copyOf_1904c 2 (some (.array (.object "java/lang/Object"))), Cond.methodLink RJ7 86 ⟨"java/lang/Object", "getClass", "()Ljava/lang/Class;"⟩, Cond.selects "[Ljava/lang/Object;" ⟨"java/lang/Object", "getClass", "()Ljava/lang/Class;"⟩ ⟨"java/lang/Object", "getClass", "()Ljava/lang/Class;"⟩, Cond.instanceMethod ⟨"java/lang/Object", "getClass", "()Ljava/lang/Class;"⟩, Cond.native ⟨"java/lang/Object", "getClass", "()Ljava/lang/Class;"⟩, Cond.methodLink RJ7 300 yJ7_copyOf_6403c, Cond.static yJ7_copyOf_6403c, Cond.code yJ7_copyOf_6403c cJ7_copyOf_6403c 4 (some (.array (.object "java/lang/Object"))), Cond.classLink RJ7 110 "[Ljava/lang/Object;", Cond.classLink RJ7 2 "java/lang/Object", Cond.methodLink RJ7 304 Lib.Math.min.name, Cond.static Lib.Math.min.name, Cond.code Lib.Math.min.name Lib.Math.min.code 2 (some .int), Cond.methodLink RJ7 150 arraycopyName, Cond.native arraycopyName, Cond.static arraycopyName, Cond.initialized "java/lang/System"]
def wsJx4a65c_grow_d5877 : List Cond := .code yJx4a65c_grow_d5877 cJx4a65c_grow_d5877 1 (some (.array (.object "java/lang/Object"))) :: ((wsJx4a65c_grow_d5877_r1 ++ wsJx4a65c_grow_d5877_r2) ++ wsJx4a65c0)
def wsJx4a65c_add_72be8_r1 : List Cond := [Cond.fieldLink RJx4a65c 48 "java/util/ArrayList" "size" "I", Cond.methodLink RJx4a65c 129 yJx4a65c_grow_d5877, Cond.instanceMethod yJx4a65c_grow_d5877, Cond.selects RJx4a65c yJx4a65c_grow_d5877 yJx4a65c_grow_d5877, Cond.initialized RJx4a65c, Cond.code yJx4a65c_grow_d5877 cJx4a65c_grow_d5877 1 (some (.array (.object "java/lang/Object"))), Cond.methodLink RJx4a65c 69 yJx4a65c_grow_92f84, Cond.instanceMethod yJx4a65c_grow_92f84, Cond.selects RJx4a65c yJx4a65c_grow_92f84 yJx4a65c_grow_92f84, Cond.code yJx4a65c_grow_92f84 cJx4a65c_grow_92f84 4 (some (.array (.object "java/lang/Object"))), Cond.fieldLink RJx4a65c 9 "java/util/ArrayList" "elementData" "[Ljava/lang/Object;", Cond.fieldLink RJx4a65c 39 "java/util/ArrayList" "DEFAULTCAPACITY_EMPTY_ELEMENTDATA" "[Ljava/lang/Object;", Cond.methodLink RJx4a65c 79 Lib.Math.max.name, Cond.static Lib.Math.max.name, Cond.initialized "java/lang/Math", Cond.code Lib.Math.max.name Lib.Math.max.code 2 (some .int), Cond.classLink RJx4a65c 7 "java/lang/Object", Cond.methodLink RJx4a65c 73 yJ8_newLength_cabcc, Cond.static yJ8_newLength_cabcc, Cond.initialized RJ8, Cond.code yJ8_newLength_cabcc cJ8_newLength_cabcc 4 (some .int), Cond.methodLink RJ8 194 Lib.Math.max.name, Cond.constant RJ8 200 (2147483639), Cond.methodLink RJ8 201 yJ8_hugeLength_7cf53]
def wsJx4a65c_add_72be8_r2 : List Cond := [Cond.static yJ8_hugeLength_7cf53, Cond.code yJ8_hugeLength_7cf53 cJ8_hugeLength_7cf53 3 (some .int), Cond.methodLink RJx4a65c 66 yJ7_copyOf_1904c, Cond.static yJ7_copyOf_1904c, Cond.initialized RJ7, Cond.code yJ7_copyOf_1904c cJ7_copyOf_1904c 2 (some (.array (.object "java/lang/Object"))), Cond.methodLink RJ7 86 ⟨"java/lang/Object", "getClass", "()Ljava/lang/Class;"⟩, Cond.selects "[Ljava/lang/Object;" ⟨"java/lang/Object", "getClass", "()Ljava/lang/Class;"⟩ ⟨"java/lang/Object", "getClass", "()Ljava/lang/Class;"⟩, Cond.instanceMethod ⟨"java/lang/Object", "getClass", "()Ljava/lang/Class;"⟩, Cond.native ⟨"java/lang/Object", "getClass", "()Ljava/lang/Class;"⟩, Cond.methodLink RJ7 300 yJ7_copyOf_6403c, Cond.static yJ7_copyOf_6403c, Cond.code yJ7_copyOf_6403c cJ7_copyOf_6403c 4 (some (.array (.object "java/lang/Object"))), Cond.classLink RJ7 110 "[Ljava/lang/Object;", Cond.classLink RJ7 2 "java/lang/Object", Cond.methodLink RJ7 304 Lib.Math.min.name, Cond.static Lib.Math.min.name, Cond.code Lib.Math.min.name Lib.Math.min.code 2 (some .int), Cond.methodLink RJ7 150 arraycopyName, Cond.native arraycopyName, Cond.static arraycopyName, Cond.initialized "java/lang/System"]
def wsJx4a65c_add_72be8 : List Cond := .code yJx4a65c_add_72be8 cJx4a65c_add_72be8 4 none :: ((wsJx4a65c_add_72be8_r1 ++ wsJx4a65c_add_72be8_r2) ++ wsJx4a65c0)
def wsJx4a65c_add_9ea2d_r1 : List Cond := [Cond.fieldLink RJx4a65c 63 "java/util/ArrayList" "modCount" "I", Cond.sameField "java/util/ArrayList" "java/util/AbstractList" "modCount" "I", Cond.fieldLink RJx4a65c 9 "java/util/ArrayList" "elementData" "[Ljava/lang/Object;", Cond.fieldLink RJx4a65c 48 "java/util/ArrayList" "size" "I", Cond.methodLink RJx4a65c 131 yJx4a65c_add_72be8, Cond.instanceMethod yJx4a65c_add_72be8, Cond.selects RJx4a65c yJx4a65c_add_72be8 yJx4a65c_add_72be8, Cond.initialized RJx4a65c, Cond.code yJx4a65c_add_72be8 cJx4a65c_add_72be8 4 none, Cond.methodLink RJx4a65c 129 yJx4a65c_grow_d5877, Cond.instanceMethod yJx4a65c_grow_d5877, Cond.selects RJx4a65c yJx4a65c_grow_d5877 yJx4a65c_grow_d5877, Cond.code yJx4a65c_grow_d5877 cJx4a65c_grow_d5877 1 (some (.array (.object "java/lang/Object"))), Cond.methodLink RJx4a65c 69 yJx4a65c_grow_92f84, Cond.instanceMethod yJx4a65c_grow_92f84, Cond.selects RJx4a65c yJx4a65c_grow_92f84 yJx4a65c_grow_92f84, Cond.code yJx4a65c_grow_92f84 cJx4a65c_grow_92f84 4 (some (.array (.object "java/lang/Object"))), Cond.fieldLink RJx4a65c 39 "java/util/ArrayList" "DEFAULTCAPACITY_EMPTY_ELEMENTDATA" "[Ljava/lang/Object;", Cond.methodLink RJx4a65c 79 Lib.Math.max.name, Cond.static Lib.Math.max.name, Cond.initialized "java/lang/Math", Cond.code Lib.Math.max.name Lib.Math.max.code 2 (some .int), Cond.classLink RJx4a65c 7 "java/lang/Object", Cond.methodLink RJx4a65c 73 yJ8_newLength_cabcc]
def wsJx4a65c_add_9ea2d_r2 : List Cond := [Cond.static yJ8_newLength_cabcc, Cond.initialized RJ8, Cond.code yJ8_newLength_cabcc cJ8_newLength_cabcc 4 (some .int), Cond.methodLink RJ8 194 Lib.Math.max.name, Cond.constant RJ8 200 (2147483639), Cond.methodLink RJ8 201 yJ8_hugeLength_7cf53, Cond.static yJ8_hugeLength_7cf53, Cond.code yJ8_hugeLength_7cf53 cJ8_hugeLength_7cf53 3 (some .int), Cond.methodLink RJx4a65c 66 yJ7_copyOf_1904c, Cond.static yJ7_copyOf_1904c, Cond.initialized RJ7, Cond.code yJ7_copyOf_1904c cJ7_copyOf_1904c 2 (some (.array (.object "java/lang/Object"))), Cond.methodLink RJ7 86 ⟨"java/lang/Object", "getClass", "()Ljava/lang/Class;"⟩, Cond.selects "[Ljava/lang/Object;" ⟨"java/lang/Object", "getClass", "()Ljava/lang/Class;"⟩ ⟨"java/lang/Object", "getClass", "()Ljava/lang/Class;"⟩, Cond.instanceMethod ⟨"java/lang/Object", "getClass", "()Ljava/lang/Class;"⟩, Cond.native ⟨"java/lang/Object", "getClass", "()Ljava/lang/Class;"⟩, Cond.methodLink RJ7 300 yJ7_copyOf_6403c, Cond.static yJ7_copyOf_6403c, Cond.code yJ7_copyOf_6403c cJ7_copyOf_6403c 4 (some (.array (.object "java/lang/Object"))), Cond.classLink RJ7 110 "[Ljava/lang/Object;", Cond.classLink RJ7 2 "java/lang/Object", Cond.methodLink RJ7 304 Lib.Math.min.name, Cond.static Lib.Math.min.name, Cond.code Lib.Math.min.name Lib.Math.min.code 2 (some .int)]
def wsJx4a65c_add_9ea2d_r3 : List Cond := [Cond.methodLink RJ7 150 arraycopyName, Cond.native arraycopyName, Cond.static arraycopyName, Cond.initialized "java/lang/System"]
def wsJx4a65c_add_9ea2d : List Cond := .code yJx4a65c_add_9ea2d cJx4a65c_add_9ea2d 2 (some .boolean) :: ((wsJx4a65c_add_9ea2d_r1 ++ (wsJx4a65c_add_9ea2d_r2 ++ wsJx4a65c_add_9ea2d_r3)) ++ wsJx4a65c0)
def wsX3_send_r1 : List Cond := [Cond.classLink RX3 16 RX2, Cond.instantiable RX2 7, Cond.initialized RX2, Cond.fieldLink RX3 10 "CacheDirectory$Network" "onTheWay" "Ljava/util/ArrayList;", Cond.methodLink RX3 18 yX2_init, Cond.instanceMethod yX2_init, Cond.code yX2_init cX2_init 5 none, Cond.methodLink RX2 3 objectInit, Cond.instanceMethod objectInit, Cond.code objectInit ⟨#[0xb1]⟩ 1 none, Cond.fieldLink RX2 9 "CacheDirectory$Message" "carried" "I", Cond.fieldLink RX2 15 "CacheDirectory$Message" "count" "I", Cond.fieldLink RX2 18 "CacheDirectory$Message" "requester" "I", Cond.fieldLink RX2 21 "CacheDirectory$Message" "kind" "I", Cond.fieldLink RX2 24 "CacheDirectory$Message" "line" "I", Cond.fieldLink RX2 27 "CacheDirectory$Message" "sender" "I", Cond.fieldLink RX2 30 "CacheDirectory$Message" "receiver" "I", Cond.methodLink RX3 21 yJx4a65c_add_9ea2d, Cond.instanceMethod yJx4a65c_add_9ea2d, Cond.selects RJx4a65c yJx4a65c_add_9ea2d yJx4a65c_add_9ea2d, Cond.initialized RJx4a65c, Cond.code yJx4a65c_add_9ea2d cJx4a65c_add_9ea2d 2 (some .boolean), Cond.fieldLink RJx4a65c 63 "java/util/ArrayList" "modCount" "I", Cond.sameField "java/util/ArrayList" "java/util/AbstractList" "modCount" "I"]
def wsX3_send_r2 : List Cond := [Cond.fieldLink RJx4a65c 9 "java/util/ArrayList" "elementData" "[Ljava/lang/Object;", Cond.fieldLink RJx4a65c 48 "java/util/ArrayList" "size" "I", Cond.methodLink RJx4a65c 131 yJx4a65c_add_72be8, Cond.instanceMethod yJx4a65c_add_72be8, Cond.selects RJx4a65c yJx4a65c_add_72be8 yJx4a65c_add_72be8, Cond.code yJx4a65c_add_72be8 cJx4a65c_add_72be8 4 none, Cond.methodLink RJx4a65c 129 yJx4a65c_grow_d5877, Cond.instanceMethod yJx4a65c_grow_d5877, Cond.selects RJx4a65c yJx4a65c_grow_d5877 yJx4a65c_grow_d5877, Cond.code yJx4a65c_grow_d5877 cJx4a65c_grow_d5877 1 (some (.array (.object "java/lang/Object"))), Cond.methodLink RJx4a65c 69 yJx4a65c_grow_92f84, Cond.instanceMethod yJx4a65c_grow_92f84, Cond.selects RJx4a65c yJx4a65c_grow_92f84 yJx4a65c_grow_92f84, Cond.code yJx4a65c_grow_92f84 cJx4a65c_grow_92f84 4 (some (.array (.object "java/lang/Object"))), Cond.fieldLink RJx4a65c 39 "java/util/ArrayList" "DEFAULTCAPACITY_EMPTY_ELEMENTDATA" "[Ljava/lang/Object;", Cond.methodLink RJx4a65c 79 Lib.Math.max.name, Cond.static Lib.Math.max.name, Cond.initialized "java/lang/Math", Cond.code Lib.Math.max.name Lib.Math.max.code 2 (some .int), Cond.classLink RJx4a65c 7 "java/lang/Object", Cond.methodLink RJx4a65c 73 yJ8_newLength_cabcc, Cond.static yJ8_newLength_cabcc, Cond.initialized RJ8, Cond.code yJ8_newLength_cabcc cJ8_newLength_cabcc 4 (some .int)]
def wsX3_send_r3 : List Cond := [Cond.methodLink RJ8 194 Lib.Math.max.name, Cond.constant RJ8 200 (2147483639), Cond.methodLink RJ8 201 yJ8_hugeLength_7cf53, Cond.static yJ8_hugeLength_7cf53, Cond.code yJ8_hugeLength_7cf53 cJ8_hugeLength_7cf53 3 (some .int), Cond.methodLink RJx4a65c 66 yJ7_copyOf_1904c, Cond.static yJ7_copyOf_1904c, Cond.initialized RJ7, Cond.code yJ7_copyOf_1904c cJ7_copyOf_1904c 2 (some (.array (.object "java/lang/Object"))), Cond.methodLink RJ7 86 ⟨"java/lang/Object", "getClass", "()Ljava/lang/Class;"⟩, Cond.selects "[Ljava/lang/Object;" ⟨"java/lang/Object", "getClass", "()Ljava/lang/Class;"⟩ ⟨"java/lang/Object", "getClass", "()Ljava/lang/Class;"⟩, Cond.instanceMethod ⟨"java/lang/Object", "getClass", "()Ljava/lang/Class;"⟩, Cond.native ⟨"java/lang/Object", "getClass", "()Ljava/lang/Class;"⟩, Cond.methodLink RJ7 300 yJ7_copyOf_6403c, Cond.static yJ7_copyOf_6403c, Cond.code yJ7_copyOf_6403c cJ7_copyOf_6403c 4 (some (.array (.object "java/lang/Object"))), Cond.classLink RJ7 110 "[Ljava/lang/Object;", Cond.classLink RJ7 2 "java/lang/Object", Cond.methodLink RJ7 304 Lib.Math.min.name, Cond.static Lib.Math.min.name, Cond.code Lib.Math.min.name Lib.Math.min.code 2 (some .int), Cond.methodLink RJ7 150 arraycopyName, Cond.native arraycopyName, Cond.static arraycopyName]
def wsX3_send_r4 : List Cond := [Cond.initialized "java/lang/System"]
def wsX3_send : List Cond := .code yX3_send cX3_send 6 (some (.object "CacheDirectory$Message")) :: ((wsX3_send_r1 ++ (wsX3_send_r2 ++ (wsX3_send_r3 ++ wsX3_send_r4))) ++ wsX20 ++ wsX30 ++ wsJx4a65c0)
def wsX0_leaveUseOrder : List Cond := .code yX0_leaveUseOrder cX0_leaveUseOrder 4 none :: ([.fieldLink RX0 31 "CacheDirectory$Cache" "lineCount" "I", .fieldLink RX0 28 "CacheDirectory$Cache" "useOrder" "[I"] ++ wsX00)
def wsX0_drop : List Cond := .code yX0_drop cX0_drop 2 none :: ([.fieldLink RX0 18 "CacheDirectory$Cache" "states" "[I", .fieldLink RX0 22 "CacheDirectory$Cache" "values" "[I", .methodLink RX0 139 yX0_leaveUseOrder, .instanceMethod yX0_leaveUseOrder, .selects RX0 yX0_leaveUseOrder yX0_leaveUseOrder, .initialized RX0, .code yX0_leaveUseOrder cX0_leaveUseOrder 4 none, .fieldLink RX0 31 "CacheDirectory$Cache" "lineCount" "I", .fieldLink RX0 28 "CacheDirectory$Cache" "useOrder" "[I"] ++ wsX00)
def wsX0_moveOut_r1 : List Cond := [Cond.fieldLink RX0 18 "CacheDirectory$Cache" "states" "[I", Cond.fieldLink RX0 25 "CacheDirectory$Cache" "victimValues" "[I", Cond.fieldLink RX0 22 "CacheDirectory$Cache" "values" "[I", Cond.fieldLink RX0 35 "CacheDirectory$Cache" "victimCount" "I", Cond.fieldLink RX0 56 "CacheDirectory$Cache" "network" "LCacheDirectory$Network;", Cond.fieldLink RX0 53 "CacheDirectory$Cache" "number" "I", Cond.fieldLink RX0 84 "CacheDirectory$Message" "carried" "I", Cond.methodLink RX0 78 yX3_send, Cond.instanceMethod yX3_send, Cond.selects RX3 yX3_send yX3_send, Cond.initialized RX3, Cond.code yX3_send cX3_send 6 (some (.object "CacheDirectory$Message")), Cond.classLink RX3 16 RX2, Cond.instantiable RX2 7, Cond.initialized RX2, Cond.fieldLink RX3 10 "CacheDirectory$Network" "onTheWay" "Ljava/util/ArrayList;", Cond.methodLink RX3 18 yX2_init, Cond.instanceMethod yX2_init, Cond.code yX2_init cX2_init 5 none, Cond.methodLink RX2 3 objectInit, Cond.instanceMethod objectInit, Cond.code objectInit ⟨#[0xb1]⟩ 1 none, Cond.fieldLink RX2 9 "CacheDirectory$Message" "carried" "I", Cond.fieldLink RX2 15 "CacheDirectory$Message" "count" "I"]
def wsX0_moveOut_r2 : List Cond := [Cond.fieldLink RX2 18 "CacheDirectory$Message" "requester" "I", Cond.fieldLink RX2 21 "CacheDirectory$Message" "kind" "I", Cond.fieldLink RX2 24 "CacheDirectory$Message" "line" "I", Cond.fieldLink RX2 27 "CacheDirectory$Message" "sender" "I", Cond.fieldLink RX2 30 "CacheDirectory$Message" "receiver" "I", Cond.methodLink RX3 21 yJx4a65c_add_9ea2d, Cond.instanceMethod yJx4a65c_add_9ea2d, Cond.selects RJx4a65c yJx4a65c_add_9ea2d yJx4a65c_add_9ea2d, Cond.initialized RJx4a65c, Cond.code yJx4a65c_add_9ea2d cJx4a65c_add_9ea2d 2 (some .boolean), Cond.fieldLink RJx4a65c 63 "java/util/ArrayList" "modCount" "I", Cond.sameField "java/util/ArrayList" "java/util/AbstractList" "modCount" "I", Cond.fieldLink RJx4a65c 9 "java/util/ArrayList" "elementData" "[Ljava/lang/Object;", Cond.fieldLink RJx4a65c 48 "java/util/ArrayList" "size" "I", Cond.methodLink RJx4a65c 131 yJx4a65c_add_72be8, Cond.instanceMethod yJx4a65c_add_72be8, Cond.selects RJx4a65c yJx4a65c_add_72be8 yJx4a65c_add_72be8, Cond.code yJx4a65c_add_72be8 cJx4a65c_add_72be8 4 none, Cond.methodLink RJx4a65c 129 yJx4a65c_grow_d5877, Cond.instanceMethod yJx4a65c_grow_d5877, Cond.selects RJx4a65c yJx4a65c_grow_d5877 yJx4a65c_grow_d5877, Cond.code yJx4a65c_grow_d5877 cJx4a65c_grow_d5877 1 (some (.array (.object "java/lang/Object"))), Cond.methodLink RJx4a65c 69 yJx4a65c_grow_92f84, Cond.instanceMethod yJx4a65c_grow_92f84]
def wsX0_moveOut_r3 : List Cond := [Cond.selects RJx4a65c yJx4a65c_grow_92f84 yJx4a65c_grow_92f84, Cond.code yJx4a65c_grow_92f84 cJx4a65c_grow_92f84 4 (some (.array (.object "java/lang/Object"))), Cond.fieldLink RJx4a65c 39 "java/util/ArrayList" "DEFAULTCAPACITY_EMPTY_ELEMENTDATA" "[Ljava/lang/Object;", Cond.methodLink RJx4a65c 79 Lib.Math.max.name, Cond.static Lib.Math.max.name, Cond.initialized "java/lang/Math", Cond.code Lib.Math.max.name Lib.Math.max.code 2 (some .int), Cond.classLink RJx4a65c 7 "java/lang/Object", Cond.methodLink RJx4a65c 73 yJ8_newLength_cabcc, Cond.static yJ8_newLength_cabcc, Cond.initialized RJ8, Cond.code yJ8_newLength_cabcc cJ8_newLength_cabcc 4 (some .int), Cond.methodLink RJ8 194 Lib.Math.max.name, Cond.constant RJ8 200 (2147483639), Cond.methodLink RJ8 201 yJ8_hugeLength_7cf53, Cond.static yJ8_hugeLength_7cf53, Cond.code yJ8_hugeLength_7cf53 cJ8_hugeLength_7cf53 3 (some .int), Cond.methodLink RJx4a65c 66 yJ7_copyOf_1904c, Cond.static yJ7_copyOf_1904c, Cond.initialized RJ7, Cond.code yJ7_copyOf_1904c cJ7_copyOf_1904c 2 (some (.array (.object "java/lang/Object"))), Cond.methodLink RJ7 86 ⟨"java/lang/Object", "getClass", "()Ljava/lang/Class;"⟩, Cond.selects "[Ljava/lang/Object;" ⟨"java/lang/Object", "getClass", "()Ljava/lang/Class;"⟩ ⟨"java/lang/Object", "getClass", "()Ljava/lang/Class;"⟩, Cond.instanceMethod ⟨"java/lang/Object", "getClass", "()Ljava/lang/Class;"⟩]
def wsX0_moveOut_r4 : List Cond := [Cond.native ⟨"java/lang/Object", "getClass", "()Ljava/lang/Class;"⟩, Cond.methodLink RJ7 300 yJ7_copyOf_6403c, Cond.static yJ7_copyOf_6403c, Cond.code yJ7_copyOf_6403c cJ7_copyOf_6403c 4 (some (.array (.object "java/lang/Object"))), Cond.classLink RJ7 110 "[Ljava/lang/Object;", Cond.classLink RJ7 2 "java/lang/Object", Cond.methodLink RJ7 304 Lib.Math.min.name, Cond.static Lib.Math.min.name, Cond.code Lib.Math.min.name Lib.Math.min.code 2 (some .int), Cond.methodLink RJ7 150 arraycopyName, Cond.native arraycopyName, Cond.static arraycopyName, Cond.initialized "java/lang/System", Cond.methodLink RX0 89 yX0_drop, Cond.instanceMethod yX0_drop, Cond.selects RX0 yX0_drop yX0_drop, Cond.initialized RX0, Cond.code yX0_drop cX0_drop 2 none, Cond.methodLink RX0 139 yX0_leaveUseOrder, Cond.instanceMethod yX0_leaveUseOrder, Cond.selects RX0 yX0_leaveUseOrder yX0_leaveUseOrder, Cond.code yX0_leaveUseOrder cX0_leaveUseOrder 4 none, Cond.fieldLink RX0 31 "CacheDirectory$Cache" "lineCount" "I", Cond.fieldLink RX0 28 "CacheDirectory$Cache" "useOrder" "[I"]
def wsX0_moveOut : List Cond := .code yX0_moveOut cX0_moveOut 2 none :: ((wsX0_moveOut_r1 ++ (wsX0_moveOut_r2 ++ (wsX0_moveOut_r3 ++ wsX0_moveOut_r4))) ++ wsX00 ++ wsX20 ++ wsX30 ++ wsJx4a65c0)
def wsX4_open : List Cond := .code yX4_open cX4_open 4 none :: ([.fieldLink RX4 9 "CacheDirectory$Request" "line" "I", .fieldLink RX4 15 "CacheDirectory$Request" "forWriting" "Z", .fieldLink RX4 19 "CacheDirectory$Request" "toWrite" "I", .fieldLink RX4 22 "CacheDirectory$Request" "answered" "Z", .fieldLink RX4 25 "CacheDirectory$Request" "invalidationsDone" "I"] ++ wsX40)
def wsX0_startRequest_r1 : List Cond := [Cond.fieldLink RX0 28 "CacheDirectory$Cache" "useOrder" "[I", Cond.fieldLink RX0 50 "CacheDirectory$Cache" "missCount" "I", Cond.fieldLink RX0 12 "CacheDirectory$Cache" "request" "LCacheDirectory$Request;", Cond.fieldLink RX0 56 "CacheDirectory$Cache" "network" "LCacheDirectory$Network;", Cond.fieldLink RX0 53 "CacheDirectory$Cache" "number" "I", Cond.methodLink RX0 67 yX0_needsWayFor, Cond.instanceMethod yX0_needsWayFor, Cond.selects RX0 yX0_needsWayFor yX0_needsWayFor, Cond.initialized RX0, Cond.code yX0_needsWayFor cX0_needsWayFor 2 (some .boolean), Cond.fieldLink RX0 31 "CacheDirectory$Cache" "lineCount" "I", Cond.fieldLink RX0 38 "CacheDirectory$Cache" "ways" "I", Cond.methodLink RX0 63 yX0_holds, Cond.instanceMethod yX0_holds, Cond.selects RX0 yX0_holds yX0_holds, Cond.code yX0_holds cX0_holds 2 (some .boolean), Cond.fieldLink RX0 18 "CacheDirectory$Cache" "states" "[I", Cond.methodLink RX0 70 yX0_moveOut, Cond.instanceMethod yX0_moveOut, Cond.selects RX0 yX0_moveOut yX0_moveOut, Cond.code yX0_moveOut cX0_moveOut 2 none, Cond.fieldLink RX0 25 "CacheDirectory$Cache" "victimValues" "[I", Cond.fieldLink RX0 22 "CacheDirectory$Cache" "values" "[I", Cond.fieldLink RX0 35 "CacheDirectory$Cache" "victimCount" "I"]
def wsX0_startRequest_r2 : List Cond := [Cond.fieldLink RX0 84 "CacheDirectory$Message" "carried" "I", Cond.methodLink RX0 78 yX3_send, Cond.instanceMethod yX3_send, Cond.selects RX3 yX3_send yX3_send, Cond.initialized RX3, Cond.code yX3_send cX3_send 6 (some (.object "CacheDirectory$Message")), Cond.classLink RX3 16 RX2, Cond.instantiable RX2 7, Cond.initialized RX2, Cond.fieldLink RX3 10 "CacheDirectory$Network" "onTheWay" "Ljava/util/ArrayList;", Cond.methodLink RX3 18 yX2_init, Cond.instanceMethod yX2_init, Cond.code yX2_init cX2_init 5 none, Cond.methodLink RX2 3 objectInit, Cond.instanceMethod objectInit, Cond.code objectInit ⟨#[0xb1]⟩ 1 none, Cond.fieldLink RX2 9 "CacheDirectory$Message" "carried" "I", Cond.fieldLink RX2 15 "CacheDirectory$Message" "count" "I", Cond.fieldLink RX2 18 "CacheDirectory$Message" "requester" "I", Cond.fieldLink RX2 21 "CacheDirectory$Message" "kind" "I", Cond.fieldLink RX2 24 "CacheDirectory$Message" "line" "I", Cond.fieldLink RX2 27 "CacheDirectory$Message" "sender" "I", Cond.fieldLink RX2 30 "CacheDirectory$Message" "receiver" "I", Cond.methodLink RX3 21 yJx4a65c_add_9ea2d]
def wsX0_startRequest_r3 : List Cond := [Cond.instanceMethod yJx4a65c_add_9ea2d, Cond.selects RJx4a65c yJx4a65c_add_9ea2d yJx4a65c_add_9ea2d, Cond.initialized RJx4a65c, Cond.code yJx4a65c_add_9ea2d cJx4a65c_add_9ea2d 2 (some .boolean), Cond.fieldLink RJx4a65c 63 "java/util/ArrayList" "modCount" "I", Cond.sameField "java/util/ArrayList" "java/util/AbstractList" "modCount" "I", Cond.fieldLink RJx4a65c 9 "java/util/ArrayList" "elementData" "[Ljava/lang/Object;", Cond.fieldLink RJx4a65c 48 "java/util/ArrayList" "size" "I", Cond.methodLink RJx4a65c 131 yJx4a65c_add_72be8, Cond.instanceMethod yJx4a65c_add_72be8, Cond.selects RJx4a65c yJx4a65c_add_72be8 yJx4a65c_add_72be8, Cond.code yJx4a65c_add_72be8 cJx4a65c_add_72be8 4 none, Cond.methodLink RJx4a65c 129 yJx4a65c_grow_d5877, Cond.instanceMethod yJx4a65c_grow_d5877, Cond.selects RJx4a65c yJx4a65c_grow_d5877 yJx4a65c_grow_d5877, Cond.code yJx4a65c_grow_d5877 cJx4a65c_grow_d5877 1 (some (.array (.object "java/lang/Object"))), Cond.methodLink RJx4a65c 69 yJx4a65c_grow_92f84, Cond.instanceMethod yJx4a65c_grow_92f84, Cond.selects RJx4a65c yJx4a65c_grow_92f84 yJx4a65c_grow_92f84, Cond.code yJx4a65c_grow_92f84 cJx4a65c_grow_92f84 4 (some (.array (.object "java/lang/Object"))), Cond.fieldLink RJx4a65c 39 "java/util/ArrayList" "DEFAULTCAPACITY_EMPTY_ELEMENTDATA" "[Ljava/lang/Object;", Cond.methodLink RJx4a65c 79 Lib.Math.max.name, Cond.static Lib.Math.max.name, Cond.initialized "java/lang/Math"]
def wsX0_startRequest_r4 : List Cond := [Cond.code Lib.Math.max.name Lib.Math.max.code 2 (some .int), Cond.classLink RJx4a65c 7 "java/lang/Object", Cond.methodLink RJx4a65c 73 yJ8_newLength_cabcc, Cond.static yJ8_newLength_cabcc, Cond.initialized RJ8, Cond.code yJ8_newLength_cabcc cJ8_newLength_cabcc 4 (some .int), Cond.methodLink RJ8 194 Lib.Math.max.name, Cond.constant RJ8 200 (2147483639), Cond.methodLink RJ8 201 yJ8_hugeLength_7cf53, Cond.static yJ8_hugeLength_7cf53, Cond.code yJ8_hugeLength_7cf53 cJ8_hugeLength_7cf53 3 (some .int), Cond.methodLink RJx4a65c 66 yJ7_copyOf_1904c, Cond.static yJ7_copyOf_1904c, Cond.initialized RJ7, Cond.code yJ7_copyOf_1904c cJ7_copyOf_1904c 2 (some (.array (.object "java/lang/Object"))), Cond.methodLink RJ7 86 ⟨"java/lang/Object", "getClass", "()Ljava/lang/Class;"⟩, Cond.selects "[Ljava/lang/Object;" ⟨"java/lang/Object", "getClass", "()Ljava/lang/Class;"⟩ ⟨"java/lang/Object", "getClass", "()Ljava/lang/Class;"⟩, Cond.instanceMethod ⟨"java/lang/Object", "getClass", "()Ljava/lang/Class;"⟩, Cond.native ⟨"java/lang/Object", "getClass", "()Ljava/lang/Class;"⟩, Cond.methodLink RJ7 300 yJ7_copyOf_6403c, Cond.static yJ7_copyOf_6403c, Cond.code yJ7_copyOf_6403c cJ7_copyOf_6403c 4 (some (.array (.object "java/lang/Object"))), Cond.classLink RJ7 110 "[Ljava/lang/Object;", Cond.classLink RJ7 2 "java/lang/Object"]
def wsX0_startRequest_r5 : List Cond := [Cond.methodLink RJ7 304 Lib.Math.min.name, Cond.static Lib.Math.min.name, Cond.code Lib.Math.min.name Lib.Math.min.code 2 (some .int), Cond.methodLink RJ7 150 arraycopyName, Cond.native arraycopyName, Cond.static arraycopyName, Cond.initialized "java/lang/System", Cond.methodLink RX0 89 yX0_drop, Cond.instanceMethod yX0_drop, Cond.selects RX0 yX0_drop yX0_drop, Cond.code yX0_drop cX0_drop 2 none, Cond.methodLink RX0 139 yX0_leaveUseOrder, Cond.instanceMethod yX0_leaveUseOrder, Cond.selects RX0 yX0_leaveUseOrder yX0_leaveUseOrder, Cond.code yX0_leaveUseOrder cX0_leaveUseOrder 4 none, Cond.methodLink RX0 74 yX4_open, Cond.instanceMethod yX4_open, Cond.selects RX4 yX4_open yX4_open, Cond.initialized RX4, Cond.code yX4_open cX4_open 4 none, Cond.fieldLink RX4 9 "CacheDirectory$Request" "line" "I", Cond.fieldLink RX4 15 "CacheDirectory$Request" "forWriting" "Z", Cond.fieldLink RX4 19 "CacheDirectory$Request" "toWrite" "I", Cond.fieldLink RX4 22 "CacheDirectory$Request" "answered" "Z"]
def wsX0_startRequest_r6 : List Cond := [Cond.fieldLink RX4 25 "CacheDirectory$Request" "invalidationsDone" "I"]
def wsX0_startRequest : List Cond := .code yX0_startRequest cX0_startRequest 4 none :: ((wsX0_startRequest_r1 ++ (wsX0_startRequest_r2 ++ (wsX0_startRequest_r3 ++ (wsX0_startRequest_r4 ++ (wsX0_startRequest_r5 ++ wsX0_startRequest_r6))))) ++ wsX00 ++ wsX20 ++ wsX30 ++ wsJx4a65c0 ++ wsX40)
def wsX4_isComplete : List Cond := .code yX4_isComplete cX4_isComplete 1 (some .boolean) :: ([.fieldLink RX4 22 "CacheDirectory$Request" "answered" "Z", .fieldLink RX4 25 "CacheDirectory$Request" "invalidationsDone" "I", .fieldLink RX4 28 "CacheDirectory$Request" "invalidationsDue" "I"] ++ wsX40)
def wsX0_markUsed : List Cond := .code yX0_markUsed cX0_markUsed 2 none :: ([.fieldLink RX0 31 "CacheDirectory$Cache" "lineCount" "I", .fieldLink RX0 28 "CacheDirectory$Cache" "useOrder" "[I", .methodLink RX0 139 yX0_leaveUseOrder, .instanceMethod yX0_leaveUseOrder, .selects RX0 yX0_leaveUseOrder yX0_leaveUseOrder, .initialized RX0, .code yX0_leaveUseOrder cX0_leaveUseOrder 4 none] ++ wsX00)
def wsX0_store : List Cond := .code yX0_store cX0_store 4 none :: ([.fieldLink RX0 18 "CacheDirectory$Cache" "states" "[I", .fieldLink RX0 22 "CacheDirectory$Cache" "values" "[I", .methodLink RX0 136 yX0_markUsed, .instanceMethod yX0_markUsed, .selects RX0 yX0_markUsed yX0_markUsed, .initialized RX0, .code yX0_markUsed cX0_markUsed 2 none, .fieldLink RX0 31 "CacheDirectory$Cache" "lineCount" "I", .fieldLink RX0 28 "CacheDirectory$Cache" "useOrder" "[I", .methodLink RX0 139 yX0_leaveUseOrder, .instanceMethod yX0_leaveUseOrder, .selects RX0 yX0_leaveUseOrder yX0_leaveUseOrder, .code yX0_leaveUseOrder cX0_leaveUseOrder 4 none] ++ wsX00)
def wsX0_finishIfComplete_r1 : List Cond := [Cond.fieldLink RX0 12 "CacheDirectory$Cache" "request" "LCacheDirectory$Request;", Cond.fieldLink RX0 126 "CacheDirectory$Request" "forWriting" "Z", Cond.fieldLink RX0 129 "CacheDirectory$Request" "toWrite" "I", Cond.fieldLink RX0 99 "CacheDirectory$Request" "received" "I", Cond.fieldLink RX0 44 "CacheDirectory$Cache" "latestResult" "I", Cond.fieldLink RX0 60 "CacheDirectory$Request" "line" "I", Cond.fieldLink RX0 56 "CacheDirectory$Cache" "network" "LCacheDirectory$Network;", Cond.fieldLink RX0 53 "CacheDirectory$Cache" "number" "I", Cond.methodLink RX0 122 yX4_isComplete, Cond.instanceMethod yX4_isComplete, Cond.selects RX4 yX4_isComplete yX4_isComplete, Cond.initialized RX4, Cond.code yX4_isComplete cX4_isComplete 1 (some .boolean), Cond.fieldLink RX4 22 "CacheDirectory$Request" "answered" "Z", Cond.fieldLink RX4 25 "CacheDirectory$Request" "invalidationsDone" "I", Cond.fieldLink RX4 28 "CacheDirectory$Request" "invalidationsDue" "I", Cond.methodLink RX0 132 yX0_store, Cond.instanceMethod yX0_store, Cond.selects RX0 yX0_store yX0_store, Cond.initialized RX0, Cond.code yX0_store cX0_store 4 none, Cond.fieldLink RX0 18 "CacheDirectory$Cache" "states" "[I", Cond.fieldLink RX0 22 "CacheDirectory$Cache" "values" "[I", Cond.methodLink RX0 136 yX0_markUsed]
def wsX0_finishIfComplete_r2 : List Cond := [Cond.instanceMethod yX0_markUsed, Cond.selects RX0 yX0_markUsed yX0_markUsed, Cond.code yX0_markUsed cX0_markUsed 2 none, Cond.fieldLink RX0 31 "CacheDirectory$Cache" "lineCount" "I", Cond.fieldLink RX0 28 "CacheDirectory$Cache" "useOrder" "[I", Cond.methodLink RX0 139 yX0_leaveUseOrder, Cond.instanceMethod yX0_leaveUseOrder, Cond.selects RX0 yX0_leaveUseOrder yX0_leaveUseOrder, Cond.code yX0_leaveUseOrder cX0_leaveUseOrder 4 none, Cond.methodLink RX0 78 yX3_send, Cond.instanceMethod yX3_send, Cond.selects RX3 yX3_send yX3_send, Cond.initialized RX3, Cond.code yX3_send cX3_send 6 (some (.object "CacheDirectory$Message")), Cond.classLink RX3 16 RX2, Cond.instantiable RX2 7, Cond.initialized RX2, Cond.fieldLink RX3 10 "CacheDirectory$Network" "onTheWay" "Ljava/util/ArrayList;", Cond.methodLink RX3 18 yX2_init, Cond.instanceMethod yX2_init, Cond.code yX2_init cX2_init 5 none, Cond.methodLink RX2 3 objectInit, Cond.instanceMethod objectInit, Cond.code objectInit ⟨#[0xb1]⟩ 1 none]
def wsX0_finishIfComplete_r3 : List Cond := [Cond.fieldLink RX2 9 "CacheDirectory$Message" "carried" "I", Cond.fieldLink RX2 15 "CacheDirectory$Message" "count" "I", Cond.fieldLink RX2 18 "CacheDirectory$Message" "requester" "I", Cond.fieldLink RX2 21 "CacheDirectory$Message" "kind" "I", Cond.fieldLink RX2 24 "CacheDirectory$Message" "line" "I", Cond.fieldLink RX2 27 "CacheDirectory$Message" "sender" "I", Cond.fieldLink RX2 30 "CacheDirectory$Message" "receiver" "I", Cond.methodLink RX3 21 yJx4a65c_add_9ea2d, Cond.instanceMethod yJx4a65c_add_9ea2d, Cond.selects RJx4a65c yJx4a65c_add_9ea2d yJx4a65c_add_9ea2d, Cond.initialized RJx4a65c, Cond.code yJx4a65c_add_9ea2d cJx4a65c_add_9ea2d 2 (some .boolean), Cond.fieldLink RJx4a65c 63 "java/util/ArrayList" "modCount" "I", Cond.sameField "java/util/ArrayList" "java/util/AbstractList" "modCount" "I", Cond.fieldLink RJx4a65c 9 "java/util/ArrayList" "elementData" "[Ljava/lang/Object;", Cond.fieldLink RJx4a65c 48 "java/util/ArrayList" "size" "I", Cond.methodLink RJx4a65c 131 yJx4a65c_add_72be8, Cond.instanceMethod yJx4a65c_add_72be8, Cond.selects RJx4a65c yJx4a65c_add_72be8 yJx4a65c_add_72be8, Cond.code yJx4a65c_add_72be8 cJx4a65c_add_72be8 4 none, Cond.methodLink RJx4a65c 129 yJx4a65c_grow_d5877, Cond.instanceMethod yJx4a65c_grow_d5877, Cond.selects RJx4a65c yJx4a65c_grow_d5877 yJx4a65c_grow_d5877, Cond.code yJx4a65c_grow_d5877 cJx4a65c_grow_d5877 1 (some (.array (.object "java/lang/Object")))]
def wsX0_finishIfComplete_r4 : List Cond := [Cond.methodLink RJx4a65c 69 yJx4a65c_grow_92f84, Cond.instanceMethod yJx4a65c_grow_92f84, Cond.selects RJx4a65c yJx4a65c_grow_92f84 yJx4a65c_grow_92f84, Cond.code yJx4a65c_grow_92f84 cJx4a65c_grow_92f84 4 (some (.array (.object "java/lang/Object"))), Cond.fieldLink RJx4a65c 39 "java/util/ArrayList" "DEFAULTCAPACITY_EMPTY_ELEMENTDATA" "[Ljava/lang/Object;", Cond.methodLink RJx4a65c 79 Lib.Math.max.name, Cond.static Lib.Math.max.name, Cond.initialized "java/lang/Math", Cond.code Lib.Math.max.name Lib.Math.max.code 2 (some .int), Cond.classLink RJx4a65c 7 "java/lang/Object", Cond.methodLink RJx4a65c 73 yJ8_newLength_cabcc, Cond.static yJ8_newLength_cabcc, Cond.initialized RJ8, Cond.code yJ8_newLength_cabcc cJ8_newLength_cabcc 4 (some .int), Cond.methodLink RJ8 194 Lib.Math.max.name, Cond.constant RJ8 200 (2147483639), Cond.methodLink RJ8 201 yJ8_hugeLength_7cf53, Cond.static yJ8_hugeLength_7cf53, Cond.code yJ8_hugeLength_7cf53 cJ8_hugeLength_7cf53 3 (some .int), Cond.methodLink RJx4a65c 66 yJ7_copyOf_1904c, Cond.static yJ7_copyOf_1904c, Cond.initialized RJ7, Cond.code yJ7_copyOf_1904c cJ7_copyOf_1904c 2 (some (.array (.object "java/lang/Object"))), Cond.methodLink RJ7 86 ⟨"java/lang/Object", "getClass", "()Ljava/lang/Class;"⟩]
def wsX0_finishIfComplete_r5 : List Cond := [Cond.selects "[Ljava/lang/Object;" ⟨"java/lang/Object", "getClass", "()Ljava/lang/Class;"⟩ ⟨"java/lang/Object", "getClass", "()Ljava/lang/Class;"⟩, Cond.instanceMethod ⟨"java/lang/Object", "getClass", "()Ljava/lang/Class;"⟩, Cond.native ⟨"java/lang/Object", "getClass", "()Ljava/lang/Class;"⟩, Cond.methodLink RJ7 300 yJ7_copyOf_6403c, Cond.static yJ7_copyOf_6403c, Cond.code yJ7_copyOf_6403c cJ7_copyOf_6403c 4 (some (.array (.object "java/lang/Object"))), Cond.classLink RJ7 110 "[Ljava/lang/Object;", Cond.classLink RJ7 2 "java/lang/Object", Cond.methodLink RJ7 304 Lib.Math.min.name, Cond.static Lib.Math.min.name, Cond.code Lib.Math.min.name Lib.Math.min.code 2 (some .int), Cond.methodLink RJ7 150 arraycopyName, Cond.native arraycopyName, Cond.static arraycopyName, Cond.initialized "java/lang/System"]
def wsX0_finishIfComplete : List Cond := .code yX0_finishIfComplete cX0_finishIfComplete 2 none :: ((wsX0_finishIfComplete_r1 ++ (wsX0_finishIfComplete_r2 ++ (wsX0_finishIfComplete_r3 ++ (wsX0_finishIfComplete_r4 ++ wsX0_finishIfComplete_r5)))) ++ wsX00 ++ wsX40 ++ wsX20 ++ wsX30 ++ wsJx4a65c0)
def wsX0_passOn_r1 : List Cond := [Cond.fieldLink RX0 108 "CacheDirectory$Message" "line" "I", Cond.fieldLink RX0 56 "CacheDirectory$Cache" "network" "LCacheDirectory$Network;", Cond.fieldLink RX0 53 "CacheDirectory$Cache" "number" "I", Cond.fieldLink RX0 119 "CacheDirectory$Message" "requester" "I", Cond.fieldLink RX0 22 "CacheDirectory$Cache" "values" "[I", Cond.fieldLink RX0 25 "CacheDirectory$Cache" "victimValues" "[I", Cond.fieldLink RX0 84 "CacheDirectory$Message" "carried" "I", Cond.fieldLink RX0 102 "CacheDirectory$Message" "count" "I", Cond.fieldLink RX0 92 "CacheDirectory$Message" "kind" "I", Cond.fieldLink RX0 18 "CacheDirectory$Cache" "states" "[I", Cond.methodLink RX0 78 yX3_send, Cond.instanceMethod yX3_send, Cond.selects RX3 yX3_send yX3_send, Cond.initialized RX3, Cond.code yX3_send cX3_send 6 (some (.object "CacheDirectory$Message")), Cond.classLink RX3 16 RX2, Cond.instantiable RX2 7, Cond.initialized RX2, Cond.fieldLink RX3 10 "CacheDirectory$Network" "onTheWay" "Ljava/util/ArrayList;", Cond.methodLink RX3 18 yX2_init, Cond.instanceMethod yX2_init, Cond.code yX2_init cX2_init 5 none, Cond.methodLink RX2 3 objectInit, Cond.instanceMethod objectInit]
def wsX0_passOn_r2 : List Cond := [Cond.code objectInit ⟨#[0xb1]⟩ 1 none, Cond.fieldLink RX2 9 "CacheDirectory$Message" "carried" "I", Cond.fieldLink RX2 15 "CacheDirectory$Message" "count" "I", Cond.fieldLink RX2 18 "CacheDirectory$Message" "requester" "I", Cond.fieldLink RX2 21 "CacheDirectory$Message" "kind" "I", Cond.fieldLink RX2 24 "CacheDirectory$Message" "line" "I", Cond.fieldLink RX2 27 "CacheDirectory$Message" "sender" "I", Cond.fieldLink RX2 30 "CacheDirectory$Message" "receiver" "I", Cond.methodLink RX3 21 yJx4a65c_add_9ea2d, Cond.instanceMethod yJx4a65c_add_9ea2d, Cond.selects RJx4a65c yJx4a65c_add_9ea2d yJx4a65c_add_9ea2d, Cond.initialized RJx4a65c, Cond.code yJx4a65c_add_9ea2d cJx4a65c_add_9ea2d 2 (some .boolean), Cond.fieldLink RJx4a65c 63 "java/util/ArrayList" "modCount" "I", Cond.sameField "java/util/ArrayList" "java/util/AbstractList" "modCount" "I", Cond.fieldLink RJx4a65c 9 "java/util/ArrayList" "elementData" "[Ljava/lang/Object;", Cond.fieldLink RJx4a65c 48 "java/util/ArrayList" "size" "I", Cond.methodLink RJx4a65c 131 yJx4a65c_add_72be8, Cond.instanceMethod yJx4a65c_add_72be8, Cond.selects RJx4a65c yJx4a65c_add_72be8 yJx4a65c_add_72be8, Cond.code yJx4a65c_add_72be8 cJx4a65c_add_72be8 4 none, Cond.methodLink RJx4a65c 129 yJx4a65c_grow_d5877, Cond.instanceMethod yJx4a65c_grow_d5877, Cond.selects RJx4a65c yJx4a65c_grow_d5877 yJx4a65c_grow_d5877]
def wsX0_passOn_r3 : List Cond := [Cond.code yJx4a65c_grow_d5877 cJx4a65c_grow_d5877 1 (some (.array (.object "java/lang/Object"))), Cond.methodLink RJx4a65c 69 yJx4a65c_grow_92f84, Cond.instanceMethod yJx4a65c_grow_92f84, Cond.selects RJx4a65c yJx4a65c_grow_92f84 yJx4a65c_grow_92f84, Cond.code yJx4a65c_grow_92f84 cJx4a65c_grow_92f84 4 (some (.array (.object "java/lang/Object"))), Cond.fieldLink RJx4a65c 39 "java/util/ArrayList" "DEFAULTCAPACITY_EMPTY_ELEMENTDATA" "[Ljava/lang/Object;", Cond.methodLink RJx4a65c 79 Lib.Math.max.name, Cond.static Lib.Math.max.name, Cond.initialized "java/lang/Math", Cond.code Lib.Math.max.name Lib.Math.max.code 2 (some .int), Cond.classLink RJx4a65c 7 "java/lang/Object", Cond.methodLink RJx4a65c 73 yJ8_newLength_cabcc, Cond.static yJ8_newLength_cabcc, Cond.initialized RJ8, Cond.code yJ8_newLength_cabcc cJ8_newLength_cabcc 4 (some .int), Cond.methodLink RJ8 194 Lib.Math.max.name, Cond.constant RJ8 200 (2147483639), Cond.methodLink RJ8 201 yJ8_hugeLength_7cf53, Cond.static yJ8_hugeLength_7cf53, Cond.code yJ8_hugeLength_7cf53 cJ8_hugeLength_7cf53 3 (some .int), Cond.methodLink RJx4a65c 66 yJ7_copyOf_1904c, Cond.static yJ7_copyOf_1904c, Cond.initialized RJ7, Cond.code yJ7_copyOf_1904c cJ7_copyOf_1904c 2 (some (.array (.object "java/lang/Object")))]
def wsX0_passOn_r4 : List Cond := [Cond.methodLink RJ7 86 ⟨"java/lang/Object", "getClass", "()Ljava/lang/Class;"⟩, Cond.selects "[Ljava/lang/Object;" ⟨"java/lang/Object", "getClass", "()Ljava/lang/Class;"⟩ ⟨"java/lang/Object", "getClass", "()Ljava/lang/Class;"⟩, Cond.instanceMethod ⟨"java/lang/Object", "getClass", "()Ljava/lang/Class;"⟩, Cond.native ⟨"java/lang/Object", "getClass", "()Ljava/lang/Class;"⟩, Cond.methodLink RJ7 300 yJ7_copyOf_6403c, Cond.static yJ7_copyOf_6403c, Cond.code yJ7_copyOf_6403c cJ7_copyOf_6403c 4 (some (.array (.object "java/lang/Object"))), Cond.classLink RJ7 110 "[Ljava/lang/Object;", Cond.classLink RJ7 2 "java/lang/Object", Cond.methodLink RJ7 304 Lib.Math.min.name, Cond.static Lib.Math.min.name, Cond.code Lib.Math.min.name Lib.Math.min.code 2 (some .int), Cond.methodLink RJ7 150 arraycopyName, Cond.native arraycopyName, Cond.static arraycopyName, Cond.initialized "java/lang/System", Cond.methodLink RX0 63 yX0_holds, Cond.instanceMethod yX0_holds, Cond.selects RX0 yX0_holds yX0_holds, Cond.initialized RX0, Cond.code yX0_holds cX0_holds 2 (some .boolean), Cond.methodLink RX0 89 yX0_drop, Cond.instanceMethod yX0_drop, Cond.selects RX0 yX0_drop yX0_drop]
def wsX0_passOn_r5 : List Cond := [Cond.code yX0_drop cX0_drop 2 none, Cond.methodLink RX0 139 yX0_leaveUseOrder, Cond.instanceMethod yX0_leaveUseOrder, Cond.selects RX0 yX0_leaveUseOrder yX0_leaveUseOrder, Cond.code yX0_leaveUseOrder cX0_leaveUseOrder 4 none, Cond.fieldLink RX0 31 "CacheDirectory$Cache" "lineCount" "I", Cond.fieldLink RX0 28 "CacheDirectory$Cache" "useOrder" "[I"]
def wsX0_passOn : List Cond := .code yX0_passOn cX0_passOn 4 none :: ((wsX0_passOn_r1 ++ (wsX0_passOn_r2 ++ (wsX0_passOn_r3 ++ (wsX0_passOn_r4 ++ wsX0_passOn_r5)))) ++ wsX20 ++ wsX00 ++ wsX30 ++ wsJx4a65c0)
def wsX0_receive_r1 : List Cond := [Cond.fieldLink RX0 92 "CacheDirectory$Message" "kind" "I", Cond.fieldLink RX0 12 "CacheDirectory$Cache" "request" "LCacheDirectory$Request;", Cond.fieldLink RX0 95 "CacheDirectory$Request" "answered" "Z", Cond.fieldLink RX0 84 "CacheDirectory$Message" "carried" "I", Cond.fieldLink RX0 99 "CacheDirectory$Request" "received" "I", Cond.fieldLink RX0 102 "CacheDirectory$Message" "count" "I", Cond.fieldLink RX0 105 "CacheDirectory$Request" "invalidationsDue" "I", Cond.fieldLink RX0 108 "CacheDirectory$Message" "line" "I", Cond.fieldLink RX0 112 "CacheDirectory$Request" "invalidationsDone" "I", Cond.fieldLink RX0 18 "CacheDirectory$Cache" "states" "[I", Cond.fieldLink RX0 56 "CacheDirectory$Cache" "network" "LCacheDirectory$Network;", Cond.fieldLink RX0 53 "CacheDirectory$Cache" "number" "I", Cond.fieldLink RX0 119 "CacheDirectory$Message" "requester" "I", Cond.fieldLink RX0 25 "CacheDirectory$Cache" "victimValues" "[I", Cond.fieldLink RX0 35 "CacheDirectory$Cache" "victimCount" "I", Cond.methodLink RX0 109 yX0_finishIfComplete, Cond.instanceMethod yX0_finishIfComplete, Cond.selects RX0 yX0_finishIfComplete yX0_finishIfComplete, Cond.initialized RX0, Cond.code yX0_finishIfComplete cX0_finishIfComplete 2 none, Cond.fieldLink RX0 126 "CacheDirectory$Request" "forWriting" "Z", Cond.fieldLink RX0 129 "CacheDirectory$Request" "toWrite" "I", Cond.fieldLink RX0 44 "CacheDirectory$Cache" "latestResult" "I", Cond.fieldLink RX0 60 "CacheDirectory$Request" "line" "I"]
def wsX0_receive_r2 : List Cond := [Cond.methodLink RX0 122 yX4_isComplete, Cond.instanceMethod yX4_isComplete, Cond.selects RX4 yX4_isComplete yX4_isComplete, Cond.initialized RX4, Cond.code yX4_isComplete cX4_isComplete 1 (some .boolean), Cond.fieldLink RX4 22 "CacheDirectory$Request" "answered" "Z", Cond.fieldLink RX4 25 "CacheDirectory$Request" "invalidationsDone" "I", Cond.fieldLink RX4 28 "CacheDirectory$Request" "invalidationsDue" "I", Cond.methodLink RX0 132 yX0_store, Cond.instanceMethod yX0_store, Cond.selects RX0 yX0_store yX0_store, Cond.code yX0_store cX0_store 4 none, Cond.fieldLink RX0 22 "CacheDirectory$Cache" "values" "[I", Cond.methodLink RX0 136 yX0_markUsed, Cond.instanceMethod yX0_markUsed, Cond.selects RX0 yX0_markUsed yX0_markUsed, Cond.code yX0_markUsed cX0_markUsed 2 none, Cond.fieldLink RX0 31 "CacheDirectory$Cache" "lineCount" "I", Cond.fieldLink RX0 28 "CacheDirectory$Cache" "useOrder" "[I", Cond.methodLink RX0 139 yX0_leaveUseOrder, Cond.instanceMethod yX0_leaveUseOrder, Cond.selects RX0 yX0_leaveUseOrder yX0_leaveUseOrder, Cond.code yX0_leaveUseOrder cX0_leaveUseOrder 4 none, Cond.methodLink RX0 78 yX3_send]
def wsX0_receive_r3 : List Cond := [Cond.instanceMethod yX3_send, Cond.selects RX3 yX3_send yX3_send, Cond.initialized RX3, Cond.code yX3_send cX3_send 6 (some (.object "CacheDirectory$Message")), Cond.classLink RX3 16 RX2, Cond.instantiable RX2 7, Cond.initialized RX2, Cond.fieldLink RX3 10 "CacheDirectory$Network" "onTheWay" "Ljava/util/ArrayList;", Cond.methodLink RX3 18 yX2_init, Cond.instanceMethod yX2_init, Cond.code yX2_init cX2_init 5 none, Cond.methodLink RX2 3 objectInit, Cond.instanceMethod objectInit, Cond.code objectInit ⟨#[0xb1]⟩ 1 none, Cond.fieldLink RX2 9 "CacheDirectory$Message" "carried" "I", Cond.fieldLink RX2 15 "CacheDirectory$Message" "count" "I", Cond.fieldLink RX2 18 "CacheDirectory$Message" "requester" "I", Cond.fieldLink RX2 21 "CacheDirectory$Message" "kind" "I", Cond.fieldLink RX2 24 "CacheDirectory$Message" "line" "I", Cond.fieldLink RX2 27 "CacheDirectory$Message" "sender" "I", Cond.fieldLink RX2 30 "CacheDirectory$Message" "receiver" "I", Cond.methodLink RX3 21 yJx4a65c_add_9ea2d, Cond.instanceMethod yJx4a65c_add_9ea2d, Cond.selects RJx4a65c yJx4a65c_add_9ea2d yJx4a65c_add_9ea2d]
def wsX0_receive_r4 : List Cond := [Cond.initialized RJx4a65c, Cond.code yJx4a65c_add_9ea2d cJx4a65c_add_9ea2d 2 (some .boolean), Cond.fieldLink RJx4a65c 63 "java/util/ArrayList" "modCount" "I", Cond.sameField "java/util/ArrayList" "java/util/AbstractList" "modCount" "I", Cond.fieldLink RJx4a65c 9 "java/util/ArrayList" "elementData" "[Ljava/lang/Object;", Cond.fieldLink RJx4a65c 48 "java/util/ArrayList" "size" "I", Cond.methodLink RJx4a65c 131 yJx4a65c_add_72be8, Cond.instanceMethod yJx4a65c_add_72be8, Cond.selects RJx4a65c yJx4a65c_add_72be8 yJx4a65c_add_72be8, Cond.code yJx4a65c_add_72be8 cJx4a65c_add_72be8 4 none, Cond.methodLink RJx4a65c 129 yJx4a65c_grow_d5877, Cond.instanceMethod yJx4a65c_grow_d5877, Cond.selects RJx4a65c yJx4a65c_grow_d5877 yJx4a65c_grow_d5877, Cond.code yJx4a65c_grow_d5877 cJx4a65c_grow_d5877 1 (some (.array (.object "java/lang/Object"))), Cond.methodLink RJx4a65c 69 yJx4a65c_grow_92f84, Cond.instanceMethod yJx4a65c_grow_92f84, Cond.selects RJx4a65c yJx4a65c_grow_92f84 yJx4a65c_grow_92f84, Cond.code yJx4a65c_grow_92f84 cJx4a65c_grow_92f84 4 (some (.array (.object "java/lang/Object"))), Cond.fieldLink RJx4a65c 39 "java/util/ArrayList" "DEFAULTCAPACITY_EMPTY_ELEMENTDATA" "[Ljava/lang/Object;", Cond.methodLink RJx4a65c 79 Lib.Math.max.name, Cond.static Lib.Math.max.name, Cond.initialized "java/lang/Math", Cond.code Lib.Math.max.name Lib.Math.max.code 2 (some .int), Cond.classLink RJx4a65c 7 "java/lang/Object"]
def wsX0_receive_r5 : List Cond := [Cond.methodLink RJx4a65c 73 yJ8_newLength_cabcc, Cond.static yJ8_newLength_cabcc, Cond.initialized RJ8, Cond.code yJ8_newLength_cabcc cJ8_newLength_cabcc 4 (some .int), Cond.methodLink RJ8 194 Lib.Math.max.name, Cond.constant RJ8 200 (2147483639), Cond.methodLink RJ8 201 yJ8_hugeLength_7cf53, Cond.static yJ8_hugeLength_7cf53, Cond.code yJ8_hugeLength_7cf53 cJ8_hugeLength_7cf53 3 (some .int), Cond.methodLink RJx4a65c 66 yJ7_copyOf_1904c, Cond.static yJ7_copyOf_1904c, Cond.initialized RJ7, Cond.code yJ7_copyOf_1904c cJ7_copyOf_1904c 2 (some (.array (.object "java/lang/Object"))), Cond.methodLink RJ7 86 ⟨"java/lang/Object", "getClass", "()Ljava/lang/Class;"⟩, Cond.selects "[Ljava/lang/Object;" ⟨"java/lang/Object", "getClass", "()Ljava/lang/Class;"⟩ ⟨"java/lang/Object", "getClass", "()Ljava/lang/Class;"⟩, Cond.instanceMethod ⟨"java/lang/Object", "getClass", "()Ljava/lang/Class;"⟩, Cond.native ⟨"java/lang/Object", "getClass", "()Ljava/lang/Class;"⟩, Cond.methodLink RJ7 300 yJ7_copyOf_6403c, Cond.static yJ7_copyOf_6403c, Cond.code yJ7_copyOf_6403c cJ7_copyOf_6403c 4 (some (.array (.object "java/lang/Object"))), Cond.classLink RJ7 110 "[Ljava/lang/Object;", Cond.classLink RJ7 2 "java/lang/Object", Cond.methodLink RJ7 304 Lib.Math.min.name, Cond.static Lib.Math.min.name]
def wsX0_receive_r6 : List Cond := [Cond.code Lib.Math.min.name Lib.Math.min.code 2 (some .int), Cond.methodLink RJ7 150 arraycopyName, Cond.native arraycopyName, Cond.static arraycopyName, Cond.initialized "java/lang/System", Cond.methodLink RX0 115 yX0_passOn, Cond.instanceMethod yX0_passOn, Cond.selects RX0 yX0_passOn yX0_passOn, Cond.code yX0_passOn cX0_passOn 4 none, Cond.methodLink RX0 63 yX0_holds, Cond.instanceMethod yX0_holds, Cond.selects RX0 yX0_holds yX0_holds, Cond.code yX0_holds cX0_holds 2 (some .boolean), Cond.methodLink RX0 89 yX0_drop, Cond.instanceMethod yX0_drop, Cond.selects RX0 yX0_drop yX0_drop, Cond.code yX0_drop cX0_drop 2 none]
def wsX0_receive : List Cond := .code yX0_receive cX0_receive 2 none :: ((wsX0_receive_r1 ++ (wsX0_receive_r2 ++ (wsX0_receive_r3 ++ (wsX0_receive_r4 ++ (wsX0_receive_r5 ++ wsX0_receive_r6))))) ++ wsX20 ++ wsX00 ++ wsX40 ++ wsX30 ++ wsJx4a65c0)
def wsJxa1e45_init_da8c8 : List Cond := .code yJxa1e45_init_da8c8 cJxa1e45_init_da8c8 1 none :: ([.methodLink RJxa1e45 1 objectInit, .instanceMethod objectInit, .code objectInit ⟨#[0xb1]⟩ 1 none])
def wsJxc12de_init_da8c8 : List Cond := .code yJxc12de_init_da8c8 cJxc12de_init_da8c8 1 none :: ([.fieldLink RJxc12de 7 "java/util/AbstractList" "modCount" "I", .methodLink RJxc12de 1 yJxa1e45_init_da8c8, .instanceMethod yJxa1e45_init_da8c8, .initialized RJxa1e45, .code yJxa1e45_init_da8c8 cJxa1e45_init_da8c8 1 none, .methodLink RJxa1e45 1 objectInit, .instanceMethod objectInit, .code objectInit ⟨#[0xb1]⟩ 1 none] ++ wsJx4a65c0)
def wsJx4a65c_init_da8c8 : List Cond := .code yJx4a65c_init_da8c8 cJx4a65c_init_da8c8 1 none :: ([.fieldLink RJx4a65c 39 "java/util/ArrayList" "DEFAULTCAPACITY_EMPTY_ELEMENTDATA" "[Ljava/lang/Object;", .fieldLink RJx4a65c 9 "java/util/ArrayList" "elementData" "[Ljava/lang/Object;", .methodLink RJx4a65c 1 yJxc12de_init_da8c8, .instanceMethod yJxc12de_init_da8c8, .initialized RJxc12de, .code yJxc12de_init_da8c8 cJxc12de_init_da8c8 1 none, .fieldLink RJxc12de 7 "java/util/AbstractList" "modCount" "I", .methodLink RJxc12de 1 yJxa1e45_init_da8c8, .instanceMethod yJxa1e45_init_da8c8, .initialized RJxa1e45, .code yJxa1e45_init_da8c8 cJxa1e45_init_da8c8 1 none, .methodLink RJxa1e45 1 objectInit, .instanceMethod objectInit, .code objectInit ⟨#[0xb1]⟩ 1 none] ++ wsJx4a65c0)
def wsX1_init_r1 : List Cond := [Cond.methodLink RX1 3 objectInit, Cond.instanceMethod objectInit, Cond.code objectInit ⟨#[0xb1]⟩ 1 none, Cond.classLink RX1 9 RJx4a65c, Cond.instantiable RJx4a65c 3, Cond.initialized RJx4a65c, Cond.fieldLink RX1 12 "CacheDirectory$Home" "waiting" "Ljava/util/ArrayList;", Cond.fieldLink RX1 18 "CacheDirectory$Home" "memoryValue" "I", Cond.fieldLink RX1 22 "CacheDirectory$Home" "ownerCache" "I", Cond.fieldLink RX1 25 "CacheDirectory$Home" "sharerSet" "I", Cond.fieldLink RX1 28 "CacheDirectory$Home" "busy" "Z", Cond.fieldLink RX1 32 "CacheDirectory$Home" "timelyPuts" "I", Cond.fieldLink RX1 35 "CacheDirectory$Home" "latePuts" "I", Cond.fieldLink RX1 38 "CacheDirectory$Home" "line" "I", Cond.fieldLink RX1 41 "CacheDirectory$Home" "network" "LCacheDirectory$Network;", Cond.methodLink RX1 11 yJx4a65c_init_da8c8, Cond.instanceMethod yJx4a65c_init_da8c8, Cond.code yJx4a65c_init_da8c8 cJx4a65c_init_da8c8 1 none, Cond.fieldLink RJx4a65c 39 "java/util/ArrayList" "DEFAULTCAPACITY_EMPTY_ELEMENTDATA" "[Ljava/lang/Object;", Cond.fieldLink RJx4a65c 9 "java/util/ArrayList" "elementData" "[Ljava/lang/Object;", Cond.methodLink RJx4a65c 1 yJxc12de_init_da8c8, Cond.instanceMethod yJxc12de_init_da8c8, Cond.initialized RJxc12de, Cond.code yJxc12de_init_da8c8 cJxc12de_init_da8c8 1 none]
def wsX1_init_r2 : List Cond := [Cond.fieldLink RJxc12de 7 "java/util/AbstractList" "modCount" "I", Cond.methodLink RJxc12de 1 yJxa1e45_init_da8c8, Cond.instanceMethod yJxa1e45_init_da8c8, Cond.initialized RJxa1e45, Cond.code yJxa1e45_init_da8c8 cJxa1e45_init_da8c8 1 none, Cond.methodLink RJxa1e45 1 objectInit]
def wsX1_init : List Cond := .code yX1_init cX1_init 3 none :: ((wsX1_init_r1 ++ wsX1_init_r2) ++ wsJx4a65c0 ++ wsX10)
def wsJx4a65c_size_8abf5 : List Cond := .code yJx4a65c_size_8abf5 cJx4a65c_size_8abf5 1 (some .int) :: ([.fieldLink RJx4a65c 48 "java/util/ArrayList" "size" "I"] ++ wsJx4a65c0)
def wsJx4a65c_isEmpty_aae02 : List Cond := .code yJx4a65c_isEmpty_aae02 cJx4a65c_isEmpty_aae02 1 (some .boolean) :: ([.fieldLink RJx4a65c 48 "java/util/ArrayList" "size" "I"] ++ wsJx4a65c0)
def wsJ3_checkIndex_8e157 : List Cond := .code yJ3_checkIndex_8e157 cJ3_checkIndex_8e157 3 (some .int) :: ([])
def wsJ15_checkIndex_7cf53 : List Cond := .code yJ15_checkIndex_7cf53 cJ15_checkIndex_7cf53 2 (some .int) :: ([.methodLink RJ15 105 yJ3_checkIndex_8e157, .static yJ3_checkIndex_8e157, .initialized RJ3, .code yJ3_checkIndex_8e157 cJ3_checkIndex_8e157 3 (some .int)])
def wsJx4a65c_fastRemove_b59b0 : List Cond := .code yJx4a65c_fastRemove_b59b0 cJx4a65c_fastRemove_b59b0 4 none :: ([.fieldLink RJx4a65c 63 "java/util/ArrayList" "modCount" "I", .sameField "java/util/ArrayList" "java/util/AbstractList" "modCount" "I", .fieldLink RJx4a65c 48 "java/util/ArrayList" "size" "I", .methodLink RJx4a65c 112 arraycopyName, .native arraycopyName, .static arraycopyName, .initialized "java/lang/System"] ++ wsJx4a65c0)
def wsJx4a65c_remove_915e3 : List Cond := .code yJx4a65c_remove_915e3 cJx4a65c_remove_915e3 4 (some (.object "java/lang/Object")) :: ([.fieldLink RJx4a65c 48 "java/util/ArrayList" "size" "I", .fieldLink RJx4a65c 9 "java/util/ArrayList" "elementData" "[Ljava/lang/Object;", .methodLink RJx4a65c 118 yJ15_checkIndex_7cf53, .static yJ15_checkIndex_7cf53, .initialized RJ15, .code yJ15_checkIndex_7cf53 cJ15_checkIndex_7cf53 2 (some .int), .methodLink RJ15 105 yJ3_checkIndex_8e157, .static yJ3_checkIndex_8e157, .initialized RJ3, .code yJ3_checkIndex_8e157 cJ3_checkIndex_8e157 3 (some .int), .methodLink RJx4a65c 144 yJx4a65c_fastRemove_b59b0, .instanceMethod yJx4a65c_fastRemove_b59b0, .selects RJx4a65c yJx4a65c_fastRemove_b59b0 yJx4a65c_fastRemove_b59b0, .initialized RJx4a65c, .code yJx4a65c_fastRemove_b59b0 cJx4a65c_fastRemove_b59b0 4 none, .fieldLink RJx4a65c 63 "java/util/ArrayList" "modCount" "I", .sameField "java/util/ArrayList" "java/util/AbstractList" "modCount" "I", .methodLink RJx4a65c 112 arraycopyName, .native arraycopyName, .static arraycopyName, .initialized "java/lang/System"] ++ wsJx4a65c0)
def wsX1_processRead_r1 : List Cond := [Cond.fieldLink RX1 22 "CacheDirectory$Home" "ownerCache" "I", Cond.fieldLink RX1 41 "CacheDirectory$Home" "network" "LCacheDirectory$Network;", Cond.fieldLink RX1 38 "CacheDirectory$Home" "line" "I", Cond.fieldLink RX1 18 "CacheDirectory$Home" "memoryValue" "I", Cond.fieldLink RX1 89 "CacheDirectory$Message" "carried" "I", Cond.fieldLink RX1 92 "CacheDirectory$Message" "requester" "I", Cond.fieldLink RX1 25 "CacheDirectory$Home" "sharerSet" "I", Cond.fieldLink RX1 28 "CacheDirectory$Home" "busy" "Z", Cond.methodLink RX1 83 yX3_send, Cond.instanceMethod yX3_send, Cond.selects RX3 yX3_send yX3_send, Cond.initialized RX3, Cond.code yX3_send cX3_send 6 (some (.object "CacheDirectory$Message")), Cond.classLink RX3 16 RX2, Cond.instantiable RX2 7, Cond.initialized RX2, Cond.fieldLink RX3 10 "CacheDirectory$Network" "onTheWay" "Ljava/util/ArrayList;", Cond.methodLink RX3 18 yX2_init, Cond.instanceMethod yX2_init, Cond.code yX2_init cX2_init 5 none, Cond.methodLink RX2 3 objectInit, Cond.instanceMethod objectInit, Cond.code objectInit ⟨#[0xb1]⟩ 1 none, Cond.fieldLink RX2 9 "CacheDirectory$Message" "carried" "I"]
def wsX1_processRead_r2 : List Cond := [Cond.fieldLink RX2 15 "CacheDirectory$Message" "count" "I", Cond.fieldLink RX2 18 "CacheDirectory$Message" "requester" "I", Cond.fieldLink RX2 21 "CacheDirectory$Message" "kind" "I", Cond.fieldLink RX2 24 "CacheDirectory$Message" "line" "I", Cond.fieldLink RX2 27 "CacheDirectory$Message" "sender" "I", Cond.fieldLink RX2 30 "CacheDirectory$Message" "receiver" "I", Cond.methodLink RX3 21 yJx4a65c_add_9ea2d, Cond.instanceMethod yJx4a65c_add_9ea2d, Cond.selects RJx4a65c yJx4a65c_add_9ea2d yJx4a65c_add_9ea2d, Cond.initialized RJx4a65c, Cond.code yJx4a65c_add_9ea2d cJx4a65c_add_9ea2d 2 (some .boolean), Cond.fieldLink RJx4a65c 63 "java/util/ArrayList" "modCount" "I", Cond.sameField "java/util/ArrayList" "java/util/AbstractList" "modCount" "I", Cond.fieldLink RJx4a65c 9 "java/util/ArrayList" "elementData" "[Ljava/lang/Object;", Cond.fieldLink RJx4a65c 48 "java/util/ArrayList" "size" "I", Cond.methodLink RJx4a65c 131 yJx4a65c_add_72be8, Cond.instanceMethod yJx4a65c_add_72be8, Cond.selects RJx4a65c yJx4a65c_add_72be8 yJx4a65c_add_72be8, Cond.code yJx4a65c_add_72be8 cJx4a65c_add_72be8 4 none, Cond.methodLink RJx4a65c 129 yJx4a65c_grow_d5877, Cond.instanceMethod yJx4a65c_grow_d5877, Cond.selects RJx4a65c yJx4a65c_grow_d5877 yJx4a65c_grow_d5877, Cond.code yJx4a65c_grow_d5877 cJx4a65c_grow_d5877 1 (some (.array (.object "java/lang/Object"))), Cond.methodLink RJx4a65c 69 yJx4a65c_grow_92f84]
def wsX1_processRead_r3 : List Cond := [Cond.instanceMethod yJx4a65c_grow_92f84, Cond.selects RJx4a65c yJx4a65c_grow_92f84 yJx4a65c_grow_92f84, Cond.code yJx4a65c_grow_92f84 cJx4a65c_grow_92f84 4 (some (.array (.object "java/lang/Object"))), Cond.fieldLink RJx4a65c 39 "java/util/ArrayList" "DEFAULTCAPACITY_EMPTY_ELEMENTDATA" "[Ljava/lang/Object;", Cond.methodLink RJx4a65c 79 Lib.Math.max.name, Cond.static Lib.Math.max.name, Cond.initialized "java/lang/Math", Cond.code Lib.Math.max.name Lib.Math.max.code 2 (some .int), Cond.classLink RJx4a65c 7 "java/lang/Object", Cond.methodLink RJx4a65c 73 yJ8_newLength_cabcc, Cond.static yJ8_newLength_cabcc, Cond.initialized RJ8, Cond.code yJ8_newLength_cabcc cJ8_newLength_cabcc 4 (some .int), Cond.methodLink RJ8 194 Lib.Math.max.name, Cond.constant RJ8 200 (2147483639), Cond.methodLink RJ8 201 yJ8_hugeLength_7cf53, Cond.static yJ8_hugeLength_7cf53, Cond.code yJ8_hugeLength_7cf53 cJ8_hugeLength_7cf53 3 (some .int), Cond.methodLink RJx4a65c 66 yJ7_copyOf_1904c, Cond.static yJ7_copyOf_1904c, Cond.initialized RJ7, Cond.code yJ7_copyOf_1904c cJ7_copyOf_1904c 2 (some (.array (.object "java/lang/Object"))), Cond.methodLink RJ7 86 ⟨"java/lang/Object", "getClass", "()Ljava/lang/Class;"⟩, Cond.selects "[Ljava/lang/Object;" ⟨"java/lang/Object", "getClass", "()Ljava/lang/Class;"⟩ ⟨"java/lang/Object", "getClass", "()Ljava/lang/Class;"⟩]
def wsX1_processRead_r4 : List Cond := [Cond.instanceMethod ⟨"java/lang/Object", "getClass", "()Ljava/lang/Class;"⟩, Cond.native ⟨"java/lang/Object", "getClass", "()Ljava/lang/Class;"⟩, Cond.methodLink RJ7 300 yJ7_copyOf_6403c, Cond.static yJ7_copyOf_6403c, Cond.code yJ7_copyOf_6403c cJ7_copyOf_6403c 4 (some (.array (.object "java/lang/Object"))), Cond.classLink RJ7 110 "[Ljava/lang/Object;", Cond.classLink RJ7 2 "java/lang/Object", Cond.methodLink RJ7 304 Lib.Math.min.name, Cond.static Lib.Math.min.name, Cond.code Lib.Math.min.name Lib.Math.min.code 2 (some .int), Cond.methodLink RJ7 150 arraycopyName, Cond.native arraycopyName, Cond.static arraycopyName, Cond.initialized "java/lang/System"]
def wsX1_processRead : List Cond := .code yX1_processRead cX1_processRead 2 none :: ((wsX1_processRead_r1 ++ (wsX1_processRead_r2 ++ (wsX1_processRead_r3 ++ wsX1_processRead_r4))) ++ wsX10 ++ wsX20 ++ wsX30 ++ wsJx4a65c0)
def wsJ6_bitCount_0f7a4 : List Cond := .code yJ6_bitCount_0f7a4 cJ6_bitCount_0f7a4 1 (some .int) :: ([.constant RJ6 265 (1431655765), .constant RJ6 266 (858993459), .constant RJ6 267 (252645135)])
def wsX1_processWrite_r1 : List Cond := [Cond.fieldLink RX1 25 "CacheDirectory$Home" "sharerSet" "I", Cond.fieldLink RX1 22 "CacheDirectory$Home" "ownerCache" "I", Cond.fieldLink RX1 41 "CacheDirectory$Home" "network" "LCacheDirectory$Network;", Cond.fieldLink RX1 38 "CacheDirectory$Home" "line" "I", Cond.fieldLink RX1 92 "CacheDirectory$Message" "requester" "I", Cond.fieldLink RX1 18 "CacheDirectory$Home" "memoryValue" "I", Cond.fieldLink RX1 89 "CacheDirectory$Message" "carried" "I", Cond.fieldLink RX1 101 "CacheDirectory$Message" "count" "I", Cond.fieldLink RX1 28 "CacheDirectory$Home" "busy" "Z", Cond.methodLink RX1 83 yX3_send, Cond.instanceMethod yX3_send, Cond.selects RX3 yX3_send yX3_send, Cond.initialized RX3, Cond.code yX3_send cX3_send 6 (some (.object "CacheDirectory$Message")), Cond.classLink RX3 16 RX2, Cond.instantiable RX2 7, Cond.initialized RX2, Cond.fieldLink RX3 10 "CacheDirectory$Network" "onTheWay" "Ljava/util/ArrayList;", Cond.methodLink RX3 18 yX2_init, Cond.instanceMethod yX2_init, Cond.code yX2_init cX2_init 5 none, Cond.methodLink RX2 3 objectInit, Cond.instanceMethod objectInit, Cond.code objectInit ⟨#[0xb1]⟩ 1 none]
def wsX1_processWrite_r2 : List Cond := [Cond.fieldLink RX2 9 "CacheDirectory$Message" "carried" "I", Cond.fieldLink RX2 15 "CacheDirectory$Message" "count" "I", Cond.fieldLink RX2 18 "CacheDirectory$Message" "requester" "I", Cond.fieldLink RX2 21 "CacheDirectory$Message" "kind" "I", Cond.fieldLink RX2 24 "CacheDirectory$Message" "line" "I", Cond.fieldLink RX2 27 "CacheDirectory$Message" "sender" "I", Cond.fieldLink RX2 30 "CacheDirectory$Message" "receiver" "I", Cond.methodLink RX3 21 yJx4a65c_add_9ea2d, Cond.instanceMethod yJx4a65c_add_9ea2d, Cond.selects RJx4a65c yJx4a65c_add_9ea2d yJx4a65c_add_9ea2d, Cond.initialized RJx4a65c, Cond.code yJx4a65c_add_9ea2d cJx4a65c_add_9ea2d 2 (some .boolean), Cond.fieldLink RJx4a65c 63 "java/util/ArrayList" "modCount" "I", Cond.sameField "java/util/ArrayList" "java/util/AbstractList" "modCount" "I", Cond.fieldLink RJx4a65c 9 "java/util/ArrayList" "elementData" "[Ljava/lang/Object;", Cond.fieldLink RJx4a65c 48 "java/util/ArrayList" "size" "I", Cond.methodLink RJx4a65c 131 yJx4a65c_add_72be8, Cond.instanceMethod yJx4a65c_add_72be8, Cond.selects RJx4a65c yJx4a65c_add_72be8 yJx4a65c_add_72be8, Cond.code yJx4a65c_add_72be8 cJx4a65c_add_72be8 4 none, Cond.methodLink RJx4a65c 129 yJx4a65c_grow_d5877, Cond.instanceMethod yJx4a65c_grow_d5877, Cond.selects RJx4a65c yJx4a65c_grow_d5877 yJx4a65c_grow_d5877, Cond.code yJx4a65c_grow_d5877 cJx4a65c_grow_d5877 1 (some (.array (.object "java/lang/Object")))]
def wsX1_processWrite_r3 : List Cond := [Cond.methodLink RJx4a65c 69 yJx4a65c_grow_92f84, Cond.instanceMethod yJx4a65c_grow_92f84, Cond.selects RJx4a65c yJx4a65c_grow_92f84 yJx4a65c_grow_92f84, Cond.code yJx4a65c_grow_92f84 cJx4a65c_grow_92f84 4 (some (.array (.object "java/lang/Object"))), Cond.fieldLink RJx4a65c 39 "java/util/ArrayList" "DEFAULTCAPACITY_EMPTY_ELEMENTDATA" "[Ljava/lang/Object;", Cond.methodLink RJx4a65c 79 Lib.Math.max.name, Cond.static Lib.Math.max.name, Cond.initialized "java/lang/Math", Cond.code Lib.Math.max.name Lib.Math.max.code 2 (some .int), Cond.classLink RJx4a65c 7 "java/lang/Object", Cond.methodLink RJx4a65c 73 yJ8_newLength_cabcc, Cond.static yJ8_newLength_cabcc, Cond.initialized RJ8, Cond.code yJ8_newLength_cabcc cJ8_newLength_cabcc 4 (some .int), Cond.methodLink RJ8 194 Lib.Math.max.name, Cond.constant RJ8 200 (2147483639), Cond.methodLink RJ8 201 yJ8_hugeLength_7cf53, Cond.static yJ8_hugeLength_7cf53, Cond.code yJ8_hugeLength_7cf53 cJ8_hugeLength_7cf53 3 (some .int), Cond.methodLink RJx4a65c 66 yJ7_copyOf_1904c, Cond.static yJ7_copyOf_1904c, Cond.initialized RJ7, Cond.code yJ7_copyOf_1904c cJ7_copyOf_1904c 2 (some (.array (.object "java/lang/Object"))), Cond.methodLink RJ7 86 ⟨"java/lang/Object", "getClass", "()Ljava/lang/Class;"⟩]
def wsX1_processWrite_r4 : List Cond := [Cond.selects "[Ljava/lang/Object;" ⟨"java/lang/Object", "getClass", "()Ljava/lang/Class;"⟩ ⟨"java/lang/Object", "getClass", "()Ljava/lang/Class;"⟩, Cond.instanceMethod ⟨"java/lang/Object", "getClass", "()Ljava/lang/Class;"⟩, Cond.native ⟨"java/lang/Object", "getClass", "()Ljava/lang/Class;"⟩, Cond.methodLink RJ7 300 yJ7_copyOf_6403c, Cond.static yJ7_copyOf_6403c, Cond.code yJ7_copyOf_6403c cJ7_copyOf_6403c 4 (some (.array (.object "java/lang/Object"))), Cond.classLink RJ7 110 "[Ljava/lang/Object;", Cond.classLink RJ7 2 "java/lang/Object", Cond.methodLink RJ7 304 Lib.Math.min.name, Cond.static Lib.Math.min.name, Cond.code Lib.Math.min.name Lib.Math.min.code 2 (some .int), Cond.methodLink RJ7 150 arraycopyName, Cond.native arraycopyName, Cond.static arraycopyName, Cond.initialized "java/lang/System", Cond.methodLink RX1 95 yJ6_bitCount_0f7a4, Cond.static yJ6_bitCount_0f7a4, Cond.initialized RJ6, Cond.code yJ6_bitCount_0f7a4 cJ6_bitCount_0f7a4 1 (some .int), Cond.constant RJ6 265 (1431655765), Cond.constant RJ6 266 (858993459), Cond.constant RJ6 267 (252645135)]
def wsX1_processWrite : List Cond := .code yX1_processWrite cX1_processWrite 4 none :: ((wsX1_processWrite_r1 ++ (wsX1_processWrite_r2 ++ (wsX1_processWrite_r3 ++ wsX1_processWrite_r4))) ++ wsX10 ++ wsX20 ++ wsX30 ++ wsJx4a65c0)
def wsX1_processPut_r1 : List Cond := [Cond.fieldLink RX1 22 "CacheDirectory$Home" "ownerCache" "I", Cond.fieldLink RX1 70 "CacheDirectory$Message" "sender" "I", Cond.fieldLink RX1 89 "CacheDirectory$Message" "carried" "I", Cond.fieldLink RX1 18 "CacheDirectory$Home" "memoryValue" "I", Cond.fieldLink RX1 25 "CacheDirectory$Home" "sharerSet" "I", Cond.fieldLink RX1 32 "CacheDirectory$Home" "timelyPuts" "I", Cond.fieldLink RX1 35 "CacheDirectory$Home" "latePuts" "I", Cond.fieldLink RX1 41 "CacheDirectory$Home" "network" "LCacheDirectory$Network;", Cond.fieldLink RX1 38 "CacheDirectory$Home" "line" "I", Cond.methodLink RX1 83 yX3_send, Cond.instanceMethod yX3_send, Cond.selects RX3 yX3_send yX3_send, Cond.initialized RX3, Cond.code yX3_send cX3_send 6 (some (.object "CacheDirectory$Message")), Cond.classLink RX3 16 RX2, Cond.instantiable RX2 7, Cond.initialized RX2, Cond.fieldLink RX3 10 "CacheDirectory$Network" "onTheWay" "Ljava/util/ArrayList;", Cond.methodLink RX3 18 yX2_init, Cond.instanceMethod yX2_init, Cond.code yX2_init cX2_init 5 none, Cond.methodLink RX2 3 objectInit, Cond.instanceMethod objectInit, Cond.code objectInit ⟨#[0xb1]⟩ 1 none]
def wsX1_processPut_r2 : List Cond := [Cond.fieldLink RX2 9 "CacheDirectory$Message" "carried" "I", Cond.fieldLink RX2 15 "CacheDirectory$Message" "count" "I", Cond.fieldLink RX2 18 "CacheDirectory$Message" "requester" "I", Cond.fieldLink RX2 21 "CacheDirectory$Message" "kind" "I", Cond.fieldLink RX2 24 "CacheDirectory$Message" "line" "I", Cond.fieldLink RX2 27 "CacheDirectory$Message" "sender" "I", Cond.fieldLink RX2 30 "CacheDirectory$Message" "receiver" "I", Cond.methodLink RX3 21 yJx4a65c_add_9ea2d, Cond.instanceMethod yJx4a65c_add_9ea2d, Cond.selects RJx4a65c yJx4a65c_add_9ea2d yJx4a65c_add_9ea2d, Cond.initialized RJx4a65c, Cond.code yJx4a65c_add_9ea2d cJx4a65c_add_9ea2d 2 (some .boolean), Cond.fieldLink RJx4a65c 63 "java/util/ArrayList" "modCount" "I", Cond.sameField "java/util/ArrayList" "java/util/AbstractList" "modCount" "I", Cond.fieldLink RJx4a65c 9 "java/util/ArrayList" "elementData" "[Ljava/lang/Object;", Cond.fieldLink RJx4a65c 48 "java/util/ArrayList" "size" "I", Cond.methodLink RJx4a65c 131 yJx4a65c_add_72be8, Cond.instanceMethod yJx4a65c_add_72be8, Cond.selects RJx4a65c yJx4a65c_add_72be8 yJx4a65c_add_72be8, Cond.code yJx4a65c_add_72be8 cJx4a65c_add_72be8 4 none, Cond.methodLink RJx4a65c 129 yJx4a65c_grow_d5877, Cond.instanceMethod yJx4a65c_grow_d5877, Cond.selects RJx4a65c yJx4a65c_grow_d5877 yJx4a65c_grow_d5877, Cond.code yJx4a65c_grow_d5877 cJx4a65c_grow_d5877 1 (some (.array (.object "java/lang/Object")))]
def wsX1_processPut_r3 : List Cond := [Cond.methodLink RJx4a65c 69 yJx4a65c_grow_92f84, Cond.instanceMethod yJx4a65c_grow_92f84, Cond.selects RJx4a65c yJx4a65c_grow_92f84 yJx4a65c_grow_92f84, Cond.code yJx4a65c_grow_92f84 cJx4a65c_grow_92f84 4 (some (.array (.object "java/lang/Object"))), Cond.fieldLink RJx4a65c 39 "java/util/ArrayList" "DEFAULTCAPACITY_EMPTY_ELEMENTDATA" "[Ljava/lang/Object;", Cond.methodLink RJx4a65c 79 Lib.Math.max.name, Cond.static Lib.Math.max.name, Cond.initialized "java/lang/Math", Cond.code Lib.Math.max.name Lib.Math.max.code 2 (some .int), Cond.classLink RJx4a65c 7 "java/lang/Object", Cond.methodLink RJx4a65c 73 yJ8_newLength_cabcc, Cond.static yJ8_newLength_cabcc, Cond.initialized RJ8, Cond.code yJ8_newLength_cabcc cJ8_newLength_cabcc 4 (some .int), Cond.methodLink RJ8 194 Lib.Math.max.name, Cond.constant RJ8 200 (2147483639), Cond.methodLink RJ8 201 yJ8_hugeLength_7cf53, Cond.static yJ8_hugeLength_7cf53, Cond.code yJ8_hugeLength_7cf53 cJ8_hugeLength_7cf53 3 (some .int), Cond.methodLink RJx4a65c 66 yJ7_copyOf_1904c, Cond.static yJ7_copyOf_1904c, Cond.initialized RJ7, Cond.code yJ7_copyOf_1904c cJ7_copyOf_1904c 2 (some (.array (.object "java/lang/Object"))), Cond.methodLink RJ7 86 ⟨"java/lang/Object", "getClass", "()Ljava/lang/Class;"⟩]
def wsX1_processPut_r4 : List Cond := [Cond.selects "[Ljava/lang/Object;" ⟨"java/lang/Object", "getClass", "()Ljava/lang/Class;"⟩ ⟨"java/lang/Object", "getClass", "()Ljava/lang/Class;"⟩, Cond.instanceMethod ⟨"java/lang/Object", "getClass", "()Ljava/lang/Class;"⟩, Cond.native ⟨"java/lang/Object", "getClass", "()Ljava/lang/Class;"⟩, Cond.methodLink RJ7 300 yJ7_copyOf_6403c, Cond.static yJ7_copyOf_6403c, Cond.code yJ7_copyOf_6403c cJ7_copyOf_6403c 4 (some (.array (.object "java/lang/Object"))), Cond.classLink RJ7 110 "[Ljava/lang/Object;", Cond.classLink RJ7 2 "java/lang/Object", Cond.methodLink RJ7 304 Lib.Math.min.name, Cond.static Lib.Math.min.name, Cond.code Lib.Math.min.name Lib.Math.min.code 2 (some .int), Cond.methodLink RJ7 150 arraycopyName, Cond.native arraycopyName, Cond.static arraycopyName, Cond.initialized "java/lang/System"]
def wsX1_processPut : List Cond := .code yX1_processPut cX1_processPut 2 none :: ((wsX1_processPut_r1 ++ (wsX1_processPut_r2 ++ (wsX1_processPut_r3 ++ wsX1_processPut_r4))) ++ wsX10 ++ wsX20 ++ wsX30 ++ wsJx4a65c0)
def wsX1_process_r1 : List Cond := [Cond.fieldLink RX1 45 "CacheDirectory$Message" "kind" "I", Cond.fieldLink RX1 70 "CacheDirectory$Message" "sender" "I", Cond.methodLink RX1 73 yX1_processRead, Cond.instanceMethod yX1_processRead, Cond.selects RX1 yX1_processRead yX1_processRead, Cond.initialized RX1, Cond.code yX1_processRead cX1_processRead 2 none, Cond.fieldLink RX1 22 "CacheDirectory$Home" "ownerCache" "I", Cond.fieldLink RX1 41 "CacheDirectory$Home" "network" "LCacheDirectory$Network;", Cond.fieldLink RX1 38 "CacheDirectory$Home" "line" "I", Cond.fieldLink RX1 18 "CacheDirectory$Home" "memoryValue" "I", Cond.fieldLink RX1 89 "CacheDirectory$Message" "carried" "I", Cond.fieldLink RX1 92 "CacheDirectory$Message" "requester" "I", Cond.fieldLink RX1 25 "CacheDirectory$Home" "sharerSet" "I", Cond.fieldLink RX1 28 "CacheDirectory$Home" "busy" "Z", Cond.methodLink RX1 83 yX3_send, Cond.instanceMethod yX3_send, Cond.selects RX3 yX3_send yX3_send, Cond.initialized RX3, Cond.code yX3_send cX3_send 6 (some (.object "CacheDirectory$Message")), Cond.classLink RX3 16 RX2, Cond.instantiable RX2 7, Cond.initialized RX2, Cond.fieldLink RX3 10 "CacheDirectory$Network" "onTheWay" "Ljava/util/ArrayList;"]
def wsX1_process_r2 : List Cond := [Cond.methodLink RX3 18 yX2_init, Cond.instanceMethod yX2_init, Cond.code yX2_init cX2_init 5 none, Cond.methodLink RX2 3 objectInit, Cond.instanceMethod objectInit, Cond.code objectInit ⟨#[0xb1]⟩ 1 none, Cond.fieldLink RX2 9 "CacheDirectory$Message" "carried" "I", Cond.fieldLink RX2 15 "CacheDirectory$Message" "count" "I", Cond.fieldLink RX2 18 "CacheDirectory$Message" "requester" "I", Cond.fieldLink RX2 21 "CacheDirectory$Message" "kind" "I", Cond.fieldLink RX2 24 "CacheDirectory$Message" "line" "I", Cond.fieldLink RX2 27 "CacheDirectory$Message" "sender" "I", Cond.fieldLink RX2 30 "CacheDirectory$Message" "receiver" "I", Cond.methodLink RX3 21 yJx4a65c_add_9ea2d, Cond.instanceMethod yJx4a65c_add_9ea2d, Cond.selects RJx4a65c yJx4a65c_add_9ea2d yJx4a65c_add_9ea2d, Cond.initialized RJx4a65c, Cond.code yJx4a65c_add_9ea2d cJx4a65c_add_9ea2d 2 (some .boolean), Cond.fieldLink RJx4a65c 63 "java/util/ArrayList" "modCount" "I", Cond.sameField "java/util/ArrayList" "java/util/AbstractList" "modCount" "I", Cond.fieldLink RJx4a65c 9 "java/util/ArrayList" "elementData" "[Ljava/lang/Object;", Cond.fieldLink RJx4a65c 48 "java/util/ArrayList" "size" "I", Cond.methodLink RJx4a65c 131 yJx4a65c_add_72be8, Cond.instanceMethod yJx4a65c_add_72be8]
def wsX1_process_r3 : List Cond := [Cond.selects RJx4a65c yJx4a65c_add_72be8 yJx4a65c_add_72be8, Cond.code yJx4a65c_add_72be8 cJx4a65c_add_72be8 4 none, Cond.methodLink RJx4a65c 129 yJx4a65c_grow_d5877, Cond.instanceMethod yJx4a65c_grow_d5877, Cond.selects RJx4a65c yJx4a65c_grow_d5877 yJx4a65c_grow_d5877, Cond.code yJx4a65c_grow_d5877 cJx4a65c_grow_d5877 1 (some (.array (.object "java/lang/Object"))), Cond.methodLink RJx4a65c 69 yJx4a65c_grow_92f84, Cond.instanceMethod yJx4a65c_grow_92f84, Cond.selects RJx4a65c yJx4a65c_grow_92f84 yJx4a65c_grow_92f84, Cond.code yJx4a65c_grow_92f84 cJx4a65c_grow_92f84 4 (some (.array (.object "java/lang/Object"))), Cond.fieldLink RJx4a65c 39 "java/util/ArrayList" "DEFAULTCAPACITY_EMPTY_ELEMENTDATA" "[Ljava/lang/Object;", Cond.methodLink RJx4a65c 79 Lib.Math.max.name, Cond.static Lib.Math.max.name, Cond.initialized "java/lang/Math", Cond.code Lib.Math.max.name Lib.Math.max.code 2 (some .int), Cond.classLink RJx4a65c 7 "java/lang/Object", Cond.methodLink RJx4a65c 73 yJ8_newLength_cabcc, Cond.static yJ8_newLength_cabcc, Cond.initialized RJ8, Cond.code yJ8_newLength_cabcc cJ8_newLength_cabcc 4 (some .int), Cond.methodLink RJ8 194 Lib.Math.max.name, Cond.constant RJ8 200 (2147483639), Cond.methodLink RJ8 201 yJ8_hugeLength_7cf53, Cond.static yJ8_hugeLength_7cf53]
def wsX1_process_r4 : List Cond := [Cond.code yJ8_hugeLength_7cf53 cJ8_hugeLength_7cf53 3 (some .int), Cond.methodLink RJx4a65c 66 yJ7_copyOf_1904c, Cond.static yJ7_copyOf_1904c, Cond.initialized RJ7, Cond.code yJ7_copyOf_1904c cJ7_copyOf_1904c 2 (some (.array (.object "java/lang/Object"))), Cond.methodLink RJ7 86 ⟨"java/lang/Object", "getClass", "()Ljava/lang/Class;"⟩, Cond.selects "[Ljava/lang/Object;" ⟨"java/lang/Object", "getClass", "()Ljava/lang/Class;"⟩ ⟨"java/lang/Object", "getClass", "()Ljava/lang/Class;"⟩, Cond.instanceMethod ⟨"java/lang/Object", "getClass", "()Ljava/lang/Class;"⟩, Cond.native ⟨"java/lang/Object", "getClass", "()Ljava/lang/Class;"⟩, Cond.methodLink RJ7 300 yJ7_copyOf_6403c, Cond.static yJ7_copyOf_6403c, Cond.code yJ7_copyOf_6403c cJ7_copyOf_6403c 4 (some (.array (.object "java/lang/Object"))), Cond.classLink RJ7 110 "[Ljava/lang/Object;", Cond.classLink RJ7 2 "java/lang/Object", Cond.methodLink RJ7 304 Lib.Math.min.name, Cond.static Lib.Math.min.name, Cond.code Lib.Math.min.name Lib.Math.min.code 2 (some .int), Cond.methodLink RJ7 150 arraycopyName, Cond.native arraycopyName, Cond.static arraycopyName, Cond.initialized "java/lang/System", Cond.methodLink RX1 77 yX1_processWrite, Cond.instanceMethod yX1_processWrite, Cond.selects RX1 yX1_processWrite yX1_processWrite]
def wsX1_process_r5 : List Cond := [Cond.code yX1_processWrite cX1_processWrite 4 none, Cond.fieldLink RX1 101 "CacheDirectory$Message" "count" "I", Cond.methodLink RX1 95 yJ6_bitCount_0f7a4, Cond.static yJ6_bitCount_0f7a4, Cond.initialized RJ6, Cond.code yJ6_bitCount_0f7a4 cJ6_bitCount_0f7a4 1 (some .int), Cond.constant RJ6 265 (1431655765), Cond.constant RJ6 266 (858993459), Cond.constant RJ6 267 (252645135), Cond.methodLink RX1 80 yX1_processPut, Cond.instanceMethod yX1_processPut, Cond.selects RX1 yX1_processPut yX1_processPut, Cond.code yX1_processPut cX1_processPut 2 none, Cond.fieldLink RX1 32 "CacheDirectory$Home" "timelyPuts" "I", Cond.fieldLink RX1 35 "CacheDirectory$Home" "latePuts" "I"]
def wsX1_process : List Cond := .code yX1_process cX1_process 2 none :: ((wsX1_process_r1 ++ (wsX1_process_r2 ++ (wsX1_process_r3 ++ (wsX1_process_r4 ++ wsX1_process_r5)))) ++ wsX20 ++ wsX10 ++ wsX30 ++ wsJx4a65c0)
def wsX1_receive_r1 : List Cond := [Cond.fieldLink RX1 45 "CacheDirectory$Message" "kind" "I", Cond.fieldLink RX1 28 "CacheDirectory$Home" "busy" "Z", Cond.fieldLink RX1 12 "CacheDirectory$Home" "waiting" "Ljava/util/ArrayList;", Cond.classLink RX1 46 "CacheDirectory$Message", Cond.methodLink RX1 50 yJx4a65c_size_8abf5, Cond.instanceMethod yJx4a65c_size_8abf5, Cond.selects RJx4a65c yJx4a65c_size_8abf5 yJx4a65c_size_8abf5, Cond.initialized RJx4a65c, Cond.code yJx4a65c_size_8abf5 cJx4a65c_size_8abf5 1 (some .int), Cond.fieldLink RJx4a65c 48 "java/util/ArrayList" "size" "I", Cond.methodLink RX1 54 yJx4a65c_isEmpty_aae02, Cond.instanceMethod yJx4a65c_isEmpty_aae02, Cond.selects RJx4a65c yJx4a65c_isEmpty_aae02 yJx4a65c_isEmpty_aae02, Cond.code yJx4a65c_isEmpty_aae02 cJx4a65c_isEmpty_aae02 1 (some .boolean), Cond.methodLink RX1 58 yJx4a65c_remove_915e3, Cond.instanceMethod yJx4a65c_remove_915e3, Cond.selects RJx4a65c yJx4a65c_remove_915e3 yJx4a65c_remove_915e3, Cond.code yJx4a65c_remove_915e3 cJx4a65c_remove_915e3 4 (some (.object "java/lang/Object")), Cond.fieldLink RJx4a65c 9 "java/util/ArrayList" "elementData" "[Ljava/lang/Object;", Cond.methodLink RJx4a65c 118 yJ15_checkIndex_7cf53, Cond.static yJ15_checkIndex_7cf53, Cond.initialized RJ15, Cond.code yJ15_checkIndex_7cf53 cJ15_checkIndex_7cf53 2 (some .int), Cond.methodLink RJ15 105 yJ3_checkIndex_8e157]
def wsX1_receive_r2 : List Cond := [Cond.static yJ3_checkIndex_8e157, Cond.initialized RJ3, Cond.code yJ3_checkIndex_8e157 cJ3_checkIndex_8e157 3 (some .int), Cond.methodLink RJx4a65c 144 yJx4a65c_fastRemove_b59b0, Cond.instanceMethod yJx4a65c_fastRemove_b59b0, Cond.selects RJx4a65c yJx4a65c_fastRemove_b59b0 yJx4a65c_fastRemove_b59b0, Cond.code yJx4a65c_fastRemove_b59b0 cJx4a65c_fastRemove_b59b0 4 none, Cond.fieldLink RJx4a65c 63 "java/util/ArrayList" "modCount" "I", Cond.sameField "java/util/ArrayList" "java/util/AbstractList" "modCount" "I", Cond.methodLink RJx4a65c 112 arraycopyName, Cond.native arraycopyName, Cond.static arraycopyName, Cond.initialized "java/lang/System", Cond.methodLink RX1 62 yX1_process, Cond.instanceMethod yX1_process, Cond.selects RX1 yX1_process yX1_process, Cond.initialized RX1, Cond.code yX1_process cX1_process 2 none, Cond.fieldLink RX1 70 "CacheDirectory$Message" "sender" "I", Cond.methodLink RX1 73 yX1_processRead, Cond.instanceMethod yX1_processRead, Cond.selects RX1 yX1_processRead yX1_processRead, Cond.code yX1_processRead cX1_processRead 2 none, Cond.fieldLink RX1 22 "CacheDirectory$Home" "ownerCache" "I"]
def wsX1_receive_r3 : List Cond := [Cond.fieldLink RX1 41 "CacheDirectory$Home" "network" "LCacheDirectory$Network;", Cond.fieldLink RX1 38 "CacheDirectory$Home" "line" "I", Cond.fieldLink RX1 18 "CacheDirectory$Home" "memoryValue" "I", Cond.fieldLink RX1 89 "CacheDirectory$Message" "carried" "I", Cond.fieldLink RX1 92 "CacheDirectory$Message" "requester" "I", Cond.fieldLink RX1 25 "CacheDirectory$Home" "sharerSet" "I", Cond.methodLink RX1 83 yX3_send, Cond.instanceMethod yX3_send, Cond.selects RX3 yX3_send yX3_send, Cond.initialized RX3, Cond.code yX3_send cX3_send 6 (some (.object "CacheDirectory$Message")), Cond.classLink RX3 16 RX2, Cond.instantiable RX2 7, Cond.initialized RX2, Cond.fieldLink RX3 10 "CacheDirectory$Network" "onTheWay" "Ljava/util/ArrayList;", Cond.methodLink RX3 18 yX2_init, Cond.instanceMethod yX2_init, Cond.code yX2_init cX2_init 5 none, Cond.methodLink RX2 3 objectInit, Cond.instanceMethod objectInit, Cond.code objectInit ⟨#[0xb1]⟩ 1 none, Cond.fieldLink RX2 9 "CacheDirectory$Message" "carried" "I", Cond.fieldLink RX2 15 "CacheDirectory$Message" "count" "I", Cond.fieldLink RX2 18 "CacheDirectory$Message" "requester" "I"]
def wsX1_receive_r4 : List Cond := [Cond.fieldLink RX2 21 "CacheDirectory$Message" "kind" "I", Cond.fieldLink RX2 24 "CacheDirectory$Message" "line" "I", Cond.fieldLink RX2 27 "CacheDirectory$Message" "sender" "I", Cond.fieldLink RX2 30 "CacheDirectory$Message" "receiver" "I", Cond.methodLink RX3 21 yJx4a65c_add_9ea2d, Cond.instanceMethod yJx4a65c_add_9ea2d, Cond.selects RJx4a65c yJx4a65c_add_9ea2d yJx4a65c_add_9ea2d, Cond.code yJx4a65c_add_9ea2d cJx4a65c_add_9ea2d 2 (some .boolean), Cond.methodLink RJx4a65c 131 yJx4a65c_add_72be8, Cond.instanceMethod yJx4a65c_add_72be8, Cond.selects RJx4a65c yJx4a65c_add_72be8 yJx4a65c_add_72be8, Cond.code yJx4a65c_add_72be8 cJx4a65c_add_72be8 4 none, Cond.methodLink RJx4a65c 129 yJx4a65c_grow_d5877, Cond.instanceMethod yJx4a65c_grow_d5877, Cond.selects RJx4a65c yJx4a65c_grow_d5877 yJx4a65c_grow_d5877, Cond.code yJx4a65c_grow_d5877 cJx4a65c_grow_d5877 1 (some (.array (.object "java/lang/Object"))), Cond.methodLink RJx4a65c 69 yJx4a65c_grow_92f84, Cond.instanceMethod yJx4a65c_grow_92f84, Cond.selects RJx4a65c yJx4a65c_grow_92f84 yJx4a65c_grow_92f84, Cond.code yJx4a65c_grow_92f84 cJx4a65c_grow_92f84 4 (some (.array (.object "java/lang/Object"))), Cond.fieldLink RJx4a65c 39 "java/util/ArrayList" "DEFAULTCAPACITY_EMPTY_ELEMENTDATA" "[Ljava/lang/Object;", Cond.methodLink RJx4a65c 79 Lib.Math.max.name, Cond.static Lib.Math.max.name, Cond.initialized "java/lang/Math"]
def wsX1_receive_r5 : List Cond := [Cond.code Lib.Math.max.name Lib.Math.max.code 2 (some .int), Cond.classLink RJx4a65c 7 "java/lang/Object", Cond.methodLink RJx4a65c 73 yJ8_newLength_cabcc, Cond.static yJ8_newLength_cabcc, Cond.initialized RJ8, Cond.code yJ8_newLength_cabcc cJ8_newLength_cabcc 4 (some .int), Cond.methodLink RJ8 194 Lib.Math.max.name, Cond.constant RJ8 200 (2147483639), Cond.methodLink RJ8 201 yJ8_hugeLength_7cf53, Cond.static yJ8_hugeLength_7cf53, Cond.code yJ8_hugeLength_7cf53 cJ8_hugeLength_7cf53 3 (some .int), Cond.methodLink RJx4a65c 66 yJ7_copyOf_1904c, Cond.static yJ7_copyOf_1904c, Cond.initialized RJ7, Cond.code yJ7_copyOf_1904c cJ7_copyOf_1904c 2 (some (.array (.object "java/lang/Object"))), Cond.methodLink RJ7 86 ⟨"java/lang/Object", "getClass", "()Ljava/lang/Class;"⟩, Cond.selects "[Ljava/lang/Object;" ⟨"java/lang/Object", "getClass", "()Ljava/lang/Class;"⟩ ⟨"java/lang/Object", "getClass", "()Ljava/lang/Class;"⟩, Cond.instanceMethod ⟨"java/lang/Object", "getClass", "()Ljava/lang/Class;"⟩, Cond.native ⟨"java/lang/Object", "getClass", "()Ljava/lang/Class;"⟩, Cond.methodLink RJ7 300 yJ7_copyOf_6403c, Cond.static yJ7_copyOf_6403c, Cond.code yJ7_copyOf_6403c cJ7_copyOf_6403c 4 (some (.array (.object "java/lang/Object"))), Cond.classLink RJ7 110 "[Ljava/lang/Object;", Cond.classLink RJ7 2 "java/lang/Object"]
def wsX1_receive_r6 : List Cond := [Cond.methodLink RJ7 304 Lib.Math.min.name, Cond.static Lib.Math.min.name, Cond.code Lib.Math.min.name Lib.Math.min.code 2 (some .int), Cond.methodLink RJ7 150 arraycopyName, Cond.methodLink RX1 77 yX1_processWrite, Cond.instanceMethod yX1_processWrite, Cond.selects RX1 yX1_processWrite yX1_processWrite, Cond.code yX1_processWrite cX1_processWrite 4 none, Cond.fieldLink RX1 101 "CacheDirectory$Message" "count" "I", Cond.methodLink RX1 95 yJ6_bitCount_0f7a4, Cond.static yJ6_bitCount_0f7a4, Cond.initialized RJ6, Cond.code yJ6_bitCount_0f7a4 cJ6_bitCount_0f7a4 1 (some .int), Cond.constant RJ6 265 (1431655765), Cond.constant RJ6 266 (858993459), Cond.constant RJ6 267 (252645135), Cond.methodLink RX1 80 yX1_processPut, Cond.instanceMethod yX1_processPut, Cond.selects RX1 yX1_processPut yX1_processPut, Cond.code yX1_processPut cX1_processPut 2 none, Cond.fieldLink RX1 32 "CacheDirectory$Home" "timelyPuts" "I", Cond.fieldLink RX1 35 "CacheDirectory$Home" "latePuts" "I", Cond.methodLink RX1 66 yJx4a65c_add_9ea2d]
def wsX1_receive : List Cond := .code yX1_receive cX1_receive 3 none :: ((wsX1_receive_r1 ++ (wsX1_receive_r2 ++ (wsX1_receive_r3 ++ (wsX1_receive_r4 ++ (wsX1_receive_r5 ++ wsX1_receive_r6))))) ++ wsX20 ++ wsX10 ++ wsJx4a65c0 ++ wsX30)
def wsX3_init : List Cond := .code yX3_init cX3_init 1 none :: ([.methodLink RX3 1 objectInit, .instanceMethod objectInit, .code objectInit ⟨#[0xb1]⟩ 1 none, .classLink RX3 7 RJx4a65c, .instantiable RJx4a65c 3, .initialized RJx4a65c, .fieldLink RX3 10 "CacheDirectory$Network" "onTheWay" "Ljava/util/ArrayList;", .methodLink RX3 9 yJx4a65c_init_da8c8, .instanceMethod yJx4a65c_init_da8c8, .code yJx4a65c_init_da8c8 cJx4a65c_init_da8c8 1 none, .fieldLink RJx4a65c 39 "java/util/ArrayList" "DEFAULTCAPACITY_EMPTY_ELEMENTDATA" "[Ljava/lang/Object;", .fieldLink RJx4a65c 9 "java/util/ArrayList" "elementData" "[Ljava/lang/Object;", .methodLink RJx4a65c 1 yJxc12de_init_da8c8, .instanceMethod yJxc12de_init_da8c8, .initialized RJxc12de, .code yJxc12de_init_da8c8 cJxc12de_init_da8c8 1 none, .fieldLink RJxc12de 7 "java/util/AbstractList" "modCount" "I", .methodLink RJxc12de 1 yJxa1e45_init_da8c8, .instanceMethod yJxa1e45_init_da8c8, .initialized RJxa1e45, .code yJxa1e45_init_da8c8 cJxa1e45_init_da8c8 1 none, .methodLink RJxa1e45 1 objectInit] ++ wsJx4a65c0 ++ wsX30)
def wsX5_init_r1 : List Cond := [Cond.methodLink RX5 1 objectInit, Cond.instanceMethod objectInit, Cond.code objectInit ⟨#[0xb1]⟩ 1 none, Cond.classLink RX5 7 RX3, Cond.instantiable RX3 1, Cond.initialized RX3, Cond.fieldLink RX5 10 "CacheDirectory" "network" "LCacheDirectory$Network;", Cond.classLink RX5 16 RX0, Cond.fieldLink RX5 18 "CacheDirectory" "caches" "[LCacheDirectory$Cache;", Cond.instantiable RX0 14, Cond.initialized RX0, Cond.classLink RX5 25 RX1, Cond.fieldLink RX5 27 "CacheDirectory" "homes" "[LCacheDirectory$Home;", Cond.instantiable RX1 9, Cond.initialized RX1, Cond.instanceMethod yX3_init, Cond.code yX3_init cX3_init 1 none, Cond.methodLink RX3 1 objectInit, Cond.classLink RX3 7 RJx4a65c, Cond.instantiable RJx4a65c 3, Cond.initialized RJx4a65c, Cond.fieldLink RX3 10 "CacheDirectory$Network" "onTheWay" "Ljava/util/ArrayList;", Cond.methodLink RX3 9 yJx4a65c_init_da8c8, Cond.instanceMethod yJx4a65c_init_da8c8]
def wsX5_init_r2 : List Cond := [Cond.code yJx4a65c_init_da8c8 cJx4a65c_init_da8c8 1 none, Cond.fieldLink RJx4a65c 39 "java/util/ArrayList" "DEFAULTCAPACITY_EMPTY_ELEMENTDATA" "[Ljava/lang/Object;", Cond.fieldLink RJx4a65c 9 "java/util/ArrayList" "elementData" "[Ljava/lang/Object;", Cond.methodLink RJx4a65c 1 yJxc12de_init_da8c8, Cond.instanceMethod yJxc12de_init_da8c8, Cond.initialized RJxc12de, Cond.code yJxc12de_init_da8c8 cJxc12de_init_da8c8 1 none, Cond.fieldLink RJxc12de 7 "java/util/AbstractList" "modCount" "I", Cond.methodLink RJxc12de 1 yJxa1e45_init_da8c8, Cond.instanceMethod yJxa1e45_init_da8c8, Cond.initialized RJxa1e45, Cond.code yJxa1e45_init_da8c8 cJxa1e45_init_da8c8 1 none, Cond.methodLink RJxa1e45 1 objectInit, Cond.methodLink RX5 22 yX0_init, Cond.instanceMethod yX0_init, Cond.code yX0_init cX0_init 4 none, Cond.methodLink RX0 3 objectInit, Cond.classLink RX0 9 RX4, Cond.instantiable RX4 7, Cond.initialized RX4, Cond.fieldLink RX0 12 "CacheDirectory$Cache" "request" "LCacheDirectory$Request;", Cond.arrayClass .int, Cond.fieldLink RX0 18 "CacheDirectory$Cache" "states" "[I", Cond.fieldLink RX0 22 "CacheDirectory$Cache" "values" "[I"]
def wsX5_init_r3 : List Cond := [Cond.fieldLink RX0 25 "CacheDirectory$Cache" "victimValues" "[I", Cond.fieldLink RX0 28 "CacheDirectory$Cache" "useOrder" "[I", Cond.fieldLink RX0 31 "CacheDirectory$Cache" "lineCount" "I", Cond.fieldLink RX0 35 "CacheDirectory$Cache" "victimCount" "I", Cond.fieldLink RX0 38 "CacheDirectory$Cache" "ways" "I", Cond.fieldLink RX0 41 "CacheDirectory$Cache" "victimRoom" "I", Cond.fieldLink RX0 44 "CacheDirectory$Cache" "latestResult" "I", Cond.fieldLink RX0 47 "CacheDirectory$Cache" "hitCount" "I", Cond.fieldLink RX0 50 "CacheDirectory$Cache" "missCount" "I", Cond.fieldLink RX0 53 "CacheDirectory$Cache" "number" "I", Cond.fieldLink RX0 56 "CacheDirectory$Cache" "network" "LCacheDirectory$Network;", Cond.instanceMethod yX4_init, Cond.code yX4_init cX4_init 1 none, Cond.methodLink RX4 3 objectInit, Cond.fieldLink RX4 9 "CacheDirectory$Request" "line" "I", Cond.methodLink RX5 31 yX1_init, Cond.instanceMethod yX1_init, Cond.code yX1_init cX1_init 3 none, Cond.methodLink RX1 3 objectInit, Cond.classLink RX1 9 RJx4a65c, Cond.fieldLink RX1 12 "CacheDirectory$Home" "waiting" "Ljava/util/ArrayList;", Cond.fieldLink RX1 18 "CacheDirectory$Home" "memoryValue" "I", Cond.fieldLink RX1 22 "CacheDirectory$Home" "ownerCache" "I", Cond.fieldLink RX1 25 "CacheDirectory$Home" "sharerSet" "I"]
def wsX5_init_r4 : List Cond := [Cond.fieldLink RX1 28 "CacheDirectory$Home" "busy" "Z", Cond.fieldLink RX1 32 "CacheDirectory$Home" "timelyPuts" "I", Cond.fieldLink RX1 35 "CacheDirectory$Home" "latePuts" "I", Cond.fieldLink RX1 38 "CacheDirectory$Home" "line" "I", Cond.fieldLink RX1 41 "CacheDirectory$Home" "network" "LCacheDirectory$Network;", Cond.methodLink RX1 11 yJx4a65c_init_da8c8]
def wsX5_init : List Cond := .code yX5_init cX5_init 2 none :: ((wsX5_init_r1 ++ (wsX5_init_r2 ++ (wsX5_init_r3 ++ wsX5_init_r4))) ++ wsX30 ++ wsX50 ++ wsX00 ++ wsX10 ++ wsJx4a65c0 ++ wsX40)
def wsX5_cacheAt : List Cond := .code yX5_cacheAt cX5_cacheAt 2 (some (.object "CacheDirectory$Cache")) :: ([.classLink RX5 210 "java/lang/IndexOutOfBoundsException", .initialized "java/lang/IndexOutOfBoundsException", .fieldLink RX5 18 "CacheDirectory" "caches" "[LCacheDirectory$Cache;"] ++ wsX50 ++ (vx_atS RX5 214 "java/lang/IndexOutOfBoundsException" ["java/lang/RuntimeException", "java/lang/Exception"]).filter goodWord)
def wsX5_setRoom : List Cond := .code yX5_setRoom cX5_setRoom 6 (some .boolean) :: ([.classLink RX5 36 "java/lang/IllegalArgumentException", .initialized "java/lang/IllegalArgumentException", .classLink RX5 49 "java/lang/IllegalStateException", .initialized "java/lang/IllegalStateException", .fieldLink RX5 54 "CacheDirectory$Cache" "ways" "I", .fieldLink RX5 58 "CacheDirectory$Cache" "victimRoom" "I", .methodLink RX5 32 yX5_cacheAt, .instanceMethod yX5_cacheAt, .selects RX5 yX5_cacheAt yX5_cacheAt, .initialized RX5, .code yX5_cacheAt cX5_cacheAt 2 (some (.object "CacheDirectory$Cache")), .classLink RX5 210 "java/lang/IndexOutOfBoundsException", .initialized "java/lang/IndexOutOfBoundsException", .fieldLink RX5 18 "CacheDirectory" "caches" "[LCacheDirectory$Cache;", .methodLink RX5 45 yX0_isInUse, .instanceMethod yX0_isInUse, .selects RX0 yX0_isInUse yX0_isInUse, .initialized RX0, .code yX0_isInUse cX0_isInUse 1 (some .boolean), .fieldLink RX0 31 "CacheDirectory$Cache" "lineCount" "I", .fieldLink RX0 35 "CacheDirectory$Cache" "victimCount" "I", .fieldLink RX0 12 "CacheDirectory$Cache" "request" "LCacheDirectory$Request;", .fieldLink RX0 60 "CacheDirectory$Request" "line" "I"] ++ wsX00 ++ wsX50 ++ wsX40 ++ (vx_atS RX5 40 "java/lang/IllegalArgumentException" ["java/lang/RuntimeException", "java/lang/Exception"]).filter goodWord ++ (vx_atS RX5 53 "java/lang/IllegalStateException" ["java/lang/RuntimeException", "java/lang/Exception"]).filter goodWord ++ (vx_atS RX5 214 "java/lang/IndexOutOfBoundsException" ["java/lang/RuntimeException", "java/lang/Exception"]).filter goodWord)
def wsX5_checkLine : List Cond := .code yX5_checkLine cX5_checkLine 1 none :: ([.classLink RX5 210 "java/lang/IndexOutOfBoundsException", .initialized "java/lang/IndexOutOfBoundsException"] ++ (vx_atS RX5 214 "java/lang/IndexOutOfBoundsException" ["java/lang/RuntimeException", "java/lang/Exception"]).filter goodWord)
def wsX5_checkAccess : List Cond := .code yX5_checkAccess cX5_checkAccess 2 none :: ([.classLink RX5 49 "java/lang/IllegalStateException", .initialized "java/lang/IllegalStateException", .fieldLink RX5 99 "CacheDirectory$Cache" "request" "LCacheDirectory$Request;", .fieldLink RX5 103 "CacheDirectory$Request" "line" "I", .fieldLink RX5 118 "CacheDirectory$Cache" "victimValues" "[I", .fieldLink RX5 132 "CacheDirectory$Cache" "useOrder" "[I", .methodLink RX5 225 yX0_needsWayFor, .instanceMethod yX0_needsWayFor, .selects RX0 yX0_needsWayFor yX0_needsWayFor, .initialized RX0, .code yX0_needsWayFor cX0_needsWayFor 2 (some .boolean), .fieldLink RX0 31 "CacheDirectory$Cache" "lineCount" "I", .fieldLink RX0 38 "CacheDirectory$Cache" "ways" "I", .methodLink RX0 63 yX0_holds, .instanceMethod yX0_holds, .selects RX0 yX0_holds yX0_holds, .code yX0_holds cX0_holds 2 (some .boolean), .fieldLink RX0 18 "CacheDirectory$Cache" "states" "[I", .methodLink RX5 110 yX0_lacksVictimRoomFor, .instanceMethod yX0_lacksVictimRoomFor, .selects RX0 yX0_lacksVictimRoomFor yX0_lacksVictimRoomFor, .code yX0_lacksVictimRoomFor cX0_lacksVictimRoomFor 2 (some .boolean), .fieldLink RX0 35 "CacheDirectory$Cache" "victimCount" "I", .fieldLink RX0 41 "CacheDirectory$Cache" "victimRoom" "I"] ++ wsX00 ++ wsX40 ++ (vx_atS RX5 53 "java/lang/IllegalStateException" ["java/lang/RuntimeException", "java/lang/Exception"]).filter goodWord)
def wsX5_read_r1 : List Cond := [Cond.fieldLink RX5 73 "CacheDirectory$Cache" "hitCount" "I", Cond.fieldLink RX5 79 "CacheDirectory$Cache" "values" "[I", Cond.methodLink RX5 32 yX5_cacheAt, Cond.instanceMethod yX5_cacheAt, Cond.selects RX5 yX5_cacheAt yX5_cacheAt, Cond.initialized RX5, Cond.code yX5_cacheAt cX5_cacheAt 2 (some (.object "CacheDirectory$Cache")), Cond.classLink RX5 210 "java/lang/IndexOutOfBoundsException", Cond.initialized "java/lang/IndexOutOfBoundsException", Cond.fieldLink RX5 18 "CacheDirectory" "caches" "[LCacheDirectory$Cache;", Cond.methodLink RX5 61 yX5_checkLine, Cond.static yX5_checkLine, Cond.code yX5_checkLine cX5_checkLine 1 none, Cond.methodLink RX5 65 yX5_checkAccess, Cond.static yX5_checkAccess, Cond.code yX5_checkAccess cX5_checkAccess 2 none, Cond.classLink RX5 49 "java/lang/IllegalStateException", Cond.initialized "java/lang/IllegalStateException", Cond.fieldLink RX5 99 "CacheDirectory$Cache" "request" "LCacheDirectory$Request;", Cond.fieldLink RX5 103 "CacheDirectory$Request" "line" "I", Cond.fieldLink RX5 118 "CacheDirectory$Cache" "victimValues" "[I", Cond.fieldLink RX5 132 "CacheDirectory$Cache" "useOrder" "[I", Cond.methodLink RX5 225 yX0_needsWayFor, Cond.instanceMethod yX0_needsWayFor]
def wsX5_read_r2 : List Cond := [Cond.selects RX0 yX0_needsWayFor yX0_needsWayFor, Cond.initialized RX0, Cond.code yX0_needsWayFor cX0_needsWayFor 2 (some .boolean), Cond.fieldLink RX0 31 "CacheDirectory$Cache" "lineCount" "I", Cond.fieldLink RX0 38 "CacheDirectory$Cache" "ways" "I", Cond.methodLink RX0 63 yX0_holds, Cond.instanceMethod yX0_holds, Cond.selects RX0 yX0_holds yX0_holds, Cond.code yX0_holds cX0_holds 2 (some .boolean), Cond.fieldLink RX0 18 "CacheDirectory$Cache" "states" "[I", Cond.methodLink RX5 110 yX0_lacksVictimRoomFor, Cond.instanceMethod yX0_lacksVictimRoomFor, Cond.selects RX0 yX0_lacksVictimRoomFor yX0_lacksVictimRoomFor, Cond.code yX0_lacksVictimRoomFor cX0_lacksVictimRoomFor 2 (some .boolean), Cond.fieldLink RX0 35 "CacheDirectory$Cache" "victimCount" "I", Cond.fieldLink RX0 41 "CacheDirectory$Cache" "victimRoom" "I", Cond.methodLink RX5 69 yX0_holds, Cond.methodLink RX5 76 yX0_markUsed, Cond.instanceMethod yX0_markUsed, Cond.selects RX0 yX0_markUsed yX0_markUsed, Cond.code yX0_markUsed cX0_markUsed 2 none, Cond.fieldLink RX0 28 "CacheDirectory$Cache" "useOrder" "[I", Cond.methodLink RX0 139 yX0_leaveUseOrder, Cond.instanceMethod yX0_leaveUseOrder]
def wsX5_read_r3 : List Cond := [Cond.selects RX0 yX0_leaveUseOrder yX0_leaveUseOrder, Cond.code yX0_leaveUseOrder cX0_leaveUseOrder 4 none, Cond.methodLink RX5 83 yX0_startRequest, Cond.instanceMethod yX0_startRequest, Cond.selects RX0 yX0_startRequest yX0_startRequest, Cond.code yX0_startRequest cX0_startRequest 4 none, Cond.fieldLink RX0 50 "CacheDirectory$Cache" "missCount" "I", Cond.fieldLink RX0 12 "CacheDirectory$Cache" "request" "LCacheDirectory$Request;", Cond.fieldLink RX0 56 "CacheDirectory$Cache" "network" "LCacheDirectory$Network;", Cond.fieldLink RX0 53 "CacheDirectory$Cache" "number" "I", Cond.methodLink RX0 67 yX0_needsWayFor, Cond.methodLink RX0 70 yX0_moveOut, Cond.instanceMethod yX0_moveOut, Cond.selects RX0 yX0_moveOut yX0_moveOut, Cond.code yX0_moveOut cX0_moveOut 2 none, Cond.fieldLink RX0 25 "CacheDirectory$Cache" "victimValues" "[I", Cond.fieldLink RX0 22 "CacheDirectory$Cache" "values" "[I", Cond.fieldLink RX0 84 "CacheDirectory$Message" "carried" "I", Cond.methodLink RX0 78 yX3_send, Cond.instanceMethod yX3_send, Cond.selects RX3 yX3_send yX3_send, Cond.initialized RX3, Cond.code yX3_send cX3_send 6 (some (.object "CacheDirectory$Message")), Cond.classLink RX3 16 RX2]
def wsX5_read_r4 : List Cond := [Cond.instantiable RX2 7, Cond.initialized RX2, Cond.fieldLink RX3 10 "CacheDirectory$Network" "onTheWay" "Ljava/util/ArrayList;", Cond.methodLink RX3 18 yX2_init, Cond.instanceMethod yX2_init, Cond.code yX2_init cX2_init 5 none, Cond.methodLink RX2 3 objectInit, Cond.instanceMethod objectInit, Cond.code objectInit ⟨#[0xb1]⟩ 1 none, Cond.fieldLink RX2 9 "CacheDirectory$Message" "carried" "I", Cond.fieldLink RX2 15 "CacheDirectory$Message" "count" "I", Cond.fieldLink RX2 18 "CacheDirectory$Message" "requester" "I", Cond.fieldLink RX2 21 "CacheDirectory$Message" "kind" "I", Cond.fieldLink RX2 24 "CacheDirectory$Message" "line" "I", Cond.fieldLink RX2 27 "CacheDirectory$Message" "sender" "I", Cond.fieldLink RX2 30 "CacheDirectory$Message" "receiver" "I", Cond.methodLink RX3 21 yJx4a65c_add_9ea2d, Cond.instanceMethod yJx4a65c_add_9ea2d, Cond.selects RJx4a65c yJx4a65c_add_9ea2d yJx4a65c_add_9ea2d, Cond.initialized RJx4a65c, Cond.code yJx4a65c_add_9ea2d cJx4a65c_add_9ea2d 2 (some .boolean), Cond.fieldLink RJx4a65c 63 "java/util/ArrayList" "modCount" "I", Cond.sameField "java/util/ArrayList" "java/util/AbstractList" "modCount" "I", Cond.fieldLink RJx4a65c 9 "java/util/ArrayList" "elementData" "[Ljava/lang/Object;"]
def wsX5_read_r5 : List Cond := [Cond.fieldLink RJx4a65c 48 "java/util/ArrayList" "size" "I", Cond.methodLink RJx4a65c 131 yJx4a65c_add_72be8, Cond.instanceMethod yJx4a65c_add_72be8, Cond.selects RJx4a65c yJx4a65c_add_72be8 yJx4a65c_add_72be8, Cond.code yJx4a65c_add_72be8 cJx4a65c_add_72be8 4 none, Cond.methodLink RJx4a65c 129 yJx4a65c_grow_d5877, Cond.instanceMethod yJx4a65c_grow_d5877, Cond.selects RJx4a65c yJx4a65c_grow_d5877 yJx4a65c_grow_d5877, Cond.code yJx4a65c_grow_d5877 cJx4a65c_grow_d5877 1 (some (.array (.object "java/lang/Object"))), Cond.methodLink RJx4a65c 69 yJx4a65c_grow_92f84, Cond.instanceMethod yJx4a65c_grow_92f84, Cond.selects RJx4a65c yJx4a65c_grow_92f84 yJx4a65c_grow_92f84, Cond.code yJx4a65c_grow_92f84 cJx4a65c_grow_92f84 4 (some (.array (.object "java/lang/Object"))), Cond.fieldLink RJx4a65c 39 "java/util/ArrayList" "DEFAULTCAPACITY_EMPTY_ELEMENTDATA" "[Ljava/lang/Object;", Cond.methodLink RJx4a65c 79 Lib.Math.max.name, Cond.static Lib.Math.max.name, Cond.initialized "java/lang/Math", Cond.code Lib.Math.max.name Lib.Math.max.code 2 (some .int), Cond.classLink RJx4a65c 7 "java/lang/Object", Cond.methodLink RJx4a65c 73 yJ8_newLength_cabcc, Cond.static yJ8_newLength_cabcc, Cond.initialized RJ8, Cond.code yJ8_newLength_cabcc cJ8_newLength_cabcc 4 (some .int), Cond.methodLink RJ8 194 Lib.Math.max.name]
def wsX5_read_r6 : List Cond := [Cond.constant RJ8 200 (2147483639), Cond.methodLink RJ8 201 yJ8_hugeLength_7cf53, Cond.static yJ8_hugeLength_7cf53, Cond.code yJ8_hugeLength_7cf53 cJ8_hugeLength_7cf53 3 (some .int), Cond.methodLink RJx4a65c 66 yJ7_copyOf_1904c, Cond.static yJ7_copyOf_1904c, Cond.initialized RJ7, Cond.code yJ7_copyOf_1904c cJ7_copyOf_1904c 2 (some (.array (.object "java/lang/Object"))), Cond.methodLink RJ7 86 ⟨"java/lang/Object", "getClass", "()Ljava/lang/Class;"⟩, Cond.selects "[Ljava/lang/Object;" ⟨"java/lang/Object", "getClass", "()Ljava/lang/Class;"⟩ ⟨"java/lang/Object", "getClass", "()Ljava/lang/Class;"⟩, Cond.instanceMethod ⟨"java/lang/Object", "getClass", "()Ljava/lang/Class;"⟩, Cond.native ⟨"java/lang/Object", "getClass", "()Ljava/lang/Class;"⟩, Cond.methodLink RJ7 300 yJ7_copyOf_6403c, Cond.static yJ7_copyOf_6403c, Cond.code yJ7_copyOf_6403c cJ7_copyOf_6403c 4 (some (.array (.object "java/lang/Object"))), Cond.classLink RJ7 110 "[Ljava/lang/Object;", Cond.classLink RJ7 2 "java/lang/Object", Cond.methodLink RJ7 304 Lib.Math.min.name, Cond.static Lib.Math.min.name, Cond.code Lib.Math.min.name Lib.Math.min.code 2 (some .int), Cond.methodLink RJ7 150 arraycopyName, Cond.native arraycopyName, Cond.static arraycopyName, Cond.initialized "java/lang/System"]
def wsX5_read_r7 : List Cond := [Cond.methodLink RX0 89 yX0_drop, Cond.instanceMethod yX0_drop, Cond.selects RX0 yX0_drop yX0_drop, Cond.code yX0_drop cX0_drop 2 none, Cond.methodLink RX0 74 yX4_open, Cond.instanceMethod yX4_open, Cond.selects RX4 yX4_open yX4_open, Cond.initialized RX4, Cond.code yX4_open cX4_open 4 none, Cond.fieldLink RX4 9 "CacheDirectory$Request" "line" "I", Cond.fieldLink RX4 15 "CacheDirectory$Request" "forWriting" "Z", Cond.fieldLink RX4 19 "CacheDirectory$Request" "toWrite" "I", Cond.fieldLink RX4 22 "CacheDirectory$Request" "answered" "Z", Cond.fieldLink RX4 25 "CacheDirectory$Request" "invalidationsDone" "I"]
def wsX5_read : List Cond := .code yX5_read cX5_read 4 (some .int) :: ((wsX5_read_r1 ++ (wsX5_read_r2 ++ (wsX5_read_r3 ++ (wsX5_read_r4 ++ (wsX5_read_r5 ++ (wsX5_read_r6 ++ wsX5_read_r7)))))) ++ wsX00 ++ wsX50 ++ wsX40 ++ wsX20 ++ wsX30 ++ wsJx4a65c0 ++ (vx_atS RX5 214 "java/lang/IndexOutOfBoundsException" ["java/lang/RuntimeException", "java/lang/Exception"]).filter goodWord ++ (vx_atS RX5 53 "java/lang/IllegalStateException" ["java/lang/RuntimeException", "java/lang/Exception"]).filter goodWord)
def wsX5_write_r1 : List Cond := [Cond.classLink RX5 36 "java/lang/IllegalArgumentException", Cond.initialized "java/lang/IllegalArgumentException", Cond.fieldLink RX5 89 "CacheDirectory$Cache" "states" "[I", Cond.fieldLink RX5 73 "CacheDirectory$Cache" "hitCount" "I", Cond.methodLink RX5 32 yX5_cacheAt, Cond.instanceMethod yX5_cacheAt, Cond.selects RX5 yX5_cacheAt yX5_cacheAt, Cond.initialized RX5, Cond.code yX5_cacheAt cX5_cacheAt 2 (some (.object "CacheDirectory$Cache")), Cond.classLink RX5 210 "java/lang/IndexOutOfBoundsException", Cond.initialized "java/lang/IndexOutOfBoundsException", Cond.fieldLink RX5 18 "CacheDirectory" "caches" "[LCacheDirectory$Cache;", Cond.methodLink RX5 61 yX5_checkLine, Cond.static yX5_checkLine, Cond.code yX5_checkLine cX5_checkLine 1 none, Cond.methodLink RX5 65 yX5_checkAccess, Cond.static yX5_checkAccess, Cond.code yX5_checkAccess cX5_checkAccess 2 none, Cond.classLink RX5 49 "java/lang/IllegalStateException", Cond.initialized "java/lang/IllegalStateException", Cond.fieldLink RX5 99 "CacheDirectory$Cache" "request" "LCacheDirectory$Request;", Cond.fieldLink RX5 103 "CacheDirectory$Request" "line" "I", Cond.fieldLink RX5 118 "CacheDirectory$Cache" "victimValues" "[I", Cond.fieldLink RX5 132 "CacheDirectory$Cache" "useOrder" "[I"]
def wsX5_write_r2 : List Cond := [Cond.methodLink RX5 225 yX0_needsWayFor, Cond.instanceMethod yX0_needsWayFor, Cond.selects RX0 yX0_needsWayFor yX0_needsWayFor, Cond.initialized RX0, Cond.code yX0_needsWayFor cX0_needsWayFor 2 (some .boolean), Cond.fieldLink RX0 31 "CacheDirectory$Cache" "lineCount" "I", Cond.fieldLink RX0 38 "CacheDirectory$Cache" "ways" "I", Cond.methodLink RX0 63 yX0_holds, Cond.instanceMethod yX0_holds, Cond.selects RX0 yX0_holds yX0_holds, Cond.code yX0_holds cX0_holds 2 (some .boolean), Cond.fieldLink RX0 18 "CacheDirectory$Cache" "states" "[I", Cond.methodLink RX5 110 yX0_lacksVictimRoomFor, Cond.instanceMethod yX0_lacksVictimRoomFor, Cond.selects RX0 yX0_lacksVictimRoomFor yX0_lacksVictimRoomFor, Cond.code yX0_lacksVictimRoomFor cX0_lacksVictimRoomFor 2 (some .boolean), Cond.fieldLink RX0 35 "CacheDirectory$Cache" "victimCount" "I", Cond.fieldLink RX0 41 "CacheDirectory$Cache" "victimRoom" "I", Cond.methodLink RX5 92 yX0_store, Cond.instanceMethod yX0_store, Cond.selects RX0 yX0_store yX0_store, Cond.code yX0_store cX0_store 4 none, Cond.fieldLink RX0 22 "CacheDirectory$Cache" "values" "[I", Cond.methodLink RX0 136 yX0_markUsed]
def wsX5_write_r3 : List Cond := [Cond.instanceMethod yX0_markUsed, Cond.selects RX0 yX0_markUsed yX0_markUsed, Cond.code yX0_markUsed cX0_markUsed 2 none, Cond.fieldLink RX0 28 "CacheDirectory$Cache" "useOrder" "[I", Cond.methodLink RX0 139 yX0_leaveUseOrder, Cond.instanceMethod yX0_leaveUseOrder, Cond.selects RX0 yX0_leaveUseOrder yX0_leaveUseOrder, Cond.code yX0_leaveUseOrder cX0_leaveUseOrder 4 none, Cond.methodLink RX5 83 yX0_startRequest, Cond.instanceMethod yX0_startRequest, Cond.selects RX0 yX0_startRequest yX0_startRequest, Cond.code yX0_startRequest cX0_startRequest 4 none, Cond.fieldLink RX0 50 "CacheDirectory$Cache" "missCount" "I", Cond.fieldLink RX0 12 "CacheDirectory$Cache" "request" "LCacheDirectory$Request;", Cond.fieldLink RX0 56 "CacheDirectory$Cache" "network" "LCacheDirectory$Network;", Cond.fieldLink RX0 53 "CacheDirectory$Cache" "number" "I", Cond.methodLink RX0 67 yX0_needsWayFor, Cond.methodLink RX0 70 yX0_moveOut, Cond.instanceMethod yX0_moveOut, Cond.selects RX0 yX0_moveOut yX0_moveOut, Cond.code yX0_moveOut cX0_moveOut 2 none, Cond.fieldLink RX0 25 "CacheDirectory$Cache" "victimValues" "[I", Cond.fieldLink RX0 84 "CacheDirectory$Message" "carried" "I", Cond.methodLink RX0 78 yX3_send]
def wsX5_write_r4 : List Cond := [Cond.instanceMethod yX3_send, Cond.selects RX3 yX3_send yX3_send, Cond.initialized RX3, Cond.code yX3_send cX3_send 6 (some (.object "CacheDirectory$Message")), Cond.classLink RX3 16 RX2, Cond.instantiable RX2 7, Cond.initialized RX2, Cond.fieldLink RX3 10 "CacheDirectory$Network" "onTheWay" "Ljava/util/ArrayList;", Cond.methodLink RX3 18 yX2_init, Cond.instanceMethod yX2_init, Cond.code yX2_init cX2_init 5 none, Cond.methodLink RX2 3 objectInit, Cond.instanceMethod objectInit, Cond.code objectInit ⟨#[0xb1]⟩ 1 none, Cond.fieldLink RX2 9 "CacheDirectory$Message" "carried" "I", Cond.fieldLink RX2 15 "CacheDirectory$Message" "count" "I", Cond.fieldLink RX2 18 "CacheDirectory$Message" "requester" "I", Cond.fieldLink RX2 21 "CacheDirectory$Message" "kind" "I", Cond.fieldLink RX2 24 "CacheDirectory$Message" "line" "I", Cond.fieldLink RX2 27 "CacheDirectory$Message" "sender" "I", Cond.fieldLink RX2 30 "CacheDirectory$Message" "receiver" "I", Cond.methodLink RX3 21 yJx4a65c_add_9ea2d, Cond.instanceMethod yJx4a65c_add_9ea2d, Cond.selects RJx4a65c yJx4a65c_add_9ea2d yJx4a65c_add_9ea2d]
def wsX5_write_r5 : List Cond := [Cond.initialized RJx4a65c, Cond.code yJx4a65c_add_9ea2d cJx4a65c_add_9ea2d 2 (some .boolean), Cond.fieldLink RJx4a65c 63 "java/util/ArrayList" "modCount" "I", Cond.sameField "java/util/ArrayList" "java/util/AbstractList" "modCount" "I", Cond.fieldLink RJx4a65c 9 "java/util/ArrayList" "elementData" "[Ljava/lang/Object;", Cond.fieldLink RJx4a65c 48 "java/util/ArrayList" "size" "I", Cond.methodLink RJx4a65c 131 yJx4a65c_add_72be8, Cond.instanceMethod yJx4a65c_add_72be8, Cond.selects RJx4a65c yJx4a65c_add_72be8 yJx4a65c_add_72be8, Cond.code yJx4a65c_add_72be8 cJx4a65c_add_72be8 4 none, Cond.methodLink RJx4a65c 129 yJx4a65c_grow_d5877, Cond.instanceMethod yJx4a65c_grow_d5877, Cond.selects RJx4a65c yJx4a65c_grow_d5877 yJx4a65c_grow_d5877, Cond.code yJx4a65c_grow_d5877 cJx4a65c_grow_d5877 1 (some (.array (.object "java/lang/Object"))), Cond.methodLink RJx4a65c 69 yJx4a65c_grow_92f84, Cond.instanceMethod yJx4a65c_grow_92f84, Cond.selects RJx4a65c yJx4a65c_grow_92f84 yJx4a65c_grow_92f84, Cond.code yJx4a65c_grow_92f84 cJx4a65c_grow_92f84 4 (some (.array (.object "java/lang/Object"))), Cond.fieldLink RJx4a65c 39 "java/util/ArrayList" "DEFAULTCAPACITY_EMPTY_ELEMENTDATA" "[Ljava/lang/Object;", Cond.methodLink RJx4a65c 79 Lib.Math.max.name, Cond.static Lib.Math.max.name, Cond.initialized "java/lang/Math", Cond.code Lib.Math.max.name Lib.Math.max.code 2 (some .int), Cond.classLink RJx4a65c 7 "java/lang/Object"]
def wsX5_write_r6 : List Cond := [Cond.methodLink RJx4a65c 73 yJ8_newLength_cabcc, Cond.static yJ8_newLength_cabcc, Cond.initialized RJ8, Cond.code yJ8_newLength_cabcc cJ8_newLength_cabcc 4 (some .int), Cond.methodLink RJ8 194 Lib.Math.max.name, Cond.constant RJ8 200 (2147483639), Cond.methodLink RJ8 201 yJ8_hugeLength_7cf53, Cond.static yJ8_hugeLength_7cf53, Cond.code yJ8_hugeLength_7cf53 cJ8_hugeLength_7cf53 3 (some .int), Cond.methodLink RJx4a65c 66 yJ7_copyOf_1904c, Cond.static yJ7_copyOf_1904c, Cond.initialized RJ7, Cond.code yJ7_copyOf_1904c cJ7_copyOf_1904c 2 (some (.array (.object "java/lang/Object"))), Cond.methodLink RJ7 86 ⟨"java/lang/Object", "getClass", "()Ljava/lang/Class;"⟩, Cond.selects "[Ljava/lang/Object;" ⟨"java/lang/Object", "getClass", "()Ljava/lang/Class;"⟩ ⟨"java/lang/Object", "getClass", "()Ljava/lang/Class;"⟩, Cond.instanceMethod ⟨"java/lang/Object", "getClass", "()Ljava/lang/Class;"⟩, Cond.native ⟨"java/lang/Object", "getClass", "()Ljava/lang/Class;"⟩, Cond.methodLink RJ7 300 yJ7_copyOf_6403c, Cond.static yJ7_copyOf_6403c, Cond.code yJ7_copyOf_6403c cJ7_copyOf_6403c 4 (some (.array (.object "java/lang/Object"))), Cond.classLink RJ7 110 "[Ljava/lang/Object;", Cond.classLink RJ7 2 "java/lang/Object", Cond.methodLink RJ7 304 Lib.Math.min.name, Cond.static Lib.Math.min.name]
def wsX5_write_r7 : List Cond := [Cond.code Lib.Math.min.name Lib.Math.min.code 2 (some .int), Cond.methodLink RJ7 150 arraycopyName, Cond.native arraycopyName, Cond.static arraycopyName, Cond.initialized "java/lang/System", Cond.methodLink RX0 89 yX0_drop, Cond.instanceMethod yX0_drop, Cond.selects RX0 yX0_drop yX0_drop, Cond.code yX0_drop cX0_drop 2 none, Cond.methodLink RX0 74 yX4_open, Cond.instanceMethod yX4_open, Cond.selects RX4 yX4_open yX4_open, Cond.initialized RX4, Cond.code yX4_open cX4_open 4 none, Cond.fieldLink RX4 9 "CacheDirectory$Request" "line" "I", Cond.fieldLink RX4 15 "CacheDirectory$Request" "forWriting" "Z", Cond.fieldLink RX4 19 "CacheDirectory$Request" "toWrite" "I", Cond.fieldLink RX4 22 "CacheDirectory$Request" "answered" "Z", Cond.fieldLink RX4 25 "CacheDirectory$Request" "invalidationsDone" "I"]
def wsX5_write : List Cond := .code yX5_write cX5_write 5 (some .boolean) :: ((wsX5_write_r1 ++ (wsX5_write_r2 ++ (wsX5_write_r3 ++ (wsX5_write_r4 ++ (wsX5_write_r5 ++ (wsX5_write_r6 ++ wsX5_write_r7)))))) ++ wsX00 ++ wsX50 ++ wsX40 ++ wsX20 ++ wsX30 ++ wsJx4a65c0 ++ (vx_atS RX5 40 "java/lang/IllegalArgumentException" ["java/lang/RuntimeException", "java/lang/Exception"]).filter goodWord ++ (vx_atS RX5 214 "java/lang/IndexOutOfBoundsException" ["java/lang/RuntimeException", "java/lang/Exception"]).filter goodWord ++ (vx_atS RX5 53 "java/lang/IllegalStateException" ["java/lang/RuntimeException", "java/lang/Exception"]).filter goodWord)
def wsX5_checkHeld : List Cond := .code yX5_checkHeld cX5_checkHeld 2 none :: ([.classLink RX5 127 "java/util/NoSuchElementException", .initialized "java/util/NoSuchElementException", .methodLink RX5 69 yX0_holds, .instanceMethod yX0_holds, .selects RX0 yX0_holds yX0_holds, .initialized RX0, .code yX0_holds cX0_holds 2 (some .boolean), .fieldLink RX0 18 "CacheDirectory$Cache" "states" "[I"] ++ wsX00 ++ (vx_atS RX5 131 "java/util/NoSuchElementException" ["java/lang/RuntimeException", "java/lang/Exception"]).filter goodWord)
def wsX5_evict_r1 : List Cond := [Cond.classLink RX5 49 "java/lang/IllegalStateException", Cond.initialized "java/lang/IllegalStateException", Cond.fieldLink RX5 99 "CacheDirectory$Cache" "request" "LCacheDirectory$Request;", Cond.fieldLink RX5 103 "CacheDirectory$Request" "line" "I", Cond.fieldLink RX5 89 "CacheDirectory$Cache" "states" "[I", Cond.methodLink RX5 32 yX5_cacheAt, Cond.instanceMethod yX5_cacheAt, Cond.selects RX5 yX5_cacheAt yX5_cacheAt, Cond.initialized RX5, Cond.code yX5_cacheAt cX5_cacheAt 2 (some (.object "CacheDirectory$Cache")), Cond.classLink RX5 210 "java/lang/IndexOutOfBoundsException", Cond.initialized "java/lang/IndexOutOfBoundsException", Cond.fieldLink RX5 18 "CacheDirectory" "caches" "[LCacheDirectory$Cache;", Cond.methodLink RX5 61 yX5_checkLine, Cond.static yX5_checkLine, Cond.code yX5_checkLine cX5_checkLine 1 none, Cond.methodLink RX5 96 yX5_checkHeld, Cond.static yX5_checkHeld, Cond.code yX5_checkHeld cX5_checkHeld 2 none, Cond.classLink RX5 127 "java/util/NoSuchElementException", Cond.initialized "java/util/NoSuchElementException", Cond.methodLink RX5 69 yX0_holds, Cond.instanceMethod yX0_holds, Cond.selects RX0 yX0_holds yX0_holds]
def wsX5_evict_r2 : List Cond := [Cond.initialized RX0, Cond.code yX0_holds cX0_holds 2 (some .boolean), Cond.fieldLink RX0 18 "CacheDirectory$Cache" "states" "[I", Cond.methodLink RX5 110 yX0_lacksVictimRoomFor, Cond.instanceMethod yX0_lacksVictimRoomFor, Cond.selects RX0 yX0_lacksVictimRoomFor yX0_lacksVictimRoomFor, Cond.code yX0_lacksVictimRoomFor cX0_lacksVictimRoomFor 2 (some .boolean), Cond.fieldLink RX0 35 "CacheDirectory$Cache" "victimCount" "I", Cond.fieldLink RX0 41 "CacheDirectory$Cache" "victimRoom" "I", Cond.methodLink RX5 115 yX0_moveOut, Cond.instanceMethod yX0_moveOut, Cond.selects RX0 yX0_moveOut yX0_moveOut, Cond.code yX0_moveOut cX0_moveOut 2 none, Cond.fieldLink RX0 25 "CacheDirectory$Cache" "victimValues" "[I", Cond.fieldLink RX0 22 "CacheDirectory$Cache" "values" "[I", Cond.fieldLink RX0 56 "CacheDirectory$Cache" "network" "LCacheDirectory$Network;", Cond.fieldLink RX0 53 "CacheDirectory$Cache" "number" "I", Cond.fieldLink RX0 84 "CacheDirectory$Message" "carried" "I", Cond.methodLink RX0 78 yX3_send, Cond.instanceMethod yX3_send, Cond.selects RX3 yX3_send yX3_send, Cond.initialized RX3, Cond.code yX3_send cX3_send 6 (some (.object "CacheDirectory$Message")), Cond.classLink RX3 16 RX2]
def wsX5_evict_r3 : List Cond := [Cond.instantiable RX2 7, Cond.initialized RX2, Cond.fieldLink RX3 10 "CacheDirectory$Network" "onTheWay" "Ljava/util/ArrayList;", Cond.methodLink RX3 18 yX2_init, Cond.instanceMethod yX2_init, Cond.code yX2_init cX2_init 5 none, Cond.methodLink RX2 3 objectInit, Cond.instanceMethod objectInit, Cond.code objectInit ⟨#[0xb1]⟩ 1 none, Cond.fieldLink RX2 9 "CacheDirectory$Message" "carried" "I", Cond.fieldLink RX2 15 "CacheDirectory$Message" "count" "I", Cond.fieldLink RX2 18 "CacheDirectory$Message" "requester" "I", Cond.fieldLink RX2 21 "CacheDirectory$Message" "kind" "I", Cond.fieldLink RX2 24 "CacheDirectory$Message" "line" "I", Cond.fieldLink RX2 27 "CacheDirectory$Message" "sender" "I", Cond.fieldLink RX2 30 "CacheDirectory$Message" "receiver" "I", Cond.methodLink RX3 21 yJx4a65c_add_9ea2d, Cond.instanceMethod yJx4a65c_add_9ea2d, Cond.selects RJx4a65c yJx4a65c_add_9ea2d yJx4a65c_add_9ea2d, Cond.initialized RJx4a65c, Cond.code yJx4a65c_add_9ea2d cJx4a65c_add_9ea2d 2 (some .boolean), Cond.fieldLink RJx4a65c 63 "java/util/ArrayList" "modCount" "I", Cond.sameField "java/util/ArrayList" "java/util/AbstractList" "modCount" "I", Cond.fieldLink RJx4a65c 9 "java/util/ArrayList" "elementData" "[Ljava/lang/Object;"]
def wsX5_evict_r4 : List Cond := [Cond.fieldLink RJx4a65c 48 "java/util/ArrayList" "size" "I", Cond.methodLink RJx4a65c 131 yJx4a65c_add_72be8, Cond.instanceMethod yJx4a65c_add_72be8, Cond.selects RJx4a65c yJx4a65c_add_72be8 yJx4a65c_add_72be8, Cond.code yJx4a65c_add_72be8 cJx4a65c_add_72be8 4 none, Cond.methodLink RJx4a65c 129 yJx4a65c_grow_d5877, Cond.instanceMethod yJx4a65c_grow_d5877, Cond.selects RJx4a65c yJx4a65c_grow_d5877 yJx4a65c_grow_d5877, Cond.code yJx4a65c_grow_d5877 cJx4a65c_grow_d5877 1 (some (.array (.object "java/lang/Object"))), Cond.methodLink RJx4a65c 69 yJx4a65c_grow_92f84, Cond.instanceMethod yJx4a65c_grow_92f84, Cond.selects RJx4a65c yJx4a65c_grow_92f84 yJx4a65c_grow_92f84, Cond.code yJx4a65c_grow_92f84 cJx4a65c_grow_92f84 4 (some (.array (.object "java/lang/Object"))), Cond.fieldLink RJx4a65c 39 "java/util/ArrayList" "DEFAULTCAPACITY_EMPTY_ELEMENTDATA" "[Ljava/lang/Object;", Cond.methodLink RJx4a65c 79 Lib.Math.max.name, Cond.static Lib.Math.max.name, Cond.initialized "java/lang/Math", Cond.code Lib.Math.max.name Lib.Math.max.code 2 (some .int), Cond.classLink RJx4a65c 7 "java/lang/Object", Cond.methodLink RJx4a65c 73 yJ8_newLength_cabcc, Cond.static yJ8_newLength_cabcc, Cond.initialized RJ8, Cond.code yJ8_newLength_cabcc cJ8_newLength_cabcc 4 (some .int), Cond.methodLink RJ8 194 Lib.Math.max.name]
def wsX5_evict_r5 : List Cond := [Cond.constant RJ8 200 (2147483639), Cond.methodLink RJ8 201 yJ8_hugeLength_7cf53, Cond.static yJ8_hugeLength_7cf53, Cond.code yJ8_hugeLength_7cf53 cJ8_hugeLength_7cf53 3 (some .int), Cond.methodLink RJx4a65c 66 yJ7_copyOf_1904c, Cond.static yJ7_copyOf_1904c, Cond.initialized RJ7, Cond.code yJ7_copyOf_1904c cJ7_copyOf_1904c 2 (some (.array (.object "java/lang/Object"))), Cond.methodLink RJ7 86 ⟨"java/lang/Object", "getClass", "()Ljava/lang/Class;"⟩, Cond.selects "[Ljava/lang/Object;" ⟨"java/lang/Object", "getClass", "()Ljava/lang/Class;"⟩ ⟨"java/lang/Object", "getClass", "()Ljava/lang/Class;"⟩, Cond.instanceMethod ⟨"java/lang/Object", "getClass", "()Ljava/lang/Class;"⟩, Cond.native ⟨"java/lang/Object", "getClass", "()Ljava/lang/Class;"⟩, Cond.methodLink RJ7 300 yJ7_copyOf_6403c, Cond.static yJ7_copyOf_6403c, Cond.code yJ7_copyOf_6403c cJ7_copyOf_6403c 4 (some (.array (.object "java/lang/Object"))), Cond.classLink RJ7 110 "[Ljava/lang/Object;", Cond.classLink RJ7 2 "java/lang/Object", Cond.methodLink RJ7 304 Lib.Math.min.name, Cond.static Lib.Math.min.name, Cond.code Lib.Math.min.name Lib.Math.min.code 2 (some .int), Cond.methodLink RJ7 150 arraycopyName, Cond.native arraycopyName, Cond.static arraycopyName, Cond.initialized "java/lang/System"]
def wsX5_evict_r6 : List Cond := [Cond.methodLink RX0 89 yX0_drop, Cond.instanceMethod yX0_drop, Cond.selects RX0 yX0_drop yX0_drop, Cond.code yX0_drop cX0_drop 2 none, Cond.methodLink RX0 139 yX0_leaveUseOrder, Cond.instanceMethod yX0_leaveUseOrder, Cond.selects RX0 yX0_leaveUseOrder yX0_leaveUseOrder, Cond.code yX0_leaveUseOrder cX0_leaveUseOrder 4 none, Cond.fieldLink RX0 31 "CacheDirectory$Cache" "lineCount" "I", Cond.fieldLink RX0 28 "CacheDirectory$Cache" "useOrder" "[I"]
def wsX5_evict : List Cond := .code yX5_evict cX5_evict 5 (some .int) :: ((wsX5_evict_r1 ++ (wsX5_evict_r2 ++ (wsX5_evict_r3 ++ (wsX5_evict_r4 ++ (wsX5_evict_r5 ++ wsX5_evict_r6))))) ++ wsX00 ++ wsX40 ++ wsX50 ++ wsX20 ++ wsX30 ++ wsJx4a65c0 ++ (vx_atS RX5 53 "java/lang/IllegalStateException" ["java/lang/RuntimeException", "java/lang/Exception"]).filter goodWord ++ (vx_atS RX5 214 "java/lang/IndexOutOfBoundsException" ["java/lang/RuntimeException", "java/lang/Exception"]).filter goodWord ++ (vx_atS RX5 131 "java/util/NoSuchElementException" ["java/lang/RuntimeException", "java/lang/Exception"]).filter goodWord)
def wsX5_state : List Cond := .code yX5_state cX5_state 4 (some .int) :: ([.fieldLink RX5 89 "CacheDirectory$Cache" "states" "[I", .methodLink RX5 32 yX5_cacheAt, .instanceMethod yX5_cacheAt, .selects RX5 yX5_cacheAt yX5_cacheAt, .initialized RX5, .code yX5_cacheAt cX5_cacheAt 2 (some (.object "CacheDirectory$Cache")), .classLink RX5 210 "java/lang/IndexOutOfBoundsException", .initialized "java/lang/IndexOutOfBoundsException", .fieldLink RX5 18 "CacheDirectory" "caches" "[LCacheDirectory$Cache;", .methodLink RX5 61 yX5_checkLine, .static yX5_checkLine, .code yX5_checkLine cX5_checkLine 1 none] ++ wsX00 ++ wsX50 ++ (vx_atS RX5 214 "java/lang/IndexOutOfBoundsException" ["java/lang/RuntimeException", "java/lang/Exception"]).filter goodWord)
def wsX5_value : List Cond := .code yX5_value cX5_value 4 (some .int) :: ([.fieldLink RX5 79 "CacheDirectory$Cache" "values" "[I", .methodLink RX5 32 yX5_cacheAt, .instanceMethod yX5_cacheAt, .selects RX5 yX5_cacheAt yX5_cacheAt, .initialized RX5, .code yX5_cacheAt cX5_cacheAt 2 (some (.object "CacheDirectory$Cache")), .classLink RX5 210 "java/lang/IndexOutOfBoundsException", .initialized "java/lang/IndexOutOfBoundsException", .fieldLink RX5 18 "CacheDirectory" "caches" "[LCacheDirectory$Cache;", .methodLink RX5 61 yX5_checkLine, .static yX5_checkLine, .code yX5_checkLine cX5_checkLine 1 none, .methodLink RX5 96 yX5_checkHeld, .static yX5_checkHeld, .code yX5_checkHeld cX5_checkHeld 2 none, .classLink RX5 127 "java/util/NoSuchElementException", .initialized "java/util/NoSuchElementException", .methodLink RX5 69 yX0_holds, .instanceMethod yX0_holds, .selects RX0 yX0_holds yX0_holds, .initialized RX0, .code yX0_holds cX0_holds 2 (some .boolean), .fieldLink RX0 18 "CacheDirectory$Cache" "states" "[I"] ++ wsX00 ++ wsX50 ++ (vx_atS RX5 214 "java/lang/IndexOutOfBoundsException" ["java/lang/RuntimeException", "java/lang/Exception"]).filter goodWord ++ (vx_atS RX5 131 "java/util/NoSuchElementException" ["java/lang/RuntimeException", "java/lang/Exception"]).filter goodWord)
def wsX5_victimValue : List Cond := .code yX5_victimValue cX5_victimValue 4 (some .int) :: ([.fieldLink RX5 118 "CacheDirectory$Cache" "victimValues" "[I", .methodLink RX5 32 yX5_cacheAt, .instanceMethod yX5_cacheAt, .selects RX5 yX5_cacheAt yX5_cacheAt, .initialized RX5, .code yX5_cacheAt cX5_cacheAt 2 (some (.object "CacheDirectory$Cache")), .classLink RX5 210 "java/lang/IndexOutOfBoundsException", .initialized "java/lang/IndexOutOfBoundsException", .fieldLink RX5 18 "CacheDirectory" "caches" "[LCacheDirectory$Cache;", .methodLink RX5 61 yX5_checkLine, .static yX5_checkLine, .code yX5_checkLine cX5_checkLine 1 none] ++ wsX00 ++ wsX50 ++ (vx_atS RX5 214 "java/lang/IndexOutOfBoundsException" ["java/lang/RuntimeException", "java/lang/Exception"]).filter goodWord)
def wsX5_openLine : List Cond := .code yX5_openLine cX5_openLine 2 (some .int) :: ([.fieldLink RX5 99 "CacheDirectory$Cache" "request" "LCacheDirectory$Request;", .fieldLink RX5 103 "CacheDirectory$Request" "line" "I", .methodLink RX5 32 yX5_cacheAt, .instanceMethod yX5_cacheAt, .selects RX5 yX5_cacheAt yX5_cacheAt, .initialized RX5, .code yX5_cacheAt cX5_cacheAt 2 (some (.object "CacheDirectory$Cache")), .classLink RX5 210 "java/lang/IndexOutOfBoundsException", .initialized "java/lang/IndexOutOfBoundsException", .fieldLink RX5 18 "CacheDirectory" "caches" "[LCacheDirectory$Cache;"] ++ wsX00 ++ wsX40 ++ wsX50 ++ (vx_atS RX5 214 "java/lang/IndexOutOfBoundsException" ["java/lang/RuntimeException", "java/lang/Exception"]).filter goodWord)
def wsX5_latestRead : List Cond := .code yX5_latestRead cX5_latestRead 2 (some .int) :: ([.fieldLink RX5 121 "CacheDirectory$Cache" "latestResult" "I", .methodLink RX5 32 yX5_cacheAt, .instanceMethod yX5_cacheAt, .selects RX5 yX5_cacheAt yX5_cacheAt, .initialized RX5, .code yX5_cacheAt cX5_cacheAt 2 (some (.object "CacheDirectory$Cache")), .classLink RX5 210 "java/lang/IndexOutOfBoundsException", .initialized "java/lang/IndexOutOfBoundsException", .fieldLink RX5 18 "CacheDirectory" "caches" "[LCacheDirectory$Cache;"] ++ wsX00 ++ wsX50 ++ (vx_atS RX5 214 "java/lang/IndexOutOfBoundsException" ["java/lang/RuntimeException", "java/lang/Exception"]).filter goodWord)
def wsX5_lineAt : List Cond := .code yX5_lineAt cX5_lineAt 4 (some .int) :: ([.classLink RX5 127 "java/util/NoSuchElementException", .initialized "java/util/NoSuchElementException", .fieldLink RX5 124 "CacheDirectory$Cache" "lineCount" "I", .fieldLink RX5 132 "CacheDirectory$Cache" "useOrder" "[I", .methodLink RX5 32 yX5_cacheAt, .instanceMethod yX5_cacheAt, .selects RX5 yX5_cacheAt yX5_cacheAt, .initialized RX5, .code yX5_cacheAt cX5_cacheAt 2 (some (.object "CacheDirectory$Cache")), .classLink RX5 210 "java/lang/IndexOutOfBoundsException", .initialized "java/lang/IndexOutOfBoundsException", .fieldLink RX5 18 "CacheDirectory" "caches" "[LCacheDirectory$Cache;"] ++ wsX00 ++ wsX50 ++ (vx_atS RX5 131 "java/util/NoSuchElementException" ["java/lang/RuntimeException", "java/lang/Exception"]).filter goodWord ++ (vx_atS RX5 214 "java/lang/IndexOutOfBoundsException" ["java/lang/RuntimeException", "java/lang/Exception"]).filter goodWord)
def wsX5_homeOf : List Cond := .code yX5_homeOf cX5_homeOf 2 (some (.object "CacheDirectory$Home")) :: ([.fieldLink RX5 27 "CacheDirectory" "homes" "[LCacheDirectory$Home;", .methodLink RX5 61 yX5_checkLine, .static yX5_checkLine, .initialized RX5, .code yX5_checkLine cX5_checkLine 1 none, .classLink RX5 210 "java/lang/IndexOutOfBoundsException", .initialized "java/lang/IndexOutOfBoundsException"] ++ wsX50 ++ (vx_atS RX5 214 "java/lang/IndexOutOfBoundsException" ["java/lang/RuntimeException", "java/lang/Exception"]).filter goodWord)
def wsX5_owner : List Cond := .code yX5_owner cX5_owner 2 (some .int) :: ([.fieldLink RX5 139 "CacheDirectory$Home" "ownerCache" "I", .methodLink RX5 135 yX5_homeOf, .instanceMethod yX5_homeOf, .selects RX5 yX5_homeOf yX5_homeOf, .initialized RX5, .code yX5_homeOf cX5_homeOf 2 (some (.object "CacheDirectory$Home")), .fieldLink RX5 27 "CacheDirectory" "homes" "[LCacheDirectory$Home;", .methodLink RX5 61 yX5_checkLine, .static yX5_checkLine, .code yX5_checkLine cX5_checkLine 1 none, .classLink RX5 210 "java/lang/IndexOutOfBoundsException", .initialized "java/lang/IndexOutOfBoundsException"] ++ wsX10 ++ wsX50 ++ (vx_atS RX5 214 "java/lang/IndexOutOfBoundsException" ["java/lang/RuntimeException", "java/lang/Exception"]).filter goodWord)
def wsX5_sharers : List Cond := .code yX5_sharers cX5_sharers 2 (some .int) :: ([.fieldLink RX5 142 "CacheDirectory$Home" "sharerSet" "I", .methodLink RX5 135 yX5_homeOf, .instanceMethod yX5_homeOf, .selects RX5 yX5_homeOf yX5_homeOf, .initialized RX5, .code yX5_homeOf cX5_homeOf 2 (some (.object "CacheDirectory$Home")), .fieldLink RX5 27 "CacheDirectory" "homes" "[LCacheDirectory$Home;", .methodLink RX5 61 yX5_checkLine, .static yX5_checkLine, .code yX5_checkLine cX5_checkLine 1 none, .classLink RX5 210 "java/lang/IndexOutOfBoundsException", .initialized "java/lang/IndexOutOfBoundsException"] ++ wsX10 ++ wsX50 ++ (vx_atS RX5 214 "java/lang/IndexOutOfBoundsException" ["java/lang/RuntimeException", "java/lang/Exception"]).filter goodWord)
def wsX5_isBusy : List Cond := .code yX5_isBusy cX5_isBusy 2 (some .boolean) :: ([.fieldLink RX5 145 "CacheDirectory$Home" "busy" "Z", .methodLink RX5 135 yX5_homeOf, .instanceMethod yX5_homeOf, .selects RX5 yX5_homeOf yX5_homeOf, .initialized RX5, .code yX5_homeOf cX5_homeOf 2 (some (.object "CacheDirectory$Home")), .fieldLink RX5 27 "CacheDirectory" "homes" "[LCacheDirectory$Home;", .methodLink RX5 61 yX5_checkLine, .static yX5_checkLine, .code yX5_checkLine cX5_checkLine 1 none, .classLink RX5 210 "java/lang/IndexOutOfBoundsException", .initialized "java/lang/IndexOutOfBoundsException"] ++ wsX10 ++ wsX50 ++ (vx_atS RX5 214 "java/lang/IndexOutOfBoundsException" ["java/lang/RuntimeException", "java/lang/Exception"]).filter goodWord)
def wsX5_queued : List Cond := .code yX5_queued cX5_queued 2 (some .int) :: ([.fieldLink RX5 149 "CacheDirectory$Home" "waiting" "Ljava/util/ArrayList;", .methodLink RX5 135 yX5_homeOf, .instanceMethod yX5_homeOf, .selects RX5 yX5_homeOf yX5_homeOf, .initialized RX5, .code yX5_homeOf cX5_homeOf 2 (some (.object "CacheDirectory$Home")), .fieldLink RX5 27 "CacheDirectory" "homes" "[LCacheDirectory$Home;", .methodLink RX5 61 yX5_checkLine, .static yX5_checkLine, .code yX5_checkLine cX5_checkLine 1 none, .classLink RX5 210 "java/lang/IndexOutOfBoundsException", .initialized "java/lang/IndexOutOfBoundsException", .methodLink RX5 153 yJx4a65c_size_8abf5, .instanceMethod yJx4a65c_size_8abf5, .selects RJx4a65c yJx4a65c_size_8abf5 yJx4a65c_size_8abf5, .initialized RJx4a65c, .code yJx4a65c_size_8abf5 cJx4a65c_size_8abf5 1 (some .int), .fieldLink RJx4a65c 48 "java/util/ArrayList" "size" "I"] ++ wsX10 ++ wsX50 ++ wsJx4a65c0 ++ (vx_atS RX5 214 "java/lang/IndexOutOfBoundsException" ["java/lang/RuntimeException", "java/lang/Exception"]).filter goodWord)
def wsX5_memory : List Cond := .code yX5_memory cX5_memory 2 (some .int) :: ([.fieldLink RX5 159 "CacheDirectory$Home" "memoryValue" "I", .methodLink RX5 135 yX5_homeOf, .instanceMethod yX5_homeOf, .selects RX5 yX5_homeOf yX5_homeOf, .initialized RX5, .code yX5_homeOf cX5_homeOf 2 (some (.object "CacheDirectory$Home")), .fieldLink RX5 27 "CacheDirectory" "homes" "[LCacheDirectory$Home;", .methodLink RX5 61 yX5_checkLine, .static yX5_checkLine, .code yX5_checkLine cX5_checkLine 1 none, .classLink RX5 210 "java/lang/IndexOutOfBoundsException", .initialized "java/lang/IndexOutOfBoundsException"] ++ wsX10 ++ wsX50 ++ (vx_atS RX5 214 "java/lang/IndexOutOfBoundsException" ["java/lang/RuntimeException", "java/lang/Exception"]).filter goodWord)
def wsX5_messageCount : List Cond := .code yX5_messageCount cX5_messageCount 1 (some .int) :: ([.fieldLink RX5 10 "CacheDirectory" "network" "LCacheDirectory$Network;", .fieldLink RX5 162 "CacheDirectory$Network" "onTheWay" "Ljava/util/ArrayList;", .methodLink RX5 153 yJx4a65c_size_8abf5, .instanceMethod yJx4a65c_size_8abf5, .selects RJx4a65c yJx4a65c_size_8abf5 yJx4a65c_size_8abf5, .initialized RJx4a65c, .code yJx4a65c_size_8abf5 cJx4a65c_size_8abf5 1 (some .int), .fieldLink RJx4a65c 48 "java/util/ArrayList" "size" "I"] ++ wsX50 ++ wsX30 ++ wsJx4a65c0)
def wsJx4a65c_elementData_915e3 : List Cond := .code yJx4a65c_elementData_915e3 cJx4a65c_elementData_915e3 2 (some (.object "java/lang/Object")) :: ([.fieldLink RJx4a65c 9 "java/util/ArrayList" "elementData" "[Ljava/lang/Object;"] ++ wsJx4a65c0)
def wsJx4a65c_get_915e3 : List Cond := .code yJx4a65c_get_915e3 cJx4a65c_get_915e3 2 (some (.object "java/lang/Object")) :: ([.fieldLink RJx4a65c 48 "java/util/ArrayList" "size" "I", .methodLink RJx4a65c 118 yJ15_checkIndex_7cf53, .static yJ15_checkIndex_7cf53, .initialized RJ15, .code yJ15_checkIndex_7cf53 cJ15_checkIndex_7cf53 2 (some .int), .methodLink RJ15 105 yJ3_checkIndex_8e157, .static yJ3_checkIndex_8e157, .initialized RJ3, .code yJ3_checkIndex_8e157 cJ3_checkIndex_8e157 3 (some .int), .methodLink RJx4a65c 123 yJx4a65c_elementData_915e3, .instanceMethod yJx4a65c_elementData_915e3, .selects RJx4a65c yJx4a65c_elementData_915e3 yJx4a65c_elementData_915e3, .initialized RJx4a65c, .code yJx4a65c_elementData_915e3 cJx4a65c_elementData_915e3 2 (some (.object "java/lang/Object")), .fieldLink RJx4a65c 9 "java/util/ArrayList" "elementData" "[Ljava/lang/Object;"] ++ wsJx4a65c0)
def wsX5_messageAt_r1 : List Cond := [Cond.classLink RX5 210 "java/lang/IndexOutOfBoundsException", Cond.initialized "java/lang/IndexOutOfBoundsException", Cond.fieldLink RX5 10 "CacheDirectory" "network" "LCacheDirectory$Network;", Cond.fieldLink RX5 162 "CacheDirectory$Network" "onTheWay" "Ljava/util/ArrayList;", Cond.classLink RX5 170 "CacheDirectory$Message", Cond.methodLink RX5 153 yJx4a65c_size_8abf5, Cond.instanceMethod yJx4a65c_size_8abf5, Cond.selects RJx4a65c yJx4a65c_size_8abf5 yJx4a65c_size_8abf5, Cond.initialized RJx4a65c, Cond.code yJx4a65c_size_8abf5 cJx4a65c_size_8abf5 1 (some .int), Cond.fieldLink RJx4a65c 48 "java/util/ArrayList" "size" "I", Cond.methodLink RX5 206 yJx4a65c_get_915e3, Cond.instanceMethod yJx4a65c_get_915e3, Cond.selects RJx4a65c yJx4a65c_get_915e3 yJx4a65c_get_915e3, Cond.code yJx4a65c_get_915e3 cJx4a65c_get_915e3 2 (some (.object "java/lang/Object")), Cond.methodLink RJx4a65c 118 yJ15_checkIndex_7cf53, Cond.static yJ15_checkIndex_7cf53, Cond.initialized RJ15, Cond.code yJ15_checkIndex_7cf53 cJ15_checkIndex_7cf53 2 (some .int), Cond.methodLink RJ15 105 yJ3_checkIndex_8e157, Cond.static yJ3_checkIndex_8e157, Cond.initialized RJ3, Cond.code yJ3_checkIndex_8e157 cJ3_checkIndex_8e157 3 (some .int), Cond.methodLink RJx4a65c 123 yJx4a65c_elementData_915e3]
def wsX5_messageAt_r2 : List Cond := [Cond.instanceMethod yJx4a65c_elementData_915e3, Cond.selects RJx4a65c yJx4a65c_elementData_915e3 yJx4a65c_elementData_915e3, Cond.code yJx4a65c_elementData_915e3 cJx4a65c_elementData_915e3 2 (some (.object "java/lang/Object")), Cond.fieldLink RJx4a65c 9 "java/util/ArrayList" "elementData" "[Ljava/lang/Object;"]
def wsX5_messageAt : List Cond := .code yX5_messageAt cX5_messageAt 2 (some (.object "CacheDirectory$Message")) :: ((wsX5_messageAt_r1 ++ wsX5_messageAt_r2) ++ wsX50 ++ wsX30 ++ wsJx4a65c0 ++ (vx_atS RX5 214 "java/lang/IndexOutOfBoundsException" ["java/lang/RuntimeException", "java/lang/Exception"]).filter goodWord)
def wsX5_messageKind_r1 : List Cond := [Cond.fieldLink RX5 169 "CacheDirectory$Message" "kind" "I", Cond.methodLink RX5 165 yX5_messageAt, Cond.instanceMethod yX5_messageAt, Cond.selects RX5 yX5_messageAt yX5_messageAt, Cond.initialized RX5, Cond.code yX5_messageAt cX5_messageAt 2 (some (.object "CacheDirectory$Message")), Cond.classLink RX5 210 "java/lang/IndexOutOfBoundsException", Cond.initialized "java/lang/IndexOutOfBoundsException", Cond.fieldLink RX5 10 "CacheDirectory" "network" "LCacheDirectory$Network;", Cond.fieldLink RX5 162 "CacheDirectory$Network" "onTheWay" "Ljava/util/ArrayList;", Cond.classLink RX5 170 "CacheDirectory$Message", Cond.methodLink RX5 153 yJx4a65c_size_8abf5, Cond.instanceMethod yJx4a65c_size_8abf5, Cond.selects RJx4a65c yJx4a65c_size_8abf5 yJx4a65c_size_8abf5, Cond.initialized RJx4a65c, Cond.code yJx4a65c_size_8abf5 cJx4a65c_size_8abf5 1 (some .int), Cond.fieldLink RJx4a65c 48 "java/util/ArrayList" "size" "I", Cond.methodLink RX5 206 yJx4a65c_get_915e3, Cond.instanceMethod yJx4a65c_get_915e3, Cond.selects RJx4a65c yJx4a65c_get_915e3 yJx4a65c_get_915e3, Cond.code yJx4a65c_get_915e3 cJx4a65c_get_915e3 2 (some (.object "java/lang/Object")), Cond.methodLink RJx4a65c 118 yJ15_checkIndex_7cf53, Cond.static yJ15_checkIndex_7cf53, Cond.initialized RJ15]
def wsX5_messageKind_r2 : List Cond := [Cond.code yJ15_checkIndex_7cf53 cJ15_checkIndex_7cf53 2 (some .int), Cond.methodLink RJ15 105 yJ3_checkIndex_8e157, Cond.static yJ3_checkIndex_8e157, Cond.initialized RJ3, Cond.code yJ3_checkIndex_8e157 cJ3_checkIndex_8e157 3 (some .int), Cond.methodLink RJx4a65c 123 yJx4a65c_elementData_915e3, Cond.instanceMethod yJx4a65c_elementData_915e3, Cond.selects RJx4a65c yJx4a65c_elementData_915e3 yJx4a65c_elementData_915e3, Cond.code yJx4a65c_elementData_915e3 cJx4a65c_elementData_915e3 2 (some (.object "java/lang/Object")), Cond.fieldLink RJx4a65c 9 "java/util/ArrayList" "elementData" "[Ljava/lang/Object;"]
def wsX5_messageKind : List Cond := .code yX5_messageKind cX5_messageKind 2 (some .int) :: ((wsX5_messageKind_r1 ++ wsX5_messageKind_r2) ++ wsX20 ++ wsX50 ++ wsX30 ++ wsJx4a65c0 ++ (vx_atS RX5 214 "java/lang/IndexOutOfBoundsException" ["java/lang/RuntimeException", "java/lang/Exception"]).filter goodWord)
def wsX5_messageLine_r1 : List Cond := [Cond.fieldLink RX5 174 "CacheDirectory$Message" "line" "I", Cond.methodLink RX5 165 yX5_messageAt, Cond.instanceMethod yX5_messageAt, Cond.selects RX5 yX5_messageAt yX5_messageAt, Cond.initialized RX5, Cond.code yX5_messageAt cX5_messageAt 2 (some (.object "CacheDirectory$Message")), Cond.classLink RX5 210 "java/lang/IndexOutOfBoundsException", Cond.initialized "java/lang/IndexOutOfBoundsException", Cond.fieldLink RX5 10 "CacheDirectory" "network" "LCacheDirectory$Network;", Cond.fieldLink RX5 162 "CacheDirectory$Network" "onTheWay" "Ljava/util/ArrayList;", Cond.classLink RX5 170 "CacheDirectory$Message", Cond.methodLink RX5 153 yJx4a65c_size_8abf5, Cond.instanceMethod yJx4a65c_size_8abf5, Cond.selects RJx4a65c yJx4a65c_size_8abf5 yJx4a65c_size_8abf5, Cond.initialized RJx4a65c, Cond.code yJx4a65c_size_8abf5 cJx4a65c_size_8abf5 1 (some .int), Cond.fieldLink RJx4a65c 48 "java/util/ArrayList" "size" "I", Cond.methodLink RX5 206 yJx4a65c_get_915e3, Cond.instanceMethod yJx4a65c_get_915e3, Cond.selects RJx4a65c yJx4a65c_get_915e3 yJx4a65c_get_915e3, Cond.code yJx4a65c_get_915e3 cJx4a65c_get_915e3 2 (some (.object "java/lang/Object")), Cond.methodLink RJx4a65c 118 yJ15_checkIndex_7cf53, Cond.static yJ15_checkIndex_7cf53, Cond.initialized RJ15]
def wsX5_messageLine_r2 : List Cond := [Cond.code yJ15_checkIndex_7cf53 cJ15_checkIndex_7cf53 2 (some .int), Cond.methodLink RJ15 105 yJ3_checkIndex_8e157, Cond.static yJ3_checkIndex_8e157, Cond.initialized RJ3, Cond.code yJ3_checkIndex_8e157 cJ3_checkIndex_8e157 3 (some .int), Cond.methodLink RJx4a65c 123 yJx4a65c_elementData_915e3, Cond.instanceMethod yJx4a65c_elementData_915e3, Cond.selects RJx4a65c yJx4a65c_elementData_915e3 yJx4a65c_elementData_915e3, Cond.code yJx4a65c_elementData_915e3 cJx4a65c_elementData_915e3 2 (some (.object "java/lang/Object")), Cond.fieldLink RJx4a65c 9 "java/util/ArrayList" "elementData" "[Ljava/lang/Object;"]
def wsX5_messageLine : List Cond := .code yX5_messageLine cX5_messageLine 2 (some .int) :: ((wsX5_messageLine_r1 ++ wsX5_messageLine_r2) ++ wsX20 ++ wsX50 ++ wsX30 ++ wsJx4a65c0 ++ (vx_atS RX5 214 "java/lang/IndexOutOfBoundsException" ["java/lang/RuntimeException", "java/lang/Exception"]).filter goodWord)
def wsX5_messageFrom_r1 : List Cond := [Cond.fieldLink RX5 175 "CacheDirectory$Message" "sender" "I", Cond.methodLink RX5 165 yX5_messageAt, Cond.instanceMethod yX5_messageAt, Cond.selects RX5 yX5_messageAt yX5_messageAt, Cond.initialized RX5, Cond.code yX5_messageAt cX5_messageAt 2 (some (.object "CacheDirectory$Message")), Cond.classLink RX5 210 "java/lang/IndexOutOfBoundsException", Cond.initialized "java/lang/IndexOutOfBoundsException", Cond.fieldLink RX5 10 "CacheDirectory" "network" "LCacheDirectory$Network;", Cond.fieldLink RX5 162 "CacheDirectory$Network" "onTheWay" "Ljava/util/ArrayList;", Cond.classLink RX5 170 "CacheDirectory$Message", Cond.methodLink RX5 153 yJx4a65c_size_8abf5, Cond.instanceMethod yJx4a65c_size_8abf5, Cond.selects RJx4a65c yJx4a65c_size_8abf5 yJx4a65c_size_8abf5, Cond.initialized RJx4a65c, Cond.code yJx4a65c_size_8abf5 cJx4a65c_size_8abf5 1 (some .int), Cond.fieldLink RJx4a65c 48 "java/util/ArrayList" "size" "I", Cond.methodLink RX5 206 yJx4a65c_get_915e3, Cond.instanceMethod yJx4a65c_get_915e3, Cond.selects RJx4a65c yJx4a65c_get_915e3 yJx4a65c_get_915e3, Cond.code yJx4a65c_get_915e3 cJx4a65c_get_915e3 2 (some (.object "java/lang/Object")), Cond.methodLink RJx4a65c 118 yJ15_checkIndex_7cf53, Cond.static yJ15_checkIndex_7cf53, Cond.initialized RJ15]
def wsX5_messageFrom_r2 : List Cond := [Cond.code yJ15_checkIndex_7cf53 cJ15_checkIndex_7cf53 2 (some .int), Cond.methodLink RJ15 105 yJ3_checkIndex_8e157, Cond.static yJ3_checkIndex_8e157, Cond.initialized RJ3, Cond.code yJ3_checkIndex_8e157 cJ3_checkIndex_8e157 3 (some .int), Cond.methodLink RJx4a65c 123 yJx4a65c_elementData_915e3, Cond.instanceMethod yJx4a65c_elementData_915e3, Cond.selects RJx4a65c yJx4a65c_elementData_915e3 yJx4a65c_elementData_915e3, Cond.code yJx4a65c_elementData_915e3 cJx4a65c_elementData_915e3 2 (some (.object "java/lang/Object")), Cond.fieldLink RJx4a65c 9 "java/util/ArrayList" "elementData" "[Ljava/lang/Object;"]
def wsX5_messageFrom : List Cond := .code yX5_messageFrom cX5_messageFrom 2 (some .int) :: ((wsX5_messageFrom_r1 ++ wsX5_messageFrom_r2) ++ wsX20 ++ wsX50 ++ wsX30 ++ wsJx4a65c0 ++ (vx_atS RX5 214 "java/lang/IndexOutOfBoundsException" ["java/lang/RuntimeException", "java/lang/Exception"]).filter goodWord)
def wsX5_messageTo_r1 : List Cond := [Cond.fieldLink RX5 178 "CacheDirectory$Message" "receiver" "I", Cond.methodLink RX5 165 yX5_messageAt, Cond.instanceMethod yX5_messageAt, Cond.selects RX5 yX5_messageAt yX5_messageAt, Cond.initialized RX5, Cond.code yX5_messageAt cX5_messageAt 2 (some (.object "CacheDirectory$Message")), Cond.classLink RX5 210 "java/lang/IndexOutOfBoundsException", Cond.initialized "java/lang/IndexOutOfBoundsException", Cond.fieldLink RX5 10 "CacheDirectory" "network" "LCacheDirectory$Network;", Cond.fieldLink RX5 162 "CacheDirectory$Network" "onTheWay" "Ljava/util/ArrayList;", Cond.classLink RX5 170 "CacheDirectory$Message", Cond.methodLink RX5 153 yJx4a65c_size_8abf5, Cond.instanceMethod yJx4a65c_size_8abf5, Cond.selects RJx4a65c yJx4a65c_size_8abf5 yJx4a65c_size_8abf5, Cond.initialized RJx4a65c, Cond.code yJx4a65c_size_8abf5 cJx4a65c_size_8abf5 1 (some .int), Cond.fieldLink RJx4a65c 48 "java/util/ArrayList" "size" "I", Cond.methodLink RX5 206 yJx4a65c_get_915e3, Cond.instanceMethod yJx4a65c_get_915e3, Cond.selects RJx4a65c yJx4a65c_get_915e3 yJx4a65c_get_915e3, Cond.code yJx4a65c_get_915e3 cJx4a65c_get_915e3 2 (some (.object "java/lang/Object")), Cond.methodLink RJx4a65c 118 yJ15_checkIndex_7cf53, Cond.static yJ15_checkIndex_7cf53, Cond.initialized RJ15]
def wsX5_messageTo_r2 : List Cond := [Cond.code yJ15_checkIndex_7cf53 cJ15_checkIndex_7cf53 2 (some .int), Cond.methodLink RJ15 105 yJ3_checkIndex_8e157, Cond.static yJ3_checkIndex_8e157, Cond.initialized RJ3, Cond.code yJ3_checkIndex_8e157 cJ3_checkIndex_8e157 3 (some .int), Cond.methodLink RJx4a65c 123 yJx4a65c_elementData_915e3, Cond.instanceMethod yJx4a65c_elementData_915e3, Cond.selects RJx4a65c yJx4a65c_elementData_915e3 yJx4a65c_elementData_915e3, Cond.code yJx4a65c_elementData_915e3 cJx4a65c_elementData_915e3 2 (some (.object "java/lang/Object")), Cond.fieldLink RJx4a65c 9 "java/util/ArrayList" "elementData" "[Ljava/lang/Object;"]
def wsX5_messageTo : List Cond := .code yX5_messageTo cX5_messageTo 2 (some .int) :: ((wsX5_messageTo_r1 ++ wsX5_messageTo_r2) ++ wsX20 ++ wsX50 ++ wsX30 ++ wsJx4a65c0 ++ (vx_atS RX5 214 "java/lang/IndexOutOfBoundsException" ["java/lang/RuntimeException", "java/lang/Exception"]).filter goodWord)
def wsX5_handOver_r1 : List Cond := [Cond.fieldLink RX5 10 "CacheDirectory" "network" "LCacheDirectory$Network;", Cond.fieldLink RX5 162 "CacheDirectory$Network" "onTheWay" "Ljava/util/ArrayList;", Cond.fieldLink RX5 178 "CacheDirectory$Message" "receiver" "I", Cond.fieldLink RX5 174 "CacheDirectory$Message" "line" "I", Cond.methodLink RX5 165 yX5_messageAt, Cond.instanceMethod yX5_messageAt, Cond.selects RX5 yX5_messageAt yX5_messageAt, Cond.initialized RX5, Cond.code yX5_messageAt cX5_messageAt 2 (some (.object "CacheDirectory$Message")), Cond.classLink RX5 210 "java/lang/IndexOutOfBoundsException", Cond.initialized "java/lang/IndexOutOfBoundsException", Cond.classLink RX5 170 "CacheDirectory$Message", Cond.methodLink RX5 153 yJx4a65c_size_8abf5, Cond.instanceMethod yJx4a65c_size_8abf5, Cond.selects RJx4a65c yJx4a65c_size_8abf5 yJx4a65c_size_8abf5, Cond.initialized RJx4a65c, Cond.code yJx4a65c_size_8abf5 cJx4a65c_size_8abf5 1 (some .int), Cond.fieldLink RJx4a65c 48 "java/util/ArrayList" "size" "I", Cond.methodLink RX5 206 yJx4a65c_get_915e3, Cond.instanceMethod yJx4a65c_get_915e3, Cond.selects RJx4a65c yJx4a65c_get_915e3 yJx4a65c_get_915e3, Cond.code yJx4a65c_get_915e3 cJx4a65c_get_915e3 2 (some (.object "java/lang/Object")), Cond.methodLink RJx4a65c 118 yJ15_checkIndex_7cf53, Cond.static yJ15_checkIndex_7cf53]
def wsX5_handOver_r2 : List Cond := [Cond.initialized RJ15, Cond.code yJ15_checkIndex_7cf53 cJ15_checkIndex_7cf53 2 (some .int), Cond.methodLink RJ15 105 yJ3_checkIndex_8e157, Cond.static yJ3_checkIndex_8e157, Cond.initialized RJ3, Cond.code yJ3_checkIndex_8e157 cJ3_checkIndex_8e157 3 (some .int), Cond.methodLink RJx4a65c 123 yJx4a65c_elementData_915e3, Cond.instanceMethod yJx4a65c_elementData_915e3, Cond.selects RJx4a65c yJx4a65c_elementData_915e3 yJx4a65c_elementData_915e3, Cond.code yJx4a65c_elementData_915e3 cJx4a65c_elementData_915e3 2 (some (.object "java/lang/Object")), Cond.fieldLink RJx4a65c 9 "java/util/ArrayList" "elementData" "[Ljava/lang/Object;", Cond.methodLink RX5 228 yJx4a65c_remove_915e3, Cond.instanceMethod yJx4a65c_remove_915e3, Cond.selects RJx4a65c yJx4a65c_remove_915e3 yJx4a65c_remove_915e3, Cond.code yJx4a65c_remove_915e3 cJx4a65c_remove_915e3 4 (some (.object "java/lang/Object")), Cond.methodLink RJx4a65c 144 yJx4a65c_fastRemove_b59b0, Cond.instanceMethod yJx4a65c_fastRemove_b59b0, Cond.selects RJx4a65c yJx4a65c_fastRemove_b59b0 yJx4a65c_fastRemove_b59b0, Cond.code yJx4a65c_fastRemove_b59b0 cJx4a65c_fastRemove_b59b0 4 none, Cond.fieldLink RJx4a65c 63 "java/util/ArrayList" "modCount" "I", Cond.sameField "java/util/ArrayList" "java/util/AbstractList" "modCount" "I", Cond.methodLink RJx4a65c 112 arraycopyName, Cond.native arraycopyName, Cond.static arraycopyName]
def wsX5_handOver_r3 : List Cond := [Cond.initialized "java/lang/System", Cond.methodLink RX5 135 yX5_homeOf, Cond.instanceMethod yX5_homeOf, Cond.selects RX5 yX5_homeOf yX5_homeOf, Cond.code yX5_homeOf cX5_homeOf 2 (some (.object "CacheDirectory$Home")), Cond.fieldLink RX5 27 "CacheDirectory" "homes" "[LCacheDirectory$Home;", Cond.methodLink RX5 61 yX5_checkLine, Cond.static yX5_checkLine, Cond.code yX5_checkLine cX5_checkLine 1 none, Cond.methodLink RX5 231 yX1_receive, Cond.instanceMethod yX1_receive, Cond.selects RX1 yX1_receive yX1_receive, Cond.initialized RX1, Cond.code yX1_receive cX1_receive 3 none, Cond.fieldLink RX1 45 "CacheDirectory$Message" "kind" "I", Cond.fieldLink RX1 28 "CacheDirectory$Home" "busy" "Z", Cond.fieldLink RX1 12 "CacheDirectory$Home" "waiting" "Ljava/util/ArrayList;", Cond.classLink RX1 46 "CacheDirectory$Message", Cond.methodLink RX1 50 yJx4a65c_size_8abf5, Cond.methodLink RX1 54 yJx4a65c_isEmpty_aae02, Cond.instanceMethod yJx4a65c_isEmpty_aae02, Cond.selects RJx4a65c yJx4a65c_isEmpty_aae02 yJx4a65c_isEmpty_aae02, Cond.code yJx4a65c_isEmpty_aae02 cJx4a65c_isEmpty_aae02 1 (some .boolean), Cond.methodLink RX1 58 yJx4a65c_remove_915e3]
def wsX5_handOver_r4 : List Cond := [Cond.methodLink RX1 62 yX1_process, Cond.instanceMethod yX1_process, Cond.selects RX1 yX1_process yX1_process, Cond.code yX1_process cX1_process 2 none, Cond.fieldLink RX1 70 "CacheDirectory$Message" "sender" "I", Cond.methodLink RX1 73 yX1_processRead, Cond.instanceMethod yX1_processRead, Cond.selects RX1 yX1_processRead yX1_processRead, Cond.code yX1_processRead cX1_processRead 2 none, Cond.fieldLink RX1 22 "CacheDirectory$Home" "ownerCache" "I", Cond.fieldLink RX1 41 "CacheDirectory$Home" "network" "LCacheDirectory$Network;", Cond.fieldLink RX1 38 "CacheDirectory$Home" "line" "I", Cond.fieldLink RX1 18 "CacheDirectory$Home" "memoryValue" "I", Cond.fieldLink RX1 89 "CacheDirectory$Message" "carried" "I", Cond.fieldLink RX1 92 "CacheDirectory$Message" "requester" "I", Cond.fieldLink RX1 25 "CacheDirectory$Home" "sharerSet" "I", Cond.methodLink RX1 83 yX3_send, Cond.instanceMethod yX3_send, Cond.selects RX3 yX3_send yX3_send, Cond.initialized RX3, Cond.code yX3_send cX3_send 6 (some (.object "CacheDirectory$Message")), Cond.classLink RX3 16 RX2, Cond.instantiable RX2 7, Cond.initialized RX2]
def wsX5_handOver_r5 : List Cond := [Cond.fieldLink RX3 10 "CacheDirectory$Network" "onTheWay" "Ljava/util/ArrayList;", Cond.methodLink RX3 18 yX2_init, Cond.instanceMethod yX2_init, Cond.code yX2_init cX2_init 5 none, Cond.methodLink RX2 3 objectInit, Cond.instanceMethod objectInit, Cond.code objectInit ⟨#[0xb1]⟩ 1 none, Cond.fieldLink RX2 9 "CacheDirectory$Message" "carried" "I", Cond.fieldLink RX2 15 "CacheDirectory$Message" "count" "I", Cond.fieldLink RX2 18 "CacheDirectory$Message" "requester" "I", Cond.fieldLink RX2 21 "CacheDirectory$Message" "kind" "I", Cond.fieldLink RX2 24 "CacheDirectory$Message" "line" "I", Cond.fieldLink RX2 27 "CacheDirectory$Message" "sender" "I", Cond.fieldLink RX2 30 "CacheDirectory$Message" "receiver" "I", Cond.methodLink RX3 21 yJx4a65c_add_9ea2d, Cond.instanceMethod yJx4a65c_add_9ea2d, Cond.selects RJx4a65c yJx4a65c_add_9ea2d yJx4a65c_add_9ea2d, Cond.code yJx4a65c_add_9ea2d cJx4a65c_add_9ea2d 2 (some .boolean), Cond.methodLink RJx4a65c 131 yJx4a65c_add_72be8, Cond.instanceMethod yJx4a65c_add_72be8, Cond.selects RJx4a65c yJx4a65c_add_72be8 yJx4a65c_add_72be8, Cond.code yJx4a65c_add_72be8 cJx4a65c_add_72be8 4 none, Cond.methodLink RJx4a65c 129 yJx4a65c_grow_d5877, Cond.instanceMethod yJx4a65c_grow_d5877]
def wsX5_handOver_r6 : List Cond := [Cond.selects RJx4a65c yJx4a65c_grow_d5877 yJx4a65c_grow_d5877, Cond.code yJx4a65c_grow_d5877 cJx4a65c_grow_d5877 1 (some (.array (.object "java/lang/Object"))), Cond.methodLink RJx4a65c 69 yJx4a65c_grow_92f84, Cond.instanceMethod yJx4a65c_grow_92f84, Cond.selects RJx4a65c yJx4a65c_grow_92f84 yJx4a65c_grow_92f84, Cond.code yJx4a65c_grow_92f84 cJx4a65c_grow_92f84 4 (some (.array (.object "java/lang/Object"))), Cond.fieldLink RJx4a65c 39 "java/util/ArrayList" "DEFAULTCAPACITY_EMPTY_ELEMENTDATA" "[Ljava/lang/Object;", Cond.methodLink RJx4a65c 79 Lib.Math.max.name, Cond.static Lib.Math.max.name, Cond.initialized "java/lang/Math", Cond.code Lib.Math.max.name Lib.Math.max.code 2 (some .int), Cond.classLink RJx4a65c 7 "java/lang/Object", Cond.methodLink RJx4a65c 73 yJ8_newLength_cabcc, Cond.static yJ8_newLength_cabcc, Cond.initialized RJ8, Cond.code yJ8_newLength_cabcc cJ8_newLength_cabcc 4 (some .int), Cond.methodLink RJ8 194 Lib.Math.max.name, Cond.constant RJ8 200 (2147483639), Cond.methodLink RJ8 201 yJ8_hugeLength_7cf53, Cond.static yJ8_hugeLength_7cf53, Cond.code yJ8_hugeLength_7cf53 cJ8_hugeLength_7cf53 3 (some .int), Cond.methodLink RJx4a65c 66 yJ7_copyOf_1904c, Cond.static yJ7_copyOf_1904c, Cond.initialized RJ7]
def wsX5_handOver_r7 : List Cond := [Cond.code yJ7_copyOf_1904c cJ7_copyOf_1904c 2 (some (.array (.object "java/lang/Object"))), Cond.methodLink RJ7 86 ⟨"java/lang/Object", "getClass", "()Ljava/lang/Class;"⟩, Cond.selects "[Ljava/lang/Object;" ⟨"java/lang/Object", "getClass", "()Ljava/lang/Class;"⟩ ⟨"java/lang/Object", "getClass", "()Ljava/lang/Class;"⟩, Cond.instanceMethod ⟨"java/lang/Object", "getClass", "()Ljava/lang/Class;"⟩, Cond.native ⟨"java/lang/Object", "getClass", "()Ljava/lang/Class;"⟩, Cond.methodLink RJ7 300 yJ7_copyOf_6403c, Cond.static yJ7_copyOf_6403c, Cond.code yJ7_copyOf_6403c cJ7_copyOf_6403c 4 (some (.array (.object "java/lang/Object"))), Cond.classLink RJ7 110 "[Ljava/lang/Object;", Cond.classLink RJ7 2 "java/lang/Object", Cond.methodLink RJ7 304 Lib.Math.min.name, Cond.static Lib.Math.min.name, Cond.code Lib.Math.min.name Lib.Math.min.code 2 (some .int), Cond.methodLink RJ7 150 arraycopyName, Cond.methodLink RX1 77 yX1_processWrite, Cond.instanceMethod yX1_processWrite, Cond.selects RX1 yX1_processWrite yX1_processWrite, Cond.code yX1_processWrite cX1_processWrite 4 none, Cond.fieldLink RX1 101 "CacheDirectory$Message" "count" "I", Cond.methodLink RX1 95 yJ6_bitCount_0f7a4, Cond.static yJ6_bitCount_0f7a4, Cond.initialized RJ6, Cond.code yJ6_bitCount_0f7a4 cJ6_bitCount_0f7a4 1 (some .int), Cond.constant RJ6 265 (1431655765)]
def wsX5_handOver_r8 : List Cond := [Cond.constant RJ6 266 (858993459), Cond.constant RJ6 267 (252645135), Cond.methodLink RX1 80 yX1_processPut, Cond.instanceMethod yX1_processPut, Cond.selects RX1 yX1_processPut yX1_processPut, Cond.code yX1_processPut cX1_processPut 2 none, Cond.fieldLink RX1 32 "CacheDirectory$Home" "timelyPuts" "I", Cond.fieldLink RX1 35 "CacheDirectory$Home" "latePuts" "I", Cond.methodLink RX1 66 yJx4a65c_add_9ea2d, Cond.methodLink RX5 32 yX5_cacheAt, Cond.instanceMethod yX5_cacheAt, Cond.selects RX5 yX5_cacheAt yX5_cacheAt, Cond.code yX5_cacheAt cX5_cacheAt 2 (some (.object "CacheDirectory$Cache")), Cond.fieldLink RX5 18 "CacheDirectory" "caches" "[LCacheDirectory$Cache;", Cond.methodLink RX5 235 yX0_receive, Cond.instanceMethod yX0_receive, Cond.selects RX0 yX0_receive yX0_receive, Cond.initialized RX0, Cond.code yX0_receive cX0_receive 2 none, Cond.fieldLink RX0 92 "CacheDirectory$Message" "kind" "I", Cond.fieldLink RX0 12 "CacheDirectory$Cache" "request" "LCacheDirectory$Request;", Cond.fieldLink RX0 95 "CacheDirectory$Request" "answered" "Z", Cond.fieldLink RX0 84 "CacheDirectory$Message" "carried" "I", Cond.fieldLink RX0 99 "CacheDirectory$Request" "received" "I"]
def wsX5_handOver_r9 : List Cond := [Cond.fieldLink RX0 102 "CacheDirectory$Message" "count" "I", Cond.fieldLink RX0 105 "CacheDirectory$Request" "invalidationsDue" "I", Cond.fieldLink RX0 108 "CacheDirectory$Message" "line" "I", Cond.fieldLink RX0 112 "CacheDirectory$Request" "invalidationsDone" "I", Cond.fieldLink RX0 18 "CacheDirectory$Cache" "states" "[I", Cond.fieldLink RX0 56 "CacheDirectory$Cache" "network" "LCacheDirectory$Network;", Cond.fieldLink RX0 53 "CacheDirectory$Cache" "number" "I", Cond.fieldLink RX0 119 "CacheDirectory$Message" "requester" "I", Cond.fieldLink RX0 25 "CacheDirectory$Cache" "victimValues" "[I", Cond.fieldLink RX0 35 "CacheDirectory$Cache" "victimCount" "I", Cond.methodLink RX0 109 yX0_finishIfComplete, Cond.instanceMethod yX0_finishIfComplete, Cond.selects RX0 yX0_finishIfComplete yX0_finishIfComplete, Cond.code yX0_finishIfComplete cX0_finishIfComplete 2 none, Cond.fieldLink RX0 126 "CacheDirectory$Request" "forWriting" "Z", Cond.fieldLink RX0 129 "CacheDirectory$Request" "toWrite" "I", Cond.fieldLink RX0 44 "CacheDirectory$Cache" "latestResult" "I", Cond.fieldLink RX0 60 "CacheDirectory$Request" "line" "I", Cond.methodLink RX0 122 yX4_isComplete, Cond.instanceMethod yX4_isComplete, Cond.selects RX4 yX4_isComplete yX4_isComplete, Cond.initialized RX4, Cond.code yX4_isComplete cX4_isComplete 1 (some .boolean), Cond.fieldLink RX4 22 "CacheDirectory$Request" "answered" "Z"]
def wsX5_handOver_r10 : List Cond := [Cond.fieldLink RX4 25 "CacheDirectory$Request" "invalidationsDone" "I", Cond.fieldLink RX4 28 "CacheDirectory$Request" "invalidationsDue" "I", Cond.methodLink RX0 132 yX0_store, Cond.instanceMethod yX0_store, Cond.selects RX0 yX0_store yX0_store, Cond.code yX0_store cX0_store 4 none, Cond.fieldLink RX0 22 "CacheDirectory$Cache" "values" "[I", Cond.methodLink RX0 136 yX0_markUsed, Cond.instanceMethod yX0_markUsed, Cond.selects RX0 yX0_markUsed yX0_markUsed, Cond.code yX0_markUsed cX0_markUsed 2 none, Cond.fieldLink RX0 31 "CacheDirectory$Cache" "lineCount" "I", Cond.fieldLink RX0 28 "CacheDirectory$Cache" "useOrder" "[I", Cond.methodLink RX0 139 yX0_leaveUseOrder, Cond.instanceMethod yX0_leaveUseOrder, Cond.selects RX0 yX0_leaveUseOrder yX0_leaveUseOrder, Cond.code yX0_leaveUseOrder cX0_leaveUseOrder 4 none, Cond.methodLink RX0 78 yX3_send, Cond.methodLink RX0 115 yX0_passOn, Cond.instanceMethod yX0_passOn, Cond.selects RX0 yX0_passOn yX0_passOn, Cond.code yX0_passOn cX0_passOn 4 none, Cond.methodLink RX0 63 yX0_holds, Cond.instanceMethod yX0_holds]
def wsX5_handOver_r11 : List Cond := [Cond.selects RX0 yX0_holds yX0_holds, Cond.code yX0_holds cX0_holds 2 (some .boolean), Cond.methodLink RX0 89 yX0_drop, Cond.instanceMethod yX0_drop, Cond.selects RX0 yX0_drop yX0_drop, Cond.code yX0_drop cX0_drop 2 none]
def wsX5_handOver : List Cond := .code yX5_handOver cX5_handOver 3 none :: ((wsX5_handOver_r1 ++ (wsX5_handOver_r2 ++ (wsX5_handOver_r3 ++ (wsX5_handOver_r4 ++ (wsX5_handOver_r5 ++ (wsX5_handOver_r6 ++ (wsX5_handOver_r7 ++ (wsX5_handOver_r8 ++ (wsX5_handOver_r9 ++ (wsX5_handOver_r10 ++ wsX5_handOver_r11)))))))))) ++ wsX50 ++ wsX30 ++ wsX20 ++ wsJx4a65c0 ++ wsX10 ++ wsX00 ++ wsX40 ++ (vx_atS RX5 214 "java/lang/IndexOutOfBoundsException" ["java/lang/RuntimeException", "java/lang/Exception"]).filter goodWord)
def wsX5_deliver_r1 : List Cond := [Cond.fieldLink RX5 10 "CacheDirectory" "network" "LCacheDirectory$Network;", Cond.fieldLink RX5 162 "CacheDirectory$Network" "onTheWay" "Ljava/util/ArrayList;", Cond.methodLink RX5 181 yX5_handOver, Cond.instanceMethod yX5_handOver, Cond.selects RX5 yX5_handOver yX5_handOver, Cond.initialized RX5, Cond.code yX5_handOver cX5_handOver 3 none, Cond.fieldLink RX5 178 "CacheDirectory$Message" "receiver" "I", Cond.fieldLink RX5 174 "CacheDirectory$Message" "line" "I", Cond.methodLink RX5 165 yX5_messageAt, Cond.instanceMethod yX5_messageAt, Cond.selects RX5 yX5_messageAt yX5_messageAt, Cond.code yX5_messageAt cX5_messageAt 2 (some (.object "CacheDirectory$Message")), Cond.classLink RX5 210 "java/lang/IndexOutOfBoundsException", Cond.initialized "java/lang/IndexOutOfBoundsException", Cond.classLink RX5 170 "CacheDirectory$Message", Cond.methodLink RX5 153 yJx4a65c_size_8abf5, Cond.instanceMethod yJx4a65c_size_8abf5, Cond.selects RJx4a65c yJx4a65c_size_8abf5 yJx4a65c_size_8abf5, Cond.initialized RJx4a65c, Cond.code yJx4a65c_size_8abf5 cJx4a65c_size_8abf5 1 (some .int), Cond.fieldLink RJx4a65c 48 "java/util/ArrayList" "size" "I", Cond.methodLink RX5 206 yJx4a65c_get_915e3, Cond.instanceMethod yJx4a65c_get_915e3]
def wsX5_deliver_r2 : List Cond := [Cond.selects RJx4a65c yJx4a65c_get_915e3 yJx4a65c_get_915e3, Cond.code yJx4a65c_get_915e3 cJx4a65c_get_915e3 2 (some (.object "java/lang/Object")), Cond.methodLink RJx4a65c 118 yJ15_checkIndex_7cf53, Cond.static yJ15_checkIndex_7cf53, Cond.initialized RJ15, Cond.code yJ15_checkIndex_7cf53 cJ15_checkIndex_7cf53 2 (some .int), Cond.methodLink RJ15 105 yJ3_checkIndex_8e157, Cond.static yJ3_checkIndex_8e157, Cond.initialized RJ3, Cond.code yJ3_checkIndex_8e157 cJ3_checkIndex_8e157 3 (some .int), Cond.methodLink RJx4a65c 123 yJx4a65c_elementData_915e3, Cond.instanceMethod yJx4a65c_elementData_915e3, Cond.selects RJx4a65c yJx4a65c_elementData_915e3 yJx4a65c_elementData_915e3, Cond.code yJx4a65c_elementData_915e3 cJx4a65c_elementData_915e3 2 (some (.object "java/lang/Object")), Cond.fieldLink RJx4a65c 9 "java/util/ArrayList" "elementData" "[Ljava/lang/Object;", Cond.methodLink RX5 228 yJx4a65c_remove_915e3, Cond.instanceMethod yJx4a65c_remove_915e3, Cond.selects RJx4a65c yJx4a65c_remove_915e3 yJx4a65c_remove_915e3, Cond.code yJx4a65c_remove_915e3 cJx4a65c_remove_915e3 4 (some (.object "java/lang/Object")), Cond.methodLink RJx4a65c 144 yJx4a65c_fastRemove_b59b0, Cond.instanceMethod yJx4a65c_fastRemove_b59b0, Cond.selects RJx4a65c yJx4a65c_fastRemove_b59b0 yJx4a65c_fastRemove_b59b0, Cond.code yJx4a65c_fastRemove_b59b0 cJx4a65c_fastRemove_b59b0 4 none, Cond.fieldLink RJx4a65c 63 "java/util/ArrayList" "modCount" "I"]
def wsX5_deliver_r3 : List Cond := [Cond.sameField "java/util/ArrayList" "java/util/AbstractList" "modCount" "I", Cond.methodLink RJx4a65c 112 arraycopyName, Cond.native arraycopyName, Cond.static arraycopyName, Cond.initialized "java/lang/System", Cond.methodLink RX5 135 yX5_homeOf, Cond.instanceMethod yX5_homeOf, Cond.selects RX5 yX5_homeOf yX5_homeOf, Cond.code yX5_homeOf cX5_homeOf 2 (some (.object "CacheDirectory$Home")), Cond.fieldLink RX5 27 "CacheDirectory" "homes" "[LCacheDirectory$Home;", Cond.methodLink RX5 61 yX5_checkLine, Cond.static yX5_checkLine, Cond.code yX5_checkLine cX5_checkLine 1 none, Cond.methodLink RX5 231 yX1_receive, Cond.instanceMethod yX1_receive, Cond.selects RX1 yX1_receive yX1_receive, Cond.initialized RX1, Cond.code yX1_receive cX1_receive 3 none, Cond.fieldLink RX1 45 "CacheDirectory$Message" "kind" "I", Cond.fieldLink RX1 28 "CacheDirectory$Home" "busy" "Z", Cond.fieldLink RX1 12 "CacheDirectory$Home" "waiting" "Ljava/util/ArrayList;", Cond.classLink RX1 46 "CacheDirectory$Message", Cond.methodLink RX1 50 yJx4a65c_size_8abf5, Cond.methodLink RX1 54 yJx4a65c_isEmpty_aae02]
def wsX5_deliver_r4 : List Cond := [Cond.instanceMethod yJx4a65c_isEmpty_aae02, Cond.selects RJx4a65c yJx4a65c_isEmpty_aae02 yJx4a65c_isEmpty_aae02, Cond.code yJx4a65c_isEmpty_aae02 cJx4a65c_isEmpty_aae02 1 (some .boolean), Cond.methodLink RX1 58 yJx4a65c_remove_915e3, Cond.methodLink RX1 62 yX1_process, Cond.instanceMethod yX1_process, Cond.selects RX1 yX1_process yX1_process, Cond.code yX1_process cX1_process 2 none, Cond.fieldLink RX1 70 "CacheDirectory$Message" "sender" "I", Cond.methodLink RX1 73 yX1_processRead, Cond.instanceMethod yX1_processRead, Cond.selects RX1 yX1_processRead yX1_processRead, Cond.code yX1_processRead cX1_processRead 2 none, Cond.fieldLink RX1 22 "CacheDirectory$Home" "ownerCache" "I", Cond.fieldLink RX1 41 "CacheDirectory$Home" "network" "LCacheDirectory$Network;", Cond.fieldLink RX1 38 "CacheDirectory$Home" "line" "I", Cond.fieldLink RX1 18 "CacheDirectory$Home" "memoryValue" "I", Cond.fieldLink RX1 89 "CacheDirectory$Message" "carried" "I", Cond.fieldLink RX1 92 "CacheDirectory$Message" "requester" "I", Cond.fieldLink RX1 25 "CacheDirectory$Home" "sharerSet" "I", Cond.methodLink RX1 83 yX3_send, Cond.instanceMethod yX3_send, Cond.selects RX3 yX3_send yX3_send, Cond.initialized RX3]
def wsX5_deliver_r5 : List Cond := [Cond.code yX3_send cX3_send 6 (some (.object "CacheDirectory$Message")), Cond.classLink RX3 16 RX2, Cond.instantiable RX2 7, Cond.initialized RX2, Cond.fieldLink RX3 10 "CacheDirectory$Network" "onTheWay" "Ljava/util/ArrayList;", Cond.methodLink RX3 18 yX2_init, Cond.instanceMethod yX2_init, Cond.code yX2_init cX2_init 5 none, Cond.methodLink RX2 3 objectInit, Cond.instanceMethod objectInit, Cond.code objectInit ⟨#[0xb1]⟩ 1 none, Cond.fieldLink RX2 9 "CacheDirectory$Message" "carried" "I", Cond.fieldLink RX2 15 "CacheDirectory$Message" "count" "I", Cond.fieldLink RX2 18 "CacheDirectory$Message" "requester" "I", Cond.fieldLink RX2 21 "CacheDirectory$Message" "kind" "I", Cond.fieldLink RX2 24 "CacheDirectory$Message" "line" "I", Cond.fieldLink RX2 27 "CacheDirectory$Message" "sender" "I", Cond.fieldLink RX2 30 "CacheDirectory$Message" "receiver" "I", Cond.methodLink RX3 21 yJx4a65c_add_9ea2d, Cond.instanceMethod yJx4a65c_add_9ea2d, Cond.selects RJx4a65c yJx4a65c_add_9ea2d yJx4a65c_add_9ea2d, Cond.code yJx4a65c_add_9ea2d cJx4a65c_add_9ea2d 2 (some .boolean), Cond.methodLink RJx4a65c 131 yJx4a65c_add_72be8, Cond.instanceMethod yJx4a65c_add_72be8]
def wsX5_deliver_r6 : List Cond := [Cond.selects RJx4a65c yJx4a65c_add_72be8 yJx4a65c_add_72be8, Cond.code yJx4a65c_add_72be8 cJx4a65c_add_72be8 4 none, Cond.methodLink RJx4a65c 129 yJx4a65c_grow_d5877, Cond.instanceMethod yJx4a65c_grow_d5877, Cond.selects RJx4a65c yJx4a65c_grow_d5877 yJx4a65c_grow_d5877, Cond.code yJx4a65c_grow_d5877 cJx4a65c_grow_d5877 1 (some (.array (.object "java/lang/Object"))), Cond.methodLink RJx4a65c 69 yJx4a65c_grow_92f84, Cond.instanceMethod yJx4a65c_grow_92f84, Cond.selects RJx4a65c yJx4a65c_grow_92f84 yJx4a65c_grow_92f84, Cond.code yJx4a65c_grow_92f84 cJx4a65c_grow_92f84 4 (some (.array (.object "java/lang/Object"))), Cond.fieldLink RJx4a65c 39 "java/util/ArrayList" "DEFAULTCAPACITY_EMPTY_ELEMENTDATA" "[Ljava/lang/Object;", Cond.methodLink RJx4a65c 79 Lib.Math.max.name, Cond.static Lib.Math.max.name, Cond.initialized "java/lang/Math", Cond.code Lib.Math.max.name Lib.Math.max.code 2 (some .int), Cond.classLink RJx4a65c 7 "java/lang/Object", Cond.methodLink RJx4a65c 73 yJ8_newLength_cabcc, Cond.static yJ8_newLength_cabcc, Cond.initialized RJ8, Cond.code yJ8_newLength_cabcc cJ8_newLength_cabcc 4 (some .int), Cond.methodLink RJ8 194 Lib.Math.max.name, Cond.constant RJ8 200 (2147483639), Cond.methodLink RJ8 201 yJ8_hugeLength_7cf53, Cond.static yJ8_hugeLength_7cf53]
def wsX5_deliver_r7 : List Cond := [Cond.code yJ8_hugeLength_7cf53 cJ8_hugeLength_7cf53 3 (some .int), Cond.methodLink RJx4a65c 66 yJ7_copyOf_1904c, Cond.static yJ7_copyOf_1904c, Cond.initialized RJ7, Cond.code yJ7_copyOf_1904c cJ7_copyOf_1904c 2 (some (.array (.object "java/lang/Object"))), Cond.methodLink RJ7 86 ⟨"java/lang/Object", "getClass", "()Ljava/lang/Class;"⟩, Cond.selects "[Ljava/lang/Object;" ⟨"java/lang/Object", "getClass", "()Ljava/lang/Class;"⟩ ⟨"java/lang/Object", "getClass", "()Ljava/lang/Class;"⟩, Cond.instanceMethod ⟨"java/lang/Object", "getClass", "()Ljava/lang/Class;"⟩, Cond.native ⟨"java/lang/Object", "getClass", "()Ljava/lang/Class;"⟩, Cond.methodLink RJ7 300 yJ7_copyOf_6403c, Cond.static yJ7_copyOf_6403c, Cond.code yJ7_copyOf_6403c cJ7_copyOf_6403c 4 (some (.array (.object "java/lang/Object"))), Cond.classLink RJ7 110 "[Ljava/lang/Object;", Cond.classLink RJ7 2 "java/lang/Object", Cond.methodLink RJ7 304 Lib.Math.min.name, Cond.static Lib.Math.min.name, Cond.code Lib.Math.min.name Lib.Math.min.code 2 (some .int), Cond.methodLink RJ7 150 arraycopyName, Cond.methodLink RX1 77 yX1_processWrite, Cond.instanceMethod yX1_processWrite, Cond.selects RX1 yX1_processWrite yX1_processWrite, Cond.code yX1_processWrite cX1_processWrite 4 none, Cond.fieldLink RX1 101 "CacheDirectory$Message" "count" "I", Cond.methodLink RX1 95 yJ6_bitCount_0f7a4]
def wsX5_deliver_r8 : List Cond := [Cond.static yJ6_bitCount_0f7a4, Cond.initialized RJ6, Cond.code yJ6_bitCount_0f7a4 cJ6_bitCount_0f7a4 1 (some .int), Cond.constant RJ6 265 (1431655765), Cond.constant RJ6 266 (858993459), Cond.constant RJ6 267 (252645135), Cond.methodLink RX1 80 yX1_processPut, Cond.instanceMethod yX1_processPut, Cond.selects RX1 yX1_processPut yX1_processPut, Cond.code yX1_processPut cX1_processPut 2 none, Cond.fieldLink RX1 32 "CacheDirectory$Home" "timelyPuts" "I", Cond.fieldLink RX1 35 "CacheDirectory$Home" "latePuts" "I", Cond.methodLink RX1 66 yJx4a65c_add_9ea2d, Cond.methodLink RX5 32 yX5_cacheAt, Cond.instanceMethod yX5_cacheAt, Cond.selects RX5 yX5_cacheAt yX5_cacheAt, Cond.code yX5_cacheAt cX5_cacheAt 2 (some (.object "CacheDirectory$Cache")), Cond.fieldLink RX5 18 "CacheDirectory" "caches" "[LCacheDirectory$Cache;", Cond.methodLink RX5 235 yX0_receive, Cond.instanceMethod yX0_receive, Cond.selects RX0 yX0_receive yX0_receive, Cond.initialized RX0, Cond.code yX0_receive cX0_receive 2 none, Cond.fieldLink RX0 92 "CacheDirectory$Message" "kind" "I"]
def wsX5_deliver_r9 : List Cond := [Cond.fieldLink RX0 12 "CacheDirectory$Cache" "request" "LCacheDirectory$Request;", Cond.fieldLink RX0 95 "CacheDirectory$Request" "answered" "Z", Cond.fieldLink RX0 84 "CacheDirectory$Message" "carried" "I", Cond.fieldLink RX0 99 "CacheDirectory$Request" "received" "I", Cond.fieldLink RX0 102 "CacheDirectory$Message" "count" "I", Cond.fieldLink RX0 105 "CacheDirectory$Request" "invalidationsDue" "I", Cond.fieldLink RX0 108 "CacheDirectory$Message" "line" "I", Cond.fieldLink RX0 112 "CacheDirectory$Request" "invalidationsDone" "I", Cond.fieldLink RX0 18 "CacheDirectory$Cache" "states" "[I", Cond.fieldLink RX0 56 "CacheDirectory$Cache" "network" "LCacheDirectory$Network;", Cond.fieldLink RX0 53 "CacheDirectory$Cache" "number" "I", Cond.fieldLink RX0 119 "CacheDirectory$Message" "requester" "I", Cond.fieldLink RX0 25 "CacheDirectory$Cache" "victimValues" "[I", Cond.fieldLink RX0 35 "CacheDirectory$Cache" "victimCount" "I", Cond.methodLink RX0 109 yX0_finishIfComplete, Cond.instanceMethod yX0_finishIfComplete, Cond.selects RX0 yX0_finishIfComplete yX0_finishIfComplete, Cond.code yX0_finishIfComplete cX0_finishIfComplete 2 none, Cond.fieldLink RX0 126 "CacheDirectory$Request" "forWriting" "Z", Cond.fieldLink RX0 129 "CacheDirectory$Request" "toWrite" "I", Cond.fieldLink RX0 44 "CacheDirectory$Cache" "latestResult" "I", Cond.fieldLink RX0 60 "CacheDirectory$Request" "line" "I", Cond.methodLink RX0 122 yX4_isComplete, Cond.instanceMethod yX4_isComplete]
def wsX5_deliver_r10 : List Cond := [Cond.selects RX4 yX4_isComplete yX4_isComplete, Cond.initialized RX4, Cond.code yX4_isComplete cX4_isComplete 1 (some .boolean), Cond.fieldLink RX4 22 "CacheDirectory$Request" "answered" "Z", Cond.fieldLink RX4 25 "CacheDirectory$Request" "invalidationsDone" "I", Cond.fieldLink RX4 28 "CacheDirectory$Request" "invalidationsDue" "I", Cond.methodLink RX0 132 yX0_store, Cond.instanceMethod yX0_store, Cond.selects RX0 yX0_store yX0_store, Cond.code yX0_store cX0_store 4 none, Cond.fieldLink RX0 22 "CacheDirectory$Cache" "values" "[I", Cond.methodLink RX0 136 yX0_markUsed, Cond.instanceMethod yX0_markUsed, Cond.selects RX0 yX0_markUsed yX0_markUsed, Cond.code yX0_markUsed cX0_markUsed 2 none, Cond.fieldLink RX0 31 "CacheDirectory$Cache" "lineCount" "I", Cond.fieldLink RX0 28 "CacheDirectory$Cache" "useOrder" "[I", Cond.methodLink RX0 139 yX0_leaveUseOrder, Cond.instanceMethod yX0_leaveUseOrder, Cond.selects RX0 yX0_leaveUseOrder yX0_leaveUseOrder, Cond.code yX0_leaveUseOrder cX0_leaveUseOrder 4 none, Cond.methodLink RX0 78 yX3_send, Cond.methodLink RX0 115 yX0_passOn, Cond.instanceMethod yX0_passOn]
def wsX5_deliver_r11 : List Cond := [Cond.selects RX0 yX0_passOn yX0_passOn, Cond.code yX0_passOn cX0_passOn 4 none, Cond.methodLink RX0 63 yX0_holds, Cond.instanceMethod yX0_holds, Cond.selects RX0 yX0_holds yX0_holds, Cond.code yX0_holds cX0_holds 2 (some .boolean), Cond.methodLink RX0 89 yX0_drop, Cond.instanceMethod yX0_drop, Cond.selects RX0 yX0_drop yX0_drop, Cond.code yX0_drop cX0_drop 2 none]
def wsX5_deliver : List Cond := .code yX5_deliver cX5_deliver 2 (some .int) :: ((wsX5_deliver_r1 ++ (wsX5_deliver_r2 ++ (wsX5_deliver_r3 ++ (wsX5_deliver_r4 ++ (wsX5_deliver_r5 ++ (wsX5_deliver_r6 ++ (wsX5_deliver_r7 ++ (wsX5_deliver_r8 ++ (wsX5_deliver_r9 ++ (wsX5_deliver_r10 ++ wsX5_deliver_r11)))))))))) ++ wsX50 ++ wsX30 ++ wsX20 ++ wsJx4a65c0 ++ wsX10 ++ wsX00 ++ wsX40 ++ (vx_atS RX5 214 "java/lang/IndexOutOfBoundsException" ["java/lang/RuntimeException", "java/lang/Exception"]).filter goodWord)
def wsX5_settle_r1 : List Cond := [Cond.classLink RX5 36 "java/lang/IllegalArgumentException", Cond.initialized "java/lang/IllegalArgumentException", Cond.fieldLink RX5 10 "CacheDirectory" "network" "LCacheDirectory$Network;", Cond.fieldLink RX5 162 "CacheDirectory$Network" "onTheWay" "Ljava/util/ArrayList;", Cond.methodLink RX5 186 yJx4a65c_isEmpty_aae02, Cond.instanceMethod yJx4a65c_isEmpty_aae02, Cond.selects RJx4a65c yJx4a65c_isEmpty_aae02 yJx4a65c_isEmpty_aae02, Cond.initialized RJx4a65c, Cond.code yJx4a65c_isEmpty_aae02 cJx4a65c_isEmpty_aae02 1 (some .boolean), Cond.fieldLink RJx4a65c 48 "java/util/ArrayList" "size" "I", Cond.methodLink RX5 181 yX5_handOver, Cond.instanceMethod yX5_handOver, Cond.selects RX5 yX5_handOver yX5_handOver, Cond.initialized RX5, Cond.code yX5_handOver cX5_handOver 3 none, Cond.fieldLink RX5 178 "CacheDirectory$Message" "receiver" "I", Cond.fieldLink RX5 174 "CacheDirectory$Message" "line" "I", Cond.methodLink RX5 165 yX5_messageAt, Cond.instanceMethod yX5_messageAt, Cond.selects RX5 yX5_messageAt yX5_messageAt, Cond.code yX5_messageAt cX5_messageAt 2 (some (.object "CacheDirectory$Message")), Cond.classLink RX5 210 "java/lang/IndexOutOfBoundsException", Cond.initialized "java/lang/IndexOutOfBoundsException", Cond.classLink RX5 170 "CacheDirectory$Message"]
def wsX5_settle_r2 : List Cond := [Cond.methodLink RX5 153 yJx4a65c_size_8abf5, Cond.instanceMethod yJx4a65c_size_8abf5, Cond.selects RJx4a65c yJx4a65c_size_8abf5 yJx4a65c_size_8abf5, Cond.code yJx4a65c_size_8abf5 cJx4a65c_size_8abf5 1 (some .int), Cond.methodLink RX5 206 yJx4a65c_get_915e3, Cond.instanceMethod yJx4a65c_get_915e3, Cond.selects RJx4a65c yJx4a65c_get_915e3 yJx4a65c_get_915e3, Cond.code yJx4a65c_get_915e3 cJx4a65c_get_915e3 2 (some (.object "java/lang/Object")), Cond.methodLink RJx4a65c 118 yJ15_checkIndex_7cf53, Cond.static yJ15_checkIndex_7cf53, Cond.initialized RJ15, Cond.code yJ15_checkIndex_7cf53 cJ15_checkIndex_7cf53 2 (some .int), Cond.methodLink RJ15 105 yJ3_checkIndex_8e157, Cond.static yJ3_checkIndex_8e157, Cond.initialized RJ3, Cond.code yJ3_checkIndex_8e157 cJ3_checkIndex_8e157 3 (some .int), Cond.methodLink RJx4a65c 123 yJx4a65c_elementData_915e3, Cond.instanceMethod yJx4a65c_elementData_915e3, Cond.selects RJx4a65c yJx4a65c_elementData_915e3 yJx4a65c_elementData_915e3, Cond.code yJx4a65c_elementData_915e3 cJx4a65c_elementData_915e3 2 (some (.object "java/lang/Object")), Cond.fieldLink RJx4a65c 9 "java/util/ArrayList" "elementData" "[Ljava/lang/Object;", Cond.methodLink RX5 228 yJx4a65c_remove_915e3, Cond.instanceMethod yJx4a65c_remove_915e3, Cond.selects RJx4a65c yJx4a65c_remove_915e3 yJx4a65c_remove_915e3]
def wsX5_settle_r3 : List Cond := [Cond.code yJx4a65c_remove_915e3 cJx4a65c_remove_915e3 4 (some (.object "java/lang/Object")), Cond.methodLink RJx4a65c 144 yJx4a65c_fastRemove_b59b0, Cond.instanceMethod yJx4a65c_fastRemove_b59b0, Cond.selects RJx4a65c yJx4a65c_fastRemove_b59b0 yJx4a65c_fastRemove_b59b0, Cond.code yJx4a65c_fastRemove_b59b0 cJx4a65c_fastRemove_b59b0 4 none, Cond.fieldLink RJx4a65c 63 "java/util/ArrayList" "modCount" "I", Cond.sameField "java/util/ArrayList" "java/util/AbstractList" "modCount" "I", Cond.methodLink RJx4a65c 112 arraycopyName, Cond.native arraycopyName, Cond.static arraycopyName, Cond.initialized "java/lang/System", Cond.methodLink RX5 135 yX5_homeOf, Cond.instanceMethod yX5_homeOf, Cond.selects RX5 yX5_homeOf yX5_homeOf, Cond.code yX5_homeOf cX5_homeOf 2 (some (.object "CacheDirectory$Home")), Cond.fieldLink RX5 27 "CacheDirectory" "homes" "[LCacheDirectory$Home;", Cond.methodLink RX5 61 yX5_checkLine, Cond.static yX5_checkLine, Cond.code yX5_checkLine cX5_checkLine 1 none, Cond.methodLink RX5 231 yX1_receive, Cond.instanceMethod yX1_receive, Cond.selects RX1 yX1_receive yX1_receive, Cond.initialized RX1, Cond.code yX1_receive cX1_receive 3 none]
def wsX5_settle_r4 : List Cond := [Cond.fieldLink RX1 45 "CacheDirectory$Message" "kind" "I", Cond.fieldLink RX1 28 "CacheDirectory$Home" "busy" "Z", Cond.fieldLink RX1 12 "CacheDirectory$Home" "waiting" "Ljava/util/ArrayList;", Cond.classLink RX1 46 "CacheDirectory$Message", Cond.methodLink RX1 50 yJx4a65c_size_8abf5, Cond.methodLink RX1 54 yJx4a65c_isEmpty_aae02, Cond.methodLink RX1 58 yJx4a65c_remove_915e3, Cond.methodLink RX1 62 yX1_process, Cond.instanceMethod yX1_process, Cond.selects RX1 yX1_process yX1_process, Cond.code yX1_process cX1_process 2 none, Cond.fieldLink RX1 70 "CacheDirectory$Message" "sender" "I", Cond.methodLink RX1 73 yX1_processRead, Cond.instanceMethod yX1_processRead, Cond.selects RX1 yX1_processRead yX1_processRead, Cond.code yX1_processRead cX1_processRead 2 none, Cond.fieldLink RX1 22 "CacheDirectory$Home" "ownerCache" "I", Cond.fieldLink RX1 41 "CacheDirectory$Home" "network" "LCacheDirectory$Network;", Cond.fieldLink RX1 38 "CacheDirectory$Home" "line" "I", Cond.fieldLink RX1 18 "CacheDirectory$Home" "memoryValue" "I", Cond.fieldLink RX1 89 "CacheDirectory$Message" "carried" "I", Cond.fieldLink RX1 92 "CacheDirectory$Message" "requester" "I", Cond.fieldLink RX1 25 "CacheDirectory$Home" "sharerSet" "I", Cond.methodLink RX1 83 yX3_send]
def wsX5_settle_r5 : List Cond := [Cond.instanceMethod yX3_send, Cond.selects RX3 yX3_send yX3_send, Cond.initialized RX3, Cond.code yX3_send cX3_send 6 (some (.object "CacheDirectory$Message")), Cond.classLink RX3 16 RX2, Cond.instantiable RX2 7, Cond.initialized RX2, Cond.fieldLink RX3 10 "CacheDirectory$Network" "onTheWay" "Ljava/util/ArrayList;", Cond.methodLink RX3 18 yX2_init, Cond.instanceMethod yX2_init, Cond.code yX2_init cX2_init 5 none, Cond.methodLink RX2 3 objectInit, Cond.instanceMethod objectInit, Cond.code objectInit ⟨#[0xb1]⟩ 1 none, Cond.fieldLink RX2 9 "CacheDirectory$Message" "carried" "I", Cond.fieldLink RX2 15 "CacheDirectory$Message" "count" "I", Cond.fieldLink RX2 18 "CacheDirectory$Message" "requester" "I", Cond.fieldLink RX2 21 "CacheDirectory$Message" "kind" "I", Cond.fieldLink RX2 24 "CacheDirectory$Message" "line" "I", Cond.fieldLink RX2 27 "CacheDirectory$Message" "sender" "I", Cond.fieldLink RX2 30 "CacheDirectory$Message" "receiver" "I", Cond.methodLink RX3 21 yJx4a65c_add_9ea2d, Cond.instanceMethod yJx4a65c_add_9ea2d, Cond.selects RJx4a65c yJx4a65c_add_9ea2d yJx4a65c_add_9ea2d]
def wsX5_settle_r6 : List Cond := [Cond.code yJx4a65c_add_9ea2d cJx4a65c_add_9ea2d 2 (some .boolean), Cond.methodLink RJx4a65c 131 yJx4a65c_add_72be8, Cond.instanceMethod yJx4a65c_add_72be8, Cond.selects RJx4a65c yJx4a65c_add_72be8 yJx4a65c_add_72be8, Cond.code yJx4a65c_add_72be8 cJx4a65c_add_72be8 4 none, Cond.methodLink RJx4a65c 129 yJx4a65c_grow_d5877, Cond.instanceMethod yJx4a65c_grow_d5877, Cond.selects RJx4a65c yJx4a65c_grow_d5877 yJx4a65c_grow_d5877, Cond.code yJx4a65c_grow_d5877 cJx4a65c_grow_d5877 1 (some (.array (.object "java/lang/Object"))), Cond.methodLink RJx4a65c 69 yJx4a65c_grow_92f84, Cond.instanceMethod yJx4a65c_grow_92f84, Cond.selects RJx4a65c yJx4a65c_grow_92f84 yJx4a65c_grow_92f84, Cond.code yJx4a65c_grow_92f84 cJx4a65c_grow_92f84 4 (some (.array (.object "java/lang/Object"))), Cond.fieldLink RJx4a65c 39 "java/util/ArrayList" "DEFAULTCAPACITY_EMPTY_ELEMENTDATA" "[Ljava/lang/Object;", Cond.methodLink RJx4a65c 79 Lib.Math.max.name, Cond.static Lib.Math.max.name, Cond.initialized "java/lang/Math", Cond.code Lib.Math.max.name Lib.Math.max.code 2 (some .int), Cond.classLink RJx4a65c 7 "java/lang/Object", Cond.methodLink RJx4a65c 73 yJ8_newLength_cabcc, Cond.static yJ8_newLength_cabcc, Cond.initialized RJ8, Cond.code yJ8_newLength_cabcc cJ8_newLength_cabcc 4 (some .int), Cond.methodLink RJ8 194 Lib.Math.max.name]
def wsX5_settle_r7 : List Cond := [Cond.constant RJ8 200 (2147483639), Cond.methodLink RJ8 201 yJ8_hugeLength_7cf53, Cond.static yJ8_hugeLength_7cf53, Cond.code yJ8_hugeLength_7cf53 cJ8_hugeLength_7cf53 3 (some .int), Cond.methodLink RJx4a65c 66 yJ7_copyOf_1904c, Cond.static yJ7_copyOf_1904c, Cond.initialized RJ7, Cond.code yJ7_copyOf_1904c cJ7_copyOf_1904c 2 (some (.array (.object "java/lang/Object"))), Cond.methodLink RJ7 86 ⟨"java/lang/Object", "getClass", "()Ljava/lang/Class;"⟩, Cond.selects "[Ljava/lang/Object;" ⟨"java/lang/Object", "getClass", "()Ljava/lang/Class;"⟩ ⟨"java/lang/Object", "getClass", "()Ljava/lang/Class;"⟩, Cond.instanceMethod ⟨"java/lang/Object", "getClass", "()Ljava/lang/Class;"⟩, Cond.native ⟨"java/lang/Object", "getClass", "()Ljava/lang/Class;"⟩, Cond.methodLink RJ7 300 yJ7_copyOf_6403c, Cond.static yJ7_copyOf_6403c, Cond.code yJ7_copyOf_6403c cJ7_copyOf_6403c 4 (some (.array (.object "java/lang/Object"))), Cond.classLink RJ7 110 "[Ljava/lang/Object;", Cond.classLink RJ7 2 "java/lang/Object", Cond.methodLink RJ7 304 Lib.Math.min.name, Cond.static Lib.Math.min.name, Cond.code Lib.Math.min.name Lib.Math.min.code 2 (some .int), Cond.methodLink RJ7 150 arraycopyName, Cond.methodLink RX1 77 yX1_processWrite, Cond.instanceMethod yX1_processWrite, Cond.selects RX1 yX1_processWrite yX1_processWrite]
def wsX5_settle_r8 : List Cond := [Cond.code yX1_processWrite cX1_processWrite 4 none, Cond.fieldLink RX1 101 "CacheDirectory$Message" "count" "I", Cond.methodLink RX1 95 yJ6_bitCount_0f7a4, Cond.static yJ6_bitCount_0f7a4, Cond.initialized RJ6, Cond.code yJ6_bitCount_0f7a4 cJ6_bitCount_0f7a4 1 (some .int), Cond.constant RJ6 265 (1431655765), Cond.constant RJ6 266 (858993459), Cond.constant RJ6 267 (252645135), Cond.methodLink RX1 80 yX1_processPut, Cond.instanceMethod yX1_processPut, Cond.selects RX1 yX1_processPut yX1_processPut, Cond.code yX1_processPut cX1_processPut 2 none, Cond.fieldLink RX1 32 "CacheDirectory$Home" "timelyPuts" "I", Cond.fieldLink RX1 35 "CacheDirectory$Home" "latePuts" "I", Cond.methodLink RX1 66 yJx4a65c_add_9ea2d, Cond.methodLink RX5 32 yX5_cacheAt, Cond.instanceMethod yX5_cacheAt, Cond.selects RX5 yX5_cacheAt yX5_cacheAt, Cond.code yX5_cacheAt cX5_cacheAt 2 (some (.object "CacheDirectory$Cache")), Cond.fieldLink RX5 18 "CacheDirectory" "caches" "[LCacheDirectory$Cache;", Cond.methodLink RX5 235 yX0_receive, Cond.instanceMethod yX0_receive, Cond.selects RX0 yX0_receive yX0_receive]
def wsX5_settle_r9 : List Cond := [Cond.initialized RX0, Cond.code yX0_receive cX0_receive 2 none, Cond.fieldLink RX0 92 "CacheDirectory$Message" "kind" "I", Cond.fieldLink RX0 12 "CacheDirectory$Cache" "request" "LCacheDirectory$Request;", Cond.fieldLink RX0 95 "CacheDirectory$Request" "answered" "Z", Cond.fieldLink RX0 84 "CacheDirectory$Message" "carried" "I", Cond.fieldLink RX0 99 "CacheDirectory$Request" "received" "I", Cond.fieldLink RX0 102 "CacheDirectory$Message" "count" "I", Cond.fieldLink RX0 105 "CacheDirectory$Request" "invalidationsDue" "I", Cond.fieldLink RX0 108 "CacheDirectory$Message" "line" "I", Cond.fieldLink RX0 112 "CacheDirectory$Request" "invalidationsDone" "I", Cond.fieldLink RX0 18 "CacheDirectory$Cache" "states" "[I", Cond.fieldLink RX0 56 "CacheDirectory$Cache" "network" "LCacheDirectory$Network;", Cond.fieldLink RX0 53 "CacheDirectory$Cache" "number" "I", Cond.fieldLink RX0 119 "CacheDirectory$Message" "requester" "I", Cond.fieldLink RX0 25 "CacheDirectory$Cache" "victimValues" "[I", Cond.fieldLink RX0 35 "CacheDirectory$Cache" "victimCount" "I", Cond.methodLink RX0 109 yX0_finishIfComplete, Cond.instanceMethod yX0_finishIfComplete, Cond.selects RX0 yX0_finishIfComplete yX0_finishIfComplete, Cond.code yX0_finishIfComplete cX0_finishIfComplete 2 none, Cond.fieldLink RX0 126 "CacheDirectory$Request" "forWriting" "Z", Cond.fieldLink RX0 129 "CacheDirectory$Request" "toWrite" "I", Cond.fieldLink RX0 44 "CacheDirectory$Cache" "latestResult" "I"]
def wsX5_settle_r10 : List Cond := [Cond.fieldLink RX0 60 "CacheDirectory$Request" "line" "I", Cond.methodLink RX0 122 yX4_isComplete, Cond.instanceMethod yX4_isComplete, Cond.selects RX4 yX4_isComplete yX4_isComplete, Cond.initialized RX4, Cond.code yX4_isComplete cX4_isComplete 1 (some .boolean), Cond.fieldLink RX4 22 "CacheDirectory$Request" "answered" "Z", Cond.fieldLink RX4 25 "CacheDirectory$Request" "invalidationsDone" "I", Cond.fieldLink RX4 28 "CacheDirectory$Request" "invalidationsDue" "I", Cond.methodLink RX0 132 yX0_store, Cond.instanceMethod yX0_store, Cond.selects RX0 yX0_store yX0_store, Cond.code yX0_store cX0_store 4 none, Cond.fieldLink RX0 22 "CacheDirectory$Cache" "values" "[I", Cond.methodLink RX0 136 yX0_markUsed, Cond.instanceMethod yX0_markUsed, Cond.selects RX0 yX0_markUsed yX0_markUsed, Cond.code yX0_markUsed cX0_markUsed 2 none, Cond.fieldLink RX0 31 "CacheDirectory$Cache" "lineCount" "I", Cond.fieldLink RX0 28 "CacheDirectory$Cache" "useOrder" "[I", Cond.methodLink RX0 139 yX0_leaveUseOrder, Cond.instanceMethod yX0_leaveUseOrder, Cond.selects RX0 yX0_leaveUseOrder yX0_leaveUseOrder, Cond.code yX0_leaveUseOrder cX0_leaveUseOrder 4 none]
def wsX5_settle_r11 : List Cond := [Cond.methodLink RX0 78 yX3_send, Cond.methodLink RX0 115 yX0_passOn, Cond.instanceMethod yX0_passOn, Cond.selects RX0 yX0_passOn yX0_passOn, Cond.code yX0_passOn cX0_passOn 4 none, Cond.methodLink RX0 63 yX0_holds, Cond.instanceMethod yX0_holds, Cond.selects RX0 yX0_holds yX0_holds, Cond.code yX0_holds cX0_holds 2 (some .boolean), Cond.methodLink RX0 89 yX0_drop, Cond.instanceMethod yX0_drop, Cond.selects RX0 yX0_drop yX0_drop, Cond.code yX0_drop cX0_drop 2 none]
def wsX5_settle : List Cond := .code yX5_settle cX5_settle 3 (some .int) :: ((wsX5_settle_r1 ++ (wsX5_settle_r2 ++ (wsX5_settle_r3 ++ (wsX5_settle_r4 ++ (wsX5_settle_r5 ++ (wsX5_settle_r6 ++ (wsX5_settle_r7 ++ (wsX5_settle_r8 ++ (wsX5_settle_r9 ++ (wsX5_settle_r10 ++ wsX5_settle_r11)))))))))) ++ wsX50 ++ wsX30 ++ wsJx4a65c0 ++ wsX20 ++ wsX10 ++ wsX00 ++ wsX40 ++ (vx_atS RX5 40 "java/lang/IllegalArgumentException" ["java/lang/RuntimeException", "java/lang/Exception"]).filter goodWord ++ (vx_atS RX5 214 "java/lang/IndexOutOfBoundsException" ["java/lang/RuntimeException", "java/lang/Exception"]).filter goodWord)
def wsX5_hits : List Cond := .code yX5_hits cX5_hits 2 (some .int) :: ([.fieldLink RX5 73 "CacheDirectory$Cache" "hitCount" "I", .methodLink RX5 32 yX5_cacheAt, .instanceMethod yX5_cacheAt, .selects RX5 yX5_cacheAt yX5_cacheAt, .initialized RX5, .code yX5_cacheAt cX5_cacheAt 2 (some (.object "CacheDirectory$Cache")), .classLink RX5 210 "java/lang/IndexOutOfBoundsException", .initialized "java/lang/IndexOutOfBoundsException", .fieldLink RX5 18 "CacheDirectory" "caches" "[LCacheDirectory$Cache;"] ++ wsX00 ++ wsX50 ++ (vx_atS RX5 214 "java/lang/IndexOutOfBoundsException" ["java/lang/RuntimeException", "java/lang/Exception"]).filter goodWord)
def wsX5_misses : List Cond := .code yX5_misses cX5_misses 2 (some .int) :: ([.fieldLink RX5 189 "CacheDirectory$Cache" "missCount" "I", .methodLink RX5 32 yX5_cacheAt, .instanceMethod yX5_cacheAt, .selects RX5 yX5_cacheAt yX5_cacheAt, .initialized RX5, .code yX5_cacheAt cX5_cacheAt 2 (some (.object "CacheDirectory$Cache")), .classLink RX5 210 "java/lang/IndexOutOfBoundsException", .initialized "java/lang/IndexOutOfBoundsException", .fieldLink RX5 18 "CacheDirectory" "caches" "[LCacheDirectory$Cache;"] ++ wsX00 ++ wsX50 ++ (vx_atS RX5 214 "java/lang/IndexOutOfBoundsException" ["java/lang/RuntimeException", "java/lang/Exception"]).filter goodWord)
def wsX5_writebacks : List Cond := .code yX5_writebacks cX5_writebacks 3 (some .int) :: ([.fieldLink RX5 27 "CacheDirectory" "homes" "[LCacheDirectory$Home;", .fieldLink RX5 192 "CacheDirectory$Home" "timelyPuts" "I"] ++ wsX50 ++ wsX10)
def wsX5_lateWritebacks : List Cond := .code yX5_lateWritebacks cX5_lateWritebacks 3 (some .int) :: ([.fieldLink RX5 27 "CacheDirectory" "homes" "[LCacheDirectory$Home;", .fieldLink RX5 195 "CacheDirectory$Home" "latePuts" "I"] ++ wsX50 ++ wsX10)
def wsX5_isInOrder : List Cond := .code yX5_isInOrder cX5_isInOrder 8 (some .boolean) :: ([.fieldLink RX5 18 "CacheDirectory" "caches" "[LCacheDirectory$Cache;", .fieldLink RX5 79 "CacheDirectory$Cache" "values" "[I", .fieldLink RX5 89 "CacheDirectory$Cache" "states" "[I", .methodLink RX5 61 yX5_checkLine, .static yX5_checkLine, .initialized RX5, .code yX5_checkLine cX5_checkLine 1 none, .classLink RX5 210 "java/lang/IndexOutOfBoundsException", .initialized "java/lang/IndexOutOfBoundsException", .methodLink RX5 69 yX0_holds, .instanceMethod yX0_holds, .selects RX0 yX0_holds yX0_holds, .initialized RX0, .code yX0_holds cX0_holds 2 (some .boolean), .fieldLink RX0 18 "CacheDirectory$Cache" "states" "[I"] ++ wsX50 ++ wsX00 ++ (vx_atS RX5 214 "java/lang/IndexOutOfBoundsException" ["java/lang/RuntimeException", "java/lang/Exception"]).filter goodWord)
def wsX5_addLine_r1 : List Cond := [Cond.constantLong RX5 204 (31), Cond.fieldLink RX5 159 "CacheDirectory$Home" "memoryValue" "I", Cond.fieldLink RX5 139 "CacheDirectory$Home" "ownerCache" "I", Cond.fieldLink RX5 142 "CacheDirectory$Home" "sharerSet" "I", Cond.fieldLink RX5 145 "CacheDirectory$Home" "busy" "Z", Cond.fieldLink RX5 149 "CacheDirectory$Home" "waiting" "Ljava/util/ArrayList;", Cond.fieldLink RX5 18 "CacheDirectory" "caches" "[LCacheDirectory$Cache;", Cond.fieldLink RX5 89 "CacheDirectory$Cache" "states" "[I", Cond.fieldLink RX5 79 "CacheDirectory$Cache" "values" "[I", Cond.fieldLink RX5 118 "CacheDirectory$Cache" "victimValues" "[I", Cond.methodLink RX5 135 yX5_homeOf, Cond.instanceMethod yX5_homeOf, Cond.selects RX5 yX5_homeOf yX5_homeOf, Cond.initialized RX5, Cond.code yX5_homeOf cX5_homeOf 2 (some (.object "CacheDirectory$Home")), Cond.fieldLink RX5 27 "CacheDirectory" "homes" "[LCacheDirectory$Home;", Cond.methodLink RX5 61 yX5_checkLine, Cond.static yX5_checkLine, Cond.code yX5_checkLine cX5_checkLine 1 none, Cond.classLink RX5 210 "java/lang/IndexOutOfBoundsException", Cond.initialized "java/lang/IndexOutOfBoundsException", Cond.methodLink RX5 153 yJx4a65c_size_8abf5, Cond.instanceMethod yJx4a65c_size_8abf5, Cond.selects RJx4a65c yJx4a65c_size_8abf5 yJx4a65c_size_8abf5]
def wsX5_addLine_r2 : List Cond := [Cond.initialized RJx4a65c, Cond.code yJx4a65c_size_8abf5 cJx4a65c_size_8abf5 1 (some .int), Cond.fieldLink RJx4a65c 48 "java/util/ArrayList" "size" "I"]
def wsX5_addLine : List Cond := .code yX5_addLine cX5_addLine 8 (some .long) :: ((wsX5_addLine_r1 ++ wsX5_addLine_r2) ++ wsX10 ++ wsX50 ++ wsX00 ++ wsJx4a65c0 ++ (vx_atS RX5 214 "java/lang/IndexOutOfBoundsException" ["java/lang/RuntimeException", "java/lang/Exception"]).filter goodWord)
def wsX5_digest_r1 : List Cond := [Cond.constantLong RX5 198 (47), Cond.constantLong RX5 204 (31), Cond.fieldLink RX5 18 "CacheDirectory" "caches" "[LCacheDirectory$Cache;", Cond.fieldLink RX5 99 "CacheDirectory$Cache" "request" "LCacheDirectory$Request;", Cond.fieldLink RX5 103 "CacheDirectory$Request" "line" "I", Cond.fieldLink RX5 10 "CacheDirectory" "network" "LCacheDirectory$Network;", Cond.fieldLink RX5 162 "CacheDirectory$Network" "onTheWay" "Ljava/util/ArrayList;", Cond.classLink RX5 170 "CacheDirectory$Message", Cond.fieldLink RX5 169 "CacheDirectory$Message" "kind" "I", Cond.fieldLink RX5 174 "CacheDirectory$Message" "line" "I", Cond.fieldLink RX5 175 "CacheDirectory$Message" "sender" "I", Cond.fieldLink RX5 178 "CacheDirectory$Message" "receiver" "I", Cond.methodLink RX5 200 yX5_addLine, Cond.instanceMethod yX5_addLine, Cond.selects RX5 yX5_addLine yX5_addLine, Cond.initialized RX5, Cond.code yX5_addLine cX5_addLine 8 (some .long), Cond.fieldLink RX5 159 "CacheDirectory$Home" "memoryValue" "I", Cond.fieldLink RX5 139 "CacheDirectory$Home" "ownerCache" "I", Cond.fieldLink RX5 142 "CacheDirectory$Home" "sharerSet" "I", Cond.fieldLink RX5 145 "CacheDirectory$Home" "busy" "Z", Cond.fieldLink RX5 149 "CacheDirectory$Home" "waiting" "Ljava/util/ArrayList;", Cond.fieldLink RX5 89 "CacheDirectory$Cache" "states" "[I", Cond.fieldLink RX5 79 "CacheDirectory$Cache" "values" "[I"]
def wsX5_digest_r2 : List Cond := [Cond.fieldLink RX5 118 "CacheDirectory$Cache" "victimValues" "[I", Cond.methodLink RX5 135 yX5_homeOf, Cond.instanceMethod yX5_homeOf, Cond.selects RX5 yX5_homeOf yX5_homeOf, Cond.code yX5_homeOf cX5_homeOf 2 (some (.object "CacheDirectory$Home")), Cond.fieldLink RX5 27 "CacheDirectory" "homes" "[LCacheDirectory$Home;", Cond.methodLink RX5 61 yX5_checkLine, Cond.static yX5_checkLine, Cond.code yX5_checkLine cX5_checkLine 1 none, Cond.classLink RX5 210 "java/lang/IndexOutOfBoundsException", Cond.initialized "java/lang/IndexOutOfBoundsException", Cond.methodLink RX5 153 yJx4a65c_size_8abf5, Cond.instanceMethod yJx4a65c_size_8abf5, Cond.selects RJx4a65c yJx4a65c_size_8abf5 yJx4a65c_size_8abf5, Cond.initialized RJx4a65c, Cond.code yJx4a65c_size_8abf5 cJx4a65c_size_8abf5 1 (some .int), Cond.fieldLink RJx4a65c 48 "java/util/ArrayList" "size" "I", Cond.methodLink RX5 206 yJx4a65c_get_915e3, Cond.instanceMethod yJx4a65c_get_915e3, Cond.selects RJx4a65c yJx4a65c_get_915e3 yJx4a65c_get_915e3, Cond.code yJx4a65c_get_915e3 cJx4a65c_get_915e3 2 (some (.object "java/lang/Object")), Cond.methodLink RJx4a65c 118 yJ15_checkIndex_7cf53, Cond.static yJ15_checkIndex_7cf53, Cond.initialized RJ15]
def wsX5_digest_r3 : List Cond := [Cond.code yJ15_checkIndex_7cf53 cJ15_checkIndex_7cf53 2 (some .int), Cond.methodLink RJ15 105 yJ3_checkIndex_8e157, Cond.static yJ3_checkIndex_8e157, Cond.initialized RJ3, Cond.code yJ3_checkIndex_8e157 cJ3_checkIndex_8e157 3 (some .int), Cond.methodLink RJx4a65c 123 yJx4a65c_elementData_915e3, Cond.instanceMethod yJx4a65c_elementData_915e3, Cond.selects RJx4a65c yJx4a65c_elementData_915e3 yJx4a65c_elementData_915e3, Cond.code yJx4a65c_elementData_915e3 cJx4a65c_elementData_915e3 2 (some (.object "java/lang/Object")), Cond.fieldLink RJx4a65c 9 "java/util/ArrayList" "elementData" "[Ljava/lang/Object;"]
def wsX5_digest : List Cond := .code yX5_digest cX5_digest 5 (some .long) :: ((wsX5_digest_r1 ++ (wsX5_digest_r2 ++ wsX5_digest_r3)) ++ wsX50 ++ wsX00 ++ wsX40 ++ wsX30 ++ wsX20 ++ wsX10 ++ wsJx4a65c0 ++ (vx_atS RX5 214 "java/lang/IndexOutOfBoundsException" ["java/lang/RuntimeException", "java/lang/Exception"]).filter goodWord)
def wsX6_init_r1 : List Cond := [Cond.methodLink RX6 1 objectInit, Cond.instanceMethod objectInit, Cond.code objectInit ⟨#[0xb1]⟩ 1 none, Cond.arrayClass .int, Cond.fieldLink RX6 7 "CacheDirectoryModel" "ways" "[I", Cond.fieldLink RX6 13 "CacheDirectoryModel" "rooms" "[I", Cond.fieldLink RX6 16 "CacheDirectoryModel" "states" "[I", Cond.fieldLink RX6 19 "CacheDirectoryModel" "values" "[I", Cond.fieldLink RX6 22 "CacheDirectoryModel" "uses" "[I", Cond.fieldLink RX6 25 "CacheDirectoryModel" "victims" "[I", Cond.fieldLink RX6 28 "CacheDirectoryModel" "hits" "[I", Cond.fieldLink RX6 31 "CacheDirectoryModel" "misses" "[I", Cond.fieldLink RX6 34 "CacheDirectoryModel" "latest" "[I", Cond.fieldLink RX6 37 "CacheDirectoryModel" "openLines" "[I", Cond.arrayClass .boolean, Cond.fieldLink RX6 40 "CacheDirectoryModel" "isWriting" "[Z", Cond.fieldLink RX6 44 "CacheDirectoryModel" "toWrite" "[I", Cond.fieldLink RX6 47 "CacheDirectoryModel" "isAnswered" "[Z", Cond.fieldLink RX6 50 "CacheDirectoryModel" "answers" "[I", Cond.fieldLink RX6 53 "CacheDirectoryModel" "needed" "[I", Cond.fieldLink RX6 56 "CacheDirectoryModel" "got" "[I", Cond.fieldLink RX6 59 "CacheDirectoryModel" "memory" "[I", Cond.fieldLink RX6 62 "CacheDirectoryModel" "owners" "[I", Cond.fieldLink RX6 65 "CacheDirectoryModel" "sharers" "[I"]
def wsX6_init_r2 : List Cond := [Cond.fieldLink RX6 68 "CacheDirectoryModel" "isBusy" "[Z", Cond.fieldLink RX6 71 "CacheDirectoryModel" "queues" "[I", Cond.fieldLink RX6 74 "CacheDirectoryModel" "queued" "[I", Cond.fieldLink RX6 77 "CacheDirectoryModel" "messages" "[I", Cond.fieldLink RX6 80 "CacheDirectoryModel" "now" "[I"]
def wsX6_init : List Cond := .code yX6_init cX6_init 2 none :: ((wsX6_init_r1 ++ wsX6_init_r2) ++ wsX60)
def wsX6_thrown : List Cond := .code yX6_thrown cX6_thrown 1 (some .int) :: ([.fieldLink RX6 83 "CacheDirectoryModel" "thrown" "I"] ++ wsX60)
def wsX6_fail : List Cond := .code yX6_fail cX6_fail 2 (some .int) :: ([.fieldLink RX6 83 "CacheDirectoryModel" "thrown" "I"] ++ wsX60)
def wsX6_failed : List Cond := .code yX6_failed cX6_failed 2 (some .boolean) :: ([.fieldLink RX6 83 "CacheDirectoryModel" "thrown" "I"] ++ wsX60)
def wsX6_isCache : List Cond := .code yX6_isCache cX6_isCache 1 (some .boolean) :: ([])
def wsX6_isLine : List Cond := .code yX6_isLine cX6_isLine 1 (some .boolean) :: ([])
def wsX6_at : List Cond := .code yX6_at cX6_at 2 (some .int) :: ([])
def wsX6_linesIn : List Cond := .code yX6_linesIn cX6_linesIn 4 (some .int) :: ([.fieldLink RX6 16 "CacheDirectoryModel" "states" "[I", .methodLink RX6 87 yX6_at, .static yX6_at, .initialized RX6, .code yX6_at cX6_at 2 (some .int)] ++ wsX60)
def wsX6_victimsIn : List Cond := .code yX6_victimsIn cX6_victimsIn 4 (some .int) :: ([.fieldLink RX6 25 "CacheDirectoryModel" "victims" "[I", .methodLink RX6 87 yX6_at, .static yX6_at, .initialized RX6, .code yX6_at cX6_at 2 (some .int)] ++ wsX60)
def wsX6_use : List Cond := .code yX6_use cX6_use 3 none :: ([.fieldLink RX6 91 "CacheDirectoryModel" "time" "I", .fieldLink RX6 22 "CacheDirectoryModel" "uses" "[I", .methodLink RX6 87 yX6_at, .static yX6_at, .initialized RX6, .code yX6_at cX6_at 2 (some .int)] ++ wsX60)
def wsX6_lineBy : List Cond := .code yX6_lineBy cX6_lineBy 6 (some .int) :: ([.fieldLink RX6 16 "CacheDirectoryModel" "states" "[I", .fieldLink RX6 22 "CacheDirectoryModel" "uses" "[I", .methodLink RX6 87 yX6_at, .static yX6_at, .initialized RX6, .code yX6_at cX6_at 2 (some .int)] ++ wsX60)
def wsX6_send : List Cond := .code yX6_send cX6_send 9 none :: ([.fieldLink RX6 94 "CacheDirectoryModel" "sent" "I", .fieldLink RX6 77 "CacheDirectoryModel" "messages" "[I"] ++ wsX60)
def wsX6_setRoom_r1 : List Cond := [Cond.fieldLink RX6 83 "CacheDirectoryModel" "thrown" "I", Cond.fieldLink RX6 37 "CacheDirectoryModel" "openLines" "[I", Cond.fieldLink RX6 7 "CacheDirectoryModel" "ways" "[I", Cond.fieldLink RX6 13 "CacheDirectoryModel" "rooms" "[I", Cond.methodLink RX6 97 yX6_isCache, Cond.static yX6_isCache, Cond.initialized RX6, Cond.code yX6_isCache cX6_isCache 1 (some .boolean), Cond.methodLink RX6 101 yX6_failed, Cond.instanceMethod yX6_failed, Cond.selects RX6 yX6_failed yX6_failed, Cond.code yX6_failed cX6_failed 2 (some .boolean), Cond.methodLink RX6 104 yX6_linesIn, Cond.instanceMethod yX6_linesIn, Cond.selects RX6 yX6_linesIn yX6_linesIn, Cond.code yX6_linesIn cX6_linesIn 4 (some .int), Cond.fieldLink RX6 16 "CacheDirectoryModel" "states" "[I", Cond.methodLink RX6 87 yX6_at, Cond.static yX6_at, Cond.code yX6_at cX6_at 2 (some .int), Cond.methodLink RX6 108 yX6_victimsIn, Cond.instanceMethod yX6_victimsIn, Cond.selects RX6 yX6_victimsIn yX6_victimsIn, Cond.code yX6_victimsIn cX6_victimsIn 4 (some .int)]
def wsX6_setRoom_r2 : List Cond := [Cond.fieldLink RX6 25 "CacheDirectoryModel" "victims" "[I"]
def wsX6_setRoom : List Cond := .code yX6_setRoom cX6_setRoom 5 (some .boolean) :: ((wsX6_setRoom_r1 ++ wsX6_setRoom_r2) ++ wsX60)
def wsX6_canRemove : List Cond := .code yX6_canRemove cX6_canRemove 3 (some .boolean) :: ([.fieldLink RX6 16 "CacheDirectoryModel" "states" "[I", .fieldLink RX6 13 "CacheDirectoryModel" "rooms" "[I", .methodLink RX6 87 yX6_at, .static yX6_at, .initialized RX6, .code yX6_at cX6_at 2 (some .int), .methodLink RX6 108 yX6_victimsIn, .instanceMethod yX6_victimsIn, .selects RX6 yX6_victimsIn yX6_victimsIn, .code yX6_victimsIn cX6_victimsIn 4 (some .int), .fieldLink RX6 25 "CacheDirectoryModel" "victims" "[I"] ++ wsX60)
def wsX6_remove : List Cond := .code yX6_remove cX6_remove 3 none :: ([.fieldLink RX6 16 "CacheDirectoryModel" "states" "[I", .fieldLink RX6 25 "CacheDirectoryModel" "victims" "[I", .fieldLink RX6 19 "CacheDirectoryModel" "values" "[I", .methodLink RX6 87 yX6_at, .static yX6_at, .initialized RX6, .code yX6_at cX6_at 2 (some .int), .methodLink RX6 111 yX6_send, .instanceMethod yX6_send, .selects RX6 yX6_send yX6_send, .code yX6_send cX6_send 9 none, .fieldLink RX6 94 "CacheDirectoryModel" "sent" "I", .fieldLink RX6 77 "CacheDirectoryModel" "messages" "[I"] ++ wsX60)
def wsX6_leaving : List Cond := .code yX6_leaving cX6_leaving 3 (some .int) :: ([.fieldLink RX6 16 "CacheDirectoryModel" "states" "[I", .fieldLink RX6 7 "CacheDirectoryModel" "ways" "[I", .methodLink RX6 87 yX6_at, .static yX6_at, .initialized RX6, .code yX6_at cX6_at 2 (some .int), .methodLink RX6 104 yX6_linesIn, .instanceMethod yX6_linesIn, .selects RX6 yX6_linesIn yX6_linesIn, .code yX6_linesIn cX6_linesIn 4 (some .int), .methodLink RX6 115 yX6_lineBy, .instanceMethod yX6_lineBy, .selects RX6 yX6_lineBy yX6_lineBy, .code yX6_lineBy cX6_lineBy 6 (some .int), .fieldLink RX6 22 "CacheDirectoryModel" "uses" "[I"] ++ wsX60)
def wsX6_canStart_r1 : List Cond := [Cond.methodLink RX6 118 yX6_leaving, Cond.instanceMethod yX6_leaving, Cond.selects RX6 yX6_leaving yX6_leaving, Cond.initialized RX6, Cond.code yX6_leaving cX6_leaving 3 (some .int), Cond.fieldLink RX6 16 "CacheDirectoryModel" "states" "[I", Cond.fieldLink RX6 7 "CacheDirectoryModel" "ways" "[I", Cond.methodLink RX6 87 yX6_at, Cond.static yX6_at, Cond.code yX6_at cX6_at 2 (some .int), Cond.methodLink RX6 104 yX6_linesIn, Cond.instanceMethod yX6_linesIn, Cond.selects RX6 yX6_linesIn yX6_linesIn, Cond.code yX6_linesIn cX6_linesIn 4 (some .int), Cond.methodLink RX6 115 yX6_lineBy, Cond.instanceMethod yX6_lineBy, Cond.selects RX6 yX6_lineBy yX6_lineBy, Cond.code yX6_lineBy cX6_lineBy 6 (some .int), Cond.fieldLink RX6 22 "CacheDirectoryModel" "uses" "[I", Cond.methodLink RX6 121 yX6_canRemove, Cond.instanceMethod yX6_canRemove, Cond.selects RX6 yX6_canRemove yX6_canRemove, Cond.code yX6_canRemove cX6_canRemove 3 (some .boolean), Cond.fieldLink RX6 13 "CacheDirectoryModel" "rooms" "[I"]
def wsX6_canStart_r2 : List Cond := [Cond.methodLink RX6 108 yX6_victimsIn, Cond.instanceMethod yX6_victimsIn, Cond.selects RX6 yX6_victimsIn yX6_victimsIn, Cond.code yX6_victimsIn cX6_victimsIn 4 (some .int), Cond.fieldLink RX6 25 "CacheDirectoryModel" "victims" "[I"]
def wsX6_canStart : List Cond := .code yX6_canStart cX6_canStart 3 (some .boolean) :: ((wsX6_canStart_r1 ++ wsX6_canStart_r2) ++ wsX60)
def wsX6_start_r1 : List Cond := [Cond.fieldLink RX6 31 "CacheDirectoryModel" "misses" "[I", Cond.fieldLink RX6 37 "CacheDirectoryModel" "openLines" "[I", Cond.fieldLink RX6 40 "CacheDirectoryModel" "isWriting" "[Z", Cond.fieldLink RX6 44 "CacheDirectoryModel" "toWrite" "[I", Cond.fieldLink RX6 47 "CacheDirectoryModel" "isAnswered" "[Z", Cond.fieldLink RX6 50 "CacheDirectoryModel" "answers" "[I", Cond.fieldLink RX6 53 "CacheDirectoryModel" "needed" "[I", Cond.fieldLink RX6 56 "CacheDirectoryModel" "got" "[I", Cond.methodLink RX6 118 yX6_leaving, Cond.instanceMethod yX6_leaving, Cond.selects RX6 yX6_leaving yX6_leaving, Cond.initialized RX6, Cond.code yX6_leaving cX6_leaving 3 (some .int), Cond.fieldLink RX6 16 "CacheDirectoryModel" "states" "[I", Cond.fieldLink RX6 7 "CacheDirectoryModel" "ways" "[I", Cond.methodLink RX6 87 yX6_at, Cond.static yX6_at, Cond.code yX6_at cX6_at 2 (some .int), Cond.methodLink RX6 104 yX6_linesIn, Cond.instanceMethod yX6_linesIn, Cond.selects RX6 yX6_linesIn yX6_linesIn, Cond.code yX6_linesIn cX6_linesIn 4 (some .int), Cond.methodLink RX6 115 yX6_lineBy, Cond.instanceMethod yX6_lineBy]
def wsX6_start_r2 : List Cond := [Cond.selects RX6 yX6_lineBy yX6_lineBy, Cond.code yX6_lineBy cX6_lineBy 6 (some .int), Cond.fieldLink RX6 22 "CacheDirectoryModel" "uses" "[I", Cond.methodLink RX6 125 yX6_remove, Cond.instanceMethod yX6_remove, Cond.selects RX6 yX6_remove yX6_remove, Cond.code yX6_remove cX6_remove 3 none, Cond.fieldLink RX6 25 "CacheDirectoryModel" "victims" "[I", Cond.fieldLink RX6 19 "CacheDirectoryModel" "values" "[I", Cond.methodLink RX6 111 yX6_send, Cond.instanceMethod yX6_send, Cond.selects RX6 yX6_send yX6_send, Cond.code yX6_send cX6_send 9 none, Cond.fieldLink RX6 94 "CacheDirectoryModel" "sent" "I", Cond.fieldLink RX6 77 "CacheDirectoryModel" "messages" "[I"]
def wsX6_start : List Cond := .code yX6_start cX6_start 5 none :: ((wsX6_start_r1 ++ wsX6_start_r2) ++ wsX60)
def wsX6_read_r1 : List Cond := [Cond.fieldLink RX6 83 "CacheDirectoryModel" "thrown" "I", Cond.fieldLink RX6 37 "CacheDirectoryModel" "openLines" "[I", Cond.fieldLink RX6 25 "CacheDirectoryModel" "victims" "[I", Cond.fieldLink RX6 16 "CacheDirectoryModel" "states" "[I", Cond.fieldLink RX6 28 "CacheDirectoryModel" "hits" "[I", Cond.fieldLink RX6 19 "CacheDirectoryModel" "values" "[I", Cond.methodLink RX6 97 yX6_isCache, Cond.static yX6_isCache, Cond.initialized RX6, Cond.code yX6_isCache cX6_isCache 1 (some .boolean), Cond.methodLink RX6 129 yX6_isLine, Cond.static yX6_isLine, Cond.code yX6_isLine cX6_isLine 1 (some .boolean), Cond.methodLink RX6 132 yX6_fail, Cond.instanceMethod yX6_fail, Cond.selects RX6 yX6_fail yX6_fail, Cond.code yX6_fail cX6_fail 2 (some .int), Cond.methodLink RX6 87 yX6_at, Cond.static yX6_at, Cond.code yX6_at cX6_at 2 (some .int), Cond.methodLink RX6 135 yX6_use, Cond.instanceMethod yX6_use, Cond.selects RX6 yX6_use yX6_use, Cond.code yX6_use cX6_use 3 none]
def wsX6_read_r2 : List Cond := [Cond.fieldLink RX6 91 "CacheDirectoryModel" "time" "I", Cond.fieldLink RX6 22 "CacheDirectoryModel" "uses" "[I", Cond.methodLink RX6 138 yX6_canStart, Cond.instanceMethod yX6_canStart, Cond.selects RX6 yX6_canStart yX6_canStart, Cond.code yX6_canStart cX6_canStart 3 (some .boolean), Cond.methodLink RX6 118 yX6_leaving, Cond.instanceMethod yX6_leaving, Cond.selects RX6 yX6_leaving yX6_leaving, Cond.code yX6_leaving cX6_leaving 3 (some .int), Cond.fieldLink RX6 7 "CacheDirectoryModel" "ways" "[I", Cond.methodLink RX6 104 yX6_linesIn, Cond.instanceMethod yX6_linesIn, Cond.selects RX6 yX6_linesIn yX6_linesIn, Cond.code yX6_linesIn cX6_linesIn 4 (some .int), Cond.methodLink RX6 115 yX6_lineBy, Cond.instanceMethod yX6_lineBy, Cond.selects RX6 yX6_lineBy yX6_lineBy, Cond.code yX6_lineBy cX6_lineBy 6 (some .int), Cond.methodLink RX6 121 yX6_canRemove, Cond.instanceMethod yX6_canRemove, Cond.selects RX6 yX6_canRemove yX6_canRemove, Cond.code yX6_canRemove cX6_canRemove 3 (some .boolean), Cond.fieldLink RX6 13 "CacheDirectoryModel" "rooms" "[I"]
def wsX6_read_r3 : List Cond := [Cond.methodLink RX6 108 yX6_victimsIn, Cond.instanceMethod yX6_victimsIn, Cond.selects RX6 yX6_victimsIn yX6_victimsIn, Cond.code yX6_victimsIn cX6_victimsIn 4 (some .int), Cond.methodLink RX6 141 yX6_start, Cond.instanceMethod yX6_start, Cond.selects RX6 yX6_start yX6_start, Cond.code yX6_start cX6_start 5 none, Cond.fieldLink RX6 31 "CacheDirectoryModel" "misses" "[I", Cond.fieldLink RX6 40 "CacheDirectoryModel" "isWriting" "[Z", Cond.fieldLink RX6 44 "CacheDirectoryModel" "toWrite" "[I", Cond.fieldLink RX6 47 "CacheDirectoryModel" "isAnswered" "[Z", Cond.fieldLink RX6 50 "CacheDirectoryModel" "answers" "[I", Cond.fieldLink RX6 53 "CacheDirectoryModel" "needed" "[I", Cond.fieldLink RX6 56 "CacheDirectoryModel" "got" "[I", Cond.methodLink RX6 125 yX6_remove, Cond.instanceMethod yX6_remove, Cond.selects RX6 yX6_remove yX6_remove, Cond.code yX6_remove cX6_remove 3 none, Cond.methodLink RX6 111 yX6_send, Cond.instanceMethod yX6_send, Cond.selects RX6 yX6_send yX6_send, Cond.code yX6_send cX6_send 9 none, Cond.fieldLink RX6 94 "CacheDirectoryModel" "sent" "I"]
def wsX6_read_r4 : List Cond := [Cond.fieldLink RX6 77 "CacheDirectoryModel" "messages" "[I"]
def wsX6_read : List Cond := .code yX6_read cX6_read 3 (some .int) :: ((wsX6_read_r1 ++ (wsX6_read_r2 ++ (wsX6_read_r3 ++ wsX6_read_r4))) ++ wsX60)
def wsX6_write_r1 : List Cond := [Cond.fieldLink RX6 83 "CacheDirectoryModel" "thrown" "I", Cond.fieldLink RX6 37 "CacheDirectoryModel" "openLines" "[I", Cond.fieldLink RX6 25 "CacheDirectoryModel" "victims" "[I", Cond.fieldLink RX6 16 "CacheDirectoryModel" "states" "[I", Cond.fieldLink RX6 28 "CacheDirectoryModel" "hits" "[I", Cond.fieldLink RX6 19 "CacheDirectoryModel" "values" "[I", Cond.methodLink RX6 97 yX6_isCache, Cond.static yX6_isCache, Cond.initialized RX6, Cond.code yX6_isCache cX6_isCache 1 (some .boolean), Cond.methodLink RX6 129 yX6_isLine, Cond.static yX6_isLine, Cond.code yX6_isLine cX6_isLine 1 (some .boolean), Cond.methodLink RX6 101 yX6_failed, Cond.instanceMethod yX6_failed, Cond.selects RX6 yX6_failed yX6_failed, Cond.code yX6_failed cX6_failed 2 (some .boolean), Cond.methodLink RX6 87 yX6_at, Cond.static yX6_at, Cond.code yX6_at cX6_at 2 (some .int), Cond.methodLink RX6 135 yX6_use, Cond.instanceMethod yX6_use, Cond.selects RX6 yX6_use yX6_use, Cond.code yX6_use cX6_use 3 none]
def wsX6_write_r2 : List Cond := [Cond.fieldLink RX6 91 "CacheDirectoryModel" "time" "I", Cond.fieldLink RX6 22 "CacheDirectoryModel" "uses" "[I", Cond.methodLink RX6 138 yX6_canStart, Cond.instanceMethod yX6_canStart, Cond.selects RX6 yX6_canStart yX6_canStart, Cond.code yX6_canStart cX6_canStart 3 (some .boolean), Cond.methodLink RX6 118 yX6_leaving, Cond.instanceMethod yX6_leaving, Cond.selects RX6 yX6_leaving yX6_leaving, Cond.code yX6_leaving cX6_leaving 3 (some .int), Cond.fieldLink RX6 7 "CacheDirectoryModel" "ways" "[I", Cond.methodLink RX6 104 yX6_linesIn, Cond.instanceMethod yX6_linesIn, Cond.selects RX6 yX6_linesIn yX6_linesIn, Cond.code yX6_linesIn cX6_linesIn 4 (some .int), Cond.methodLink RX6 115 yX6_lineBy, Cond.instanceMethod yX6_lineBy, Cond.selects RX6 yX6_lineBy yX6_lineBy, Cond.code yX6_lineBy cX6_lineBy 6 (some .int), Cond.methodLink RX6 121 yX6_canRemove, Cond.instanceMethod yX6_canRemove, Cond.selects RX6 yX6_canRemove yX6_canRemove, Cond.code yX6_canRemove cX6_canRemove 3 (some .boolean), Cond.fieldLink RX6 13 "CacheDirectoryModel" "rooms" "[I"]
def wsX6_write_r3 : List Cond := [Cond.methodLink RX6 108 yX6_victimsIn, Cond.instanceMethod yX6_victimsIn, Cond.selects RX6 yX6_victimsIn yX6_victimsIn, Cond.code yX6_victimsIn cX6_victimsIn 4 (some .int), Cond.methodLink RX6 141 yX6_start, Cond.instanceMethod yX6_start, Cond.selects RX6 yX6_start yX6_start, Cond.code yX6_start cX6_start 5 none, Cond.fieldLink RX6 31 "CacheDirectoryModel" "misses" "[I", Cond.fieldLink RX6 40 "CacheDirectoryModel" "isWriting" "[Z", Cond.fieldLink RX6 44 "CacheDirectoryModel" "toWrite" "[I", Cond.fieldLink RX6 47 "CacheDirectoryModel" "isAnswered" "[Z", Cond.fieldLink RX6 50 "CacheDirectoryModel" "answers" "[I", Cond.fieldLink RX6 53 "CacheDirectoryModel" "needed" "[I", Cond.fieldLink RX6 56 "CacheDirectoryModel" "got" "[I", Cond.methodLink RX6 125 yX6_remove, Cond.instanceMethod yX6_remove, Cond.selects RX6 yX6_remove yX6_remove, Cond.code yX6_remove cX6_remove 3 none, Cond.methodLink RX6 111 yX6_send, Cond.instanceMethod yX6_send, Cond.selects RX6 yX6_send yX6_send, Cond.code yX6_send cX6_send 9 none, Cond.fieldLink RX6 94 "CacheDirectoryModel" "sent" "I"]
def wsX6_write_r4 : List Cond := [Cond.fieldLink RX6 77 "CacheDirectoryModel" "messages" "[I"]
def wsX6_write : List Cond := .code yX6_write cX6_write 4 (some .boolean) :: ((wsX6_write_r1 ++ (wsX6_write_r2 ++ (wsX6_write_r3 ++ wsX6_write_r4))) ++ wsX60)
def wsX6_evict_r1 : List Cond := [Cond.fieldLink RX6 83 "CacheDirectoryModel" "thrown" "I", Cond.fieldLink RX6 16 "CacheDirectoryModel" "states" "[I", Cond.fieldLink RX6 37 "CacheDirectoryModel" "openLines" "[I", Cond.methodLink RX6 97 yX6_isCache, Cond.static yX6_isCache, Cond.initialized RX6, Cond.code yX6_isCache cX6_isCache 1 (some .boolean), Cond.methodLink RX6 129 yX6_isLine, Cond.static yX6_isLine, Cond.code yX6_isLine cX6_isLine 1 (some .boolean), Cond.methodLink RX6 132 yX6_fail, Cond.instanceMethod yX6_fail, Cond.selects RX6 yX6_fail yX6_fail, Cond.code yX6_fail cX6_fail 2 (some .int), Cond.methodLink RX6 87 yX6_at, Cond.static yX6_at, Cond.code yX6_at cX6_at 2 (some .int), Cond.methodLink RX6 121 yX6_canRemove, Cond.instanceMethod yX6_canRemove, Cond.selects RX6 yX6_canRemove yX6_canRemove, Cond.code yX6_canRemove cX6_canRemove 3 (some .boolean), Cond.fieldLink RX6 13 "CacheDirectoryModel" "rooms" "[I", Cond.methodLink RX6 108 yX6_victimsIn, Cond.instanceMethod yX6_victimsIn]
def wsX6_evict_r2 : List Cond := [Cond.selects RX6 yX6_victimsIn yX6_victimsIn, Cond.code yX6_victimsIn cX6_victimsIn 4 (some .int), Cond.fieldLink RX6 25 "CacheDirectoryModel" "victims" "[I", Cond.methodLink RX6 125 yX6_remove, Cond.instanceMethod yX6_remove, Cond.selects RX6 yX6_remove yX6_remove, Cond.code yX6_remove cX6_remove 3 none, Cond.fieldLink RX6 19 "CacheDirectoryModel" "values" "[I", Cond.methodLink RX6 111 yX6_send, Cond.instanceMethod yX6_send, Cond.selects RX6 yX6_send yX6_send, Cond.code yX6_send cX6_send 9 none, Cond.fieldLink RX6 94 "CacheDirectoryModel" "sent" "I", Cond.fieldLink RX6 77 "CacheDirectoryModel" "messages" "[I"]
def wsX6_evict : List Cond := .code yX6_evict cX6_evict 4 (some .int) :: ((wsX6_evict_r1 ++ wsX6_evict_r2) ++ wsX60)
def wsX6_state : List Cond := .code yX6_state cX6_state 3 (some .int) :: ([.fieldLink RX6 83 "CacheDirectoryModel" "thrown" "I", .fieldLink RX6 16 "CacheDirectoryModel" "states" "[I", .methodLink RX6 97 yX6_isCache, .static yX6_isCache, .initialized RX6, .code yX6_isCache cX6_isCache 1 (some .boolean), .methodLink RX6 129 yX6_isLine, .static yX6_isLine, .code yX6_isLine cX6_isLine 1 (some .boolean), .methodLink RX6 87 yX6_at, .static yX6_at, .code yX6_at cX6_at 2 (some .int), .methodLink RX6 132 yX6_fail, .instanceMethod yX6_fail, .selects RX6 yX6_fail yX6_fail, .code yX6_fail cX6_fail 2 (some .int)] ++ wsX60)
def wsX6_value : List Cond := .code yX6_value cX6_value 3 (some .int) :: ([.fieldLink RX6 83 "CacheDirectoryModel" "thrown" "I", .fieldLink RX6 16 "CacheDirectoryModel" "states" "[I", .fieldLink RX6 19 "CacheDirectoryModel" "values" "[I", .methodLink RX6 97 yX6_isCache, .static yX6_isCache, .initialized RX6, .code yX6_isCache cX6_isCache 1 (some .boolean), .methodLink RX6 129 yX6_isLine, .static yX6_isLine, .code yX6_isLine cX6_isLine 1 (some .boolean), .methodLink RX6 132 yX6_fail, .instanceMethod yX6_fail, .selects RX6 yX6_fail yX6_fail, .code yX6_fail cX6_fail 2 (some .int), .methodLink RX6 87 yX6_at, .static yX6_at, .code yX6_at cX6_at 2 (some .int)] ++ wsX60)
def wsX6_victimValue : List Cond := .code yX6_victimValue cX6_victimValue 3 (some .int) :: ([.fieldLink RX6 83 "CacheDirectoryModel" "thrown" "I", .fieldLink RX6 25 "CacheDirectoryModel" "victims" "[I", .methodLink RX6 97 yX6_isCache, .static yX6_isCache, .initialized RX6, .code yX6_isCache cX6_isCache 1 (some .boolean), .methodLink RX6 129 yX6_isLine, .static yX6_isLine, .code yX6_isLine cX6_isLine 1 (some .boolean), .methodLink RX6 87 yX6_at, .static yX6_at, .code yX6_at cX6_at 2 (some .int), .methodLink RX6 132 yX6_fail, .instanceMethod yX6_fail, .selects RX6 yX6_fail yX6_fail, .code yX6_fail cX6_fail 2 (some .int)] ++ wsX60)
def wsX6_openLine : List Cond := .code yX6_openLine cX6_openLine 2 (some .int) :: ([.fieldLink RX6 83 "CacheDirectoryModel" "thrown" "I", .fieldLink RX6 37 "CacheDirectoryModel" "openLines" "[I", .methodLink RX6 97 yX6_isCache, .static yX6_isCache, .initialized RX6, .code yX6_isCache cX6_isCache 1 (some .boolean), .methodLink RX6 132 yX6_fail, .instanceMethod yX6_fail, .selects RX6 yX6_fail yX6_fail, .code yX6_fail cX6_fail 2 (some .int)] ++ wsX60)
def wsX6_latestRead : List Cond := .code yX6_latestRead cX6_latestRead 2 (some .int) :: ([.fieldLink RX6 83 "CacheDirectoryModel" "thrown" "I", .fieldLink RX6 34 "CacheDirectoryModel" "latest" "[I", .methodLink RX6 97 yX6_isCache, .static yX6_isCache, .initialized RX6, .code yX6_isCache cX6_isCache 1 (some .boolean), .methodLink RX6 132 yX6_fail, .instanceMethod yX6_fail, .selects RX6 yX6_fail yX6_fail, .code yX6_fail cX6_fail 2 (some .int)] ++ wsX60)
def wsX6_lineAt : List Cond := .code yX6_lineAt cX6_lineAt 4 (some .int) :: ([.fieldLink RX6 83 "CacheDirectoryModel" "thrown" "I", .methodLink RX6 97 yX6_isCache, .static yX6_isCache, .initialized RX6, .code yX6_isCache cX6_isCache 1 (some .boolean), .methodLink RX6 132 yX6_fail, .instanceMethod yX6_fail, .selects RX6 yX6_fail yX6_fail, .code yX6_fail cX6_fail 2 (some .int), .methodLink RX6 115 yX6_lineBy, .instanceMethod yX6_lineBy, .selects RX6 yX6_lineBy yX6_lineBy, .code yX6_lineBy cX6_lineBy 6 (some .int), .fieldLink RX6 16 "CacheDirectoryModel" "states" "[I", .fieldLink RX6 22 "CacheDirectoryModel" "uses" "[I", .methodLink RX6 87 yX6_at, .static yX6_at, .code yX6_at cX6_at 2 (some .int)] ++ wsX60)
def wsX6_owner : List Cond := .code yX6_owner cX6_owner 2 (some .int) :: ([.fieldLink RX6 83 "CacheDirectoryModel" "thrown" "I", .fieldLink RX6 62 "CacheDirectoryModel" "owners" "[I", .methodLink RX6 129 yX6_isLine, .static yX6_isLine, .initialized RX6, .code yX6_isLine cX6_isLine 1 (some .boolean), .methodLink RX6 132 yX6_fail, .instanceMethod yX6_fail, .selects RX6 yX6_fail yX6_fail, .code yX6_fail cX6_fail 2 (some .int)] ++ wsX60)
def wsX6_sharers : List Cond := .code yX6_sharers cX6_sharers 2 (some .int) :: ([.fieldLink RX6 83 "CacheDirectoryModel" "thrown" "I", .fieldLink RX6 65 "CacheDirectoryModel" "sharers" "[I", .methodLink RX6 129 yX6_isLine, .static yX6_isLine, .initialized RX6, .code yX6_isLine cX6_isLine 1 (some .boolean), .methodLink RX6 132 yX6_fail, .instanceMethod yX6_fail, .selects RX6 yX6_fail yX6_fail, .code yX6_fail cX6_fail 2 (some .int)] ++ wsX60)
def wsX6_isBusy : List Cond := .code yX6_isBusy cX6_isBusy 2 (some .boolean) :: ([.fieldLink RX6 83 "CacheDirectoryModel" "thrown" "I", .fieldLink RX6 68 "CacheDirectoryModel" "isBusy" "[Z", .methodLink RX6 129 yX6_isLine, .static yX6_isLine, .initialized RX6, .code yX6_isLine cX6_isLine 1 (some .boolean), .methodLink RX6 101 yX6_failed, .instanceMethod yX6_failed, .selects RX6 yX6_failed yX6_failed, .code yX6_failed cX6_failed 2 (some .boolean)] ++ wsX60)
def wsX6_queued : List Cond := .code yX6_queued cX6_queued 2 (some .int) :: ([.fieldLink RX6 83 "CacheDirectoryModel" "thrown" "I", .fieldLink RX6 74 "CacheDirectoryModel" "queued" "[I", .methodLink RX6 129 yX6_isLine, .static yX6_isLine, .initialized RX6, .code yX6_isLine cX6_isLine 1 (some .boolean), .methodLink RX6 132 yX6_fail, .instanceMethod yX6_fail, .selects RX6 yX6_fail yX6_fail, .code yX6_fail cX6_fail 2 (some .int)] ++ wsX60)
def wsX6_memory : List Cond := .code yX6_memory cX6_memory 2 (some .int) :: ([.fieldLink RX6 83 "CacheDirectoryModel" "thrown" "I", .fieldLink RX6 59 "CacheDirectoryModel" "memory" "[I", .methodLink RX6 129 yX6_isLine, .static yX6_isLine, .initialized RX6, .code yX6_isLine cX6_isLine 1 (some .boolean), .methodLink RX6 132 yX6_fail, .instanceMethod yX6_fail, .selects RX6 yX6_fail yX6_fail, .code yX6_fail cX6_fail 2 (some .int)] ++ wsX60)
def wsX6_isMessage : List Cond := .code yX6_isMessage cX6_isMessage 2 (some .boolean) :: ([.fieldLink RX6 94 "CacheDirectoryModel" "sent" "I"] ++ wsX60)
def wsX6_part : List Cond := .code yX6_part cX6_part 3 (some .int) :: ([.fieldLink RX6 83 "CacheDirectoryModel" "thrown" "I", .fieldLink RX6 77 "CacheDirectoryModel" "messages" "[I", .methodLink RX6 145 yX6_isMessage, .instanceMethod yX6_isMessage, .selects RX6 yX6_isMessage yX6_isMessage, .initialized RX6, .code yX6_isMessage cX6_isMessage 2 (some .boolean), .fieldLink RX6 94 "CacheDirectoryModel" "sent" "I", .methodLink RX6 132 yX6_fail, .instanceMethod yX6_fail, .selects RX6 yX6_fail yX6_fail, .code yX6_fail cX6_fail 2 (some .int)] ++ wsX60)
def wsX6_messageCount : List Cond := .code yX6_messageCount cX6_messageCount 1 (some .int) :: ([.fieldLink RX6 83 "CacheDirectoryModel" "thrown" "I", .fieldLink RX6 94 "CacheDirectoryModel" "sent" "I"] ++ wsX60)
def wsX6_messageKind : List Cond := .code yX6_messageKind cX6_messageKind 2 (some .int) :: ([.methodLink RX6 148 yX6_part, .instanceMethod yX6_part, .selects RX6 yX6_part yX6_part, .initialized RX6, .code yX6_part cX6_part 3 (some .int), .fieldLink RX6 83 "CacheDirectoryModel" "thrown" "I", .fieldLink RX6 77 "CacheDirectoryModel" "messages" "[I", .methodLink RX6 145 yX6_isMessage, .instanceMethod yX6_isMessage, .selects RX6 yX6_isMessage yX6_isMessage, .code yX6_isMessage cX6_isMessage 2 (some .boolean), .fieldLink RX6 94 "CacheDirectoryModel" "sent" "I", .methodLink RX6 132 yX6_fail, .instanceMethod yX6_fail, .selects RX6 yX6_fail yX6_fail, .code yX6_fail cX6_fail 2 (some .int)] ++ wsX60)
def wsX6_messageLine : List Cond := .code yX6_messageLine cX6_messageLine 2 (some .int) :: ([.methodLink RX6 148 yX6_part, .instanceMethod yX6_part, .selects RX6 yX6_part yX6_part, .initialized RX6, .code yX6_part cX6_part 3 (some .int), .fieldLink RX6 83 "CacheDirectoryModel" "thrown" "I", .fieldLink RX6 77 "CacheDirectoryModel" "messages" "[I", .methodLink RX6 145 yX6_isMessage, .instanceMethod yX6_isMessage, .selects RX6 yX6_isMessage yX6_isMessage, .code yX6_isMessage cX6_isMessage 2 (some .boolean), .fieldLink RX6 94 "CacheDirectoryModel" "sent" "I", .methodLink RX6 132 yX6_fail, .instanceMethod yX6_fail, .selects RX6 yX6_fail yX6_fail, .code yX6_fail cX6_fail 2 (some .int)] ++ wsX60)
def wsX6_messageFrom : List Cond := .code yX6_messageFrom cX6_messageFrom 2 (some .int) :: ([.methodLink RX6 148 yX6_part, .instanceMethod yX6_part, .selects RX6 yX6_part yX6_part, .initialized RX6, .code yX6_part cX6_part 3 (some .int), .fieldLink RX6 83 "CacheDirectoryModel" "thrown" "I", .fieldLink RX6 77 "CacheDirectoryModel" "messages" "[I", .methodLink RX6 145 yX6_isMessage, .instanceMethod yX6_isMessage, .selects RX6 yX6_isMessage yX6_isMessage, .code yX6_isMessage cX6_isMessage 2 (some .boolean), .fieldLink RX6 94 "CacheDirectoryModel" "sent" "I", .methodLink RX6 132 yX6_fail, .instanceMethod yX6_fail, .selects RX6 yX6_fail yX6_fail, .code yX6_fail cX6_fail 2 (some .int)] ++ wsX60)
def wsX6_messageTo : List Cond := .code yX6_messageTo cX6_messageTo 2 (some .int) :: ([.methodLink RX6 148 yX6_part, .instanceMethod yX6_part, .selects RX6 yX6_part yX6_part, .initialized RX6, .code yX6_part cX6_part 3 (some .int), .fieldLink RX6 83 "CacheDirectoryModel" "thrown" "I", .fieldLink RX6 77 "CacheDirectoryModel" "messages" "[I", .methodLink RX6 145 yX6_isMessage, .instanceMethod yX6_isMessage, .selects RX6 yX6_isMessage yX6_isMessage, .code yX6_isMessage cX6_isMessage 2 (some .boolean), .fieldLink RX6 94 "CacheDirectoryModel" "sent" "I", .methodLink RX6 132 yX6_fail, .instanceMethod yX6_fail, .selects RX6 yX6_fail yX6_fail, .code yX6_fail cX6_fail 2 (some .int)] ++ wsX60)
def wsX6_complete_r1 : List Cond := [Cond.fieldLink RX6 47 "CacheDirectoryModel" "isAnswered" "[Z", Cond.fieldLink RX6 56 "CacheDirectoryModel" "got" "[I", Cond.fieldLink RX6 53 "CacheDirectoryModel" "needed" "[I", Cond.fieldLink RX6 37 "CacheDirectoryModel" "openLines" "[I", Cond.fieldLink RX6 16 "CacheDirectoryModel" "states" "[I", Cond.fieldLink RX6 40 "CacheDirectoryModel" "isWriting" "[Z", Cond.fieldLink RX6 19 "CacheDirectoryModel" "values" "[I", Cond.fieldLink RX6 44 "CacheDirectoryModel" "toWrite" "[I", Cond.fieldLink RX6 50 "CacheDirectoryModel" "answers" "[I", Cond.fieldLink RX6 34 "CacheDirectoryModel" "latest" "[I", Cond.methodLink RX6 87 yX6_at, Cond.static yX6_at, Cond.initialized RX6, Cond.code yX6_at cX6_at 2 (some .int), Cond.methodLink RX6 135 yX6_use, Cond.instanceMethod yX6_use, Cond.selects RX6 yX6_use yX6_use, Cond.code yX6_use cX6_use 3 none, Cond.fieldLink RX6 91 "CacheDirectoryModel" "time" "I", Cond.fieldLink RX6 22 "CacheDirectoryModel" "uses" "[I", Cond.methodLink RX6 111 yX6_send, Cond.instanceMethod yX6_send, Cond.selects RX6 yX6_send yX6_send, Cond.code yX6_send cX6_send 9 none]
def wsX6_complete_r2 : List Cond := [Cond.fieldLink RX6 94 "CacheDirectoryModel" "sent" "I", Cond.fieldLink RX6 77 "CacheDirectoryModel" "messages" "[I"]
def wsX6_complete : List Cond := .code yX6_complete cX6_complete 3 none :: ((wsX6_complete_r1 ++ wsX6_complete_r2) ++ wsX60)
def wsX6_receive_r1 : List Cond := [Cond.fieldLink RX6 16 "CacheDirectoryModel" "states" "[I", Cond.fieldLink RX6 19 "CacheDirectoryModel" "values" "[I", Cond.fieldLink RX6 25 "CacheDirectoryModel" "victims" "[I", Cond.fieldLink RX6 80 "CacheDirectoryModel" "now" "[I", Cond.fieldLink RX6 47 "CacheDirectoryModel" "isAnswered" "[Z", Cond.fieldLink RX6 50 "CacheDirectoryModel" "answers" "[I", Cond.fieldLink RX6 53 "CacheDirectoryModel" "needed" "[I", Cond.fieldLink RX6 56 "CacheDirectoryModel" "got" "[I", Cond.methodLink RX6 87 yX6_at, Cond.static yX6_at, Cond.initialized RX6, Cond.code yX6_at cX6_at 2 (some .int), Cond.methodLink RX6 173 yX6_complete, Cond.instanceMethod yX6_complete, Cond.selects RX6 yX6_complete yX6_complete, Cond.code yX6_complete cX6_complete 3 none, Cond.fieldLink RX6 37 "CacheDirectoryModel" "openLines" "[I", Cond.fieldLink RX6 40 "CacheDirectoryModel" "isWriting" "[Z", Cond.fieldLink RX6 44 "CacheDirectoryModel" "toWrite" "[I", Cond.fieldLink RX6 34 "CacheDirectoryModel" "latest" "[I", Cond.methodLink RX6 135 yX6_use, Cond.instanceMethod yX6_use, Cond.selects RX6 yX6_use yX6_use, Cond.code yX6_use cX6_use 3 none]
def wsX6_receive_r2 : List Cond := [Cond.fieldLink RX6 91 "CacheDirectoryModel" "time" "I", Cond.fieldLink RX6 22 "CacheDirectoryModel" "uses" "[I", Cond.methodLink RX6 111 yX6_send, Cond.instanceMethod yX6_send, Cond.selects RX6 yX6_send yX6_send, Cond.code yX6_send cX6_send 9 none, Cond.fieldLink RX6 94 "CacheDirectoryModel" "sent" "I", Cond.fieldLink RX6 77 "CacheDirectoryModel" "messages" "[I"]
def wsX6_receive : List Cond := .code yX6_receive cX6_receive 5 none :: ((wsX6_receive_r1 ++ wsX6_receive_r2) ++ wsX60)
def wsX6_process : List Cond := .code yX6_process cX6_process 6 none :: ([.fieldLink RX6 62 "CacheDirectoryModel" "owners" "[I", .fieldLink RX6 80 "CacheDirectoryModel" "now" "[I", .fieldLink RX6 59 "CacheDirectoryModel" "memory" "[I", .fieldLink RX6 65 "CacheDirectoryModel" "sharers" "[I", .fieldLink RX6 167 "CacheDirectoryModel" "writebacks" "I", .fieldLink RX6 170 "CacheDirectoryModel" "late" "I", .fieldLink RX6 68 "CacheDirectoryModel" "isBusy" "[Z", .methodLink RX6 111 yX6_send, .instanceMethod yX6_send, .selects RX6 yX6_send yX6_send, .initialized RX6, .code yX6_send cX6_send 9 none, .fieldLink RX6 94 "CacheDirectoryModel" "sent" "I", .fieldLink RX6 77 "CacheDirectoryModel" "messages" "[I"] ++ wsX60)
def wsX6_free : List Cond := .code yX6_free cX6_free 4 none :: ([.fieldLink RX6 68 "CacheDirectoryModel" "isBusy" "[Z", .fieldLink RX6 74 "CacheDirectoryModel" "queued" "[I", .fieldLink RX6 80 "CacheDirectoryModel" "now" "[I", .fieldLink RX6 71 "CacheDirectoryModel" "queues" "[I", .methodLink RX6 164 yX6_process, .instanceMethod yX6_process, .selects RX6 yX6_process yX6_process, .initialized RX6, .code yX6_process cX6_process 6 none, .fieldLink RX6 62 "CacheDirectoryModel" "owners" "[I", .fieldLink RX6 59 "CacheDirectoryModel" "memory" "[I", .fieldLink RX6 65 "CacheDirectoryModel" "sharers" "[I", .fieldLink RX6 167 "CacheDirectoryModel" "writebacks" "I", .fieldLink RX6 170 "CacheDirectoryModel" "late" "I", .methodLink RX6 111 yX6_send, .instanceMethod yX6_send, .selects RX6 yX6_send yX6_send, .code yX6_send cX6_send 9 none, .fieldLink RX6 94 "CacheDirectoryModel" "sent" "I", .fieldLink RX6 77 "CacheDirectoryModel" "messages" "[I"] ++ wsX60)
def wsX6_enqueue : List Cond := .code yX6_enqueue cX6_enqueue 4 none :: ([.fieldLink RX6 74 "CacheDirectoryModel" "queued" "[I", .fieldLink RX6 71 "CacheDirectoryModel" "queues" "[I", .fieldLink RX6 80 "CacheDirectoryModel" "now" "[I"] ++ wsX60)
def wsX6_take_r1 : List Cond := [Cond.fieldLink RX6 80 "CacheDirectoryModel" "now" "[I", Cond.fieldLink RX6 77 "CacheDirectoryModel" "messages" "[I", Cond.fieldLink RX6 94 "CacheDirectoryModel" "sent" "I", Cond.fieldLink RX6 68 "CacheDirectoryModel" "isBusy" "[Z", Cond.methodLink RX6 155 yX6_receive, Cond.instanceMethod yX6_receive, Cond.selects RX6 yX6_receive yX6_receive, Cond.initialized RX6, Cond.code yX6_receive cX6_receive 5 none, Cond.fieldLink RX6 16 "CacheDirectoryModel" "states" "[I", Cond.fieldLink RX6 19 "CacheDirectoryModel" "values" "[I", Cond.fieldLink RX6 25 "CacheDirectoryModel" "victims" "[I", Cond.fieldLink RX6 47 "CacheDirectoryModel" "isAnswered" "[Z", Cond.fieldLink RX6 50 "CacheDirectoryModel" "answers" "[I", Cond.fieldLink RX6 53 "CacheDirectoryModel" "needed" "[I", Cond.fieldLink RX6 56 "CacheDirectoryModel" "got" "[I", Cond.methodLink RX6 87 yX6_at, Cond.static yX6_at, Cond.code yX6_at cX6_at 2 (some .int), Cond.methodLink RX6 173 yX6_complete, Cond.instanceMethod yX6_complete, Cond.selects RX6 yX6_complete yX6_complete, Cond.code yX6_complete cX6_complete 3 none, Cond.fieldLink RX6 37 "CacheDirectoryModel" "openLines" "[I"]
def wsX6_take_r2 : List Cond := [Cond.fieldLink RX6 40 "CacheDirectoryModel" "isWriting" "[Z", Cond.fieldLink RX6 44 "CacheDirectoryModel" "toWrite" "[I", Cond.fieldLink RX6 34 "CacheDirectoryModel" "latest" "[I", Cond.methodLink RX6 135 yX6_use, Cond.instanceMethod yX6_use, Cond.selects RX6 yX6_use yX6_use, Cond.code yX6_use cX6_use 3 none, Cond.fieldLink RX6 91 "CacheDirectoryModel" "time" "I", Cond.fieldLink RX6 22 "CacheDirectoryModel" "uses" "[I", Cond.methodLink RX6 111 yX6_send, Cond.instanceMethod yX6_send, Cond.selects RX6 yX6_send yX6_send, Cond.code yX6_send cX6_send 9 none, Cond.methodLink RX6 158 yX6_free, Cond.instanceMethod yX6_free, Cond.selects RX6 yX6_free yX6_free, Cond.code yX6_free cX6_free 4 none, Cond.fieldLink RX6 74 "CacheDirectoryModel" "queued" "[I", Cond.fieldLink RX6 71 "CacheDirectoryModel" "queues" "[I", Cond.methodLink RX6 164 yX6_process, Cond.instanceMethod yX6_process, Cond.selects RX6 yX6_process yX6_process, Cond.code yX6_process cX6_process 6 none, Cond.fieldLink RX6 62 "CacheDirectoryModel" "owners" "[I"]
def wsX6_take_r3 : List Cond := [Cond.fieldLink RX6 59 "CacheDirectoryModel" "memory" "[I", Cond.fieldLink RX6 65 "CacheDirectoryModel" "sharers" "[I", Cond.fieldLink RX6 167 "CacheDirectoryModel" "writebacks" "I", Cond.fieldLink RX6 170 "CacheDirectoryModel" "late" "I", Cond.methodLink RX6 161 yX6_enqueue, Cond.instanceMethod yX6_enqueue, Cond.selects RX6 yX6_enqueue yX6_enqueue, Cond.code yX6_enqueue cX6_enqueue 4 none]
def wsX6_take : List Cond := .code yX6_take cX6_take 3 none :: ((wsX6_take_r1 ++ (wsX6_take_r2 ++ wsX6_take_r3)) ++ wsX60)
def wsX6_deliver_r1 : List Cond := [Cond.fieldLink RX6 83 "CacheDirectoryModel" "thrown" "I", Cond.fieldLink RX6 94 "CacheDirectoryModel" "sent" "I", Cond.methodLink RX6 145 yX6_isMessage, Cond.instanceMethod yX6_isMessage, Cond.selects RX6 yX6_isMessage yX6_isMessage, Cond.initialized RX6, Cond.code yX6_isMessage cX6_isMessage 2 (some .boolean), Cond.methodLink RX6 132 yX6_fail, Cond.instanceMethod yX6_fail, Cond.selects RX6 yX6_fail yX6_fail, Cond.code yX6_fail cX6_fail 2 (some .int), Cond.methodLink RX6 151 yX6_take, Cond.instanceMethod yX6_take, Cond.selects RX6 yX6_take yX6_take, Cond.code yX6_take cX6_take 3 none, Cond.fieldLink RX6 80 "CacheDirectoryModel" "now" "[I", Cond.fieldLink RX6 77 "CacheDirectoryModel" "messages" "[I", Cond.fieldLink RX6 68 "CacheDirectoryModel" "isBusy" "[Z", Cond.methodLink RX6 155 yX6_receive, Cond.instanceMethod yX6_receive, Cond.selects RX6 yX6_receive yX6_receive, Cond.code yX6_receive cX6_receive 5 none, Cond.fieldLink RX6 16 "CacheDirectoryModel" "states" "[I", Cond.fieldLink RX6 19 "CacheDirectoryModel" "values" "[I"]
def wsX6_deliver_r2 : List Cond := [Cond.fieldLink RX6 25 "CacheDirectoryModel" "victims" "[I", Cond.fieldLink RX6 47 "CacheDirectoryModel" "isAnswered" "[Z", Cond.fieldLink RX6 50 "CacheDirectoryModel" "answers" "[I", Cond.fieldLink RX6 53 "CacheDirectoryModel" "needed" "[I", Cond.fieldLink RX6 56 "CacheDirectoryModel" "got" "[I", Cond.methodLink RX6 87 yX6_at, Cond.static yX6_at, Cond.code yX6_at cX6_at 2 (some .int), Cond.methodLink RX6 173 yX6_complete, Cond.instanceMethod yX6_complete, Cond.selects RX6 yX6_complete yX6_complete, Cond.code yX6_complete cX6_complete 3 none, Cond.fieldLink RX6 37 "CacheDirectoryModel" "openLines" "[I", Cond.fieldLink RX6 40 "CacheDirectoryModel" "isWriting" "[Z", Cond.fieldLink RX6 44 "CacheDirectoryModel" "toWrite" "[I", Cond.fieldLink RX6 34 "CacheDirectoryModel" "latest" "[I", Cond.methodLink RX6 135 yX6_use, Cond.instanceMethod yX6_use, Cond.selects RX6 yX6_use yX6_use, Cond.code yX6_use cX6_use 3 none, Cond.fieldLink RX6 91 "CacheDirectoryModel" "time" "I", Cond.fieldLink RX6 22 "CacheDirectoryModel" "uses" "[I", Cond.methodLink RX6 111 yX6_send, Cond.instanceMethod yX6_send]
def wsX6_deliver_r3 : List Cond := [Cond.selects RX6 yX6_send yX6_send, Cond.code yX6_send cX6_send 9 none, Cond.methodLink RX6 158 yX6_free, Cond.instanceMethod yX6_free, Cond.selects RX6 yX6_free yX6_free, Cond.code yX6_free cX6_free 4 none, Cond.fieldLink RX6 74 "CacheDirectoryModel" "queued" "[I", Cond.fieldLink RX6 71 "CacheDirectoryModel" "queues" "[I", Cond.methodLink RX6 164 yX6_process, Cond.instanceMethod yX6_process, Cond.selects RX6 yX6_process yX6_process, Cond.code yX6_process cX6_process 6 none, Cond.fieldLink RX6 62 "CacheDirectoryModel" "owners" "[I", Cond.fieldLink RX6 59 "CacheDirectoryModel" "memory" "[I", Cond.fieldLink RX6 65 "CacheDirectoryModel" "sharers" "[I", Cond.fieldLink RX6 167 "CacheDirectoryModel" "writebacks" "I", Cond.fieldLink RX6 170 "CacheDirectoryModel" "late" "I", Cond.methodLink RX6 161 yX6_enqueue, Cond.instanceMethod yX6_enqueue, Cond.selects RX6 yX6_enqueue yX6_enqueue, Cond.code yX6_enqueue cX6_enqueue 4 none]
def wsX6_deliver : List Cond := .code yX6_deliver cX6_deliver 2 (some .int) :: ((wsX6_deliver_r1 ++ (wsX6_deliver_r2 ++ wsX6_deliver_r3)) ++ wsX60)
def wsX6_settle_r1 : List Cond := [Cond.fieldLink RX6 83 "CacheDirectoryModel" "thrown" "I", Cond.fieldLink RX6 94 "CacheDirectoryModel" "sent" "I", Cond.methodLink RX6 132 yX6_fail, Cond.instanceMethod yX6_fail, Cond.selects RX6 yX6_fail yX6_fail, Cond.initialized RX6, Cond.code yX6_fail cX6_fail 2 (some .int), Cond.methodLink RX6 151 yX6_take, Cond.instanceMethod yX6_take, Cond.selects RX6 yX6_take yX6_take, Cond.code yX6_take cX6_take 3 none, Cond.fieldLink RX6 80 "CacheDirectoryModel" "now" "[I", Cond.fieldLink RX6 77 "CacheDirectoryModel" "messages" "[I", Cond.fieldLink RX6 68 "CacheDirectoryModel" "isBusy" "[Z", Cond.methodLink RX6 155 yX6_receive, Cond.instanceMethod yX6_receive, Cond.selects RX6 yX6_receive yX6_receive, Cond.code yX6_receive cX6_receive 5 none, Cond.fieldLink RX6 16 "CacheDirectoryModel" "states" "[I", Cond.fieldLink RX6 19 "CacheDirectoryModel" "values" "[I", Cond.fieldLink RX6 25 "CacheDirectoryModel" "victims" "[I", Cond.fieldLink RX6 47 "CacheDirectoryModel" "isAnswered" "[Z", Cond.fieldLink RX6 50 "CacheDirectoryModel" "answers" "[I", Cond.fieldLink RX6 53 "CacheDirectoryModel" "needed" "[I"]
def wsX6_settle_r2 : List Cond := [Cond.fieldLink RX6 56 "CacheDirectoryModel" "got" "[I", Cond.methodLink RX6 87 yX6_at, Cond.static yX6_at, Cond.code yX6_at cX6_at 2 (some .int), Cond.methodLink RX6 173 yX6_complete, Cond.instanceMethod yX6_complete, Cond.selects RX6 yX6_complete yX6_complete, Cond.code yX6_complete cX6_complete 3 none, Cond.fieldLink RX6 37 "CacheDirectoryModel" "openLines" "[I", Cond.fieldLink RX6 40 "CacheDirectoryModel" "isWriting" "[Z", Cond.fieldLink RX6 44 "CacheDirectoryModel" "toWrite" "[I", Cond.fieldLink RX6 34 "CacheDirectoryModel" "latest" "[I", Cond.methodLink RX6 135 yX6_use, Cond.instanceMethod yX6_use, Cond.selects RX6 yX6_use yX6_use, Cond.code yX6_use cX6_use 3 none, Cond.fieldLink RX6 91 "CacheDirectoryModel" "time" "I", Cond.fieldLink RX6 22 "CacheDirectoryModel" "uses" "[I", Cond.methodLink RX6 111 yX6_send, Cond.instanceMethod yX6_send, Cond.selects RX6 yX6_send yX6_send, Cond.code yX6_send cX6_send 9 none, Cond.methodLink RX6 158 yX6_free, Cond.instanceMethod yX6_free]
def wsX6_settle_r3 : List Cond := [Cond.selects RX6 yX6_free yX6_free, Cond.code yX6_free cX6_free 4 none, Cond.fieldLink RX6 74 "CacheDirectoryModel" "queued" "[I", Cond.fieldLink RX6 71 "CacheDirectoryModel" "queues" "[I", Cond.methodLink RX6 164 yX6_process, Cond.instanceMethod yX6_process, Cond.selects RX6 yX6_process yX6_process, Cond.code yX6_process cX6_process 6 none, Cond.fieldLink RX6 62 "CacheDirectoryModel" "owners" "[I", Cond.fieldLink RX6 59 "CacheDirectoryModel" "memory" "[I", Cond.fieldLink RX6 65 "CacheDirectoryModel" "sharers" "[I", Cond.fieldLink RX6 167 "CacheDirectoryModel" "writebacks" "I", Cond.fieldLink RX6 170 "CacheDirectoryModel" "late" "I", Cond.methodLink RX6 161 yX6_enqueue, Cond.instanceMethod yX6_enqueue, Cond.selects RX6 yX6_enqueue yX6_enqueue, Cond.code yX6_enqueue cX6_enqueue 4 none]
def wsX6_settle : List Cond := .code yX6_settle cX6_settle 3 (some .int) :: ((wsX6_settle_r1 ++ (wsX6_settle_r2 ++ wsX6_settle_r3)) ++ wsX60)
def wsX6_hits : List Cond := .code yX6_hits cX6_hits 2 (some .int) :: ([.fieldLink RX6 83 "CacheDirectoryModel" "thrown" "I", .fieldLink RX6 28 "CacheDirectoryModel" "hits" "[I", .methodLink RX6 97 yX6_isCache, .static yX6_isCache, .initialized RX6, .code yX6_isCache cX6_isCache 1 (some .boolean), .methodLink RX6 132 yX6_fail, .instanceMethod yX6_fail, .selects RX6 yX6_fail yX6_fail, .code yX6_fail cX6_fail 2 (some .int)] ++ wsX60)
def wsX6_misses : List Cond := .code yX6_misses cX6_misses 2 (some .int) :: ([.fieldLink RX6 83 "CacheDirectoryModel" "thrown" "I", .fieldLink RX6 31 "CacheDirectoryModel" "misses" "[I", .methodLink RX6 97 yX6_isCache, .static yX6_isCache, .initialized RX6, .code yX6_isCache cX6_isCache 1 (some .boolean), .methodLink RX6 132 yX6_fail, .instanceMethod yX6_fail, .selects RX6 yX6_fail yX6_fail, .code yX6_fail cX6_fail 2 (some .int)] ++ wsX60)
def wsX6_writebacks : List Cond := .code yX6_writebacks cX6_writebacks 1 (some .int) :: ([.fieldLink RX6 83 "CacheDirectoryModel" "thrown" "I", .fieldLink RX6 167 "CacheDirectoryModel" "writebacks" "I"] ++ wsX60)
def wsX6_lateWritebacks : List Cond := .code yX6_lateWritebacks cX6_lateWritebacks 1 (some .int) :: ([.fieldLink RX6 83 "CacheDirectoryModel" "thrown" "I", .fieldLink RX6 170 "CacheDirectoryModel" "late" "I"] ++ wsX60)
def wsX6_isInOrder : List Cond := .code yX6_isInOrder cX6_isInOrder 9 (some .boolean) :: ([.fieldLink RX6 83 "CacheDirectoryModel" "thrown" "I", .fieldLink RX6 16 "CacheDirectoryModel" "states" "[I", .fieldLink RX6 19 "CacheDirectoryModel" "values" "[I", .methodLink RX6 129 yX6_isLine, .static yX6_isLine, .initialized RX6, .code yX6_isLine cX6_isLine 1 (some .boolean), .methodLink RX6 101 yX6_failed, .instanceMethod yX6_failed, .selects RX6 yX6_failed yX6_failed, .code yX6_failed cX6_failed 2 (some .boolean), .methodLink RX6 87 yX6_at, .static yX6_at, .code yX6_at cX6_at 2 (some .int)] ++ wsX60)
def wsX6_digest : List Cond := .code yX6_digest cX6_digest 6 (some .long) :: ([.fieldLink RX6 83 "CacheDirectoryModel" "thrown" "I", .constantLong RX6 176 (47), .constantLong RX6 178 (31), .fieldLink RX6 59 "CacheDirectoryModel" "memory" "[I", .fieldLink RX6 62 "CacheDirectoryModel" "owners" "[I", .fieldLink RX6 65 "CacheDirectoryModel" "sharers" "[I", .fieldLink RX6 68 "CacheDirectoryModel" "isBusy" "[Z", .fieldLink RX6 74 "CacheDirectoryModel" "queued" "[I", .fieldLink RX6 16 "CacheDirectoryModel" "states" "[I", .fieldLink RX6 19 "CacheDirectoryModel" "values" "[I", .fieldLink RX6 25 "CacheDirectoryModel" "victims" "[I", .fieldLink RX6 37 "CacheDirectoryModel" "openLines" "[I", .fieldLink RX6 94 "CacheDirectoryModel" "sent" "I", .fieldLink RX6 77 "CacheDirectoryModel" "messages" "[I", .methodLink RX6 87 yX6_at, .static yX6_at, .initialized RX6, .code yX6_at cX6_at 2 (some .int)] ++ wsX60)
def wsJ9_max_7cf53 : List Cond := .code yJ9_max_7cf53 cJ9_max_7cf53 2 (some .int) :: ([])
def wsJ9_min_7cf53 : List Cond := .code yJ9_min_7cf53 cJ9_min_7cf53 2 (some .int) :: ([])
def wsL_setRoom_r1 : List Cond := [Cond.classLink RL 13 "java/lang/IndexOutOfBoundsException", Cond.classLink RL 15 "java/lang/IllegalArgumentException", Cond.classLink RL 17 "java/lang/IllegalStateException", Cond.methodLink RL 7 yX5_setRoom, Cond.instanceMethod yX5_setRoom, Cond.selects RX5 yX5_setRoom yX5_setRoom, Cond.initialized RX5, Cond.code yX5_setRoom cX5_setRoom 6 (some .boolean), Cond.classLink RX5 36 "java/lang/IllegalArgumentException", Cond.initialized "java/lang/IllegalArgumentException", Cond.classLink RX5 49 "java/lang/IllegalStateException", Cond.initialized "java/lang/IllegalStateException", Cond.fieldLink RX5 54 "CacheDirectory$Cache" "ways" "I", Cond.fieldLink RX5 58 "CacheDirectory$Cache" "victimRoom" "I", Cond.methodLink RX5 32 yX5_cacheAt, Cond.instanceMethod yX5_cacheAt, Cond.selects RX5 yX5_cacheAt yX5_cacheAt, Cond.code yX5_cacheAt cX5_cacheAt 2 (some (.object "CacheDirectory$Cache")), Cond.classLink RX5 210 "java/lang/IndexOutOfBoundsException", Cond.initialized "java/lang/IndexOutOfBoundsException", Cond.fieldLink RX5 18 "CacheDirectory" "caches" "[LCacheDirectory$Cache;", Cond.methodLink RX5 45 yX0_isInUse, Cond.instanceMethod yX0_isInUse, Cond.selects RX0 yX0_isInUse yX0_isInUse]
def wsL_setRoom_r2 : List Cond := [Cond.initialized RX0, Cond.code yX0_isInUse cX0_isInUse 1 (some .boolean), Cond.fieldLink RX0 31 "CacheDirectory$Cache" "lineCount" "I", Cond.fieldLink RX0 35 "CacheDirectory$Cache" "victimCount" "I", Cond.fieldLink RX0 12 "CacheDirectory$Cache" "request" "LCacheDirectory$Request;", Cond.fieldLink RX0 60 "CacheDirectory$Request" "line" "I"]
def wsL_setRoom : List Cond := .codeWith yL_setRoom cL_setRoom 6 (some .int) [(0, 19, 22, 13), (0, 19, 26, 15), (0, 19, 30, 17)] :: ((wsL_setRoom_r1 ++ wsL_setRoom_r2) ++ wsX00 ++ wsX50 ++ wsX40 ++ (vx_atS RX5 40 "java/lang/IllegalArgumentException" ["java/lang/RuntimeException", "java/lang/Exception"]).filter goodWord ++ (vx_atS RX5 53 "java/lang/IllegalStateException" ["java/lang/RuntimeException", "java/lang/Exception"]).filter goodWord ++ (vx_atS RX5 214 "java/lang/IndexOutOfBoundsException" ["java/lang/RuntimeException", "java/lang/Exception"]).filter goodWord)
def wsL_read_r1 : List Cond := [Cond.classLink RL 13 "java/lang/IndexOutOfBoundsException", Cond.classLink RL 17 "java/lang/IllegalStateException", Cond.methodLink RL 19 yX5_read, Cond.instanceMethod yX5_read, Cond.selects RX5 yX5_read yX5_read, Cond.initialized RX5, Cond.code yX5_read cX5_read 4 (some .int), Cond.fieldLink RX5 73 "CacheDirectory$Cache" "hitCount" "I", Cond.fieldLink RX5 79 "CacheDirectory$Cache" "values" "[I", Cond.methodLink RX5 32 yX5_cacheAt, Cond.instanceMethod yX5_cacheAt, Cond.selects RX5 yX5_cacheAt yX5_cacheAt, Cond.code yX5_cacheAt cX5_cacheAt 2 (some (.object "CacheDirectory$Cache")), Cond.classLink RX5 210 "java/lang/IndexOutOfBoundsException", Cond.initialized "java/lang/IndexOutOfBoundsException", Cond.fieldLink RX5 18 "CacheDirectory" "caches" "[LCacheDirectory$Cache;", Cond.methodLink RX5 61 yX5_checkLine, Cond.static yX5_checkLine, Cond.code yX5_checkLine cX5_checkLine 1 none, Cond.methodLink RX5 65 yX5_checkAccess, Cond.static yX5_checkAccess, Cond.code yX5_checkAccess cX5_checkAccess 2 none, Cond.classLink RX5 49 "java/lang/IllegalStateException", Cond.initialized "java/lang/IllegalStateException"]
def wsL_read_r2 : List Cond := [Cond.fieldLink RX5 99 "CacheDirectory$Cache" "request" "LCacheDirectory$Request;", Cond.fieldLink RX5 103 "CacheDirectory$Request" "line" "I", Cond.fieldLink RX5 118 "CacheDirectory$Cache" "victimValues" "[I", Cond.fieldLink RX5 132 "CacheDirectory$Cache" "useOrder" "[I", Cond.methodLink RX5 225 yX0_needsWayFor, Cond.instanceMethod yX0_needsWayFor, Cond.selects RX0 yX0_needsWayFor yX0_needsWayFor, Cond.initialized RX0, Cond.code yX0_needsWayFor cX0_needsWayFor 2 (some .boolean), Cond.fieldLink RX0 31 "CacheDirectory$Cache" "lineCount" "I", Cond.fieldLink RX0 38 "CacheDirectory$Cache" "ways" "I", Cond.methodLink RX0 63 yX0_holds, Cond.instanceMethod yX0_holds, Cond.selects RX0 yX0_holds yX0_holds, Cond.code yX0_holds cX0_holds 2 (some .boolean), Cond.fieldLink RX0 18 "CacheDirectory$Cache" "states" "[I", Cond.methodLink RX5 110 yX0_lacksVictimRoomFor, Cond.instanceMethod yX0_lacksVictimRoomFor, Cond.selects RX0 yX0_lacksVictimRoomFor yX0_lacksVictimRoomFor, Cond.code yX0_lacksVictimRoomFor cX0_lacksVictimRoomFor 2 (some .boolean), Cond.fieldLink RX0 35 "CacheDirectory$Cache" "victimCount" "I", Cond.fieldLink RX0 41 "CacheDirectory$Cache" "victimRoom" "I", Cond.methodLink RX5 69 yX0_holds, Cond.methodLink RX5 76 yX0_markUsed]
def wsL_read_r3 : List Cond := [Cond.instanceMethod yX0_markUsed, Cond.selects RX0 yX0_markUsed yX0_markUsed, Cond.code yX0_markUsed cX0_markUsed 2 none, Cond.fieldLink RX0 28 "CacheDirectory$Cache" "useOrder" "[I", Cond.methodLink RX0 139 yX0_leaveUseOrder, Cond.instanceMethod yX0_leaveUseOrder, Cond.selects RX0 yX0_leaveUseOrder yX0_leaveUseOrder, Cond.code yX0_leaveUseOrder cX0_leaveUseOrder 4 none, Cond.methodLink RX5 83 yX0_startRequest, Cond.instanceMethod yX0_startRequest, Cond.selects RX0 yX0_startRequest yX0_startRequest, Cond.code yX0_startRequest cX0_startRequest 4 none, Cond.fieldLink RX0 50 "CacheDirectory$Cache" "missCount" "I", Cond.fieldLink RX0 12 "CacheDirectory$Cache" "request" "LCacheDirectory$Request;", Cond.fieldLink RX0 56 "CacheDirectory$Cache" "network" "LCacheDirectory$Network;", Cond.fieldLink RX0 53 "CacheDirectory$Cache" "number" "I", Cond.methodLink RX0 67 yX0_needsWayFor, Cond.methodLink RX0 70 yX0_moveOut, Cond.instanceMethod yX0_moveOut, Cond.selects RX0 yX0_moveOut yX0_moveOut, Cond.code yX0_moveOut cX0_moveOut 2 none, Cond.fieldLink RX0 25 "CacheDirectory$Cache" "victimValues" "[I", Cond.fieldLink RX0 22 "CacheDirectory$Cache" "values" "[I", Cond.fieldLink RX0 84 "CacheDirectory$Message" "carried" "I"]
def wsL_read_r4 : List Cond := [Cond.methodLink RX0 78 yX3_send, Cond.instanceMethod yX3_send, Cond.selects RX3 yX3_send yX3_send, Cond.initialized RX3, Cond.code yX3_send cX3_send 6 (some (.object "CacheDirectory$Message")), Cond.classLink RX3 16 RX2, Cond.instantiable RX2 7, Cond.initialized RX2, Cond.fieldLink RX3 10 "CacheDirectory$Network" "onTheWay" "Ljava/util/ArrayList;", Cond.methodLink RX3 18 yX2_init, Cond.instanceMethod yX2_init, Cond.code yX2_init cX2_init 5 none, Cond.methodLink RX2 3 objectInit, Cond.instanceMethod objectInit, Cond.code objectInit ⟨#[0xb1]⟩ 1 none, Cond.fieldLink RX2 9 "CacheDirectory$Message" "carried" "I", Cond.fieldLink RX2 15 "CacheDirectory$Message" "count" "I", Cond.fieldLink RX2 18 "CacheDirectory$Message" "requester" "I", Cond.fieldLink RX2 21 "CacheDirectory$Message" "kind" "I", Cond.fieldLink RX2 24 "CacheDirectory$Message" "line" "I", Cond.fieldLink RX2 27 "CacheDirectory$Message" "sender" "I", Cond.fieldLink RX2 30 "CacheDirectory$Message" "receiver" "I", Cond.methodLink RX3 21 yJx4a65c_add_9ea2d, Cond.instanceMethod yJx4a65c_add_9ea2d]
def wsL_read_r5 : List Cond := [Cond.selects RJx4a65c yJx4a65c_add_9ea2d yJx4a65c_add_9ea2d, Cond.initialized RJx4a65c, Cond.code yJx4a65c_add_9ea2d cJx4a65c_add_9ea2d 2 (some .boolean), Cond.fieldLink RJx4a65c 63 "java/util/ArrayList" "modCount" "I", Cond.sameField "java/util/ArrayList" "java/util/AbstractList" "modCount" "I", Cond.fieldLink RJx4a65c 9 "java/util/ArrayList" "elementData" "[Ljava/lang/Object;", Cond.fieldLink RJx4a65c 48 "java/util/ArrayList" "size" "I", Cond.methodLink RJx4a65c 131 yJx4a65c_add_72be8, Cond.instanceMethod yJx4a65c_add_72be8, Cond.selects RJx4a65c yJx4a65c_add_72be8 yJx4a65c_add_72be8, Cond.code yJx4a65c_add_72be8 cJx4a65c_add_72be8 4 none, Cond.methodLink RJx4a65c 129 yJx4a65c_grow_d5877, Cond.instanceMethod yJx4a65c_grow_d5877, Cond.selects RJx4a65c yJx4a65c_grow_d5877 yJx4a65c_grow_d5877, Cond.code yJx4a65c_grow_d5877 cJx4a65c_grow_d5877 1 (some (.array (.object "java/lang/Object"))), Cond.methodLink RJx4a65c 69 yJx4a65c_grow_92f84, Cond.instanceMethod yJx4a65c_grow_92f84, Cond.selects RJx4a65c yJx4a65c_grow_92f84 yJx4a65c_grow_92f84, Cond.code yJx4a65c_grow_92f84 cJx4a65c_grow_92f84 4 (some (.array (.object "java/lang/Object"))), Cond.fieldLink RJx4a65c 39 "java/util/ArrayList" "DEFAULTCAPACITY_EMPTY_ELEMENTDATA" "[Ljava/lang/Object;", Cond.methodLink RJx4a65c 79 Lib.Math.max.name, Cond.static Lib.Math.max.name, Cond.initialized "java/lang/Math", Cond.code Lib.Math.max.name Lib.Math.max.code 2 (some .int)]
def wsL_read_r6 : List Cond := [Cond.classLink RJx4a65c 7 "java/lang/Object", Cond.methodLink RJx4a65c 73 yJ8_newLength_cabcc, Cond.static yJ8_newLength_cabcc, Cond.initialized RJ8, Cond.code yJ8_newLength_cabcc cJ8_newLength_cabcc 4 (some .int), Cond.methodLink RJ8 194 Lib.Math.max.name, Cond.constant RJ8 200 (2147483639), Cond.methodLink RJ8 201 yJ8_hugeLength_7cf53, Cond.static yJ8_hugeLength_7cf53, Cond.code yJ8_hugeLength_7cf53 cJ8_hugeLength_7cf53 3 (some .int), Cond.methodLink RJx4a65c 66 yJ7_copyOf_1904c, Cond.static yJ7_copyOf_1904c, Cond.initialized RJ7, Cond.code yJ7_copyOf_1904c cJ7_copyOf_1904c 2 (some (.array (.object "java/lang/Object"))), Cond.methodLink RJ7 86 ⟨"java/lang/Object", "getClass", "()Ljava/lang/Class;"⟩, Cond.selects "[Ljava/lang/Object;" ⟨"java/lang/Object", "getClass", "()Ljava/lang/Class;"⟩ ⟨"java/lang/Object", "getClass", "()Ljava/lang/Class;"⟩, Cond.instanceMethod ⟨"java/lang/Object", "getClass", "()Ljava/lang/Class;"⟩, Cond.native ⟨"java/lang/Object", "getClass", "()Ljava/lang/Class;"⟩, Cond.methodLink RJ7 300 yJ7_copyOf_6403c, Cond.static yJ7_copyOf_6403c, Cond.code yJ7_copyOf_6403c cJ7_copyOf_6403c 4 (some (.array (.object "java/lang/Object"))), Cond.classLink RJ7 110 "[Ljava/lang/Object;", Cond.classLink RJ7 2 "java/lang/Object", Cond.methodLink RJ7 304 Lib.Math.min.name]
def wsL_read_r7 : List Cond := [Cond.static Lib.Math.min.name, Cond.code Lib.Math.min.name Lib.Math.min.code 2 (some .int), Cond.methodLink RJ7 150 arraycopyName, Cond.native arraycopyName, Cond.static arraycopyName, Cond.initialized "java/lang/System", Cond.methodLink RX0 89 yX0_drop, Cond.instanceMethod yX0_drop, Cond.selects RX0 yX0_drop yX0_drop, Cond.code yX0_drop cX0_drop 2 none, Cond.methodLink RX0 74 yX4_open, Cond.instanceMethod yX4_open, Cond.selects RX4 yX4_open yX4_open, Cond.initialized RX4, Cond.code yX4_open cX4_open 4 none, Cond.fieldLink RX4 9 "CacheDirectory$Request" "line" "I", Cond.fieldLink RX4 15 "CacheDirectory$Request" "forWriting" "Z", Cond.fieldLink RX4 19 "CacheDirectory$Request" "toWrite" "I", Cond.fieldLink RX4 22 "CacheDirectory$Request" "answered" "Z", Cond.fieldLink RX4 25 "CacheDirectory$Request" "invalidationsDone" "I"]
def wsL_read : List Cond := .codeWith yL_read cL_read 5 (some .int) [(0, 10, 13, 13), (0, 10, 17, 17)] :: ((wsL_read_r1 ++ (wsL_read_r2 ++ (wsL_read_r3 ++ (wsL_read_r4 ++ (wsL_read_r5 ++ (wsL_read_r6 ++ wsL_read_r7)))))) ++ wsX00 ++ wsX50 ++ wsX40 ++ wsX20 ++ wsX30 ++ wsJx4a65c0 ++ (vx_atS RX5 214 "java/lang/IndexOutOfBoundsException" ["java/lang/RuntimeException", "java/lang/Exception"]).filter goodWord ++ (vx_atS RX5 53 "java/lang/IllegalStateException" ["java/lang/RuntimeException", "java/lang/Exception"]).filter goodWord)
def wsL_write_r1 : List Cond := [Cond.classLink RL 13 "java/lang/IndexOutOfBoundsException", Cond.classLink RL 15 "java/lang/IllegalArgumentException", Cond.classLink RL 17 "java/lang/IllegalStateException", Cond.methodLink RL 23 yX5_write, Cond.instanceMethod yX5_write, Cond.selects RX5 yX5_write yX5_write, Cond.initialized RX5, Cond.code yX5_write cX5_write 5 (some .boolean), Cond.classLink RX5 36 "java/lang/IllegalArgumentException", Cond.initialized "java/lang/IllegalArgumentException", Cond.fieldLink RX5 89 "CacheDirectory$Cache" "states" "[I", Cond.fieldLink RX5 73 "CacheDirectory$Cache" "hitCount" "I", Cond.methodLink RX5 32 yX5_cacheAt, Cond.instanceMethod yX5_cacheAt, Cond.selects RX5 yX5_cacheAt yX5_cacheAt, Cond.code yX5_cacheAt cX5_cacheAt 2 (some (.object "CacheDirectory$Cache")), Cond.classLink RX5 210 "java/lang/IndexOutOfBoundsException", Cond.initialized "java/lang/IndexOutOfBoundsException", Cond.fieldLink RX5 18 "CacheDirectory" "caches" "[LCacheDirectory$Cache;", Cond.methodLink RX5 61 yX5_checkLine, Cond.static yX5_checkLine, Cond.code yX5_checkLine cX5_checkLine 1 none, Cond.methodLink RX5 65 yX5_checkAccess, Cond.static yX5_checkAccess]
def wsL_write_r2 : List Cond := [Cond.code yX5_checkAccess cX5_checkAccess 2 none, Cond.classLink RX5 49 "java/lang/IllegalStateException", Cond.initialized "java/lang/IllegalStateException", Cond.fieldLink RX5 99 "CacheDirectory$Cache" "request" "LCacheDirectory$Request;", Cond.fieldLink RX5 103 "CacheDirectory$Request" "line" "I", Cond.fieldLink RX5 118 "CacheDirectory$Cache" "victimValues" "[I", Cond.fieldLink RX5 132 "CacheDirectory$Cache" "useOrder" "[I", Cond.methodLink RX5 225 yX0_needsWayFor, Cond.instanceMethod yX0_needsWayFor, Cond.selects RX0 yX0_needsWayFor yX0_needsWayFor, Cond.initialized RX0, Cond.code yX0_needsWayFor cX0_needsWayFor 2 (some .boolean), Cond.fieldLink RX0 31 "CacheDirectory$Cache" "lineCount" "I", Cond.fieldLink RX0 38 "CacheDirectory$Cache" "ways" "I", Cond.methodLink RX0 63 yX0_holds, Cond.instanceMethod yX0_holds, Cond.selects RX0 yX0_holds yX0_holds, Cond.code yX0_holds cX0_holds 2 (some .boolean), Cond.fieldLink RX0 18 "CacheDirectory$Cache" "states" "[I", Cond.methodLink RX5 110 yX0_lacksVictimRoomFor, Cond.instanceMethod yX0_lacksVictimRoomFor, Cond.selects RX0 yX0_lacksVictimRoomFor yX0_lacksVictimRoomFor, Cond.code yX0_lacksVictimRoomFor cX0_lacksVictimRoomFor 2 (some .boolean), Cond.fieldLink RX0 35 "CacheDirectory$Cache" "victimCount" "I"]
def wsL_write_r3 : List Cond := [Cond.fieldLink RX0 41 "CacheDirectory$Cache" "victimRoom" "I", Cond.methodLink RX5 92 yX0_store, Cond.instanceMethod yX0_store, Cond.selects RX0 yX0_store yX0_store, Cond.code yX0_store cX0_store 4 none, Cond.fieldLink RX0 22 "CacheDirectory$Cache" "values" "[I", Cond.methodLink RX0 136 yX0_markUsed, Cond.instanceMethod yX0_markUsed, Cond.selects RX0 yX0_markUsed yX0_markUsed, Cond.code yX0_markUsed cX0_markUsed 2 none, Cond.fieldLink RX0 28 "CacheDirectory$Cache" "useOrder" "[I", Cond.methodLink RX0 139 yX0_leaveUseOrder, Cond.instanceMethod yX0_leaveUseOrder, Cond.selects RX0 yX0_leaveUseOrder yX0_leaveUseOrder, Cond.code yX0_leaveUseOrder cX0_leaveUseOrder 4 none, Cond.methodLink RX5 83 yX0_startRequest, Cond.instanceMethod yX0_startRequest, Cond.selects RX0 yX0_startRequest yX0_startRequest, Cond.code yX0_startRequest cX0_startRequest 4 none, Cond.fieldLink RX0 50 "CacheDirectory$Cache" "missCount" "I", Cond.fieldLink RX0 12 "CacheDirectory$Cache" "request" "LCacheDirectory$Request;", Cond.fieldLink RX0 56 "CacheDirectory$Cache" "network" "LCacheDirectory$Network;", Cond.fieldLink RX0 53 "CacheDirectory$Cache" "number" "I", Cond.methodLink RX0 67 yX0_needsWayFor]
def wsL_write_r4 : List Cond := [Cond.methodLink RX0 70 yX0_moveOut, Cond.instanceMethod yX0_moveOut, Cond.selects RX0 yX0_moveOut yX0_moveOut, Cond.code yX0_moveOut cX0_moveOut 2 none, Cond.fieldLink RX0 25 "CacheDirectory$Cache" "victimValues" "[I", Cond.fieldLink RX0 84 "CacheDirectory$Message" "carried" "I", Cond.methodLink RX0 78 yX3_send, Cond.instanceMethod yX3_send, Cond.selects RX3 yX3_send yX3_send, Cond.initialized RX3, Cond.code yX3_send cX3_send 6 (some (.object "CacheDirectory$Message")), Cond.classLink RX3 16 RX2, Cond.instantiable RX2 7, Cond.initialized RX2, Cond.fieldLink RX3 10 "CacheDirectory$Network" "onTheWay" "Ljava/util/ArrayList;", Cond.methodLink RX3 18 yX2_init, Cond.instanceMethod yX2_init, Cond.code yX2_init cX2_init 5 none, Cond.methodLink RX2 3 objectInit, Cond.instanceMethod objectInit, Cond.code objectInit ⟨#[0xb1]⟩ 1 none, Cond.fieldLink RX2 9 "CacheDirectory$Message" "carried" "I", Cond.fieldLink RX2 15 "CacheDirectory$Message" "count" "I", Cond.fieldLink RX2 18 "CacheDirectory$Message" "requester" "I"]
def wsL_write_r5 : List Cond := [Cond.fieldLink RX2 21 "CacheDirectory$Message" "kind" "I", Cond.fieldLink RX2 24 "CacheDirectory$Message" "line" "I", Cond.fieldLink RX2 27 "CacheDirectory$Message" "sender" "I", Cond.fieldLink RX2 30 "CacheDirectory$Message" "receiver" "I", Cond.methodLink RX3 21 yJx4a65c_add_9ea2d, Cond.instanceMethod yJx4a65c_add_9ea2d, Cond.selects RJx4a65c yJx4a65c_add_9ea2d yJx4a65c_add_9ea2d, Cond.initialized RJx4a65c, Cond.code yJx4a65c_add_9ea2d cJx4a65c_add_9ea2d 2 (some .boolean), Cond.fieldLink RJx4a65c 63 "java/util/ArrayList" "modCount" "I", Cond.sameField "java/util/ArrayList" "java/util/AbstractList" "modCount" "I", Cond.fieldLink RJx4a65c 9 "java/util/ArrayList" "elementData" "[Ljava/lang/Object;", Cond.fieldLink RJx4a65c 48 "java/util/ArrayList" "size" "I", Cond.methodLink RJx4a65c 131 yJx4a65c_add_72be8, Cond.instanceMethod yJx4a65c_add_72be8, Cond.selects RJx4a65c yJx4a65c_add_72be8 yJx4a65c_add_72be8, Cond.code yJx4a65c_add_72be8 cJx4a65c_add_72be8 4 none, Cond.methodLink RJx4a65c 129 yJx4a65c_grow_d5877, Cond.instanceMethod yJx4a65c_grow_d5877, Cond.selects RJx4a65c yJx4a65c_grow_d5877 yJx4a65c_grow_d5877, Cond.code yJx4a65c_grow_d5877 cJx4a65c_grow_d5877 1 (some (.array (.object "java/lang/Object"))), Cond.methodLink RJx4a65c 69 yJx4a65c_grow_92f84, Cond.instanceMethod yJx4a65c_grow_92f84, Cond.selects RJx4a65c yJx4a65c_grow_92f84 yJx4a65c_grow_92f84]
def wsL_write_r6 : List Cond := [Cond.code yJx4a65c_grow_92f84 cJx4a65c_grow_92f84 4 (some (.array (.object "java/lang/Object"))), Cond.fieldLink RJx4a65c 39 "java/util/ArrayList" "DEFAULTCAPACITY_EMPTY_ELEMENTDATA" "[Ljava/lang/Object;", Cond.methodLink RJx4a65c 79 Lib.Math.max.name, Cond.static Lib.Math.max.name, Cond.initialized "java/lang/Math", Cond.code Lib.Math.max.name Lib.Math.max.code 2 (some .int), Cond.classLink RJx4a65c 7 "java/lang/Object", Cond.methodLink RJx4a65c 73 yJ8_newLength_cabcc, Cond.static yJ8_newLength_cabcc, Cond.initialized RJ8, Cond.code yJ8_newLength_cabcc cJ8_newLength_cabcc 4 (some .int), Cond.methodLink RJ8 194 Lib.Math.max.name, Cond.constant RJ8 200 (2147483639), Cond.methodLink RJ8 201 yJ8_hugeLength_7cf53, Cond.static yJ8_hugeLength_7cf53, Cond.code yJ8_hugeLength_7cf53 cJ8_hugeLength_7cf53 3 (some .int), Cond.methodLink RJx4a65c 66 yJ7_copyOf_1904c, Cond.static yJ7_copyOf_1904c, Cond.initialized RJ7, Cond.code yJ7_copyOf_1904c cJ7_copyOf_1904c 2 (some (.array (.object "java/lang/Object"))), Cond.methodLink RJ7 86 ⟨"java/lang/Object", "getClass", "()Ljava/lang/Class;"⟩, Cond.selects "[Ljava/lang/Object;" ⟨"java/lang/Object", "getClass", "()Ljava/lang/Class;"⟩ ⟨"java/lang/Object", "getClass", "()Ljava/lang/Class;"⟩, Cond.instanceMethod ⟨"java/lang/Object", "getClass", "()Ljava/lang/Class;"⟩, Cond.native ⟨"java/lang/Object", "getClass", "()Ljava/lang/Class;"⟩]
def wsL_write_r7 : List Cond := [Cond.methodLink RJ7 300 yJ7_copyOf_6403c, Cond.static yJ7_copyOf_6403c, Cond.code yJ7_copyOf_6403c cJ7_copyOf_6403c 4 (some (.array (.object "java/lang/Object"))), Cond.classLink RJ7 110 "[Ljava/lang/Object;", Cond.classLink RJ7 2 "java/lang/Object", Cond.methodLink RJ7 304 Lib.Math.min.name, Cond.static Lib.Math.min.name, Cond.code Lib.Math.min.name Lib.Math.min.code 2 (some .int), Cond.methodLink RJ7 150 arraycopyName, Cond.native arraycopyName, Cond.static arraycopyName, Cond.initialized "java/lang/System", Cond.methodLink RX0 89 yX0_drop, Cond.instanceMethod yX0_drop, Cond.selects RX0 yX0_drop yX0_drop, Cond.code yX0_drop cX0_drop 2 none, Cond.methodLink RX0 74 yX4_open, Cond.instanceMethod yX4_open, Cond.selects RX4 yX4_open yX4_open, Cond.initialized RX4, Cond.code yX4_open cX4_open 4 none, Cond.fieldLink RX4 9 "CacheDirectory$Request" "line" "I", Cond.fieldLink RX4 15 "CacheDirectory$Request" "forWriting" "Z", Cond.fieldLink RX4 19 "CacheDirectory$Request" "toWrite" "I"]
def wsL_write_r8 : List Cond := [Cond.fieldLink RX4 22 "CacheDirectory$Request" "answered" "Z", Cond.fieldLink RX4 25 "CacheDirectory$Request" "invalidationsDone" "I"]
def wsL_write : List Cond := .codeWith yL_write cL_write 6 (some .int) [(0, 19, 22, 13), (0, 19, 26, 15), (0, 19, 30, 17)] :: ((wsL_write_r1 ++ (wsL_write_r2 ++ (wsL_write_r3 ++ (wsL_write_r4 ++ (wsL_write_r5 ++ (wsL_write_r6 ++ (wsL_write_r7 ++ wsL_write_r8))))))) ++ wsX00 ++ wsX50 ++ wsX40 ++ wsX20 ++ wsX30 ++ wsJx4a65c0 ++ (vx_atS RX5 40 "java/lang/IllegalArgumentException" ["java/lang/RuntimeException", "java/lang/Exception"]).filter goodWord ++ (vx_atS RX5 214 "java/lang/IndexOutOfBoundsException" ["java/lang/RuntimeException", "java/lang/Exception"]).filter goodWord ++ (vx_atS RX5 53 "java/lang/IllegalStateException" ["java/lang/RuntimeException", "java/lang/Exception"]).filter goodWord)
def wsL_evict_r1 : List Cond := [Cond.classLink RL 13 "java/lang/IndexOutOfBoundsException", Cond.classLink RL 29 "java/util/NoSuchElementException", Cond.classLink RL 17 "java/lang/IllegalStateException", Cond.methodLink RL 26 yX5_evict, Cond.instanceMethod yX5_evict, Cond.selects RX5 yX5_evict yX5_evict, Cond.initialized RX5, Cond.code yX5_evict cX5_evict 5 (some .int), Cond.classLink RX5 49 "java/lang/IllegalStateException", Cond.initialized "java/lang/IllegalStateException", Cond.fieldLink RX5 99 "CacheDirectory$Cache" "request" "LCacheDirectory$Request;", Cond.fieldLink RX5 103 "CacheDirectory$Request" "line" "I", Cond.fieldLink RX5 89 "CacheDirectory$Cache" "states" "[I", Cond.methodLink RX5 32 yX5_cacheAt, Cond.instanceMethod yX5_cacheAt, Cond.selects RX5 yX5_cacheAt yX5_cacheAt, Cond.code yX5_cacheAt cX5_cacheAt 2 (some (.object "CacheDirectory$Cache")), Cond.classLink RX5 210 "java/lang/IndexOutOfBoundsException", Cond.initialized "java/lang/IndexOutOfBoundsException", Cond.fieldLink RX5 18 "CacheDirectory" "caches" "[LCacheDirectory$Cache;", Cond.methodLink RX5 61 yX5_checkLine, Cond.static yX5_checkLine, Cond.code yX5_checkLine cX5_checkLine 1 none, Cond.methodLink RX5 96 yX5_checkHeld]
def wsL_evict_r2 : List Cond := [Cond.static yX5_checkHeld, Cond.code yX5_checkHeld cX5_checkHeld 2 none, Cond.classLink RX5 127 "java/util/NoSuchElementException", Cond.initialized "java/util/NoSuchElementException", Cond.methodLink RX5 69 yX0_holds, Cond.instanceMethod yX0_holds, Cond.selects RX0 yX0_holds yX0_holds, Cond.initialized RX0, Cond.code yX0_holds cX0_holds 2 (some .boolean), Cond.fieldLink RX0 18 "CacheDirectory$Cache" "states" "[I", Cond.methodLink RX5 110 yX0_lacksVictimRoomFor, Cond.instanceMethod yX0_lacksVictimRoomFor, Cond.selects RX0 yX0_lacksVictimRoomFor yX0_lacksVictimRoomFor, Cond.code yX0_lacksVictimRoomFor cX0_lacksVictimRoomFor 2 (some .boolean), Cond.fieldLink RX0 35 "CacheDirectory$Cache" "victimCount" "I", Cond.fieldLink RX0 41 "CacheDirectory$Cache" "victimRoom" "I", Cond.methodLink RX5 115 yX0_moveOut, Cond.instanceMethod yX0_moveOut, Cond.selects RX0 yX0_moveOut yX0_moveOut, Cond.code yX0_moveOut cX0_moveOut 2 none, Cond.fieldLink RX0 25 "CacheDirectory$Cache" "victimValues" "[I", Cond.fieldLink RX0 22 "CacheDirectory$Cache" "values" "[I", Cond.fieldLink RX0 56 "CacheDirectory$Cache" "network" "LCacheDirectory$Network;", Cond.fieldLink RX0 53 "CacheDirectory$Cache" "number" "I"]
def wsL_evict_r3 : List Cond := [Cond.fieldLink RX0 84 "CacheDirectory$Message" "carried" "I", Cond.methodLink RX0 78 yX3_send, Cond.instanceMethod yX3_send, Cond.selects RX3 yX3_send yX3_send, Cond.initialized RX3, Cond.code yX3_send cX3_send 6 (some (.object "CacheDirectory$Message")), Cond.classLink RX3 16 RX2, Cond.instantiable RX2 7, Cond.initialized RX2, Cond.fieldLink RX3 10 "CacheDirectory$Network" "onTheWay" "Ljava/util/ArrayList;", Cond.methodLink RX3 18 yX2_init, Cond.instanceMethod yX2_init, Cond.code yX2_init cX2_init 5 none, Cond.methodLink RX2 3 objectInit, Cond.instanceMethod objectInit, Cond.code objectInit ⟨#[0xb1]⟩ 1 none, Cond.fieldLink RX2 9 "CacheDirectory$Message" "carried" "I", Cond.fieldLink RX2 15 "CacheDirectory$Message" "count" "I", Cond.fieldLink RX2 18 "CacheDirectory$Message" "requester" "I", Cond.fieldLink RX2 21 "CacheDirectory$Message" "kind" "I", Cond.fieldLink RX2 24 "CacheDirectory$Message" "line" "I", Cond.fieldLink RX2 27 "CacheDirectory$Message" "sender" "I", Cond.fieldLink RX2 30 "CacheDirectory$Message" "receiver" "I", Cond.methodLink RX3 21 yJx4a65c_add_9ea2d]
def wsL_evict_r4 : List Cond := [Cond.instanceMethod yJx4a65c_add_9ea2d, Cond.selects RJx4a65c yJx4a65c_add_9ea2d yJx4a65c_add_9ea2d, Cond.initialized RJx4a65c, Cond.code yJx4a65c_add_9ea2d cJx4a65c_add_9ea2d 2 (some .boolean), Cond.fieldLink RJx4a65c 63 "java/util/ArrayList" "modCount" "I", Cond.sameField "java/util/ArrayList" "java/util/AbstractList" "modCount" "I", Cond.fieldLink RJx4a65c 9 "java/util/ArrayList" "elementData" "[Ljava/lang/Object;", Cond.fieldLink RJx4a65c 48 "java/util/ArrayList" "size" "I", Cond.methodLink RJx4a65c 131 yJx4a65c_add_72be8, Cond.instanceMethod yJx4a65c_add_72be8, Cond.selects RJx4a65c yJx4a65c_add_72be8 yJx4a65c_add_72be8, Cond.code yJx4a65c_add_72be8 cJx4a65c_add_72be8 4 none, Cond.methodLink RJx4a65c 129 yJx4a65c_grow_d5877, Cond.instanceMethod yJx4a65c_grow_d5877, Cond.selects RJx4a65c yJx4a65c_grow_d5877 yJx4a65c_grow_d5877, Cond.code yJx4a65c_grow_d5877 cJx4a65c_grow_d5877 1 (some (.array (.object "java/lang/Object"))), Cond.methodLink RJx4a65c 69 yJx4a65c_grow_92f84, Cond.instanceMethod yJx4a65c_grow_92f84, Cond.selects RJx4a65c yJx4a65c_grow_92f84 yJx4a65c_grow_92f84, Cond.code yJx4a65c_grow_92f84 cJx4a65c_grow_92f84 4 (some (.array (.object "java/lang/Object"))), Cond.fieldLink RJx4a65c 39 "java/util/ArrayList" "DEFAULTCAPACITY_EMPTY_ELEMENTDATA" "[Ljava/lang/Object;", Cond.methodLink RJx4a65c 79 Lib.Math.max.name, Cond.static Lib.Math.max.name, Cond.initialized "java/lang/Math"]
def wsL_evict_r5 : List Cond := [Cond.code Lib.Math.max.name Lib.Math.max.code 2 (some .int), Cond.classLink RJx4a65c 7 "java/lang/Object", Cond.methodLink RJx4a65c 73 yJ8_newLength_cabcc, Cond.static yJ8_newLength_cabcc, Cond.initialized RJ8, Cond.code yJ8_newLength_cabcc cJ8_newLength_cabcc 4 (some .int), Cond.methodLink RJ8 194 Lib.Math.max.name, Cond.constant RJ8 200 (2147483639), Cond.methodLink RJ8 201 yJ8_hugeLength_7cf53, Cond.static yJ8_hugeLength_7cf53, Cond.code yJ8_hugeLength_7cf53 cJ8_hugeLength_7cf53 3 (some .int), Cond.methodLink RJx4a65c 66 yJ7_copyOf_1904c, Cond.static yJ7_copyOf_1904c, Cond.initialized RJ7, Cond.code yJ7_copyOf_1904c cJ7_copyOf_1904c 2 (some (.array (.object "java/lang/Object"))), Cond.methodLink RJ7 86 ⟨"java/lang/Object", "getClass", "()Ljava/lang/Class;"⟩, Cond.selects "[Ljava/lang/Object;" ⟨"java/lang/Object", "getClass", "()Ljava/lang/Class;"⟩ ⟨"java/lang/Object", "getClass", "()Ljava/lang/Class;"⟩, Cond.instanceMethod ⟨"java/lang/Object", "getClass", "()Ljava/lang/Class;"⟩, Cond.native ⟨"java/lang/Object", "getClass", "()Ljava/lang/Class;"⟩, Cond.methodLink RJ7 300 yJ7_copyOf_6403c, Cond.static yJ7_copyOf_6403c, Cond.code yJ7_copyOf_6403c cJ7_copyOf_6403c 4 (some (.array (.object "java/lang/Object"))), Cond.classLink RJ7 110 "[Ljava/lang/Object;", Cond.classLink RJ7 2 "java/lang/Object"]
def wsL_evict_r6 : List Cond := [Cond.methodLink RJ7 304 Lib.Math.min.name, Cond.static Lib.Math.min.name, Cond.code Lib.Math.min.name Lib.Math.min.code 2 (some .int), Cond.methodLink RJ7 150 arraycopyName, Cond.native arraycopyName, Cond.static arraycopyName, Cond.initialized "java/lang/System", Cond.methodLink RX0 89 yX0_drop, Cond.instanceMethod yX0_drop, Cond.selects RX0 yX0_drop yX0_drop, Cond.code yX0_drop cX0_drop 2 none, Cond.methodLink RX0 139 yX0_leaveUseOrder, Cond.instanceMethod yX0_leaveUseOrder, Cond.selects RX0 yX0_leaveUseOrder yX0_leaveUseOrder, Cond.code yX0_leaveUseOrder cX0_leaveUseOrder 4 none, Cond.fieldLink RX0 31 "CacheDirectory$Cache" "lineCount" "I", Cond.fieldLink RX0 28 "CacheDirectory$Cache" "useOrder" "[I"]
def wsL_evict : List Cond := .codeWith yL_evict cL_evict 5 (some .int) [(0, 10, 13, 13), (0, 10, 17, 29), (0, 10, 21, 17)] :: ((wsL_evict_r1 ++ (wsL_evict_r2 ++ (wsL_evict_r3 ++ (wsL_evict_r4 ++ (wsL_evict_r5 ++ wsL_evict_r6))))) ++ wsX00 ++ wsX40 ++ wsX50 ++ wsX20 ++ wsX30 ++ wsJx4a65c0 ++ (vx_atS RX5 53 "java/lang/IllegalStateException" ["java/lang/RuntimeException", "java/lang/Exception"]).filter goodWord ++ (vx_atS RX5 214 "java/lang/IndexOutOfBoundsException" ["java/lang/RuntimeException", "java/lang/Exception"]).filter goodWord ++ (vx_atS RX5 131 "java/util/NoSuchElementException" ["java/lang/RuntimeException", "java/lang/Exception"]).filter goodWord)
def wsL_state : List Cond := .codeWith yL_state cL_state 5 (some .int) [(0, 10, 13, 13)] :: ([.classLink RL 13 "java/lang/IndexOutOfBoundsException", .methodLink RL 31 yX5_state, .instanceMethod yX5_state, .selects RX5 yX5_state yX5_state, .initialized RX5, .code yX5_state cX5_state 4 (some .int), .fieldLink RX5 89 "CacheDirectory$Cache" "states" "[I", .methodLink RX5 32 yX5_cacheAt, .instanceMethod yX5_cacheAt, .selects RX5 yX5_cacheAt yX5_cacheAt, .code yX5_cacheAt cX5_cacheAt 2 (some (.object "CacheDirectory$Cache")), .classLink RX5 210 "java/lang/IndexOutOfBoundsException", .initialized "java/lang/IndexOutOfBoundsException", .fieldLink RX5 18 "CacheDirectory" "caches" "[LCacheDirectory$Cache;", .methodLink RX5 61 yX5_checkLine, .static yX5_checkLine, .code yX5_checkLine cX5_checkLine 1 none] ++ wsX00 ++ wsX50 ++ (vx_atS RX5 214 "java/lang/IndexOutOfBoundsException" ["java/lang/RuntimeException", "java/lang/Exception"]).filter goodWord)
def wsL_value_r1 : List Cond := [Cond.classLink RL 13 "java/lang/IndexOutOfBoundsException", Cond.classLink RL 29 "java/util/NoSuchElementException", Cond.methodLink RL 34 yX5_value, Cond.instanceMethod yX5_value, Cond.selects RX5 yX5_value yX5_value, Cond.initialized RX5, Cond.code yX5_value cX5_value 4 (some .int), Cond.fieldLink RX5 79 "CacheDirectory$Cache" "values" "[I", Cond.methodLink RX5 32 yX5_cacheAt, Cond.instanceMethod yX5_cacheAt, Cond.selects RX5 yX5_cacheAt yX5_cacheAt, Cond.code yX5_cacheAt cX5_cacheAt 2 (some (.object "CacheDirectory$Cache")), Cond.classLink RX5 210 "java/lang/IndexOutOfBoundsException", Cond.initialized "java/lang/IndexOutOfBoundsException", Cond.fieldLink RX5 18 "CacheDirectory" "caches" "[LCacheDirectory$Cache;", Cond.methodLink RX5 61 yX5_checkLine, Cond.static yX5_checkLine, Cond.code yX5_checkLine cX5_checkLine 1 none, Cond.methodLink RX5 96 yX5_checkHeld, Cond.static yX5_checkHeld, Cond.code yX5_checkHeld cX5_checkHeld 2 none, Cond.classLink RX5 127 "java/util/NoSuchElementException", Cond.initialized "java/util/NoSuchElementException", Cond.methodLink RX5 69 yX0_holds]
def wsL_value_r2 : List Cond := [Cond.instanceMethod yX0_holds, Cond.selects RX0 yX0_holds yX0_holds, Cond.initialized RX0, Cond.code yX0_holds cX0_holds 2 (some .boolean), Cond.fieldLink RX0 18 "CacheDirectory$Cache" "states" "[I"]
def wsL_value : List Cond := .codeWith yL_value cL_value 5 (some .int) [(0, 10, 13, 13), (0, 10, 17, 29)] :: ((wsL_value_r1 ++ wsL_value_r2) ++ wsX00 ++ wsX50 ++ (vx_atS RX5 214 "java/lang/IndexOutOfBoundsException" ["java/lang/RuntimeException", "java/lang/Exception"]).filter goodWord ++ (vx_atS RX5 131 "java/util/NoSuchElementException" ["java/lang/RuntimeException", "java/lang/Exception"]).filter goodWord)
def wsL_victimValue : List Cond := .codeWith yL_victimValue cL_victimValue 5 (some .int) [(0, 10, 13, 13)] :: ([.classLink RL 13 "java/lang/IndexOutOfBoundsException", .methodLink RL 37 yX5_victimValue, .instanceMethod yX5_victimValue, .selects RX5 yX5_victimValue yX5_victimValue, .initialized RX5, .code yX5_victimValue cX5_victimValue 4 (some .int), .fieldLink RX5 118 "CacheDirectory$Cache" "victimValues" "[I", .methodLink RX5 32 yX5_cacheAt, .instanceMethod yX5_cacheAt, .selects RX5 yX5_cacheAt yX5_cacheAt, .code yX5_cacheAt cX5_cacheAt 2 (some (.object "CacheDirectory$Cache")), .classLink RX5 210 "java/lang/IndexOutOfBoundsException", .initialized "java/lang/IndexOutOfBoundsException", .fieldLink RX5 18 "CacheDirectory" "caches" "[LCacheDirectory$Cache;", .methodLink RX5 61 yX5_checkLine, .static yX5_checkLine, .code yX5_checkLine cX5_checkLine 1 none] ++ wsX00 ++ wsX50 ++ (vx_atS RX5 214 "java/lang/IndexOutOfBoundsException" ["java/lang/RuntimeException", "java/lang/Exception"]).filter goodWord)
def wsL_openLine : List Cond := .codeWith yL_openLine cL_openLine 4 (some .int) [(0, 9, 12, 13)] :: ([.classLink RL 13 "java/lang/IndexOutOfBoundsException", .methodLink RL 40 yX5_openLine, .instanceMethod yX5_openLine, .selects RX5 yX5_openLine yX5_openLine, .initialized RX5, .code yX5_openLine cX5_openLine 2 (some .int), .fieldLink RX5 99 "CacheDirectory$Cache" "request" "LCacheDirectory$Request;", .fieldLink RX5 103 "CacheDirectory$Request" "line" "I", .methodLink RX5 32 yX5_cacheAt, .instanceMethod yX5_cacheAt, .selects RX5 yX5_cacheAt yX5_cacheAt, .code yX5_cacheAt cX5_cacheAt 2 (some (.object "CacheDirectory$Cache")), .classLink RX5 210 "java/lang/IndexOutOfBoundsException", .initialized "java/lang/IndexOutOfBoundsException", .fieldLink RX5 18 "CacheDirectory" "caches" "[LCacheDirectory$Cache;"] ++ wsX00 ++ wsX40 ++ wsX50 ++ (vx_atS RX5 214 "java/lang/IndexOutOfBoundsException" ["java/lang/RuntimeException", "java/lang/Exception"]).filter goodWord)
def wsL_latestRead : List Cond := .codeWith yL_latestRead cL_latestRead 4 (some .int) [(0, 9, 12, 13)] :: ([.classLink RL 13 "java/lang/IndexOutOfBoundsException", .methodLink RL 44 yX5_latestRead, .instanceMethod yX5_latestRead, .selects RX5 yX5_latestRead yX5_latestRead, .initialized RX5, .code yX5_latestRead cX5_latestRead 2 (some .int), .fieldLink RX5 121 "CacheDirectory$Cache" "latestResult" "I", .methodLink RX5 32 yX5_cacheAt, .instanceMethod yX5_cacheAt, .selects RX5 yX5_cacheAt yX5_cacheAt, .code yX5_cacheAt cX5_cacheAt 2 (some (.object "CacheDirectory$Cache")), .classLink RX5 210 "java/lang/IndexOutOfBoundsException", .initialized "java/lang/IndexOutOfBoundsException", .fieldLink RX5 18 "CacheDirectory" "caches" "[LCacheDirectory$Cache;"] ++ wsX00 ++ wsX50 ++ (vx_atS RX5 214 "java/lang/IndexOutOfBoundsException" ["java/lang/RuntimeException", "java/lang/Exception"]).filter goodWord)
def wsL_lineAt : List Cond := .codeWith yL_lineAt cL_lineAt 5 (some .int) [(0, 10, 13, 13), (0, 10, 17, 29)] :: ([.classLink RL 13 "java/lang/IndexOutOfBoundsException", .classLink RL 29 "java/util/NoSuchElementException", .methodLink RL 47 yX5_lineAt, .instanceMethod yX5_lineAt, .selects RX5 yX5_lineAt yX5_lineAt, .initialized RX5, .code yX5_lineAt cX5_lineAt 4 (some .int), .classLink RX5 127 "java/util/NoSuchElementException", .initialized "java/util/NoSuchElementException", .fieldLink RX5 124 "CacheDirectory$Cache" "lineCount" "I", .fieldLink RX5 132 "CacheDirectory$Cache" "useOrder" "[I", .methodLink RX5 32 yX5_cacheAt, .instanceMethod yX5_cacheAt, .selects RX5 yX5_cacheAt yX5_cacheAt, .code yX5_cacheAt cX5_cacheAt 2 (some (.object "CacheDirectory$Cache")), .classLink RX5 210 "java/lang/IndexOutOfBoundsException", .initialized "java/lang/IndexOutOfBoundsException", .fieldLink RX5 18 "CacheDirectory" "caches" "[LCacheDirectory$Cache;"] ++ wsX00 ++ wsX50 ++ (vx_atS RX5 131 "java/util/NoSuchElementException" ["java/lang/RuntimeException", "java/lang/Exception"]).filter goodWord ++ (vx_atS RX5 214 "java/lang/IndexOutOfBoundsException" ["java/lang/RuntimeException", "java/lang/Exception"]).filter goodWord)
def wsL_owner : List Cond := .codeWith yL_owner cL_owner 4 (some .int) [(0, 9, 12, 13)] :: ([.classLink RL 13 "java/lang/IndexOutOfBoundsException", .methodLink RL 50 yX5_owner, .instanceMethod yX5_owner, .selects RX5 yX5_owner yX5_owner, .initialized RX5, .code yX5_owner cX5_owner 2 (some .int), .fieldLink RX5 139 "CacheDirectory$Home" "ownerCache" "I", .methodLink RX5 135 yX5_homeOf, .instanceMethod yX5_homeOf, .selects RX5 yX5_homeOf yX5_homeOf, .code yX5_homeOf cX5_homeOf 2 (some (.object "CacheDirectory$Home")), .fieldLink RX5 27 "CacheDirectory" "homes" "[LCacheDirectory$Home;", .methodLink RX5 61 yX5_checkLine, .static yX5_checkLine, .code yX5_checkLine cX5_checkLine 1 none, .classLink RX5 210 "java/lang/IndexOutOfBoundsException", .initialized "java/lang/IndexOutOfBoundsException"] ++ wsX10 ++ wsX50 ++ (vx_atS RX5 214 "java/lang/IndexOutOfBoundsException" ["java/lang/RuntimeException", "java/lang/Exception"]).filter goodWord)
def wsL_sharers : List Cond := .codeWith yL_sharers cL_sharers 4 (some .int) [(0, 9, 12, 13)] :: ([.classLink RL 13 "java/lang/IndexOutOfBoundsException", .methodLink RL 53 yX5_sharers, .instanceMethod yX5_sharers, .selects RX5 yX5_sharers yX5_sharers, .initialized RX5, .code yX5_sharers cX5_sharers 2 (some .int), .fieldLink RX5 142 "CacheDirectory$Home" "sharerSet" "I", .methodLink RX5 135 yX5_homeOf, .instanceMethod yX5_homeOf, .selects RX5 yX5_homeOf yX5_homeOf, .code yX5_homeOf cX5_homeOf 2 (some (.object "CacheDirectory$Home")), .fieldLink RX5 27 "CacheDirectory" "homes" "[LCacheDirectory$Home;", .methodLink RX5 61 yX5_checkLine, .static yX5_checkLine, .code yX5_checkLine cX5_checkLine 1 none, .classLink RX5 210 "java/lang/IndexOutOfBoundsException", .initialized "java/lang/IndexOutOfBoundsException"] ++ wsX10 ++ wsX50 ++ (vx_atS RX5 214 "java/lang/IndexOutOfBoundsException" ["java/lang/RuntimeException", "java/lang/Exception"]).filter goodWord)
def wsL_isBusy : List Cond := .codeWith yL_isBusy cL_isBusy 4 (some .int) [(0, 16, 19, 13)] :: ([.classLink RL 13 "java/lang/IndexOutOfBoundsException", .methodLink RL 56 yX5_isBusy, .instanceMethod yX5_isBusy, .selects RX5 yX5_isBusy yX5_isBusy, .initialized RX5, .code yX5_isBusy cX5_isBusy 2 (some .boolean), .fieldLink RX5 145 "CacheDirectory$Home" "busy" "Z", .methodLink RX5 135 yX5_homeOf, .instanceMethod yX5_homeOf, .selects RX5 yX5_homeOf yX5_homeOf, .code yX5_homeOf cX5_homeOf 2 (some (.object "CacheDirectory$Home")), .fieldLink RX5 27 "CacheDirectory" "homes" "[LCacheDirectory$Home;", .methodLink RX5 61 yX5_checkLine, .static yX5_checkLine, .code yX5_checkLine cX5_checkLine 1 none, .classLink RX5 210 "java/lang/IndexOutOfBoundsException", .initialized "java/lang/IndexOutOfBoundsException"] ++ wsX10 ++ wsX50 ++ (vx_atS RX5 214 "java/lang/IndexOutOfBoundsException" ["java/lang/RuntimeException", "java/lang/Exception"]).filter goodWord)
def wsL_queued : List Cond := .codeWith yL_queued cL_queued 4 (some .int) [(0, 9, 12, 13)] :: ([.classLink RL 13 "java/lang/IndexOutOfBoundsException", .methodLink RL 60 yX5_queued, .instanceMethod yX5_queued, .selects RX5 yX5_queued yX5_queued, .initialized RX5, .code yX5_queued cX5_queued 2 (some .int), .fieldLink RX5 149 "CacheDirectory$Home" "waiting" "Ljava/util/ArrayList;", .methodLink RX5 135 yX5_homeOf, .instanceMethod yX5_homeOf, .selects RX5 yX5_homeOf yX5_homeOf, .code yX5_homeOf cX5_homeOf 2 (some (.object "CacheDirectory$Home")), .fieldLink RX5 27 "CacheDirectory" "homes" "[LCacheDirectory$Home;", .methodLink RX5 61 yX5_checkLine, .static yX5_checkLine, .code yX5_checkLine cX5_checkLine 1 none, .classLink RX5 210 "java/lang/IndexOutOfBoundsException", .initialized "java/lang/IndexOutOfBoundsException", .methodLink RX5 153 yJx4a65c_size_8abf5, .instanceMethod yJx4a65c_size_8abf5, .selects RJx4a65c yJx4a65c_size_8abf5 yJx4a65c_size_8abf5, .initialized RJx4a65c, .code yJx4a65c_size_8abf5 cJx4a65c_size_8abf5 1 (some .int), .fieldLink RJx4a65c 48 "java/util/ArrayList" "size" "I"] ++ wsX10 ++ wsX50 ++ wsJx4a65c0 ++ (vx_atS RX5 214 "java/lang/IndexOutOfBoundsException" ["java/lang/RuntimeException", "java/lang/Exception"]).filter goodWord)
def wsL_memory : List Cond := .codeWith yL_memory cL_memory 4 (some .int) [(0, 9, 12, 13)] :: ([.classLink RL 13 "java/lang/IndexOutOfBoundsException", .methodLink RL 63 yX5_memory, .instanceMethod yX5_memory, .selects RX5 yX5_memory yX5_memory, .initialized RX5, .code yX5_memory cX5_memory 2 (some .int), .fieldLink RX5 159 "CacheDirectory$Home" "memoryValue" "I", .methodLink RX5 135 yX5_homeOf, .instanceMethod yX5_homeOf, .selects RX5 yX5_homeOf yX5_homeOf, .code yX5_homeOf cX5_homeOf 2 (some (.object "CacheDirectory$Home")), .fieldLink RX5 27 "CacheDirectory" "homes" "[LCacheDirectory$Home;", .methodLink RX5 61 yX5_checkLine, .static yX5_checkLine, .code yX5_checkLine cX5_checkLine 1 none, .classLink RX5 210 "java/lang/IndexOutOfBoundsException", .initialized "java/lang/IndexOutOfBoundsException"] ++ wsX10 ++ wsX50 ++ (vx_atS RX5 214 "java/lang/IndexOutOfBoundsException" ["java/lang/RuntimeException", "java/lang/Exception"]).filter goodWord)
def wsL_messageKind_r1 : List Cond := [Cond.classLink RL 13 "java/lang/IndexOutOfBoundsException", Cond.methodLink RL 66 yX5_messageKind, Cond.instanceMethod yX5_messageKind, Cond.selects RX5 yX5_messageKind yX5_messageKind, Cond.initialized RX5, Cond.code yX5_messageKind cX5_messageKind 2 (some .int), Cond.fieldLink RX5 169 "CacheDirectory$Message" "kind" "I", Cond.methodLink RX5 165 yX5_messageAt, Cond.instanceMethod yX5_messageAt, Cond.selects RX5 yX5_messageAt yX5_messageAt, Cond.code yX5_messageAt cX5_messageAt 2 (some (.object "CacheDirectory$Message")), Cond.classLink RX5 210 "java/lang/IndexOutOfBoundsException", Cond.initialized "java/lang/IndexOutOfBoundsException", Cond.fieldLink RX5 10 "CacheDirectory" "network" "LCacheDirectory$Network;", Cond.fieldLink RX5 162 "CacheDirectory$Network" "onTheWay" "Ljava/util/ArrayList;", Cond.classLink RX5 170 "CacheDirectory$Message", Cond.methodLink RX5 153 yJx4a65c_size_8abf5, Cond.instanceMethod yJx4a65c_size_8abf5, Cond.selects RJx4a65c yJx4a65c_size_8abf5 yJx4a65c_size_8abf5, Cond.initialized RJx4a65c, Cond.code yJx4a65c_size_8abf5 cJx4a65c_size_8abf5 1 (some .int), Cond.fieldLink RJx4a65c 48 "java/util/ArrayList" "size" "I", Cond.methodLink RX5 206 yJx4a65c_get_915e3, Cond.instanceMethod yJx4a65c_get_915e3]
def wsL_messageKind_r2 : List Cond := [Cond.selects RJx4a65c yJx4a65c_get_915e3 yJx4a65c_get_915e3, Cond.code yJx4a65c_get_915e3 cJx4a65c_get_915e3 2 (some (.object "java/lang/Object")), Cond.methodLink RJx4a65c 118 yJ15_checkIndex_7cf53, Cond.static yJ15_checkIndex_7cf53, Cond.initialized RJ15, Cond.code yJ15_checkIndex_7cf53 cJ15_checkIndex_7cf53 2 (some .int), Cond.methodLink RJ15 105 yJ3_checkIndex_8e157, Cond.static yJ3_checkIndex_8e157, Cond.initialized RJ3, Cond.code yJ3_checkIndex_8e157 cJ3_checkIndex_8e157 3 (some .int), Cond.methodLink RJx4a65c 123 yJx4a65c_elementData_915e3, Cond.instanceMethod yJx4a65c_elementData_915e3, Cond.selects RJx4a65c yJx4a65c_elementData_915e3 yJx4a65c_elementData_915e3, Cond.code yJx4a65c_elementData_915e3 cJx4a65c_elementData_915e3 2 (some (.object "java/lang/Object")), Cond.fieldLink RJx4a65c 9 "java/util/ArrayList" "elementData" "[Ljava/lang/Object;"]
def wsL_messageKind : List Cond := .codeWith yL_messageKind cL_messageKind 4 (some .int) [(0, 9, 12, 13)] :: ((wsL_messageKind_r1 ++ wsL_messageKind_r2) ++ wsX20 ++ wsX50 ++ wsX30 ++ wsJx4a65c0 ++ (vx_atS RX5 214 "java/lang/IndexOutOfBoundsException" ["java/lang/RuntimeException", "java/lang/Exception"]).filter goodWord)
def wsL_messageLine_r1 : List Cond := [Cond.classLink RL 13 "java/lang/IndexOutOfBoundsException", Cond.methodLink RL 69 yX5_messageLine, Cond.instanceMethod yX5_messageLine, Cond.selects RX5 yX5_messageLine yX5_messageLine, Cond.initialized RX5, Cond.code yX5_messageLine cX5_messageLine 2 (some .int), Cond.fieldLink RX5 174 "CacheDirectory$Message" "line" "I", Cond.methodLink RX5 165 yX5_messageAt, Cond.instanceMethod yX5_messageAt, Cond.selects RX5 yX5_messageAt yX5_messageAt, Cond.code yX5_messageAt cX5_messageAt 2 (some (.object "CacheDirectory$Message")), Cond.classLink RX5 210 "java/lang/IndexOutOfBoundsException", Cond.initialized "java/lang/IndexOutOfBoundsException", Cond.fieldLink RX5 10 "CacheDirectory" "network" "LCacheDirectory$Network;", Cond.fieldLink RX5 162 "CacheDirectory$Network" "onTheWay" "Ljava/util/ArrayList;", Cond.classLink RX5 170 "CacheDirectory$Message", Cond.methodLink RX5 153 yJx4a65c_size_8abf5, Cond.instanceMethod yJx4a65c_size_8abf5, Cond.selects RJx4a65c yJx4a65c_size_8abf5 yJx4a65c_size_8abf5, Cond.initialized RJx4a65c, Cond.code yJx4a65c_size_8abf5 cJx4a65c_size_8abf5 1 (some .int), Cond.fieldLink RJx4a65c 48 "java/util/ArrayList" "size" "I", Cond.methodLink RX5 206 yJx4a65c_get_915e3, Cond.instanceMethod yJx4a65c_get_915e3]
def wsL_messageLine_r2 : List Cond := [Cond.selects RJx4a65c yJx4a65c_get_915e3 yJx4a65c_get_915e3, Cond.code yJx4a65c_get_915e3 cJx4a65c_get_915e3 2 (some (.object "java/lang/Object")), Cond.methodLink RJx4a65c 118 yJ15_checkIndex_7cf53, Cond.static yJ15_checkIndex_7cf53, Cond.initialized RJ15, Cond.code yJ15_checkIndex_7cf53 cJ15_checkIndex_7cf53 2 (some .int), Cond.methodLink RJ15 105 yJ3_checkIndex_8e157, Cond.static yJ3_checkIndex_8e157, Cond.initialized RJ3, Cond.code yJ3_checkIndex_8e157 cJ3_checkIndex_8e157 3 (some .int), Cond.methodLink RJx4a65c 123 yJx4a65c_elementData_915e3, Cond.instanceMethod yJx4a65c_elementData_915e3, Cond.selects RJx4a65c yJx4a65c_elementData_915e3 yJx4a65c_elementData_915e3, Cond.code yJx4a65c_elementData_915e3 cJx4a65c_elementData_915e3 2 (some (.object "java/lang/Object")), Cond.fieldLink RJx4a65c 9 "java/util/ArrayList" "elementData" "[Ljava/lang/Object;"]
def wsL_messageLine : List Cond := .codeWith yL_messageLine cL_messageLine 4 (some .int) [(0, 9, 12, 13)] :: ((wsL_messageLine_r1 ++ wsL_messageLine_r2) ++ wsX20 ++ wsX50 ++ wsX30 ++ wsJx4a65c0 ++ (vx_atS RX5 214 "java/lang/IndexOutOfBoundsException" ["java/lang/RuntimeException", "java/lang/Exception"]).filter goodWord)
def wsL_messageFrom_r1 : List Cond := [Cond.classLink RL 13 "java/lang/IndexOutOfBoundsException", Cond.methodLink RL 72 yX5_messageFrom, Cond.instanceMethod yX5_messageFrom, Cond.selects RX5 yX5_messageFrom yX5_messageFrom, Cond.initialized RX5, Cond.code yX5_messageFrom cX5_messageFrom 2 (some .int), Cond.fieldLink RX5 175 "CacheDirectory$Message" "sender" "I", Cond.methodLink RX5 165 yX5_messageAt, Cond.instanceMethod yX5_messageAt, Cond.selects RX5 yX5_messageAt yX5_messageAt, Cond.code yX5_messageAt cX5_messageAt 2 (some (.object "CacheDirectory$Message")), Cond.classLink RX5 210 "java/lang/IndexOutOfBoundsException", Cond.initialized "java/lang/IndexOutOfBoundsException", Cond.fieldLink RX5 10 "CacheDirectory" "network" "LCacheDirectory$Network;", Cond.fieldLink RX5 162 "CacheDirectory$Network" "onTheWay" "Ljava/util/ArrayList;", Cond.classLink RX5 170 "CacheDirectory$Message", Cond.methodLink RX5 153 yJx4a65c_size_8abf5, Cond.instanceMethod yJx4a65c_size_8abf5, Cond.selects RJx4a65c yJx4a65c_size_8abf5 yJx4a65c_size_8abf5, Cond.initialized RJx4a65c, Cond.code yJx4a65c_size_8abf5 cJx4a65c_size_8abf5 1 (some .int), Cond.fieldLink RJx4a65c 48 "java/util/ArrayList" "size" "I", Cond.methodLink RX5 206 yJx4a65c_get_915e3, Cond.instanceMethod yJx4a65c_get_915e3]
def wsL_messageFrom_r2 : List Cond := [Cond.selects RJx4a65c yJx4a65c_get_915e3 yJx4a65c_get_915e3, Cond.code yJx4a65c_get_915e3 cJx4a65c_get_915e3 2 (some (.object "java/lang/Object")), Cond.methodLink RJx4a65c 118 yJ15_checkIndex_7cf53, Cond.static yJ15_checkIndex_7cf53, Cond.initialized RJ15, Cond.code yJ15_checkIndex_7cf53 cJ15_checkIndex_7cf53 2 (some .int), Cond.methodLink RJ15 105 yJ3_checkIndex_8e157, Cond.static yJ3_checkIndex_8e157, Cond.initialized RJ3, Cond.code yJ3_checkIndex_8e157 cJ3_checkIndex_8e157 3 (some .int), Cond.methodLink RJx4a65c 123 yJx4a65c_elementData_915e3, Cond.instanceMethod yJx4a65c_elementData_915e3, Cond.selects RJx4a65c yJx4a65c_elementData_915e3 yJx4a65c_elementData_915e3, Cond.code yJx4a65c_elementData_915e3 cJx4a65c_elementData_915e3 2 (some (.object "java/lang/Object")), Cond.fieldLink RJx4a65c 9 "java/util/ArrayList" "elementData" "[Ljava/lang/Object;"]
def wsL_messageFrom : List Cond := .codeWith yL_messageFrom cL_messageFrom 4 (some .int) [(0, 9, 12, 13)] :: ((wsL_messageFrom_r1 ++ wsL_messageFrom_r2) ++ wsX20 ++ wsX50 ++ wsX30 ++ wsJx4a65c0 ++ (vx_atS RX5 214 "java/lang/IndexOutOfBoundsException" ["java/lang/RuntimeException", "java/lang/Exception"]).filter goodWord)
def wsL_messageTo_r1 : List Cond := [Cond.classLink RL 13 "java/lang/IndexOutOfBoundsException", Cond.methodLink RL 75 yX5_messageTo, Cond.instanceMethod yX5_messageTo, Cond.selects RX5 yX5_messageTo yX5_messageTo, Cond.initialized RX5, Cond.code yX5_messageTo cX5_messageTo 2 (some .int), Cond.fieldLink RX5 178 "CacheDirectory$Message" "receiver" "I", Cond.methodLink RX5 165 yX5_messageAt, Cond.instanceMethod yX5_messageAt, Cond.selects RX5 yX5_messageAt yX5_messageAt, Cond.code yX5_messageAt cX5_messageAt 2 (some (.object "CacheDirectory$Message")), Cond.classLink RX5 210 "java/lang/IndexOutOfBoundsException", Cond.initialized "java/lang/IndexOutOfBoundsException", Cond.fieldLink RX5 10 "CacheDirectory" "network" "LCacheDirectory$Network;", Cond.fieldLink RX5 162 "CacheDirectory$Network" "onTheWay" "Ljava/util/ArrayList;", Cond.classLink RX5 170 "CacheDirectory$Message", Cond.methodLink RX5 153 yJx4a65c_size_8abf5, Cond.instanceMethod yJx4a65c_size_8abf5, Cond.selects RJx4a65c yJx4a65c_size_8abf5 yJx4a65c_size_8abf5, Cond.initialized RJx4a65c, Cond.code yJx4a65c_size_8abf5 cJx4a65c_size_8abf5 1 (some .int), Cond.fieldLink RJx4a65c 48 "java/util/ArrayList" "size" "I", Cond.methodLink RX5 206 yJx4a65c_get_915e3, Cond.instanceMethod yJx4a65c_get_915e3]
def wsL_messageTo_r2 : List Cond := [Cond.selects RJx4a65c yJx4a65c_get_915e3 yJx4a65c_get_915e3, Cond.code yJx4a65c_get_915e3 cJx4a65c_get_915e3 2 (some (.object "java/lang/Object")), Cond.methodLink RJx4a65c 118 yJ15_checkIndex_7cf53, Cond.static yJ15_checkIndex_7cf53, Cond.initialized RJ15, Cond.code yJ15_checkIndex_7cf53 cJ15_checkIndex_7cf53 2 (some .int), Cond.methodLink RJ15 105 yJ3_checkIndex_8e157, Cond.static yJ3_checkIndex_8e157, Cond.initialized RJ3, Cond.code yJ3_checkIndex_8e157 cJ3_checkIndex_8e157 3 (some .int), Cond.methodLink RJx4a65c 123 yJx4a65c_elementData_915e3, Cond.instanceMethod yJx4a65c_elementData_915e3, Cond.selects RJx4a65c yJx4a65c_elementData_915e3 yJx4a65c_elementData_915e3, Cond.code yJx4a65c_elementData_915e3 cJx4a65c_elementData_915e3 2 (some (.object "java/lang/Object")), Cond.fieldLink RJx4a65c 9 "java/util/ArrayList" "elementData" "[Ljava/lang/Object;"]
def wsL_messageTo : List Cond := .codeWith yL_messageTo cL_messageTo 4 (some .int) [(0, 9, 12, 13)] :: ((wsL_messageTo_r1 ++ wsL_messageTo_r2) ++ wsX20 ++ wsX50 ++ wsX30 ++ wsJx4a65c0 ++ (vx_atS RX5 214 "java/lang/IndexOutOfBoundsException" ["java/lang/RuntimeException", "java/lang/Exception"]).filter goodWord)
def wsL_deliver_r1 : List Cond := [Cond.classLink RL 13 "java/lang/IndexOutOfBoundsException", Cond.methodLink RL 78 yX5_deliver, Cond.instanceMethod yX5_deliver, Cond.selects RX5 yX5_deliver yX5_deliver, Cond.initialized RX5, Cond.code yX5_deliver cX5_deliver 2 (some .int), Cond.fieldLink RX5 10 "CacheDirectory" "network" "LCacheDirectory$Network;", Cond.fieldLink RX5 162 "CacheDirectory$Network" "onTheWay" "Ljava/util/ArrayList;", Cond.methodLink RX5 181 yX5_handOver, Cond.instanceMethod yX5_handOver, Cond.selects RX5 yX5_handOver yX5_handOver, Cond.code yX5_handOver cX5_handOver 3 none, Cond.fieldLink RX5 178 "CacheDirectory$Message" "receiver" "I", Cond.fieldLink RX5 174 "CacheDirectory$Message" "line" "I", Cond.methodLink RX5 165 yX5_messageAt, Cond.instanceMethod yX5_messageAt, Cond.selects RX5 yX5_messageAt yX5_messageAt, Cond.code yX5_messageAt cX5_messageAt 2 (some (.object "CacheDirectory$Message")), Cond.classLink RX5 210 "java/lang/IndexOutOfBoundsException", Cond.initialized "java/lang/IndexOutOfBoundsException", Cond.classLink RX5 170 "CacheDirectory$Message", Cond.methodLink RX5 153 yJx4a65c_size_8abf5, Cond.instanceMethod yJx4a65c_size_8abf5, Cond.selects RJx4a65c yJx4a65c_size_8abf5 yJx4a65c_size_8abf5]
def wsL_deliver_r2 : List Cond := [Cond.initialized RJx4a65c, Cond.code yJx4a65c_size_8abf5 cJx4a65c_size_8abf5 1 (some .int), Cond.fieldLink RJx4a65c 48 "java/util/ArrayList" "size" "I", Cond.methodLink RX5 206 yJx4a65c_get_915e3, Cond.instanceMethod yJx4a65c_get_915e3, Cond.selects RJx4a65c yJx4a65c_get_915e3 yJx4a65c_get_915e3, Cond.code yJx4a65c_get_915e3 cJx4a65c_get_915e3 2 (some (.object "java/lang/Object")), Cond.methodLink RJx4a65c 118 yJ15_checkIndex_7cf53, Cond.static yJ15_checkIndex_7cf53, Cond.initialized RJ15, Cond.code yJ15_checkIndex_7cf53 cJ15_checkIndex_7cf53 2 (some .int), Cond.methodLink RJ15 105 yJ3_checkIndex_8e157, Cond.static yJ3_checkIndex_8e157, Cond.initialized RJ3, Cond.code yJ3_checkIndex_8e157 cJ3_checkIndex_8e157 3 (some .int), Cond.methodLink RJx4a65c 123 yJx4a65c_elementData_915e3, Cond.instanceMethod yJx4a65c_elementData_915e3, Cond.selects RJx4a65c yJx4a65c_elementData_915e3 yJx4a65c_elementData_915e3, Cond.code yJx4a65c_elementData_915e3 cJx4a65c_elementData_915e3 2 (some (.object "java/lang/Object")), Cond.fieldLink RJx4a65c 9 "java/util/ArrayList" "elementData" "[Ljava/lang/Object;", Cond.methodLink RX5 228 yJx4a65c_remove_915e3, Cond.instanceMethod yJx4a65c_remove_915e3, Cond.selects RJx4a65c yJx4a65c_remove_915e3 yJx4a65c_remove_915e3, Cond.code yJx4a65c_remove_915e3 cJx4a65c_remove_915e3 4 (some (.object "java/lang/Object"))]
def wsL_deliver_r3 : List Cond := [Cond.methodLink RJx4a65c 144 yJx4a65c_fastRemove_b59b0, Cond.instanceMethod yJx4a65c_fastRemove_b59b0, Cond.selects RJx4a65c yJx4a65c_fastRemove_b59b0 yJx4a65c_fastRemove_b59b0, Cond.code yJx4a65c_fastRemove_b59b0 cJx4a65c_fastRemove_b59b0 4 none, Cond.fieldLink RJx4a65c 63 "java/util/ArrayList" "modCount" "I", Cond.sameField "java/util/ArrayList" "java/util/AbstractList" "modCount" "I", Cond.methodLink RJx4a65c 112 arraycopyName, Cond.native arraycopyName, Cond.static arraycopyName, Cond.initialized "java/lang/System", Cond.methodLink RX5 135 yX5_homeOf, Cond.instanceMethod yX5_homeOf, Cond.selects RX5 yX5_homeOf yX5_homeOf, Cond.code yX5_homeOf cX5_homeOf 2 (some (.object "CacheDirectory$Home")), Cond.fieldLink RX5 27 "CacheDirectory" "homes" "[LCacheDirectory$Home;", Cond.methodLink RX5 61 yX5_checkLine, Cond.static yX5_checkLine, Cond.code yX5_checkLine cX5_checkLine 1 none, Cond.methodLink RX5 231 yX1_receive, Cond.instanceMethod yX1_receive, Cond.selects RX1 yX1_receive yX1_receive, Cond.initialized RX1, Cond.code yX1_receive cX1_receive 3 none, Cond.fieldLink RX1 45 "CacheDirectory$Message" "kind" "I"]
def wsL_deliver_r4 : List Cond := [Cond.fieldLink RX1 28 "CacheDirectory$Home" "busy" "Z", Cond.fieldLink RX1 12 "CacheDirectory$Home" "waiting" "Ljava/util/ArrayList;", Cond.classLink RX1 46 "CacheDirectory$Message", Cond.methodLink RX1 50 yJx4a65c_size_8abf5, Cond.methodLink RX1 54 yJx4a65c_isEmpty_aae02, Cond.instanceMethod yJx4a65c_isEmpty_aae02, Cond.selects RJx4a65c yJx4a65c_isEmpty_aae02 yJx4a65c_isEmpty_aae02, Cond.code yJx4a65c_isEmpty_aae02 cJx4a65c_isEmpty_aae02 1 (some .boolean), Cond.methodLink RX1 58 yJx4a65c_remove_915e3, Cond.methodLink RX1 62 yX1_process, Cond.instanceMethod yX1_process, Cond.selects RX1 yX1_process yX1_process, Cond.code yX1_process cX1_process 2 none, Cond.fieldLink RX1 70 "CacheDirectory$Message" "sender" "I", Cond.methodLink RX1 73 yX1_processRead, Cond.instanceMethod yX1_processRead, Cond.selects RX1 yX1_processRead yX1_processRead, Cond.code yX1_processRead cX1_processRead 2 none, Cond.fieldLink RX1 22 "CacheDirectory$Home" "ownerCache" "I", Cond.fieldLink RX1 41 "CacheDirectory$Home" "network" "LCacheDirectory$Network;", Cond.fieldLink RX1 38 "CacheDirectory$Home" "line" "I", Cond.fieldLink RX1 18 "CacheDirectory$Home" "memoryValue" "I", Cond.fieldLink RX1 89 "CacheDirectory$Message" "carried" "I", Cond.fieldLink RX1 92 "CacheDirectory$Message" "requester" "I"]
def wsL_deliver_r5 : List Cond := [Cond.fieldLink RX1 25 "CacheDirectory$Home" "sharerSet" "I", Cond.methodLink RX1 83 yX3_send, Cond.instanceMethod yX3_send, Cond.selects RX3 yX3_send yX3_send, Cond.initialized RX3, Cond.code yX3_send cX3_send 6 (some (.object "CacheDirectory$Message")), Cond.classLink RX3 16 RX2, Cond.instantiable RX2 7, Cond.initialized RX2, Cond.fieldLink RX3 10 "CacheDirectory$Network" "onTheWay" "Ljava/util/ArrayList;", Cond.methodLink RX3 18 yX2_init, Cond.instanceMethod yX2_init, Cond.code yX2_init cX2_init 5 none, Cond.methodLink RX2 3 objectInit, Cond.instanceMethod objectInit, Cond.code objectInit ⟨#[0xb1]⟩ 1 none, Cond.fieldLink RX2 9 "CacheDirectory$Message" "carried" "I", Cond.fieldLink RX2 15 "CacheDirectory$Message" "count" "I", Cond.fieldLink RX2 18 "CacheDirectory$Message" "requester" "I", Cond.fieldLink RX2 21 "CacheDirectory$Message" "kind" "I", Cond.fieldLink RX2 24 "CacheDirectory$Message" "line" "I", Cond.fieldLink RX2 27 "CacheDirectory$Message" "sender" "I", Cond.fieldLink RX2 30 "CacheDirectory$Message" "receiver" "I", Cond.methodLink RX3 21 yJx4a65c_add_9ea2d]
def wsL_deliver_r6 : List Cond := [Cond.instanceMethod yJx4a65c_add_9ea2d, Cond.selects RJx4a65c yJx4a65c_add_9ea2d yJx4a65c_add_9ea2d, Cond.code yJx4a65c_add_9ea2d cJx4a65c_add_9ea2d 2 (some .boolean), Cond.methodLink RJx4a65c 131 yJx4a65c_add_72be8, Cond.instanceMethod yJx4a65c_add_72be8, Cond.selects RJx4a65c yJx4a65c_add_72be8 yJx4a65c_add_72be8, Cond.code yJx4a65c_add_72be8 cJx4a65c_add_72be8 4 none, Cond.methodLink RJx4a65c 129 yJx4a65c_grow_d5877, Cond.instanceMethod yJx4a65c_grow_d5877, Cond.selects RJx4a65c yJx4a65c_grow_d5877 yJx4a65c_grow_d5877, Cond.code yJx4a65c_grow_d5877 cJx4a65c_grow_d5877 1 (some (.array (.object "java/lang/Object"))), Cond.methodLink RJx4a65c 69 yJx4a65c_grow_92f84, Cond.instanceMethod yJx4a65c_grow_92f84, Cond.selects RJx4a65c yJx4a65c_grow_92f84 yJx4a65c_grow_92f84, Cond.code yJx4a65c_grow_92f84 cJx4a65c_grow_92f84 4 (some (.array (.object "java/lang/Object"))), Cond.fieldLink RJx4a65c 39 "java/util/ArrayList" "DEFAULTCAPACITY_EMPTY_ELEMENTDATA" "[Ljava/lang/Object;", Cond.methodLink RJx4a65c 79 Lib.Math.max.name, Cond.static Lib.Math.max.name, Cond.initialized "java/lang/Math", Cond.code Lib.Math.max.name Lib.Math.max.code 2 (some .int), Cond.classLink RJx4a65c 7 "java/lang/Object", Cond.methodLink RJx4a65c 73 yJ8_newLength_cabcc, Cond.static yJ8_newLength_cabcc, Cond.initialized RJ8]
def wsL_deliver_r7 : List Cond := [Cond.code yJ8_newLength_cabcc cJ8_newLength_cabcc 4 (some .int), Cond.methodLink RJ8 194 Lib.Math.max.name, Cond.constant RJ8 200 (2147483639), Cond.methodLink RJ8 201 yJ8_hugeLength_7cf53, Cond.static yJ8_hugeLength_7cf53, Cond.code yJ8_hugeLength_7cf53 cJ8_hugeLength_7cf53 3 (some .int), Cond.methodLink RJx4a65c 66 yJ7_copyOf_1904c, Cond.static yJ7_copyOf_1904c, Cond.initialized RJ7, Cond.code yJ7_copyOf_1904c cJ7_copyOf_1904c 2 (some (.array (.object "java/lang/Object"))), Cond.methodLink RJ7 86 ⟨"java/lang/Object", "getClass", "()Ljava/lang/Class;"⟩, Cond.selects "[Ljava/lang/Object;" ⟨"java/lang/Object", "getClass", "()Ljava/lang/Class;"⟩ ⟨"java/lang/Object", "getClass", "()Ljava/lang/Class;"⟩, Cond.instanceMethod ⟨"java/lang/Object", "getClass", "()Ljava/lang/Class;"⟩, Cond.native ⟨"java/lang/Object", "getClass", "()Ljava/lang/Class;"⟩, Cond.methodLink RJ7 300 yJ7_copyOf_6403c, Cond.static yJ7_copyOf_6403c, Cond.code yJ7_copyOf_6403c cJ7_copyOf_6403c 4 (some (.array (.object "java/lang/Object"))), Cond.classLink RJ7 110 "[Ljava/lang/Object;", Cond.classLink RJ7 2 "java/lang/Object", Cond.methodLink RJ7 304 Lib.Math.min.name, Cond.static Lib.Math.min.name, Cond.code Lib.Math.min.name Lib.Math.min.code 2 (some .int), Cond.methodLink RJ7 150 arraycopyName, Cond.methodLink RX1 77 yX1_processWrite]
def wsL_deliver_r8 : List Cond := [Cond.instanceMethod yX1_processWrite, Cond.selects RX1 yX1_processWrite yX1_processWrite, Cond.code yX1_processWrite cX1_processWrite 4 none, Cond.fieldLink RX1 101 "CacheDirectory$Message" "count" "I", Cond.methodLink RX1 95 yJ6_bitCount_0f7a4, Cond.static yJ6_bitCount_0f7a4, Cond.initialized RJ6, Cond.code yJ6_bitCount_0f7a4 cJ6_bitCount_0f7a4 1 (some .int), Cond.constant RJ6 265 (1431655765), Cond.constant RJ6 266 (858993459), Cond.constant RJ6 267 (252645135), Cond.methodLink RX1 80 yX1_processPut, Cond.instanceMethod yX1_processPut, Cond.selects RX1 yX1_processPut yX1_processPut, Cond.code yX1_processPut cX1_processPut 2 none, Cond.fieldLink RX1 32 "CacheDirectory$Home" "timelyPuts" "I", Cond.fieldLink RX1 35 "CacheDirectory$Home" "latePuts" "I", Cond.methodLink RX1 66 yJx4a65c_add_9ea2d, Cond.methodLink RX5 32 yX5_cacheAt, Cond.instanceMethod yX5_cacheAt, Cond.selects RX5 yX5_cacheAt yX5_cacheAt, Cond.code yX5_cacheAt cX5_cacheAt 2 (some (.object "CacheDirectory$Cache")), Cond.fieldLink RX5 18 "CacheDirectory" "caches" "[LCacheDirectory$Cache;", Cond.methodLink RX5 235 yX0_receive]
def wsL_deliver_r9 : List Cond := [Cond.instanceMethod yX0_receive, Cond.selects RX0 yX0_receive yX0_receive, Cond.initialized RX0, Cond.code yX0_receive cX0_receive 2 none, Cond.fieldLink RX0 92 "CacheDirectory$Message" "kind" "I", Cond.fieldLink RX0 12 "CacheDirectory$Cache" "request" "LCacheDirectory$Request;", Cond.fieldLink RX0 95 "CacheDirectory$Request" "answered" "Z", Cond.fieldLink RX0 84 "CacheDirectory$Message" "carried" "I", Cond.fieldLink RX0 99 "CacheDirectory$Request" "received" "I", Cond.fieldLink RX0 102 "CacheDirectory$Message" "count" "I", Cond.fieldLink RX0 105 "CacheDirectory$Request" "invalidationsDue" "I", Cond.fieldLink RX0 108 "CacheDirectory$Message" "line" "I", Cond.fieldLink RX0 112 "CacheDirectory$Request" "invalidationsDone" "I", Cond.fieldLink RX0 18 "CacheDirectory$Cache" "states" "[I", Cond.fieldLink RX0 56 "CacheDirectory$Cache" "network" "LCacheDirectory$Network;", Cond.fieldLink RX0 53 "CacheDirectory$Cache" "number" "I", Cond.fieldLink RX0 119 "CacheDirectory$Message" "requester" "I", Cond.fieldLink RX0 25 "CacheDirectory$Cache" "victimValues" "[I", Cond.fieldLink RX0 35 "CacheDirectory$Cache" "victimCount" "I", Cond.methodLink RX0 109 yX0_finishIfComplete, Cond.instanceMethod yX0_finishIfComplete, Cond.selects RX0 yX0_finishIfComplete yX0_finishIfComplete, Cond.code yX0_finishIfComplete cX0_finishIfComplete 2 none, Cond.fieldLink RX0 126 "CacheDirectory$Request" "forWriting" "Z"]
def wsL_deliver_r10 : List Cond := [Cond.fieldLink RX0 129 "CacheDirectory$Request" "toWrite" "I", Cond.fieldLink RX0 44 "CacheDirectory$Cache" "latestResult" "I", Cond.fieldLink RX0 60 "CacheDirectory$Request" "line" "I", Cond.methodLink RX0 122 yX4_isComplete, Cond.instanceMethod yX4_isComplete, Cond.selects RX4 yX4_isComplete yX4_isComplete, Cond.initialized RX4, Cond.code yX4_isComplete cX4_isComplete 1 (some .boolean), Cond.fieldLink RX4 22 "CacheDirectory$Request" "answered" "Z", Cond.fieldLink RX4 25 "CacheDirectory$Request" "invalidationsDone" "I", Cond.fieldLink RX4 28 "CacheDirectory$Request" "invalidationsDue" "I", Cond.methodLink RX0 132 yX0_store, Cond.instanceMethod yX0_store, Cond.selects RX0 yX0_store yX0_store, Cond.code yX0_store cX0_store 4 none, Cond.fieldLink RX0 22 "CacheDirectory$Cache" "values" "[I", Cond.methodLink RX0 136 yX0_markUsed, Cond.instanceMethod yX0_markUsed, Cond.selects RX0 yX0_markUsed yX0_markUsed, Cond.code yX0_markUsed cX0_markUsed 2 none, Cond.fieldLink RX0 31 "CacheDirectory$Cache" "lineCount" "I", Cond.fieldLink RX0 28 "CacheDirectory$Cache" "useOrder" "[I", Cond.methodLink RX0 139 yX0_leaveUseOrder, Cond.instanceMethod yX0_leaveUseOrder]
def wsL_deliver_r11 : List Cond := [Cond.selects RX0 yX0_leaveUseOrder yX0_leaveUseOrder, Cond.code yX0_leaveUseOrder cX0_leaveUseOrder 4 none, Cond.methodLink RX0 78 yX3_send, Cond.methodLink RX0 115 yX0_passOn, Cond.instanceMethod yX0_passOn, Cond.selects RX0 yX0_passOn yX0_passOn, Cond.code yX0_passOn cX0_passOn 4 none, Cond.methodLink RX0 63 yX0_holds, Cond.instanceMethod yX0_holds, Cond.selects RX0 yX0_holds yX0_holds, Cond.code yX0_holds cX0_holds 2 (some .boolean), Cond.methodLink RX0 89 yX0_drop, Cond.instanceMethod yX0_drop, Cond.selects RX0 yX0_drop yX0_drop, Cond.code yX0_drop cX0_drop 2 none]
def wsL_deliver : List Cond := .codeWith yL_deliver cL_deliver 4 (some .int) [(0, 9, 12, 13)] :: ((wsL_deliver_r1 ++ (wsL_deliver_r2 ++ (wsL_deliver_r3 ++ (wsL_deliver_r4 ++ (wsL_deliver_r5 ++ (wsL_deliver_r6 ++ (wsL_deliver_r7 ++ (wsL_deliver_r8 ++ (wsL_deliver_r9 ++ (wsL_deliver_r10 ++ wsL_deliver_r11)))))))))) ++ wsX50 ++ wsX30 ++ wsX20 ++ wsJx4a65c0 ++ wsX10 ++ wsX00 ++ wsX40 ++ (vx_atS RX5 214 "java/lang/IndexOutOfBoundsException" ["java/lang/RuntimeException", "java/lang/Exception"]).filter goodWord)
def wsL_settle_r1 : List Cond := [Cond.classLink RL 15 "java/lang/IllegalArgumentException", Cond.methodLink RL 81 yX5_settle, Cond.instanceMethod yX5_settle, Cond.selects RX5 yX5_settle yX5_settle, Cond.initialized RX5, Cond.code yX5_settle cX5_settle 3 (some .int), Cond.classLink RX5 36 "java/lang/IllegalArgumentException", Cond.initialized "java/lang/IllegalArgumentException", Cond.fieldLink RX5 10 "CacheDirectory" "network" "LCacheDirectory$Network;", Cond.fieldLink RX5 162 "CacheDirectory$Network" "onTheWay" "Ljava/util/ArrayList;", Cond.methodLink RX5 186 yJx4a65c_isEmpty_aae02, Cond.instanceMethod yJx4a65c_isEmpty_aae02, Cond.selects RJx4a65c yJx4a65c_isEmpty_aae02 yJx4a65c_isEmpty_aae02, Cond.initialized RJx4a65c, Cond.code yJx4a65c_isEmpty_aae02 cJx4a65c_isEmpty_aae02 1 (some .boolean), Cond.fieldLink RJx4a65c 48 "java/util/ArrayList" "size" "I", Cond.methodLink RX5 181 yX5_handOver, Cond.instanceMethod yX5_handOver, Cond.selects RX5 yX5_handOver yX5_handOver, Cond.code yX5_handOver cX5_handOver 3 none, Cond.fieldLink RX5 178 "CacheDirectory$Message" "receiver" "I", Cond.fieldLink RX5 174 "CacheDirectory$Message" "line" "I", Cond.methodLink RX5 165 yX5_messageAt, Cond.instanceMethod yX5_messageAt]
def wsL_settle_r2 : List Cond := [Cond.selects RX5 yX5_messageAt yX5_messageAt, Cond.code yX5_messageAt cX5_messageAt 2 (some (.object "CacheDirectory$Message")), Cond.classLink RX5 210 "java/lang/IndexOutOfBoundsException", Cond.initialized "java/lang/IndexOutOfBoundsException", Cond.classLink RX5 170 "CacheDirectory$Message", Cond.methodLink RX5 153 yJx4a65c_size_8abf5, Cond.instanceMethod yJx4a65c_size_8abf5, Cond.selects RJx4a65c yJx4a65c_size_8abf5 yJx4a65c_size_8abf5, Cond.code yJx4a65c_size_8abf5 cJx4a65c_size_8abf5 1 (some .int), Cond.methodLink RX5 206 yJx4a65c_get_915e3, Cond.instanceMethod yJx4a65c_get_915e3, Cond.selects RJx4a65c yJx4a65c_get_915e3 yJx4a65c_get_915e3, Cond.code yJx4a65c_get_915e3 cJx4a65c_get_915e3 2 (some (.object "java/lang/Object")), Cond.methodLink RJx4a65c 118 yJ15_checkIndex_7cf53, Cond.static yJ15_checkIndex_7cf53, Cond.initialized RJ15, Cond.code yJ15_checkIndex_7cf53 cJ15_checkIndex_7cf53 2 (some .int), Cond.methodLink RJ15 105 yJ3_checkIndex_8e157, Cond.static yJ3_checkIndex_8e157, Cond.initialized RJ3, Cond.code yJ3_checkIndex_8e157 cJ3_checkIndex_8e157 3 (some .int), Cond.methodLink RJx4a65c 123 yJx4a65c_elementData_915e3, Cond.instanceMethod yJx4a65c_elementData_915e3, Cond.selects RJx4a65c yJx4a65c_elementData_915e3 yJx4a65c_elementData_915e3]
def wsL_settle_r3 : List Cond := [Cond.code yJx4a65c_elementData_915e3 cJx4a65c_elementData_915e3 2 (some (.object "java/lang/Object")), Cond.fieldLink RJx4a65c 9 "java/util/ArrayList" "elementData" "[Ljava/lang/Object;", Cond.methodLink RX5 228 yJx4a65c_remove_915e3, Cond.instanceMethod yJx4a65c_remove_915e3, Cond.selects RJx4a65c yJx4a65c_remove_915e3 yJx4a65c_remove_915e3, Cond.code yJx4a65c_remove_915e3 cJx4a65c_remove_915e3 4 (some (.object "java/lang/Object")), Cond.methodLink RJx4a65c 144 yJx4a65c_fastRemove_b59b0, Cond.instanceMethod yJx4a65c_fastRemove_b59b0, Cond.selects RJx4a65c yJx4a65c_fastRemove_b59b0 yJx4a65c_fastRemove_b59b0, Cond.code yJx4a65c_fastRemove_b59b0 cJx4a65c_fastRemove_b59b0 4 none, Cond.fieldLink RJx4a65c 63 "java/util/ArrayList" "modCount" "I", Cond.sameField "java/util/ArrayList" "java/util/AbstractList" "modCount" "I", Cond.methodLink RJx4a65c 112 arraycopyName, Cond.native arraycopyName, Cond.static arraycopyName, Cond.initialized "java/lang/System", Cond.methodLink RX5 135 yX5_homeOf, Cond.instanceMethod yX5_homeOf, Cond.selects RX5 yX5_homeOf yX5_homeOf, Cond.code yX5_homeOf cX5_homeOf 2 (some (.object "CacheDirectory$Home")), Cond.fieldLink RX5 27 "CacheDirectory" "homes" "[LCacheDirectory$Home;", Cond.methodLink RX5 61 yX5_checkLine, Cond.static yX5_checkLine, Cond.code yX5_checkLine cX5_checkLine 1 none]
def wsL_settle_r4 : List Cond := [Cond.methodLink RX5 231 yX1_receive, Cond.instanceMethod yX1_receive, Cond.selects RX1 yX1_receive yX1_receive, Cond.initialized RX1, Cond.code yX1_receive cX1_receive 3 none, Cond.fieldLink RX1 45 "CacheDirectory$Message" "kind" "I", Cond.fieldLink RX1 28 "CacheDirectory$Home" "busy" "Z", Cond.fieldLink RX1 12 "CacheDirectory$Home" "waiting" "Ljava/util/ArrayList;", Cond.classLink RX1 46 "CacheDirectory$Message", Cond.methodLink RX1 50 yJx4a65c_size_8abf5, Cond.methodLink RX1 54 yJx4a65c_isEmpty_aae02, Cond.methodLink RX1 58 yJx4a65c_remove_915e3, Cond.methodLink RX1 62 yX1_process, Cond.instanceMethod yX1_process, Cond.selects RX1 yX1_process yX1_process, Cond.code yX1_process cX1_process 2 none, Cond.fieldLink RX1 70 "CacheDirectory$Message" "sender" "I", Cond.methodLink RX1 73 yX1_processRead, Cond.instanceMethod yX1_processRead, Cond.selects RX1 yX1_processRead yX1_processRead, Cond.code yX1_processRead cX1_processRead 2 none, Cond.fieldLink RX1 22 "CacheDirectory$Home" "ownerCache" "I", Cond.fieldLink RX1 41 "CacheDirectory$Home" "network" "LCacheDirectory$Network;", Cond.fieldLink RX1 38 "CacheDirectory$Home" "line" "I"]
def wsL_settle_r5 : List Cond := [Cond.fieldLink RX1 18 "CacheDirectory$Home" "memoryValue" "I", Cond.fieldLink RX1 89 "CacheDirectory$Message" "carried" "I", Cond.fieldLink RX1 92 "CacheDirectory$Message" "requester" "I", Cond.fieldLink RX1 25 "CacheDirectory$Home" "sharerSet" "I", Cond.methodLink RX1 83 yX3_send, Cond.instanceMethod yX3_send, Cond.selects RX3 yX3_send yX3_send, Cond.initialized RX3, Cond.code yX3_send cX3_send 6 (some (.object "CacheDirectory$Message")), Cond.classLink RX3 16 RX2, Cond.instantiable RX2 7, Cond.initialized RX2, Cond.fieldLink RX3 10 "CacheDirectory$Network" "onTheWay" "Ljava/util/ArrayList;", Cond.methodLink RX3 18 yX2_init, Cond.instanceMethod yX2_init, Cond.code yX2_init cX2_init 5 none, Cond.methodLink RX2 3 objectInit, Cond.instanceMethod objectInit, Cond.code objectInit ⟨#[0xb1]⟩ 1 none, Cond.fieldLink RX2 9 "CacheDirectory$Message" "carried" "I", Cond.fieldLink RX2 15 "CacheDirectory$Message" "count" "I", Cond.fieldLink RX2 18 "CacheDirectory$Message" "requester" "I", Cond.fieldLink RX2 21 "CacheDirectory$Message" "kind" "I", Cond.fieldLink RX2 24 "CacheDirectory$Message" "line" "I"]
def wsL_settle_r6 : List Cond := [Cond.fieldLink RX2 27 "CacheDirectory$Message" "sender" "I", Cond.fieldLink RX2 30 "CacheDirectory$Message" "receiver" "I", Cond.methodLink RX3 21 yJx4a65c_add_9ea2d, Cond.instanceMethod yJx4a65c_add_9ea2d, Cond.selects RJx4a65c yJx4a65c_add_9ea2d yJx4a65c_add_9ea2d, Cond.code yJx4a65c_add_9ea2d cJx4a65c_add_9ea2d 2 (some .boolean), Cond.methodLink RJx4a65c 131 yJx4a65c_add_72be8, Cond.instanceMethod yJx4a65c_add_72be8, Cond.selects RJx4a65c yJx4a65c_add_72be8 yJx4a65c_add_72be8, Cond.code yJx4a65c_add_72be8 cJx4a65c_add_72be8 4 none, Cond.methodLink RJx4a65c 129 yJx4a65c_grow_d5877, Cond.instanceMethod yJx4a65c_grow_d5877, Cond.selects RJx4a65c yJx4a65c_grow_d5877 yJx4a65c_grow_d5877, Cond.code yJx4a65c_grow_d5877 cJx4a65c_grow_d5877 1 (some (.array (.object "java/lang/Object"))), Cond.methodLink RJx4a65c 69 yJx4a65c_grow_92f84, Cond.instanceMethod yJx4a65c_grow_92f84, Cond.selects RJx4a65c yJx4a65c_grow_92f84 yJx4a65c_grow_92f84, Cond.code yJx4a65c_grow_92f84 cJx4a65c_grow_92f84 4 (some (.array (.object "java/lang/Object"))), Cond.fieldLink RJx4a65c 39 "java/util/ArrayList" "DEFAULTCAPACITY_EMPTY_ELEMENTDATA" "[Ljava/lang/Object;", Cond.methodLink RJx4a65c 79 Lib.Math.max.name, Cond.static Lib.Math.max.name, Cond.initialized "java/lang/Math", Cond.code Lib.Math.max.name Lib.Math.max.code 2 (some .int), Cond.classLink RJx4a65c 7 "java/lang/Object"]
def wsL_settle_r7 : List Cond := [Cond.methodLink RJx4a65c 73 yJ8_newLength_cabcc, Cond.static yJ8_newLength_cabcc, Cond.initialized RJ8, Cond.code yJ8_newLength_cabcc cJ8_newLength_cabcc 4 (some .int), Cond.methodLink RJ8 194 Lib.Math.max.name, Cond.constant RJ8 200 (2147483639), Cond.methodLink RJ8 201 yJ8_hugeLength_7cf53, Cond.static yJ8_hugeLength_7cf53, Cond.code yJ8_hugeLength_7cf53 cJ8_hugeLength_7cf53 3 (some .int), Cond.methodLink RJx4a65c 66 yJ7_copyOf_1904c, Cond.static yJ7_copyOf_1904c, Cond.initialized RJ7, Cond.code yJ7_copyOf_1904c cJ7_copyOf_1904c 2 (some (.array (.object "java/lang/Object"))), Cond.methodLink RJ7 86 ⟨"java/lang/Object", "getClass", "()Ljava/lang/Class;"⟩, Cond.selects "[Ljava/lang/Object;" ⟨"java/lang/Object", "getClass", "()Ljava/lang/Class;"⟩ ⟨"java/lang/Object", "getClass", "()Ljava/lang/Class;"⟩, Cond.instanceMethod ⟨"java/lang/Object", "getClass", "()Ljava/lang/Class;"⟩, Cond.native ⟨"java/lang/Object", "getClass", "()Ljava/lang/Class;"⟩, Cond.methodLink RJ7 300 yJ7_copyOf_6403c, Cond.static yJ7_copyOf_6403c, Cond.code yJ7_copyOf_6403c cJ7_copyOf_6403c 4 (some (.array (.object "java/lang/Object"))), Cond.classLink RJ7 110 "[Ljava/lang/Object;", Cond.classLink RJ7 2 "java/lang/Object", Cond.methodLink RJ7 304 Lib.Math.min.name, Cond.static Lib.Math.min.name]
def wsL_settle_r8 : List Cond := [Cond.code Lib.Math.min.name Lib.Math.min.code 2 (some .int), Cond.methodLink RJ7 150 arraycopyName, Cond.methodLink RX1 77 yX1_processWrite, Cond.instanceMethod yX1_processWrite, Cond.selects RX1 yX1_processWrite yX1_processWrite, Cond.code yX1_processWrite cX1_processWrite 4 none, Cond.fieldLink RX1 101 "CacheDirectory$Message" "count" "I", Cond.methodLink RX1 95 yJ6_bitCount_0f7a4, Cond.static yJ6_bitCount_0f7a4, Cond.initialized RJ6, Cond.code yJ6_bitCount_0f7a4 cJ6_bitCount_0f7a4 1 (some .int), Cond.constant RJ6 265 (1431655765), Cond.constant RJ6 266 (858993459), Cond.constant RJ6 267 (252645135), Cond.methodLink RX1 80 yX1_processPut, Cond.instanceMethod yX1_processPut, Cond.selects RX1 yX1_processPut yX1_processPut, Cond.code yX1_processPut cX1_processPut 2 none, Cond.fieldLink RX1 32 "CacheDirectory$Home" "timelyPuts" "I", Cond.fieldLink RX1 35 "CacheDirectory$Home" "latePuts" "I", Cond.methodLink RX1 66 yJx4a65c_add_9ea2d, Cond.methodLink RX5 32 yX5_cacheAt, Cond.instanceMethod yX5_cacheAt, Cond.selects RX5 yX5_cacheAt yX5_cacheAt]
def wsL_settle_r9 : List Cond := [Cond.code yX5_cacheAt cX5_cacheAt 2 (some (.object "CacheDirectory$Cache")), Cond.fieldLink RX5 18 "CacheDirectory" "caches" "[LCacheDirectory$Cache;", Cond.methodLink RX5 235 yX0_receive, Cond.instanceMethod yX0_receive, Cond.selects RX0 yX0_receive yX0_receive, Cond.initialized RX0, Cond.code yX0_receive cX0_receive 2 none, Cond.fieldLink RX0 92 "CacheDirectory$Message" "kind" "I", Cond.fieldLink RX0 12 "CacheDirectory$Cache" "request" "LCacheDirectory$Request;", Cond.fieldLink RX0 95 "CacheDirectory$Request" "answered" "Z", Cond.fieldLink RX0 84 "CacheDirectory$Message" "carried" "I", Cond.fieldLink RX0 99 "CacheDirectory$Request" "received" "I", Cond.fieldLink RX0 102 "CacheDirectory$Message" "count" "I", Cond.fieldLink RX0 105 "CacheDirectory$Request" "invalidationsDue" "I", Cond.fieldLink RX0 108 "CacheDirectory$Message" "line" "I", Cond.fieldLink RX0 112 "CacheDirectory$Request" "invalidationsDone" "I", Cond.fieldLink RX0 18 "CacheDirectory$Cache" "states" "[I", Cond.fieldLink RX0 56 "CacheDirectory$Cache" "network" "LCacheDirectory$Network;", Cond.fieldLink RX0 53 "CacheDirectory$Cache" "number" "I", Cond.fieldLink RX0 119 "CacheDirectory$Message" "requester" "I", Cond.fieldLink RX0 25 "CacheDirectory$Cache" "victimValues" "[I", Cond.fieldLink RX0 35 "CacheDirectory$Cache" "victimCount" "I", Cond.methodLink RX0 109 yX0_finishIfComplete, Cond.instanceMethod yX0_finishIfComplete]
def wsL_settle_r10 : List Cond := [Cond.selects RX0 yX0_finishIfComplete yX0_finishIfComplete, Cond.code yX0_finishIfComplete cX0_finishIfComplete 2 none, Cond.fieldLink RX0 126 "CacheDirectory$Request" "forWriting" "Z", Cond.fieldLink RX0 129 "CacheDirectory$Request" "toWrite" "I", Cond.fieldLink RX0 44 "CacheDirectory$Cache" "latestResult" "I", Cond.fieldLink RX0 60 "CacheDirectory$Request" "line" "I", Cond.methodLink RX0 122 yX4_isComplete, Cond.instanceMethod yX4_isComplete, Cond.selects RX4 yX4_isComplete yX4_isComplete, Cond.initialized RX4, Cond.code yX4_isComplete cX4_isComplete 1 (some .boolean), Cond.fieldLink RX4 22 "CacheDirectory$Request" "answered" "Z", Cond.fieldLink RX4 25 "CacheDirectory$Request" "invalidationsDone" "I", Cond.fieldLink RX4 28 "CacheDirectory$Request" "invalidationsDue" "I", Cond.methodLink RX0 132 yX0_store, Cond.instanceMethod yX0_store, Cond.selects RX0 yX0_store yX0_store, Cond.code yX0_store cX0_store 4 none, Cond.fieldLink RX0 22 "CacheDirectory$Cache" "values" "[I", Cond.methodLink RX0 136 yX0_markUsed, Cond.instanceMethod yX0_markUsed, Cond.selects RX0 yX0_markUsed yX0_markUsed, Cond.code yX0_markUsed cX0_markUsed 2 none, Cond.fieldLink RX0 31 "CacheDirectory$Cache" "lineCount" "I"]
def wsL_settle_r11 : List Cond := [Cond.fieldLink RX0 28 "CacheDirectory$Cache" "useOrder" "[I", Cond.methodLink RX0 139 yX0_leaveUseOrder, Cond.instanceMethod yX0_leaveUseOrder, Cond.selects RX0 yX0_leaveUseOrder yX0_leaveUseOrder, Cond.code yX0_leaveUseOrder cX0_leaveUseOrder 4 none, Cond.methodLink RX0 78 yX3_send, Cond.methodLink RX0 115 yX0_passOn, Cond.instanceMethod yX0_passOn, Cond.selects RX0 yX0_passOn yX0_passOn, Cond.code yX0_passOn cX0_passOn 4 none, Cond.methodLink RX0 63 yX0_holds, Cond.instanceMethod yX0_holds, Cond.selects RX0 yX0_holds yX0_holds, Cond.code yX0_holds cX0_holds 2 (some .boolean), Cond.methodLink RX0 89 yX0_drop, Cond.instanceMethod yX0_drop, Cond.selects RX0 yX0_drop yX0_drop, Cond.code yX0_drop cX0_drop 2 none]
def wsL_settle : List Cond := .codeWith yL_settle cL_settle 4 (some .int) [(0, 9, 12, 15)] :: ((wsL_settle_r1 ++ (wsL_settle_r2 ++ (wsL_settle_r3 ++ (wsL_settle_r4 ++ (wsL_settle_r5 ++ (wsL_settle_r6 ++ (wsL_settle_r7 ++ (wsL_settle_r8 ++ (wsL_settle_r9 ++ (wsL_settle_r10 ++ wsL_settle_r11)))))))))) ++ wsX50 ++ wsX30 ++ wsJx4a65c0 ++ wsX20 ++ wsX10 ++ wsX00 ++ wsX40 ++ (vx_atS RX5 40 "java/lang/IllegalArgumentException" ["java/lang/RuntimeException", "java/lang/Exception"]).filter goodWord ++ (vx_atS RX5 214 "java/lang/IndexOutOfBoundsException" ["java/lang/RuntimeException", "java/lang/Exception"]).filter goodWord)
def wsL_hits : List Cond := .codeWith yL_hits cL_hits 4 (some .int) [(0, 9, 12, 13)] :: ([.classLink RL 13 "java/lang/IndexOutOfBoundsException", .methodLink RL 84 yX5_hits, .instanceMethod yX5_hits, .selects RX5 yX5_hits yX5_hits, .initialized RX5, .code yX5_hits cX5_hits 2 (some .int), .fieldLink RX5 73 "CacheDirectory$Cache" "hitCount" "I", .methodLink RX5 32 yX5_cacheAt, .instanceMethod yX5_cacheAt, .selects RX5 yX5_cacheAt yX5_cacheAt, .code yX5_cacheAt cX5_cacheAt 2 (some (.object "CacheDirectory$Cache")), .classLink RX5 210 "java/lang/IndexOutOfBoundsException", .initialized "java/lang/IndexOutOfBoundsException", .fieldLink RX5 18 "CacheDirectory" "caches" "[LCacheDirectory$Cache;"] ++ wsX00 ++ wsX50 ++ (vx_atS RX5 214 "java/lang/IndexOutOfBoundsException" ["java/lang/RuntimeException", "java/lang/Exception"]).filter goodWord)
def wsL_misses : List Cond := .codeWith yL_misses cL_misses 4 (some .int) [(0, 9, 12, 13)] :: ([.classLink RL 13 "java/lang/IndexOutOfBoundsException", .methodLink RL 87 yX5_misses, .instanceMethod yX5_misses, .selects RX5 yX5_misses yX5_misses, .initialized RX5, .code yX5_misses cX5_misses 2 (some .int), .fieldLink RX5 189 "CacheDirectory$Cache" "missCount" "I", .methodLink RX5 32 yX5_cacheAt, .instanceMethod yX5_cacheAt, .selects RX5 yX5_cacheAt yX5_cacheAt, .code yX5_cacheAt cX5_cacheAt 2 (some (.object "CacheDirectory$Cache")), .classLink RX5 210 "java/lang/IndexOutOfBoundsException", .initialized "java/lang/IndexOutOfBoundsException", .fieldLink RX5 18 "CacheDirectory" "caches" "[LCacheDirectory$Cache;"] ++ wsX00 ++ wsX50 ++ (vx_atS RX5 214 "java/lang/IndexOutOfBoundsException" ["java/lang/RuntimeException", "java/lang/Exception"]).filter goodWord)
def wsL_isInOrder : List Cond := .codeWith yL_isInOrder cL_isInOrder 4 (some .int) [(0, 16, 19, 13)] :: ([.classLink RL 13 "java/lang/IndexOutOfBoundsException", .methodLink RL 90 yX5_isInOrder, .instanceMethod yX5_isInOrder, .selects RX5 yX5_isInOrder yX5_isInOrder, .initialized RX5, .code yX5_isInOrder cX5_isInOrder 8 (some .boolean), .fieldLink RX5 18 "CacheDirectory" "caches" "[LCacheDirectory$Cache;", .fieldLink RX5 79 "CacheDirectory$Cache" "values" "[I", .fieldLink RX5 89 "CacheDirectory$Cache" "states" "[I", .methodLink RX5 61 yX5_checkLine, .static yX5_checkLine, .code yX5_checkLine cX5_checkLine 1 none, .classLink RX5 210 "java/lang/IndexOutOfBoundsException", .initialized "java/lang/IndexOutOfBoundsException", .methodLink RX5 69 yX0_holds, .instanceMethod yX0_holds, .selects RX0 yX0_holds yX0_holds, .initialized RX0, .code yX0_holds cX0_holds 2 (some .boolean), .fieldLink RX0 18 "CacheDirectory$Cache" "states" "[I"] ++ wsX50 ++ wsX00 ++ (vx_atS RX5 214 "java/lang/IndexOutOfBoundsException" ["java/lang/RuntimeException", "java/lang/Exception"]).filter goodWord)
def wsL_law0_r1 : List Cond := [Cond.classLink RL 8 RX5, Cond.instantiable RX5 3, Cond.initialized RX5, Cond.classLink RL 94 RX6, Cond.instantiable RX6 29, Cond.initialized RX6, Cond.arrayClass .long, Cond.methodLink RL 93 yX5_init, Cond.instanceMethod yX5_init, Cond.code yX5_init cX5_init 2 none, Cond.methodLink RX5 1 objectInit, Cond.instanceMethod objectInit, Cond.code objectInit ⟨#[0xb1]⟩ 1 none, Cond.classLink RX5 7 RX3, Cond.instantiable RX3 1, Cond.initialized RX3, Cond.fieldLink RX5 10 "CacheDirectory" "network" "LCacheDirectory$Network;", Cond.classLink RX5 16 RX0, Cond.fieldLink RX5 18 "CacheDirectory" "caches" "[LCacheDirectory$Cache;", Cond.instantiable RX0 14, Cond.initialized RX0, Cond.classLink RX5 25 RX1, Cond.fieldLink RX5 27 "CacheDirectory" "homes" "[LCacheDirectory$Home;", Cond.instantiable RX1 9]
def wsL_law0_r2 : List Cond := [Cond.initialized RX1, Cond.instanceMethod yX3_init, Cond.code yX3_init cX3_init 1 none, Cond.methodLink RX3 1 objectInit, Cond.classLink RX3 7 RJx4a65c, Cond.instantiable RJx4a65c 3, Cond.initialized RJx4a65c, Cond.fieldLink RX3 10 "CacheDirectory$Network" "onTheWay" "Ljava/util/ArrayList;", Cond.methodLink RX3 9 yJx4a65c_init_da8c8, Cond.instanceMethod yJx4a65c_init_da8c8, Cond.code yJx4a65c_init_da8c8 cJx4a65c_init_da8c8 1 none, Cond.fieldLink RJx4a65c 39 "java/util/ArrayList" "DEFAULTCAPACITY_EMPTY_ELEMENTDATA" "[Ljava/lang/Object;", Cond.fieldLink RJx4a65c 9 "java/util/ArrayList" "elementData" "[Ljava/lang/Object;", Cond.methodLink RJx4a65c 1 yJxc12de_init_da8c8, Cond.instanceMethod yJxc12de_init_da8c8, Cond.initialized RJxc12de, Cond.code yJxc12de_init_da8c8 cJxc12de_init_da8c8 1 none, Cond.fieldLink RJxc12de 7 "java/util/AbstractList" "modCount" "I", Cond.methodLink RJxc12de 1 yJxa1e45_init_da8c8, Cond.instanceMethod yJxa1e45_init_da8c8, Cond.initialized RJxa1e45, Cond.code yJxa1e45_init_da8c8 cJxa1e45_init_da8c8 1 none, Cond.methodLink RJxa1e45 1 objectInit, Cond.methodLink RX5 22 yX0_init]
def wsL_law0_r3 : List Cond := [Cond.instanceMethod yX0_init, Cond.code yX0_init cX0_init 4 none, Cond.methodLink RX0 3 objectInit, Cond.classLink RX0 9 RX4, Cond.instantiable RX4 7, Cond.initialized RX4, Cond.fieldLink RX0 12 "CacheDirectory$Cache" "request" "LCacheDirectory$Request;", Cond.arrayClass .int, Cond.fieldLink RX0 18 "CacheDirectory$Cache" "states" "[I", Cond.fieldLink RX0 22 "CacheDirectory$Cache" "values" "[I", Cond.fieldLink RX0 25 "CacheDirectory$Cache" "victimValues" "[I", Cond.fieldLink RX0 28 "CacheDirectory$Cache" "useOrder" "[I", Cond.fieldLink RX0 31 "CacheDirectory$Cache" "lineCount" "I", Cond.fieldLink RX0 35 "CacheDirectory$Cache" "victimCount" "I", Cond.fieldLink RX0 38 "CacheDirectory$Cache" "ways" "I", Cond.fieldLink RX0 41 "CacheDirectory$Cache" "victimRoom" "I", Cond.fieldLink RX0 44 "CacheDirectory$Cache" "latestResult" "I", Cond.fieldLink RX0 47 "CacheDirectory$Cache" "hitCount" "I", Cond.fieldLink RX0 50 "CacheDirectory$Cache" "missCount" "I", Cond.fieldLink RX0 53 "CacheDirectory$Cache" "number" "I", Cond.fieldLink RX0 56 "CacheDirectory$Cache" "network" "LCacheDirectory$Network;", Cond.instanceMethod yX4_init, Cond.code yX4_init cX4_init 1 none, Cond.methodLink RX4 3 objectInit]
def wsL_law0_r4 : List Cond := [Cond.fieldLink RX4 9 "CacheDirectory$Request" "line" "I", Cond.methodLink RX5 31 yX1_init, Cond.instanceMethod yX1_init, Cond.code yX1_init cX1_init 3 none, Cond.methodLink RX1 3 objectInit, Cond.classLink RX1 9 RJx4a65c, Cond.fieldLink RX1 12 "CacheDirectory$Home" "waiting" "Ljava/util/ArrayList;", Cond.fieldLink RX1 18 "CacheDirectory$Home" "memoryValue" "I", Cond.fieldLink RX1 22 "CacheDirectory$Home" "ownerCache" "I", Cond.fieldLink RX1 25 "CacheDirectory$Home" "sharerSet" "I", Cond.fieldLink RX1 28 "CacheDirectory$Home" "busy" "Z", Cond.fieldLink RX1 32 "CacheDirectory$Home" "timelyPuts" "I", Cond.fieldLink RX1 35 "CacheDirectory$Home" "latePuts" "I", Cond.fieldLink RX1 38 "CacheDirectory$Home" "line" "I", Cond.fieldLink RX1 41 "CacheDirectory$Home" "network" "LCacheDirectory$Network;", Cond.methodLink RX1 11 yJx4a65c_init_da8c8, Cond.methodLink RL 96 yX6_init, Cond.instanceMethod yX6_init, Cond.code yX6_init cX6_init 2 none, Cond.methodLink RX6 1 objectInit, Cond.fieldLink RX6 7 "CacheDirectoryModel" "ways" "[I", Cond.fieldLink RX6 13 "CacheDirectoryModel" "rooms" "[I", Cond.fieldLink RX6 16 "CacheDirectoryModel" "states" "[I", Cond.fieldLink RX6 19 "CacheDirectoryModel" "values" "[I"]
def wsL_law0_r5 : List Cond := [Cond.fieldLink RX6 22 "CacheDirectoryModel" "uses" "[I", Cond.fieldLink RX6 25 "CacheDirectoryModel" "victims" "[I", Cond.fieldLink RX6 28 "CacheDirectoryModel" "hits" "[I", Cond.fieldLink RX6 31 "CacheDirectoryModel" "misses" "[I", Cond.fieldLink RX6 34 "CacheDirectoryModel" "latest" "[I", Cond.fieldLink RX6 37 "CacheDirectoryModel" "openLines" "[I", Cond.arrayClass .boolean, Cond.fieldLink RX6 40 "CacheDirectoryModel" "isWriting" "[Z", Cond.fieldLink RX6 44 "CacheDirectoryModel" "toWrite" "[I", Cond.fieldLink RX6 47 "CacheDirectoryModel" "isAnswered" "[Z", Cond.fieldLink RX6 50 "CacheDirectoryModel" "answers" "[I", Cond.fieldLink RX6 53 "CacheDirectoryModel" "needed" "[I", Cond.fieldLink RX6 56 "CacheDirectoryModel" "got" "[I", Cond.fieldLink RX6 59 "CacheDirectoryModel" "memory" "[I", Cond.fieldLink RX6 62 "CacheDirectoryModel" "owners" "[I", Cond.fieldLink RX6 65 "CacheDirectoryModel" "sharers" "[I", Cond.fieldLink RX6 68 "CacheDirectoryModel" "isBusy" "[Z", Cond.fieldLink RX6 71 "CacheDirectoryModel" "queues" "[I", Cond.fieldLink RX6 74 "CacheDirectoryModel" "queued" "[I", Cond.fieldLink RX6 77 "CacheDirectoryModel" "messages" "[I", Cond.fieldLink RX6 80 "CacheDirectoryModel" "now" "[I", Cond.methodLink RL 97 yL_setRoom, Cond.static yL_setRoom, Cond.initialized RL]
def wsL_law0_r6 : List Cond := [Cond.codeWith yL_setRoom cL_setRoom 6 (some .int) [(0, 19, 22, 13), (0, 19, 26, 15), (0, 19, 30, 17)], Cond.classLink RL 13 "java/lang/IndexOutOfBoundsException", Cond.classLink RL 15 "java/lang/IllegalArgumentException", Cond.classLink RL 17 "java/lang/IllegalStateException", Cond.methodLink RL 7 yX5_setRoom, Cond.instanceMethod yX5_setRoom, Cond.selects RX5 yX5_setRoom yX5_setRoom, Cond.code yX5_setRoom cX5_setRoom 6 (some .boolean), Cond.classLink RX5 36 "java/lang/IllegalArgumentException", Cond.initialized "java/lang/IllegalArgumentException", Cond.classLink RX5 49 "java/lang/IllegalStateException", Cond.initialized "java/lang/IllegalStateException", Cond.fieldLink RX5 54 "CacheDirectory$Cache" "ways" "I", Cond.fieldLink RX5 58 "CacheDirectory$Cache" "victimRoom" "I", Cond.methodLink RX5 32 yX5_cacheAt, Cond.instanceMethod yX5_cacheAt, Cond.selects RX5 yX5_cacheAt yX5_cacheAt, Cond.code yX5_cacheAt cX5_cacheAt 2 (some (.object "CacheDirectory$Cache")), Cond.classLink RX5 210 "java/lang/IndexOutOfBoundsException", Cond.initialized "java/lang/IndexOutOfBoundsException", Cond.methodLink RX5 45 yX0_isInUse, Cond.instanceMethod yX0_isInUse, Cond.selects RX0 yX0_isInUse yX0_isInUse, Cond.code yX0_isInUse cX0_isInUse 1 (some .boolean)]
def wsL_law0_r7 : List Cond := [Cond.fieldLink RX0 60 "CacheDirectory$Request" "line" "I", Cond.methodLink RL 102 yX6_setRoom, Cond.instanceMethod yX6_setRoom, Cond.selects RX6 yX6_setRoom yX6_setRoom, Cond.code yX6_setRoom cX6_setRoom 5 (some .boolean), Cond.fieldLink RX6 83 "CacheDirectoryModel" "thrown" "I", Cond.methodLink RX6 97 yX6_isCache, Cond.static yX6_isCache, Cond.code yX6_isCache cX6_isCache 1 (some .boolean), Cond.methodLink RX6 101 yX6_failed, Cond.instanceMethod yX6_failed, Cond.selects RX6 yX6_failed yX6_failed, Cond.code yX6_failed cX6_failed 2 (some .boolean), Cond.methodLink RX6 104 yX6_linesIn, Cond.instanceMethod yX6_linesIn, Cond.selects RX6 yX6_linesIn yX6_linesIn, Cond.code yX6_linesIn cX6_linesIn 4 (some .int), Cond.methodLink RX6 87 yX6_at, Cond.static yX6_at, Cond.code yX6_at cX6_at 2 (some .int), Cond.methodLink RX6 108 yX6_victimsIn, Cond.instanceMethod yX6_victimsIn, Cond.selects RX6 yX6_victimsIn yX6_victimsIn, Cond.code yX6_victimsIn cX6_victimsIn 4 (some .int)]
def wsL_law0_r8 : List Cond := [Cond.methodLink RL 103 yX6_thrown, Cond.instanceMethod yX6_thrown, Cond.selects RX6 yX6_thrown yX6_thrown, Cond.code yX6_thrown cX6_thrown 1 (some .int), Cond.methodLink RL 107 yL_read, Cond.static yL_read, Cond.codeWith yL_read cL_read 5 (some .int) [(0, 10, 13, 13), (0, 10, 17, 17)], Cond.methodLink RL 19 yX5_read, Cond.instanceMethod yX5_read, Cond.selects RX5 yX5_read yX5_read, Cond.code yX5_read cX5_read 4 (some .int), Cond.fieldLink RX5 73 "CacheDirectory$Cache" "hitCount" "I", Cond.fieldLink RX5 79 "CacheDirectory$Cache" "values" "[I", Cond.methodLink RX5 61 yX5_checkLine, Cond.static yX5_checkLine, Cond.code yX5_checkLine cX5_checkLine 1 none, Cond.methodLink RX5 65 yX5_checkAccess, Cond.static yX5_checkAccess, Cond.code yX5_checkAccess cX5_checkAccess 2 none, Cond.fieldLink RX5 99 "CacheDirectory$Cache" "request" "LCacheDirectory$Request;", Cond.fieldLink RX5 103 "CacheDirectory$Request" "line" "I", Cond.fieldLink RX5 118 "CacheDirectory$Cache" "victimValues" "[I", Cond.fieldLink RX5 132 "CacheDirectory$Cache" "useOrder" "[I", Cond.methodLink RX5 225 yX0_needsWayFor]
def wsL_law0_r9 : List Cond := [Cond.instanceMethod yX0_needsWayFor, Cond.selects RX0 yX0_needsWayFor yX0_needsWayFor, Cond.code yX0_needsWayFor cX0_needsWayFor 2 (some .boolean), Cond.methodLink RX0 63 yX0_holds, Cond.instanceMethod yX0_holds, Cond.selects RX0 yX0_holds yX0_holds, Cond.code yX0_holds cX0_holds 2 (some .boolean), Cond.methodLink RX5 110 yX0_lacksVictimRoomFor, Cond.instanceMethod yX0_lacksVictimRoomFor, Cond.selects RX0 yX0_lacksVictimRoomFor yX0_lacksVictimRoomFor, Cond.code yX0_lacksVictimRoomFor cX0_lacksVictimRoomFor 2 (some .boolean), Cond.methodLink RX5 69 yX0_holds, Cond.methodLink RX5 76 yX0_markUsed, Cond.instanceMethod yX0_markUsed, Cond.selects RX0 yX0_markUsed yX0_markUsed, Cond.code yX0_markUsed cX0_markUsed 2 none, Cond.methodLink RX0 139 yX0_leaveUseOrder, Cond.instanceMethod yX0_leaveUseOrder, Cond.selects RX0 yX0_leaveUseOrder yX0_leaveUseOrder, Cond.code yX0_leaveUseOrder cX0_leaveUseOrder 4 none, Cond.methodLink RX5 83 yX0_startRequest, Cond.instanceMethod yX0_startRequest, Cond.selects RX0 yX0_startRequest yX0_startRequest, Cond.code yX0_startRequest cX0_startRequest 4 none]
def wsL_law0_r10 : List Cond := [Cond.methodLink RX0 67 yX0_needsWayFor, Cond.methodLink RX0 70 yX0_moveOut, Cond.instanceMethod yX0_moveOut, Cond.selects RX0 yX0_moveOut yX0_moveOut, Cond.code yX0_moveOut cX0_moveOut 2 none, Cond.fieldLink RX0 84 "CacheDirectory$Message" "carried" "I", Cond.methodLink RX0 78 yX3_send, Cond.instanceMethod yX3_send, Cond.selects RX3 yX3_send yX3_send, Cond.code yX3_send cX3_send 6 (some (.object "CacheDirectory$Message")), Cond.classLink RX3 16 RX2, Cond.instantiable RX2 7, Cond.initialized RX2, Cond.methodLink RX3 18 yX2_init, Cond.instanceMethod yX2_init, Cond.code yX2_init cX2_init 5 none, Cond.methodLink RX2 3 objectInit, Cond.fieldLink RX2 9 "CacheDirectory$Message" "carried" "I", Cond.fieldLink RX2 15 "CacheDirectory$Message" "count" "I", Cond.fieldLink RX2 18 "CacheDirectory$Message" "requester" "I", Cond.fieldLink RX2 21 "CacheDirectory$Message" "kind" "I", Cond.fieldLink RX2 24 "CacheDirectory$Message" "line" "I", Cond.fieldLink RX2 27 "CacheDirectory$Message" "sender" "I", Cond.fieldLink RX2 30 "CacheDirectory$Message" "receiver" "I"]
def wsL_law0_r11 : List Cond := [Cond.methodLink RX3 21 yJx4a65c_add_9ea2d, Cond.instanceMethod yJx4a65c_add_9ea2d, Cond.selects RJx4a65c yJx4a65c_add_9ea2d yJx4a65c_add_9ea2d, Cond.code yJx4a65c_add_9ea2d cJx4a65c_add_9ea2d 2 (some .boolean), Cond.fieldLink RJx4a65c 63 "java/util/ArrayList" "modCount" "I", Cond.sameField "java/util/ArrayList" "java/util/AbstractList" "modCount" "I", Cond.fieldLink RJx4a65c 48 "java/util/ArrayList" "size" "I", Cond.methodLink RJx4a65c 131 yJx4a65c_add_72be8, Cond.instanceMethod yJx4a65c_add_72be8, Cond.selects RJx4a65c yJx4a65c_add_72be8 yJx4a65c_add_72be8, Cond.code yJx4a65c_add_72be8 cJx4a65c_add_72be8 4 none, Cond.methodLink RJx4a65c 129 yJx4a65c_grow_d5877, Cond.instanceMethod yJx4a65c_grow_d5877, Cond.selects RJx4a65c yJx4a65c_grow_d5877 yJx4a65c_grow_d5877, Cond.code yJx4a65c_grow_d5877 cJx4a65c_grow_d5877 1 (some (.array (.object "java/lang/Object"))), Cond.methodLink RJx4a65c 69 yJx4a65c_grow_92f84, Cond.instanceMethod yJx4a65c_grow_92f84, Cond.selects RJx4a65c yJx4a65c_grow_92f84 yJx4a65c_grow_92f84, Cond.code yJx4a65c_grow_92f84 cJx4a65c_grow_92f84 4 (some (.array (.object "java/lang/Object"))), Cond.methodLink RJx4a65c 79 Lib.Math.max.name, Cond.static Lib.Math.max.name, Cond.initialized "java/lang/Math", Cond.code Lib.Math.max.name Lib.Math.max.code 2 (some .int), Cond.classLink RJx4a65c 7 "java/lang/Object"]
def wsL_law0_r12 : List Cond := [Cond.methodLink RJx4a65c 73 yJ8_newLength_cabcc, Cond.static yJ8_newLength_cabcc, Cond.initialized RJ8, Cond.code yJ8_newLength_cabcc cJ8_newLength_cabcc 4 (some .int), Cond.methodLink RJ8 194 Lib.Math.max.name, Cond.constant RJ8 200 (2147483639), Cond.methodLink RJ8 201 yJ8_hugeLength_7cf53, Cond.static yJ8_hugeLength_7cf53, Cond.code yJ8_hugeLength_7cf53 cJ8_hugeLength_7cf53 3 (some .int), Cond.methodLink RJx4a65c 66 yJ7_copyOf_1904c, Cond.static yJ7_copyOf_1904c, Cond.initialized RJ7, Cond.code yJ7_copyOf_1904c cJ7_copyOf_1904c 2 (some (.array (.object "java/lang/Object"))), Cond.methodLink RJ7 86 ⟨"java/lang/Object", "getClass", "()Ljava/lang/Class;"⟩, Cond.selects "[Ljava/lang/Object;" ⟨"java/lang/Object", "getClass", "()Ljava/lang/Class;"⟩ ⟨"java/lang/Object", "getClass", "()Ljava/lang/Class;"⟩, Cond.instanceMethod ⟨"java/lang/Object", "getClass", "()Ljava/lang/Class;"⟩, Cond.native ⟨"java/lang/Object", "getClass", "()Ljava/lang/Class;"⟩, Cond.methodLink RJ7 300 yJ7_copyOf_6403c, Cond.static yJ7_copyOf_6403c, Cond.code yJ7_copyOf_6403c cJ7_copyOf_6403c 4 (some (.array (.object "java/lang/Object"))), Cond.classLink RJ7 110 "[Ljava/lang/Object;", Cond.classLink RJ7 2 "java/lang/Object", Cond.methodLink RJ7 304 Lib.Math.min.name, Cond.static Lib.Math.min.name]
def wsL_law0_r13 : List Cond := [Cond.code Lib.Math.min.name Lib.Math.min.code 2 (some .int), Cond.methodLink RJ7 150 arraycopyName, Cond.native arraycopyName, Cond.static arraycopyName, Cond.initialized "java/lang/System", Cond.methodLink RX0 89 yX0_drop, Cond.instanceMethod yX0_drop, Cond.selects RX0 yX0_drop yX0_drop, Cond.code yX0_drop cX0_drop 2 none, Cond.methodLink RX0 74 yX4_open, Cond.instanceMethod yX4_open, Cond.selects RX4 yX4_open yX4_open, Cond.code yX4_open cX4_open 4 none, Cond.fieldLink RX4 15 "CacheDirectory$Request" "forWriting" "Z", Cond.fieldLink RX4 19 "CacheDirectory$Request" "toWrite" "I", Cond.fieldLink RX4 22 "CacheDirectory$Request" "answered" "Z", Cond.fieldLink RX4 25 "CacheDirectory$Request" "invalidationsDone" "I", Cond.methodLink RL 110 yX6_read, Cond.instanceMethod yX6_read, Cond.selects RX6 yX6_read yX6_read, Cond.code yX6_read cX6_read 3 (some .int), Cond.methodLink RX6 129 yX6_isLine, Cond.static yX6_isLine, Cond.code yX6_isLine cX6_isLine 1 (some .boolean)]
def wsL_law0_r14 : List Cond := [Cond.methodLink RX6 132 yX6_fail, Cond.instanceMethod yX6_fail, Cond.selects RX6 yX6_fail yX6_fail, Cond.code yX6_fail cX6_fail 2 (some .int), Cond.methodLink RX6 135 yX6_use, Cond.instanceMethod yX6_use, Cond.selects RX6 yX6_use yX6_use, Cond.code yX6_use cX6_use 3 none, Cond.fieldLink RX6 91 "CacheDirectoryModel" "time" "I", Cond.methodLink RX6 138 yX6_canStart, Cond.instanceMethod yX6_canStart, Cond.selects RX6 yX6_canStart yX6_canStart, Cond.code yX6_canStart cX6_canStart 3 (some .boolean), Cond.methodLink RX6 118 yX6_leaving, Cond.instanceMethod yX6_leaving, Cond.selects RX6 yX6_leaving yX6_leaving, Cond.code yX6_leaving cX6_leaving 3 (some .int), Cond.methodLink RX6 115 yX6_lineBy, Cond.instanceMethod yX6_lineBy, Cond.selects RX6 yX6_lineBy yX6_lineBy, Cond.code yX6_lineBy cX6_lineBy 6 (some .int), Cond.methodLink RX6 121 yX6_canRemove, Cond.instanceMethod yX6_canRemove, Cond.selects RX6 yX6_canRemove yX6_canRemove]
def wsL_law0_r15 : List Cond := [Cond.code yX6_canRemove cX6_canRemove 3 (some .boolean), Cond.methodLink RX6 141 yX6_start, Cond.instanceMethod yX6_start, Cond.selects RX6 yX6_start yX6_start, Cond.code yX6_start cX6_start 5 none, Cond.methodLink RX6 125 yX6_remove, Cond.instanceMethod yX6_remove, Cond.selects RX6 yX6_remove yX6_remove, Cond.code yX6_remove cX6_remove 3 none, Cond.methodLink RX6 111 yX6_send, Cond.instanceMethod yX6_send, Cond.selects RX6 yX6_send yX6_send, Cond.code yX6_send cX6_send 9 none, Cond.fieldLink RX6 94 "CacheDirectoryModel" "sent" "I", Cond.methodLink RL 111 yL_write, Cond.static yL_write, Cond.codeWith yL_write cL_write 6 (some .int) [(0, 19, 22, 13), (0, 19, 26, 15), (0, 19, 30, 17)], Cond.methodLink RL 23 yX5_write, Cond.instanceMethod yX5_write, Cond.selects RX5 yX5_write yX5_write, Cond.code yX5_write cX5_write 5 (some .boolean), Cond.fieldLink RX5 89 "CacheDirectory$Cache" "states" "[I", Cond.methodLink RX5 92 yX0_store, Cond.instanceMethod yX0_store]
def wsL_law0_r16 : List Cond := [Cond.selects RX0 yX0_store yX0_store, Cond.code yX0_store cX0_store 4 none, Cond.methodLink RX0 136 yX0_markUsed, Cond.methodLink RL 113 yX6_write, Cond.instanceMethod yX6_write, Cond.selects RX6 yX6_write yX6_write, Cond.code yX6_write cX6_write 4 (some .boolean), Cond.methodLink RL 114 yL_evict, Cond.static yL_evict, Cond.codeWith yL_evict cL_evict 5 (some .int) [(0, 10, 13, 13), (0, 10, 17, 29), (0, 10, 21, 17)], Cond.classLink RL 29 "java/util/NoSuchElementException", Cond.methodLink RL 26 yX5_evict, Cond.instanceMethod yX5_evict, Cond.selects RX5 yX5_evict yX5_evict, Cond.code yX5_evict cX5_evict 5 (some .int), Cond.methodLink RX5 96 yX5_checkHeld, Cond.static yX5_checkHeld, Cond.code yX5_checkHeld cX5_checkHeld 2 none, Cond.classLink RX5 127 "java/util/NoSuchElementException", Cond.initialized "java/util/NoSuchElementException", Cond.methodLink RX5 115 yX0_moveOut, Cond.methodLink RL 116 yX6_evict, Cond.instanceMethod yX6_evict, Cond.selects RX6 yX6_evict yX6_evict]
def wsL_law0_r17 : List Cond := [Cond.code yX6_evict cX6_evict 4 (some .int), Cond.methodLink RL 117 yL_state, Cond.static yL_state, Cond.codeWith yL_state cL_state 5 (some .int) [(0, 10, 13, 13)], Cond.methodLink RL 31 yX5_state, Cond.instanceMethod yX5_state, Cond.selects RX5 yX5_state yX5_state, Cond.code yX5_state cX5_state 4 (some .int), Cond.methodLink RL 119 yX6_state, Cond.instanceMethod yX6_state, Cond.selects RX6 yX6_state yX6_state, Cond.code yX6_state cX6_state 3 (some .int), Cond.methodLink RL 120 yL_value, Cond.static yL_value, Cond.codeWith yL_value cL_value 5 (some .int) [(0, 10, 13, 13), (0, 10, 17, 29)], Cond.methodLink RL 34 yX5_value, Cond.instanceMethod yX5_value, Cond.selects RX5 yX5_value yX5_value, Cond.code yX5_value cX5_value 4 (some .int), Cond.methodLink RL 122 yX6_value, Cond.instanceMethod yX6_value, Cond.selects RX6 yX6_value yX6_value, Cond.code yX6_value cX6_value 3 (some .int), Cond.methodLink RL 123 yL_victimValue]
def wsL_law0_r18 : List Cond := [Cond.static yL_victimValue, Cond.codeWith yL_victimValue cL_victimValue 5 (some .int) [(0, 10, 13, 13)], Cond.methodLink RL 37 yX5_victimValue, Cond.instanceMethod yX5_victimValue, Cond.selects RX5 yX5_victimValue yX5_victimValue, Cond.code yX5_victimValue cX5_victimValue 4 (some .int), Cond.methodLink RL 125 yX6_victimValue, Cond.instanceMethod yX6_victimValue, Cond.selects RX6 yX6_victimValue yX6_victimValue, Cond.code yX6_victimValue cX6_victimValue 3 (some .int), Cond.methodLink RL 126 yL_openLine, Cond.static yL_openLine, Cond.codeWith yL_openLine cL_openLine 4 (some .int) [(0, 9, 12, 13)], Cond.methodLink RL 40 yX5_openLine, Cond.instanceMethod yX5_openLine, Cond.selects RX5 yX5_openLine yX5_openLine, Cond.code yX5_openLine cX5_openLine 2 (some .int), Cond.methodLink RL 129 yX6_openLine, Cond.instanceMethod yX6_openLine, Cond.selects RX6 yX6_openLine yX6_openLine, Cond.code yX6_openLine cX6_openLine 2 (some .int), Cond.methodLink RL 130 yL_latestRead, Cond.static yL_latestRead, Cond.codeWith yL_latestRead cL_latestRead 4 (some .int) [(0, 9, 12, 13)]]
def wsL_law0_r19 : List Cond := [Cond.methodLink RL 44 yX5_latestRead, Cond.instanceMethod yX5_latestRead, Cond.selects RX5 yX5_latestRead yX5_latestRead, Cond.code yX5_latestRead cX5_latestRead 2 (some .int), Cond.fieldLink RX5 121 "CacheDirectory$Cache" "latestResult" "I", Cond.methodLink RL 132 yX6_latestRead, Cond.instanceMethod yX6_latestRead, Cond.selects RX6 yX6_latestRead yX6_latestRead, Cond.code yX6_latestRead cX6_latestRead 2 (some .int), Cond.methodLink RL 133 yL_lineAt, Cond.static yL_lineAt, Cond.codeWith yL_lineAt cL_lineAt 5 (some .int) [(0, 10, 13, 13), (0, 10, 17, 29)], Cond.methodLink RL 47 yX5_lineAt, Cond.instanceMethod yX5_lineAt, Cond.selects RX5 yX5_lineAt yX5_lineAt, Cond.code yX5_lineAt cX5_lineAt 4 (some .int), Cond.fieldLink RX5 124 "CacheDirectory$Cache" "lineCount" "I", Cond.methodLink RL 135 yX6_lineAt, Cond.instanceMethod yX6_lineAt, Cond.selects RX6 yX6_lineAt yX6_lineAt, Cond.code yX6_lineAt cX6_lineAt 4 (some .int), Cond.methodLink RL 136 yL_owner, Cond.static yL_owner, Cond.codeWith yL_owner cL_owner 4 (some .int) [(0, 9, 12, 13)]]
def wsL_law0_r20 : List Cond := [Cond.methodLink RL 50 yX5_owner, Cond.instanceMethod yX5_owner, Cond.selects RX5 yX5_owner yX5_owner, Cond.code yX5_owner cX5_owner 2 (some .int), Cond.fieldLink RX5 139 "CacheDirectory$Home" "ownerCache" "I", Cond.methodLink RX5 135 yX5_homeOf, Cond.instanceMethod yX5_homeOf, Cond.selects RX5 yX5_homeOf yX5_homeOf, Cond.code yX5_homeOf cX5_homeOf 2 (some (.object "CacheDirectory$Home")), Cond.methodLink RL 138 yX6_owner, Cond.instanceMethod yX6_owner, Cond.selects RX6 yX6_owner yX6_owner, Cond.code yX6_owner cX6_owner 2 (some .int), Cond.methodLink RL 139 yL_sharers, Cond.static yL_sharers, Cond.codeWith yL_sharers cL_sharers 4 (some .int) [(0, 9, 12, 13)], Cond.methodLink RL 53 yX5_sharers, Cond.instanceMethod yX5_sharers, Cond.selects RX5 yX5_sharers yX5_sharers, Cond.code yX5_sharers cX5_sharers 2 (some .int), Cond.fieldLink RX5 142 "CacheDirectory$Home" "sharerSet" "I", Cond.methodLink RL 141 yX6_sharers, Cond.instanceMethod yX6_sharers, Cond.selects RX6 yX6_sharers yX6_sharers]
def wsL_law0_r21 : List Cond := [Cond.code yX6_sharers cX6_sharers 2 (some .int), Cond.methodLink RL 142 yL_isBusy, Cond.static yL_isBusy, Cond.codeWith yL_isBusy cL_isBusy 4 (some .int) [(0, 16, 19, 13)], Cond.methodLink RL 56 yX5_isBusy, Cond.instanceMethod yX5_isBusy, Cond.selects RX5 yX5_isBusy yX5_isBusy, Cond.code yX5_isBusy cX5_isBusy 2 (some .boolean), Cond.fieldLink RX5 145 "CacheDirectory$Home" "busy" "Z", Cond.methodLink RL 144 yX6_isBusy, Cond.instanceMethod yX6_isBusy, Cond.selects RX6 yX6_isBusy yX6_isBusy, Cond.code yX6_isBusy cX6_isBusy 2 (some .boolean), Cond.methodLink RL 145 yL_queued, Cond.static yL_queued, Cond.codeWith yL_queued cL_queued 4 (some .int) [(0, 9, 12, 13)], Cond.methodLink RL 60 yX5_queued, Cond.instanceMethod yX5_queued, Cond.selects RX5 yX5_queued yX5_queued, Cond.code yX5_queued cX5_queued 2 (some .int), Cond.fieldLink RX5 149 "CacheDirectory$Home" "waiting" "Ljava/util/ArrayList;", Cond.methodLink RX5 153 yJx4a65c_size_8abf5, Cond.instanceMethod yJx4a65c_size_8abf5, Cond.selects RJx4a65c yJx4a65c_size_8abf5 yJx4a65c_size_8abf5]
def wsL_law0_r22 : List Cond := [Cond.code yJx4a65c_size_8abf5 cJx4a65c_size_8abf5 1 (some .int), Cond.methodLink RL 147 yX6_queued, Cond.instanceMethod yX6_queued, Cond.selects RX6 yX6_queued yX6_queued, Cond.code yX6_queued cX6_queued 2 (some .int), Cond.methodLink RL 148 yL_memory, Cond.static yL_memory, Cond.codeWith yL_memory cL_memory 4 (some .int) [(0, 9, 12, 13)], Cond.methodLink RL 63 yX5_memory, Cond.instanceMethod yX5_memory, Cond.selects RX5 yX5_memory yX5_memory, Cond.code yX5_memory cX5_memory 2 (some .int), Cond.fieldLink RX5 159 "CacheDirectory$Home" "memoryValue" "I", Cond.methodLink RL 150 yX6_memory, Cond.instanceMethod yX6_memory, Cond.selects RX6 yX6_memory yX6_memory, Cond.code yX6_memory cX6_memory 2 (some .int), Cond.methodLink RL 151 yX5_messageCount, Cond.instanceMethod yX5_messageCount, Cond.selects RX5 yX5_messageCount yX5_messageCount, Cond.code yX5_messageCount cX5_messageCount 1 (some .int), Cond.fieldLink RX5 162 "CacheDirectory$Network" "onTheWay" "Ljava/util/ArrayList;", Cond.methodLink RL 154 yX6_messageCount, Cond.instanceMethod yX6_messageCount]
def wsL_law0_r23 : List Cond := [Cond.selects RX6 yX6_messageCount yX6_messageCount, Cond.code yX6_messageCount cX6_messageCount 1 (some .int), Cond.methodLink RL 155 yL_messageKind, Cond.static yL_messageKind, Cond.codeWith yL_messageKind cL_messageKind 4 (some .int) [(0, 9, 12, 13)], Cond.methodLink RL 66 yX5_messageKind, Cond.instanceMethod yX5_messageKind, Cond.selects RX5 yX5_messageKind yX5_messageKind, Cond.code yX5_messageKind cX5_messageKind 2 (some .int), Cond.fieldLink RX5 169 "CacheDirectory$Message" "kind" "I", Cond.methodLink RX5 165 yX5_messageAt, Cond.instanceMethod yX5_messageAt, Cond.selects RX5 yX5_messageAt yX5_messageAt, Cond.code yX5_messageAt cX5_messageAt 2 (some (.object "CacheDirectory$Message")), Cond.classLink RX5 170 "CacheDirectory$Message", Cond.methodLink RX5 206 yJx4a65c_get_915e3, Cond.instanceMethod yJx4a65c_get_915e3, Cond.selects RJx4a65c yJx4a65c_get_915e3 yJx4a65c_get_915e3, Cond.code yJx4a65c_get_915e3 cJx4a65c_get_915e3 2 (some (.object "java/lang/Object")), Cond.methodLink RJx4a65c 118 yJ15_checkIndex_7cf53, Cond.static yJ15_checkIndex_7cf53, Cond.initialized RJ15, Cond.code yJ15_checkIndex_7cf53 cJ15_checkIndex_7cf53 2 (some .int), Cond.methodLink RJ15 105 yJ3_checkIndex_8e157]
def wsL_law0_r24 : List Cond := [Cond.static yJ3_checkIndex_8e157, Cond.initialized RJ3, Cond.code yJ3_checkIndex_8e157 cJ3_checkIndex_8e157 3 (some .int), Cond.methodLink RJx4a65c 123 yJx4a65c_elementData_915e3, Cond.instanceMethod yJx4a65c_elementData_915e3, Cond.selects RJx4a65c yJx4a65c_elementData_915e3 yJx4a65c_elementData_915e3, Cond.code yJx4a65c_elementData_915e3 cJx4a65c_elementData_915e3 2 (some (.object "java/lang/Object")), Cond.methodLink RL 157 yX6_messageKind, Cond.instanceMethod yX6_messageKind, Cond.selects RX6 yX6_messageKind yX6_messageKind, Cond.code yX6_messageKind cX6_messageKind 2 (some .int), Cond.methodLink RX6 148 yX6_part, Cond.instanceMethod yX6_part, Cond.selects RX6 yX6_part yX6_part, Cond.code yX6_part cX6_part 3 (some .int), Cond.methodLink RX6 145 yX6_isMessage, Cond.instanceMethod yX6_isMessage, Cond.selects RX6 yX6_isMessage yX6_isMessage, Cond.code yX6_isMessage cX6_isMessage 2 (some .boolean), Cond.methodLink RL 158 yL_messageLine, Cond.static yL_messageLine, Cond.codeWith yL_messageLine cL_messageLine 4 (some .int) [(0, 9, 12, 13)], Cond.methodLink RL 69 yX5_messageLine, Cond.instanceMethod yX5_messageLine]
def wsL_law0_r25 : List Cond := [Cond.selects RX5 yX5_messageLine yX5_messageLine, Cond.code yX5_messageLine cX5_messageLine 2 (some .int), Cond.fieldLink RX5 174 "CacheDirectory$Message" "line" "I", Cond.methodLink RL 160 yX6_messageLine, Cond.instanceMethod yX6_messageLine, Cond.selects RX6 yX6_messageLine yX6_messageLine, Cond.code yX6_messageLine cX6_messageLine 2 (some .int), Cond.methodLink RL 161 yL_messageFrom, Cond.static yL_messageFrom, Cond.codeWith yL_messageFrom cL_messageFrom 4 (some .int) [(0, 9, 12, 13)], Cond.methodLink RL 72 yX5_messageFrom, Cond.instanceMethod yX5_messageFrom, Cond.selects RX5 yX5_messageFrom yX5_messageFrom, Cond.code yX5_messageFrom cX5_messageFrom 2 (some .int), Cond.fieldLink RX5 175 "CacheDirectory$Message" "sender" "I", Cond.methodLink RL 163 yX6_messageFrom, Cond.instanceMethod yX6_messageFrom, Cond.selects RX6 yX6_messageFrom yX6_messageFrom, Cond.code yX6_messageFrom cX6_messageFrom 2 (some .int), Cond.methodLink RL 164 yL_messageTo, Cond.static yL_messageTo, Cond.codeWith yL_messageTo cL_messageTo 4 (some .int) [(0, 9, 12, 13)], Cond.methodLink RL 75 yX5_messageTo, Cond.instanceMethod yX5_messageTo]
def wsL_law0_r26 : List Cond := [Cond.selects RX5 yX5_messageTo yX5_messageTo, Cond.code yX5_messageTo cX5_messageTo 2 (some .int), Cond.fieldLink RX5 178 "CacheDirectory$Message" "receiver" "I", Cond.methodLink RL 166 yX6_messageTo, Cond.instanceMethod yX6_messageTo, Cond.selects RX6 yX6_messageTo yX6_messageTo, Cond.code yX6_messageTo cX6_messageTo 2 (some .int), Cond.methodLink RL 167 yL_deliver, Cond.static yL_deliver, Cond.codeWith yL_deliver cL_deliver 4 (some .int) [(0, 9, 12, 13)], Cond.methodLink RL 78 yX5_deliver, Cond.instanceMethod yX5_deliver, Cond.selects RX5 yX5_deliver yX5_deliver, Cond.code yX5_deliver cX5_deliver 2 (some .int), Cond.methodLink RX5 181 yX5_handOver, Cond.instanceMethod yX5_handOver, Cond.selects RX5 yX5_handOver yX5_handOver, Cond.code yX5_handOver cX5_handOver 3 none, Cond.methodLink RX5 228 yJx4a65c_remove_915e3, Cond.instanceMethod yJx4a65c_remove_915e3, Cond.selects RJx4a65c yJx4a65c_remove_915e3 yJx4a65c_remove_915e3, Cond.code yJx4a65c_remove_915e3 cJx4a65c_remove_915e3 4 (some (.object "java/lang/Object")), Cond.methodLink RJx4a65c 144 yJx4a65c_fastRemove_b59b0, Cond.instanceMethod yJx4a65c_fastRemove_b59b0]
def wsL_law0_r27 : List Cond := [Cond.selects RJx4a65c yJx4a65c_fastRemove_b59b0 yJx4a65c_fastRemove_b59b0, Cond.code yJx4a65c_fastRemove_b59b0 cJx4a65c_fastRemove_b59b0 4 none, Cond.methodLink RJx4a65c 112 arraycopyName, Cond.methodLink RX5 231 yX1_receive, Cond.instanceMethod yX1_receive, Cond.selects RX1 yX1_receive yX1_receive, Cond.code yX1_receive cX1_receive 3 none, Cond.fieldLink RX1 45 "CacheDirectory$Message" "kind" "I", Cond.classLink RX1 46 "CacheDirectory$Message", Cond.methodLink RX1 50 yJx4a65c_size_8abf5, Cond.methodLink RX1 54 yJx4a65c_isEmpty_aae02, Cond.instanceMethod yJx4a65c_isEmpty_aae02, Cond.selects RJx4a65c yJx4a65c_isEmpty_aae02 yJx4a65c_isEmpty_aae02, Cond.code yJx4a65c_isEmpty_aae02 cJx4a65c_isEmpty_aae02 1 (some .boolean), Cond.methodLink RX1 58 yJx4a65c_remove_915e3, Cond.methodLink RX1 62 yX1_process, Cond.instanceMethod yX1_process, Cond.selects RX1 yX1_process yX1_process, Cond.code yX1_process cX1_process 2 none, Cond.fieldLink RX1 70 "CacheDirectory$Message" "sender" "I", Cond.methodLink RX1 73 yX1_processRead, Cond.instanceMethod yX1_processRead, Cond.selects RX1 yX1_processRead yX1_processRead, Cond.code yX1_processRead cX1_processRead 2 none]
def wsL_law0_r28 : List Cond := [Cond.fieldLink RX1 89 "CacheDirectory$Message" "carried" "I", Cond.fieldLink RX1 92 "CacheDirectory$Message" "requester" "I", Cond.methodLink RX1 83 yX3_send, Cond.methodLink RX1 77 yX1_processWrite, Cond.instanceMethod yX1_processWrite, Cond.selects RX1 yX1_processWrite yX1_processWrite, Cond.code yX1_processWrite cX1_processWrite 4 none, Cond.fieldLink RX1 101 "CacheDirectory$Message" "count" "I", Cond.methodLink RX1 95 yJ6_bitCount_0f7a4, Cond.static yJ6_bitCount_0f7a4, Cond.initialized RJ6, Cond.code yJ6_bitCount_0f7a4 cJ6_bitCount_0f7a4 1 (some .int), Cond.constant RJ6 265 (1431655765), Cond.constant RJ6 266 (858993459), Cond.constant RJ6 267 (252645135), Cond.methodLink RX1 80 yX1_processPut, Cond.instanceMethod yX1_processPut, Cond.selects RX1 yX1_processPut yX1_processPut, Cond.code yX1_processPut cX1_processPut 2 none, Cond.methodLink RX1 66 yJx4a65c_add_9ea2d, Cond.methodLink RX5 235 yX0_receive, Cond.instanceMethod yX0_receive, Cond.selects RX0 yX0_receive yX0_receive, Cond.code yX0_receive cX0_receive 2 none]
def wsL_law0_r29 : List Cond := [Cond.fieldLink RX0 92 "CacheDirectory$Message" "kind" "I", Cond.fieldLink RX0 95 "CacheDirectory$Request" "answered" "Z", Cond.fieldLink RX0 99 "CacheDirectory$Request" "received" "I", Cond.fieldLink RX0 102 "CacheDirectory$Message" "count" "I", Cond.fieldLink RX0 105 "CacheDirectory$Request" "invalidationsDue" "I", Cond.fieldLink RX0 108 "CacheDirectory$Message" "line" "I", Cond.fieldLink RX0 112 "CacheDirectory$Request" "invalidationsDone" "I", Cond.fieldLink RX0 119 "CacheDirectory$Message" "requester" "I", Cond.methodLink RX0 109 yX0_finishIfComplete, Cond.instanceMethod yX0_finishIfComplete, Cond.selects RX0 yX0_finishIfComplete yX0_finishIfComplete, Cond.code yX0_finishIfComplete cX0_finishIfComplete 2 none, Cond.fieldLink RX0 126 "CacheDirectory$Request" "forWriting" "Z", Cond.fieldLink RX0 129 "CacheDirectory$Request" "toWrite" "I", Cond.methodLink RX0 122 yX4_isComplete, Cond.instanceMethod yX4_isComplete, Cond.selects RX4 yX4_isComplete yX4_isComplete, Cond.code yX4_isComplete cX4_isComplete 1 (some .boolean), Cond.fieldLink RX4 28 "CacheDirectory$Request" "invalidationsDue" "I", Cond.methodLink RX0 132 yX0_store, Cond.methodLink RX0 115 yX0_passOn, Cond.instanceMethod yX0_passOn, Cond.selects RX0 yX0_passOn yX0_passOn, Cond.code yX0_passOn cX0_passOn 4 none]
def wsL_law0_r30 : List Cond := [Cond.methodLink RL 169 yX6_deliver, Cond.instanceMethod yX6_deliver, Cond.selects RX6 yX6_deliver yX6_deliver, Cond.code yX6_deliver cX6_deliver 2 (some .int), Cond.methodLink RX6 151 yX6_take, Cond.instanceMethod yX6_take, Cond.selects RX6 yX6_take yX6_take, Cond.code yX6_take cX6_take 3 none, Cond.methodLink RX6 155 yX6_receive, Cond.instanceMethod yX6_receive, Cond.selects RX6 yX6_receive yX6_receive, Cond.code yX6_receive cX6_receive 5 none, Cond.methodLink RX6 173 yX6_complete, Cond.instanceMethod yX6_complete, Cond.selects RX6 yX6_complete yX6_complete, Cond.code yX6_complete cX6_complete 3 none, Cond.methodLink RX6 158 yX6_free, Cond.instanceMethod yX6_free, Cond.selects RX6 yX6_free yX6_free, Cond.code yX6_free cX6_free 4 none, Cond.methodLink RX6 164 yX6_process, Cond.instanceMethod yX6_process, Cond.selects RX6 yX6_process yX6_process, Cond.code yX6_process cX6_process 6 none]
def wsL_law0_r31 : List Cond := [Cond.fieldLink RX6 167 "CacheDirectoryModel" "writebacks" "I", Cond.fieldLink RX6 170 "CacheDirectoryModel" "late" "I", Cond.methodLink RX6 161 yX6_enqueue, Cond.instanceMethod yX6_enqueue, Cond.selects RX6 yX6_enqueue yX6_enqueue, Cond.code yX6_enqueue cX6_enqueue 4 none, Cond.methodLink RL 170 yL_settle, Cond.static yL_settle, Cond.codeWith yL_settle cL_settle 4 (some .int) [(0, 9, 12, 15)], Cond.methodLink RL 81 yX5_settle, Cond.instanceMethod yX5_settle, Cond.selects RX5 yX5_settle yX5_settle, Cond.code yX5_settle cX5_settle 3 (some .int), Cond.methodLink RX5 186 yJx4a65c_isEmpty_aae02, Cond.methodLink RL 172 yX6_settle, Cond.instanceMethod yX6_settle, Cond.selects RX6 yX6_settle yX6_settle, Cond.code yX6_settle cX6_settle 3 (some .int), Cond.methodLink RL 173 yL_hits, Cond.static yL_hits, Cond.codeWith yL_hits cL_hits 4 (some .int) [(0, 9, 12, 13)], Cond.methodLink RL 84 yX5_hits, Cond.instanceMethod yX5_hits, Cond.selects RX5 yX5_hits yX5_hits]
def wsL_law0_r32 : List Cond := [Cond.code yX5_hits cX5_hits 2 (some .int), Cond.methodLink RL 175 yX6_hits, Cond.instanceMethod yX6_hits, Cond.selects RX6 yX6_hits yX6_hits, Cond.code yX6_hits cX6_hits 2 (some .int), Cond.methodLink RL 176 yL_misses, Cond.static yL_misses, Cond.codeWith yL_misses cL_misses 4 (some .int) [(0, 9, 12, 13)], Cond.methodLink RL 87 yX5_misses, Cond.instanceMethod yX5_misses, Cond.selects RX5 yX5_misses yX5_misses, Cond.code yX5_misses cX5_misses 2 (some .int), Cond.fieldLink RX5 189 "CacheDirectory$Cache" "missCount" "I", Cond.methodLink RL 178 yX6_misses, Cond.instanceMethod yX6_misses, Cond.selects RX6 yX6_misses yX6_misses, Cond.code yX6_misses cX6_misses 2 (some .int), Cond.methodLink RL 179 yX5_writebacks, Cond.instanceMethod yX5_writebacks, Cond.selects RX5 yX5_writebacks yX5_writebacks, Cond.code yX5_writebacks cX5_writebacks 3 (some .int), Cond.fieldLink RX5 192 "CacheDirectory$Home" "timelyPuts" "I", Cond.methodLink RL 182 yX6_writebacks, Cond.instanceMethod yX6_writebacks]
def wsL_law0_r33 : List Cond := [Cond.selects RX6 yX6_writebacks yX6_writebacks, Cond.code yX6_writebacks cX6_writebacks 1 (some .int), Cond.methodLink RL 183 yX5_lateWritebacks, Cond.instanceMethod yX5_lateWritebacks, Cond.selects RX5 yX5_lateWritebacks yX5_lateWritebacks, Cond.code yX5_lateWritebacks cX5_lateWritebacks 3 (some .int), Cond.fieldLink RX5 195 "CacheDirectory$Home" "latePuts" "I", Cond.methodLink RL 186 yX6_lateWritebacks, Cond.instanceMethod yX6_lateWritebacks, Cond.selects RX6 yX6_lateWritebacks yX6_lateWritebacks, Cond.code yX6_lateWritebacks cX6_lateWritebacks 1 (some .int), Cond.methodLink RL 187 yL_isInOrder, Cond.static yL_isInOrder, Cond.codeWith yL_isInOrder cL_isInOrder 4 (some .int) [(0, 16, 19, 13)], Cond.methodLink RL 90 yX5_isInOrder, Cond.instanceMethod yX5_isInOrder, Cond.selects RX5 yX5_isInOrder yX5_isInOrder, Cond.code yX5_isInOrder cX5_isInOrder 8 (some .boolean), Cond.methodLink RL 189 yX6_isInOrder, Cond.instanceMethod yX6_isInOrder, Cond.selects RX6 yX6_isInOrder yX6_isInOrder, Cond.code yX6_isInOrder cX6_isInOrder 9 (some .boolean), Cond.methodLink RL 190 yX5_digest, Cond.instanceMethod yX5_digest]
def wsL_law0_r34 : List Cond := [Cond.selects RX5 yX5_digest yX5_digest, Cond.code yX5_digest cX5_digest 5 (some .long), Cond.constantLong RX5 198 (47), Cond.constantLong RX5 204 (31), Cond.methodLink RX5 200 yX5_addLine, Cond.instanceMethod yX5_addLine, Cond.selects RX5 yX5_addLine yX5_addLine, Cond.code yX5_addLine cX5_addLine 8 (some .long), Cond.methodLink RL 194 yX6_digest, Cond.instanceMethod yX6_digest, Cond.selects RX6 yX6_digest yX6_digest, Cond.code yX6_digest cX6_digest 6 (some .long), Cond.constantLong RX6 176 (47), Cond.constantLong RX6 178 (31)]
def wsL_law0 : List Cond := (wsL_law0_r1 ++ (wsL_law0_r2 ++ (wsL_law0_r3 ++ (wsL_law0_r4 ++ (wsL_law0_r5 ++ (wsL_law0_r6 ++ (wsL_law0_r7 ++ (wsL_law0_r8 ++ (wsL_law0_r9 ++ (wsL_law0_r10 ++ (wsL_law0_r11 ++ (wsL_law0_r12 ++ (wsL_law0_r13 ++ (wsL_law0_r14 ++ (wsL_law0_r15 ++ (wsL_law0_r16 ++ (wsL_law0_r17 ++ (wsL_law0_r18 ++ (wsL_law0_r19 ++ (wsL_law0_r20 ++ (wsL_law0_r21 ++ (wsL_law0_r22 ++ (wsL_law0_r23 ++ (wsL_law0_r24 ++ (wsL_law0_r25 ++ (wsL_law0_r26 ++ (wsL_law0_r27 ++ (wsL_law0_r28 ++ (wsL_law0_r29 ++ (wsL_law0_r30 ++ (wsL_law0_r31 ++ (wsL_law0_r32 ++ (wsL_law0_r33 ++ wsL_law0_r34))))))))))))))))))))))))))))))))) ++ wsX50 ++ wsX60 ++ wsX30 ++ wsX00 ++ wsX10 ++ wsJx4a65c0 ++ wsX40 ++ wsX20 ++ ([] : List Cond)
def wsL_law : List Cond := wsL_law0 ++ (vx_atS RX5 40 "java/lang/IllegalArgumentException" ["java/lang/RuntimeException", "java/lang/Exception"]).filter goodWord ++ (vx_atS RX5 53 "java/lang/IllegalStateException" ["java/lang/RuntimeException", "java/lang/Exception"]).filter goodWord ++ (vx_atS RX5 214 "java/lang/IndexOutOfBoundsException" ["java/lang/RuntimeException", "java/lang/Exception"]).filter goodWord ++ (vx_atS RX5 131 "java/util/NoSuchElementException" ["java/lang/RuntimeException", "java/lang/Exception"]).filter goodWord
abbrev vwCl : List vw_C := [(RJx4a65c, TJx4a65c, 3), (RX0, TX0, 14), (RX1, TX1, 9), (RX2, TX2, 7), (RX3, TX3, 1), (RX4, TX4, 7), (RX5, TX5, 3), (RX6, TX6, 29)]
end
section
set_option maxRecDepth 20000 in
theorem ggX0_init_X4_init : GoodIn wsX0_init wsX4_init := goodIn_r _ [23, 24, 2, 3, 25, 26, 27, 28, 29, 30, 31, 32] (by decide +kernel) (by decide +kernel)
set_option maxRecDepth 20000 in
theorem gX0_init_X4_init_n11 : GoodIn wsX0_init (wsX4_init) := ggX0_init_X4_init
theorem dX0_init_0 : decode cX0_init 0 = .ok (.aload_n 0, 1) := by decide +kernel
theorem dX0_init_1 : decode cX0_init 1 = .ok (.invokespecial 3, 3) := by decide +kernel
theorem dX0_init_4 : decode cX0_init 4 = .ok (.aload_n 0, 1) := by decide +kernel
theorem dX0_init_5 : decode cX0_init 5 = .ok (.new 9, 3) := by decide +kernel
theorem dX0_init_8 : decode cX0_init 8 = .ok (.dup, 1) := by decide +kernel
theorem dX0_init_9 : decode cX0_init 9 = .ok (.invokespecial 11, 3) := by decide +kernel
theorem dX0_init_12 : decode cX0_init 12 = .ok (.putfield 12, 3) := by decide +kernel
theorem dX0_init_15 : decode cX0_init 15 = .ok (.aload_n 0, 1) := by decide +kernel
theorem dX0_init_16 : decode cX0_init 16 = .ok (.bipush 16, 2) := by decide +kernel
theorem dX0_init_18 : decode cX0_init 18 = .ok (.newarray .int, 2) := by decide +kernel
theorem dX0_init_20 : decode cX0_init 20 = .ok (.putfield 18, 3) := by decide +kernel
theorem dX0_init_23 : decode cX0_init 23 = .ok (.aload_n 0, 1) := by decide +kernel
theorem dX0_init_24 : decode cX0_init 24 = .ok (.bipush 16, 2) := by decide +kernel
theorem dX0_init_26 : decode cX0_init 26 = .ok (.newarray .int, 2) := by decide +kernel
theorem dX0_init_28 : decode cX0_init 28 = .ok (.putfield 22, 3) := by decide +kernel
theorem dX0_init_31 : decode cX0_init 31 = .ok (.aload_n 0, 1) := by decide +kernel
theorem dX0_init_32 : decode cX0_init 32 = .ok (.bipush 16, 2) := by decide +kernel
theorem dX0_init_34 : decode cX0_init 34 = .ok (.newarray .int, 2) := by decide +kernel
theorem dX0_init_36 : decode cX0_init 36 = .ok (.putfield 25, 3) := by decide +kernel
theorem dX0_init_39 : decode cX0_init 39 = .ok (.aload_n 0, 1) := by decide +kernel
theorem dX0_init_40 : decode cX0_init 40 = .ok (.iconst 4, 1) := by decide +kernel
theorem dX0_init_41 : decode cX0_init 41 = .ok (.newarray .int, 2) := by decide +kernel
theorem dX0_init_43 : decode cX0_init 43 = .ok (.putfield 28, 3) := by decide +kernel
theorem dX0_init_46 : decode cX0_init 46 = .ok (.aload_n 0, 1) := by decide +kernel
theorem dX0_init_47 : decode cX0_init 47 = .ok (.iconst 0, 1) := by decide +kernel
theorem dX0_init_48 : decode cX0_init 48 = .ok (.putfield 31, 3) := by decide +kernel
theorem dX0_init_51 : decode cX0_init 51 = .ok (.aload_n 0, 1) := by decide +kernel
theorem dX0_init_52 : decode cX0_init 52 = .ok (.iconst 0, 1) := by decide +kernel
theorem dX0_init_53 : decode cX0_init 53 = .ok (.putfield 35, 3) := by decide +kernel
theorem dX0_init_56 : decode cX0_init 56 = .ok (.aload_n 0, 1) := by decide +kernel
theorem dX0_init_57 : decode cX0_init 57 = .ok (.iconst 2, 1) := by decide +kernel
theorem dX0_init_58 : decode cX0_init 58 = .ok (.putfield 38, 3) := by decide +kernel
theorem dX0_init_61 : decode cX0_init 61 = .ok (.aload_n 0, 1) := by decide +kernel
theorem dX0_init_62 : decode cX0_init 62 = .ok (.iconst 1, 1) := by decide +kernel
theorem dX0_init_63 : decode cX0_init 63 = .ok (.putfield 41, 3) := by decide +kernel
theorem dX0_init_66 : decode cX0_init 66 = .ok (.aload_n 0, 1) := by decide +kernel
theorem dX0_init_67 : decode cX0_init 67 = .ok (.iconst (-1), 1) := by decide +kernel
theorem dX0_init_68 : decode cX0_init 68 = .ok (.putfield 44, 3) := by decide +kernel
theorem dX0_init_71 : decode cX0_init 71 = .ok (.aload_n 0, 1) := by decide +kernel
theorem dX0_init_72 : decode cX0_init 72 = .ok (.iconst 0, 1) := by decide +kernel
theorem dX0_init_73 : decode cX0_init 73 = .ok (.putfield 47, 3) := by decide +kernel
theorem dX0_init_76 : decode cX0_init 76 = .ok (.aload_n 0, 1) := by decide +kernel
theorem dX0_init_77 : decode cX0_init 77 = .ok (.iconst 0, 1) := by decide +kernel
theorem dX0_init_78 : decode cX0_init 78 = .ok (.putfield 50, 3) := by decide +kernel
theorem dX0_init_81 : decode cX0_init 81 = .ok (.aload_n 0, 1) := by decide +kernel
theorem dX0_init_82 : decode cX0_init 82 = .ok (.iload_n 1, 1) := by decide +kernel
theorem dX0_init_83 : decode cX0_init 83 = .ok (.putfield 53, 3) := by decide +kernel
theorem dX0_init_86 : decode cX0_init 86 = .ok (.aload_n 0, 1) := by decide +kernel
theorem dX0_init_87 : decode cX0_init 87 = .ok (.aload_n 2, 1) := by decide +kernel
theorem dX0_init_88 : decode cX0_init 88 = .ok (.putfield 56, 3) := by decide +kernel
theorem dX0_init_91 : decode cX0_init 91 = .ok (.iconst 0, 1) := by decide +kernel
theorem dX0_init_92 : decode cX0_init 92 = .ok (.istore_n 3, 1) := by decide +kernel
theorem dX0_init_93 : decode cX0_init 93 = .ok (.iload_n 3, 1) := by decide +kernel
theorem dX0_init_94 : decode cX0_init 94 = .ok (.bipush 16, 2) := by decide +kernel
theorem dX0_init_96 : decode cX0_init 96 = .ok (.if_icmp .ge 23, 3) := by decide +kernel
theorem dX0_init_99 : decode cX0_init 99 = .ok (.aload_n 0, 1) := by decide +kernel
theorem dX0_init_100 : decode cX0_init 100 = .ok (.getfield 22, 3) := by decide +kernel
theorem dX0_init_103 : decode cX0_init 103 = .ok (.iload_n 3, 1) := by decide +kernel
theorem dX0_init_104 : decode cX0_init 104 = .ok (.iconst (-1), 1) := by decide +kernel
theorem dX0_init_105 : decode cX0_init 105 = .ok (.iastore, 1) := by decide +kernel
theorem dX0_init_106 : decode cX0_init 106 = .ok (.aload_n 0, 1) := by decide +kernel
theorem dX0_init_107 : decode cX0_init 107 = .ok (.getfield 25, 3) := by decide +kernel
theorem dX0_init_110 : decode cX0_init 110 = .ok (.iload_n 3, 1) := by decide +kernel
theorem dX0_init_111 : decode cX0_init 111 = .ok (.iconst (-1), 1) := by decide +kernel
theorem dX0_init_112 : decode cX0_init 112 = .ok (.iastore, 1) := by decide +kernel
theorem dX0_init_113 : decode cX0_init 113 = .ok (.iinc 3 1, 3) := by decide +kernel
theorem dX0_init_116 : decode cX0_init 116 = .ok (.goto (-23), 3) := by decide +kernel
theorem dX0_init_119 : decode cX0_init 119 = .ok (.return_, 1) := by decide +kernel
theorem dX0_isInUse_0 : decode cX0_isInUse 0 = .ok (.aload_n 0, 1) := by decide +kernel
theorem dX0_isInUse_1 : decode cX0_isInUse 1 = .ok (.getfield 31, 3) := by decide +kernel
theorem dX0_isInUse_4 : decode cX0_isInUse 4 = .ok (.ifCond .gt 21, 3) := by decide +kernel
theorem dX0_isInUse_7 : decode cX0_isInUse 7 = .ok (.aload_n 0, 1) := by decide +kernel
theorem dX0_isInUse_8 : decode cX0_isInUse 8 = .ok (.getfield 35, 3) := by decide +kernel
theorem dX0_isInUse_11 : decode cX0_isInUse 11 = .ok (.ifCond .gt 14, 3) := by decide +kernel
theorem dX0_isInUse_14 : decode cX0_isInUse 14 = .ok (.aload_n 0, 1) := by decide +kernel
theorem dX0_isInUse_15 : decode cX0_isInUse 15 = .ok (.getfield 12, 3) := by decide +kernel
theorem dX0_isInUse_18 : decode cX0_isInUse 18 = .ok (.getfield 60, 3) := by decide +kernel
theorem dX0_isInUse_21 : decode cX0_isInUse 21 = .ok (.iconst (-1), 1) := by decide +kernel
theorem dX0_isInUse_22 : decode cX0_isInUse 22 = .ok (.if_icmp .eq 7, 3) := by decide +kernel
theorem dX0_isInUse_25 : decode cX0_isInUse 25 = .ok (.iconst 1, 1) := by decide +kernel
theorem dX0_isInUse_26 : decode cX0_isInUse 26 = .ok (.goto 4, 3) := by decide +kernel
theorem dX0_isInUse_29 : decode cX0_isInUse 29 = .ok (.iconst 0, 1) := by decide +kernel
theorem dX0_isInUse_30 : decode cX0_isInUse 30 = .ok (.ireturn, 1) := by decide +kernel
theorem dX0_holds_0 : decode cX0_holds 0 = .ok (.aload_n 0, 1) := by decide +kernel
theorem dX0_holds_1 : decode cX0_holds 1 = .ok (.getfield 18, 3) := by decide +kernel
theorem dX0_holds_4 : decode cX0_holds 4 = .ok (.iload_n 1, 1) := by decide +kernel
theorem dX0_holds_5 : decode cX0_holds 5 = .ok (.iaload, 1) := by decide +kernel
theorem dX0_holds_6 : decode cX0_holds 6 = .ok (.ifCond .eq 7, 3) := by decide +kernel
theorem dX0_holds_9 : decode cX0_holds 9 = .ok (.iconst 1, 1) := by decide +kernel
theorem dX0_holds_10 : decode cX0_holds 10 = .ok (.goto 4, 3) := by decide +kernel
theorem dX0_holds_13 : decode cX0_holds 13 = .ok (.iconst 0, 1) := by decide +kernel
theorem dX0_holds_14 : decode cX0_holds 14 = .ok (.ireturn, 1) := by decide +kernel
set_option maxRecDepth 20000 in
theorem ggX0_needsWayFor_X0_holds : GoodIn wsX0_needsWayFor wsX0_holds := goodIn_r _ [7, 8, 9, 10, 11, 12, 13, 14, 15, 16, 17, 18, 19, 20, 21, 22] (by decide +kernel) (by decide +kernel)
set_option maxRecDepth 20000 in
theorem gX0_needsWayFor_X0_holds : GoodIn wsX0_needsWayFor (wsV RX0 63 RX0 yX0_holds wsX0_holds) := goodIn_app (goodIn_of _ (by decide +kernel)) ggX0_needsWayFor_X0_holds
theorem dX0_needsWayFor_0 : decode cX0_needsWayFor 0 = .ok (.aload_n 0, 1) := by decide +kernel
theorem dX0_needsWayFor_1 : decode cX0_needsWayFor 1 = .ok (.iload_n 1, 1) := by decide +kernel
theorem dX0_needsWayFor_2 : decode cX0_needsWayFor 2 = .ok (.invokevirtual 63, 3) := by decide +kernel
theorem dX0_needsWayFor_5 : decode cX0_needsWayFor 5 = .ok (.ifCond .ne 18, 3) := by decide +kernel
theorem dX0_needsWayFor_8 : decode cX0_needsWayFor 8 = .ok (.aload_n 0, 1) := by decide +kernel
theorem dX0_needsWayFor_9 : decode cX0_needsWayFor 9 = .ok (.getfield 31, 3) := by decide +kernel
theorem dX0_needsWayFor_12 : decode cX0_needsWayFor 12 = .ok (.aload_n 0, 1) := by decide +kernel
theorem dX0_needsWayFor_13 : decode cX0_needsWayFor 13 = .ok (.getfield 38, 3) := by decide +kernel
theorem dX0_needsWayFor_16 : decode cX0_needsWayFor 16 = .ok (.if_icmp .lt 7, 3) := by decide +kernel
theorem dX0_needsWayFor_19 : decode cX0_needsWayFor 19 = .ok (.iconst 1, 1) := by decide +kernel
theorem dX0_needsWayFor_20 : decode cX0_needsWayFor 20 = .ok (.goto 4, 3) := by decide +kernel
theorem dX0_needsWayFor_23 : decode cX0_needsWayFor 23 = .ok (.iconst 0, 1) := by decide +kernel
theorem dX0_needsWayFor_24 : decode cX0_needsWayFor 24 = .ok (.ireturn, 1) := by decide +kernel
theorem dX0_lacksVictimRoomFor_0 : decode cX0_lacksVictimRoomFor 0 = .ok (.aload_n 0, 1) := by decide +kernel
theorem dX0_lacksVictimRoomFor_1 : decode cX0_lacksVictimRoomFor 1 = .ok (.getfield 18, 3) := by decide +kernel
theorem dX0_lacksVictimRoomFor_4 : decode cX0_lacksVictimRoomFor 4 = .ok (.iload_n 1, 1) := by decide +kernel
theorem dX0_lacksVictimRoomFor_5 : decode cX0_lacksVictimRoomFor 5 = .ok (.iaload, 1) := by decide +kernel
theorem dX0_lacksVictimRoomFor_6 : decode cX0_lacksVictimRoomFor 6 = .ok (.iconst 1, 1) := by decide +kernel
theorem dX0_lacksVictimRoomFor_7 : decode cX0_lacksVictimRoomFor 7 = .ok (.if_icmp .eq 18, 3) := by decide +kernel
theorem dX0_lacksVictimRoomFor_10 : decode cX0_lacksVictimRoomFor 10 = .ok (.aload_n 0, 1) := by decide +kernel
theorem dX0_lacksVictimRoomFor_11 : decode cX0_lacksVictimRoomFor 11 = .ok (.getfield 35, 3) := by decide +kernel
theorem dX0_lacksVictimRoomFor_14 : decode cX0_lacksVictimRoomFor 14 = .ok (.aload_n 0, 1) := by decide +kernel
theorem dX0_lacksVictimRoomFor_15 : decode cX0_lacksVictimRoomFor 15 = .ok (.getfield 41, 3) := by decide +kernel
theorem dX0_lacksVictimRoomFor_18 : decode cX0_lacksVictimRoomFor 18 = .ok (.if_icmp .lt 7, 3) := by decide +kernel
theorem dX0_lacksVictimRoomFor_21 : decode cX0_lacksVictimRoomFor 21 = .ok (.iconst 1, 1) := by decide +kernel
theorem dX0_lacksVictimRoomFor_22 : decode cX0_lacksVictimRoomFor 22 = .ok (.goto 4, 3) := by decide +kernel
theorem dX0_lacksVictimRoomFor_25 : decode cX0_lacksVictimRoomFor 25 = .ok (.iconst 0, 1) := by decide +kernel
theorem dX0_lacksVictimRoomFor_26 : decode cX0_lacksVictimRoomFor 26 = .ok (.ireturn, 1) := by decide +kernel
set_option maxRecDepth 20000 in
theorem ggX0_startRequest_X0_needsWayFor : GoodIn wsX0_startRequest wsX0_needsWayFor := goodIn_r _ [10, 11, 12, 13, 14, 15, 9, 16, 17, 122, 123, 124, 125, 126, 127, 128, 129, 130, 131, 132, 133, 134, 135] (by decide +kernel) (by decide +kernel)
set_option maxRecDepth 20000 in
theorem gX0_startRequest_X0_needsWayFor : GoodIn wsX0_startRequest (wsV RX0 67 RX0 yX0_needsWayFor wsX0_needsWayFor) := goodIn_app (goodIn_of _ (by decide +kernel)) ggX0_startRequest_X0_needsWayFor
set_option maxRecDepth 20000 in
theorem ggX0_startRequest_X0_moveOut : GoodIn wsX0_startRequest wsX0_moveOut := goodIn_r _ [21, 17, 22, 23, 24, 4, 5, 25, 26, 27, 28, 29, 30, 31, 32, 33, 34, 35, 36, 37, 38, 39, 40, 41, 42, 43, 44, 45, 46, 47, 48, 49, 50, 51, 52, 53, 54, 55, 56, 57, 58, 59, 60, 61, 62, 63, 64, 65, 66, 67, 68, 69, 70, 71, 72, 73, 74, 75, 76, 77, 78, 79, 80, 81, 82, 83, 84, 85, 86, 87, 88, 89, 90, 91, 92, 93, 94, 95, 96, 97, 98, 99, 100, 101, 102, 103, 104, 105, 106, 9, 107, 108, 109, 110, 111, 11, 1, 122, 123, 124, 125, 126, 127, 128, 129, 130, 131, 132, 133, 134, 135, 136, 137, 138, 139, 140, 141, 142, 143, 144, 145, 146] (by decide +kernel) (by decide +kernel)
set_option maxRecDepth 20000 in
theorem gX0_startRequest_X0_moveOut : GoodIn wsX0_startRequest (wsV RX0 70 RX0 yX0_moveOut wsX0_moveOut) := goodIn_app (goodIn_of _ (by decide +kernel)) ggX0_startRequest_X0_moveOut
set_option maxRecDepth 20000 in
theorem ggX0_startRequest_X4_open : GoodIn wsX0_startRequest wsX4_open := goodIn_r _ [116, 117, 118, 119, 120, 121, 147, 148, 149, 150, 151, 152, 153] (by decide +kernel) (by decide +kernel)
set_option maxRecDepth 20000 in
theorem gX0_startRequest_X4_open : GoodIn wsX0_startRequest (wsV RX0 74 RX4 yX4_open wsX4_open) := goodIn_app (goodIn_of _ (by decide +kernel)) ggX0_startRequest_X4_open
set_option maxRecDepth 20000 in
theorem ggX0_startRequest_X3_send : GoodIn wsX0_startRequest wsX3_send := goodIn_r _ [30, 31, 32, 33, 34, 35, 36, 37, 38, 39, 40, 41, 42, 43, 44, 45, 46, 47, 48, 49, 50, 51, 52, 53, 54, 55, 56, 57, 58, 59, 60, 61, 62, 63, 64, 65, 66, 67, 68, 69, 70, 71, 72, 73, 74, 75, 76, 77, 78, 79, 80, 81, 82, 83, 84, 85, 86, 87, 88, 89, 90, 91, 92, 93, 94, 95, 96, 97, 98, 99, 100, 101, 102, 103, 136, 137, 138, 139, 140, 141, 142, 143, 144, 145, 146] (by decide +kernel) (by decide +kernel)
set_option maxRecDepth 20000 in
theorem gX0_startRequest_X3_send : GoodIn wsX0_startRequest (wsV RX0 78 RX3 yX3_send wsX3_send) := goodIn_app (goodIn_of _ (by decide +kernel)) ggX0_startRequest_X3_send
theorem dX0_startRequest_0 : decode cX0_startRequest 0 = .ok (.aload_n 0, 1) := by decide +kernel
theorem dX0_startRequest_1 : decode cX0_startRequest 1 = .ok (.iload_n 1, 1) := by decide +kernel
theorem dX0_startRequest_2 : decode cX0_startRequest 2 = .ok (.invokevirtual 67, 3) := by decide +kernel
theorem dX0_startRequest_5 : decode cX0_startRequest 5 = .ok (.ifCond .eq 13, 3) := by decide +kernel
theorem dX0_startRequest_8 : decode cX0_startRequest 8 = .ok (.aload_n 0, 1) := by decide +kernel
theorem dX0_startRequest_9 : decode cX0_startRequest 9 = .ok (.aload_n 0, 1) := by decide +kernel
theorem dX0_startRequest_10 : decode cX0_startRequest 10 = .ok (.getfield 28, 3) := by decide +kernel
theorem dX0_startRequest_13 : decode cX0_startRequest 13 = .ok (.iconst 0, 1) := by decide +kernel
theorem dX0_startRequest_14 : decode cX0_startRequest 14 = .ok (.iaload, 1) := by decide +kernel
theorem dX0_startRequest_15 : decode cX0_startRequest 15 = .ok (.invokevirtual 70, 3) := by decide +kernel
theorem dX0_startRequest_18 : decode cX0_startRequest 18 = .ok (.aload_n 0, 1) := by decide +kernel
theorem dX0_startRequest_19 : decode cX0_startRequest 19 = .ok (.dup, 1) := by decide +kernel
theorem dX0_startRequest_20 : decode cX0_startRequest 20 = .ok (.getfield 50, 3) := by decide +kernel
theorem dX0_startRequest_23 : decode cX0_startRequest 23 = .ok (.iconst 1, 1) := by decide +kernel
theorem dX0_startRequest_24 : decode cX0_startRequest 24 = .ok (.iadd, 1) := by decide +kernel
theorem dX0_startRequest_25 : decode cX0_startRequest 25 = .ok (.putfield 50, 3) := by decide +kernel
theorem dX0_startRequest_28 : decode cX0_startRequest 28 = .ok (.aload_n 0, 1) := by decide +kernel
theorem dX0_startRequest_29 : decode cX0_startRequest 29 = .ok (.getfield 12, 3) := by decide +kernel
theorem dX0_startRequest_32 : decode cX0_startRequest 32 = .ok (.iload_n 1, 1) := by decide +kernel
theorem dX0_startRequest_33 : decode cX0_startRequest 33 = .ok (.iload_n 2, 1) := by decide +kernel
theorem dX0_startRequest_34 : decode cX0_startRequest 34 = .ok (.iload_n 3, 1) := by decide +kernel
theorem dX0_startRequest_35 : decode cX0_startRequest 35 = .ok (.invokevirtual 74, 3) := by decide +kernel
theorem dX0_startRequest_38 : decode cX0_startRequest 38 = .ok (.aload_n 0, 1) := by decide +kernel
theorem dX0_startRequest_39 : decode cX0_startRequest 39 = .ok (.getfield 56, 3) := by decide +kernel
theorem dX0_startRequest_42 : decode cX0_startRequest 42 = .ok (.iload_n 2, 1) := by decide +kernel
theorem dX0_startRequest_43 : decode cX0_startRequest 43 = .ok (.ifCond .eq 7, 3) := by decide +kernel
theorem dX0_startRequest_46 : decode cX0_startRequest 46 = .ok (.iconst 2, 1) := by decide +kernel
theorem dX0_startRequest_47 : decode cX0_startRequest 47 = .ok (.goto 4, 3) := by decide +kernel
theorem dX0_startRequest_50 : decode cX0_startRequest 50 = .ok (.iconst 1, 1) := by decide +kernel
theorem dX0_startRequest_51 : decode cX0_startRequest 51 = .ok (.iload_n 1, 1) := by decide +kernel
theorem dX0_startRequest_52 : decode cX0_startRequest 52 = .ok (.aload_n 0, 1) := by decide +kernel
theorem dX0_startRequest_53 : decode cX0_startRequest 53 = .ok (.getfield 53, 3) := by decide +kernel
theorem dX0_startRequest_56 : decode cX0_startRequest 56 = .ok (.iconst (-1), 1) := by decide +kernel
theorem dX0_startRequest_57 : decode cX0_startRequest 57 = .ok (.invokevirtual 78, 3) := by decide +kernel
theorem dX0_startRequest_60 : decode cX0_startRequest 60 = .ok (.pop, 1) := by decide +kernel
theorem dX0_startRequest_61 : decode cX0_startRequest 61 = .ok (.return_, 1) := by decide +kernel
set_option maxRecDepth 20000 in
theorem ggX0_moveOut_X3_send : GoodIn wsX0_moveOut wsX3_send := goodIn_r _ [12, 13, 14, 15, 16, 17, 18, 19, 20, 21, 22, 23, 24, 25, 26, 27, 28, 29, 30, 31, 32, 33, 34, 35, 36, 37, 38, 39, 40, 41, 42, 43, 44, 45, 46, 47, 48, 49, 50, 51, 52, 53, 54, 55, 56, 57, 58, 59, 60, 61, 62, 63, 64, 65, 66, 67, 68, 69, 70, 71, 72, 73, 74, 75, 76, 77, 78, 79, 80, 81, 82, 83, 84, 85, 111, 112, 113, 114, 115, 116, 117, 118, 119, 120, 121] (by decide +kernel) (by decide +kernel)
set_option maxRecDepth 20000 in
theorem gX0_moveOut_X3_send : GoodIn wsX0_moveOut (wsV RX0 78 RX3 yX3_send wsX3_send) := goodIn_app (goodIn_of _ (by decide +kernel)) ggX0_moveOut_X3_send
set_option maxRecDepth 20000 in
theorem ggX0_moveOut_X0_drop : GoodIn wsX0_moveOut wsX0_drop := goodIn_r _ [90, 1, 3, 91, 92, 93, 89, 94, 95, 96, 97, 98, 99, 100, 101, 102, 103, 104, 105, 106, 107, 108, 109, 110] (by decide +kernel) (by decide +kernel)
set_option maxRecDepth 20000 in
theorem gX0_moveOut_X0_drop : GoodIn wsX0_moveOut (wsV RX0 89 RX0 yX0_drop wsX0_drop) := goodIn_app (goodIn_of _ (by decide +kernel)) ggX0_moveOut_X0_drop
theorem dX0_moveOut_0 : decode cX0_moveOut 0 = .ok (.aload_n 0, 1) := by decide +kernel
theorem dX0_moveOut_1 : decode cX0_moveOut 1 = .ok (.getfield 18, 3) := by decide +kernel
theorem dX0_moveOut_4 : decode cX0_moveOut 4 = .ok (.iload_n 1, 1) := by decide +kernel
theorem dX0_moveOut_5 : decode cX0_moveOut 5 = .ok (.iaload, 1) := by decide +kernel
theorem dX0_moveOut_6 : decode cX0_moveOut 6 = .ok (.iconst 1, 1) := by decide +kernel
theorem dX0_moveOut_7 : decode cX0_moveOut 7 = .ok (.if_icmp .eq 48, 3) := by decide +kernel
theorem dX0_moveOut_10 : decode cX0_moveOut 10 = .ok (.aload_n 0, 1) := by decide +kernel
theorem dX0_moveOut_11 : decode cX0_moveOut 11 = .ok (.getfield 25, 3) := by decide +kernel
theorem dX0_moveOut_14 : decode cX0_moveOut 14 = .ok (.iload_n 1, 1) := by decide +kernel
theorem dX0_moveOut_15 : decode cX0_moveOut 15 = .ok (.aload_n 0, 1) := by decide +kernel
theorem dX0_moveOut_16 : decode cX0_moveOut 16 = .ok (.getfield 22, 3) := by decide +kernel
theorem dX0_moveOut_19 : decode cX0_moveOut 19 = .ok (.iload_n 1, 1) := by decide +kernel
theorem dX0_moveOut_20 : decode cX0_moveOut 20 = .ok (.iaload, 1) := by decide +kernel
theorem dX0_moveOut_21 : decode cX0_moveOut 21 = .ok (.iastore, 1) := by decide +kernel
theorem dX0_moveOut_22 : decode cX0_moveOut 22 = .ok (.aload_n 0, 1) := by decide +kernel
theorem dX0_moveOut_23 : decode cX0_moveOut 23 = .ok (.dup, 1) := by decide +kernel
theorem dX0_moveOut_24 : decode cX0_moveOut 24 = .ok (.getfield 35, 3) := by decide +kernel
theorem dX0_moveOut_27 : decode cX0_moveOut 27 = .ok (.iconst 1, 1) := by decide +kernel
theorem dX0_moveOut_28 : decode cX0_moveOut 28 = .ok (.iadd, 1) := by decide +kernel
theorem dX0_moveOut_29 : decode cX0_moveOut 29 = .ok (.putfield 35, 3) := by decide +kernel
theorem dX0_moveOut_32 : decode cX0_moveOut 32 = .ok (.aload_n 0, 1) := by decide +kernel
theorem dX0_moveOut_33 : decode cX0_moveOut 33 = .ok (.getfield 56, 3) := by decide +kernel
theorem dX0_moveOut_36 : decode cX0_moveOut 36 = .ok (.iconst 3, 1) := by decide +kernel
theorem dX0_moveOut_37 : decode cX0_moveOut 37 = .ok (.iload_n 1, 1) := by decide +kernel
theorem dX0_moveOut_38 : decode cX0_moveOut 38 = .ok (.aload_n 0, 1) := by decide +kernel
theorem dX0_moveOut_39 : decode cX0_moveOut 39 = .ok (.getfield 53, 3) := by decide +kernel
theorem dX0_moveOut_42 : decode cX0_moveOut 42 = .ok (.iconst (-1), 1) := by decide +kernel
theorem dX0_moveOut_43 : decode cX0_moveOut 43 = .ok (.invokevirtual 78, 3) := by decide +kernel
theorem dX0_moveOut_46 : decode cX0_moveOut 46 = .ok (.aload_n 0, 1) := by decide +kernel
theorem dX0_moveOut_47 : decode cX0_moveOut 47 = .ok (.getfield 22, 3) := by decide +kernel
theorem dX0_moveOut_50 : decode cX0_moveOut 50 = .ok (.iload_n 1, 1) := by decide +kernel
theorem dX0_moveOut_51 : decode cX0_moveOut 51 = .ok (.iaload, 1) := by decide +kernel
theorem dX0_moveOut_52 : decode cX0_moveOut 52 = .ok (.putfield 84, 3) := by decide +kernel
theorem dX0_moveOut_55 : decode cX0_moveOut 55 = .ok (.aload_n 0, 1) := by decide +kernel
theorem dX0_moveOut_56 : decode cX0_moveOut 56 = .ok (.iload_n 1, 1) := by decide +kernel
theorem dX0_moveOut_57 : decode cX0_moveOut 57 = .ok (.invokevirtual 89, 3) := by decide +kernel
theorem dX0_moveOut_60 : decode cX0_moveOut 60 = .ok (.return_, 1) := by decide +kernel
set_option maxRecDepth 20000 in
theorem ggX0_receive_X0_finishIfComplete : GoodIn wsX0_receive wsX0_finishIfComplete := goodIn_r _ [20, 2, 21, 22, 5, 23, 24, 11, 12, 25, 26, 27, 28, 29, 30, 31, 32, 33, 34, 35, 19, 36, 10, 37, 38, 39, 40, 41, 42, 43, 44, 45, 46, 47, 48, 49, 50, 51, 52, 53, 54, 55, 56, 57, 58, 59, 60, 61, 62, 63, 64, 65, 66, 67, 68, 69, 70, 71, 72, 73, 74, 75, 76, 77, 78, 79, 80, 81, 82, 83, 84, 85, 86, 87, 88, 89, 90, 91, 92, 93, 94, 95, 96, 97, 98, 99, 100, 101, 102, 103, 104, 105, 106, 107, 108, 109, 110, 111, 112, 113, 114, 115, 116, 117, 118, 119, 120, 121, 122, 123, 124, 125, 145, 146, 147, 148, 149, 150, 151, 152, 153, 154, 155, 156, 157, 158, 159, 160, 161, 162, 163, 164, 165, 138, 139, 140, 141, 142, 143, 144, 166, 167, 168, 169] (by decide +kernel) (by decide +kernel)
set_option maxRecDepth 20000 in
theorem gX0_receive_X0_finishIfComplete : GoodIn wsX0_receive (wsV RX0 109 RX0 yX0_finishIfComplete wsX0_finishIfComplete) := goodIn_app (goodIn_of _ (by decide +kernel)) ggX0_receive_X0_finishIfComplete
set_option maxRecDepth 20000 in
theorem ggX0_receive_X0_passOn : GoodIn wsX0_receive wsX0_passOn := goodIn_r _ [129, 8, 11, 12, 13, 37, 14, 4, 6, 1, 10, 48, 49, 50, 51, 52, 53, 54, 55, 56, 57, 58, 59, 60, 61, 62, 63, 64, 65, 66, 67, 68, 69, 70, 71, 72, 73, 74, 75, 76, 77, 78, 79, 80, 81, 82, 83, 84, 85, 86, 87, 88, 89, 90, 91, 92, 93, 94, 95, 96, 97, 98, 99, 100, 101, 102, 103, 104, 105, 106, 107, 108, 109, 110, 111, 112, 113, 114, 115, 116, 117, 118, 119, 120, 121, 122, 123, 124, 125, 130, 131, 132, 19, 133, 134, 135, 136, 137, 44, 45, 46, 47, 42, 43, 138, 139, 140, 141, 142, 143, 144, 145, 146, 147, 148, 149, 150, 151, 152, 153, 154, 155, 156, 157, 158, 166, 167, 168, 169] (by decide +kernel) (by decide +kernel)
set_option maxRecDepth 20000 in
theorem gX0_receive_X0_passOn : GoodIn wsX0_receive (wsV RX0 115 RX0 yX0_passOn wsX0_passOn) := goodIn_app (goodIn_of _ (by decide +kernel)) ggX0_receive_X0_passOn
set_option maxRecDepth 20000 in
theorem ggX0_receive_X0_drop : GoodIn wsX0_receive wsX0_drop := goodIn_r _ [137, 10, 37, 44, 45, 46, 19, 47, 42, 43, 145, 146, 147, 148, 149, 150, 151, 152, 153, 154, 155, 156, 157, 158] (by decide +kernel) (by decide +kernel)
set_option maxRecDepth 20000 in
theorem gX0_receive_X0_drop : GoodIn wsX0_receive (wsV RX0 89 RX0 yX0_drop wsX0_drop) := goodIn_app (goodIn_of _ (by decide +kernel)) ggX0_receive_X0_drop
set_option maxRecDepth 20000 in
theorem ggX0_receive_X3_send : GoodIn wsX0_receive wsX3_send := goodIn_r _ [52, 53, 54, 55, 56, 57, 58, 59, 60, 61, 62, 63, 64, 65, 66, 67, 68, 69, 70, 71, 72, 73, 74, 75, 76, 77, 78, 79, 80, 81, 82, 83, 84, 85, 86, 87, 88, 89, 90, 91, 92, 93, 94, 95, 96, 97, 98, 99, 100, 101, 102, 103, 104, 105, 106, 107, 108, 109, 110, 111, 112, 113, 114, 115, 116, 117, 118, 119, 120, 121, 122, 123, 124, 125, 138, 139, 140, 141, 142, 143, 144, 166, 167, 168, 169] (by decide +kernel) (by decide +kernel)
set_option maxRecDepth 20000 in
theorem gX0_receive_X3_send : GoodIn wsX0_receive (wsV RX0 78 RX3 yX3_send wsX3_send) := goodIn_app (goodIn_of _ (by decide +kernel)) ggX0_receive_X3_send
theorem dX0_receive_0 : decode cX0_receive 0 = .ok (.aload_n 1, 1) := by decide +kernel
theorem dX0_receive_1 : decode cX0_receive 1 = .ok (.getfield 92, 3) := by decide +kernel
theorem dX0_receive_4 : decode cX0_receive 4 = .ok (.tableswitch 186 5 11 #[44, 44, 85, 109, 109, 117, 163], 44) := by decide +kernel
theorem dX0_receive_48 : decode cX0_receive 48 = .ok (.aload_n 0, 1) := by decide +kernel
theorem dX0_receive_49 : decode cX0_receive 49 = .ok (.getfield 12, 3) := by decide +kernel
theorem dX0_receive_52 : decode cX0_receive 52 = .ok (.iconst 1, 1) := by decide +kernel
theorem dX0_receive_53 : decode cX0_receive 53 = .ok (.putfield 95, 3) := by decide +kernel
theorem dX0_receive_56 : decode cX0_receive 56 = .ok (.aload_n 0, 1) := by decide +kernel
theorem dX0_receive_57 : decode cX0_receive 57 = .ok (.getfield 12, 3) := by decide +kernel
theorem dX0_receive_60 : decode cX0_receive 60 = .ok (.aload_n 1, 1) := by decide +kernel
theorem dX0_receive_61 : decode cX0_receive 61 = .ok (.getfield 84, 3) := by decide +kernel
theorem dX0_receive_64 : decode cX0_receive 64 = .ok (.putfield 99, 3) := by decide +kernel
theorem dX0_receive_67 : decode cX0_receive 67 = .ok (.aload_n 0, 1) := by decide +kernel
theorem dX0_receive_68 : decode cX0_receive 68 = .ok (.getfield 12, 3) := by decide +kernel
theorem dX0_receive_71 : decode cX0_receive 71 = .ok (.aload_n 1, 1) := by decide +kernel
theorem dX0_receive_72 : decode cX0_receive 72 = .ok (.getfield 102, 3) := by decide +kernel
theorem dX0_receive_75 : decode cX0_receive 75 = .ok (.putfield 105, 3) := by decide +kernel
theorem dX0_receive_78 : decode cX0_receive 78 = .ok (.aload_n 0, 1) := by decide +kernel
theorem dX0_receive_79 : decode cX0_receive 79 = .ok (.aload_n 1, 1) := by decide +kernel
theorem dX0_receive_80 : decode cX0_receive 80 = .ok (.getfield 108, 3) := by decide +kernel
theorem dX0_receive_83 : decode cX0_receive 83 = .ok (.invokevirtual 109, 3) := by decide +kernel
theorem dX0_receive_86 : decode cX0_receive 86 = .ok (.goto 104, 3) := by decide +kernel
theorem dX0_receive_89 : decode cX0_receive 89 = .ok (.aload_n 0, 1) := by decide +kernel
theorem dX0_receive_90 : decode cX0_receive 90 = .ok (.getfield 12, 3) := by decide +kernel
theorem dX0_receive_93 : decode cX0_receive 93 = .ok (.dup, 1) := by decide +kernel
theorem dX0_receive_94 : decode cX0_receive 94 = .ok (.getfield 112, 3) := by decide +kernel
theorem dX0_receive_97 : decode cX0_receive 97 = .ok (.iconst 1, 1) := by decide +kernel
theorem dX0_receive_98 : decode cX0_receive 98 = .ok (.iadd, 1) := by decide +kernel
theorem dX0_receive_99 : decode cX0_receive 99 = .ok (.putfield 112, 3) := by decide +kernel
theorem dX0_receive_102 : decode cX0_receive 102 = .ok (.aload_n 0, 1) := by decide +kernel
theorem dX0_receive_103 : decode cX0_receive 103 = .ok (.aload_n 1, 1) := by decide +kernel
theorem dX0_receive_104 : decode cX0_receive 104 = .ok (.getfield 108, 3) := by decide +kernel
theorem dX0_receive_107 : decode cX0_receive 107 = .ok (.invokevirtual 109, 3) := by decide +kernel
theorem dX0_receive_110 : decode cX0_receive 110 = .ok (.goto 80, 3) := by decide +kernel
theorem dX0_receive_113 : decode cX0_receive 113 = .ok (.aload_n 0, 1) := by decide +kernel
theorem dX0_receive_114 : decode cX0_receive 114 = .ok (.aload_n 1, 1) := by decide +kernel
theorem dX0_receive_115 : decode cX0_receive 115 = .ok (.invokevirtual 115, 3) := by decide +kernel
theorem dX0_receive_118 : decode cX0_receive 118 = .ok (.goto 72, 3) := by decide +kernel
theorem dX0_receive_121 : decode cX0_receive 121 = .ok (.aload_n 0, 1) := by decide +kernel
theorem dX0_receive_122 : decode cX0_receive 122 = .ok (.getfield 18, 3) := by decide +kernel
theorem dX0_receive_125 : decode cX0_receive 125 = .ok (.aload_n 1, 1) := by decide +kernel
theorem dX0_receive_126 : decode cX0_receive 126 = .ok (.getfield 108, 3) := by decide +kernel
theorem dX0_receive_129 : decode cX0_receive 129 = .ok (.iaload, 1) := by decide +kernel
theorem dX0_receive_130 : decode cX0_receive 130 = .ok (.iconst 1, 1) := by decide +kernel
theorem dX0_receive_131 : decode cX0_receive 131 = .ok (.if_icmp .ne 11, 3) := by decide +kernel
theorem dX0_receive_134 : decode cX0_receive 134 = .ok (.aload_n 0, 1) := by decide +kernel
theorem dX0_receive_135 : decode cX0_receive 135 = .ok (.aload_n 1, 1) := by decide +kernel
theorem dX0_receive_136 : decode cX0_receive 136 = .ok (.getfield 108, 3) := by decide +kernel
theorem dX0_receive_139 : decode cX0_receive 139 = .ok (.invokevirtual 89, 3) := by decide +kernel
theorem dX0_receive_142 : decode cX0_receive 142 = .ok (.aload_n 0, 1) := by decide +kernel
theorem dX0_receive_143 : decode cX0_receive 143 = .ok (.getfield 56, 3) := by decide +kernel
theorem dX0_receive_146 : decode cX0_receive 146 = .ok (.bipush 7, 2) := by decide +kernel
theorem dX0_receive_148 : decode cX0_receive 148 = .ok (.aload_n 1, 1) := by decide +kernel
theorem dX0_receive_149 : decode cX0_receive 149 = .ok (.getfield 108, 3) := by decide +kernel
theorem dX0_receive_152 : decode cX0_receive 152 = .ok (.aload_n 0, 1) := by decide +kernel
theorem dX0_receive_153 : decode cX0_receive 153 = .ok (.getfield 53, 3) := by decide +kernel
theorem dX0_receive_156 : decode cX0_receive 156 = .ok (.aload_n 1, 1) := by decide +kernel
theorem dX0_receive_157 : decode cX0_receive 157 = .ok (.getfield 119, 3) := by decide +kernel
theorem dX0_receive_160 : decode cX0_receive 160 = .ok (.invokevirtual 78, 3) := by decide +kernel
theorem dX0_receive_163 : decode cX0_receive 163 = .ok (.pop, 1) := by decide +kernel
theorem dX0_receive_164 : decode cX0_receive 164 = .ok (.goto 26, 3) := by decide +kernel
theorem dX0_receive_167 : decode cX0_receive 167 = .ok (.aload_n 0, 1) := by decide +kernel
theorem dX0_receive_168 : decode cX0_receive 168 = .ok (.getfield 25, 3) := by decide +kernel
theorem dX0_receive_171 : decode cX0_receive 171 = .ok (.aload_n 1, 1) := by decide +kernel
theorem dX0_receive_172 : decode cX0_receive 172 = .ok (.getfield 108, 3) := by decide +kernel
theorem dX0_receive_175 : decode cX0_receive 175 = .ok (.iconst (-1), 1) := by decide +kernel
theorem dX0_receive_176 : decode cX0_receive 176 = .ok (.iastore, 1) := by decide +kernel
theorem dX0_receive_177 : decode cX0_receive 177 = .ok (.aload_n 0, 1) := by decide +kernel
theorem dX0_receive_178 : decode cX0_receive 178 = .ok (.dup, 1) := by decide +kernel
theorem dX0_receive_179 : decode cX0_receive 179 = .ok (.getfield 35, 3) := by decide +kernel
theorem dX0_receive_182 : decode cX0_receive 182 = .ok (.iconst 1, 1) := by decide +kernel
theorem dX0_receive_183 : decode cX0_receive 183 = .ok (.isub, 1) := by decide +kernel
theorem dX0_receive_184 : decode cX0_receive 184 = .ok (.putfield 35, 3) := by decide +kernel
theorem dX0_receive_187 : decode cX0_receive 187 = .ok (.goto 3, 3) := by decide +kernel
theorem dX0_receive_190 : decode cX0_receive 190 = .ok (.return_, 1) := by decide +kernel
set_option maxRecDepth 20000 in
theorem ggX0_finishIfComplete_X4_isComplete : GoodIn wsX0_finishIfComplete wsX4_isComplete := goodIn_r _ [13, 14, 15, 16, 126, 127, 128, 129, 130, 131, 132] (by decide +kernel) (by decide +kernel)
set_option maxRecDepth 20000 in
theorem gX0_finishIfComplete_X4_isComplete : GoodIn wsX0_finishIfComplete (wsV RX0 122 RX4 yX4_isComplete wsX4_isComplete) := goodIn_app (goodIn_of _ (by decide +kernel)) ggX0_finishIfComplete_X4_isComplete
set_option maxRecDepth 20000 in
theorem ggX0_finishIfComplete_X0_store : GoodIn wsX0_finishIfComplete wsX0_store := goodIn_r _ [21, 22, 23, 24, 25, 26, 20, 27, 28, 29, 30, 31, 32, 33, 112, 113, 114, 115, 116, 117, 118, 119, 120, 121, 122, 123, 124, 125] (by decide +kernel) (by decide +kernel)
set_option maxRecDepth 20000 in
theorem gX0_finishIfComplete_X0_store : GoodIn wsX0_finishIfComplete (wsV RX0 132 RX0 yX0_store wsX0_store) := goodIn_app (goodIn_of _ (by decide +kernel)) ggX0_finishIfComplete_X0_store
set_option maxRecDepth 20000 in
theorem ggX0_finishIfComplete_X3_send : GoodIn wsX0_finishIfComplete wsX3_send := goodIn_r _ [38, 39, 40, 41, 42, 43, 44, 45, 46, 47, 48, 49, 50, 51, 52, 53, 54, 55, 56, 57, 58, 59, 60, 61, 62, 63, 64, 65, 66, 67, 68, 69, 70, 71, 72, 73, 74, 75, 76, 77, 78, 79, 80, 81, 82, 83, 84, 85, 86, 87, 88, 89, 90, 91, 92, 93, 94, 95, 96, 97, 98, 99, 100, 101, 102, 103, 104, 105, 106, 107, 108, 109, 110, 111, 133, 134, 135, 136, 137, 138, 139, 140, 141, 142, 143] (by decide +kernel) (by decide +kernel)
set_option maxRecDepth 20000 in
theorem gX0_finishIfComplete_X3_send : GoodIn wsX0_finishIfComplete (wsV RX0 78 RX3 yX3_send wsX3_send) := goodIn_app (goodIn_of _ (by decide +kernel)) ggX0_finishIfComplete_X3_send
theorem dX0_finishIfComplete_0 : decode cX0_finishIfComplete 0 = .ok (.aload_n 0, 1) := by decide +kernel
theorem dX0_finishIfComplete_1 : decode cX0_finishIfComplete 1 = .ok (.getfield 12, 3) := by decide +kernel
theorem dX0_finishIfComplete_4 : decode cX0_finishIfComplete 4 = .ok (.invokevirtual 122, 3) := by decide +kernel
theorem dX0_finishIfComplete_7 : decode cX0_finishIfComplete 7 = .ok (.ifCond .ne 4, 3) := by decide +kernel
theorem dX0_finishIfComplete_10 : decode cX0_finishIfComplete 10 = .ok (.return_, 1) := by decide +kernel
theorem dX0_finishIfComplete_11 : decode cX0_finishIfComplete 11 = .ok (.aload_n 0, 1) := by decide +kernel
theorem dX0_finishIfComplete_12 : decode cX0_finishIfComplete 12 = .ok (.getfield 12, 3) := by decide +kernel
theorem dX0_finishIfComplete_15 : decode cX0_finishIfComplete 15 = .ok (.getfield 126, 3) := by decide +kernel
theorem dX0_finishIfComplete_18 : decode cX0_finishIfComplete 18 = .ok (.ifCond .eq 19, 3) := by decide +kernel
theorem dX0_finishIfComplete_21 : decode cX0_finishIfComplete 21 = .ok (.aload_n 0, 1) := by decide +kernel
theorem dX0_finishIfComplete_22 : decode cX0_finishIfComplete 22 = .ok (.iload_n 1, 1) := by decide +kernel
theorem dX0_finishIfComplete_23 : decode cX0_finishIfComplete 23 = .ok (.iconst 3, 1) := by decide +kernel
theorem dX0_finishIfComplete_24 : decode cX0_finishIfComplete 24 = .ok (.aload_n 0, 1) := by decide +kernel
theorem dX0_finishIfComplete_25 : decode cX0_finishIfComplete 25 = .ok (.getfield 12, 3) := by decide +kernel
theorem dX0_finishIfComplete_28 : decode cX0_finishIfComplete 28 = .ok (.getfield 129, 3) := by decide +kernel
theorem dX0_finishIfComplete_31 : decode cX0_finishIfComplete 31 = .ok (.invokevirtual 132, 3) := by decide +kernel
theorem dX0_finishIfComplete_34 : decode cX0_finishIfComplete 34 = .ok (.goto 27, 3) := by decide +kernel
theorem dX0_finishIfComplete_37 : decode cX0_finishIfComplete 37 = .ok (.aload_n 0, 1) := by decide +kernel
theorem dX0_finishIfComplete_38 : decode cX0_finishIfComplete 38 = .ok (.iload_n 1, 1) := by decide +kernel
theorem dX0_finishIfComplete_39 : decode cX0_finishIfComplete 39 = .ok (.iconst 1, 1) := by decide +kernel
theorem dX0_finishIfComplete_40 : decode cX0_finishIfComplete 40 = .ok (.aload_n 0, 1) := by decide +kernel
theorem dX0_finishIfComplete_41 : decode cX0_finishIfComplete 41 = .ok (.getfield 12, 3) := by decide +kernel
theorem dX0_finishIfComplete_44 : decode cX0_finishIfComplete 44 = .ok (.getfield 99, 3) := by decide +kernel
theorem dX0_finishIfComplete_47 : decode cX0_finishIfComplete 47 = .ok (.invokevirtual 132, 3) := by decide +kernel
theorem dX0_finishIfComplete_50 : decode cX0_finishIfComplete 50 = .ok (.aload_n 0, 1) := by decide +kernel
theorem dX0_finishIfComplete_51 : decode cX0_finishIfComplete 51 = .ok (.aload_n 0, 1) := by decide +kernel
theorem dX0_finishIfComplete_52 : decode cX0_finishIfComplete 52 = .ok (.getfield 12, 3) := by decide +kernel
theorem dX0_finishIfComplete_55 : decode cX0_finishIfComplete 55 = .ok (.getfield 99, 3) := by decide +kernel
theorem dX0_finishIfComplete_58 : decode cX0_finishIfComplete 58 = .ok (.putfield 44, 3) := by decide +kernel
theorem dX0_finishIfComplete_61 : decode cX0_finishIfComplete 61 = .ok (.aload_n 0, 1) := by decide +kernel
theorem dX0_finishIfComplete_62 : decode cX0_finishIfComplete 62 = .ok (.getfield 12, 3) := by decide +kernel
theorem dX0_finishIfComplete_65 : decode cX0_finishIfComplete 65 = .ok (.iconst (-1), 1) := by decide +kernel
theorem dX0_finishIfComplete_66 : decode cX0_finishIfComplete 66 = .ok (.putfield 60, 3) := by decide +kernel
theorem dX0_finishIfComplete_69 : decode cX0_finishIfComplete 69 = .ok (.aload_n 0, 1) := by decide +kernel
theorem dX0_finishIfComplete_70 : decode cX0_finishIfComplete 70 = .ok (.getfield 56, 3) := by decide +kernel
theorem dX0_finishIfComplete_73 : decode cX0_finishIfComplete 73 = .ok (.iconst 4, 1) := by decide +kernel
theorem dX0_finishIfComplete_74 : decode cX0_finishIfComplete 74 = .ok (.iload_n 1, 1) := by decide +kernel
theorem dX0_finishIfComplete_75 : decode cX0_finishIfComplete 75 = .ok (.aload_n 0, 1) := by decide +kernel
theorem dX0_finishIfComplete_76 : decode cX0_finishIfComplete 76 = .ok (.getfield 53, 3) := by decide +kernel
theorem dX0_finishIfComplete_79 : decode cX0_finishIfComplete 79 = .ok (.iconst (-1), 1) := by decide +kernel
theorem dX0_finishIfComplete_80 : decode cX0_finishIfComplete 80 = .ok (.invokevirtual 78, 3) := by decide +kernel
theorem dX0_finishIfComplete_83 : decode cX0_finishIfComplete 83 = .ok (.pop, 1) := by decide +kernel
theorem dX0_finishIfComplete_84 : decode cX0_finishIfComplete 84 = .ok (.return_, 1) := by decide +kernel
set_option maxRecDepth 20000 in
theorem ggX0_passOn_X3_send : GoodIn wsX0_passOn wsX3_send := goodIn_r _ [15, 16, 17, 18, 19, 20, 21, 22, 23, 24, 25, 26, 27, 28, 29, 30, 31, 32, 33, 34, 35, 36, 37, 38, 39, 40, 41, 42, 43, 44, 45, 46, 47, 48, 49, 50, 51, 52, 53, 54, 55, 56, 57, 58, 59, 60, 61, 62, 63, 64, 65, 66, 67, 68, 69, 70, 71, 72, 73, 74, 75, 76, 77, 78, 79, 80, 81, 82, 83, 84, 85, 86, 87, 88, 104, 105, 106, 107, 108, 109, 110, 125, 126, 127, 128] (by decide +kernel) (by decide +kernel)
set_option maxRecDepth 20000 in
theorem gX0_passOn_X3_send : GoodIn wsX0_passOn (wsV RX0 78 RX3 yX3_send wsX3_send) := goodIn_app (goodIn_of _ (by decide +kernel)) ggX0_passOn_X3_send
set_option maxRecDepth 20000 in
theorem ggX0_passOn_X0_holds : GoodIn wsX0_passOn wsX0_holds := goodIn_r _ [93, 10, 111, 112, 113, 114, 115, 116, 117, 118, 119, 120, 121, 122, 123, 124] (by decide +kernel) (by decide +kernel)
set_option maxRecDepth 20000 in
theorem gX0_passOn_X0_holds : GoodIn wsX0_passOn (wsV RX0 63 RX0 yX0_holds wsX0_holds) := goodIn_app (goodIn_of _ (by decide +kernel)) ggX0_passOn_X0_holds
set_option maxRecDepth 20000 in
theorem ggX0_passOn_X0_drop : GoodIn wsX0_passOn wsX0_drop := goodIn_r _ [97, 10, 5, 98, 99, 100, 92, 101, 102, 103, 111, 112, 113, 114, 115, 116, 117, 118, 119, 120, 121, 122, 123, 124] (by decide +kernel) (by decide +kernel)
set_option maxRecDepth 20000 in
theorem gX0_passOn_X0_drop : GoodIn wsX0_passOn (wsV RX0 89 RX0 yX0_drop wsX0_drop) := goodIn_app (goodIn_of _ (by decide +kernel)) ggX0_passOn_X0_drop
theorem dX0_passOn_0 : decode cX0_passOn 0 = .ok (.aload_n 1, 1) := by decide +kernel
theorem dX0_passOn_1 : decode cX0_passOn 1 = .ok (.getfield 108, 3) := by decide +kernel
theorem dX0_passOn_4 : decode cX0_passOn 4 = .ok (.istore_n 2, 1) := by decide +kernel
theorem dX0_passOn_5 : decode cX0_passOn 5 = .ok (.aload_n 0, 1) := by decide +kernel
theorem dX0_passOn_6 : decode cX0_passOn 6 = .ok (.getfield 56, 3) := by decide +kernel
theorem dX0_passOn_9 : decode cX0_passOn 9 = .ok (.iconst 5, 1) := by decide +kernel
theorem dX0_passOn_10 : decode cX0_passOn 10 = .ok (.iload_n 2, 1) := by decide +kernel
theorem dX0_passOn_11 : decode cX0_passOn 11 = .ok (.aload_n 0, 1) := by decide +kernel
theorem dX0_passOn_12 : decode cX0_passOn 12 = .ok (.getfield 53, 3) := by decide +kernel
theorem dX0_passOn_15 : decode cX0_passOn 15 = .ok (.aload_n 1, 1) := by decide +kernel
theorem dX0_passOn_16 : decode cX0_passOn 16 = .ok (.getfield 119, 3) := by decide +kernel
theorem dX0_passOn_19 : decode cX0_passOn 19 = .ok (.invokevirtual 78, 3) := by decide +kernel
theorem dX0_passOn_22 : decode cX0_passOn 22 = .ok (.astore_n 3, 1) := by decide +kernel
theorem dX0_passOn_23 : decode cX0_passOn 23 = .ok (.aload_n 3, 1) := by decide +kernel
theorem dX0_passOn_24 : decode cX0_passOn 24 = .ok (.aload_n 0, 1) := by decide +kernel
theorem dX0_passOn_25 : decode cX0_passOn 25 = .ok (.iload_n 2, 1) := by decide +kernel
theorem dX0_passOn_26 : decode cX0_passOn 26 = .ok (.invokevirtual 63, 3) := by decide +kernel
theorem dX0_passOn_29 : decode cX0_passOn 29 = .ok (.ifCond .eq 12, 3) := by decide +kernel
theorem dX0_passOn_32 : decode cX0_passOn 32 = .ok (.aload_n 0, 1) := by decide +kernel
theorem dX0_passOn_33 : decode cX0_passOn 33 = .ok (.getfield 22, 3) := by decide +kernel
theorem dX0_passOn_36 : decode cX0_passOn 36 = .ok (.iload_n 2, 1) := by decide +kernel
theorem dX0_passOn_37 : decode cX0_passOn 37 = .ok (.iaload, 1) := by decide +kernel
theorem dX0_passOn_38 : decode cX0_passOn 38 = .ok (.goto 9, 3) := by decide +kernel
theorem dX0_passOn_41 : decode cX0_passOn 41 = .ok (.aload_n 0, 1) := by decide +kernel
theorem dX0_passOn_42 : decode cX0_passOn 42 = .ok (.getfield 25, 3) := by decide +kernel
theorem dX0_passOn_45 : decode cX0_passOn 45 = .ok (.iload_n 2, 1) := by decide +kernel
theorem dX0_passOn_46 : decode cX0_passOn 46 = .ok (.iaload, 1) := by decide +kernel
theorem dX0_passOn_47 : decode cX0_passOn 47 = .ok (.putfield 84, 3) := by decide +kernel
theorem dX0_passOn_50 : decode cX0_passOn 50 = .ok (.aload_n 3, 1) := by decide +kernel
theorem dX0_passOn_51 : decode cX0_passOn 51 = .ok (.aload_n 1, 1) := by decide +kernel
theorem dX0_passOn_52 : decode cX0_passOn 52 = .ok (.getfield 102, 3) := by decide +kernel
theorem dX0_passOn_55 : decode cX0_passOn 55 = .ok (.putfield 102, 3) := by decide +kernel
theorem dX0_passOn_58 : decode cX0_passOn 58 = .ok (.aload_n 1, 1) := by decide +kernel
theorem dX0_passOn_59 : decode cX0_passOn 59 = .ok (.getfield 92, 3) := by decide +kernel
theorem dX0_passOn_62 : decode cX0_passOn 62 = .ok (.bipush 9, 2) := by decide +kernel
theorem dX0_passOn_64 : decode cX0_passOn 64 = .ok (.if_icmp .ne 11, 3) := by decide +kernel
theorem dX0_passOn_67 : decode cX0_passOn 67 = .ok (.aload_n 0, 1) := by decide +kernel
theorem dX0_passOn_68 : decode cX0_passOn 68 = .ok (.iload_n 2, 1) := by decide +kernel
theorem dX0_passOn_69 : decode cX0_passOn 69 = .ok (.invokevirtual 89, 3) := by decide +kernel
theorem dX0_passOn_72 : decode cX0_passOn 72 = .ok (.goto 20, 3) := by decide +kernel
theorem dX0_passOn_75 : decode cX0_passOn 75 = .ok (.aload_n 0, 1) := by decide +kernel
theorem dX0_passOn_76 : decode cX0_passOn 76 = .ok (.getfield 18, 3) := by decide +kernel
theorem dX0_passOn_79 : decode cX0_passOn 79 = .ok (.iload_n 2, 1) := by decide +kernel
theorem dX0_passOn_80 : decode cX0_passOn 80 = .ok (.iaload, 1) := by decide +kernel
theorem dX0_passOn_81 : decode cX0_passOn 81 = .ok (.iconst 3, 1) := by decide +kernel
theorem dX0_passOn_82 : decode cX0_passOn 82 = .ok (.if_icmp .ne 10, 3) := by decide +kernel
theorem dX0_passOn_85 : decode cX0_passOn 85 = .ok (.aload_n 0, 1) := by decide +kernel
theorem dX0_passOn_86 : decode cX0_passOn 86 = .ok (.getfield 18, 3) := by decide +kernel
theorem dX0_passOn_89 : decode cX0_passOn 89 = .ok (.iload_n 2, 1) := by decide +kernel
theorem dX0_passOn_90 : decode cX0_passOn 90 = .ok (.iconst 2, 1) := by decide +kernel
theorem dX0_passOn_91 : decode cX0_passOn 91 = .ok (.iastore, 1) := by decide +kernel
theorem dX0_passOn_92 : decode cX0_passOn 92 = .ok (.return_, 1) := by decide +kernel
set_option maxRecDepth 20000 in
theorem ggX0_store_X0_markUsed : GoodIn wsX0_store wsX0_markUsed := goodIn_r _ [7, 8, 9, 10, 11, 12, 6, 13, 14, 15, 16, 17, 18, 19, 20, 21, 22, 23, 24, 25, 26, 27] (by decide +kernel) (by decide +kernel)
set_option maxRecDepth 20000 in
theorem gX0_store_X0_markUsed : GoodIn wsX0_store (wsV RX0 136 RX0 yX0_markUsed wsX0_markUsed) := goodIn_app (goodIn_of _ (by decide +kernel)) ggX0_store_X0_markUsed
theorem dX0_store_0 : decode cX0_store 0 = .ok (.aload_n 0, 1) := by decide +kernel
theorem dX0_store_1 : decode cX0_store 1 = .ok (.getfield 18, 3) := by decide +kernel
theorem dX0_store_4 : decode cX0_store 4 = .ok (.iload_n 1, 1) := by decide +kernel
theorem dX0_store_5 : decode cX0_store 5 = .ok (.iload_n 2, 1) := by decide +kernel
theorem dX0_store_6 : decode cX0_store 6 = .ok (.iastore, 1) := by decide +kernel
theorem dX0_store_7 : decode cX0_store 7 = .ok (.aload_n 0, 1) := by decide +kernel
theorem dX0_store_8 : decode cX0_store 8 = .ok (.getfield 22, 3) := by decide +kernel
theorem dX0_store_11 : decode cX0_store 11 = .ok (.iload_n 1, 1) := by decide +kernel
theorem dX0_store_12 : decode cX0_store 12 = .ok (.iload_n 3, 1) := by decide +kernel
theorem dX0_store_13 : decode cX0_store 13 = .ok (.iastore, 1) := by decide +kernel
theorem dX0_store_14 : decode cX0_store 14 = .ok (.aload_n 0, 1) := by decide +kernel
theorem dX0_store_15 : decode cX0_store 15 = .ok (.iload_n 1, 1) := by decide +kernel
theorem dX0_store_16 : decode cX0_store 16 = .ok (.invokevirtual 136, 3) := by decide +kernel
theorem dX0_store_19 : decode cX0_store 19 = .ok (.return_, 1) := by decide +kernel
set_option maxRecDepth 20000 in
theorem ggX0_drop_X0_leaveUseOrder : GoodIn wsX0_drop wsX0_leaveUseOrder := goodIn_r _ [7, 8, 9, 10, 11, 12, 13, 14, 15, 16, 17, 18, 19, 20, 21, 22, 23] (by decide +kernel) (by decide +kernel)
set_option maxRecDepth 20000 in
theorem gX0_drop_X0_leaveUseOrder : GoodIn wsX0_drop (wsV RX0 139 RX0 yX0_leaveUseOrder wsX0_leaveUseOrder) := goodIn_app (goodIn_of _ (by decide +kernel)) ggX0_drop_X0_leaveUseOrder
theorem dX0_drop_0 : decode cX0_drop 0 = .ok (.aload_n 0, 1) := by decide +kernel
theorem dX0_drop_1 : decode cX0_drop 1 = .ok (.getfield 18, 3) := by decide +kernel
theorem dX0_drop_4 : decode cX0_drop 4 = .ok (.iload_n 1, 1) := by decide +kernel
theorem dX0_drop_5 : decode cX0_drop 5 = .ok (.iconst 0, 1) := by decide +kernel
theorem dX0_drop_6 : decode cX0_drop 6 = .ok (.iastore, 1) := by decide +kernel
theorem dX0_drop_7 : decode cX0_drop 7 = .ok (.aload_n 0, 1) := by decide +kernel
theorem dX0_drop_8 : decode cX0_drop 8 = .ok (.getfield 22, 3) := by decide +kernel
theorem dX0_drop_11 : decode cX0_drop 11 = .ok (.iload_n 1, 1) := by decide +kernel
theorem dX0_drop_12 : decode cX0_drop 12 = .ok (.iconst (-1), 1) := by decide +kernel
theorem dX0_drop_13 : decode cX0_drop 13 = .ok (.iastore, 1) := by decide +kernel
theorem dX0_drop_14 : decode cX0_drop 14 = .ok (.aload_n 0, 1) := by decide +kernel
theorem dX0_drop_15 : decode cX0_drop 15 = .ok (.iload_n 1, 1) := by decide +kernel
theorem dX0_drop_16 : decode cX0_drop 16 = .ok (.invokevirtual 139, 3) := by decide +kernel
theorem dX0_drop_19 : decode cX0_drop 19 = .ok (.return_, 1) := by decide +kernel
set_option maxRecDepth 20000 in
theorem ggX0_markUsed_X0_leaveUseOrder : GoodIn wsX0_markUsed wsX0_leaveUseOrder := goodIn_r _ [7, 1, 2, 8, 9, 10, 11, 12, 13, 14, 15, 16, 17, 18, 19, 20, 21] (by decide +kernel) (by decide +kernel)
set_option maxRecDepth 20000 in
theorem gX0_markUsed_X0_leaveUseOrder : GoodIn wsX0_markUsed (wsV RX0 139 RX0 yX0_leaveUseOrder wsX0_leaveUseOrder) := goodIn_app (goodIn_of _ (by decide +kernel)) ggX0_markUsed_X0_leaveUseOrder
theorem dX0_markUsed_0 : decode cX0_markUsed 0 = .ok (.aload_n 0, 1) := by decide +kernel
theorem dX0_markUsed_1 : decode cX0_markUsed 1 = .ok (.iload_n 1, 1) := by decide +kernel
theorem dX0_markUsed_2 : decode cX0_markUsed 2 = .ok (.invokevirtual 139, 3) := by decide +kernel
theorem dX0_markUsed_5 : decode cX0_markUsed 5 = .ok (.aload_n 0, 1) := by decide +kernel
theorem dX0_markUsed_6 : decode cX0_markUsed 6 = .ok (.getfield 31, 3) := by decide +kernel
theorem dX0_markUsed_9 : decode cX0_markUsed 9 = .ok (.iconst 4, 1) := by decide +kernel
theorem dX0_markUsed_10 : decode cX0_markUsed 10 = .ok (.if_icmp .ge 23, 3) := by decide +kernel
theorem dX0_markUsed_13 : decode cX0_markUsed 13 = .ok (.aload_n 0, 1) := by decide +kernel
theorem dX0_markUsed_14 : decode cX0_markUsed 14 = .ok (.getfield 28, 3) := by decide +kernel
theorem dX0_markUsed_17 : decode cX0_markUsed 17 = .ok (.aload_n 0, 1) := by decide +kernel
theorem dX0_markUsed_18 : decode cX0_markUsed 18 = .ok (.getfield 31, 3) := by decide +kernel
theorem dX0_markUsed_21 : decode cX0_markUsed 21 = .ok (.iload_n 1, 1) := by decide +kernel
theorem dX0_markUsed_22 : decode cX0_markUsed 22 = .ok (.iastore, 1) := by decide +kernel
theorem dX0_markUsed_23 : decode cX0_markUsed 23 = .ok (.aload_n 0, 1) := by decide +kernel
theorem dX0_markUsed_24 : decode cX0_markUsed 24 = .ok (.dup, 1) := by decide +kernel
theorem dX0_markUsed_25 : decode cX0_markUsed 25 = .ok (.getfield 31, 3) := by decide +kernel
theorem dX0_markUsed_28 : decode cX0_markUsed 28 = .ok (.iconst 1, 1) := by decide +kernel
theorem dX0_markUsed_29 : decode cX0_markUsed 29 = .ok (.iadd, 1) := by decide +kernel
theorem dX0_markUsed_30 : decode cX0_markUsed 30 = .ok (.putfield 31, 3) := by decide +kernel
theorem dX0_markUsed_33 : decode cX0_markUsed 33 = .ok (.return_, 1) := by decide +kernel
theorem dX0_leaveUseOrder_0 : decode cX0_leaveUseOrder 0 = .ok (.iconst 0, 1) := by decide +kernel
theorem dX0_leaveUseOrder_1 : decode cX0_leaveUseOrder 1 = .ok (.istore_n 2, 1) := by decide +kernel
theorem dX0_leaveUseOrder_2 : decode cX0_leaveUseOrder 2 = .ok (.iconst 0, 1) := by decide +kernel
theorem dX0_leaveUseOrder_3 : decode cX0_leaveUseOrder 3 = .ok (.istore_n 3, 1) := by decide +kernel
theorem dX0_leaveUseOrder_4 : decode cX0_leaveUseOrder 4 = .ok (.iload_n 3, 1) := by decide +kernel
theorem dX0_leaveUseOrder_5 : decode cX0_leaveUseOrder 5 = .ok (.aload_n 0, 1) := by decide +kernel
theorem dX0_leaveUseOrder_6 : decode cX0_leaveUseOrder 6 = .ok (.getfield 31, 3) := by decide +kernel
theorem dX0_leaveUseOrder_9 : decode cX0_leaveUseOrder 9 = .ok (.if_icmp .ge 34, 3) := by decide +kernel
theorem dX0_leaveUseOrder_12 : decode cX0_leaveUseOrder 12 = .ok (.aload_n 0, 1) := by decide +kernel
theorem dX0_leaveUseOrder_13 : decode cX0_leaveUseOrder 13 = .ok (.getfield 28, 3) := by decide +kernel
theorem dX0_leaveUseOrder_16 : decode cX0_leaveUseOrder 16 = .ok (.iload_n 3, 1) := by decide +kernel
theorem dX0_leaveUseOrder_17 : decode cX0_leaveUseOrder 17 = .ok (.iaload, 1) := by decide +kernel
theorem dX0_leaveUseOrder_18 : decode cX0_leaveUseOrder 18 = .ok (.iload_n 1, 1) := by decide +kernel
theorem dX0_leaveUseOrder_19 : decode cX0_leaveUseOrder 19 = .ok (.if_icmp .eq 18, 3) := by decide +kernel
theorem dX0_leaveUseOrder_22 : decode cX0_leaveUseOrder 22 = .ok (.aload_n 0, 1) := by decide +kernel
theorem dX0_leaveUseOrder_23 : decode cX0_leaveUseOrder 23 = .ok (.getfield 28, 3) := by decide +kernel
theorem dX0_leaveUseOrder_26 : decode cX0_leaveUseOrder 26 = .ok (.iload_n 2, 1) := by decide +kernel
theorem dX0_leaveUseOrder_27 : decode cX0_leaveUseOrder 27 = .ok (.aload_n 0, 1) := by decide +kernel
theorem dX0_leaveUseOrder_28 : decode cX0_leaveUseOrder 28 = .ok (.getfield 28, 3) := by decide +kernel
theorem dX0_leaveUseOrder_31 : decode cX0_leaveUseOrder 31 = .ok (.iload_n 3, 1) := by decide +kernel
theorem dX0_leaveUseOrder_32 : decode cX0_leaveUseOrder 32 = .ok (.iaload, 1) := by decide +kernel
theorem dX0_leaveUseOrder_33 : decode cX0_leaveUseOrder 33 = .ok (.iastore, 1) := by decide +kernel
theorem dX0_leaveUseOrder_34 : decode cX0_leaveUseOrder 34 = .ok (.iinc 2 1, 3) := by decide +kernel
theorem dX0_leaveUseOrder_37 : decode cX0_leaveUseOrder 37 = .ok (.iinc 3 1, 3) := by decide +kernel
theorem dX0_leaveUseOrder_40 : decode cX0_leaveUseOrder 40 = .ok (.goto (-36), 3) := by decide +kernel
theorem dX0_leaveUseOrder_43 : decode cX0_leaveUseOrder 43 = .ok (.aload_n 0, 1) := by decide +kernel
theorem dX0_leaveUseOrder_44 : decode cX0_leaveUseOrder 44 = .ok (.iload_n 2, 1) := by decide +kernel
theorem dX0_leaveUseOrder_45 : decode cX0_leaveUseOrder 45 = .ok (.putfield 31, 3) := by decide +kernel
theorem dX0_leaveUseOrder_48 : decode cX0_leaveUseOrder 48 = .ok (.return_, 1) := by decide +kernel
set_option maxRecDepth 20000 in
theorem ggX1_init_Jx4a65c_init_da8c8 : GoodIn wsX1_init wsJx4a65c_init_da8c8 := goodIn_r _ [18, 19, 20, 21, 22, 23, 24, 25, 26, 27, 28, 29, 30, 2, 3, 31, 32, 33] (by decide +kernel) (by decide +kernel)
set_option maxRecDepth 20000 in
theorem gX1_init_Jx4a65c_init_da8c8 : GoodIn wsX1_init (wsJx4a65c_init_da8c8) := ggX1_init_Jx4a65c_init_da8c8
theorem dX1_init_0 : decode cX1_init 0 = .ok (.aload_n 0, 1) := by decide +kernel
theorem dX1_init_1 : decode cX1_init 1 = .ok (.invokespecial 3, 3) := by decide +kernel
theorem dX1_init_4 : decode cX1_init 4 = .ok (.aload_n 0, 1) := by decide +kernel
theorem dX1_init_5 : decode cX1_init 5 = .ok (.new 9, 3) := by decide +kernel
theorem dX1_init_8 : decode cX1_init 8 = .ok (.dup, 1) := by decide +kernel
theorem dX1_init_9 : decode cX1_init 9 = .ok (.invokespecial 11, 3) := by decide +kernel
theorem dX1_init_12 : decode cX1_init 12 = .ok (.putfield 12, 3) := by decide +kernel
theorem dX1_init_15 : decode cX1_init 15 = .ok (.aload_n 0, 1) := by decide +kernel
theorem dX1_init_16 : decode cX1_init 16 = .ok (.iconst 0, 1) := by decide +kernel
theorem dX1_init_17 : decode cX1_init 17 = .ok (.putfield 18, 3) := by decide +kernel
theorem dX1_init_20 : decode cX1_init 20 = .ok (.aload_n 0, 1) := by decide +kernel
theorem dX1_init_21 : decode cX1_init 21 = .ok (.iconst (-1), 1) := by decide +kernel
theorem dX1_init_22 : decode cX1_init 22 = .ok (.putfield 22, 3) := by decide +kernel
theorem dX1_init_25 : decode cX1_init 25 = .ok (.aload_n 0, 1) := by decide +kernel
theorem dX1_init_26 : decode cX1_init 26 = .ok (.iconst 0, 1) := by decide +kernel
theorem dX1_init_27 : decode cX1_init 27 = .ok (.putfield 25, 3) := by decide +kernel
theorem dX1_init_30 : decode cX1_init 30 = .ok (.aload_n 0, 1) := by decide +kernel
theorem dX1_init_31 : decode cX1_init 31 = .ok (.iconst 0, 1) := by decide +kernel
theorem dX1_init_32 : decode cX1_init 32 = .ok (.putfield 28, 3) := by decide +kernel
theorem dX1_init_35 : decode cX1_init 35 = .ok (.aload_n 0, 1) := by decide +kernel
theorem dX1_init_36 : decode cX1_init 36 = .ok (.iconst 0, 1) := by decide +kernel
theorem dX1_init_37 : decode cX1_init 37 = .ok (.putfield 32, 3) := by decide +kernel
theorem dX1_init_40 : decode cX1_init 40 = .ok (.aload_n 0, 1) := by decide +kernel
theorem dX1_init_41 : decode cX1_init 41 = .ok (.iconst 0, 1) := by decide +kernel
theorem dX1_init_42 : decode cX1_init 42 = .ok (.putfield 35, 3) := by decide +kernel
theorem dX1_init_45 : decode cX1_init 45 = .ok (.aload_n 0, 1) := by decide +kernel
theorem dX1_init_46 : decode cX1_init 46 = .ok (.iload_n 1, 1) := by decide +kernel
theorem dX1_init_47 : decode cX1_init 47 = .ok (.putfield 38, 3) := by decide +kernel
theorem dX1_init_50 : decode cX1_init 50 = .ok (.aload_n 0, 1) := by decide +kernel
theorem dX1_init_51 : decode cX1_init 51 = .ok (.aload_n 2, 1) := by decide +kernel
theorem dX1_init_52 : decode cX1_init 52 = .ok (.putfield 41, 3) := by decide +kernel
theorem dX1_init_55 : decode cX1_init 55 = .ok (.return_, 1) := by decide +kernel
set_option maxRecDepth 20000 in
theorem ggX1_receive_Jx4a65c_size_8abf5 : GoodIn wsX1_receive wsJx4a65c_size_8abf5 := goodIn_r _ [9, 10, 160, 161, 162] (by decide +kernel) (by decide +kernel)
set_option maxRecDepth 20000 in
theorem gX1_receive_Jx4a65c_size_8abf5 : GoodIn wsX1_receive (wsV RX1 50 RJx4a65c yJx4a65c_size_8abf5 wsJx4a65c_size_8abf5) := goodIn_app (goodIn_of _ (by decide +kernel)) ggX1_receive_Jx4a65c_size_8abf5
set_option maxRecDepth 20000 in
theorem ggX1_receive_Jx4a65c_isEmpty_aae02 : GoodIn wsX1_receive wsJx4a65c_isEmpty_aae02 := goodIn_r _ [14, 10, 160, 161, 162] (by decide +kernel) (by decide +kernel)
set_option maxRecDepth 20000 in
theorem gX1_receive_Jx4a65c_isEmpty_aae02 : GoodIn wsX1_receive (wsV RX1 54 RJx4a65c yJx4a65c_isEmpty_aae02 wsJx4a65c_isEmpty_aae02) := goodIn_app (goodIn_of _ (by decide +kernel)) ggX1_receive_Jx4a65c_isEmpty_aae02
set_option maxRecDepth 20000 in
theorem ggX1_receive_Jx4a65c_remove_915e3 : GoodIn wsX1_receive wsJx4a65c_remove_915e3 := goodIn_r _ [18, 10, 19, 20, 21, 22, 23, 24, 25, 26, 27, 28, 29, 30, 8, 31, 32, 33, 34, 35, 36, 37, 160, 161, 162] (by decide +kernel) (by decide +kernel)
set_option maxRecDepth 20000 in
theorem gX1_receive_Jx4a65c_remove_915e3 : GoodIn wsX1_receive (wsV RX1 58 RJx4a65c yJx4a65c_remove_915e3 wsJx4a65c_remove_915e3) := goodIn_app (goodIn_of _ (by decide +kernel)) ggX1_receive_Jx4a65c_remove_915e3
set_option maxRecDepth 20000 in
theorem ggX1_receive_X1_process : GoodIn wsX1_receive wsX1_process := goodIn_r _ [42, 1, 43, 44, 45, 46, 41, 47, 48, 49, 50, 51, 52, 53, 54, 2, 55, 56, 57, 58, 59, 60, 61, 62, 63, 64, 65, 66, 67, 68, 69, 70, 71, 72, 73, 74, 75, 76, 77, 78, 79, 8, 80, 32, 33, 19, 10, 81, 82, 83, 84, 85, 86, 87, 88, 89, 90, 91, 92, 93, 94, 95, 96, 97, 98, 99, 100, 101, 102, 103, 104, 105, 106, 107, 108, 109, 110, 111, 112, 113, 114, 115, 116, 117, 118, 119, 120, 121, 122, 123, 124, 35, 36, 37, 125, 126, 127, 128, 129, 130, 131, 132, 133, 134, 135, 136, 137, 138, 139, 140, 141, 142, 144, 145, 146, 147, 148, 149, 150, 151, 152, 153, 154, 155, 156, 157, 158, 159, 163, 160, 161, 162] (by decide +kernel) (by decide +kernel)
set_option maxRecDepth 20000 in
theorem gX1_receive_X1_process : GoodIn wsX1_receive (wsV RX1 62 RX1 yX1_process wsX1_process) := goodIn_app (goodIn_of _ (by decide +kernel)) ggX1_receive_X1_process
set_option maxRecDepth 20000 in
theorem ggX1_receive_Jx4a65c_add_9ea2d : GoodIn wsX1_receive wsJx4a65c_add_9ea2d := goodIn_r _ [80, 32, 33, 19, 10, 81, 82, 83, 8, 84, 85, 86, 87, 88, 89, 90, 91, 92, 93, 94, 95, 96, 97, 98, 99, 100, 101, 102, 103, 104, 105, 106, 107, 108, 109, 110, 111, 112, 113, 114, 115, 116, 117, 118, 119, 120, 121, 122, 123, 124, 35, 36, 37, 160, 161, 162] (by decide +kernel) (by decide +kernel)
set_option maxRecDepth 20000 in
theorem gX1_receive_Jx4a65c_add_9ea2d : GoodIn wsX1_receive (wsV RX1 66 RJx4a65c yJx4a65c_add_9ea2d wsJx4a65c_add_9ea2d) := goodIn_app (goodIn_of _ (by decide +kernel)) ggX1_receive_Jx4a65c_add_9ea2d
theorem dX1_receive_0 : decode cX1_receive 0 = .ok (.aload_n 1, 1) := by decide +kernel
theorem dX1_receive_1 : decode cX1_receive 1 = .ok (.getfield 45, 3) := by decide +kernel
theorem dX1_receive_4 : decode cX1_receive 4 = .ok (.iconst 4, 1) := by decide +kernel
theorem dX1_receive_5 : decode cX1_receive 5 = .ok (.if_icmp .ne 61, 3) := by decide +kernel
theorem dX1_receive_8 : decode cX1_receive 8 = .ok (.aload_n 0, 1) := by decide +kernel
theorem dX1_receive_9 : decode cX1_receive 9 = .ok (.iconst 0, 1) := by decide +kernel
theorem dX1_receive_10 : decode cX1_receive 10 = .ok (.putfield 28, 3) := by decide +kernel
theorem dX1_receive_13 : decode cX1_receive 13 = .ok (.aload_n 0, 1) := by decide +kernel
theorem dX1_receive_14 : decode cX1_receive 14 = .ok (.getfield 12, 3) := by decide +kernel
theorem dX1_receive_17 : decode cX1_receive 17 = .ok (.invokevirtual 50, 3) := by decide +kernel
theorem dX1_receive_20 : decode cX1_receive 20 = .ok (.istore_n 2, 1) := by decide +kernel
theorem dX1_receive_21 : decode cX1_receive 21 = .ok (.iload_n 2, 1) := by decide +kernel
theorem dX1_receive_22 : decode cX1_receive 22 = .ok (.ifCond .le 41, 3) := by decide +kernel
theorem dX1_receive_25 : decode cX1_receive 25 = .ok (.aload_n 0, 1) := by decide +kernel
theorem dX1_receive_26 : decode cX1_receive 26 = .ok (.getfield 28, 3) := by decide +kernel
theorem dX1_receive_29 : decode cX1_receive 29 = .ok (.ifCond .ne 34, 3) := by decide +kernel
theorem dX1_receive_32 : decode cX1_receive 32 = .ok (.aload_n 0, 1) := by decide +kernel
theorem dX1_receive_33 : decode cX1_receive 33 = .ok (.getfield 12, 3) := by decide +kernel
theorem dX1_receive_36 : decode cX1_receive 36 = .ok (.invokevirtual 54, 3) := by decide +kernel
theorem dX1_receive_39 : decode cX1_receive 39 = .ok (.ifCond .ne 24, 3) := by decide +kernel
theorem dX1_receive_42 : decode cX1_receive 42 = .ok (.aload_n 0, 1) := by decide +kernel
theorem dX1_receive_43 : decode cX1_receive 43 = .ok (.aload_n 0, 1) := by decide +kernel
theorem dX1_receive_44 : decode cX1_receive 44 = .ok (.getfield 12, 3) := by decide +kernel
theorem dX1_receive_47 : decode cX1_receive 47 = .ok (.iconst 0, 1) := by decide +kernel
theorem dX1_receive_48 : decode cX1_receive 48 = .ok (.invokevirtual 58, 3) := by decide +kernel
theorem dX1_receive_51 : decode cX1_receive 51 = .ok (.checkcast 46, 3) := by decide +kernel
theorem dX1_receive_54 : decode cX1_receive 54 = .ok (.invokevirtual 62, 3) := by decide +kernel
theorem dX1_receive_57 : decode cX1_receive 57 = .ok (.iinc 2 (-1), 3) := by decide +kernel
theorem dX1_receive_60 : decode cX1_receive 60 = .ok (.goto (-39), 3) := by decide +kernel
theorem dX1_receive_63 : decode cX1_receive 63 = .ok (.goto 27, 3) := by decide +kernel
theorem dX1_receive_66 : decode cX1_receive 66 = .ok (.aload_n 0, 1) := by decide +kernel
theorem dX1_receive_67 : decode cX1_receive 67 = .ok (.getfield 28, 3) := by decide +kernel
theorem dX1_receive_70 : decode cX1_receive 70 = .ok (.ifCond .eq 15, 3) := by decide +kernel
theorem dX1_receive_73 : decode cX1_receive 73 = .ok (.aload_n 0, 1) := by decide +kernel
theorem dX1_receive_74 : decode cX1_receive 74 = .ok (.getfield 12, 3) := by decide +kernel
theorem dX1_receive_77 : decode cX1_receive 77 = .ok (.aload_n 1, 1) := by decide +kernel
theorem dX1_receive_78 : decode cX1_receive 78 = .ok (.invokevirtual 66, 3) := by decide +kernel
theorem dX1_receive_81 : decode cX1_receive 81 = .ok (.pop, 1) := by decide +kernel
theorem dX1_receive_82 : decode cX1_receive 82 = .ok (.goto 8, 3) := by decide +kernel
theorem dX1_receive_85 : decode cX1_receive 85 = .ok (.aload_n 0, 1) := by decide +kernel
theorem dX1_receive_86 : decode cX1_receive 86 = .ok (.aload_n 1, 1) := by decide +kernel
theorem dX1_receive_87 : decode cX1_receive 87 = .ok (.invokevirtual 62, 3) := by decide +kernel
theorem dX1_receive_90 : decode cX1_receive 90 = .ok (.return_, 1) := by decide +kernel
set_option maxRecDepth 20000 in
theorem ggX1_process_X1_processRead : GoodIn wsX1_process wsX1_processRead := goodIn_r _ [7, 8, 9, 10, 11, 12, 13, 14, 15, 16, 17, 18, 19, 20, 21, 22, 23, 24, 25, 26, 27, 28, 29, 30, 31, 32, 33, 34, 35, 36, 37, 38, 39, 40, 41, 42, 43, 44, 45, 46, 47, 48, 49, 50, 51, 52, 53, 54, 55, 56, 57, 58, 59, 60, 61, 62, 63, 64, 65, 66, 67, 68, 69, 70, 71, 72, 73, 74, 75, 76, 77, 78, 79, 80, 81, 82, 83, 84, 85, 86, 87, 88, 89, 90, 91, 92, 93, 119, 120, 121, 122, 123, 124, 125, 126, 127, 112, 113, 114, 115, 116, 117, 118, 128, 129, 130, 131] (by decide +kernel) (by decide +kernel)
set_option maxRecDepth 20000 in
theorem gX1_process_X1_processRead : GoodIn wsX1_process (wsV RX1 73 RX1 yX1_processRead wsX1_processRead) := goodIn_app (goodIn_of _ (by decide +kernel)) ggX1_process_X1_processRead
set_option maxRecDepth 20000 in
theorem ggX1_process_X1_processWrite : GoodIn wsX1_process wsX1_processWrite := goodIn_r _ [97, 14, 8, 9, 10, 13, 11, 12, 98, 15, 16, 17, 18, 19, 20, 21, 22, 23, 24, 25, 26, 27, 28, 29, 30, 31, 32, 33, 34, 35, 36, 37, 38, 39, 40, 41, 42, 43, 44, 45, 46, 47, 48, 49, 50, 51, 52, 53, 54, 55, 56, 57, 58, 59, 60, 61, 62, 63, 64, 65, 66, 67, 68, 69, 70, 71, 72, 73, 74, 75, 76, 77, 78, 79, 80, 81, 82, 83, 84, 85, 86, 87, 88, 89, 90, 91, 92, 93, 99, 100, 101, 102, 103, 104, 105, 119, 120, 121, 122, 123, 124, 125, 126, 127, 112, 113, 114, 115, 116, 117, 118, 128, 129, 130, 131] (by decide +kernel) (by decide +kernel)
set_option maxRecDepth 20000 in
theorem gX1_process_X1_processWrite : GoodIn wsX1_process (wsV RX1 77 RX1 yX1_processWrite wsX1_processWrite) := goodIn_app (goodIn_of _ (by decide +kernel)) ggX1_process_X1_processWrite
set_option maxRecDepth 20000 in
theorem ggX1_process_X1_processPut : GoodIn wsX1_process wsX1_processPut := goodIn_r _ [109, 8, 2, 12, 11, 14, 110, 111, 9, 10, 16, 17, 18, 19, 20, 21, 22, 23, 24, 25, 26, 27, 28, 29, 30, 31, 32, 33, 34, 35, 36, 37, 38, 39, 40, 41, 42, 43, 44, 45, 46, 47, 48, 49, 50, 51, 52, 53, 54, 55, 56, 57, 58, 59, 60, 61, 62, 63, 64, 65, 66, 67, 68, 69, 70, 71, 72, 73, 74, 75, 76, 77, 78, 79, 80, 81, 82, 83, 84, 85, 86, 87, 88, 89, 90, 91, 92, 93, 119, 120, 121, 122, 123, 124, 125, 126, 127, 112, 113, 114, 115, 116, 117, 118, 128, 129, 130, 131] (by decide +kernel) (by decide +kernel)
set_option maxRecDepth 20000 in
theorem gX1_process_X1_processPut : GoodIn wsX1_process (wsV RX1 80 RX1 yX1_processPut wsX1_processPut) := goodIn_app (goodIn_of _ (by decide +kernel)) ggX1_process_X1_processPut
theorem dX1_process_0 : decode cX1_process 0 = .ok (.aload_n 1, 1) := by decide +kernel
theorem dX1_process_1 : decode cX1_process 1 = .ok (.getfield 45, 3) := by decide +kernel
theorem dX1_process_4 : decode cX1_process 4 = .ok (.tableswitch 58 1 3 #[28, 39, 50], 28) := by decide +kernel
theorem dX1_process_32 : decode cX1_process 32 = .ok (.aload_n 0, 1) := by decide +kernel
theorem dX1_process_33 : decode cX1_process 33 = .ok (.aload_n 1, 1) := by decide +kernel
theorem dX1_process_34 : decode cX1_process 34 = .ok (.getfield 70, 3) := by decide +kernel
theorem dX1_process_37 : decode cX1_process 37 = .ok (.invokevirtual 73, 3) := by decide +kernel
theorem dX1_process_40 : decode cX1_process 40 = .ok (.goto 22, 3) := by decide +kernel
theorem dX1_process_43 : decode cX1_process 43 = .ok (.aload_n 0, 1) := by decide +kernel
theorem dX1_process_44 : decode cX1_process 44 = .ok (.aload_n 1, 1) := by decide +kernel
theorem dX1_process_45 : decode cX1_process 45 = .ok (.getfield 70, 3) := by decide +kernel
theorem dX1_process_48 : decode cX1_process 48 = .ok (.invokevirtual 77, 3) := by decide +kernel
theorem dX1_process_51 : decode cX1_process 51 = .ok (.goto 11, 3) := by decide +kernel
theorem dX1_process_54 : decode cX1_process 54 = .ok (.aload_n 0, 1) := by decide +kernel
theorem dX1_process_55 : decode cX1_process 55 = .ok (.aload_n 1, 1) := by decide +kernel
theorem dX1_process_56 : decode cX1_process 56 = .ok (.invokevirtual 80, 3) := by decide +kernel
theorem dX1_process_59 : decode cX1_process 59 = .ok (.goto 3, 3) := by decide +kernel
theorem dX1_process_62 : decode cX1_process 62 = .ok (.return_, 1) := by decide +kernel
set_option maxRecDepth 20000 in
theorem ggX1_processRead_X3_send : GoodIn wsX1_processRead wsX3_send := goodIn_r _ [13, 14, 15, 16, 17, 18, 19, 20, 21, 22, 23, 24, 25, 26, 27, 28, 29, 30, 31, 32, 33, 34, 35, 36, 37, 38, 39, 40, 41, 42, 43, 44, 45, 46, 47, 48, 49, 50, 51, 52, 53, 54, 55, 56, 57, 58, 59, 60, 61, 62, 63, 64, 65, 66, 67, 68, 69, 70, 71, 72, 73, 74, 75, 76, 77, 78, 79, 80, 81, 82, 83, 84, 85, 86, 96, 97, 98, 99, 100, 101, 102, 103, 104, 105, 106] (by decide +kernel) (by decide +kernel)
set_option maxRecDepth 20000 in
theorem gX1_processRead_X3_send : GoodIn wsX1_processRead (wsV RX1 83 RX3 yX3_send wsX3_send) := goodIn_app (goodIn_of _ (by decide +kernel)) ggX1_processRead_X3_send
theorem dX1_processRead_0 : decode cX1_processRead 0 = .ok (.aload_n 0, 1) := by decide +kernel
theorem dX1_processRead_1 : decode cX1_processRead 1 = .ok (.getfield 22, 3) := by decide +kernel
theorem dX1_processRead_4 : decode cX1_processRead 4 = .ok (.iconst (-1), 1) := by decide +kernel
theorem dX1_processRead_5 : decode cX1_processRead 5 = .ok (.if_icmp .ne 27, 3) := by decide +kernel
theorem dX1_processRead_8 : decode cX1_processRead 8 = .ok (.aload_n 0, 1) := by decide +kernel
theorem dX1_processRead_9 : decode cX1_processRead 9 = .ok (.getfield 41, 3) := by decide +kernel
theorem dX1_processRead_12 : decode cX1_processRead 12 = .ok (.iconst 5, 1) := by decide +kernel
theorem dX1_processRead_13 : decode cX1_processRead 13 = .ok (.aload_n 0, 1) := by decide +kernel
theorem dX1_processRead_14 : decode cX1_processRead 14 = .ok (.getfield 38, 3) := by decide +kernel
theorem dX1_processRead_17 : decode cX1_processRead 17 = .ok (.iconst (-1), 1) := by decide +kernel
theorem dX1_processRead_18 : decode cX1_processRead 18 = .ok (.iload_n 1, 1) := by decide +kernel
theorem dX1_processRead_19 : decode cX1_processRead 19 = .ok (.invokevirtual 83, 3) := by decide +kernel
theorem dX1_processRead_22 : decode cX1_processRead 22 = .ok (.aload_n 0, 1) := by decide +kernel
theorem dX1_processRead_23 : decode cX1_processRead 23 = .ok (.getfield 18, 3) := by decide +kernel
theorem dX1_processRead_26 : decode cX1_processRead 26 = .ok (.putfield 89, 3) := by decide +kernel
theorem dX1_processRead_29 : decode cX1_processRead 29 = .ok (.goto 25, 3) := by decide +kernel
theorem dX1_processRead_32 : decode cX1_processRead 32 = .ok (.aload_n 0, 1) := by decide +kernel
theorem dX1_processRead_33 : decode cX1_processRead 33 = .ok (.getfield 41, 3) := by decide +kernel
theorem dX1_processRead_36 : decode cX1_processRead 36 = .ok (.bipush 8, 2) := by decide +kernel
theorem dX1_processRead_38 : decode cX1_processRead 38 = .ok (.aload_n 0, 1) := by decide +kernel
theorem dX1_processRead_39 : decode cX1_processRead 39 = .ok (.getfield 38, 3) := by decide +kernel
theorem dX1_processRead_42 : decode cX1_processRead 42 = .ok (.iconst (-1), 1) := by decide +kernel
theorem dX1_processRead_43 : decode cX1_processRead 43 = .ok (.aload_n 0, 1) := by decide +kernel
theorem dX1_processRead_44 : decode cX1_processRead 44 = .ok (.getfield 22, 3) := by decide +kernel
theorem dX1_processRead_47 : decode cX1_processRead 47 = .ok (.invokevirtual 83, 3) := by decide +kernel
theorem dX1_processRead_50 : decode cX1_processRead 50 = .ok (.iload_n 1, 1) := by decide +kernel
theorem dX1_processRead_51 : decode cX1_processRead 51 = .ok (.putfield 92, 3) := by decide +kernel
theorem dX1_processRead_54 : decode cX1_processRead 54 = .ok (.aload_n 0, 1) := by decide +kernel
theorem dX1_processRead_55 : decode cX1_processRead 55 = .ok (.dup, 1) := by decide +kernel
theorem dX1_processRead_56 : decode cX1_processRead 56 = .ok (.getfield 25, 3) := by decide +kernel
theorem dX1_processRead_59 : decode cX1_processRead 59 = .ok (.iconst 1, 1) := by decide +kernel
theorem dX1_processRead_60 : decode cX1_processRead 60 = .ok (.iload_n 1, 1) := by decide +kernel
theorem dX1_processRead_61 : decode cX1_processRead 61 = .ok (.ishl, 1) := by decide +kernel
theorem dX1_processRead_62 : decode cX1_processRead 62 = .ok (.ior, 1) := by decide +kernel
theorem dX1_processRead_63 : decode cX1_processRead 63 = .ok (.putfield 25, 3) := by decide +kernel
theorem dX1_processRead_66 : decode cX1_processRead 66 = .ok (.aload_n 0, 1) := by decide +kernel
theorem dX1_processRead_67 : decode cX1_processRead 67 = .ok (.iconst 1, 1) := by decide +kernel
theorem dX1_processRead_68 : decode cX1_processRead 68 = .ok (.putfield 28, 3) := by decide +kernel
theorem dX1_processRead_71 : decode cX1_processRead 71 = .ok (.return_, 1) := by decide +kernel
set_option maxRecDepth 20000 in
theorem ggX1_processWrite_X3_send : GoodIn wsX1_processWrite wsX3_send := goodIn_r _ [14, 15, 16, 17, 18, 19, 20, 21, 22, 23, 24, 25, 26, 27, 28, 29, 30, 31, 32, 33, 34, 35, 36, 37, 38, 39, 40, 41, 42, 43, 44, 45, 46, 47, 48, 49, 50, 51, 52, 53, 54, 55, 56, 57, 58, 59, 60, 61, 62, 63, 64, 65, 66, 67, 68, 69, 70, 71, 72, 73, 74, 75, 76, 77, 78, 79, 80, 81, 82, 83, 84, 85, 86, 87, 104, 105, 106, 107, 108, 109, 110, 111, 112, 113, 114] (by decide +kernel) (by decide +kernel)
set_option maxRecDepth 20000 in
theorem gX1_processWrite_X3_send : GoodIn wsX1_processWrite (wsV RX1 83 RX3 yX3_send wsX3_send) := goodIn_app (goodIn_of _ (by decide +kernel)) ggX1_processWrite_X3_send
set_option maxRecDepth 20000 in
theorem ggX1_processWrite_J6_bitCount_0f7a4 : GoodIn wsX1_processWrite wsJ6_bitCount_0f7a4 := goodIn_r _ [91, 92, 93, 94] (by decide +kernel) (by decide +kernel)
set_option maxRecDepth 20000 in
theorem gX1_processWrite_J6_bitCount_0f7a4 : GoodIn wsX1_processWrite (va_wsS RX1 95 yJ6_bitCount_0f7a4 wsJ6_bitCount_0f7a4) := goodIn_app (goodIn_of _ (by decide +kernel)) ggX1_processWrite_J6_bitCount_0f7a4
theorem dX1_processWrite_0 : decode cX1_processWrite 0 = .ok (.aload_n 0, 1) := by decide +kernel
theorem dX1_processWrite_1 : decode cX1_processWrite 1 = .ok (.getfield 25, 3) := by decide +kernel
theorem dX1_processWrite_4 : decode cX1_processWrite 4 = .ok (.iconst 1, 1) := by decide +kernel
theorem dX1_processWrite_5 : decode cX1_processWrite 5 = .ok (.iload_n 1, 1) := by decide +kernel
theorem dX1_processWrite_6 : decode cX1_processWrite 6 = .ok (.ishl, 1) := by decide +kernel
theorem dX1_processWrite_7 : decode cX1_processWrite 7 = .ok (.iconst (-1), 1) := by decide +kernel
theorem dX1_processWrite_8 : decode cX1_processWrite 8 = .ok (.ixor, 1) := by decide +kernel
theorem dX1_processWrite_9 : decode cX1_processWrite 9 = .ok (.iand, 1) := by decide +kernel
theorem dX1_processWrite_10 : decode cX1_processWrite 10 = .ok (.istore_n 2, 1) := by decide +kernel
theorem dX1_processWrite_11 : decode cX1_processWrite 11 = .ok (.aload_n 0, 1) := by decide +kernel
theorem dX1_processWrite_12 : decode cX1_processWrite 12 = .ok (.getfield 22, 3) := by decide +kernel
theorem dX1_processWrite_15 : decode cX1_processWrite 15 = .ok (.iconst (-1), 1) := by decide +kernel
theorem dX1_processWrite_16 : decode cX1_processWrite 16 = .ok (.if_icmp .eq 14, 3) := by decide +kernel
theorem dX1_processWrite_19 : decode cX1_processWrite 19 = .ok (.iload_n 2, 1) := by decide +kernel
theorem dX1_processWrite_20 : decode cX1_processWrite 20 = .ok (.iconst 1, 1) := by decide +kernel
theorem dX1_processWrite_21 : decode cX1_processWrite 21 = .ok (.aload_n 0, 1) := by decide +kernel
theorem dX1_processWrite_22 : decode cX1_processWrite 22 = .ok (.getfield 22, 3) := by decide +kernel
theorem dX1_processWrite_25 : decode cX1_processWrite 25 = .ok (.ishl, 1) := by decide +kernel
theorem dX1_processWrite_26 : decode cX1_processWrite 26 = .ok (.iconst (-1), 1) := by decide +kernel
theorem dX1_processWrite_27 : decode cX1_processWrite 27 = .ok (.ixor, 1) := by decide +kernel
theorem dX1_processWrite_28 : decode cX1_processWrite 28 = .ok (.iand, 1) := by decide +kernel
theorem dX1_processWrite_29 : decode cX1_processWrite 29 = .ok (.istore_n 2, 1) := by decide +kernel
theorem dX1_processWrite_30 : decode cX1_processWrite 30 = .ok (.iconst 0, 1) := by decide +kernel
theorem dX1_processWrite_31 : decode cX1_processWrite 31 = .ok (.istore_n 3, 1) := by decide +kernel
theorem dX1_processWrite_32 : decode cX1_processWrite 32 = .ok (.iload_n 3, 1) := by decide +kernel
theorem dX1_processWrite_33 : decode cX1_processWrite 33 = .ok (.iconst 4, 1) := by decide +kernel
theorem dX1_processWrite_34 : decode cX1_processWrite 34 = .ok (.if_icmp .ge 37, 3) := by decide +kernel
theorem dX1_processWrite_37 : decode cX1_processWrite 37 = .ok (.iload_n 2, 1) := by decide +kernel
theorem dX1_processWrite_38 : decode cX1_processWrite 38 = .ok (.iload_n 3, 1) := by decide +kernel
theorem dX1_processWrite_39 : decode cX1_processWrite 39 = .ok (.ishr, 1) := by decide +kernel
theorem dX1_processWrite_40 : decode cX1_processWrite 40 = .ok (.iconst 1, 1) := by decide +kernel
theorem dX1_processWrite_41 : decode cX1_processWrite 41 = .ok (.iand, 1) := by decide +kernel
theorem dX1_processWrite_42 : decode cX1_processWrite 42 = .ok (.iconst 1, 1) := by decide +kernel
theorem dX1_processWrite_43 : decode cX1_processWrite 43 = .ok (.if_icmp .ne 22, 3) := by decide +kernel
theorem dX1_processWrite_46 : decode cX1_processWrite 46 = .ok (.aload_n 0, 1) := by decide +kernel
theorem dX1_processWrite_47 : decode cX1_processWrite 47 = .ok (.getfield 41, 3) := by decide +kernel
theorem dX1_processWrite_50 : decode cX1_processWrite 50 = .ok (.bipush 10, 2) := by decide +kernel
theorem dX1_processWrite_52 : decode cX1_processWrite 52 = .ok (.aload_n 0, 1) := by decide +kernel
theorem dX1_processWrite_53 : decode cX1_processWrite 53 = .ok (.getfield 38, 3) := by decide +kernel
theorem dX1_processWrite_56 : decode cX1_processWrite 56 = .ok (.iconst (-1), 1) := by decide +kernel
theorem dX1_processWrite_57 : decode cX1_processWrite 57 = .ok (.iload_n 3, 1) := by decide +kernel
theorem dX1_processWrite_58 : decode cX1_processWrite 58 = .ok (.invokevirtual 83, 3) := by decide +kernel
theorem dX1_processWrite_61 : decode cX1_processWrite 61 = .ok (.iload_n 1, 1) := by decide +kernel
theorem dX1_processWrite_62 : decode cX1_processWrite 62 = .ok (.putfield 92, 3) := by decide +kernel
theorem dX1_processWrite_65 : decode cX1_processWrite 65 = .ok (.iinc 3 1, 3) := by decide +kernel
theorem dX1_processWrite_68 : decode cX1_processWrite 68 = .ok (.goto (-36), 3) := by decide +kernel
theorem dX1_processWrite_71 : decode cX1_processWrite 71 = .ok (.aload_n 0, 1) := by decide +kernel
theorem dX1_processWrite_72 : decode cX1_processWrite 72 = .ok (.getfield 22, 3) := by decide +kernel
theorem dX1_processWrite_75 : decode cX1_processWrite 75 = .ok (.iconst (-1), 1) := by decide +kernel
theorem dX1_processWrite_76 : decode cX1_processWrite 76 = .ok (.if_icmp .ne 29, 3) := by decide +kernel
theorem dX1_processWrite_79 : decode cX1_processWrite 79 = .ok (.aload_n 0, 1) := by decide +kernel
theorem dX1_processWrite_80 : decode cX1_processWrite 80 = .ok (.getfield 41, 3) := by decide +kernel
theorem dX1_processWrite_83 : decode cX1_processWrite 83 = .ok (.iconst 5, 1) := by decide +kernel
theorem dX1_processWrite_84 : decode cX1_processWrite 84 = .ok (.aload_n 0, 1) := by decide +kernel
theorem dX1_processWrite_85 : decode cX1_processWrite 85 = .ok (.getfield 38, 3) := by decide +kernel
theorem dX1_processWrite_88 : decode cX1_processWrite 88 = .ok (.iconst (-1), 1) := by decide +kernel
theorem dX1_processWrite_89 : decode cX1_processWrite 89 = .ok (.iload_n 1, 1) := by decide +kernel
theorem dX1_processWrite_90 : decode cX1_processWrite 90 = .ok (.invokevirtual 83, 3) := by decide +kernel
theorem dX1_processWrite_93 : decode cX1_processWrite 93 = .ok (.astore_n 3, 1) := by decide +kernel
theorem dX1_processWrite_94 : decode cX1_processWrite 94 = .ok (.aload_n 3, 1) := by decide +kernel
theorem dX1_processWrite_95 : decode cX1_processWrite 95 = .ok (.aload_n 0, 1) := by decide +kernel
theorem dX1_processWrite_96 : decode cX1_processWrite 96 = .ok (.getfield 18, 3) := by decide +kernel
theorem dX1_processWrite_99 : decode cX1_processWrite 99 = .ok (.putfield 89, 3) := by decide +kernel
theorem dX1_processWrite_102 : decode cX1_processWrite 102 = .ok (.goto 54, 3) := by decide +kernel
theorem dX1_processWrite_105 : decode cX1_processWrite 105 = .ok (.aload_n 0, 1) := by decide +kernel
theorem dX1_processWrite_106 : decode cX1_processWrite 106 = .ok (.getfield 22, 3) := by decide +kernel
theorem dX1_processWrite_109 : decode cX1_processWrite 109 = .ok (.iload_n 1, 1) := by decide +kernel
theorem dX1_processWrite_110 : decode cX1_processWrite 110 = .ok (.if_icmp .ne 22, 3) := by decide +kernel
theorem dX1_processWrite_113 : decode cX1_processWrite 113 = .ok (.aload_n 0, 1) := by decide +kernel
theorem dX1_processWrite_114 : decode cX1_processWrite 114 = .ok (.getfield 41, 3) := by decide +kernel
theorem dX1_processWrite_117 : decode cX1_processWrite 117 = .ok (.bipush 6, 2) := by decide +kernel
theorem dX1_processWrite_119 : decode cX1_processWrite 119 = .ok (.aload_n 0, 1) := by decide +kernel
theorem dX1_processWrite_120 : decode cX1_processWrite 120 = .ok (.getfield 38, 3) := by decide +kernel
theorem dX1_processWrite_123 : decode cX1_processWrite 123 = .ok (.iconst (-1), 1) := by decide +kernel
theorem dX1_processWrite_124 : decode cX1_processWrite 124 = .ok (.iload_n 1, 1) := by decide +kernel
theorem dX1_processWrite_125 : decode cX1_processWrite 125 = .ok (.invokevirtual 83, 3) := by decide +kernel
theorem dX1_processWrite_128 : decode cX1_processWrite 128 = .ok (.astore_n 3, 1) := by decide +kernel
theorem dX1_processWrite_129 : decode cX1_processWrite 129 = .ok (.goto 27, 3) := by decide +kernel
theorem dX1_processWrite_132 : decode cX1_processWrite 132 = .ok (.aload_n 0, 1) := by decide +kernel
theorem dX1_processWrite_133 : decode cX1_processWrite 133 = .ok (.getfield 41, 3) := by decide +kernel
theorem dX1_processWrite_136 : decode cX1_processWrite 136 = .ok (.bipush 9, 2) := by decide +kernel
theorem dX1_processWrite_138 : decode cX1_processWrite 138 = .ok (.aload_n 0, 1) := by decide +kernel
theorem dX1_processWrite_139 : decode cX1_processWrite 139 = .ok (.getfield 38, 3) := by decide +kernel
theorem dX1_processWrite_142 : decode cX1_processWrite 142 = .ok (.iconst (-1), 1) := by decide +kernel
theorem dX1_processWrite_143 : decode cX1_processWrite 143 = .ok (.aload_n 0, 1) := by decide +kernel
theorem dX1_processWrite_144 : decode cX1_processWrite 144 = .ok (.getfield 22, 3) := by decide +kernel
theorem dX1_processWrite_147 : decode cX1_processWrite 147 = .ok (.invokevirtual 83, 3) := by decide +kernel
theorem dX1_processWrite_150 : decode cX1_processWrite 150 = .ok (.astore_n 3, 1) := by decide +kernel
theorem dX1_processWrite_151 : decode cX1_processWrite 151 = .ok (.aload_n 3, 1) := by decide +kernel
theorem dX1_processWrite_152 : decode cX1_processWrite 152 = .ok (.iload_n 1, 1) := by decide +kernel
theorem dX1_processWrite_153 : decode cX1_processWrite 153 = .ok (.putfield 92, 3) := by decide +kernel
theorem dX1_processWrite_156 : decode cX1_processWrite 156 = .ok (.aload_n 3, 1) := by decide +kernel
theorem dX1_processWrite_157 : decode cX1_processWrite 157 = .ok (.iload_n 2, 1) := by decide +kernel
theorem dX1_processWrite_158 : decode cX1_processWrite 158 = .ok (.invokestatic 95, 3) := by decide +kernel
theorem dX1_processWrite_161 : decode cX1_processWrite 161 = .ok (.putfield 101, 3) := by decide +kernel
theorem dX1_processWrite_164 : decode cX1_processWrite 164 = .ok (.aload_n 0, 1) := by decide +kernel
theorem dX1_processWrite_165 : decode cX1_processWrite 165 = .ok (.iload_n 1, 1) := by decide +kernel
theorem dX1_processWrite_166 : decode cX1_processWrite 166 = .ok (.putfield 22, 3) := by decide +kernel
theorem dX1_processWrite_169 : decode cX1_processWrite 169 = .ok (.aload_n 0, 1) := by decide +kernel
theorem dX1_processWrite_170 : decode cX1_processWrite 170 = .ok (.iconst 0, 1) := by decide +kernel
theorem dX1_processWrite_171 : decode cX1_processWrite 171 = .ok (.putfield 25, 3) := by decide +kernel
theorem dX1_processWrite_174 : decode cX1_processWrite 174 = .ok (.aload_n 0, 1) := by decide +kernel
theorem dX1_processWrite_175 : decode cX1_processWrite 175 = .ok (.iconst 1, 1) := by decide +kernel
theorem dX1_processWrite_176 : decode cX1_processWrite 176 = .ok (.putfield 28, 3) := by decide +kernel
theorem dX1_processWrite_179 : decode cX1_processWrite 179 = .ok (.return_, 1) := by decide +kernel
set_option maxRecDepth 20000 in
theorem ggX1_processPut_X3_send : GoodIn wsX1_processPut wsX3_send := goodIn_r _ [14, 15, 16, 17, 18, 19, 20, 21, 22, 23, 24, 25, 26, 27, 28, 29, 30, 31, 32, 33, 34, 35, 36, 37, 38, 39, 40, 41, 42, 43, 44, 45, 46, 47, 48, 49, 50, 51, 52, 53, 54, 55, 56, 57, 58, 59, 60, 61, 62, 63, 64, 65, 66, 67, 68, 69, 70, 71, 72, 73, 74, 75, 76, 77, 78, 79, 80, 81, 82, 83, 84, 85, 86, 87, 97, 98, 99, 100, 101, 102, 103, 104, 105, 106, 107] (by decide +kernel) (by decide +kernel)
set_option maxRecDepth 20000 in
theorem gX1_processPut_X3_send : GoodIn wsX1_processPut (wsV RX1 83 RX3 yX3_send wsX3_send) := goodIn_app (goodIn_of _ (by decide +kernel)) ggX1_processPut_X3_send
theorem dX1_processPut_0 : decode cX1_processPut 0 = .ok (.aload_n 0, 1) := by decide +kernel
theorem dX1_processPut_1 : decode cX1_processPut 1 = .ok (.getfield 22, 3) := by decide +kernel
theorem dX1_processPut_4 : decode cX1_processPut 4 = .ok (.aload_n 1, 1) := by decide +kernel
theorem dX1_processPut_5 : decode cX1_processPut 5 = .ok (.getfield 70, 3) := by decide +kernel
theorem dX1_processPut_8 : decode cX1_processPut 8 = .ok (.if_icmp .ne 46, 3) := by decide +kernel
theorem dX1_processPut_11 : decode cX1_processPut 11 = .ok (.aload_n 0, 1) := by decide +kernel
theorem dX1_processPut_12 : decode cX1_processPut 12 = .ok (.aload_n 1, 1) := by decide +kernel
theorem dX1_processPut_13 : decode cX1_processPut 13 = .ok (.getfield 89, 3) := by decide +kernel
theorem dX1_processPut_16 : decode cX1_processPut 16 = .ok (.putfield 18, 3) := by decide +kernel
theorem dX1_processPut_19 : decode cX1_processPut 19 = .ok (.aload_n 0, 1) := by decide +kernel
theorem dX1_processPut_20 : decode cX1_processPut 20 = .ok (.iconst (-1), 1) := by decide +kernel
theorem dX1_processPut_21 : decode cX1_processPut 21 = .ok (.putfield 22, 3) := by decide +kernel
theorem dX1_processPut_24 : decode cX1_processPut 24 = .ok (.aload_n 0, 1) := by decide +kernel
theorem dX1_processPut_25 : decode cX1_processPut 25 = .ok (.dup, 1) := by decide +kernel
theorem dX1_processPut_26 : decode cX1_processPut 26 = .ok (.getfield 25, 3) := by decide +kernel
theorem dX1_processPut_29 : decode cX1_processPut 29 = .ok (.iconst 1, 1) := by decide +kernel
theorem dX1_processPut_30 : decode cX1_processPut 30 = .ok (.aload_n 1, 1) := by decide +kernel
theorem dX1_processPut_31 : decode cX1_processPut 31 = .ok (.getfield 70, 3) := by decide +kernel
theorem dX1_processPut_34 : decode cX1_processPut 34 = .ok (.ishl, 1) := by decide +kernel
theorem dX1_processPut_35 : decode cX1_processPut 35 = .ok (.iconst (-1), 1) := by decide +kernel
theorem dX1_processPut_36 : decode cX1_processPut 36 = .ok (.ixor, 1) := by decide +kernel
theorem dX1_processPut_37 : decode cX1_processPut 37 = .ok (.iand, 1) := by decide +kernel
theorem dX1_processPut_38 : decode cX1_processPut 38 = .ok (.putfield 25, 3) := by decide +kernel
theorem dX1_processPut_41 : decode cX1_processPut 41 = .ok (.aload_n 0, 1) := by decide +kernel
theorem dX1_processPut_42 : decode cX1_processPut 42 = .ok (.dup, 1) := by decide +kernel
theorem dX1_processPut_43 : decode cX1_processPut 43 = .ok (.getfield 32, 3) := by decide +kernel
theorem dX1_processPut_46 : decode cX1_processPut 46 = .ok (.iconst 1, 1) := by decide +kernel
theorem dX1_processPut_47 : decode cX1_processPut 47 = .ok (.iadd, 1) := by decide +kernel
theorem dX1_processPut_48 : decode cX1_processPut 48 = .ok (.putfield 32, 3) := by decide +kernel
theorem dX1_processPut_51 : decode cX1_processPut 51 = .ok (.goto 13, 3) := by decide +kernel
theorem dX1_processPut_54 : decode cX1_processPut 54 = .ok (.aload_n 0, 1) := by decide +kernel
theorem dX1_processPut_55 : decode cX1_processPut 55 = .ok (.dup, 1) := by decide +kernel
theorem dX1_processPut_56 : decode cX1_processPut 56 = .ok (.getfield 35, 3) := by decide +kernel
theorem dX1_processPut_59 : decode cX1_processPut 59 = .ok (.iconst 1, 1) := by decide +kernel
theorem dX1_processPut_60 : decode cX1_processPut 60 = .ok (.iadd, 1) := by decide +kernel
theorem dX1_processPut_61 : decode cX1_processPut 61 = .ok (.putfield 35, 3) := by decide +kernel
theorem dX1_processPut_64 : decode cX1_processPut 64 = .ok (.aload_n 0, 1) := by decide +kernel
theorem dX1_processPut_65 : decode cX1_processPut 65 = .ok (.getfield 41, 3) := by decide +kernel
theorem dX1_processPut_68 : decode cX1_processPut 68 = .ok (.bipush 11, 2) := by decide +kernel
theorem dX1_processPut_70 : decode cX1_processPut 70 = .ok (.aload_n 0, 1) := by decide +kernel
theorem dX1_processPut_71 : decode cX1_processPut 71 = .ok (.getfield 38, 3) := by decide +kernel
theorem dX1_processPut_74 : decode cX1_processPut 74 = .ok (.iconst (-1), 1) := by decide +kernel
theorem dX1_processPut_75 : decode cX1_processPut 75 = .ok (.aload_n 1, 1) := by decide +kernel
theorem dX1_processPut_76 : decode cX1_processPut 76 = .ok (.getfield 70, 3) := by decide +kernel
theorem dX1_processPut_79 : decode cX1_processPut 79 = .ok (.invokevirtual 83, 3) := by decide +kernel
theorem dX1_processPut_82 : decode cX1_processPut 82 = .ok (.pop, 1) := by decide +kernel
theorem dX1_processPut_83 : decode cX1_processPut 83 = .ok (.return_, 1) := by decide +kernel
theorem dX2_init_0 : decode cX2_init 0 = .ok (.aload_n 0, 1) := by decide +kernel
theorem dX2_init_1 : decode cX2_init 1 = .ok (.invokespecial 3, 3) := by decide +kernel
theorem dX2_init_4 : decode cX2_init 4 = .ok (.aload_n 0, 1) := by decide +kernel
theorem dX2_init_5 : decode cX2_init 5 = .ok (.iconst (-1), 1) := by decide +kernel
theorem dX2_init_6 : decode cX2_init 6 = .ok (.putfield 9, 3) := by decide +kernel
theorem dX2_init_9 : decode cX2_init 9 = .ok (.aload_n 0, 1) := by decide +kernel
theorem dX2_init_10 : decode cX2_init 10 = .ok (.iconst 0, 1) := by decide +kernel
theorem dX2_init_11 : decode cX2_init 11 = .ok (.putfield 15, 3) := by decide +kernel
theorem dX2_init_14 : decode cX2_init 14 = .ok (.aload_n 0, 1) := by decide +kernel
theorem dX2_init_15 : decode cX2_init 15 = .ok (.iconst (-1), 1) := by decide +kernel
theorem dX2_init_16 : decode cX2_init 16 = .ok (.putfield 18, 3) := by decide +kernel
theorem dX2_init_19 : decode cX2_init 19 = .ok (.aload_n 0, 1) := by decide +kernel
theorem dX2_init_20 : decode cX2_init 20 = .ok (.iload_n 1, 1) := by decide +kernel
theorem dX2_init_21 : decode cX2_init 21 = .ok (.putfield 21, 3) := by decide +kernel
theorem dX2_init_24 : decode cX2_init 24 = .ok (.aload_n 0, 1) := by decide +kernel
theorem dX2_init_25 : decode cX2_init 25 = .ok (.iload_n 2, 1) := by decide +kernel
theorem dX2_init_26 : decode cX2_init 26 = .ok (.putfield 24, 3) := by decide +kernel
theorem dX2_init_29 : decode cX2_init 29 = .ok (.aload_n 0, 1) := by decide +kernel
theorem dX2_init_30 : decode cX2_init 30 = .ok (.iload_n 3, 1) := by decide +kernel
theorem dX2_init_31 : decode cX2_init 31 = .ok (.putfield 27, 3) := by decide +kernel
theorem dX2_init_34 : decode cX2_init 34 = .ok (.aload_n 0, 1) := by decide +kernel
theorem dX2_init_35 : decode cX2_init 35 = .ok (.iload 4, 2) := by decide +kernel
theorem dX2_init_37 : decode cX2_init 37 = .ok (.putfield 30, 3) := by decide +kernel
theorem dX2_init_40 : decode cX2_init 40 = .ok (.return_, 1) := by decide +kernel
set_option maxRecDepth 20000 in
theorem ggX3_init_Jx4a65c_init_da8c8 : GoodIn wsX3_init wsJx4a65c_init_da8c8 := goodIn_r _ [10, 11, 12, 13, 14, 15, 16, 17, 18, 19, 20, 21, 22, 2, 3, 23, 24, 25] (by decide +kernel) (by decide +kernel)
set_option maxRecDepth 20000 in
theorem gX3_init_Jx4a65c_init_da8c8 : GoodIn wsX3_init (wsJx4a65c_init_da8c8) := ggX3_init_Jx4a65c_init_da8c8
theorem dX3_init_0 : decode cX3_init 0 = .ok (.aload_n 0, 1) := by decide +kernel
theorem dX3_init_1 : decode cX3_init 1 = .ok (.invokespecial 1, 3) := by decide +kernel
theorem dX3_init_4 : decode cX3_init 4 = .ok (.aload_n 0, 1) := by decide +kernel
theorem dX3_init_5 : decode cX3_init 5 = .ok (.new 7, 3) := by decide +kernel
theorem dX3_init_8 : decode cX3_init 8 = .ok (.dup, 1) := by decide +kernel
theorem dX3_init_9 : decode cX3_init 9 = .ok (.invokespecial 9, 3) := by decide +kernel
theorem dX3_init_12 : decode cX3_init 12 = .ok (.putfield 10, 3) := by decide +kernel
theorem dX3_init_15 : decode cX3_init 15 = .ok (.return_, 1) := by decide +kernel
set_option maxRecDepth 20000 in
theorem ggX3_send_X2_init : GoodIn wsX3_send wsX2_init := goodIn_r _ [7, 8, 9, 10, 11, 12, 13, 14, 15, 16, 17, 74, 75, 76, 77, 78, 79, 80] (by decide +kernel) (by decide +kernel)
set_option maxRecDepth 20000 in
theorem gX3_send_X2_init : GoodIn wsX3_send (wsX2_init) := ggX3_send_X2_init
set_option maxRecDepth 20000 in
theorem ggX3_send_Jx4a65c_add_9ea2d : GoodIn wsX3_send wsJx4a65c_add_9ea2d := goodIn_r _ [22, 23, 24, 25, 26, 27, 28, 29, 21, 30, 31, 32, 33, 34, 35, 36, 37, 38, 39, 40, 41, 42, 43, 44, 45, 46, 47, 48, 49, 50, 51, 52, 53, 54, 55, 56, 57, 58, 59, 60, 61, 62, 63, 64, 65, 66, 67, 68, 69, 70, 71, 72, 73, 82, 83, 84] (by decide +kernel) (by decide +kernel)
set_option maxRecDepth 20000 in
theorem gX3_send_Jx4a65c_add_9ea2d : GoodIn wsX3_send (wsV RX3 21 RJx4a65c yJx4a65c_add_9ea2d wsJx4a65c_add_9ea2d) := goodIn_app (goodIn_of _ (by decide +kernel)) ggX3_send_Jx4a65c_add_9ea2d
theorem dX3_send_0 : decode cX3_send 0 = .ok (.new 16, 3) := by decide +kernel
theorem dX3_send_3 : decode cX3_send 3 = .ok (.dup, 1) := by decide +kernel
theorem dX3_send_4 : decode cX3_send 4 = .ok (.iload_n 1, 1) := by decide +kernel
theorem dX3_send_5 : decode cX3_send 5 = .ok (.iload_n 2, 1) := by decide +kernel
theorem dX3_send_6 : decode cX3_send 6 = .ok (.iload_n 3, 1) := by decide +kernel
theorem dX3_send_7 : decode cX3_send 7 = .ok (.iload 4, 2) := by decide +kernel
theorem dX3_send_9 : decode cX3_send 9 = .ok (.invokespecial 18, 3) := by decide +kernel
theorem dX3_send_12 : decode cX3_send 12 = .ok (.astore 5, 2) := by decide +kernel
theorem dX3_send_14 : decode cX3_send 14 = .ok (.aload_n 0, 1) := by decide +kernel
theorem dX3_send_15 : decode cX3_send 15 = .ok (.getfield 10, 3) := by decide +kernel
theorem dX3_send_18 : decode cX3_send 18 = .ok (.aload 5, 2) := by decide +kernel
theorem dX3_send_20 : decode cX3_send 20 = .ok (.invokevirtual 21, 3) := by decide +kernel
theorem dX3_send_23 : decode cX3_send 23 = .ok (.pop, 1) := by decide +kernel
theorem dX3_send_24 : decode cX3_send 24 = .ok (.aload 5, 2) := by decide +kernel
theorem dX3_send_26 : decode cX3_send 26 = .ok (.areturn, 1) := by decide +kernel
theorem dX4_init_0 : decode cX4_init 0 = .ok (.aload_n 0, 1) := by decide +kernel
theorem dX4_init_1 : decode cX4_init 1 = .ok (.invokespecial 3, 3) := by decide +kernel
theorem dX4_init_4 : decode cX4_init 4 = .ok (.aload_n 0, 1) := by decide +kernel
theorem dX4_init_5 : decode cX4_init 5 = .ok (.iconst (-1), 1) := by decide +kernel
theorem dX4_init_6 : decode cX4_init 6 = .ok (.putfield 9, 3) := by decide +kernel
theorem dX4_init_9 : decode cX4_init 9 = .ok (.return_, 1) := by decide +kernel
theorem dX4_open_0 : decode cX4_open 0 = .ok (.aload_n 0, 1) := by decide +kernel
theorem dX4_open_1 : decode cX4_open 1 = .ok (.iload_n 1, 1) := by decide +kernel
theorem dX4_open_2 : decode cX4_open 2 = .ok (.putfield 9, 3) := by decide +kernel
theorem dX4_open_5 : decode cX4_open 5 = .ok (.aload_n 0, 1) := by decide +kernel
theorem dX4_open_6 : decode cX4_open 6 = .ok (.iload_n 2, 1) := by decide +kernel
theorem dX4_open_7 : decode cX4_open 7 = .ok (.putfield 15, 3) := by decide +kernel
theorem dX4_open_10 : decode cX4_open 10 = .ok (.aload_n 0, 1) := by decide +kernel
theorem dX4_open_11 : decode cX4_open 11 = .ok (.iload_n 3, 1) := by decide +kernel
theorem dX4_open_12 : decode cX4_open 12 = .ok (.putfield 19, 3) := by decide +kernel
theorem dX4_open_15 : decode cX4_open 15 = .ok (.aload_n 0, 1) := by decide +kernel
theorem dX4_open_16 : decode cX4_open 16 = .ok (.iconst 0, 1) := by decide +kernel
theorem dX4_open_17 : decode cX4_open 17 = .ok (.putfield 22, 3) := by decide +kernel
theorem dX4_open_20 : decode cX4_open 20 = .ok (.aload_n 0, 1) := by decide +kernel
theorem dX4_open_21 : decode cX4_open 21 = .ok (.iconst 0, 1) := by decide +kernel
theorem dX4_open_22 : decode cX4_open 22 = .ok (.putfield 25, 3) := by decide +kernel
theorem dX4_open_25 : decode cX4_open 25 = .ok (.return_, 1) := by decide +kernel
theorem dX4_isComplete_0 : decode cX4_isComplete 0 = .ok (.aload_n 0, 1) := by decide +kernel
theorem dX4_isComplete_1 : decode cX4_isComplete 1 = .ok (.getfield 22, 3) := by decide +kernel
theorem dX4_isComplete_4 : decode cX4_isComplete 4 = .ok (.ifCond .eq 18, 3) := by decide +kernel
theorem dX4_isComplete_7 : decode cX4_isComplete 7 = .ok (.aload_n 0, 1) := by decide +kernel
theorem dX4_isComplete_8 : decode cX4_isComplete 8 = .ok (.getfield 25, 3) := by decide +kernel
theorem dX4_isComplete_11 : decode cX4_isComplete 11 = .ok (.aload_n 0, 1) := by decide +kernel
theorem dX4_isComplete_12 : decode cX4_isComplete 12 = .ok (.getfield 28, 3) := by decide +kernel
theorem dX4_isComplete_15 : decode cX4_isComplete 15 = .ok (.if_icmp .ne 7, 3) := by decide +kernel
theorem dX4_isComplete_18 : decode cX4_isComplete 18 = .ok (.iconst 1, 1) := by decide +kernel
theorem dX4_isComplete_19 : decode cX4_isComplete 19 = .ok (.goto 4, 3) := by decide +kernel
theorem dX4_isComplete_22 : decode cX4_isComplete 22 = .ok (.iconst 0, 1) := by decide +kernel
theorem dX4_isComplete_23 : decode cX4_isComplete 23 = .ok (.ireturn, 1) := by decide +kernel
end
section
theorem dJ6_bitCount_0f7a4_0 : decode cJ6_bitCount_0f7a4 0 = .ok (.iload_n 0, 1) := by decide +kernel
theorem dJ6_bitCount_0f7a4_1 : decode cJ6_bitCount_0f7a4 1 = .ok (.iload_n 0, 1) := by decide +kernel
theorem dJ6_bitCount_0f7a4_2 : decode cJ6_bitCount_0f7a4 2 = .ok (.iconst 1, 1) := by decide +kernel
theorem dJ6_bitCount_0f7a4_3 : decode cJ6_bitCount_0f7a4 3 = .ok (.iushr, 1) := by decide +kernel
theorem dJ6_bitCount_0f7a4_4 : decode cJ6_bitCount_0f7a4 4 = .ok (.ldc_w 265, 3) := by decide +kernel
theorem dJ6_bitCount_0f7a4_7 : decode cJ6_bitCount_0f7a4 7 = .ok (.iand, 1) := by decide +kernel
theorem dJ6_bitCount_0f7a4_8 : decode cJ6_bitCount_0f7a4 8 = .ok (.isub, 1) := by decide +kernel
theorem dJ6_bitCount_0f7a4_9 : decode cJ6_bitCount_0f7a4 9 = .ok (.istore_n 0, 1) := by decide +kernel
theorem dJ6_bitCount_0f7a4_10 : decode cJ6_bitCount_0f7a4 10 = .ok (.iload_n 0, 1) := by decide +kernel
theorem dJ6_bitCount_0f7a4_11 : decode cJ6_bitCount_0f7a4 11 = .ok (.ldc_w 266, 3) := by decide +kernel
theorem dJ6_bitCount_0f7a4_14 : decode cJ6_bitCount_0f7a4 14 = .ok (.iand, 1) := by decide +kernel
theorem dJ6_bitCount_0f7a4_15 : decode cJ6_bitCount_0f7a4 15 = .ok (.iload_n 0, 1) := by decide +kernel
theorem dJ6_bitCount_0f7a4_16 : decode cJ6_bitCount_0f7a4 16 = .ok (.iconst 2, 1) := by decide +kernel
theorem dJ6_bitCount_0f7a4_17 : decode cJ6_bitCount_0f7a4 17 = .ok (.iushr, 1) := by decide +kernel
theorem dJ6_bitCount_0f7a4_18 : decode cJ6_bitCount_0f7a4 18 = .ok (.ldc_w 266, 3) := by decide +kernel
theorem dJ6_bitCount_0f7a4_21 : decode cJ6_bitCount_0f7a4 21 = .ok (.iand, 1) := by decide +kernel
theorem dJ6_bitCount_0f7a4_22 : decode cJ6_bitCount_0f7a4 22 = .ok (.iadd, 1) := by decide +kernel
theorem dJ6_bitCount_0f7a4_23 : decode cJ6_bitCount_0f7a4 23 = .ok (.istore_n 0, 1) := by decide +kernel
theorem dJ6_bitCount_0f7a4_24 : decode cJ6_bitCount_0f7a4 24 = .ok (.iload_n 0, 1) := by decide +kernel
theorem dJ6_bitCount_0f7a4_25 : decode cJ6_bitCount_0f7a4 25 = .ok (.iload_n 0, 1) := by decide +kernel
theorem dJ6_bitCount_0f7a4_26 : decode cJ6_bitCount_0f7a4 26 = .ok (.iconst 4, 1) := by decide +kernel
theorem dJ6_bitCount_0f7a4_27 : decode cJ6_bitCount_0f7a4 27 = .ok (.iushr, 1) := by decide +kernel
theorem dJ6_bitCount_0f7a4_28 : decode cJ6_bitCount_0f7a4 28 = .ok (.iadd, 1) := by decide +kernel
theorem dJ6_bitCount_0f7a4_29 : decode cJ6_bitCount_0f7a4 29 = .ok (.ldc_w 267, 3) := by decide +kernel
theorem dJ6_bitCount_0f7a4_32 : decode cJ6_bitCount_0f7a4 32 = .ok (.iand, 1) := by decide +kernel
theorem dJ6_bitCount_0f7a4_33 : decode cJ6_bitCount_0f7a4 33 = .ok (.istore_n 0, 1) := by decide +kernel
theorem dJ6_bitCount_0f7a4_34 : decode cJ6_bitCount_0f7a4 34 = .ok (.iload_n 0, 1) := by decide +kernel
theorem dJ6_bitCount_0f7a4_35 : decode cJ6_bitCount_0f7a4 35 = .ok (.iload_n 0, 1) := by decide +kernel
theorem dJ6_bitCount_0f7a4_36 : decode cJ6_bitCount_0f7a4 36 = .ok (.bipush 8, 2) := by decide +kernel
theorem dJ6_bitCount_0f7a4_38 : decode cJ6_bitCount_0f7a4 38 = .ok (.iushr, 1) := by decide +kernel
theorem dJ6_bitCount_0f7a4_39 : decode cJ6_bitCount_0f7a4 39 = .ok (.iadd, 1) := by decide +kernel
theorem dJ6_bitCount_0f7a4_40 : decode cJ6_bitCount_0f7a4 40 = .ok (.istore_n 0, 1) := by decide +kernel
theorem dJ6_bitCount_0f7a4_41 : decode cJ6_bitCount_0f7a4 41 = .ok (.iload_n 0, 1) := by decide +kernel
theorem dJ6_bitCount_0f7a4_42 : decode cJ6_bitCount_0f7a4 42 = .ok (.iload_n 0, 1) := by decide +kernel
theorem dJ6_bitCount_0f7a4_43 : decode cJ6_bitCount_0f7a4 43 = .ok (.bipush 16, 2) := by decide +kernel
theorem dJ6_bitCount_0f7a4_45 : decode cJ6_bitCount_0f7a4 45 = .ok (.iushr, 1) := by decide +kernel
theorem dJ6_bitCount_0f7a4_46 : decode cJ6_bitCount_0f7a4 46 = .ok (.iadd, 1) := by decide +kernel
theorem dJ6_bitCount_0f7a4_47 : decode cJ6_bitCount_0f7a4 47 = .ok (.istore_n 0, 1) := by decide +kernel
theorem dJ6_bitCount_0f7a4_48 : decode cJ6_bitCount_0f7a4 48 = .ok (.iload_n 0, 1) := by decide +kernel
theorem dJ6_bitCount_0f7a4_49 : decode cJ6_bitCount_0f7a4 49 = .ok (.bipush 63, 2) := by decide +kernel
theorem dJ6_bitCount_0f7a4_51 : decode cJ6_bitCount_0f7a4 51 = .ok (.iand, 1) := by decide +kernel
theorem dJ6_bitCount_0f7a4_52 : decode cJ6_bitCount_0f7a4 52 = .ok (.ireturn, 1) := by decide +kernel
theorem dJ9_max_7cf53_0 : decode cJ9_max_7cf53 0 = .ok (.iload_n 0, 1) := by decide +kernel
theorem dJ9_max_7cf53_1 : decode cJ9_max_7cf53 1 = .ok (.iload_n 1, 1) := by decide +kernel
theorem dJ9_max_7cf53_2 : decode cJ9_max_7cf53 2 = .ok (.if_icmp .lt 7, 3) := by decide +kernel
theorem dJ9_max_7cf53_5 : decode cJ9_max_7cf53 5 = .ok (.iload_n 0, 1) := by decide +kernel
theorem dJ9_max_7cf53_6 : decode cJ9_max_7cf53 6 = .ok (.goto 4, 3) := by decide +kernel
theorem dJ9_max_7cf53_9 : decode cJ9_max_7cf53 9 = .ok (.iload_n 1, 1) := by decide +kernel
theorem dJ9_max_7cf53_10 : decode cJ9_max_7cf53 10 = .ok (.ireturn, 1) := by decide +kernel
theorem dJ9_min_7cf53_0 : decode cJ9_min_7cf53 0 = .ok (.iload_n 0, 1) := by decide +kernel
theorem dJ9_min_7cf53_1 : decode cJ9_min_7cf53 1 = .ok (.iload_n 1, 1) := by decide +kernel
theorem dJ9_min_7cf53_2 : decode cJ9_min_7cf53 2 = .ok (.if_icmp .gt 7, 3) := by decide +kernel
theorem dJ9_min_7cf53_5 : decode cJ9_min_7cf53 5 = .ok (.iload_n 0, 1) := by decide +kernel
theorem dJ9_min_7cf53_6 : decode cJ9_min_7cf53 6 = .ok (.goto 4, 3) := by decide +kernel
theorem dJ9_min_7cf53_9 : decode cJ9_min_7cf53 9 = .ok (.iload_n 1, 1) := by decide +kernel
theorem dJ9_min_7cf53_10 : decode cJ9_min_7cf53 10 = .ok (.ireturn, 1) := by decide +kernel
theorem dJxa1e45_init_da8c8_0 : decode cJxa1e45_init_da8c8 0 = .ok (.aload_n 0, 1) := by decide +kernel
theorem dJxa1e45_init_da8c8_1 : decode cJxa1e45_init_da8c8 1 = .ok (.invokespecial 1, 3) := by decide +kernel
theorem dJxa1e45_init_da8c8_4 : decode cJxa1e45_init_da8c8 4 = .ok (.return_, 1) := by decide +kernel
set_option maxRecDepth 20000 in
theorem ggJxc12de_init_da8c8_Jxa1e45_init_da8c8 : GoodIn wsJxc12de_init_da8c8 wsJxa1e45_init_da8c8 := goodIn_r _ [5, 6, 7, 8] (by decide +kernel) (by decide +kernel)
set_option maxRecDepth 20000 in
theorem gJxc12de_init_da8c8_Jxa1e45_init_da8c8 : GoodIn wsJxc12de_init_da8c8 (wsJxa1e45_init_da8c8) := ggJxc12de_init_da8c8_Jxa1e45_init_da8c8
theorem dJxc12de_init_da8c8_0 : decode cJxc12de_init_da8c8 0 = .ok (.aload_n 0, 1) := by decide +kernel
theorem dJxc12de_init_da8c8_1 : decode cJxc12de_init_da8c8 1 = .ok (.invokespecial 1, 3) := by decide +kernel
theorem dJxc12de_init_da8c8_4 : decode cJxc12de_init_da8c8 4 = .ok (.aload_n 0, 1) := by decide +kernel
theorem dJxc12de_init_da8c8_5 : decode cJxc12de_init_da8c8 5 = .ok (.iconst 0, 1) := by decide +kernel
theorem dJxc12de_init_da8c8_6 : decode cJxc12de_init_da8c8 6 = .ok (.putfield 7, 3) := by decide +kernel
theorem dJxc12de_init_da8c8_9 : decode cJxc12de_init_da8c8 9 = .ok (.return_, 1) := by decide +kernel
set_option maxRecDepth 20000 in
theorem ggJx4a65c_init_da8c8_Jxc12de_init_da8c8 : GoodIn wsJx4a65c_init_da8c8 wsJxc12de_init_da8c8 := goodIn_r _ [6, 7, 8, 9, 10, 11, 12, 13, 14, 15, 16, 17] (by decide +kernel) (by decide +kernel)
set_option maxRecDepth 20000 in
theorem gJx4a65c_init_da8c8_Jxc12de_init_da8c8 : GoodIn wsJx4a65c_init_da8c8 (wsJxc12de_init_da8c8) := ggJx4a65c_init_da8c8_Jxc12de_init_da8c8
theorem dJx4a65c_init_da8c8_0 : decode cJx4a65c_init_da8c8 0 = .ok (.aload_n 0, 1) := by decide +kernel
theorem dJx4a65c_init_da8c8_1 : decode cJx4a65c_init_da8c8 1 = .ok (.invokespecial 1, 3) := by decide +kernel
theorem dJx4a65c_init_da8c8_4 : decode cJx4a65c_init_da8c8 4 = .ok (.aload_n 0, 1) := by decide +kernel
theorem dJx4a65c_init_da8c8_5 : decode cJx4a65c_init_da8c8 5 = .ok (.getstatic 39, 3) := by decide +kernel
theorem dJx4a65c_init_da8c8_8 : decode cJx4a65c_init_da8c8 8 = .ok (.putfield 9, 3) := by decide +kernel
theorem dJx4a65c_init_da8c8_11 : decode cJx4a65c_init_da8c8 11 = .ok (.return_, 1) := by decide +kernel
set_option maxRecDepth 20000 in
theorem ggJx4a65c_grow_92f84_J8_newLength_cabcc : GoodIn wsJx4a65c_grow_92f84 wsJ8_newLength_cabcc := goodIn_r _ [11, 12, 4, 5, 6, 13, 14, 15, 10, 16] (by decide +kernel) (by decide +kernel)
set_option maxRecDepth 20000 in
theorem gJx4a65c_grow_92f84_J8_newLength_cabcc : GoodIn wsJx4a65c_grow_92f84 (va_wsS RJx4a65c 73 yJ8_newLength_cabcc wsJ8_newLength_cabcc) := goodIn_app (goodIn_of _ (by decide +kernel)) ggJx4a65c_grow_92f84_J8_newLength_cabcc
set_option maxRecDepth 20000 in
theorem ggJx4a65c_grow_92f84_J7_copyOf_1904c : GoodIn wsJx4a65c_grow_92f84 wsJ7_copyOf_1904c := goodIn_r _ [20, 21, 22, 23, 24, 25, 26, 19, 27, 28, 29, 30, 31, 5, 32, 33, 34, 35, 36] (by decide +kernel) (by decide +kernel)
set_option maxRecDepth 20000 in
theorem gJx4a65c_grow_92f84_J7_copyOf_1904c : GoodIn wsJx4a65c_grow_92f84 (va_wsS RJx4a65c 66 yJ7_copyOf_1904c wsJ7_copyOf_1904c) := goodIn_app (goodIn_of _ (by decide +kernel)) ggJx4a65c_grow_92f84_J7_copyOf_1904c
theorem dJx4a65c_grow_92f84_0 : decode cJx4a65c_grow_92f84 0 = .ok (.aload_n 0, 1) := by decide +kernel
theorem dJx4a65c_grow_92f84_1 : decode cJx4a65c_grow_92f84 1 = .ok (.getfield 9, 3) := by decide +kernel
theorem dJx4a65c_grow_92f84_4 : decode cJx4a65c_grow_92f84 4 = .ok (.arraylength, 1) := by decide +kernel
theorem dJx4a65c_grow_92f84_5 : decode cJx4a65c_grow_92f84 5 = .ok (.istore_n 2, 1) := by decide +kernel
theorem dJx4a65c_grow_92f84_6 : decode cJx4a65c_grow_92f84 6 = .ok (.iload_n 2, 1) := by decide +kernel
theorem dJx4a65c_grow_92f84_7 : decode cJx4a65c_grow_92f84 7 = .ok (.ifCond .gt 13, 3) := by decide +kernel
theorem dJx4a65c_grow_92f84_10 : decode cJx4a65c_grow_92f84 10 = .ok (.aload_n 0, 1) := by decide +kernel
theorem dJx4a65c_grow_92f84_11 : decode cJx4a65c_grow_92f84 11 = .ok (.getfield 9, 3) := by decide +kernel
theorem dJx4a65c_grow_92f84_14 : decode cJx4a65c_grow_92f84 14 = .ok (.getstatic 39, 3) := by decide +kernel
theorem dJx4a65c_grow_92f84_17 : decode cJx4a65c_grow_92f84 17 = .ok (.if_acmp .eq 28, 3) := by decide +kernel
theorem dJx4a65c_grow_92f84_20 : decode cJx4a65c_grow_92f84 20 = .ok (.iload_n 2, 1) := by decide +kernel
theorem dJx4a65c_grow_92f84_21 : decode cJx4a65c_grow_92f84 21 = .ok (.iload_n 1, 1) := by decide +kernel
theorem dJx4a65c_grow_92f84_22 : decode cJx4a65c_grow_92f84 22 = .ok (.iload_n 2, 1) := by decide +kernel
theorem dJx4a65c_grow_92f84_23 : decode cJx4a65c_grow_92f84 23 = .ok (.isub, 1) := by decide +kernel
theorem dJx4a65c_grow_92f84_24 : decode cJx4a65c_grow_92f84 24 = .ok (.iload_n 2, 1) := by decide +kernel
theorem dJx4a65c_grow_92f84_25 : decode cJx4a65c_grow_92f84 25 = .ok (.iconst 1, 1) := by decide +kernel
theorem dJx4a65c_grow_92f84_26 : decode cJx4a65c_grow_92f84 26 = .ok (.ishr, 1) := by decide +kernel
theorem dJx4a65c_grow_92f84_27 : decode cJx4a65c_grow_92f84 27 = .ok (.invokestatic 73, 3) := by decide +kernel
theorem dJx4a65c_grow_92f84_30 : decode cJx4a65c_grow_92f84 30 = .ok (.istore_n 3, 1) := by decide +kernel
theorem dJx4a65c_grow_92f84_31 : decode cJx4a65c_grow_92f84 31 = .ok (.aload_n 0, 1) := by decide +kernel
theorem dJx4a65c_grow_92f84_32 : decode cJx4a65c_grow_92f84 32 = .ok (.aload_n 0, 1) := by decide +kernel
theorem dJx4a65c_grow_92f84_33 : decode cJx4a65c_grow_92f84 33 = .ok (.getfield 9, 3) := by decide +kernel
theorem dJx4a65c_grow_92f84_36 : decode cJx4a65c_grow_92f84 36 = .ok (.iload_n 3, 1) := by decide +kernel
theorem dJx4a65c_grow_92f84_37 : decode cJx4a65c_grow_92f84 37 = .ok (.invokestatic 66, 3) := by decide +kernel
theorem dJx4a65c_grow_92f84_40 : decode cJx4a65c_grow_92f84 40 = .ok (.dup_x1, 1) := by decide +kernel
theorem dJx4a65c_grow_92f84_41 : decode cJx4a65c_grow_92f84 41 = .ok (.putfield 9, 3) := by decide +kernel
theorem dJx4a65c_grow_92f84_44 : decode cJx4a65c_grow_92f84 44 = .ok (.areturn, 1) := by decide +kernel
theorem dJx4a65c_grow_92f84_45 : decode cJx4a65c_grow_92f84 45 = .ok (.aload_n 0, 1) := by decide +kernel
theorem dJx4a65c_grow_92f84_46 : decode cJx4a65c_grow_92f84 46 = .ok (.bipush 10, 2) := by decide +kernel
theorem dJx4a65c_grow_92f84_48 : decode cJx4a65c_grow_92f84 48 = .ok (.iload_n 1, 1) := by decide +kernel
theorem dJx4a65c_grow_92f84_49 : decode cJx4a65c_grow_92f84 49 = .ok (.invokestatic 79, 3) := by decide +kernel
theorem dJx4a65c_grow_92f84_52 : decode cJx4a65c_grow_92f84 52 = .ok (.anewarray 7, 3) := by decide +kernel
theorem dJx4a65c_grow_92f84_55 : decode cJx4a65c_grow_92f84 55 = .ok (.dup_x1, 1) := by decide +kernel
theorem dJx4a65c_grow_92f84_56 : decode cJx4a65c_grow_92f84 56 = .ok (.putfield 9, 3) := by decide +kernel
theorem dJx4a65c_grow_92f84_59 : decode cJx4a65c_grow_92f84 59 = .ok (.areturn, 1) := by decide +kernel
set_option maxRecDepth 20000 in
theorem ggJx4a65c_grow_d5877_Jx4a65c_grow_92f84 : GoodIn wsJx4a65c_grow_d5877 wsJx4a65c_grow_92f84 := goodIn_r _ [6, 7, 8, 9, 10, 11, 12, 13, 14, 15, 16, 17, 18, 19, 20, 21, 22, 23, 24, 25, 26, 27, 28, 29, 30, 31, 32, 33, 34, 35, 36, 37, 38, 39, 40, 41, 42, 43, 44, 45] (by decide +kernel) (by decide +kernel)
set_option maxRecDepth 20000 in
theorem gJx4a65c_grow_d5877_Jx4a65c_grow_92f84 : GoodIn wsJx4a65c_grow_d5877 (wsV RJx4a65c 69 RJx4a65c yJx4a65c_grow_92f84 wsJx4a65c_grow_92f84) := goodIn_app (goodIn_of _ (by decide +kernel)) ggJx4a65c_grow_d5877_Jx4a65c_grow_92f84
theorem dJx4a65c_grow_d5877_0 : decode cJx4a65c_grow_d5877 0 = .ok (.aload_n 0, 1) := by decide +kernel
theorem dJx4a65c_grow_d5877_1 : decode cJx4a65c_grow_d5877 1 = .ok (.aload_n 0, 1) := by decide +kernel
theorem dJx4a65c_grow_d5877_2 : decode cJx4a65c_grow_d5877 2 = .ok (.getfield 48, 3) := by decide +kernel
theorem dJx4a65c_grow_d5877_5 : decode cJx4a65c_grow_d5877 5 = .ok (.iconst 1, 1) := by decide +kernel
theorem dJx4a65c_grow_d5877_6 : decode cJx4a65c_grow_d5877 6 = .ok (.iadd, 1) := by decide +kernel
theorem dJx4a65c_grow_d5877_7 : decode cJx4a65c_grow_d5877 7 = .ok (.invokevirtual 69, 3) := by decide +kernel
theorem dJx4a65c_grow_d5877_10 : decode cJx4a65c_grow_d5877 10 = .ok (.areturn, 1) := by decide +kernel
theorem dJx4a65c_size_8abf5_0 : decode cJx4a65c_size_8abf5 0 = .ok (.aload_n 0, 1) := by decide +kernel
theorem dJx4a65c_size_8abf5_1 : decode cJx4a65c_size_8abf5 1 = .ok (.getfield 48, 3) := by decide +kernel
theorem dJx4a65c_size_8abf5_4 : decode cJx4a65c_size_8abf5 4 = .ok (.ireturn, 1) := by decide +kernel
theorem dJx4a65c_isEmpty_aae02_0 : decode cJx4a65c_isEmpty_aae02 0 = .ok (.aload_n 0, 1) := by decide +kernel
theorem dJx4a65c_isEmpty_aae02_1 : decode cJx4a65c_isEmpty_aae02 1 = .ok (.getfield 48, 3) := by decide +kernel
theorem dJx4a65c_isEmpty_aae02_4 : decode cJx4a65c_isEmpty_aae02 4 = .ok (.ifCond .ne 7, 3) := by decide +kernel
theorem dJx4a65c_isEmpty_aae02_7 : decode cJx4a65c_isEmpty_aae02 7 = .ok (.iconst 1, 1) := by decide +kernel
theorem dJx4a65c_isEmpty_aae02_8 : decode cJx4a65c_isEmpty_aae02 8 = .ok (.goto 4, 3) := by decide +kernel
theorem dJx4a65c_isEmpty_aae02_11 : decode cJx4a65c_isEmpty_aae02 11 = .ok (.iconst 0, 1) := by decide +kernel
theorem dJx4a65c_isEmpty_aae02_12 : decode cJx4a65c_isEmpty_aae02 12 = .ok (.ireturn, 1) := by decide +kernel
theorem dJx4a65c_elementData_915e3_0 : decode cJx4a65c_elementData_915e3 0 = .ok (.aload_n 0, 1) := by decide +kernel
theorem dJx4a65c_elementData_915e3_1 : decode cJx4a65c_elementData_915e3 1 = .ok (.getfield 9, 3) := by decide +kernel
theorem dJx4a65c_elementData_915e3_4 : decode cJx4a65c_elementData_915e3 4 = .ok (.iload_n 1, 1) := by decide +kernel
theorem dJx4a65c_elementData_915e3_5 : decode cJx4a65c_elementData_915e3 5 = .ok (.aaload, 1) := by decide +kernel
theorem dJx4a65c_elementData_915e3_6 : decode cJx4a65c_elementData_915e3 6 = .ok (.areturn, 1) := by decide +kernel
set_option maxRecDepth 20000 in
theorem ggJx4a65c_get_915e3_J15_checkIndex_7cf53 : GoodIn wsJx4a65c_get_915e3 wsJ15_checkIndex_7cf53 := goodIn_r _ [5, 6, 7, 8, 9] (by decide +kernel) (by decide +kernel)
set_option maxRecDepth 20000 in
theorem gJx4a65c_get_915e3_J15_checkIndex_7cf53 : GoodIn wsJx4a65c_get_915e3 (va_wsS RJx4a65c 118 yJ15_checkIndex_7cf53 wsJ15_checkIndex_7cf53) := goodIn_app (goodIn_of _ (by decide +kernel)) ggJx4a65c_get_915e3_J15_checkIndex_7cf53
set_option maxRecDepth 20000 in
theorem ggJx4a65c_get_915e3_Jx4a65c_elementData_915e3 : GoodIn wsJx4a65c_get_915e3 wsJx4a65c_elementData_915e3 := goodIn_r _ [14, 15, 16, 17, 18] (by decide +kernel) (by decide +kernel)
set_option maxRecDepth 20000 in
theorem gJx4a65c_get_915e3_Jx4a65c_elementData_915e3 : GoodIn wsJx4a65c_get_915e3 (wsV RJx4a65c 123 RJx4a65c yJx4a65c_elementData_915e3 wsJx4a65c_elementData_915e3) := goodIn_app (goodIn_of _ (by decide +kernel)) ggJx4a65c_get_915e3_Jx4a65c_elementData_915e3
theorem dJx4a65c_get_915e3_0 : decode cJx4a65c_get_915e3 0 = .ok (.iload_n 1, 1) := by decide +kernel
theorem dJx4a65c_get_915e3_1 : decode cJx4a65c_get_915e3 1 = .ok (.aload_n 0, 1) := by decide +kernel
theorem dJx4a65c_get_915e3_2 : decode cJx4a65c_get_915e3 2 = .ok (.getfield 48, 3) := by decide +kernel
theorem dJx4a65c_get_915e3_5 : decode cJx4a65c_get_915e3 5 = .ok (.invokestatic 118, 3) := by decide +kernel
theorem dJx4a65c_get_915e3_8 : decode cJx4a65c_get_915e3 8 = .ok (.pop, 1) := by decide +kernel
theorem dJx4a65c_get_915e3_9 : decode cJx4a65c_get_915e3 9 = .ok (.aload_n 0, 1) := by decide +kernel
theorem dJx4a65c_get_915e3_10 : decode cJx4a65c_get_915e3 10 = .ok (.iload_n 1, 1) := by decide +kernel
theorem dJx4a65c_get_915e3_11 : decode cJx4a65c_get_915e3 11 = .ok (.invokevirtual 123, 3) := by decide +kernel
theorem dJx4a65c_get_915e3_14 : decode cJx4a65c_get_915e3 14 = .ok (.areturn, 1) := by decide +kernel
set_option maxRecDepth 20000 in
theorem ggJx4a65c_add_72be8_Jx4a65c_grow_d5877 : GoodIn wsJx4a65c_add_72be8 wsJx4a65c_grow_d5877 := goodIn_r _ [6, 1, 7, 8, 9, 5, 10, 11, 12, 13, 14, 15, 16, 17, 18, 19, 20, 21, 22, 23, 24, 25, 26, 27, 28, 29, 30, 31, 32, 33, 34, 35, 36, 37, 38, 39, 40, 41, 42, 43, 44, 45, 46, 47, 48, 49] (by decide +kernel) (by decide +kernel)
set_option maxRecDepth 20000 in
theorem gJx4a65c_add_72be8_Jx4a65c_grow_d5877 : GoodIn wsJx4a65c_add_72be8 (wsV RJx4a65c 129 RJx4a65c yJx4a65c_grow_d5877 wsJx4a65c_grow_d5877) := goodIn_app (goodIn_of _ (by decide +kernel)) ggJx4a65c_add_72be8_Jx4a65c_grow_d5877
theorem dJx4a65c_add_72be8_0 : decode cJx4a65c_add_72be8 0 = .ok (.iload_n 3, 1) := by decide +kernel
theorem dJx4a65c_add_72be8_1 : decode cJx4a65c_add_72be8 1 = .ok (.aload_n 2, 1) := by decide +kernel
theorem dJx4a65c_add_72be8_2 : decode cJx4a65c_add_72be8 2 = .ok (.arraylength, 1) := by decide +kernel
theorem dJx4a65c_add_72be8_3 : decode cJx4a65c_add_72be8 3 = .ok (.if_icmp .ne 8, 3) := by decide +kernel
theorem dJx4a65c_add_72be8_6 : decode cJx4a65c_add_72be8 6 = .ok (.aload_n 0, 1) := by decide +kernel
theorem dJx4a65c_add_72be8_7 : decode cJx4a65c_add_72be8 7 = .ok (.invokevirtual 129, 3) := by decide +kernel
theorem dJx4a65c_add_72be8_10 : decode cJx4a65c_add_72be8 10 = .ok (.astore_n 2, 1) := by decide +kernel
theorem dJx4a65c_add_72be8_11 : decode cJx4a65c_add_72be8 11 = .ok (.aload_n 2, 1) := by decide +kernel
theorem dJx4a65c_add_72be8_12 : decode cJx4a65c_add_72be8 12 = .ok (.iload_n 3, 1) := by decide +kernel
theorem dJx4a65c_add_72be8_13 : decode cJx4a65c_add_72be8 13 = .ok (.aload_n 1, 1) := by decide +kernel
theorem dJx4a65c_add_72be8_14 : decode cJx4a65c_add_72be8 14 = .ok (.aastore, 1) := by decide +kernel
theorem dJx4a65c_add_72be8_15 : decode cJx4a65c_add_72be8 15 = .ok (.aload_n 0, 1) := by decide +kernel
theorem dJx4a65c_add_72be8_16 : decode cJx4a65c_add_72be8 16 = .ok (.iload_n 3, 1) := by decide +kernel
theorem dJx4a65c_add_72be8_17 : decode cJx4a65c_add_72be8 17 = .ok (.iconst 1, 1) := by decide +kernel
theorem dJx4a65c_add_72be8_18 : decode cJx4a65c_add_72be8 18 = .ok (.iadd, 1) := by decide +kernel
theorem dJx4a65c_add_72be8_19 : decode cJx4a65c_add_72be8 19 = .ok (.putfield 48, 3) := by decide +kernel
theorem dJx4a65c_add_72be8_22 : decode cJx4a65c_add_72be8 22 = .ok (.return_, 1) := by decide +kernel
set_option maxRecDepth 20000 in
theorem ggJx4a65c_add_9ea2d_Jx4a65c_add_72be8 : GoodIn wsJx4a65c_add_9ea2d wsJx4a65c_add_72be8 := goodIn_r _ [9, 4, 10, 11, 12, 8, 13, 14, 15, 16, 17, 3, 18, 19, 20, 21, 22, 23, 24, 25, 26, 27, 28, 29, 30, 31, 32, 33, 34, 35, 36, 37, 38, 39, 40, 41, 42, 43, 44, 45, 46, 47, 48, 49, 50, 51, 52, 53, 54, 55] (by decide +kernel) (by decide +kernel)
set_option maxRecDepth 20000 in
theorem gJx4a65c_add_9ea2d_Jx4a65c_add_72be8 : GoodIn wsJx4a65c_add_9ea2d (wsV RJx4a65c 131 RJx4a65c yJx4a65c_add_72be8 wsJx4a65c_add_72be8) := goodIn_app (goodIn_of _ (by decide +kernel)) ggJx4a65c_add_9ea2d_Jx4a65c_add_72be8
theorem dJx4a65c_add_9ea2d_0 : decode cJx4a65c_add_9ea2d 0 = .ok (.aload_n 0, 1) := by decide +kernel
theorem dJx4a65c_add_9ea2d_1 : decode cJx4a65c_add_9ea2d 1 = .ok (.dup, 1) := by decide +kernel
theorem dJx4a65c_add_9ea2d_2 : decode cJx4a65c_add_9ea2d 2 = .ok (.getfield 63, 3) := by decide +kernel
theorem dJx4a65c_add_9ea2d_5 : decode cJx4a65c_add_9ea2d 5 = .ok (.iconst 1, 1) := by decide +kernel
theorem dJx4a65c_add_9ea2d_6 : decode cJx4a65c_add_9ea2d 6 = .ok (.iadd, 1) := by decide +kernel
theorem dJx4a65c_add_9ea2d_7 : decode cJx4a65c_add_9ea2d 7 = .ok (.putfield 63, 3) := by decide +kernel
theorem dJx4a65c_add_9ea2d_10 : decode cJx4a65c_add_9ea2d 10 = .ok (.aload_n 0, 1) := by decide +kernel
theorem dJx4a65c_add_9ea2d_11 : decode cJx4a65c_add_9ea2d 11 = .ok (.aload_n 1, 1) := by decide +kernel
theorem dJx4a65c_add_9ea2d_12 : decode cJx4a65c_add_9ea2d 12 = .ok (.aload_n 0, 1) := by decide +kernel
theorem dJx4a65c_add_9ea2d_13 : decode cJx4a65c_add_9ea2d 13 = .ok (.getfield 9, 3) := by decide +kernel
theorem dJx4a65c_add_9ea2d_16 : decode cJx4a65c_add_9ea2d 16 = .ok (.aload_n 0, 1) := by decide +kernel
theorem dJx4a65c_add_9ea2d_17 : decode cJx4a65c_add_9ea2d 17 = .ok (.getfield 48, 3) := by decide +kernel
theorem dJx4a65c_add_9ea2d_20 : decode cJx4a65c_add_9ea2d 20 = .ok (.invokevirtual 131, 3) := by decide +kernel
theorem dJx4a65c_add_9ea2d_23 : decode cJx4a65c_add_9ea2d 23 = .ok (.iconst 1, 1) := by decide +kernel
theorem dJx4a65c_add_9ea2d_24 : decode cJx4a65c_add_9ea2d 24 = .ok (.ireturn, 1) := by decide +kernel
set_option maxRecDepth 20000 in
theorem ggJx4a65c_remove_915e3_J15_checkIndex_7cf53 : GoodIn wsJx4a65c_remove_915e3 wsJ15_checkIndex_7cf53 := goodIn_r _ [6, 7, 8, 9, 10] (by decide +kernel) (by decide +kernel)
set_option maxRecDepth 20000 in
theorem gJx4a65c_remove_915e3_J15_checkIndex_7cf53 : GoodIn wsJx4a65c_remove_915e3 (va_wsS RJx4a65c 118 yJ15_checkIndex_7cf53 wsJ15_checkIndex_7cf53) := goodIn_app (goodIn_of _ (by decide +kernel)) ggJx4a65c_remove_915e3_J15_checkIndex_7cf53
set_option maxRecDepth 20000 in
theorem ggJx4a65c_remove_915e3_Jx4a65c_fastRemove_b59b0 : GoodIn wsJx4a65c_remove_915e3 wsJx4a65c_fastRemove_b59b0 := goodIn_r _ [15, 16, 17, 1, 18, 19, 20, 21, 22, 23, 24] (by decide +kernel) (by decide +kernel)
set_option maxRecDepth 20000 in
theorem gJx4a65c_remove_915e3_Jx4a65c_fastRemove_b59b0 : GoodIn wsJx4a65c_remove_915e3 (wsV RJx4a65c 144 RJx4a65c yJx4a65c_fastRemove_b59b0 wsJx4a65c_fastRemove_b59b0) := goodIn_app (goodIn_of _ (by decide +kernel)) ggJx4a65c_remove_915e3_Jx4a65c_fastRemove_b59b0
theorem dJx4a65c_remove_915e3_0 : decode cJx4a65c_remove_915e3 0 = .ok (.iload_n 1, 1) := by decide +kernel
theorem dJx4a65c_remove_915e3_1 : decode cJx4a65c_remove_915e3 1 = .ok (.aload_n 0, 1) := by decide +kernel
theorem dJx4a65c_remove_915e3_2 : decode cJx4a65c_remove_915e3 2 = .ok (.getfield 48, 3) := by decide +kernel
theorem dJx4a65c_remove_915e3_5 : decode cJx4a65c_remove_915e3 5 = .ok (.invokestatic 118, 3) := by decide +kernel
theorem dJx4a65c_remove_915e3_8 : decode cJx4a65c_remove_915e3 8 = .ok (.pop, 1) := by decide +kernel
theorem dJx4a65c_remove_915e3_9 : decode cJx4a65c_remove_915e3 9 = .ok (.aload_n 0, 1) := by decide +kernel
theorem dJx4a65c_remove_915e3_10 : decode cJx4a65c_remove_915e3 10 = .ok (.getfield 9, 3) := by decide +kernel
theorem dJx4a65c_remove_915e3_13 : decode cJx4a65c_remove_915e3 13 = .ok (.astore_n 2, 1) := by decide +kernel
theorem dJx4a65c_remove_915e3_14 : decode cJx4a65c_remove_915e3 14 = .ok (.aload_n 2, 1) := by decide +kernel
theorem dJx4a65c_remove_915e3_15 : decode cJx4a65c_remove_915e3 15 = .ok (.iload_n 1, 1) := by decide +kernel
theorem dJx4a65c_remove_915e3_16 : decode cJx4a65c_remove_915e3 16 = .ok (.aaload, 1) := by decide +kernel
theorem dJx4a65c_remove_915e3_17 : decode cJx4a65c_remove_915e3 17 = .ok (.astore_n 3, 1) := by decide +kernel
theorem dJx4a65c_remove_915e3_18 : decode cJx4a65c_remove_915e3 18 = .ok (.aload_n 0, 1) := by decide +kernel
theorem dJx4a65c_remove_915e3_19 : decode cJx4a65c_remove_915e3 19 = .ok (.aload_n 2, 1) := by decide +kernel
theorem dJx4a65c_remove_915e3_20 : decode cJx4a65c_remove_915e3 20 = .ok (.iload_n 1, 1) := by decide +kernel
theorem dJx4a65c_remove_915e3_21 : decode cJx4a65c_remove_915e3 21 = .ok (.invokevirtual 144, 3) := by decide +kernel
theorem dJx4a65c_remove_915e3_24 : decode cJx4a65c_remove_915e3 24 = .ok (.aload_n 3, 1) := by decide +kernel
theorem dJx4a65c_remove_915e3_25 : decode cJx4a65c_remove_915e3 25 = .ok (.areturn, 1) := by decide +kernel
theorem dJx4a65c_fastRemove_b59b0_0 : decode cJx4a65c_fastRemove_b59b0 0 = .ok (.aload_n 0, 1) := by decide +kernel
theorem dJx4a65c_fastRemove_b59b0_1 : decode cJx4a65c_fastRemove_b59b0 1 = .ok (.dup, 1) := by decide +kernel
theorem dJx4a65c_fastRemove_b59b0_2 : decode cJx4a65c_fastRemove_b59b0 2 = .ok (.getfield 63, 3) := by decide +kernel
theorem dJx4a65c_fastRemove_b59b0_5 : decode cJx4a65c_fastRemove_b59b0 5 = .ok (.iconst 1, 1) := by decide +kernel
theorem dJx4a65c_fastRemove_b59b0_6 : decode cJx4a65c_fastRemove_b59b0 6 = .ok (.iadd, 1) := by decide +kernel
theorem dJx4a65c_fastRemove_b59b0_7 : decode cJx4a65c_fastRemove_b59b0 7 = .ok (.putfield 63, 3) := by decide +kernel
theorem dJx4a65c_fastRemove_b59b0_10 : decode cJx4a65c_fastRemove_b59b0 10 = .ok (.aload_n 0, 1) := by decide +kernel
theorem dJx4a65c_fastRemove_b59b0_11 : decode cJx4a65c_fastRemove_b59b0 11 = .ok (.getfield 48, 3) := by decide +kernel
theorem dJx4a65c_fastRemove_b59b0_14 : decode cJx4a65c_fastRemove_b59b0 14 = .ok (.iconst 1, 1) := by decide +kernel
theorem dJx4a65c_fastRemove_b59b0_15 : decode cJx4a65c_fastRemove_b59b0 15 = .ok (.isub, 1) := by decide +kernel
theorem dJx4a65c_fastRemove_b59b0_16 : decode cJx4a65c_fastRemove_b59b0 16 = .ok (.dup, 1) := by decide +kernel
theorem dJx4a65c_fastRemove_b59b0_17 : decode cJx4a65c_fastRemove_b59b0 17 = .ok (.istore_n 3, 1) := by decide +kernel
theorem dJx4a65c_fastRemove_b59b0_18 : decode cJx4a65c_fastRemove_b59b0 18 = .ok (.iload_n 2, 1) := by decide +kernel
theorem dJx4a65c_fastRemove_b59b0_19 : decode cJx4a65c_fastRemove_b59b0 19 = .ok (.if_icmp .le 15, 3) := by decide +kernel
theorem dJx4a65c_fastRemove_b59b0_22 : decode cJx4a65c_fastRemove_b59b0 22 = .ok (.aload_n 1, 1) := by decide +kernel
theorem dJx4a65c_fastRemove_b59b0_23 : decode cJx4a65c_fastRemove_b59b0 23 = .ok (.iload_n 2, 1) := by decide +kernel
theorem dJx4a65c_fastRemove_b59b0_24 : decode cJx4a65c_fastRemove_b59b0 24 = .ok (.iconst 1, 1) := by decide +kernel
theorem dJx4a65c_fastRemove_b59b0_25 : decode cJx4a65c_fastRemove_b59b0 25 = .ok (.iadd, 1) := by decide +kernel
theorem dJx4a65c_fastRemove_b59b0_26 : decode cJx4a65c_fastRemove_b59b0 26 = .ok (.aload_n 1, 1) := by decide +kernel
theorem dJx4a65c_fastRemove_b59b0_27 : decode cJx4a65c_fastRemove_b59b0 27 = .ok (.iload_n 2, 1) := by decide +kernel
theorem dJx4a65c_fastRemove_b59b0_28 : decode cJx4a65c_fastRemove_b59b0 28 = .ok (.iload_n 3, 1) := by decide +kernel
theorem dJx4a65c_fastRemove_b59b0_29 : decode cJx4a65c_fastRemove_b59b0 29 = .ok (.iload_n 2, 1) := by decide +kernel
theorem dJx4a65c_fastRemove_b59b0_30 : decode cJx4a65c_fastRemove_b59b0 30 = .ok (.isub, 1) := by decide +kernel
theorem dJx4a65c_fastRemove_b59b0_31 : decode cJx4a65c_fastRemove_b59b0 31 = .ok (.invokestatic 112, 3) := by decide +kernel
theorem dJx4a65c_fastRemove_b59b0_34 : decode cJx4a65c_fastRemove_b59b0 34 = .ok (.aload_n 1, 1) := by decide +kernel
theorem dJx4a65c_fastRemove_b59b0_35 : decode cJx4a65c_fastRemove_b59b0 35 = .ok (.aload_n 0, 1) := by decide +kernel
theorem dJx4a65c_fastRemove_b59b0_36 : decode cJx4a65c_fastRemove_b59b0 36 = .ok (.iload_n 3, 1) := by decide +kernel
theorem dJx4a65c_fastRemove_b59b0_37 : decode cJx4a65c_fastRemove_b59b0 37 = .ok (.dup_x1, 1) := by decide +kernel
theorem dJx4a65c_fastRemove_b59b0_38 : decode cJx4a65c_fastRemove_b59b0 38 = .ok (.putfield 48, 3) := by decide +kernel
theorem dJx4a65c_fastRemove_b59b0_41 : decode cJx4a65c_fastRemove_b59b0 41 = .ok (.aconst_null, 1) := by decide +kernel
theorem dJx4a65c_fastRemove_b59b0_42 : decode cJx4a65c_fastRemove_b59b0 42 = .ok (.aastore, 1) := by decide +kernel
theorem dJx4a65c_fastRemove_b59b0_43 : decode cJx4a65c_fastRemove_b59b0 43 = .ok (.return_, 1) := by decide +kernel
set_option maxRecDepth 20000 in
theorem ggJ7_copyOf_1904c_J7_copyOf_6403c : GoodIn wsJ7_copyOf_1904c wsJ7_copyOf_6403c := goodIn_r _ [8, 9, 10, 11, 12, 13, 14, 15, 16, 17, 18] (by decide +kernel) (by decide +kernel)
set_option maxRecDepth 20000 in
theorem gJ7_copyOf_1904c_J7_copyOf_6403c : GoodIn wsJ7_copyOf_1904c (va_wsS RJ7 300 yJ7_copyOf_6403c wsJ7_copyOf_6403c) := goodIn_app (goodIn_of _ (by decide +kernel)) ggJ7_copyOf_1904c_J7_copyOf_6403c
theorem dJ7_copyOf_1904c_0 : decode cJ7_copyOf_1904c 0 = .ok (.aload_n 0, 1) := by decide +kernel
theorem dJ7_copyOf_1904c_1 : decode cJ7_copyOf_1904c 1 = .ok (.iload_n 1, 1) := by decide +kernel
theorem dJ7_copyOf_1904c_2 : decode cJ7_copyOf_1904c 2 = .ok (.aload_n 0, 1) := by decide +kernel
theorem dJ7_copyOf_1904c_3 : decode cJ7_copyOf_1904c 3 = .ok (.invokevirtual 86, 3) := by decide +kernel
theorem dJ7_copyOf_1904c_6 : decode cJ7_copyOf_1904c 6 = .ok (.invokestatic 300, 3) := by decide +kernel
theorem dJ7_copyOf_1904c_9 : decode cJ7_copyOf_1904c 9 = .ok (.areturn, 1) := by decide +kernel
theorem dJ7_copyOf_6403c_0 : decode cJ7_copyOf_6403c 0 = .ok (.aload_n 2, 1) := by decide +kernel
theorem dJ7_copyOf_6403c_1 : decode cJ7_copyOf_6403c 1 = .ok (.ldc 110, 2) := by decide +kernel
theorem dJ7_copyOf_6403c_3 : decode cJ7_copyOf_6403c 3 = .ok (.if_acmp .ne 10, 3) := by decide +kernel
theorem dJ7_copyOf_6403c_6 : decode cJ7_copyOf_6403c 6 = .ok (.iload_n 1, 1) := by decide +kernel
theorem dJ7_copyOf_6403c_7 : decode cJ7_copyOf_6403c 7 = .ok (.anewarray 2, 3) := by decide +kernel
theorem dJ7_copyOf_6403c_10 : decode cJ7_copyOf_6403c 10 = .ok (.goto 14, 3) := by decide +kernel
theorem dJ7_copyOf_6403c_13 : decode cJ7_copyOf_6403c 13 = .ok (.aload_n 2, 1) := by decide +kernel
theorem dJ7_copyOf_6403c_14 : decode cJ7_copyOf_6403c 14 = .ok (.invokevirtual 90, 3) := by decide +kernel
theorem dJ7_copyOf_6403c_17 : decode cJ7_copyOf_6403c 17 = .ok (.iload_n 1, 1) := by decide +kernel
theorem dJ7_copyOf_6403c_18 : decode cJ7_copyOf_6403c 18 = .ok (.invokestatic 95, 3) := by decide +kernel
theorem dJ7_copyOf_6403c_21 : decode cJ7_copyOf_6403c 21 = .ok (.checkcast 110, 3) := by decide +kernel
theorem dJ7_copyOf_6403c_24 : decode cJ7_copyOf_6403c 24 = .ok (.astore_n 3, 1) := by decide +kernel
theorem dJ7_copyOf_6403c_25 : decode cJ7_copyOf_6403c 25 = .ok (.aload_n 0, 1) := by decide +kernel
theorem dJ7_copyOf_6403c_26 : decode cJ7_copyOf_6403c 26 = .ok (.iconst 0, 1) := by decide +kernel
theorem dJ7_copyOf_6403c_27 : decode cJ7_copyOf_6403c 27 = .ok (.aload_n 3, 1) := by decide +kernel
theorem dJ7_copyOf_6403c_28 : decode cJ7_copyOf_6403c 28 = .ok (.iconst 0, 1) := by decide +kernel
theorem dJ7_copyOf_6403c_29 : decode cJ7_copyOf_6403c 29 = .ok (.aload_n 0, 1) := by decide +kernel
theorem dJ7_copyOf_6403c_30 : decode cJ7_copyOf_6403c 30 = .ok (.arraylength, 1) := by decide +kernel
theorem dJ7_copyOf_6403c_31 : decode cJ7_copyOf_6403c 31 = .ok (.iload_n 1, 1) := by decide +kernel
theorem dJ7_copyOf_6403c_32 : decode cJ7_copyOf_6403c 32 = .ok (.invokestatic 304, 3) := by decide +kernel
theorem dJ7_copyOf_6403c_35 : decode cJ7_copyOf_6403c 35 = .ok (.invokestatic 150, 3) := by decide +kernel
theorem dJ7_copyOf_6403c_38 : decode cJ7_copyOf_6403c 38 = .ok (.aload_n 3, 1) := by decide +kernel
theorem dJ7_copyOf_6403c_39 : decode cJ7_copyOf_6403c 39 = .ok (.areturn, 1) := by decide +kernel
set_option maxRecDepth 20000 in
theorem ggJ15_checkIndex_7cf53_J3_checkIndex_8e157 : GoodIn wsJ15_checkIndex_7cf53 wsJ3_checkIndex_8e157 := goodIn_r _ [4] (by decide +kernel) (by decide +kernel)
set_option maxRecDepth 20000 in
theorem gJ15_checkIndex_7cf53_J3_checkIndex_8e157 : GoodIn wsJ15_checkIndex_7cf53 (va_wsS RJ15 105 yJ3_checkIndex_8e157 wsJ3_checkIndex_8e157) := goodIn_app (goodIn_of _ (by decide +kernel)) ggJ15_checkIndex_7cf53_J3_checkIndex_8e157
theorem dJ15_checkIndex_7cf53_0 : decode cJ15_checkIndex_7cf53 0 = .ok (.iload_n 0, 1) := by decide +kernel
theorem dJ15_checkIndex_7cf53_1 : decode cJ15_checkIndex_7cf53 1 = .ok (.iload_n 1, 1) := by decide +kernel
theorem dJ15_checkIndex_7cf53_2 : decode cJ15_checkIndex_7cf53 2 = .ok (.aconst_null, 1) := by decide +kernel
theorem dJ15_checkIndex_7cf53_3 : decode cJ15_checkIndex_7cf53 3 = .ok (.invokestatic 105, 3) := by decide +kernel
theorem dJ15_checkIndex_7cf53_6 : decode cJ15_checkIndex_7cf53 6 = .ok (.ireturn, 1) := by decide +kernel
set_option maxRecDepth 20000 in
theorem ggJ8_newLength_cabcc_J8_hugeLength_7cf53 : GoodIn wsJ8_newLength_cabcc wsJ8_hugeLength_7cf53 := goodIn_r _ [9, 5] (by decide +kernel) (by decide +kernel)
set_option maxRecDepth 20000 in
theorem gJ8_newLength_cabcc_J8_hugeLength_7cf53 : GoodIn wsJ8_newLength_cabcc (va_wsS RJ8 201 yJ8_hugeLength_7cf53 wsJ8_hugeLength_7cf53) := goodIn_app (goodIn_of _ (by decide +kernel)) ggJ8_newLength_cabcc_J8_hugeLength_7cf53
theorem dJ8_newLength_cabcc_0 : decode cJ8_newLength_cabcc 0 = .ok (.iload_n 0, 1) := by decide +kernel
theorem dJ8_newLength_cabcc_1 : decode cJ8_newLength_cabcc 1 = .ok (.iload_n 1, 1) := by decide +kernel
theorem dJ8_newLength_cabcc_2 : decode cJ8_newLength_cabcc 2 = .ok (.iload_n 2, 1) := by decide +kernel
theorem dJ8_newLength_cabcc_3 : decode cJ8_newLength_cabcc 3 = .ok (.invokestatic 194, 3) := by decide +kernel
theorem dJ8_newLength_cabcc_6 : decode cJ8_newLength_cabcc 6 = .ok (.iadd, 1) := by decide +kernel
theorem dJ8_newLength_cabcc_7 : decode cJ8_newLength_cabcc 7 = .ok (.istore_n 3, 1) := by decide +kernel
theorem dJ8_newLength_cabcc_8 : decode cJ8_newLength_cabcc 8 = .ok (.iconst 0, 1) := by decide +kernel
theorem dJ8_newLength_cabcc_9 : decode cJ8_newLength_cabcc 9 = .ok (.iload_n 3, 1) := by decide +kernel
theorem dJ8_newLength_cabcc_10 : decode cJ8_newLength_cabcc 10 = .ok (.if_icmp .ge 11, 3) := by decide +kernel
theorem dJ8_newLength_cabcc_13 : decode cJ8_newLength_cabcc 13 = .ok (.iload_n 3, 1) := by decide +kernel
theorem dJ8_newLength_cabcc_14 : decode cJ8_newLength_cabcc 14 = .ok (.ldc 200, 2) := by decide +kernel
theorem dJ8_newLength_cabcc_16 : decode cJ8_newLength_cabcc 16 = .ok (.if_icmp .gt 5, 3) := by decide +kernel
theorem dJ8_newLength_cabcc_19 : decode cJ8_newLength_cabcc 19 = .ok (.iload_n 3, 1) := by decide +kernel
theorem dJ8_newLength_cabcc_20 : decode cJ8_newLength_cabcc 20 = .ok (.ireturn, 1) := by decide +kernel
theorem dJ8_newLength_cabcc_21 : decode cJ8_newLength_cabcc 21 = .ok (.iload_n 0, 1) := by decide +kernel
theorem dJ8_newLength_cabcc_22 : decode cJ8_newLength_cabcc 22 = .ok (.iload_n 1, 1) := by decide +kernel
theorem dJ8_newLength_cabcc_23 : decode cJ8_newLength_cabcc 23 = .ok (.invokestatic 201, 3) := by decide +kernel
theorem dJ8_newLength_cabcc_26 : decode cJ8_newLength_cabcc 26 = .ok (.ireturn, 1) := by decide +kernel
theorem dJ8_hugeLength_7cf53_0 : decode cJ8_hugeLength_7cf53 0 = .ok (.iload_n 0, 1) := by decide +kernel
theorem dJ8_hugeLength_7cf53_1 : decode cJ8_hugeLength_7cf53 1 = .ok (.iload_n 1, 1) := by decide +kernel
theorem dJ8_hugeLength_7cf53_2 : decode cJ8_hugeLength_7cf53 2 = .ok (.iadd, 1) := by decide +kernel
theorem dJ8_hugeLength_7cf53_3 : decode cJ8_hugeLength_7cf53 3 = .ok (.istore_n 2, 1) := by decide +kernel
theorem dJ8_hugeLength_7cf53_4 : decode cJ8_hugeLength_7cf53 4 = .ok (.iload_n 2, 1) := by decide +kernel
theorem dJ8_hugeLength_7cf53_5 : decode cJ8_hugeLength_7cf53 5 = .ok (.ifCond .ge 44, 3) := by decide +kernel
theorem dJ8_hugeLength_7cf53_8 : decode cJ8_hugeLength_7cf53 8 = .ok (.new 204, 3) := by decide +kernel
theorem dJ8_hugeLength_7cf53_11 : decode cJ8_hugeLength_7cf53 11 = .ok (.dup, 1) := by decide +kernel
theorem dJ8_hugeLength_7cf53_12 : decode cJ8_hugeLength_7cf53 12 = .ok (.new 89, 3) := by decide +kernel
theorem dJ8_hugeLength_7cf53_15 : decode cJ8_hugeLength_7cf53 15 = .ok (.dup, 1) := by decide +kernel
theorem dJ8_hugeLength_7cf53_16 : decode cJ8_hugeLength_7cf53 16 = .ok (.invokespecial 91, 3) := by decide +kernel
theorem dJ8_hugeLength_7cf53_19 : decode cJ8_hugeLength_7cf53 19 = .ok (.ldc 206, 2) := by decide +kernel
theorem dJ8_hugeLength_7cf53_21 : decode cJ8_hugeLength_7cf53 21 = .ok (.invokevirtual 94, 3) := by decide +kernel
theorem dJ8_hugeLength_7cf53_24 : decode cJ8_hugeLength_7cf53 24 = .ok (.iload_n 0, 1) := by decide +kernel
theorem dJ8_hugeLength_7cf53_25 : decode cJ8_hugeLength_7cf53 25 = .ok (.invokevirtual 98, 3) := by decide +kernel
theorem dJ8_hugeLength_7cf53_28 : decode cJ8_hugeLength_7cf53 28 = .ok (.ldc 208, 2) := by decide +kernel
theorem dJ8_hugeLength_7cf53_30 : decode cJ8_hugeLength_7cf53 30 = .ok (.invokevirtual 94, 3) := by decide +kernel
theorem dJ8_hugeLength_7cf53_33 : decode cJ8_hugeLength_7cf53 33 = .ok (.iload_n 1, 1) := by decide +kernel
theorem dJ8_hugeLength_7cf53_34 : decode cJ8_hugeLength_7cf53 34 = .ok (.invokevirtual 98, 3) := by decide +kernel
theorem dJ8_hugeLength_7cf53_37 : decode cJ8_hugeLength_7cf53 37 = .ok (.ldc 210, 2) := by decide +kernel
theorem dJ8_hugeLength_7cf53_39 : decode cJ8_hugeLength_7cf53 39 = .ok (.invokevirtual 94, 3) := by decide +kernel
theorem dJ8_hugeLength_7cf53_42 : decode cJ8_hugeLength_7cf53 42 = .ok (.invokevirtual 101, 3) := by decide +kernel
theorem dJ8_hugeLength_7cf53_45 : decode cJ8_hugeLength_7cf53 45 = .ok (.invokespecial 212, 3) := by decide +kernel
theorem dJ8_hugeLength_7cf53_48 : decode cJ8_hugeLength_7cf53 48 = .ok (.athrow, 1) := by decide +kernel
theorem dJ8_hugeLength_7cf53_49 : decode cJ8_hugeLength_7cf53 49 = .ok (.iload_n 2, 1) := by decide +kernel
theorem dJ8_hugeLength_7cf53_50 : decode cJ8_hugeLength_7cf53 50 = .ok (.ldc 200, 2) := by decide +kernel
theorem dJ8_hugeLength_7cf53_52 : decode cJ8_hugeLength_7cf53 52 = .ok (.if_icmp .gt 6, 3) := by decide +kernel
theorem dJ8_hugeLength_7cf53_55 : decode cJ8_hugeLength_7cf53 55 = .ok (.ldc 200, 2) := by decide +kernel
theorem dJ8_hugeLength_7cf53_57 : decode cJ8_hugeLength_7cf53 57 = .ok (.ireturn, 1) := by decide +kernel
theorem dJ8_hugeLength_7cf53_58 : decode cJ8_hugeLength_7cf53 58 = .ok (.iload_n 2, 1) := by decide +kernel
theorem dJ8_hugeLength_7cf53_59 : decode cJ8_hugeLength_7cf53 59 = .ok (.ireturn, 1) := by decide +kernel
theorem dJ3_checkIndex_8e157_0 : decode cJ3_checkIndex_8e157 0 = .ok (.iload_n 0, 1) := by decide +kernel
theorem dJ3_checkIndex_8e157_1 : decode cJ3_checkIndex_8e157 1 = .ok (.ifCond .lt 8, 3) := by decide +kernel
theorem dJ3_checkIndex_8e157_4 : decode cJ3_checkIndex_8e157 4 = .ok (.iload_n 0, 1) := by decide +kernel
theorem dJ3_checkIndex_8e157_5 : decode cJ3_checkIndex_8e157 5 = .ok (.iload_n 1, 1) := by decide +kernel
theorem dJ3_checkIndex_8e157_6 : decode cJ3_checkIndex_8e157 6 = .ok (.if_icmp .lt 10, 3) := by decide +kernel
theorem dJ3_checkIndex_8e157_9 : decode cJ3_checkIndex_8e157 9 = .ok (.aload_n 2, 1) := by decide +kernel
theorem dJ3_checkIndex_8e157_10 : decode cJ3_checkIndex_8e157 10 = .ok (.iload_n 0, 1) := by decide +kernel
theorem dJ3_checkIndex_8e157_11 : decode cJ3_checkIndex_8e157 11 = .ok (.iload_n 1, 1) := by decide +kernel
theorem dJ3_checkIndex_8e157_12 : decode cJ3_checkIndex_8e157 12 = .ok (.invokestatic 95, 3) := by decide +kernel
theorem dJ3_checkIndex_8e157_15 : decode cJ3_checkIndex_8e157 15 = .ok (.athrow, 1) := by decide +kernel
theorem dJ3_checkIndex_8e157_16 : decode cJ3_checkIndex_8e157 16 = .ok (.iload_n 0, 1) := by decide +kernel
theorem dJ3_checkIndex_8e157_17 : decode cJ3_checkIndex_8e157 17 = .ok (.ireturn, 1) := by decide +kernel
end
section
/-! ===== the state of the whole system, as functions ===== -/
abbrev StT : Type := (Nat → Nat → Int32) × (Nat → Nat → Int32) × (Nat → Nat → Nat → Int32) × (Nat → Nat → Int32) × (Nat → Nat → Int32) × (Nat → Option Nat) × (Nat → Int32) × (Nat → Nat → Int32) × (Int64) × (List Nat) × (Nat → Bool) × (Nat → Nat → Int32) × (Nat → Nat) × (Nat → Nat → Option Nat)
def St : Type := StT
def St.FC (x : St) : Nat → Nat → Int32 := (show StT from x).1
def St.FR (x : St) : Nat → Nat → Int32 := (show StT from x).2.1
def St.AC (x : St) : Nat → Nat → Nat → Int32 := (show StT from x).2.2.1
def St.FH (x : St) : Nat → Nat → Int32 := (show StT from x).2.2.2.1
def St.FL (x : St) : Nat → Nat → Int32 := (show StT from x).2.2.2.2.1
def St.LD (x : St) : Nat → Option Nat := (show StT from x).2.2.2.2.2.1
def St.FM (x : St) : Nat → Int32 := (show StT from x).2.2.2.2.2.2.1
def St.AM (x : St) : Nat → Nat → Int32 := (show StT from x).2.2.2.2.2.2.2.1
def St.OU (x : St) : Int64 := (show StT from x).2.2.2.2.2.2.2.2.1
def St.PL (x : St) : List Nat := (show StT from x).2.2.2.2.2.2.2.2.2.1
def St.PK (x : St) : Nat → Bool := (show StT from x).2.2.2.2.2.2.2.2.2.2.1
def St.MF (x : St) : Nat → Nat → Int32 := (show StT from x).2.2.2.2.2.2.2.2.2.2.2.1
def St.BN (x : St) : Nat → Nat := (show StT from x).2.2.2.2.2.2.2.2.2.2.2.2.1
def St.BR (x : St) : Nat → Nat → Option Nat := (show StT from x).2.2.2.2.2.2.2.2.2.2.2.2.2
def St.mk (FC : Nat → Nat → Int32) (FR : Nat → Nat → Int32) (AC : Nat → Nat → Nat → Int32) (FH : Nat → Nat → Int32) (FL : Nat → Nat → Int32) (LD : Nat → Option Nat) (FM : Nat → Int32) (AM : Nat → Nat → Int32) (OU : Int64) (PL : List Nat) (PK : Nat → Bool) (MF : Nat → Nat → Int32) (BN : Nat → Nat) (BR : Nat → Nat → Option Nat) : St := (show StT from (FC, FR, AC, FH, FL, LD, FM, AM, OU, PL, PK, MF, BN, BR))
abbrev u2 {α : Type} (f : Nat → Nat → α) (i j : Nat) (v : α) : Nat → Nat → α := va_up f i (va_up (f i) j v)
def St.setFC (x : St) (i m : Nat) (v : Int32) : St := St.mk (u2 x.FC i m v) x.FR x.AC x.FH x.FL x.LD x.FM x.AM x.OU x.PL x.PK x.MF x.BN x.BR
def St.setFR (x : St) (i m : Nat) (v : Int32) : St := St.mk x.FC (u2 x.FR i m v) x.AC x.FH x.FL x.LD x.FM x.AM x.OU x.PL x.PK x.MF x.BN x.BR
def St.setAC (x : St) (i a : Nat) (f : Nat → Int32) : St := St.mk x.FC x.FR (va_up x.AC i (va_up (x.AC i) a f)) x.FH x.FL x.LD x.FM x.AM x.OU x.PL x.PK x.MF x.BN x.BR
def St.setFH (x : St) (i m : Nat) (v : Int32) : St := St.mk x.FC x.FR x.AC (u2 x.FH i m v) x.FL x.LD x.FM x.AM x.OU x.PL x.PK x.MF x.BN x.BR
def St.setFL (x : St) (i m : Nat) (v : Int32) : St := St.mk x.FC x.FR x.AC x.FH (u2 x.FL i m v) x.LD x.FM x.AM x.OU x.PL x.PK x.MF x.BN x.BR
def St.setLD (x : St) (i : Nat) (v : Option Nat) : St := St.mk x.FC x.FR x.AC x.FH x.FL (va_up x.LD i v) x.FM x.AM x.OU x.PL x.PK x.MF x.BN x.BR
def St.setFM (x : St) (k : Nat) (v : Int32) : St := St.mk x.FC x.FR x.AC x.FH x.FL x.LD (va_up x.FM k v) x.AM x.OU x.PL x.PK x.MF x.BN x.BR
def St.setAM (x : St) (r : Nat) (f : Nat → Int32) : St := St.mk x.FC x.FR x.AC x.FH x.FL x.LD x.FM (va_up x.AM r f) x.OU x.PL x.PK x.MF x.BN x.BR
def St.setOU (x : St) (v : Int64) : St := St.mk x.FC x.FR x.AC x.FH x.FL x.LD x.FM x.AM (v) x.PL x.PK x.MF x.BN x.BR
def St.setMF (x : St) (a m : Nat) (v : Int32) : St := St.mk x.FC x.FR x.AC x.FH x.FL x.LD x.FM x.AM x.OU x.PL x.PK (u2 x.MF a m v) x.BN x.BR
def St.setBR (x : St) (a : Nat) (f : Nat → Option Nat) : St := St.mk x.FC x.FR x.AC x.FH x.FL x.LD x.FM x.AM x.OU x.PL x.PK x.MF x.BN (va_up x.BR a f)
def St.addM (x : St) (q : Nat) : St := St.mk x.FC x.FR x.AC x.FH x.FL x.LD x.FM x.AM x.OU (x.PL ++ [q]) (va_up x.PK q true) (va_up x.MF q (fun _ => 0)) x.BN x.BR
def St.addB (x : St) (q n : Nat) : St := St.mk x.FC x.FR x.AC x.FH x.FL x.LD x.FM x.AM x.OU (x.PL ++ [q]) (va_up x.PK q false) x.MF (va_up x.BN q n) (va_up x.BR q (fun _ => none))
/-! ===== the world ===== -/
abbrev gET : Type := va_G × (Nat → Nat) × (Nat → ClassId) × Nat × (Nat → Nat)
def gE : Type := gET
def gE.D (E : gE) : va_G := (show gET from E).1
def gE.ad (E : gE) : Nat → Nat := (show gET from E).2.1
def gE.cid (E : gE) : Nat → ClassId := (show gET from E).2.2.1
/-- the empty array that new lists share -/
def gE.z (E : gE) : Nat := (show gET from E).2.2.2.1
/-- the string constants' addresses -/
def gE.sa (E : gE) : Nat → Nat := (show gET from E).2.2.2.2
def gtys (E : gE) : List (ClassId × FieldType) := [(E.cid 0, .int), (E.cid 1, .boolean), (E.cid 2, .object RX0), (E.cid 3, .object RX1), (E.cid 4, .object "java/lang/Object"), (E.cid 5, .long)]
abbrev aD (E : gE) : Nat := E.ad 0
abbrev aN (E : gE) : Nat := E.ad 1
abbrev aCs (E : gE) : Nat := E.ad 2
abbrev aHs (E : gE) : Nat := E.ad 3
abbrev aC (E : gE) (i : Nat) : Nat := E.ad (4 + i)
abbrev aR (E : gE) (i : Nat) : Nat := E.ad (8 + i)
/-- the int arrays of cache i: 0 states, 1 values, 2 victimValues, 3 useOrder -/
abbrev aA (E : gE) (i a : Nat) : Nat := E.ad (12 + (4 * i + a))
abbrev aH (E : gE) (h : Nat) : Nat := E.ad (28 + h)
/-- lists: 0 to 15 the queues of the homes, 16 the messages on the way -/
abbrev aL (E : gE) (j : Nat) : Nat := E.ad (44 + j)
abbrev aM (E : gE) : Nat := E.ad 61
abbrev aY (E : gE) (r : Nat) : Nat := E.ad (62 + r)
abbrev aO (E : gE) : Nat := E.ad 86
def mlen (r : Nat) : Nat := [4, 4, 64, 64, 64, 64, 4, 4, 4, 4, 4, 4, 4, 4, 4, 4, 16, 16, 16, 16, 4480, 16, 2800, 7].getD r 0
def mcid (r : Nat) : Nat := [0, 0, 0, 0, 0, 0, 0, 0, 0, 0, 1, 0, 1, 0, 0, 0, 0, 0, 0, 1, 0, 0, 0, 0].getD r 0
def eD (E : gE) : va_E := .inr (6, [.ref (aN E), .ref (aCs E), .ref (aHs E)])
def eN (E : gE) : va_E := .inr (4, [.ref (aL E 16)])
def eCs (E : gE) : va_E := .inl (E.cid 2, 4, .inr (.inr (.inr (.inr (fun i => some (aC E i))))))
def eHs (E : gE) : va_E := .inl (E.cid 3, 16, .inr (.inr (.inr (.inr (fun h => some (aH E h))))))
def eC (E : gE) (i : Nat) (f : Nat → Int32) : va_E := .inr (1, [.int (nI i), .ref (aN E), .ref (aR E i), .ref (aA E i 0), .ref (aA E i 1), .ref (aA E i 2), .ref (aA E i 3), .int (f 7), .int (f 8), .int (f 9), .int (f 10), .int (f 11), .int (f 12), .int (f 13)])
def eR (f : Nat → Int32) : va_E := .inr (5, [.int (f 0), .int (f 1), .int (f 2), .int (f 3), .int (f 4), .int (f 5), .int (f 6)])
def ealen (k : Nat) : Nat := if k % 4 = 3 then 4 else 16
def eA (E : gE) (k : Nat) (f : Nat → Int32) : va_E := .inl (E.cid 0, ealen k, .inl f)
def eH (E : gE) (h : Nat) (f : Nat → Int32) : va_E := .inr (2, [.int (nI h), .ref (aN E), .ref (aL E h), .int (f 3), .int (f 4), .int (f 5), .int (f 6), .int (f 7), .int (f 8)])
def eL (E : gE) (f : Nat → Int32) (d : Option Nat) : va_E := .inr (0, [.int (f 0), .ref (d.getD E.z), .int (f 2)])
def eM (E : gE) (f : Nat → Int32) : va_E := .inr (7, [.int (f 0), .ref (aY E 0), .ref (aY E 1), .ref (aY E 2), .ref (aY E 3), .ref (aY E 4), .ref (aY E 5), .int (f 1), .ref (aY E 6), .ref (aY E 7), .ref (aY E 8), .ref (aY E 9), .ref (aY E 10), .ref (aY E 11), .ref (aY E 12), .ref (aY E 13), .ref (aY E 14), .ref (aY E 15), .ref (aY E 16), .ref (aY E 17), .ref (aY E 18), .ref (aY E 19), .ref (aY E 20), .ref (aY E 21), .int (f 2), .int (f 3), .ref (aY E 22), .int (f 4), .ref (aY E 23)])
def eY (E : gE) (r : Nat) (f : Nat → Int32) : va_E := .inl (E.cid (mcid r), mlen r, .inl f)
def eO (E : gE) (v : Int64) : va_E := .inl (E.cid 5, 1, .inr (.inl (fun _ => v)))
def ent (E : gE) (x : St) (k : Nat) : va_E :=
  if k < 4 then (if k = 0 then eD E else if k = 1 then eN E else if k = 2 then eCs E else eHs E)
  else if k < 8 then eC E (k - 4) (x.FC (k - 4))
  else if k < 12 then eR (x.FR (k - 8))
  else if k < 28 then eA E (k - 12) (x.AC ((k - 12) / 4) ((k - 12) % 4))
  else if k < 44 then eH E (k - 28) (x.FH (k - 28))
  else if k < 61 then eL E (x.FL (k - 44)) (x.LD (k - 44))
  else if k = 61 then eM E x.FM
  else if k < 86 then eY E (k - 62) (x.AM (k - 62))
  else eO E x.OU
def eMs (f : Nat → Int32) : va_E := .inr (3, [.int (f 0), .int (f 1), .int (f 2), .int (f 3), .int (f 4), .int (f 5), .int (f 6)])
def eB (E : gE) (n : Nat) (f : Nat → Option Nat) : va_E := .inl (E.cid 4, n, .inr (.inr (.inr (.inr f))))
def pf (E : gE) (x : St) (a : Nat) : va_E := if x.PK a = true then eMs (x.MF a) else eB E (x.BN a) (x.BR a)
def wF (E : gE) (x : St) : va_W := (List.range 87).map (fun k => (E.ad k, ent E x k))
def wd (E : gE) (x : St) : va_W := wF E x ++ va_pl x.PL (pf E x)
/-- a cell is there -/
def wat (E : gE) (x : St) (a : Nat) (e : va_E) : Prop := ∃ k : Nat, (wd E x)[k]? = some (a, e)
/-- a cell is there, and with another content the world is that of y -/
def wsg (E : gE) (x : St) (a : Nat) (e e' : va_E) (y : St) : Prop := ∀ A : Nat → Prop, va_D A (wd E x) → ∃ k : Nat, (wd E x)[k]? = some (a, e) ∧ (wd E x).set k (a, e') = wd E y
theorem wF_len (E : gE) (x : St) : (wF E x).length = 87 := by simp [wF]
theorem wd_at {E : gE} {x : St} {p : Nat} (hp : p < 87) : (wd E x)[p]? = some (E.ad p, ent E x p) := by
  unfold wd
  rw [List.getElem?_append_left (by rw [wF_len]; exact hp)]
  simp [wF, hp]
theorem wat_e {E : gE} {x : St} {p : Nat} {e : va_E} (hp : p < 87) (he : ent E x p = e) : wat E x (E.ad p) e := ⟨p, by rw [wd_at hp, he]⟩
theorem wsg_e {E : gE} {x y : St} {p : Nat} {e e' : va_E} (hp : p < 87) (he : ent E x p = e) (he' : ent E y p = e') (ho : ∀ k, k < 87 → k ≠ p → ent E y k = ent E x k) (hpl : va_pl y.PL (pf E y) = va_pl x.PL (pf E x)) : wsg E x (E.ad p) e e' y := by
  intro A hD
  refine ⟨p, by rw [wd_at hp, he], ?_⟩
  unfold wd
  rw [List.set_append_left _ _ (by rw [wF_len]; exact hp), hpl]
  congr 1
  apply List.ext_getElem?
  intro j
  by_cases hj : j < 87
  · by_cases hjp : j = p
    · subst hjp
      rw [List.getElem?_set_self (by rw [wF_len]; exact hj)]
      simp [wF, hj, he']
    · rw [List.getElem?_set_ne (Ne.symm hjp)]
      simp [wF, hj, ho j hj hjp]
  · rw [List.getElem?_eq_none (by simp [wF]; omega), List.getElem?_eq_none (by simp [wF]; omega)]
theorem wat_p {E : gE} {x : St} {a : Nat} {e : va_E} (h : a ∈ x.PL) (he : pf E x a = e) : wat E x a e := by
  obtain ⟨k, hk⟩ := va_pl_get (X := wF E x) (f := pf E x) h
  exact ⟨k, by rw [← he]; exact hk⟩
theorem wsg_p {E : gE} {x y : St} {a : Nat} {e e' : va_E} (h : a ∈ x.PL) (he : pf E x a = e) (hF : wF E y = wF E x) (hL : y.PL = x.PL) (hp : ∀ b, pf E y b = va_up (pf E x) a e' b) : wsg E x a e e' y := by
  intro A hD
  obtain ⟨k, hk⟩ := va_pl_get (X := wF E x) (f := pf E x) h
  refine ⟨k, by rw [← he]; exact hk, ?_⟩
  unfold wd
  rw [va_pl_set hD h hk, hF, hL, va_pl_congr hp]

theorem ent_D (E : gE) (x : St)  : ent E x (0) = eD E := by
  rfl
theorem ent_N (E : gE) (x : St)  : ent E x (1) = eN E := by
  rfl
theorem ent_Cs (E : gE) (x : St)  : ent E x (2) = eCs E := by
  rfl
theorem ent_Hs (E : gE) (x : St)  : ent E x (3) = eHs E := by
  rfl
theorem ent_C (E : gE) (x : St) {i : Nat} (hi : i < 4) : ent E x (4 + i) = eC E i (x.FC i) := by
  unfold ent
  rw [if_neg (by omega), if_pos (by omega)]
  rw [show 4 + i - 4 = i by omega]
theorem ent_R (E : gE) (x : St) {i : Nat} (hi : i < 4) : ent E x (8 + i) = eR (x.FR i) := by
  unfold ent
  rw [if_neg (by omega), if_neg (by omega), if_pos (by omega)]
  rw [show 8 + i - 8 = i by omega]
theorem ent_A (E : gE) (x : St) {i a : Nat} (hi : i < 4) (ha : a < 4) : ent E x (12 + (4 * i + a)) = eA E (4 * i + a) (x.AC i a) := by
  unfold ent
  rw [if_neg (by omega), if_neg (by omega), if_neg (by omega), if_pos (by omega)]
  rw [show 12 + (4 * i + a) - 12 = 4 * i + a by omega, show (4 * i + a) / 4 = i by omega, show (4 * i + a) % 4 = a by omega]
theorem ent_H (E : gE) (x : St) {i : Nat} (hi : i < 16) : ent E x (28 + i) = eH E i (x.FH i) := by
  unfold ent
  rw [if_neg (by omega), if_neg (by omega), if_neg (by omega), if_neg (by omega), if_pos (by omega)]
  rw [show 28 + i - 28 = i by omega]
theorem ent_L (E : gE) (x : St) {i : Nat} (hi : i < 17) : ent E x (44 + i) = eL E (x.FL i) (x.LD i) := by
  unfold ent
  rw [if_neg (by omega), if_neg (by omega), if_neg (by omega), if_neg (by omega), if_neg (by omega), if_pos (by omega)]
  rw [show 44 + i - 44 = i by omega]
theorem ent_M (E : gE) (x : St)  : ent E x (61) = eM E x.FM := by
  rfl
theorem ent_Y (E : gE) (x : St) {i : Nat} (hi : i < 24) : ent E x (62 + i) = eY E i (x.AM i) := by
  unfold ent
  rw [if_neg (by omega), if_neg (by omega), if_neg (by omega), if_neg (by omega), if_neg (by omega), if_neg (by omega), if_neg (by omega), if_pos (by omega)]
  rw [show 62 + i - 62 = i by omega]
theorem ent_O (E : gE) (x : St)  : ent E x (86) = eO E x.OU := by
  rfl
/-! a change of one object leaves the others -/
theorem eo_FC (E : gE) (x : St) {i m : Nat} {v : Int32} (hi : i < 4) : ∀ k, k < 87 → k ≠ 4 + i → ent E (x.setFC i m v) k = ent E x k := by
  intro k hk hn
  unfold ent
  repeat' split
  all_goals first | rfl | skip
  all_goals (simp only [St.setFC, St.mk, St.FC, St.FR, St.AC, St.FH, St.FL, St.LD, St.FM, St.AM, St.OU, u2]; first | done | (rw [va_up_ne _ _ (by omega)]) | (exfalso; omega))
theorem eo_FR (E : gE) (x : St) {i m : Nat} {v : Int32} (hi : i < 4) : ∀ k, k < 87 → k ≠ 8 + i → ent E (x.setFR i m v) k = ent E x k := by
  intro k hk hn
  unfold ent
  repeat' split
  all_goals first | rfl | skip
  all_goals (simp only [St.setFR, St.mk, St.FC, St.FR, St.AC, St.FH, St.FL, St.LD, St.FM, St.AM, St.OU, u2]; first | done | (rw [va_up_ne _ _ (by omega)]) | (exfalso; omega))
theorem eo_AC (E : gE) (x : St) {i a : Nat} {f : Nat → Int32} (hi : i < 4) (ha : a < 4) : ∀ k, k < 87 → k ≠ 12 + (4 * i + a) → ent E (x.setAC i a f) k = ent E x k := by
  intro k hk hn
  unfold ent
  repeat' split
  all_goals first | rfl | skip
  all_goals (simp only [St.setAC, St.mk, St.AC])
  by_cases h : (k - 12) / 4 = i
  · rw [h, va_up_self, va_up_ne _ _ (by omega)]
  · rw [va_up_ne _ _ h]
theorem eo_FH (E : gE) (x : St) {i m : Nat} {v : Int32} (hi : i < 16) : ∀ k, k < 87 → k ≠ 28 + i → ent E (x.setFH i m v) k = ent E x k := by
  intro k hk hn
  unfold ent
  repeat' split
  all_goals first | rfl | skip
  all_goals (simp only [St.setFH, St.mk, St.FC, St.FR, St.AC, St.FH, St.FL, St.LD, St.FM, St.AM, St.OU, u2]; first | done | (rw [va_up_ne _ _ (by omega)]) | (exfalso; omega))
theorem eo_FL (E : gE) (x : St) {i m : Nat} {v : Int32} (hi : i < 17) : ∀ k, k < 87 → k ≠ 44 + i → ent E (x.setFL i m v) k = ent E x k := by
  intro k hk hn
  unfold ent
  repeat' split
  all_goals first | rfl | skip
  all_goals (simp only [St.setFL, St.mk, St.FC, St.FR, St.AC, St.FH, St.FL, St.LD, St.FM, St.AM, St.OU, u2]; first | done | (rw [va_up_ne _ _ (by omega)]) | (exfalso; omega))
theorem eo_LD (E : gE) (x : St) {i : Nat} {v : Option Nat} (hi : i < 17) : ∀ k, k < 87 → k ≠ 44 + i → ent E (x.setLD i v) k = ent E x k := by
  intro k hk hn
  unfold ent
  repeat' split
  all_goals first | rfl | skip
  all_goals (simp only [St.setLD, St.mk, St.FC, St.FR, St.AC, St.FH, St.FL, St.LD, St.FM, St.AM, St.OU, u2]; first | done | (rw [va_up_ne _ _ (by omega)]) | (exfalso; omega))
theorem eo_FM (E : gE) (x : St) {m : Nat} {v : Int32} : ∀ k, k < 87 → k ≠ 61 → ent E (x.setFM m v) k = ent E x k := by
  intro k hk hn
  unfold ent
  repeat' split
  all_goals first | rfl | skip
  all_goals (simp only [St.setFM, St.mk, St.FC, St.FR, St.AC, St.FH, St.FL, St.LD, St.FM, St.AM, St.OU, u2]; first | done | (rw [va_up_ne _ _ (by omega)]) | (exfalso; omega))
theorem eo_AM (E : gE) (x : St) {i : Nat} {f : Nat → Int32} (hi : i < 24) : ∀ k, k < 87 → k ≠ 62 + i → ent E (x.setAM i f) k = ent E x k := by
  intro k hk hn
  unfold ent
  repeat' split
  all_goals first | rfl | skip
  all_goals (simp only [St.setAM, St.mk, St.FC, St.FR, St.AC, St.FH, St.FL, St.LD, St.FM, St.AM, St.OU, u2]; first | done | (rw [va_up_ne _ _ (by omega)]) | (exfalso; omega))
theorem eo_OU (E : gE) (x : St) {v : Int64} : ∀ k, k < 87 → k ≠ 86 → ent E (x.setOU v) k = ent E x k := by
  intro k hk hn
  unfold ent
  repeat' split
  all_goals first | rfl | skip
  all_goals (simp only [St.setOU, St.mk, St.FC, St.FR, St.AC, St.FH, St.FL, St.LD, St.FM, St.AM, St.OU, u2]; first | done | (rw [va_up_ne _ _ (by omega)]) | (exfalso; omega))
/-! reading and writing, by kinds: wat, wsg -/
theorem wat_D (E : gE) (x : St)  : wat E x (E.ad (0)) (eD E) := wat_e (by omega) (ent_D E x )
theorem wat_N (E : gE) (x : St)  : wat E x (E.ad (1)) (eN E) := wat_e (by omega) (ent_N E x )
theorem wat_Cs (E : gE) (x : St)  : wat E x (E.ad (2)) (eCs E) := wat_e (by omega) (ent_Cs E x )
theorem wat_Hs (E : gE) (x : St)  : wat E x (E.ad (3)) (eHs E) := wat_e (by omega) (ent_Hs E x )
theorem wat_C (E : gE) (x : St) {i : Nat} (hi : i < 4) : wat E x (E.ad (4 + i)) (eC E i (x.FC i)) := wat_e (by omega) (ent_C E x hi)
theorem wat_R (E : gE) (x : St) {i : Nat} (hi : i < 4) : wat E x (E.ad (8 + i)) (eR (x.FR i)) := wat_e (by omega) (ent_R E x hi)
theorem wat_A (E : gE) (x : St) {i a : Nat} (hi : i < 4) (ha : a < 4) : wat E x (E.ad (12 + (4 * i + a))) (eA E (4 * i + a) (x.AC i a)) := wat_e (by omega) (ent_A E x hi ha)
theorem wat_H (E : gE) (x : St) {i : Nat} (hi : i < 16) : wat E x (E.ad (28 + i)) (eH E i (x.FH i)) := wat_e (by omega) (ent_H E x hi)
theorem wat_L (E : gE) (x : St) {i : Nat} (hi : i < 17) : wat E x (E.ad (44 + i)) (eL E (x.FL i) (x.LD i)) := wat_e (by omega) (ent_L E x hi)
theorem wat_M (E : gE) (x : St)  : wat E x (E.ad (61)) (eM E x.FM) := wat_e (by omega) (ent_M E x )
theorem wat_Y (E : gE) (x : St) {i : Nat} (hi : i < 24) : wat E x (E.ad (62 + i)) (eY E i (x.AM i)) := wat_e (by omega) (ent_Y E x hi)
theorem wat_O (E : gE) (x : St)  : wat E x (E.ad (86)) (eO E x.OU) := wat_e (by omega) (ent_O E x )
theorem ws_C7 (E : gE) (x : St) {i : Nat} (hi : i < 4) (v : Int32) : wsg E x (aC E i) (eC E i (x.FC i)) (.inr (1, [.int (nI i), .ref (aN E), .ref (aR E i), .ref (aA E i 0), .ref (aA E i 1), .ref (aA E i 2), .ref (aA E i 3), .int v, .int (x.FC i 8), .int (x.FC i 9), .int (x.FC i 10), .int (x.FC i 11), .int (x.FC i 12), .int (x.FC i 13)])) (x.setFC i 7 v) := wsg_e (by omega) (ent_C E x hi) (by rw [ent_C E _ hi]; simp [eC, St.setFC, St.mk, St.FC, va_up]) (eo_FC E x hi) rfl
theorem ws_C8 (E : gE) (x : St) {i : Nat} (hi : i < 4) (v : Int32) : wsg E x (aC E i) (eC E i (x.FC i)) (.inr (1, [.int (nI i), .ref (aN E), .ref (aR E i), .ref (aA E i 0), .ref (aA E i 1), .ref (aA E i 2), .ref (aA E i 3), .int (x.FC i 7), .int v, .int (x.FC i 9), .int (x.FC i 10), .int (x.FC i 11), .int (x.FC i 12), .int (x.FC i 13)])) (x.setFC i 8 v) := wsg_e (by omega) (ent_C E x hi) (by rw [ent_C E _ hi]; simp [eC, St.setFC, St.mk, St.FC, va_up]) (eo_FC E x hi) rfl
theorem ws_C9 (E : gE) (x : St) {i : Nat} (hi : i < 4) (v : Int32) : wsg E x (aC E i) (eC E i (x.FC i)) (.inr (1, [.int (nI i), .ref (aN E), .ref (aR E i), .ref (aA E i 0), .ref (aA E i 1), .ref (aA E i 2), .ref (aA E i 3), .int (x.FC i 7), .int (x.FC i 8), .int v, .int (x.FC i 10), .int (x.FC i 11), .int (x.FC i 12), .int (x.FC i 13)])) (x.setFC i 9 v) := wsg_e (by omega) (ent_C E x hi) (by rw [ent_C E _ hi]; simp [eC, St.setFC, St.mk, St.FC, va_up]) (eo_FC E x hi) rfl
theorem ws_C10 (E : gE) (x : St) {i : Nat} (hi : i < 4) (v : Int32) : wsg E x (aC E i) (eC E i (x.FC i)) (.inr (1, [.int (nI i), .ref (aN E), .ref (aR E i), .ref (aA E i 0), .ref (aA E i 1), .ref (aA E i 2), .ref (aA E i 3), .int (x.FC i 7), .int (x.FC i 8), .int (x.FC i 9), .int v, .int (x.FC i 11), .int (x.FC i 12), .int (x.FC i 13)])) (x.setFC i 10 v) := wsg_e (by omega) (ent_C E x hi) (by rw [ent_C E _ hi]; simp [eC, St.setFC, St.mk, St.FC, va_up]) (eo_FC E x hi) rfl
theorem ws_C11 (E : gE) (x : St) {i : Nat} (hi : i < 4) (v : Int32) : wsg E x (aC E i) (eC E i (x.FC i)) (.inr (1, [.int (nI i), .ref (aN E), .ref (aR E i), .ref (aA E i 0), .ref (aA E i 1), .ref (aA E i 2), .ref (aA E i 3), .int (x.FC i 7), .int (x.FC i 8), .int (x.FC i 9), .int (x.FC i 10), .int v, .int (x.FC i 12), .int (x.FC i 13)])) (x.setFC i 11 v) := wsg_e (by omega) (ent_C E x hi) (by rw [ent_C E _ hi]; simp [eC, St.setFC, St.mk, St.FC, va_up]) (eo_FC E x hi) rfl
theorem ws_C12 (E : gE) (x : St) {i : Nat} (hi : i < 4) (v : Int32) : wsg E x (aC E i) (eC E i (x.FC i)) (.inr (1, [.int (nI i), .ref (aN E), .ref (aR E i), .ref (aA E i 0), .ref (aA E i 1), .ref (aA E i 2), .ref (aA E i 3), .int (x.FC i 7), .int (x.FC i 8), .int (x.FC i 9), .int (x.FC i 10), .int (x.FC i 11), .int v, .int (x.FC i 13)])) (x.setFC i 12 v) := wsg_e (by omega) (ent_C E x hi) (by rw [ent_C E _ hi]; simp [eC, St.setFC, St.mk, St.FC, va_up]) (eo_FC E x hi) rfl
theorem ws_C13 (E : gE) (x : St) {i : Nat} (hi : i < 4) (v : Int32) : wsg E x (aC E i) (eC E i (x.FC i)) (.inr (1, [.int (nI i), .ref (aN E), .ref (aR E i), .ref (aA E i 0), .ref (aA E i 1), .ref (aA E i 2), .ref (aA E i 3), .int (x.FC i 7), .int (x.FC i 8), .int (x.FC i 9), .int (x.FC i 10), .int (x.FC i 11), .int (x.FC i 12), .int v])) (x.setFC i 13 v) := wsg_e (by omega) (ent_C E x hi) (by rw [ent_C E _ hi]; simp [eC, St.setFC, St.mk, St.FC, va_up]) (eo_FC E x hi) rfl
theorem ws_R0 (E : gE) (x : St) {i : Nat} (hi : i < 4) (v : Int32) : wsg E x (aR E i) (eR (x.FR i)) (.inr (5, [.int v, .int (x.FR i 1), .int (x.FR i 2), .int (x.FR i 3), .int (x.FR i 4), .int (x.FR i 5), .int (x.FR i 6)])) (x.setFR i 0 v) := wsg_e (by omega) (ent_R E x hi) (by rw [ent_R E _ hi]; simp [eR, St.setFR, St.mk, St.FR, va_up]) (eo_FR E x hi) rfl
theorem ws_R1 (E : gE) (x : St) {i : Nat} (hi : i < 4) (v : Int32) : wsg E x (aR E i) (eR (x.FR i)) (.inr (5, [.int (x.FR i 0), .int v, .int (x.FR i 2), .int (x.FR i 3), .int (x.FR i 4), .int (x.FR i 5), .int (x.FR i 6)])) (x.setFR i 1 v) := wsg_e (by omega) (ent_R E x hi) (by rw [ent_R E _ hi]; simp [eR, St.setFR, St.mk, St.FR, va_up]) (eo_FR E x hi) rfl
theorem ws_R2 (E : gE) (x : St) {i : Nat} (hi : i < 4) (v : Int32) : wsg E x (aR E i) (eR (x.FR i)) (.inr (5, [.int (x.FR i 0), .int (x.FR i 1), .int v, .int (x.FR i 3), .int (x.FR i 4), .int (x.FR i 5), .int (x.FR i 6)])) (x.setFR i 2 v) := wsg_e (by omega) (ent_R E x hi) (by rw [ent_R E _ hi]; simp [eR, St.setFR, St.mk, St.FR, va_up]) (eo_FR E x hi) rfl
theorem ws_R3 (E : gE) (x : St) {i : Nat} (hi : i < 4) (v : Int32) : wsg E x (aR E i) (eR (x.FR i)) (.inr (5, [.int (x.FR i 0), .int (x.FR i 1), .int (x.FR i 2), .int v, .int (x.FR i 4), .int (x.FR i 5), .int (x.FR i 6)])) (x.setFR i 3 v) := wsg_e (by omega) (ent_R E x hi) (by rw [ent_R E _ hi]; simp [eR, St.setFR, St.mk, St.FR, va_up]) (eo_FR E x hi) rfl
theorem ws_R4 (E : gE) (x : St) {i : Nat} (hi : i < 4) (v : Int32) : wsg E x (aR E i) (eR (x.FR i)) (.inr (5, [.int (x.FR i 0), .int (x.FR i 1), .int (x.FR i 2), .int (x.FR i 3), .int v, .int (x.FR i 5), .int (x.FR i 6)])) (x.setFR i 4 v) := wsg_e (by omega) (ent_R E x hi) (by rw [ent_R E _ hi]; simp [eR, St.setFR, St.mk, St.FR, va_up]) (eo_FR E x hi) rfl
theorem ws_R5 (E : gE) (x : St) {i : Nat} (hi : i < 4) (v : Int32) : wsg E x (aR E i) (eR (x.FR i)) (.inr (5, [.int (x.FR i 0), .int (x.FR i 1), .int (x.FR i 2), .int (x.FR i 3), .int (x.FR i 4), .int v, .int (x.FR i 6)])) (x.setFR i 5 v) := wsg_e (by omega) (ent_R E x hi) (by rw [ent_R E _ hi]; simp [eR, St.setFR, St.mk, St.FR, va_up]) (eo_FR E x hi) rfl
theorem ws_R6 (E : gE) (x : St) {i : Nat} (hi : i < 4) (v : Int32) : wsg E x (aR E i) (eR (x.FR i)) (.inr (5, [.int (x.FR i 0), .int (x.FR i 1), .int (x.FR i 2), .int (x.FR i 3), .int (x.FR i 4), .int (x.FR i 5), .int v])) (x.setFR i 6 v) := wsg_e (by omega) (ent_R E x hi) (by rw [ent_R E _ hi]; simp [eR, St.setFR, St.mk, St.FR, va_up]) (eo_FR E x hi) rfl
theorem ws_H3 (E : gE) (x : St) {i : Nat} (hi : i < 16) (v : Int32) : wsg E x (aH E i) (eH E i (x.FH i)) (.inr (2, [.int (nI i), .ref (aN E), .ref (aL E i), .int v, .int (x.FH i 4), .int (x.FH i 5), .int (x.FH i 6), .int (x.FH i 7), .int (x.FH i 8)])) (x.setFH i 3 v) := wsg_e (by omega) (ent_H E x hi) (by rw [ent_H E _ hi]; simp [eH, St.setFH, St.mk, St.FH, va_up]) (eo_FH E x hi) rfl
theorem ws_H4 (E : gE) (x : St) {i : Nat} (hi : i < 16) (v : Int32) : wsg E x (aH E i) (eH E i (x.FH i)) (.inr (2, [.int (nI i), .ref (aN E), .ref (aL E i), .int (x.FH i 3), .int v, .int (x.FH i 5), .int (x.FH i 6), .int (x.FH i 7), .int (x.FH i 8)])) (x.setFH i 4 v) := wsg_e (by omega) (ent_H E x hi) (by rw [ent_H E _ hi]; simp [eH, St.setFH, St.mk, St.FH, va_up]) (eo_FH E x hi) rfl
theorem ws_H5 (E : gE) (x : St) {i : Nat} (hi : i < 16) (v : Int32) : wsg E x (aH E i) (eH E i (x.FH i)) (.inr (2, [.int (nI i), .ref (aN E), .ref (aL E i), .int (x.FH i 3), .int (x.FH i 4), .int v, .int (x.FH i 6), .int (x.FH i 7), .int (x.FH i 8)])) (x.setFH i 5 v) := wsg_e (by omega) (ent_H E x hi) (by rw [ent_H E _ hi]; simp [eH, St.setFH, St.mk, St.FH, va_up]) (eo_FH E x hi) rfl
theorem ws_H6 (E : gE) (x : St) {i : Nat} (hi : i < 16) (v : Int32) : wsg E x (aH E i) (eH E i (x.FH i)) (.inr (2, [.int (nI i), .ref (aN E), .ref (aL E i), .int (x.FH i 3), .int (x.FH i 4), .int (x.FH i 5), .int v, .int (x.FH i 7), .int (x.FH i 8)])) (x.setFH i 6 v) := wsg_e (by omega) (ent_H E x hi) (by rw [ent_H E _ hi]; simp [eH, St.setFH, St.mk, St.FH, va_up]) (eo_FH E x hi) rfl
theorem ws_H7 (E : gE) (x : St) {i : Nat} (hi : i < 16) (v : Int32) : wsg E x (aH E i) (eH E i (x.FH i)) (.inr (2, [.int (nI i), .ref (aN E), .ref (aL E i), .int (x.FH i 3), .int (x.FH i 4), .int (x.FH i 5), .int (x.FH i 6), .int v, .int (x.FH i 8)])) (x.setFH i 7 v) := wsg_e (by omega) (ent_H E x hi) (by rw [ent_H E _ hi]; simp [eH, St.setFH, St.mk, St.FH, va_up]) (eo_FH E x hi) rfl
theorem ws_H8 (E : gE) (x : St) {i : Nat} (hi : i < 16) (v : Int32) : wsg E x (aH E i) (eH E i (x.FH i)) (.inr (2, [.int (nI i), .ref (aN E), .ref (aL E i), .int (x.FH i 3), .int (x.FH i 4), .int (x.FH i 5), .int (x.FH i 6), .int (x.FH i 7), .int v])) (x.setFH i 8 v) := wsg_e (by omega) (ent_H E x hi) (by rw [ent_H E _ hi]; simp [eH, St.setFH, St.mk, St.FH, va_up]) (eo_FH E x hi) rfl
theorem ws_A (E : gE) (x : St) {i a : Nat} (hi : i < 4) (ha : a < 4) (f : Nat → Int32) : wsg E x (aA E i a) (eA E (4 * i + a) (x.AC i a)) (eA E (4 * i + a) f) (x.setAC i a f) := wsg_e (by omega) (ent_A E x hi ha) (by rw [ent_A E _ hi ha]; simp [St.setAC, St.mk, St.AC, va_up]) (eo_AC E x hi ha) rfl
theorem ws_L0 (E : gE) (x : St) {i : Nat} (hi : i < 17) (v : Int32) : wsg E x (aL E i) (eL E (x.FL i) (x.LD i)) (.inr (0, [.int v, .ref ((x.LD i).getD E.z), .int (x.FL i 2)])) (x.setFL i 0 v) := wsg_e (by omega) (ent_L E x hi) (by rw [ent_L E _ hi]; simp [eL, St.setFL, St.mk, St.FL, St.LD, va_up]) (eo_FL E x hi) rfl
theorem ws_L2 (E : gE) (x : St) {i : Nat} (hi : i < 17) (v : Int32) : wsg E x (aL E i) (eL E (x.FL i) (x.LD i)) (.inr (0, [.int (x.FL i 0), .ref ((x.LD i).getD E.z), .int v])) (x.setFL i 2 v) := wsg_e (by omega) (ent_L E x hi) (by rw [ent_L E _ hi]; simp [eL, St.setFL, St.mk, St.FL, St.LD, va_up]) (eo_FL E x hi) rfl
theorem ws_L1 (E : gE) (x : St) {i : Nat} (hi : i < 17) (a : Nat) : wsg E x (aL E i) (eL E (x.FL i) (x.LD i)) (.inr (0, [.int (x.FL i 0), .ref a, .int (x.FL i 2)])) (x.setLD i (some a)) := wsg_e (by omega) (ent_L E x hi) (by rw [ent_L E _ hi]; simp [eL, St.setLD, St.mk, St.FL, St.LD, va_up]) (eo_LD E x hi) rfl
theorem ws_M0 (E : gE) (x : St) (v : Int32) : wsg E x (aM E) (eM E x.FM) (.inr (7, [.int v, .ref (aY E 0), .ref (aY E 1), .ref (aY E 2), .ref (aY E 3), .ref (aY E 4), .ref (aY E 5), .int (x.FM 1), .ref (aY E 6), .ref (aY E 7), .ref (aY E 8), .ref (aY E 9), .ref (aY E 10), .ref (aY E 11), .ref (aY E 12), .ref (aY E 13), .ref (aY E 14), .ref (aY E 15), .ref (aY E 16), .ref (aY E 17), .ref (aY E 18), .ref (aY E 19), .ref (aY E 20), .ref (aY E 21), .int (x.FM 2), .int (x.FM 3), .ref (aY E 22), .int (x.FM 4), .ref (aY E 23)])) (x.setFM 0 v) := wsg_e (by omega) (ent_M E x) (by rw [ent_M E _]; simp [eM, St.setFM, St.mk, St.FM, va_up]) (eo_FM E x) rfl
theorem ws_M1 (E : gE) (x : St) (v : Int32) : wsg E x (aM E) (eM E x.FM) (.inr (7, [.int (x.FM 0), .ref (aY E 0), .ref (aY E 1), .ref (aY E 2), .ref (aY E 3), .ref (aY E 4), .ref (aY E 5), .int v, .ref (aY E 6), .ref (aY E 7), .ref (aY E 8), .ref (aY E 9), .ref (aY E 10), .ref (aY E 11), .ref (aY E 12), .ref (aY E 13), .ref (aY E 14), .ref (aY E 15), .ref (aY E 16), .ref (aY E 17), .ref (aY E 18), .ref (aY E 19), .ref (aY E 20), .ref (aY E 21), .int (x.FM 2), .int (x.FM 3), .ref (aY E 22), .int (x.FM 4), .ref (aY E 23)])) (x.setFM 1 v) := wsg_e (by omega) (ent_M E x) (by rw [ent_M E _]; simp [eM, St.setFM, St.mk, St.FM, va_up]) (eo_FM E x) rfl
theorem ws_M2 (E : gE) (x : St) (v : Int32) : wsg E x (aM E) (eM E x.FM) (.inr (7, [.int (x.FM 0), .ref (aY E 0), .ref (aY E 1), .ref (aY E 2), .ref (aY E 3), .ref (aY E 4), .ref (aY E 5), .int (x.FM 1), .ref (aY E 6), .ref (aY E 7), .ref (aY E 8), .ref (aY E 9), .ref (aY E 10), .ref (aY E 11), .ref (aY E 12), .ref (aY E 13), .ref (aY E 14), .ref (aY E 15), .ref (aY E 16), .ref (aY E 17), .ref (aY E 18), .ref (aY E 19), .ref (aY E 20), .ref (aY E 21), .int v, .int (x.FM 3), .ref (aY E 22), .int (x.FM 4), .ref (aY E 23)])) (x.setFM 2 v) := wsg_e (by omega) (ent_M E x) (by rw [ent_M E _]; simp [eM, St.setFM, St.mk, St.FM, va_up]) (eo_FM E x) rfl
theorem ws_M3 (E : gE) (x : St) (v : Int32) : wsg E x (aM E) (eM E x.FM) (.inr (7, [.int (x.FM 0), .ref (aY E 0), .ref (aY E 1), .ref (aY E 2), .ref (aY E 3), .ref (aY E 4), .ref (aY E 5), .int (x.FM 1), .ref (aY E 6), .ref (aY E 7), .ref (aY E 8), .ref (aY E 9), .ref (aY E 10), .ref (aY E 11), .ref (aY E 12), .ref (aY E 13), .ref (aY E 14), .ref (aY E 15), .ref (aY E 16), .ref (aY E 17), .ref (aY E 18), .ref (aY E 19), .ref (aY E 20), .ref (aY E 21), .int (x.FM 2), .int v, .ref (aY E 22), .int (x.FM 4), .ref (aY E 23)])) (x.setFM 3 v) := wsg_e (by omega) (ent_M E x) (by rw [ent_M E _]; simp [eM, St.setFM, St.mk, St.FM, va_up]) (eo_FM E x) rfl
theorem ws_M4 (E : gE) (x : St) (v : Int32) : wsg E x (aM E) (eM E x.FM) (.inr (7, [.int (x.FM 0), .ref (aY E 0), .ref (aY E 1), .ref (aY E 2), .ref (aY E 3), .ref (aY E 4), .ref (aY E 5), .int (x.FM 1), .ref (aY E 6), .ref (aY E 7), .ref (aY E 8), .ref (aY E 9), .ref (aY E 10), .ref (aY E 11), .ref (aY E 12), .ref (aY E 13), .ref (aY E 14), .ref (aY E 15), .ref (aY E 16), .ref (aY E 17), .ref (aY E 18), .ref (aY E 19), .ref (aY E 20), .ref (aY E 21), .int (x.FM 2), .int (x.FM 3), .ref (aY E 22), .int v, .ref (aY E 23)])) (x.setFM 4 v) := wsg_e (by omega) (ent_M E x) (by rw [ent_M E _]; simp [eM, St.setFM, St.mk, St.FM, va_up]) (eo_FM E x) rfl
theorem ws_Y (E : gE) (x : St) {i : Nat} (hi : i < 24) (f : Nat → Int32) : wsg E x (aY E i) (eY E i (x.AM i)) (eY E i f) (x.setAM i f) := wsg_e (by omega) (ent_Y E x hi) (by rw [ent_Y E _ hi]; simp [St.setAM, St.mk, St.AM, va_up]) (eo_AM E x hi) rfl
theorem ws_O (E : gE) (x : St) (v : Int64) : wsg E x (aO E) (eO E x.OU) (eO E v) (x.setOU v) := wsg_e (by omega) (ent_O E x) (by rw [ent_O E _]; simp [St.setOU, St.mk, St.OU]) (eo_OU E x) rfl
theorem wat_Ms (E : gE) (x : St) {a : Nat} (h : a ∈ x.PL) (hk : x.PK a = true) : wat E x a (eMs (x.MF a)) := wat_p h (by simp [pf, hk])
theorem wat_B (E : gE) (x : St) {a : Nat} (h : a ∈ x.PL) (hk : x.PK a = false) : wat E x a (eB E (x.BN a) (x.BR a)) := wat_p h (by simp [pf, hk])
theorem ws_Ms0 (E : gE) (x : St) {a : Nat} (h : a ∈ x.PL) (hk : x.PK a = true) (v : Int32) : wsg E x a (eMs (x.MF a)) (.inr (3, [.int v, .int (x.MF a 1), .int (x.MF a 2), .int (x.MF a 3), .int (x.MF a 4), .int (x.MF a 5), .int (x.MF a 6)])) (x.setMF a 0 v) := wsg_p h (by simp [pf, hk]) rfl rfl (fun b => by
  by_cases hb : b = a
  · subst hb
    rw [va_up_self]
    unfold pf
    rw [if_pos (show (x.setMF b 0 v).PK b = true from hk)]
    show eMs (u2 x.MF b 0 v b) = _
    simp [eMs, u2, va_up]
  · rw [va_up_ne _ _ hb]
    unfold pf
    show (if x.PK b = true then eMs (u2 x.MF a 0 v b) else eB E (x.BN b) (x.BR b)) = _
    rw [show u2 x.MF a 0 v b = x.MF b from va_up_ne _ _ hb])
theorem ws_Ms1 (E : gE) (x : St) {a : Nat} (h : a ∈ x.PL) (hk : x.PK a = true) (v : Int32) : wsg E x a (eMs (x.MF a)) (.inr (3, [.int (x.MF a 0), .int v, .int (x.MF a 2), .int (x.MF a 3), .int (x.MF a 4), .int (x.MF a 5), .int (x.MF a 6)])) (x.setMF a 1 v) := wsg_p h (by simp [pf, hk]) rfl rfl (fun b => by
  by_cases hb : b = a
  · subst hb
    rw [va_up_self]
    unfold pf
    rw [if_pos (show (x.setMF b 1 v).PK b = true from hk)]
    show eMs (u2 x.MF b 1 v b) = _
    simp [eMs, u2, va_up]
  · rw [va_up_ne _ _ hb]
    unfold pf
    show (if x.PK b = true then eMs (u2 x.MF a 1 v b) else eB E (x.BN b) (x.BR b)) = _
    rw [show u2 x.MF a 1 v b = x.MF b from va_up_ne _ _ hb])
theorem ws_Ms2 (E : gE) (x : St) {a : Nat} (h : a ∈ x.PL) (hk : x.PK a = true) (v : Int32) : wsg E x a (eMs (x.MF a)) (.inr (3, [.int (x.MF a 0), .int (x.MF a 1), .int v, .int (x.MF a 3), .int (x.MF a 4), .int (x.MF a 5), .int (x.MF a 6)])) (x.setMF a 2 v) := wsg_p h (by simp [pf, hk]) rfl rfl (fun b => by
  by_cases hb : b = a
  · subst hb
    rw [va_up_self]
    unfold pf
    rw [if_pos (show (x.setMF b 2 v).PK b = true from hk)]
    show eMs (u2 x.MF b 2 v b) = _
    simp [eMs, u2, va_up]
  · rw [va_up_ne _ _ hb]
    unfold pf
    show (if x.PK b = true then eMs (u2 x.MF a 2 v b) else eB E (x.BN b) (x.BR b)) = _
    rw [show u2 x.MF a 2 v b = x.MF b from va_up_ne _ _ hb])
theorem ws_Ms3 (E : gE) (x : St) {a : Nat} (h : a ∈ x.PL) (hk : x.PK a = true) (v : Int32) : wsg E x a (eMs (x.MF a)) (.inr (3, [.int (x.MF a 0), .int (x.MF a 1), .int (x.MF a 2), .int v, .int (x.MF a 4), .int (x.MF a 5), .int (x.MF a 6)])) (x.setMF a 3 v) := wsg_p h (by simp [pf, hk]) rfl rfl (fun b => by
  by_cases hb : b = a
  · subst hb
    rw [va_up_self]
    unfold pf
    rw [if_pos (show (x.setMF b 3 v).PK b = true from hk)]
    show eMs (u2 x.MF b 3 v b) = _
    simp [eMs, u2, va_up]
  · rw [va_up_ne _ _ hb]
    unfold pf
    show (if x.PK b = true then eMs (u2 x.MF a 3 v b) else eB E (x.BN b) (x.BR b)) = _
    rw [show u2 x.MF a 3 v b = x.MF b from va_up_ne _ _ hb])
theorem ws_Ms4 (E : gE) (x : St) {a : Nat} (h : a ∈ x.PL) (hk : x.PK a = true) (v : Int32) : wsg E x a (eMs (x.MF a)) (.inr (3, [.int (x.MF a 0), .int (x.MF a 1), .int (x.MF a 2), .int (x.MF a 3), .int v, .int (x.MF a 5), .int (x.MF a 6)])) (x.setMF a 4 v) := wsg_p h (by simp [pf, hk]) rfl rfl (fun b => by
  by_cases hb : b = a
  · subst hb
    rw [va_up_self]
    unfold pf
    rw [if_pos (show (x.setMF b 4 v).PK b = true from hk)]
    show eMs (u2 x.MF b 4 v b) = _
    simp [eMs, u2, va_up]
  · rw [va_up_ne _ _ hb]
    unfold pf
    show (if x.PK b = true then eMs (u2 x.MF a 4 v b) else eB E (x.BN b) (x.BR b)) = _
    rw [show u2 x.MF a 4 v b = x.MF b from va_up_ne _ _ hb])
theorem ws_Ms5 (E : gE) (x : St) {a : Nat} (h : a ∈ x.PL) (hk : x.PK a = true) (v : Int32) : wsg E x a (eMs (x.MF a)) (.inr (3, [.int (x.MF a 0), .int (x.MF a 1), .int (x.MF a 2), .int (x.MF a 3), .int (x.MF a 4), .int v, .int (x.MF a 6)])) (x.setMF a 5 v) := wsg_p h (by simp [pf, hk]) rfl rfl (fun b => by
  by_cases hb : b = a
  · subst hb
    rw [va_up_self]
    unfold pf
    rw [if_pos (show (x.setMF b 5 v).PK b = true from hk)]
    show eMs (u2 x.MF b 5 v b) = _
    simp [eMs, u2, va_up]
  · rw [va_up_ne _ _ hb]
    unfold pf
    show (if x.PK b = true then eMs (u2 x.MF a 5 v b) else eB E (x.BN b) (x.BR b)) = _
    rw [show u2 x.MF a 5 v b = x.MF b from va_up_ne _ _ hb])
theorem ws_Ms6 (E : gE) (x : St) {a : Nat} (h : a ∈ x.PL) (hk : x.PK a = true) (v : Int32) : wsg E x a (eMs (x.MF a)) (.inr (3, [.int (x.MF a 0), .int (x.MF a 1), .int (x.MF a 2), .int (x.MF a 3), .int (x.MF a 4), .int (x.MF a 5), .int v])) (x.setMF a 6 v) := wsg_p h (by simp [pf, hk]) rfl rfl (fun b => by
  by_cases hb : b = a
  · subst hb
    rw [va_up_self]
    unfold pf
    rw [if_pos (show (x.setMF b 6 v).PK b = true from hk)]
    show eMs (u2 x.MF b 6 v b) = _
    simp [eMs, u2, va_up]
  · rw [va_up_ne _ _ hb]
    unfold pf
    show (if x.PK b = true then eMs (u2 x.MF a 6 v b) else eB E (x.BN b) (x.BR b)) = _
    rw [show u2 x.MF a 6 v b = x.MF b from va_up_ne _ _ hb])
theorem ws_B (E : gE) (x : St) {a : Nat} (h : a ∈ x.PL) (hk : x.PK a = false) (f : Nat → Option Nat) : wsg E x a (eB E (x.BN a) (x.BR a)) (eB E (x.BN a) f) (x.setBR a f) := wsg_p h (by simp [pf, hk]) rfl rfl (fun b => by
  by_cases hb : b = a
  · subst hb
    rw [va_up_self]
    unfold pf
    rw [if_neg (show ¬ (x.setBR b f).PK b = true from fun q => by rw [show (x.setBR b f).PK b = x.PK b from rfl, hk] at q; cases q)]
    show eB E (x.BN b) (va_up x.BR b f b) = _
    rw [va_up_self]
  · rw [va_up_ne _ _ hb]
    unfold pf
    show (if x.PK b = true then eMs (x.MF b) else eB E (x.BN b) (va_up x.BR a f b)) = _
    rw [va_up_ne _ _ hb])
theorem wd_fresh {E : gE} {x : St} {A : Nat → Prop} {q : Nat} {e : va_E} (hD : va_D A (wd E x ++ [(q, e)])) : q ∉ x.PL := by
  intro h
  obtain ⟨k, hk⟩ := va_pl_get (X := wF E x) (f := pf E x) h
  have hl := (List.getElem?_eq_some_iff.mp hk).1
  have h1 : (wd E x ++ [(q, e)])[k]? = some (q, pf E x q) := by rw [List.getElem?_append_left (by exact hl)]; exact hk
  have h2 : (wd E x ++ [(q, e)])[(wd E x).length]? = some (q, e) := by simp
  have := hD.1 _ _ _ _ h1 h2 rfl
  unfold wd at this
  omega
theorem wd_addM {E : gE} {x : St} {q : Nat} (hq : q ∉ x.PL) : wd E x ++ [(q, .inr (3, [.int 0, .int 0, .int 0, .int 0, .int 0, .int 0, .int 0]))] = wd E (x.addM q) := by
  unfold wd
  rw [List.append_assoc, va_pl_push hq]
  congr 1
  refine va_pl_congr (fun b => ?_)
  by_cases hb : b = q
  · subst hb
    rw [va_up_self]
    unfold pf
    rw [if_pos (show (x.addM b).PK b = true from va_up_self _ _ _)]
    show _ = eMs (va_up x.MF b (fun _ => 0) b)
    rw [va_up_self]
    rfl
  · rw [va_up_ne _ _ hb]
    unfold pf
    show _ = (if va_up x.PK q true b = true then eMs (va_up x.MF q (fun _ => 0) b) else eB E (x.BN b) (x.BR b))
    rw [va_up_ne _ _ hb, va_up_ne _ _ hb]
theorem wd_addB {E : gE} {x : St} {q n : Nat} (hq : q ∉ x.PL) : wd E x ++ [(q, eB E n (fun _ => none))] = wd E (x.addB q n) := by
  unfold wd
  rw [List.append_assoc, va_pl_push hq]
  congr 1
  refine va_pl_congr (fun b => ?_)
  by_cases hb : b = q
  · subst hb
    rw [va_up_self]
    unfold pf
    rw [if_neg (show ¬ (x.addB b n).PK b = true from fun z => by rw [show (x.addB b n).PK b = false from va_up_self _ _ _] at z; cases z)]
    show _ = eB E (va_up x.BN b n b) (va_up x.BR b (fun _ => none) b)
    rw [va_up_self, va_up_self]
  · rw [va_up_ne _ _ hb]
    unfold pf
    show _ = (if va_up x.PK q false b = true then eMs (x.MF b) else eB E (va_up x.BN q n b) (va_up x.BR q (fun _ => none) b))
    rw [va_up_ne _ _ hb, va_up_ne _ _ hb, va_up_ne _ _ hb]
end
section
/-! ===== the judgement G over the world of a state, the contract Ct ===== -/
def gstrs : List (Nat × String) := [(38, "ways is not 1 to 4"), (43, "victims is not 0 to 2"), (51, "the cache holds a line, or a request is open"), (87, "value is not 0 to 9999"), (108, "a request for this line is open"), (113, "the victim buffer has no room"), (129, "there is no such index"), (184, "most is not 0 to 1000"), (212, "there is no such cache"), (215, "there is no such message"), (217, "there is no such line"), (219, "the line is not in the cache"), (221, "a request of this cache is open"), (223, "the line is in the victim buffer")]
def gZ (E : gE) (A : Nat → Prop) (U : State) (H : Heap) : Prop :=
  va_Z "java/util/ArrayList" "DEFAULTCAPACITY_EMPTY_ELEMENTDATA" "[Ljava/lang/Object;" (.ref E.z) A U H ∧ va_T (.object "java/lang/Object") E.z 0 (fun _ => .null) A U H ∧
  vx_Zq Bundle.tN "UNASSIGNED_STACK" Bundle.steD A U H ∧ vx_Zq Bundle.tN "SUPPRESSED_SENTINEL" Bundle.listD A U H ∧
  va_AO "java/lang/Object" U ∧ (∃ mi, va_Mi "[Ljava/lang/Object;" mi U) ∧ (∀ (j : Nat) (q : Nat × String), gstrs[j]? = some q → vk_R RX5 q.1 q.2 (E.sa j) U)
theorem gZ.warm {E : gE} {A : Nat → Prop} {u U : State} {H : Heap} (hW : u.WarmedH U.vm) (h : gZ E A u H) : gZ E A U H := by
  obtain ⟨h1, h2, h3, h4, h5, ⟨mi, h6⟩, h7⟩ := h
  have hvm := hW.alike
  exact ⟨h1.moved hvm, h2.moved hvm, vx_Zq.moved hvm h3, vx_Zq.moved hvm h4, h5.moved hvm, ⟨mi, h6.moved hvm⟩, fun j q hq => (h7 j q hq).warm hW⟩
theorem gZ.same {E : gE} {A : Nat → Prop} {u U : State} {H : Heap} (hv : U.vm = u.vm) (h : gZ E A u H) : gZ E A U H := by
  obtain ⟨h1, h2, h3, h4, h5, ⟨mi, h6⟩, h7⟩ := h
  have hvm : u.vm.Alike U.vm := by rw [hv]; exact Vm.Alike.refl u.vm
  exact ⟨h1.moved hvm, h2.moved hvm, vx_Zq.moved hvm h3, vx_Zq.moved hvm h4, h5.moved hvm, ⟨mi, h6.moved hvm⟩, fun j q hq => (h7 j q hq).same hv⟩
theorem gZ.kept {E : gE} {A : Nat → Prop} {U : State} {H H1 : Heap} (h : gZ E A U H) (hq : ∀ a : Nat, a < H.size → ¬ A a → H1[a]? = H[a]?) : gZ E A U H1 := by
  obtain ⟨h1, h2, h3, h4, h5⟩ := h
  exact ⟨h1.kept hq, h2.kept hq, h3.kept hq, h4.kept hq, h5⟩
theorem gZ.narrow {E : gE} {A B : Nat → Prop} {U : State} {H : Heap} (h : gZ E A U H) (hAB : ∀ q, B q → A q) : gZ E B U H := by
  obtain ⟨h1, h2, h3, h4, h5⟩ := h
  exact ⟨h1.narrow hAB, h2.narrow hAB, h3.narrow hAB, h4.narrow hAB, h5⟩
def gPc (E : gE) (av : List Value) (x : St) (sz : Nat) : Array Value → State → Prop := va_Pc av (fun U => U.heap.size = sz ∧ va_P E.D vwCl (wd E x) U.heap ∧ va_K E.D vwCl (gtys E) U ∧ va_D (fun _ => True) (wd E x) ∧ gZ E (va_A (wd E x) sz) U U.heap)
def gQc (E : gE) (x : St) (sz : Nat) (post : Option Value → St → Prop) : Array Value → State → Outcome → State → Prop := fun _ st oc t => (∃ (v : Option Value) (y : St), oc = .returned v ∧ post v y ∧ va_P E.D vwCl (wd E y) t.heap ∧ va_D (va_A (wd E x) sz) (wd E y)) ∧ va_F (va_A (wd E x) sz) st t
/-- a method's contract over the world of x -/
def Ct (l : Launch) (y : MethodName) (ws : List Cond) (rm : Room) (E : gE) (av : List Value) (x : St) (post : Option Value → St → Prop) (mc ms : Nat) : Prop := ∀ sz : Nat, Met l y ws rm (gPc E av x sz) (gQc E x sz post) mc ms (va_A (wd E x) sz)
theorem gPc_blind {E : gE} {av : List Value} {x : St} {sz : Nat} : FrameBlind (gPc E av x sz) := by
  intro a U g mk h
  obtain ⟨h1, h2, h3, h4, h5, h6⟩ := h
  exact ⟨h1, h2, h3, va_K.moved (u := U) (U := U.calling g mk a) (Vm.Alike.refl U.vm) h4, h5, gZ.same (u := U) (U := U.calling g mk a) rfl h6⟩
abbrev gA (E : gE) (S0 : St) (s : State) : Nat → Prop := va_A (wd E S0) s.heap.size
section GR
variable {p : Program} {l : Launch} {e : Env} {R : Room} {s : State} {m : MethodId} {args : Array Value} {below : List Frame} {meth : Method} {c : Code} {Q : State → Prop} {E : gE} {S0 x y : St} {nL cs sl : Nat} {cc : ByteArray} {own : String} {Ts : List Cond} {pc : Nat} {lv lv' : List (Nat × Value)} {st : List Value}
def G (p : Program) (l : Launch) (e : Env) (R : Room) (s : State) (m : MethodId) (args : Array Value) (below : List Frame) (meth : Method) (c : Code) (Q : State → Prop) (E : gE) (S0 : St) (nL cs sl : Nat) (x : St) (pc : Nat) (lv : List (Nat × Value)) (st : List Value) : Prop :=
  ∀ (H : Heap) (locs : List Loc) (ls : Array Slot), va_P E.D vwCl (wd E x) H → va_D (gA E S0 s) (wd E x) → va_S (gA E S0 s) s.heap H locs → lv_has ls nL lv → W p l e R s m args below meth c H locs cs sl Q (F0 m pc ls st)
/-- what holds all along a method -/
def gO (p : Program) (s : State) (m : MethodId) (args : Array Value) (c : Code) (cc : ByteArray) (nL : Nat) (own : String) (Ts : List Cond) (E : gE) (S0 : St) : Prop :=
  p.tables.exec = Jvm.exec ∧ c.code = cc ∧ c.maxLocals = nL ∧ s.vm.findClass own = some m.cls ∧ (∀ w ∈ Ts, w.before args s = true) ∧ va_K E.D vwCl (gtys E) s ∧ gZ E (gA E S0 s) s s.heap
abbrev gQ (below : List Frame) (E : gE) (S0 : St) (s : State) (post : Option Value → St → Prop) (args : Array Value) (mc ms : Nat) : State → Prop := MQ below (gQc E S0 s.heap.size post) args s mc ms (gA E S0 s)
theorem Ct.of {y : MethodName} {ws ws' : List Cond} {rm : Room} {av : List Value} {post : Option Value → St → Prop} {mc ms : Nat} {ret : Option FieldType} (hy : plainName y.cls = true) (hw : ws = Cond.code y cc nL ret :: ws') (hlen : (lg_sl av).length ≤ nL)
    (body : ∀ (p : Program) (e : Env) (s : State) (m : MethodId) (args : Array Value) (below : List Frame) (meth : Method) (c : Code), gO p s m args c cc nL y.cls ws E x → meth.sig.returnType = ret → meth.locks = false → meth.name = y.name → G p l e rm s m args below meth c (gQ below E x s post args mc ms) E x nL 0 0 x 0 (lv_args 0 av) []) : Ct l y ws rm E av x post mc ms := by
  intro sz
  refine Met.ofW hy hw ?_
  intro p e s m args below meth c s₁ B hml hv
  obtain ⟨rfl, hsz, hP, hK, hD, hZ⟩ := hv
  subst hsz
  have hown : s.vm.findClass y.cls = some m.cls := findClass_of_methodNamed B.named
  rw [lg_entry_eq]
  exact body p e s m _ below meth c ⟨B.exec, B.bytes, hml, hown, atoms_spec B.pre, hK, hZ⟩ B.returns B.notSynchronized (name_of_methodNamed B.named B.method).1 s.heap [] _ hP hD.self va_S.rf (lv_entry av hlen)
abbrev gG (p : Program) (l : Launch) (e : Env) (R : Room) (s : State) (m : MethodId) (args : Array Value) (below : List Frame) (meth : Method) (c : Code) (Q : State → Prop) (E : gE) (S0 : St) (nL cs sl : Nat) (x : St) (pc : Nat) (lv : List (Nat × Value)) (st : List Value) : Prop := G p l e R s m args below meth c Q E S0 nL cs sl x pc lv st
theorem gA_in (hD : va_D (gA E S0 s) (wd E x)) {H : Heap} {locs : List Loc} (hS : va_S (gA E S0 s) s.heap H locs) : ∀ q, va_A (wd E x) H.size q → gA E S0 s q := by
  intro q h
  rcases h with ⟨k, e, h⟩ | h
  · exact hD.2 k (q, e) h
  · exact Or.inr (Nat.le_trans hS.1 h)
/-- behind a run of a callee's contract -/
theorem g_run {mc ms : Nat} {rest : List Value} {post : Option Value → St → Prop} {a : Array Value} {H : Heap} {locs : List Loc} {ls : Array Slot} (hr : va_Run p l e R s m args below meth c H locs cs sl mc ms (F0 m pc ls st) rest (gQc E x H.size post a) (va_A (wd E x) H.size))
    (hD : va_D (gA E S0 s) (wd E x)) (hS : va_S (gA E S0 s) s.heap H locs) (hl : lv_has ls nL lv)
    (kk : ∀ (v : Option Value) (y : St), post v y → G p l e R s m args below meth c Q E S0 nL (cs + mc) (sl + ms) y (pc + 3) lv (v.toList ++ rest)) : W p l e R s m args below meth c H locs cs sl Q (F0 m pc ls st) := by
  intro T hT X
  obtain ⟨v, st₀, t, T', L, h0, X', hL, e1, e2, ⟨⟨v', y, hv, hp, hP1, hD1⟩, hz, hk⟩, stp⟩ := hr T hT X
  cases hv
  have hA := gA_in hD hS
  rw [h0] at hz hk
  obtain ⟨t2, a1, b1⟩ := kk v y hp T'.heap (locs ++ L) ls (by rw [e1]; exact hP1) (hD1.weaken (fun _ q _ h => hA q.1 h))
    ⟨Nat.le_trans hS.1 (by rw [e1]; exact hz), fun q h1 h2 => by rw [e1, hk q (Nat.lt_of_lt_of_le h1 hS.1) (fun z => h2 (hA q z))]; exact hS.2.1 q h1 h2, fun q hq => by
      rcases List.mem_append.mp hq with h | h
      · exact hS.2.2 q h
      · exact hA _ (hL q h)⟩ hl T' rfl X'
  exact ⟨t2, stp t2 a1, b1⟩
theorem gPre (h : gO p s m args c cc nL own Ts E S0) {H : Heap} {locs : List Loc} {av : List Value} (hP : va_P E.D vwCl (wd E x) H) (hD : va_D (gA E S0 s) (wd E x)) (hS : va_S (gA E S0 s) s.heap H locs) (U : State) (hU : U.heap = H) (hW : s.WarmedH U.vm) : gPc E av x H.size av.toArray U := by
  refine ⟨rfl, by rw [hU], by rw [hU]; exact hP, va_K.moved hW.alike h.2.2.2.2.2.1, hD.weaken (fun _ _ _ _ => trivial), ?_⟩
  rw [hU]
  exact gZ.warm hW ((h.2.2.2.2.2.2.kept hS.2.1).narrow (gA_in hD hS))
theorem g_wide {k n : Nat} (h1 : cs ≤ k) (h2 : sl ≤ n) (kk : G p l e R s m args below meth c Q E S0 nL k n x pc lv st) : G p l e R s m args below meth c Q E S0 nL cs sl x pc lv st := fun H locs ls hP hD hS hl => W.widen h1 h2 (kk H locs ls hP hD hS hl)
theorem g_lv (ks : List Nat) (hks : lv_pick lv ks = lv') (kk : G p l e R s m args below meth c Q E S0 nL cs sl x pc lv' st) : G p l e R s m args below meth c Q E S0 nL cs sl x pc lv st := fun H locs ls hP hD hS hl => kk H locs ls hP hD hS (lv_sub hl ks hks)
theorem g_x {y : St} (h : x = y) (kk : G p l e R s m args below meth c Q E S0 nL cs sl y pc lv st) : G p l e R s m args below meth c Q E S0 nL cs sl x pc lv st := h ▸ kk
theorem g_st {st' : List Value} (h : st = st') (kk : G p l e R s m args below meth c Q E S0 nL cs sl x pc lv st') : G p l e R s m args below meth c Q E S0 nL cs sl x pc lv st := h ▸ kk
theorem g_lvs (h : lv = lv') (kk : G p l e R s m args below meth c Q E S0 nL cs sl x pc lv' st) : G p l e R s m args below meth c Q E S0 nL cs sl x pc lv st := h ▸ kk
/-- the world's addresses differ: facts of the place -/
theorem g_fact {F : Prop} (hF : ∀ H : Heap, va_P E.D vwCl (wd E x) H → va_D (gA E S0 s) (wd E x) → F) (kk : F → G p l e R s m args below meth c Q E S0 nL cs sl x pc lv st) : G p l e R s m args below meth c Q E S0 nL cs sl x pc lv st := fun H locs ls hP hD hS hl => kk (hF H hP hD) H locs ls hP hD hS hl

theorem g_iconst (h : gO p s m args c cc nL own Ts E S0) {n : Int} {v : Int32} (hd : decode cc pc = .ok (.iconst n, 1)) (hv : Int32.ofInt n = v) (kk : G p l e R s m args below meth c Q E S0 nL cs sl x (pc + 1) lv (.int v :: st)) : G p l e R s m args below meth c Q E S0 nL cs sl x pc lv st := fun H locs ls hP hD hS hl => lv_iconst h.1 h.2.1 hd hv (kk H locs ls hP hD hS hl)
theorem g_bipush (h : gO p s m args c cc nL own Ts E S0) {n : Int} {v : Int32} (hd : decode cc pc = .ok (.bipush n, 2)) (hv : (Int8.ofInt n).toInt32 = v) (kk : G p l e R s m args below meth c Q E S0 nL cs sl x (pc + 2) lv (.int v :: st)) : G p l e R s m args below meth c Q E S0 nL cs sl x pc lv st := fun H locs ls hP hD hS hl => lv_bipush h.1 h.2.1 hd hv (kk H locs ls hP hD hS hl)
theorem g_sipush (h : gO p s m args c cc nL own Ts E S0) {n : Int} {v : Int32} (hd : decode cc pc = .ok (.sipush n, 3)) (hv : (Int16.ofInt n).toInt32 = v) (kk : G p l e R s m args below meth c Q E S0 nL cs sl x (pc + 3) lv (.int v :: st)) : G p l e R s m args below meth c Q E S0 nL cs sl x pc lv st := fun H locs ls hP hD hS hl => lv_sipush h.1 h.2.1 hd hv (kk H locs ls hP hD hS hl)
theorem g_lconst (h : gO p s m args c cc nL own Ts E S0) {n : Fin 2} {v : Int64} (hd : decode cc pc = .ok (.lconst n, 1)) (hv : Int64.ofNat (n : Nat) = v) (kk : G p l e R s m args below meth c Q E S0 nL cs sl x (pc + 1) lv (.long v :: st)) : G p l e R s m args below meth c Q E S0 nL cs sl x pc lv st := fun H locs ls hP hD hS hl => lv_lconst h.1 h.2.1 hd hv (kk H locs ls hP hD hS hl)
theorem g_aconst_null (h : gO p s m args c cc nL own Ts E S0)  (hd : decode cc pc = .ok (.aconst_null, 1))  (kk : G p l e R s m args below meth c Q E S0 nL cs sl x (pc + 1) lv (.null :: st)) : G p l e R s m args below meth c Q E S0 nL cs sl x pc lv st := fun H locs ls hP hD hS hl => lv_null h.1 h.2.1 hd (kk H locs ls hP hD hS hl)
theorem g_ldc (h : gO p s m args c cc nL own Ts E S0) {index : Nat} {v : Int32} (hd : decode cc pc = .ok (.ldc index, 2)) (hw : Jvm.Cond.constant own index v ∈ Ts) (kk : G p l e R s m args below meth c Q E S0 nL cs sl x (pc + 2) lv (.int v :: st)) : G p l e R s m args below meth c Q E S0 nL cs sl x pc lv st := fun H locs ls hP hD hS hl => lv_ldc h.1 h.2.1 h.2.2.2.1 (h.2.2.2.2.1 _ hw) hd (kk H locs ls hP hD hS hl)
theorem g_ldc_w (h : gO p s m args c cc nL own Ts E S0) {index : Nat} {v : Int32} (hd : decode cc pc = .ok (.ldc_w index, 3)) (hw : Jvm.Cond.constant own index v ∈ Ts) (kk : G p l e R s m args below meth c Q E S0 nL cs sl x (pc + 3) lv (.int v :: st)) : G p l e R s m args below meth c Q E S0 nL cs sl x pc lv st := fun H locs ls hP hD hS hl => lv_ldcw h.1 h.2.1 h.2.2.2.1 (h.2.2.2.2.1 _ hw) hd (kk H locs ls hP hD hS hl)
theorem g_ldc2_w (h : gO p s m args c cc nL own Ts E S0) {index : Nat} {v : Int64} (hd : decode cc pc = .ok (.ldc2_w index, 3)) (hw : Jvm.Cond.constantLong own index v ∈ Ts) (kk : G p l e R s m args below meth c Q E S0 nL cs sl x (pc + 3) lv (.long v :: st)) : G p l e R s m args below meth c Q E S0 nL cs sl x pc lv st := fun H locs ls hP hD hS hl => lv_ldc2 h.1 h.2.1 h.2.2.2.1 (h.2.2.2.2.1 _ hw) hd (kk H locs ls hP hD hS hl)
theorem g_iload_n (h : gO p s m args c cc nL own Ts E S0) (j : Nat) {k : Fin 4} {i : Nat} {v : Int32} (hd : decode cc pc = .ok (.iload_n k, 1)) (hi : (k : Nat) = i) (hj : lv[j]? = some (i, .int v)) (kk : G p l e R s m args below meth c Q E S0 nL cs sl x (pc + 1) lv (.int v :: st)) : G p l e R s m args below meth c Q E S0 nL cs sl x pc lv st := fun H locs ls hP hD hS hl => lv_iload_n h.1 h.2.1 hd hi (lv_at hl j hj) (kk H locs ls hP hD hS hl)
theorem g_iload (h : gO p s m args c cc nL own Ts E S0) (j : Nat) {i : Nat} {v : Int32} (hd : decode cc pc = .ok (.iload i, 2)) (hj : lv[j]? = some (i, .int v)) (kk : G p l e R s m args below meth c Q E S0 nL cs sl x (pc + 2) lv (.int v :: st)) : G p l e R s m args below meth c Q E S0 nL cs sl x pc lv st := fun H locs ls hP hD hS hl => lv_iload h.1 h.2.1 hd (lv_at hl j hj) (kk H locs ls hP hD hS hl)
theorem g_lload_n (h : gO p s m args c cc nL own Ts E S0) (j : Nat) {k : Fin 4} {i : Nat} {v : Int64} (hd : decode cc pc = .ok (.lload_n k, 1)) (hi : (k : Nat) = i) (hj : lv[j]? = some (i, .long v)) (kk : G p l e R s m args below meth c Q E S0 nL cs sl x (pc + 1) lv (.long v :: st)) : G p l e R s m args below meth c Q E S0 nL cs sl x pc lv st := fun H locs ls hP hD hS hl => lv_lload_n h.1 h.2.1 hd hi (lv_at hl j hj) (kk H locs ls hP hD hS hl)
theorem g_lload (h : gO p s m args c cc nL own Ts E S0) (j : Nat) {i : Nat} {v : Int64} (hd : decode cc pc = .ok (.lload i, 2)) (hj : lv[j]? = some (i, .long v)) (kk : G p l e R s m args below meth c Q E S0 nL cs sl x (pc + 2) lv (.long v :: st)) : G p l e R s m args below meth c Q E S0 nL cs sl x pc lv st := fun H locs ls hP hD hS hl => lv_lload h.1 h.2.1 hd (lv_at hl j hj) (kk H locs ls hP hD hS hl)
theorem g_aload_n (h : gO p s m args c cc nL own Ts E S0) (j : Nat) {k : Fin 4} {i : Nat} {v : Nat} (hd : decode cc pc = .ok (.aload_n k, 1)) (hi : (k : Nat) = i) (hj : lv[j]? = some (i, .ref v)) (kk : G p l e R s m args below meth c Q E S0 nL cs sl x (pc + 1) lv (.ref v :: st)) : G p l e R s m args below meth c Q E S0 nL cs sl x pc lv st := fun H locs ls hP hD hS hl => lv_aload_n h.1 h.2.1 hd hi (lv_at hl j hj) (kk H locs ls hP hD hS hl)
theorem g_aload (h : gO p s m args c cc nL own Ts E S0) (j : Nat) {i : Nat} {v : Nat} (hd : decode cc pc = .ok (.aload i, 2)) (hj : lv[j]? = some (i, .ref v)) (kk : G p l e R s m args below meth c Q E S0 nL cs sl x (pc + 2) lv (.ref v :: st)) : G p l e R s m args below meth c Q E S0 nL cs sl x pc lv st := fun H locs ls hP hD hS hl => lv_aload h.1 h.2.1 hd (lv_at hl j hj) (kk H locs ls hP hD hS hl)
theorem g_istore_n (h : gO p s m args c cc nL own Ts E S0) (ks : List Nat) {k : Fin 4} {i : Nat} {v : Int32} (hd : decode cc pc = .ok (.istore_n k, 1)) (hi : (k : Nat) = i) (hn : i < nL) (hks : lv_pick ((i, Value.int v) :: lv.filter (fun q => !(q.1 == i) && !(q.1 + 1 == i && q.2.category == 2))) ks = lv') (kk : G p l e R s m args below meth c Q E S0 nL cs sl x (pc + 1) lv' st) : G p l e R s m args below meth c Q E S0 nL cs sl x pc lv (.int v :: st) := fun H locs ls hP hD hS hl => lv_istore_n h.1 h.2.1 hd hi hl hn rfl (fun ls hl1 => kk H locs ls hP hD hS (lv_sub hl1 ks hks))
theorem g_istore (h : gO p s m args c cc nL own Ts E S0) (ks : List Nat) {i : Nat} {v : Int32} (hd : decode cc pc = .ok (.istore i, 2)) (hn : i < nL) (hks : lv_pick ((i, Value.int v) :: lv.filter (fun q => !(q.1 == i) && !(q.1 + 1 == i && q.2.category == 2))) ks = lv') (kk : G p l e R s m args below meth c Q E S0 nL cs sl x (pc + 2) lv' st) : G p l e R s m args below meth c Q E S0 nL cs sl x pc lv (.int v :: st) := fun H locs ls hP hD hS hl => lv_istore h.1 h.2.1 hd hl hn rfl (fun ls hl1 => kk H locs ls hP hD hS (lv_sub hl1 ks hks))
theorem g_lstore_n (h : gO p s m args c cc nL own Ts E S0) (ks : List Nat) {k : Fin 4} {i : Nat} {v : Int64} (hd : decode cc pc = .ok (.lstore_n k, 1)) (hi : (k : Nat) = i) (hn : i + 1 < nL) (hks : lv_pick ((i, Value.long v) :: lv.filter (fun q => !(q.1 == i) && (!(q.1 == i + 1) && !(q.1 + 1 == i && q.2.category == 2)))) ks = lv') (kk : G p l e R s m args below meth c Q E S0 nL cs sl x (pc + 1) lv' st) : G p l e R s m args below meth c Q E S0 nL cs sl x pc lv (.long v :: st) := fun H locs ls hP hD hS hl => lv_lstore_n h.1 h.2.1 hd hi hl hn rfl (fun ls hl1 => kk H locs ls hP hD hS (lv_sub hl1 ks hks))
theorem g_lstore (h : gO p s m args c cc nL own Ts E S0) (ks : List Nat) {i : Nat} {v : Int64} (hd : decode cc pc = .ok (.lstore i, 2)) (hn : i + 1 < nL) (hks : lv_pick ((i, Value.long v) :: lv.filter (fun q => !(q.1 == i) && (!(q.1 == i + 1) && !(q.1 + 1 == i && q.2.category == 2)))) ks = lv') (kk : G p l e R s m args below meth c Q E S0 nL cs sl x (pc + 2) lv' st) : G p l e R s m args below meth c Q E S0 nL cs sl x pc lv (.long v :: st) := fun H locs ls hP hD hS hl => lv_lstore h.1 h.2.1 hd hl hn rfl (fun ls hl1 => kk H locs ls hP hD hS (lv_sub hl1 ks hks))
theorem g_astore_n (h : gO p s m args c cc nL own Ts E S0) (ks : List Nat) {k : Fin 4} {i : Nat} {v : Nat} (hd : decode cc pc = .ok (.astore_n k, 1)) (hi : (k : Nat) = i) (hn : i < nL) (hks : lv_pick ((i, Value.ref v) :: lv.filter (fun q => !(q.1 == i) && !(q.1 + 1 == i && q.2.category == 2))) ks = lv') (kk : G p l e R s m args below meth c Q E S0 nL cs sl x (pc + 1) lv' st) : G p l e R s m args below meth c Q E S0 nL cs sl x pc lv (.ref v :: st) := fun H locs ls hP hD hS hl => lv_astore_n h.1 h.2.1 hd hi hl hn rfl (fun ls hl1 => kk H locs ls hP hD hS (lv_sub hl1 ks hks))
theorem g_astore (h : gO p s m args c cc nL own Ts E S0) (ks : List Nat) {i : Nat} {v : Nat} (hd : decode cc pc = .ok (.astore i, 2)) (hn : i < nL) (hks : lv_pick ((i, Value.ref v) :: lv.filter (fun q => !(q.1 == i) && !(q.1 + 1 == i && q.2.category == 2))) ks = lv') (kk : G p l e R s m args below meth c Q E S0 nL cs sl x (pc + 2) lv' st) : G p l e R s m args below meth c Q E S0 nL cs sl x pc lv (.ref v :: st) := fun H locs ls hP hD hS hl => lv_astore h.1 h.2.1 hd hl hn rfl (fun ls hl1 => kk H locs ls hP hD hS (lv_sub hl1 ks hks))
theorem g_iinc (h : gO p s m args c cc nL own Ts E S0) (j : Nat) (ks : List Nat) {i : Nat} {n : Int} {a v : Int32} (hd : decode cc pc = .ok (.iinc i n, 3)) (hj : lv[j]? = some (i, .int a)) (hv : a + Int32.ofInt n = v) (hn : i < nL) (hks : lv_pick ((i, Value.int v) :: lv.filter (fun q => !(q.1 == i) && !(q.1 + 1 == i && q.2.category == 2))) ks = lv') (kk : G p l e R s m args below meth c Q E S0 nL cs sl x (pc + 3) lv' st) : G p l e R s m args below meth c Q E S0 nL cs sl x pc lv st := fun H locs ls hP hD hS hl => lv_iinc h.1 h.2.1 hd hl hj hv hn rfl (fun ls hl1 => kk H locs ls hP hD hS (lv_sub hl1 ks hks))
theorem g_iadd (h : gO p s m args c cc nL own Ts E S0) {a b : Int32} (hd : decode cc pc = .ok (.iadd, 1))  (kk : G p l e R s m args below meth c Q E S0 nL cs sl x (pc + 1) lv (.int (a + b) :: st)) : G p l e R s m args below meth c Q E S0 nL cs sl x pc lv (.int b :: .int a :: st) := fun H locs ls hP hD hS hl => lv_iadd h.1 h.2.1 hd (kk H locs ls hP hD hS hl)
theorem g_isub (h : gO p s m args c cc nL own Ts E S0) {a b : Int32} (hd : decode cc pc = .ok (.isub, 1))  (kk : G p l e R s m args below meth c Q E S0 nL cs sl x (pc + 1) lv (.int (a - b) :: st)) : G p l e R s m args below meth c Q E S0 nL cs sl x pc lv (.int b :: .int a :: st) := fun H locs ls hP hD hS hl => lv_isub h.1 h.2.1 hd (kk H locs ls hP hD hS hl)
theorem g_imul (h : gO p s m args c cc nL own Ts E S0) {a b : Int32} (hd : decode cc pc = .ok (.imul, 1))  (kk : G p l e R s m args below meth c Q E S0 nL cs sl x (pc + 1) lv (.int (a * b) :: st)) : G p l e R s m args below meth c Q E S0 nL cs sl x pc lv (.int b :: .int a :: st) := fun H locs ls hP hD hS hl => lv_imul h.1 h.2.1 hd (kk H locs ls hP hD hS hl)
theorem g_iand (h : gO p s m args c cc nL own Ts E S0) {a b : Int32} (hd : decode cc pc = .ok (.iand, 1))  (kk : G p l e R s m args below meth c Q E S0 nL cs sl x (pc + 1) lv (.int (a &&& b) :: st)) : G p l e R s m args below meth c Q E S0 nL cs sl x pc lv (.int b :: .int a :: st) := fun H locs ls hP hD hS hl => lv_iand h.1 h.2.1 hd (kk H locs ls hP hD hS hl)
theorem g_ior (h : gO p s m args c cc nL own Ts E S0) {a b : Int32} (hd : decode cc pc = .ok (.ior, 1))  (kk : G p l e R s m args below meth c Q E S0 nL cs sl x (pc + 1) lv (.int (a ||| b) :: st)) : G p l e R s m args below meth c Q E S0 nL cs sl x pc lv (.int b :: .int a :: st) := fun H locs ls hP hD hS hl => lv_ior h.1 h.2.1 hd (kk H locs ls hP hD hS hl)
theorem g_ixor (h : gO p s m args c cc nL own Ts E S0) {a b : Int32} (hd : decode cc pc = .ok (.ixor, 1))  (kk : G p l e R s m args below meth c Q E S0 nL cs sl x (pc + 1) lv (.int (a ^^^ b) :: st)) : G p l e R s m args below meth c Q E S0 nL cs sl x pc lv (.int b :: .int a :: st) := fun H locs ls hP hD hS hl => lv_ixor h.1 h.2.1 hd (kk H locs ls hP hD hS hl)
theorem g_iaddN (h : gO p s m args c cc nL own Ts E S0) {a b : Nat} (hd : decode cc pc = .ok (.iadd, 1))  (kk : G p l e R s m args below meth c Q E S0 nL cs sl x (pc + 1) lv (.int (nI (a + b)) :: st)) : G p l e R s m args below meth c Q E S0 nL cs sl x pc lv (.int (nI b) :: .int (nI a) :: st) := fun H locs ls hP hD hS hl => lv_iadd h.1 h.2.1 hd (by rw [nI_add]; exact (kk H locs ls hP hD hS hl))
theorem g_imulN (h : gO p s m args c cc nL own Ts E S0) {a b : Nat} (hd : decode cc pc = .ok (.imul, 1))  (kk : G p l e R s m args below meth c Q E S0 nL cs sl x (pc + 1) lv (.int (nI (a * b)) :: st)) : G p l e R s m args below meth c Q E S0 nL cs sl x pc lv (.int (nI b) :: .int (nI a) :: st) := fun H locs ls hP hD hS hl => lv_imul h.1 h.2.1 hd (by rw [pk_mul]; exact (kk H locs ls hP hD hS hl))
theorem g_isubN (h : gO p s m args c cc nL own Ts E S0) {a b : Nat} (hd : decode cc pc = .ok (.isub, 1)) (hab : b ≤ a) (kk : G p l e R s m args below meth c Q E S0 nL cs sl x (pc + 1) lv (.int (nI (a - b)) :: st)) : G p l e R s m args below meth c Q E S0 nL cs sl x pc lv (.int (nI b) :: .int (nI a) :: st) := fun H locs ls hP hD hS hl => lv_isub h.1 h.2.1 hd (by rw [pk_sub hab]; exact (kk H locs ls hP hD hS hl))
theorem g_ishl (h : gO p s m args c cc nL own Ts E S0) {a b : Int32} (hd : decode cc pc = .ok (.ishl, 1))  (kk : G p l e R s m args below meth c Q E S0 nL cs sl x (pc + 1) lv (.int (a <<< (b &&& 31)) :: st)) : G p l e R s m args below meth c Q E S0 nL cs sl x pc lv (.int b :: .int a :: st) := fun H locs ls hP hD hS hl => lv_ishl h.1 h.2.1 hd (kk H locs ls hP hD hS hl)
theorem g_ishr (h : gO p s m args c cc nL own Ts E S0) {a b : Int32} (hd : decode cc pc = .ok (.ishr, 1))  (kk : G p l e R s m args below meth c Q E S0 nL cs sl x (pc + 1) lv (.int (a >>> (b &&& 31)) :: st)) : G p l e R s m args below meth c Q E S0 nL cs sl x pc lv (.int b :: .int a :: st) := fun H locs ls hP hD hS hl => lv_ishr h.1 h.2.1 hd (kk H locs ls hP hD hS hl)
theorem g_iushr (h : gO p s m args c cc nL own Ts E S0) {a b v : Int32} (hd : decode cc pc = .ok (.iushr, 1)) (hv : (a.toUInt32 >>> (b.toUInt32 &&& Int32.toUInt32 31)).toInt32 = v) (kk : G p l e R s m args below meth c Q E S0 nL cs sl x (pc + 1) lv (.int v :: st)) : G p l e R s m args below meth c Q E S0 nL cs sl x pc lv (.int b :: .int a :: st) := fun H locs ls hP hD hS hl => lv_iushr h.1 h.2.1 hd hv (kk H locs ls hP hD hS hl)
theorem g_ineg (h : gO p s m args c cc nL own Ts E S0) {a : Int32} (hd : decode cc pc = .ok (.ineg, 1))  (kk : G p l e R s m args below meth c Q E S0 nL cs sl x (pc + 1) lv (.int (-a) :: st)) : G p l e R s m args below meth c Q E S0 nL cs sl x pc lv (.int a :: st) := fun H locs ls hP hD hS hl => lv_ineg h.1 h.2.1 hd (kk H locs ls hP hD hS hl)
theorem g_ladd (h : gO p s m args c cc nL own Ts E S0) {a b : Int64} (hd : decode cc pc = .ok (.ladd, 1))  (kk : G p l e R s m args below meth c Q E S0 nL cs sl x (pc + 1) lv (.long (a + b) :: st)) : G p l e R s m args below meth c Q E S0 nL cs sl x pc lv (.long b :: .long a :: st) := fun H locs ls hP hD hS hl => lv_ladd h.1 h.2.1 hd (kk H locs ls hP hD hS hl)
theorem g_lsub (h : gO p s m args c cc nL own Ts E S0) {a b : Int64} (hd : decode cc pc = .ok (.lsub, 1))  (kk : G p l e R s m args below meth c Q E S0 nL cs sl x (pc + 1) lv (.long (a - b) :: st)) : G p l e R s m args below meth c Q E S0 nL cs sl x pc lv (.long b :: .long a :: st) := fun H locs ls hP hD hS hl => lv_lsub h.1 h.2.1 hd (kk H locs ls hP hD hS hl)
theorem g_lmul (h : gO p s m args c cc nL own Ts E S0) {a b : Int64} (hd : decode cc pc = .ok (.lmul, 1))  (kk : G p l e R s m args below meth c Q E S0 nL cs sl x (pc + 1) lv (.long (a * b) :: st)) : G p l e R s m args below meth c Q E S0 nL cs sl x pc lv (.long b :: .long a :: st) := fun H locs ls hP hD hS hl => lv_lmul h.1 h.2.1 hd (kk H locs ls hP hD hS hl)
theorem g_i2l (h : gO p s m args c cc nL own Ts E S0) {a : Int32} (hd : decode cc pc = .ok (.i2l, 1))  (kk : G p l e R s m args below meth c Q E S0 nL cs sl x (pc + 1) lv (.long a.toInt64 :: st)) : G p l e R s m args below meth c Q E S0 nL cs sl x pc lv (.int a :: st) := fun H locs ls hP hD hS hl => lv_i2l h.1 h.2.1 hd rfl (kk H locs ls hP hD hS hl)
theorem g_lcmp (h : gO p s m args c cc nL own Ts E S0) {a b : Int64} (hd : decode cc pc = .ok (.lcmp, 1))  (kk : G p l e R s m args below meth c Q E S0 nL cs sl x (pc + 1) lv (.int (lg_cmp a b) :: st)) : G p l e R s m args below meth c Q E S0 nL cs sl x pc lv (.long b :: .long a :: st) := fun H locs ls hP hD hS hl => W.lcmp h.1 h.2.1 hd (kk H locs ls hP hD hS hl)
theorem g_dup (h : gO p s m args c cc nL own Ts E S0) {va : Value} (hd : decode cc pc = .ok (.dup, 1)) (hc : va.category = 1) (kk : G p l e R s m args below meth c Q E S0 nL cs sl x (pc + 1) lv (va :: va :: st)) : G p l e R s m args below meth c Q E S0 nL cs sl x pc lv (va :: st) := fun H locs ls hP hD hS hl => lv_dup h.1 h.2.1 hd hc (kk H locs ls hP hD hS hl)
theorem g_dup2 (h : gO p s m args c cc nL own Ts E S0) {va vb : Value} (hd : decode cc pc = .ok (.dup2, 1)) (hc : va.category = 1) (hc2 : vb.category = 1) (kk : G p l e R s m args below meth c Q E S0 nL cs sl x (pc + 1) lv (va :: vb :: va :: vb :: st)) : G p l e R s m args below meth c Q E S0 nL cs sl x pc lv (va :: vb :: st) := fun H locs ls hP hD hS hl => lv_dup2_11 h.1 h.2.1 hd hc hc2 (kk H locs ls hP hD hS hl)
theorem g_pop (h : gO p s m args c cc nL own Ts E S0) {va : Value} (hd : decode cc pc = .ok (.pop, 1)) (hc : va.category = 1) (kk : G p l e R s m args below meth c Q E S0 nL cs sl x (pc + 1) lv st) : G p l e R s m args below meth c Q E S0 nL cs sl x pc lv (va :: st) := fun H locs ls hP hD hS hl => lv_pop h.1 h.2.1 hd hc (kk H locs ls hP hD hS hl)
theorem g_dup_x1 (h : gO p s m args c cc nL own Ts E S0) {va vb : Value} (hd : decode cc pc = .ok (.dup_x1, 1)) (hc : va.category = 1) (hc2 : vb.category = 1) (kk : G p l e R s m args below meth c Q E S0 nL cs sl x (pc + 1) lv (va :: vb :: va :: st)) : G p l e R s m args below meth c Q E S0 nL cs sl x pc lv (va :: vb :: st) := fun H locs ls hP hD hS hl => lv_dup_x1 h.1 h.2.1 hd hc hc2 (kk H locs ls hP hD hS hl)
theorem g_nmi {a : Int32} (kk : ∀ b : Int32, b = a → G p l e R s m args below meth c Q E S0 nL cs sl x pc lv (.int b :: st)) : G p l e R s m args below meth c Q E S0 nL cs sl x pc lv (.int a :: st) := kk a rfl
theorem g_eqi {a b : Int32} (hab : a = b) (kk : G p l e R s m args below meth c Q E S0 nL cs sl x pc lv (.int b :: st)) : G p l e R s m args below meth c Q E S0 nL cs sl x pc lv (.int a :: st) := hab ▸ kk
theorem g_nml {a : Int64} (kk : ∀ b : Int64, b = a → G p l e R s m args below meth c Q E S0 nL cs sl x pc lv (.long b :: st)) : G p l e R s m args below meth c Q E S0 nL cs sl x pc lv (.long a :: st) := kk a rfl
theorem g_eql {a b : Int64} (hab : a = b) (kk : G p l e R s m args below meth c Q E S0 nL cs sl x pc lv (.long b :: st)) : G p l e R s m args below meth c Q E S0 nL cs sl x pc lv (.long a :: st) := hab ▸ kk
theorem g_icmp_eq (h : gO p s m args c cc nL own Ts E S0) {a b : Int32} {off : Int} (tgt : Nat) (hd : decode cc pc = .ok (.if_icmp .eq off, 3)) (ht : (pc : Int) + off = (tgt : Int)) (kt : a = b → G p l e R s m args below meth c Q E S0 nL cs sl x tgt lv st) (kf : ¬ a = b → G p l e R s m args below meth c Q E S0 nL cs sl x (pc + 3) lv st) : G p l e R s m args below meth c Q E S0 nL cs sl x pc lv (.int b :: .int a :: st) := fun H locs ls hP hD hS hl => lv_icmp_eq h.1 h.2.1 hd ht (fun z => kt z H locs ls hP hD hS hl) (fun z => kf z H locs ls hP hD hS hl)
theorem g_if_eq (h : gO p s m args c cc nL own Ts E S0) {a : Int32} {off : Int} (tgt : Nat) (hd : decode cc pc = .ok (.ifCond .eq off, 3)) (ht : (pc : Int) + off = (tgt : Int)) (kt : a = 0 → G p l e R s m args below meth c Q E S0 nL cs sl x tgt lv st) (kf : ¬ a = 0 → G p l e R s m args below meth c Q E S0 nL cs sl x (pc + 3) lv st) : G p l e R s m args below meth c Q E S0 nL cs sl x pc lv (.int a :: st) := fun H locs ls hP hD hS hl => lv_if_eq h.1 h.2.1 hd ht (fun z => kt z H locs ls hP hD hS hl) (fun z => kf z H locs ls hP hD hS hl)
theorem g_icmp_eqN (h : gO p s m args c cc nL own Ts E S0) {a b : Nat} {off : Int} (tgt : Nat) (hd : decode cc pc = .ok (.if_icmp .eq off, 3)) (ht : (pc : Int) + off = (tgt : Int)) (ha : a < 2 ^ 31) (hb : b < 2 ^ 31) (kt : a = b → G p l e R s m args below meth c Q E S0 nL cs sl x tgt lv st) (kf : ¬ (a = b) → G p l e R s m args below meth c Q E S0 nL cs sl x (pc + 3) lv st) : G p l e R s m args below meth c Q E S0 nL cs sl x pc lv (.int (nI b) :: .int (nI a) :: st) := g_icmp_eq h tgt hd ht (fun z => kt (by first | exact (nI_eq ha hb).mp z | exact fun q => z ((nI_eq ha hb).mpr q))) (fun z => kf (by first | exact fun q => z ((nI_eq ha hb).mpr q) | exact fun q => q ((nI_eq ha hb).mp z) | exact fun q => q ((nI_eq ha hb).mp (Classical.not_not.mp z))))
theorem g_icmp_ne (h : gO p s m args c cc nL own Ts E S0) {a b : Int32} {off : Int} (tgt : Nat) (hd : decode cc pc = .ok (.if_icmp .ne off, 3)) (ht : (pc : Int) + off = (tgt : Int)) (kt : ¬ a = b → G p l e R s m args below meth c Q E S0 nL cs sl x tgt lv st) (kf : a = b → G p l e R s m args below meth c Q E S0 nL cs sl x (pc + 3) lv st) : G p l e R s m args below meth c Q E S0 nL cs sl x pc lv (.int b :: .int a :: st) := fun H locs ls hP hD hS hl => lv_icmp_ne h.1 h.2.1 hd ht (fun z => kt z H locs ls hP hD hS hl) (fun z => kf z H locs ls hP hD hS hl)
theorem g_if_ne (h : gO p s m args c cc nL own Ts E S0) {a : Int32} {off : Int} (tgt : Nat) (hd : decode cc pc = .ok (.ifCond .ne off, 3)) (ht : (pc : Int) + off = (tgt : Int)) (kt : ¬ a = 0 → G p l e R s m args below meth c Q E S0 nL cs sl x tgt lv st) (kf : a = 0 → G p l e R s m args below meth c Q E S0 nL cs sl x (pc + 3) lv st) : G p l e R s m args below meth c Q E S0 nL cs sl x pc lv (.int a :: st) := fun H locs ls hP hD hS hl => lv_if_ne h.1 h.2.1 hd ht (fun z => kt z H locs ls hP hD hS hl) (fun z => kf z H locs ls hP hD hS hl)
theorem g_icmp_neN (h : gO p s m args c cc nL own Ts E S0) {a b : Nat} {off : Int} (tgt : Nat) (hd : decode cc pc = .ok (.if_icmp .ne off, 3)) (ht : (pc : Int) + off = (tgt : Int)) (ha : a < 2 ^ 31) (hb : b < 2 ^ 31) (kt : ¬ a = b → G p l e R s m args below meth c Q E S0 nL cs sl x tgt lv st) (kf : ¬ (¬ a = b) → G p l e R s m args below meth c Q E S0 nL cs sl x (pc + 3) lv st) : G p l e R s m args below meth c Q E S0 nL cs sl x pc lv (.int (nI b) :: .int (nI a) :: st) := g_icmp_ne h tgt hd ht (fun z => kt (by first | exact (not_congr (nI_eq ha hb)).mp z | exact fun q => z ((nI_eq ha hb).mpr q))) (fun z => kf (by first | exact fun q => z ((not_congr (nI_eq ha hb)).mpr q) | exact fun q => q ((nI_eq ha hb).mp z) | exact fun q => q ((nI_eq ha hb).mp (Classical.not_not.mp z))))
theorem g_icmp_lt (h : gO p s m args c cc nL own Ts E S0) {a b : Int32} {off : Int} (tgt : Nat) (hd : decode cc pc = .ok (.if_icmp .lt off, 3)) (ht : (pc : Int) + off = (tgt : Int)) (kt : a < b → G p l e R s m args below meth c Q E S0 nL cs sl x tgt lv st) (kf : ¬ a < b → G p l e R s m args below meth c Q E S0 nL cs sl x (pc + 3) lv st) : G p l e R s m args below meth c Q E S0 nL cs sl x pc lv (.int b :: .int a :: st) := fun H locs ls hP hD hS hl => lv_icmp_lt h.1 h.2.1 hd ht (fun z => kt z H locs ls hP hD hS hl) (fun z => kf z H locs ls hP hD hS hl)
theorem g_if_lt (h : gO p s m args c cc nL own Ts E S0) {a : Int32} {off : Int} (tgt : Nat) (hd : decode cc pc = .ok (.ifCond .lt off, 3)) (ht : (pc : Int) + off = (tgt : Int)) (kt : a < 0 → G p l e R s m args below meth c Q E S0 nL cs sl x tgt lv st) (kf : ¬ a < 0 → G p l e R s m args below meth c Q E S0 nL cs sl x (pc + 3) lv st) : G p l e R s m args below meth c Q E S0 nL cs sl x pc lv (.int a :: st) := fun H locs ls hP hD hS hl => lv_if_lt h.1 h.2.1 hd ht (fun z => kt z H locs ls hP hD hS hl) (fun z => kf z H locs ls hP hD hS hl)
theorem g_icmp_ltN (h : gO p s m args c cc nL own Ts E S0) {a b : Nat} {off : Int} (tgt : Nat) (hd : decode cc pc = .ok (.if_icmp .lt off, 3)) (ht : (pc : Int) + off = (tgt : Int)) (ha : a < 2 ^ 31) (hb : b < 2 ^ 31) (kt : a < b → G p l e R s m args below meth c Q E S0 nL cs sl x tgt lv st) (kf : ¬ (a < b) → G p l e R s m args below meth c Q E S0 nL cs sl x (pc + 3) lv st) : G p l e R s m args below meth c Q E S0 nL cs sl x pc lv (.int (nI b) :: .int (nI a) :: st) := g_icmp_lt h tgt hd ht (fun z => kt (by first | exact (nI_ltI ha hb).mp z | exact fun q => z ((nI_eq ha hb).mpr q))) (fun z => kf (by first | exact fun q => z ((nI_ltI ha hb).mpr q) | exact fun q => q ((nI_eq ha hb).mp z) | exact fun q => q ((nI_eq ha hb).mp (Classical.not_not.mp z))))
theorem g_icmp_ge (h : gO p s m args c cc nL own Ts E S0) {a b : Int32} {off : Int} (tgt : Nat) (hd : decode cc pc = .ok (.if_icmp .ge off, 3)) (ht : (pc : Int) + off = (tgt : Int)) (kt : b ≤ a → G p l e R s m args below meth c Q E S0 nL cs sl x tgt lv st) (kf : ¬ b ≤ a → G p l e R s m args below meth c Q E S0 nL cs sl x (pc + 3) lv st) : G p l e R s m args below meth c Q E S0 nL cs sl x pc lv (.int b :: .int a :: st) := fun H locs ls hP hD hS hl => lv_icmp_ge h.1 h.2.1 hd ht (fun z => kt z H locs ls hP hD hS hl) (fun z => kf z H locs ls hP hD hS hl)
theorem g_if_ge (h : gO p s m args c cc nL own Ts E S0) {a : Int32} {off : Int} (tgt : Nat) (hd : decode cc pc = .ok (.ifCond .ge off, 3)) (ht : (pc : Int) + off = (tgt : Int)) (kt : 0 ≤ a → G p l e R s m args below meth c Q E S0 nL cs sl x tgt lv st) (kf : ¬ 0 ≤ a → G p l e R s m args below meth c Q E S0 nL cs sl x (pc + 3) lv st) : G p l e R s m args below meth c Q E S0 nL cs sl x pc lv (.int a :: st) := fun H locs ls hP hD hS hl => lv_if_ge h.1 h.2.1 hd ht (fun z => kt z H locs ls hP hD hS hl) (fun z => kf z H locs ls hP hD hS hl)
theorem g_icmp_geN (h : gO p s m args c cc nL own Ts E S0) {a b : Nat} {off : Int} (tgt : Nat) (hd : decode cc pc = .ok (.if_icmp .ge off, 3)) (ht : (pc : Int) + off = (tgt : Int)) (ha : a < 2 ^ 31) (hb : b < 2 ^ 31) (kt : b ≤ a → G p l e R s m args below meth c Q E S0 nL cs sl x tgt lv st) (kf : ¬ (b ≤ a) → G p l e R s m args below meth c Q E S0 nL cs sl x (pc + 3) lv st) : G p l e R s m args below meth c Q E S0 nL cs sl x pc lv (.int (nI b) :: .int (nI a) :: st) := g_icmp_ge h tgt hd ht (fun z => kt (by first | exact (nI_leI hb ha).mp z | exact fun q => z ((nI_eq ha hb).mpr q))) (fun z => kf (by first | exact fun q => z ((nI_leI hb ha).mpr q) | exact fun q => q ((nI_eq ha hb).mp z) | exact fun q => q ((nI_eq ha hb).mp (Classical.not_not.mp z))))
theorem g_icmp_gt (h : gO p s m args c cc nL own Ts E S0) {a b : Int32} {off : Int} (tgt : Nat) (hd : decode cc pc = .ok (.if_icmp .gt off, 3)) (ht : (pc : Int) + off = (tgt : Int)) (kt : b < a → G p l e R s m args below meth c Q E S0 nL cs sl x tgt lv st) (kf : ¬ b < a → G p l e R s m args below meth c Q E S0 nL cs sl x (pc + 3) lv st) : G p l e R s m args below meth c Q E S0 nL cs sl x pc lv (.int b :: .int a :: st) := fun H locs ls hP hD hS hl => lv_icmp_gt h.1 h.2.1 hd ht (fun z => kt z H locs ls hP hD hS hl) (fun z => kf z H locs ls hP hD hS hl)
theorem g_if_gt (h : gO p s m args c cc nL own Ts E S0) {a : Int32} {off : Int} (tgt : Nat) (hd : decode cc pc = .ok (.ifCond .gt off, 3)) (ht : (pc : Int) + off = (tgt : Int)) (kt : 0 < a → G p l e R s m args below meth c Q E S0 nL cs sl x tgt lv st) (kf : ¬ 0 < a → G p l e R s m args below meth c Q E S0 nL cs sl x (pc + 3) lv st) : G p l e R s m args below meth c Q E S0 nL cs sl x pc lv (.int a :: st) := fun H locs ls hP hD hS hl => lv_if_gt h.1 h.2.1 hd ht (fun z => kt z H locs ls hP hD hS hl) (fun z => kf z H locs ls hP hD hS hl)
theorem g_icmp_gtN (h : gO p s m args c cc nL own Ts E S0) {a b : Nat} {off : Int} (tgt : Nat) (hd : decode cc pc = .ok (.if_icmp .gt off, 3)) (ht : (pc : Int) + off = (tgt : Int)) (ha : a < 2 ^ 31) (hb : b < 2 ^ 31) (kt : b < a → G p l e R s m args below meth c Q E S0 nL cs sl x tgt lv st) (kf : ¬ (b < a) → G p l e R s m args below meth c Q E S0 nL cs sl x (pc + 3) lv st) : G p l e R s m args below meth c Q E S0 nL cs sl x pc lv (.int (nI b) :: .int (nI a) :: st) := g_icmp_gt h tgt hd ht (fun z => kt (by first | exact (nI_ltI hb ha).mp z | exact fun q => z ((nI_eq ha hb).mpr q))) (fun z => kf (by first | exact fun q => z ((nI_ltI hb ha).mpr q) | exact fun q => q ((nI_eq ha hb).mp z) | exact fun q => q ((nI_eq ha hb).mp (Classical.not_not.mp z))))
theorem g_icmp_le (h : gO p s m args c cc nL own Ts E S0) {a b : Int32} {off : Int} (tgt : Nat) (hd : decode cc pc = .ok (.if_icmp .le off, 3)) (ht : (pc : Int) + off = (tgt : Int)) (kt : a ≤ b → G p l e R s m args below meth c Q E S0 nL cs sl x tgt lv st) (kf : ¬ a ≤ b → G p l e R s m args below meth c Q E S0 nL cs sl x (pc + 3) lv st) : G p l e R s m args below meth c Q E S0 nL cs sl x pc lv (.int b :: .int a :: st) := fun H locs ls hP hD hS hl => lv_icmp_le h.1 h.2.1 hd ht (fun z => kt z H locs ls hP hD hS hl) (fun z => kf z H locs ls hP hD hS hl)
theorem g_if_le (h : gO p s m args c cc nL own Ts E S0) {a : Int32} {off : Int} (tgt : Nat) (hd : decode cc pc = .ok (.ifCond .le off, 3)) (ht : (pc : Int) + off = (tgt : Int)) (kt : a ≤ 0 → G p l e R s m args below meth c Q E S0 nL cs sl x tgt lv st) (kf : ¬ a ≤ 0 → G p l e R s m args below meth c Q E S0 nL cs sl x (pc + 3) lv st) : G p l e R s m args below meth c Q E S0 nL cs sl x pc lv (.int a :: st) := fun H locs ls hP hD hS hl => lv_if_le h.1 h.2.1 hd ht (fun z => kt z H locs ls hP hD hS hl) (fun z => kf z H locs ls hP hD hS hl)
theorem g_icmp_leN (h : gO p s m args c cc nL own Ts E S0) {a b : Nat} {off : Int} (tgt : Nat) (hd : decode cc pc = .ok (.if_icmp .le off, 3)) (ht : (pc : Int) + off = (tgt : Int)) (ha : a < 2 ^ 31) (hb : b < 2 ^ 31) (kt : a ≤ b → G p l e R s m args below meth c Q E S0 nL cs sl x tgt lv st) (kf : ¬ (a ≤ b) → G p l e R s m args below meth c Q E S0 nL cs sl x (pc + 3) lv st) : G p l e R s m args below meth c Q E S0 nL cs sl x pc lv (.int (nI b) :: .int (nI a) :: st) := g_icmp_le h tgt hd ht (fun z => kt (by first | exact (nI_leI ha hb).mp z | exact fun q => z ((nI_eq ha hb).mpr q))) (fun z => kf (by first | exact fun q => z ((nI_leI ha hb).mpr q) | exact fun q => q ((nI_eq ha hb).mp z) | exact fun q => q ((nI_eq ha hb).mp (Classical.not_not.mp z))))
theorem g_goto (h : gO p s m args c cc nL own Ts E S0) {off : Int} (tgt : Nat) (hd : decode cc pc = .ok (.goto off, 3)) (ht : (pc : Int) + off = (tgt : Int)) (kk : G p l e R s m args below meth c Q E S0 nL cs sl x tgt lv st) : G p l e R s m args below meth c Q E S0 nL cs sl x pc lv st := fun H locs ls hP hD hS hl => lv_goto h.1 h.2.1 hd ht (kk H locs ls hP hD hS hl)
theorem g_tableIn (h : gO p s m args c cc nL own Ts E S0) {dflt lo hi : Int} {offs : Array Int} {len : Nat} {a : Int32} {off : Int} (tgt : Nat) (hd : decode cc pc = .ok (.tableswitch dflt lo hi offs, len)) (h1 : ¬ a.toInt < lo) (h2 : ¬ hi < a.toInt) (ho : offs[(a.toInt - lo).toNat]? = some off) (ht : (pc : Int) + off = (tgt : Int)) (kk : G p l e R s m args below meth c Q E S0 nL cs sl x tgt lv st) : G p l e R s m args below meth c Q E S0 nL cs sl x pc lv (.int a :: st) := fun H locs ls hP hD hS hl => lv_tableIn h.1 h.2.1 hd h1 h2 ho ht (kk H locs ls hP hD hS hl)
theorem g_tableOut (h : gO p s m args c cc nL own Ts E S0) {dflt lo hi : Int} {offs : Array Int} {len : Nat} {a : Int32} (tgt : Nat) (hd : decode cc pc = .ok (.tableswitch dflt lo hi offs, len)) (h1 : a.toInt < lo ∨ hi < a.toInt) (ht : (pc : Int) + dflt = (tgt : Int)) (kk : G p l e R s m args below meth c Q E S0 nL cs sl x tgt lv st) : G p l e R s m args below meth c Q E S0 nL cs sl x pc lv (.int a :: st) := fun H locs ls hP hD hS hl => lv_tableOut h.1 h.2.1 hd h1 ht (kk H locs ls hP hD hS hl)
theorem g_get (h : gO p s m args c cc nL own Ts E S0) {ref C : String} {T : u_T} {N ci index a : Nat} {fs : List Value} {v : Value} (k : Nat) (hw : wat E x a (.inr (ci, fs))) (hc : vwCl[ci]? = some (C, T, N)) (hin : ∀ w ∈ u_ws C T N, w ∈ Ts) (hk : k < N) (hlink : Cond.fieldLink own index ref (T k).2.1 (T k).2.2.1 ∈ Ts) (hsame : ref = (T k).1) (hv : fs[k]? = some v) (hd : decode cc pc = .ok (.getfield index, 3))
    (kk : G p l e R s m args below meth c Q E S0 nL cs sl x (pc + 3) lv (v :: st)) : G p l e R s m args below meth c Q E S0 nL cs sl x pc lv (.ref a :: st) := fun H locs ls hP hD hS hl => by
  obtain ⟨q0, he⟩ := hw
  exact va_get h.1 h.2.1 h.2.2.2.2.1 hin h.2.2.2.1 h.2.2.2.2.2.1 hP q0 he hc k hk (h.2.2.2.2.1 _ hlink) (fun _ h9 => by rw [hsame]; exact h9) hv hd (kk H locs ls hP hD hS hl)
theorem g_put (h : gO p s m args c cc nL own Ts E S0) {ref C : String} {T : u_T} {N ci index a : Nat} {fs : List Value} {v : Value} {ty : FieldType} (k : Nat) (ty0 : Nat → FieldType) (hw : wsg E x a (.inr (ci, fs)) (.inr (ci, fs.set k v)) y) (hc : vwCl[ci]? = some (C, T, N)) (hin : ∀ w ∈ u_ws C T N, w ∈ Ts) (hty : ∀ k, k < N → parseFieldDescriptor (T k).2.2.1 = some (ty0 k)) (hnm : ∀ a, a < N → ∀ b, b < N → a ≠ b → (T a).2.1 ≠ (T b).2.1) (hk : k < N) (hlink : Cond.fieldLink own index ref (T k).2.1 (T k).2.2.1 ∈ Ts) (hsame : ref = (T k).1) (hfin : (T k).2.2.2 = false) (hd1 : ty0 k = ty) (hn : narrow ty v = v) (hfit : fits ty v = true) (hlen : k < fs.length) (hd : decode cc pc = .ok (.putfield index, 3))
    (kk : G p l e R s m args below meth c Q E S0 nL cs sl y (pc + 3) lv st) : G p l e R s m args below meth c Q E S0 nL cs sl x pc lv (v :: .ref a :: st) := fun H locs ls hP hD hS hl => by
  obtain ⟨q0, he, hset⟩ := hw _ hD
  refine va_put h.1 h.2.1 h.2.2.2.2.1 hin ty0 hty hnm h.2.2.2.1 h.2.2.2.2.2.1 hP hD hS q0 he hc k hk (h.2.2.2.2.1 _ hlink) (fun _ h9 => by rw [hsame]; exact h9) hfin (by rw [hty k hk, hd1]) hn hfit hlen hd (fun H1 locs1 hP1 hD1 hS1 => ?_)
  rw [hset] at hP1 hD1
  exact kk H1 locs1 ls hP1 hD1 hS1 hl
theorem g_iald (h : gO p s m args c cc nL own Ts E S0) {a n j : Nat} {f : Nat → Int32} (hw : wat E x a (.inl (E.cid 0, n, .inl f))) (hj : j < n) (hn : n < 2 ^ 31) (hd : decode cc pc = .ok (.iaload, 1)) (kk : G p l e R s m args below meth c Q E S0 nL cs sl x (pc + 1) lv (.int (f j) :: st)) : G p l e R s m args below meth c Q E S0 nL cs sl x pc lv (.int (nI j) :: .ref a :: st) := fun H locs ls hP hD hS hl => by
  obtain ⟨q0, he⟩ := hw
  refine va_iald h.1 h.2.1 h.2.2.2.2.2.1 hP q0 0 he rfl (vp_in_nI hj hn) hd ?_
  rw [nI_clamp (by omega)]
  exact kk H locs ls hP hD hS hl
theorem g_iast (h : gO p s m args c cc nL own Ts E S0) {a n j : Nat} {f : Nat → Int32} {v : Int32} (hw : wsg E x a (.inl (E.cid 0, n, .inl f)) (.inl (E.cid 0, n, .inl (upd f j v))) y) (hj : j < n) (hn : n < 2 ^ 31) (hd : decode cc pc = .ok (.iastore, 1)) (kk : G p l e R s m args below meth c Q E S0 nL cs sl y (pc + 1) lv st) : G p l e R s m args below meth c Q E S0 nL cs sl x pc lv (.int v :: .int (nI j) :: .ref a :: st) := fun H locs ls hP hD hS hl => by
  obtain ⟨q0, he, hset⟩ := hw _ hD
  refine va_iast h.1 h.2.1 h.2.2.2.2.2.1 hP hD hS q0 0 he rfl (vp_in_nI hj hn) hd (fun H1 locs1 hP1 hD1 hS1 => ?_)
  rw [nI_clamp (by omega), hset] at hP1 hD1
  exact kk H1 locs1 ls hP1 hD1 hS1 hl
theorem g_zald (h : gO p s m args c cc nL own Ts E S0) {a n j : Nat} {f : Nat → Int32} (hw : wat E x a (.inl (E.cid 1, n, .inl f))) (hj : j < n) (hn : n < 2 ^ 31) (hd : decode cc pc = .ok (.baload, 1)) (kk : G p l e R s m args below meth c Q E S0 nL cs sl x (pc + 1) lv (.int (f j) :: st)) : G p l e R s m args below meth c Q E S0 nL cs sl x pc lv (.int (nI j) :: .ref a :: st) := fun H locs ls hP hD hS hl => by
  obtain ⟨q0, he⟩ := hw
  refine va_zald h.1 h.2.1 h.2.2.2.2.2.1 hP q0 1 he rfl (vp_in_nI hj hn) hd ?_
  rw [nI_clamp (by omega)]
  exact kk H locs ls hP hD hS hl
theorem g_zast (h : gO p s m args c cc nL own Ts E S0) {a n j : Nat} {f : Nat → Int32} {v : Int32} (hw : wsg E x a (.inl (E.cid 1, n, .inl f)) (.inl (E.cid 1, n, .inl (upd f j (vp_nar .boolean v)))) y) (hj : j < n) (hn : n < 2 ^ 31) (hd : decode cc pc = .ok (.bastore, 1)) (kk : G p l e R s m args below meth c Q E S0 nL cs sl y (pc + 1) lv st) : G p l e R s m args below meth c Q E S0 nL cs sl x pc lv (.int v :: .int (nI j) :: .ref a :: st) := fun H locs ls hP hD hS hl => by
  obtain ⟨q0, he, hset⟩ := hw _ hD
  refine va_zast h.1 h.2.1 h.2.2.2.2.2.1 hP hD hS q0 1 he rfl (vp_in_nI hj hn) hd (fun H1 locs1 hP1 hD1 hS1 => ?_)
  rw [nI_clamp (by omega), hset] at hP1 hD1
  exact kk H1 locs1 ls hP1 hD1 hS1 hl
theorem g_iret (h : gO p s m args c cc nL own Ts E S0) {post : Option Value → St → Prop} {mc ms : Nat} {v : Int32} (hr : meth.sig.returnType = some .int) (hk : meth.locks = false) (hd : decode cc pc = .ok (.ireturn, 1)) (hc : cs ≤ mc) (hs : sl ≤ ms) (hp : post (some (.int v)) x) : G p l e R s m args below meth c (gQ below E S0 s post args mc ms) E S0 nL cs sl x pc lv [.int v] := fun H locs ls hP hD hS hl =>
  W.widen hc hs (W.iret h.1 h.2.1 hr (fun t ht hW => ⟨⟨some (.int v), x, rfl, hp, by rw [ht]; exact hP, hD⟩, hS.F ht⟩) hS.2.2 hd hk)
theorem g_lret (h : gO p s m args c cc nL own Ts E S0) {post : Option Value → St → Prop} {mc ms : Nat} {v : Int64} (hr : meth.sig.returnType = some .long) (hk : meth.locks = false) (hd : decode cc pc = .ok (.lreturn, 1)) (hc : cs ≤ mc) (hs : sl ≤ ms) (hp : post (some (.long v)) x) : G p l e R s m args below meth c (gQ below E S0 s post args mc ms) E S0 nL cs sl x pc lv [.long v] := fun H locs ls hP hD hS hl =>
  W.widen hc hs (W.lret h.1 h.2.1 hr (fun t ht hW => ⟨⟨some (.long v), x, rfl, hp, by rw [ht]; exact hP, hD⟩, hS.F ht⟩) hS.2.2 hd hk)
theorem g_zret (h : gO p s m args c cc nL own Ts E S0) {post : Option Value → St → Prop} {mc ms : Nat} {v : Int32} {ty : FieldType} (hr : meth.sig.returnType = some ty) (hk : meth.locks = false) (hn : narrow ty (.int v) = .int v) (hd : decode cc pc = .ok (.ireturn, 1)) (hc : cs ≤ mc) (hs : sl ≤ ms) (hp : post (some (.int v)) x) : G p l e R s m args below meth c (gQ below E S0 s post args mc ms) E S0 nL cs sl x pc lv [.int v] := fun H locs ls hP hD hS hl =>
  W.widen hc hs (W.zret h.1 h.2.1 hr hn (fun t ht hW => ⟨⟨some (.int v), x, rfl, hp, by rw [ht]; exact hP, hD⟩, hS.F ht⟩) hS.2.2 hd hk)
theorem g_vret (h : gO p s m args c cc nL own Ts E S0) {post : Option Value → St → Prop} {mc ms : Nat} (hr : meth.sig.returnType = none) (hk : meth.locks = false) (hd : decode cc pc = .ok (.return_, 1)) (hc : cs ≤ mc) (hs : sl ≤ ms) (hp : post none x) : G p l e R s m args below meth c (gQ below E S0 s post args mc ms) E S0 nL cs sl x pc lv [] := fun H locs ls hP hD hS hl =>
  W.widen hc hs (W.vret h.1 h.2.1 hr (fun t ht hW => ⟨⟨none, x, rfl, hp, by rw [ht]; exact hP, hD⟩, hS.F ht⟩) hS.2.2 hd hk)
theorem g_aret (h : gO p s m args c cc nL own Ts E S0) {post : Option Value → St → Prop} {mc ms : Nat} {v : Value} {rt : FieldType} (hr : meth.sig.returnType = some rt) (hk : meth.locks = false) (hrt : (∃ n, rt = .object n) ∨ ∃ t, rt = .array t) (hv : v = .null ∨ ∃ a, v = .ref a) (hd : decode cc pc = .ok (.areturn, 1)) (hc : cs ≤ mc) (hs : sl ≤ ms) (hp : post (some v) x) : G p l e R s m args below meth c (gQ below E S0 s post args mc ms) E S0 nL cs sl x pc lv [v] := fun H locs ls hP hD hS hl =>
  W.widen hc hs (W.aret h.1 h.2.1 hr hrt hv (fun t ht hW => ⟨⟨some v, x, rfl, hp, by rw [ht]; exact hP, hD⟩, hS.F ht⟩) hS.2.2 hd hk)
theorem g_callV (h : gO p s m args c cc nL own Ts E S0) {C : String} {ym : MethodName} {bytes : ByteArray} {maxL index mc ms ci b : Nat} {ret : Option FieldType} {ws ws' : List Cond} {rm : Room} {As rest : List Value} {fs : List Value} {r : vw_C} {post : Option Value → St → Prop} (n : Nat) (hM : Ct l ym ws rm E (.ref b :: As) x post mc ms) (hst : st = As.reverse ++ .ref b :: rest) (hG : GoodIn Ts (wsV own index C ym ws)) (hw : ws = Cond.code ym bytes maxL ret :: ws') (hrc : rm.cells = mc) (hrs : rm.slots = ms) (hn : As.length = n)
    (hdd : ym.cls = C ∧ ym.cls ≠ "java/lang/invoke/MethodHandle" ∧ ym.cls ≠ "java/lang/invoke/VarHandle" ∧ (parseMethodDescriptor ym.desc).map (fun d => d.parameters.length) = some n) (hR : rm.frames + 1 ≤ R.frames ∧ 8 + (maxL + 11) + rm.locals ≤ R.locals)
    (hb : wat E x b (.inr (ci, fs))) (hc : vwCl[ci]? = some r) (hC : r.1 = C) (hd : decode cc pc = .ok (.invokevirtual index, 3)) (hf : cs + mc ≤ R.cells ∧ sl + ms ≤ R.slots) (hcat : (rest.map fun v => v.category).sum ≤ 8)
    (kk : ∀ (v : Option Value) (y : St), post v y → G p l e R s m args below meth c Q E S0 nL (cs + mc) (sl + ms) y (pc + 3) lv (v.toList ++ rest)) : G p l e R s m args below meth c Q E S0 nL cs sl x pc lv st := fun H locs ls hP hD hS hl => by
  obtain ⟨q0, he⟩ := hb
  subst hC
  exact g_run (va_runV (As := As) (rest := rest) ⟨h.1, h.2.1, h.2.2.1, h.2.2.2.1, h.2.2.2.2.1⟩ (hM H.size) (cwV n h.2.2.2.2.1 hG hw hrc hrs hdd hR) ⟨gPc_blind, va_recv h.2.2.2.2.2.1 hP hc he, fun U hU hW => gPre h hP hD hS U hU hW⟩ rfl hn hl.1 hst (lv_room hcat) hd hf) hD hS hl kk
theorem g_callS (h : gO p s m args c cc nL own Ts E S0) {ym : MethodName} {bytes : ByteArray} {maxL index mc ms : Nat} {ret : Option FieldType} {ws ws' : List Cond} {rm : Room} {As rest : List Value} {post : Option Value → St → Prop} (n : Nat) (hM : Ct l ym ws rm E As x post mc ms) (hst : st = As.reverse ++ rest) (hG : GoodIn Ts (va_wsS own index ym ws)) (hw : ws = Cond.code ym bytes maxL ret :: ws') (hrc : rm.cells = mc) (hrs : rm.slots = ms) (hn : As.length = n)
    (hdd : ym.cls ≠ "java/lang/invoke/MethodHandle" ∧ ym.cls ≠ "java/lang/invoke/VarHandle" ∧ (parseMethodDescriptor ym.desc).map (fun d => d.parameters.length) = some n) (hR : rm.frames + 1 ≤ R.frames ∧ 8 + (maxL + 11) + rm.locals ≤ R.locals)
    (hd : decode cc pc = .ok (.invokestatic index, 3)) (hf : cs + mc ≤ R.cells ∧ sl + ms ≤ R.slots) (hcat : (rest.map fun v => v.category).sum ≤ 8)
    (kk : ∀ (v : Option Value) (y : St), post v y → G p l e R s m args below meth c Q E S0 nL (cs + mc) (sl + ms) y (pc + 3) lv (v.toList ++ rest)) : G p l e R s m args below meth c Q E S0 nL cs sl x pc lv st := fun H locs ls hP hD hS hl =>
  g_run (va_runS (As := As) (rest := rest) ⟨h.1, h.2.1, h.2.2.1, h.2.2.2.1, h.2.2.2.2.1⟩ (hM H.size) (va_cwS n h.2.2.2.2.1 hG hw hrc hrs hdd hR) ⟨gPc_blind, fun U hU hW => gPre h hP hD hS U hU hW⟩ rfl hn hl.1 hst (lv_room hcat) hd hf) hD hS hl kk
end GR
end
