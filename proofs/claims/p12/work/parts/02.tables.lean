/-! TABLES, printed by program out of the Statement: methods, classes, links by numbers, and where each stands in lw_tbl -/
def ax_fnd {α : Type} : List (Nat × α) → Nat → Option α
  | [], _ => none
  | q :: t, i => if q.1 = i then some q.2 else ax_fnd t i
theorem ax_fnd_mem {α : Type} : ∀ {l : List (Nat × α)} {i : Nat} {v : α}, ax_fnd l i = some v → (i, v) ∈ l
  | [], _, _, h => by cases h
  | q :: t, i, v, h => by
    unfold ax_fnd at h
    by_cases hq : q.1 = i
    · rw [if_pos hq] at h
      cases h
      subst hq
      exact List.mem_cons_self
    · rw [if_neg hq] at h
      exact List.mem_cons_of_mem _ (ax_fnd_mem h)
theorem ax_getD_lt {α : Type} {l : List (List α)} {i : Nat} {x : α} (h : x ∈ l.getD i []) : i < l.length := by
  rcases Nat.lt_or_ge i l.length with q | q
  · exact q
  · rw [List.getD_eq_getElem?_getD, List.getElem?_eq_none q] at h
    cases h
theorem ax_all2 {α : Type} {l : List (List α)} {f : Nat → α → Bool} (hc : (List.range l.length).all (fun i => (l.getD i []).all (f i)) = true) {i : Nat} {x : α} (h : x ∈ l.getD i []) : f i x = true :=
  List.all_eq_true.mp (List.all_eq_true.mp hc i (List.mem_range.mpr (ax_getD_lt h))) x h
def axt_n : Nat := 219
def axt_ys_0 : List (MethodName) := [⟨"StripedStore", "<init>", "(III)V"⟩, ⟨"java/lang/Object", "<init>", "()V"⟩, ⟨"StripedStore$Net", "<init>", "()V"⟩, ⟨"StripedStore$Message", "<init>", "()V"⟩, ⟨"StripedStore", "clamp", "(III)I"⟩, ⟨"java/lang/Math", "min", "(II)I"⟩, ⟨"java/lang/Math", "max", "(II)I"⟩, ⟨"StripedStore$Ranks", "<init>", "(III)V"⟩, ⟨"StripedStore$Ranks", "draw", "(II)I"⟩, ⟨"StripedStore$Askers", "<init>", "(LStripedStore$Ranks;LStripedStore$Net;)V"⟩, ⟨"StripedStore$Asked", "<init>", "()V"⟩, ⟨"StripedStore$Table", "<init>", "(I)V"⟩, ⟨"StripedStore$Table", "forget", "()V"⟩, ⟨"java/util/Arrays", "fill", "([II)V"⟩, ⟨"StripedStore$Node", "<init>", "(ILStripedStore$Ranks;LStripedStore$Net;)V"⟩, ⟨"StripedStore$Disk", "<init>", "()V"⟩, ⟨"StripedStore$Leader", "<init>", "(ILStripedStore$Ranks;LStripedStore$Net;)V"⟩, ⟨"StripedStore$Work", "<init>", "(LStripedStore$Table;)V"⟩, ⟨"StripedStore$Node", "wake", "(II)V"⟩, ⟨"StripedStore$Node", "readDisk", "()V"⟩, ⟨"StripedStore$Disk", "isWhole", "(I)Z"⟩, ⟨"StripedStore$Disk", "tagAt", "(I)I"⟩, ⟨"StripedStore$Node", "slotOf", "(I)I"⟩, ⟨"StripedStore$Disk", "isFull", "()Z"⟩, ⟨"StripedStore$Disk", "flush", "()V"⟩, ⟨"StripedStore$Disk", "erase", "(I)V"⟩, ⟨"StripedStore$Disk", "openFresh", "(I)I"⟩, ⟨"java/util/Arrays", "fill", "([IIII)V"⟩, ⟨"java/util/Arrays", "rangeCheck", "(III)V"⟩, ⟨"StripedStore$Node", "follow", "(II)V"⟩, ⟨"StripedStore$Node", "leads", "()Z"⟩, ⟨"StripedStore$Ranks", "nodeOf", "(III)I"⟩, ⟨"StripedStore$Leader", "start", "(II)V"⟩, ⟨"StripedStore$Leader", "rest", "()V"⟩, ⟨"StripedStore$Ranks", "maskOf", "(II)I"⟩, ⟨"StripedStore$Leader", "poll", "()V"⟩, ⟨"StripedStore$Net", "post", "(IIIII)LStripedStore$Message;"⟩, ⟨"StripedStore", "feed", "(IIIII)I"⟩, ⟨"StripedStore$Askers", "addWord", "(I)V"⟩, ⟨"StripedStore$Bytes", "set", "([III)V"⟩, ⟨"StripedStore", "end", "(I)I"⟩, ⟨"StripedStore", "name", "(I)I"⟩, ⟨"StripedStore$Askers", "takeName", "(I)I"⟩, ⟨"StripedStore$Bytes", "move", "([II[III)V"⟩, ⟨"StripedStore", "begin", "(III)I"⟩, ⟨"StripedStore$Askers", "mayAsk", "(III)Z"⟩, ⟨"StripedStore$Askers", "open", "(III)I"⟩, ⟨"StripedStore$Askers", "askNext", "()V"⟩, ⟨"StripedStore$Asked", "writeTo", "(LStripedStore$Message;)V"⟩, ⟨"StripedStore", "deliver", "(I)V"⟩, ⟨"java/lang/Math", "floorMod", "(II)I"⟩, ⟨"StripedStore$Net", "take", "(I)LStripedStore$Message;"⟩, ⟨"StripedStore", "handOver", "(LStripedStore$Message;)V"⟩, ⟨"StripedStore$Askers", "hear", "(LStripedStore$Message;)V"⟩, ⟨"StripedStore$Asked", "changes", "()Z"⟩, ⟨"StripedStore$Node", "hear", "(LStripedStore$Message;)V"⟩, ⟨"StripedStore$Node", "list", "(I)V"⟩, ⟨"StripedStore$Disk", "isFresh", "(I)Z"⟩, ⟨"StripedStore$Node", "give", "(IIII)V"⟩, ⟨"StripedStore$Node", "store", "(LStripedStore$Message;)V"⟩]
def axt_ys_1 : List (MethodName) := [⟨"StripedStore$Node", "flushAndTell", "()V"⟩, ⟨"StripedStore$Disk", "freshSlot", "(I)I"⟩, ⟨"StripedStore$Node", "freeSlot", "()I"⟩, ⟨"StripedStore$Disk", "write", "(I[I)V"⟩, ⟨"StripedStore$Disk", "otherStamp", "(I)I"⟩, ⟨"StripedStore$Disk", "stamp", "([III)V"⟩, ⟨"StripedStore$Node", "dropAll", "(LStripedStore$Message;)V"⟩, ⟨"StripedStore$Leader", "hear", "(LStripedStore$Message;)V"⟩, ⟨"StripedStore$Work", "take", "(LStripedStore$Message;)V"⟩, ⟨"StripedStore$Asked", "readFrom", "(LStripedStore$Message;)V"⟩, ⟨"StripedStore$Leader", "listed", "(LStripedStore$Message;)V"⟩, ⟨"StripedStore$Work", "isActive", "()Z"⟩, ⟨"StripedStore$Table", "isKnown", "()Z"⟩, ⟨"java/lang/Long", "bitCount", "(J)I"⟩, ⟨"StripedStore$Leader", "isSafe", "(I)Z"⟩, ⟨"StripedStore$Table", "groupOf", "(I)I"⟩, ⟨"StripedStore$Leader", "judge", "(II)I"⟩, ⟨"StripedStore$Table", "find", "(I)I"⟩, ⟨"StripedStore$Table", "versionOf", "(I)I"⟩, ⟨"StripedStore$Leader", "fetchIfNews", "(II)V"⟩, ⟨"StripedStore$Table", "isRoot", "(I)Z"⟩, ⟨"StripedStore$Table", "knows", "(I)Z"⟩, ⟨"StripedStore$Leader", "setClean", "(IZ)V"⟩, ⟨"StripedStore$Leader", "gotItem", "(LStripedStore$Message;)V"⟩, ⟨"StripedStore$Table", "readRoot", "([II)V"⟩, ⟨"StripedStore$Table", "readRecord", "([II)V"⟩, ⟨"StripedStore$Table", "setName", "(I[III)V"⟩, ⟨"StripedStore$Work", "fill", "(I[I)V"⟩, ⟨"StripedStore$Work", "neededAt", "(I)I"⟩, ⟨"StripedStore$Leader", "gotHave", "(LStripedStore$Message;)V"⟩, ⟨"StripedStore$Leader", "gotLack", "(LStripedStore$Message;)V"⟩, ⟨"StripedStore$Leader", "goOn", "()V"⟩, ⟨"StripedStore$Leader", "isReady", "(I)Z"⟩, ⟨"StripedStore$Work", "plan", "()V"⟩, ⟨"StripedStore$Table", "named", "([III)I"⟩, ⟨"StripedStore$Bytes", "compare", "([III[III)I"⟩, ⟨"java/lang/Integer", "compare", "(II)I"⟩, ⟨"StripedStore$Table", "firstAfter", "([II)I"⟩, ⟨"StripedStore$Table", "total", "()I"⟩, ⟨"StripedStore$Work", "foretell", "(I)I"⟩, ⟨"StripedStore$Work", "foretellWrite", "(II)I"⟩, ⟨"StripedStore$Work", "foretellCut", "(II)I"⟩, ⟨"StripedStore$Work", "touch", "()V"⟩, ⟨"StripedStore$Table", "copyName", "(I[II)V"⟩, ⟨"StripedStore$Work", "change", "()V"⟩, ⟨"StripedStore$Work", "makeFile", "()V"⟩, ⟨"StripedStore$Table", "add", "(I)I"⟩, ⟨"StripedStore$Work", "copySpan", "(Z)V"⟩, ⟨"StripedStore$Work", "lengthen", "()V"⟩, ⟨"StripedStore$Work", "cut", "()V"⟩, ⟨"StripedStore$Bytes", "clear", "([III)V"⟩, ⟨"StripedStore$Table", "remove", "(I)V"⟩, ⟨"StripedStore$Work", "rename", "()V"⟩, ⟨"StripedStore$Work", "swap", "()V"⟩, ⟨"StripedStore$Work", "sealItems", "()V"⟩, ⟨"StripedStore$Table", "renew", "(II)V"⟩, ⟨"StripedStore$Table", "tagAt", "(I)I"⟩, ⟨"StripedStore$Disk", "seal", "([III)V"⟩, ⟨"StripedStore$Table", "writeRecord", "(I[II)V"⟩, ⟨"StripedStore$Leader", "areSafe", "(II)Z"⟩]
def axt_ys_2 : List (MethodName) := [⟨"StripedStore$Disk", "isSealed", "([II)Z"⟩, ⟨"StripedStore$Work", "sealRoot", "()V"⟩, ⟨"StripedStore$Table", "writeRoot", "([II)V"⟩, ⟨"StripedStore$Leader", "tell", "()V"⟩, ⟨"StripedStore$Work", "toldLength", "()I"⟩, ⟨"StripedStore$Leader", "push", "()V"⟩, ⟨"StripedStore$Leader", "fetchStripe", "(I)V"⟩, ⟨"StripedStore$Leader", "oneOf", "(I)I"⟩, ⟨"StripedStore$Leader", "putBlock", "(I)V"⟩, ⟨"StripedStore", "lose", "(I)V"⟩, ⟨"StripedStore", "twice", "(I)V"⟩, ⟨"StripedStore", "stir", "(II)I"⟩, ⟨"StripedStore", "tick", "(I)I"⟩, ⟨"StripedStore", "passTick", "()V"⟩, ⟨"StripedStore$Askers", "work", "()V"⟩, ⟨"StripedStore$Askers", "tellMap", "()V"⟩, ⟨"StripedStore$Node", "work", "()V"⟩, ⟨"StripedStore$Leader", "work", "()V"⟩, ⟨"StripedStore$Leader", "mend", "()V"⟩, ⟨"StripedStore$Leader", "sendTo", "(II)I"⟩, ⟨"java/lang/Integer", "bitCount", "(I)I"⟩, ⟨"StripedStore", "crash", "(III)Z"⟩, ⟨"StripedStore$Node", "sleep", "(II)V"⟩, ⟨"StripedStore$Disk", "fail", "(II)V"⟩, ⟨"StripedStore", "restart", "(I)Z"⟩, ⟨"StripedStore", "map", "(I)I"⟩, ⟨"StripedStore", "everyNode", "()I"⟩, ⟨"StripedStore$Askers", "drawMap", "(I)V"⟩, ⟨"StripedStore", "replace", "(I)Z"⟩, ⟨"StripedStore$Disk", "wipe", "()V"⟩, ⟨"StripedStore", "settle", "()I"⟩, ⟨"StripedStore", "isDone", "()Z"⟩, ⟨"StripedStore$Leader", "isClean", "()Z"⟩, ⟨"StripedStore$Askers", "publish", "()V"⟩, ⟨"StripedStore", "readCatalogue", "()V"⟩, ⟨"StripedStore$Disk", "seekRoot", "()I"⟩, ⟨"StripedStore$Disk", "seek", "(I)I"⟩, ⟨"StripedStore$Table", "laidOf", "(I)I"⟩, ⟨"StripedStore", "sortIn", "(I)V"⟩, ⟨"StripedStore$Table", "compare", "(II)I"⟩, ⟨"StripedStore", "answer", "(I)I"⟩, ⟨"StripedStore", "told", "(II)I"⟩, ⟨"StripedStore$Bytes", "at", "([II)I"⟩, ⟨"StripedStore", "file", "(II)I"⟩, ⟨"StripedStore", "where", "(III)I"⟩, ⟨"StripedStore", "stripeAt", "(II)I"⟩, ⟨"StripedStore", "onDisk", "(IIII)I"⟩, ⟨"StripedStore", "holds", "(I)I"⟩, ⟨"StripedStore$Table", "isStripe", "(I)Z"⟩, ⟨"StripedStore", "audit", "()I"⟩, ⟨"StripedStore", "auditDisk", "(I)I"⟩, ⟨"StripedStore", "isLikeFirst", "(II)Z"⟩, ⟨"StripedStore", "count", "(I)I"⟩, ⟨"StripedStore", "countUp", "()I"⟩, ⟨"StripedStoreLaw", "cell", "([II)I"⟩, ⟨"StripedStoreModel", "<init>", "(III)V"⟩, ⟨"StripedStoreModel", "feed", "(IIIII)I"⟩, ⟨"StripedStoreModel", "put", "(I)V"⟩, ⟨"StripedStoreModel", "end", "(I)I"⟩, ⟨"StripedStoreModel", "name", "(I)I"⟩]
def axt_ys_3 : List (MethodName) := [⟨"StripedStoreModel", "begin", "(III)I"⟩, ⟨"StripedStoreModel", "deliver", "(I)V"⟩, ⟨"StripedStoreModel", "lose", "(I)V"⟩, ⟨"StripedStoreModel", "twice", "(I)V"⟩, ⟨"StripedStoreModel", "stir", "(II)I"⟩, ⟨"StripedStoreModel", "tick", "(I)I"⟩, ⟨"StripedStoreModel", "crash", "(III)Z"⟩, ⟨"StripedStoreModel", "isUp", "(I)Z"⟩, ⟨"StripedStoreModel", "restart", "(I)Z"⟩, ⟨"StripedStoreModel", "isDown", "(I)Z"⟩, ⟨"StripedStoreModel", "map", "(I)I"⟩, ⟨"StripedStoreModel", "replace", "(I)Z"⟩, ⟨"StripedStoreModel", "settle", "()I"⟩, ⟨"StripedStoreModel", "act", "(II)I"⟩, ⟨"StripedStoreModel", "find", "(II)I"⟩, ⟨"StripedStoreModel", "compare", "(III)I"⟩, ⟨"StripedStoreModel", "made", "(II)I"⟩, ⟨"StripedStoreModel", "enter", "(III)V"⟩, ⟨"StripedStoreModel", "write", "(IIZ)I"⟩, ⟨"StripedStoreModel", "resize", "(II)V"⟩, ⟨"StripedStoreModel", "cut", "(I)I"⟩, ⟨"StripedStoreModel", "read", "(I)I"⟩, ⟨"StripedStoreModel", "gone", "(I)I"⟩, ⟨"StripedStoreModel", "leave", "(I)V"⟩, ⟨"StripedStoreModel", "rename", "(I)I"⟩, ⟨"StripedStoreModel", "swap", "(I)I"⟩, ⟨"StripedStoreModel", "next", "(I)I"⟩, ⟨"StripedStoreModel", "stripes", "(I)I"⟩, ⟨"StripedStoreModel", "answer", "(I)I"⟩, ⟨"StripedStoreModel", "told", "(II)I"⟩, ⟨"StripedStoreModel", "file", "(II)I"⟩, ⟨"StripedStoreModel", "where", "(III)I"⟩, ⟨"StripedStoreModel", "rank", "(III)I"⟩, ⟨"StripedStoreModel", "draw", "(II)I"⟩, ⟨"StripedStoreModel", "onDisk", "(IIII)I"⟩, ⟨"StripedStoreModel", "holds", "(I)I"⟩, ⟨"StripedStoreModel", "audit", "()I"⟩, ⟨"StripedStoreModel", "count", "(I)I"⟩, ⟨"StripedStoreModel", "bits", "(I)I"⟩, x]
def axt_ys : List (MethodName) := axt_ys_0 ++ (axt_ys_1 ++ (axt_ys_2 ++ (axt_ys_3)))
def axt_bs_0 : List (ByteArray) := [prog_1_method_1_code, object_method_1_code, prog_8_method_1_code, prog_7_method_1_code, prog_1_method_24_code, prog_17_method_69_code, prog_17_method_65_code, prog_10_method_1_code, prog_10_method_2_code, prog_3_method_1_code, prog_2_method_1_code, prog_11_method_1_code, prog_11_method_5_code, prog_19_method_103_code, prog_9_method_1_code, prog_5_method_1_code, prog_6_method_1_code, prog_12_method_1_code, prog_9_method_2_code, prog_9_method_4_code, prog_5_method_16_code, prog_5_method_15_code, prog_9_method_9_code, prog_5_method_6_code, prog_5_method_12_code, prog_5_method_10_code, prog_5_method_11_code, prog_19_method_104_code, prog_19_method_30_code, prog_9_method_5_code, prog_9_method_6_code, prog_10_method_3_code, prog_6_method_2_code, prog_6_method_3_code, prog_10_method_4_code, prog_6_method_4_code, prog_8_method_2_code, prog_1_method_2_code, prog_3_method_2_code, prog_4_method_3_code, prog_1_method_3_code, prog_1_method_4_code, prog_3_method_3_code, prog_4_method_4_code, prog_1_method_5_code, prog_3_method_4_code, prog_3_method_5_code, prog_3_method_6_code, prog_2_method_2_code, prog_1_method_6_code, prog_17_method_50_code, prog_8_method_3_code, prog_1_method_27_code, prog_3_method_10_code, prog_2_method_4_code, prog_9_method_8_code, prog_9_method_11_code, prog_5_method_7_code, prog_9_method_12_code, prog_9_method_13_code]
def axt_bs_1 : List (ByteArray) := [prog_9_method_15_code, prog_5_method_8_code, prog_9_method_10_code, prog_5_method_9_code, prog_5_method_5_code, prog_5_method_4_code, prog_9_method_14_code, prog_6_method_6_code, prog_12_method_2_code, prog_2_method_3_code, prog_6_method_18_code, prog_12_method_3_code, prog_11_method_6_code, prog_16_method_50_code, prog_6_method_9_code, prog_11_method_10_code, prog_6_method_20_code, prog_11_method_8_code, prog_11_method_2_code, prog_6_method_21_code, prog_11_method_3_code, prog_11_method_7_code, prog_6_method_19_code, prog_6_method_22_code, prog_11_method_22_code, prog_11_method_24_code, prog_11_method_16_code, prog_12_method_10_code, prog_12_method_9_code, prog_6_method_23_code, prog_6_method_24_code, prog_6_method_7_code, prog_6_method_8_code, prog_12_method_4_code, prog_11_method_14_code, prog_4_method_6_code, prog_15_method_40_code, prog_11_method_15_code, prog_11_method_12_code, prog_12_method_5_code, prog_12_method_6_code, prog_12_method_7_code, prog_12_method_8_code, prog_11_method_17_code, prog_12_method_11_code, prog_12_method_12_code, prog_11_method_18_code, prog_12_method_13_code, prog_12_method_14_code, prog_12_method_15_code, prog_4_method_5_code, prog_11_method_19_code, prog_12_method_16_code, prog_12_method_17_code, prog_12_method_18_code, prog_11_method_20_code, prog_11_method_9_code, prog_5_method_2_code, prog_11_method_23_code, prog_6_method_10_code]
def axt_bs_2 : List (ByteArray) := [prog_5_method_3_code, prog_12_method_19_code, prog_11_method_21_code, prog_6_method_11_code, prog_12_method_20_code, prog_6_method_12_code, prog_6_method_13_code, prog_6_method_14_code, prog_6_method_15_code, prog_1_method_7_code, prog_1_method_8_code, prog_1_method_9_code, prog_1_method_10_code, prog_1_method_28_code, prog_3_method_9_code, prog_3_method_8_code, prog_9_method_7_code, prog_6_method_5_code, prog_6_method_16_code, prog_6_method_17_code, prog_15_method_49_code, prog_1_method_11_code, prog_9_method_3_code, prog_5_method_13_code, prog_1_method_12_code, prog_1_method_13_code, prog_1_method_25_code, prog_3_method_7_code, prog_1_method_14_code, prog_5_method_14_code, prog_1_method_15_code, prog_1_method_29_code, prog_6_method_25_code, prog_3_method_11_code, prog_1_method_30_code, prog_5_method_18_code, prog_5_method_17_code, prog_11_method_11_code, prog_1_method_31_code, prog_11_method_13_code, prog_1_method_16_code, prog_1_method_17_code, prog_4_method_2_code, prog_1_method_18_code, prog_1_method_19_code, prog_1_method_32_code, prog_1_method_20_code, prog_1_method_21_code, prog_11_method_4_code, prog_1_method_22_code, prog_1_method_33_code, prog_1_method_34_code, prog_1_method_23_code, prog_1_method_26_code, method_2_code, prog_14_method_1_code, prog_14_method_3_code, prog_14_method_2_code, prog_14_method_4_code, prog_14_method_5_code]
def axt_bs_3 : List (ByteArray) := [prog_14_method_6_code, prog_14_method_7_code, prog_14_method_8_code, prog_14_method_9_code, prog_14_method_10_code, prog_14_method_11_code, prog_14_method_14_code, prog_14_method_12_code, prog_14_method_15_code, prog_14_method_13_code, prog_14_method_16_code, prog_14_method_17_code, prog_14_method_32_code, prog_14_method_31_code, prog_14_method_19_code, prog_14_method_18_code, prog_14_method_22_code, prog_14_method_21_code, prog_14_method_25_code, prog_14_method_24_code, prog_14_method_26_code, prog_14_method_27_code, prog_14_method_23_code, prog_14_method_20_code, prog_14_method_28_code, prog_14_method_29_code, prog_14_method_30_code, prog_14_method_35_code, prog_14_method_33_code, prog_14_method_34_code, prog_14_method_36_code, prog_14_method_39_code, prog_14_method_38_code, prog_14_method_37_code, prog_14_method_40_code, prog_14_method_41_code, prog_14_method_42_code, prog_14_method_44_code, prog_14_method_43_code, code]
def axt_bs : List (ByteArray) := axt_bs_0 ++ (axt_bs_1 ++ (axt_bs_2 ++ (axt_bs_3)))
def axt_rts_0 : List (Option FieldType) := [none, none, none, none, some (FieldType.int), some (FieldType.int), some (FieldType.int), none, some (FieldType.int), none, none, none, none, none, none, none, none, none, none, none, some (FieldType.boolean), some (FieldType.int), some (FieldType.int), some (FieldType.boolean), none, none, some (FieldType.int), none, none, none, some (FieldType.boolean), some (FieldType.int), none, none, some (FieldType.int), none, some (FieldType.object "StripedStore$Message"), some (FieldType.int), none, none, some (FieldType.int), some (FieldType.int), some (FieldType.int), none, some (FieldType.int), some (FieldType.boolean), some (FieldType.int), none, none, none, some (FieldType.int), some (FieldType.object "StripedStore$Message"), none, none, some (FieldType.boolean), none, none, some (FieldType.boolean), none, none]
def axt_rts_1 : List (Option FieldType) := [none, some (FieldType.int), some (FieldType.int), none, some (FieldType.int), none, none, none, none, none, none, some (FieldType.boolean), some (FieldType.boolean), some (FieldType.int), some (FieldType.boolean), some (FieldType.int), some (FieldType.int), some (FieldType.int), some (FieldType.int), none, some (FieldType.boolean), some (FieldType.boolean), none, none, none, none, none, none, some (FieldType.int), none, none, none, some (FieldType.boolean), none, some (FieldType.int), some (FieldType.int), some (FieldType.int), some (FieldType.int), some (FieldType.int), some (FieldType.int), some (FieldType.int), some (FieldType.int), none, none, none, none, some (FieldType.int), none, none, none, none, none, none, none, none, none, some (FieldType.int), none, none, some (FieldType.boolean)]
def axt_rts_2 : List (Option FieldType) := [some (FieldType.boolean), none, none, none, some (FieldType.int), none, none, some (FieldType.int), none, none, none, some (FieldType.int), some (FieldType.int), none, none, none, none, none, none, some (FieldType.int), some (FieldType.int), some (FieldType.boolean), none, none, some (FieldType.boolean), some (FieldType.int), some (FieldType.int), none, some (FieldType.boolean), none, some (FieldType.int), some (FieldType.boolean), some (FieldType.boolean), none, none, some (FieldType.int), some (FieldType.int), some (FieldType.int), none, some (FieldType.int), some (FieldType.int), some (FieldType.int), some (FieldType.int), some (FieldType.int), some (FieldType.int), some (FieldType.int), some (FieldType.int), some (FieldType.int), some (FieldType.boolean), some (FieldType.int), some (FieldType.int), some (FieldType.boolean), some (FieldType.int), some (FieldType.int), some (FieldType.int), none, some (FieldType.int), none, some (FieldType.int), some (FieldType.int)]
def axt_rts_3 : List (Option FieldType) := [some (FieldType.int), none, none, none, some (FieldType.int), some (FieldType.int), some (FieldType.boolean), some (FieldType.boolean), some (FieldType.boolean), some (FieldType.boolean), some (FieldType.int), some (FieldType.boolean), some (FieldType.int), some (FieldType.int), some (FieldType.int), some (FieldType.int), some (FieldType.int), none, some (FieldType.int), none, some (FieldType.int), some (FieldType.int), some (FieldType.int), none, some (FieldType.int), some (FieldType.int), some (FieldType.int), some (FieldType.int), some (FieldType.int), some (FieldType.int), some (FieldType.int), some (FieldType.int), some (FieldType.int), some (FieldType.int), some (FieldType.int), some (FieldType.int), some (FieldType.int), some (FieldType.int), some (FieldType.int), ret]
def axt_rts : List (Option FieldType) := axt_rts_0 ++ (axt_rts_1 ++ (axt_rts_2 ++ (axt_rts_3)))
def axt_mxs_0 : List (Nat) := [5, 1, 2, 1, 3, 2, 2, 7, 3, 4, 1, 2, 1, 4, 4, 1, 4, 2, 3, 3, 4, 2, 3, 1, 2, 3, 2, 5, 3, 3, 1, 7, 4, 1, 7, 2, 7, 6, 3, 4, 2, 2, 2, 8, 4, 4, 5, 4, 2, 2, 3, 3, 2, 3, 1, 2, 4, 2, 7, 4]
def axt_mxs_1 : List (Nat) := [4, 2, 2, 4, 2, 3, 4, 2, 2, 2, 8, 1, 1, 2, 3, 3, 5, 4, 1, 5, 1, 2, 3, 4, 5, 6, 5, 4, 2, 4, 3, 2, 2, 2, 5, 7, 2, 6, 3, 3, 4, 5, 2, 4, 1, 1, 3, 8, 1, 2, 4, 2, 1, 1, 3, 3, 3, 3, 5, 5]
def axt_mxs_2 : List (Nat) := [2, 1, 6, 2, 1, 2, 2, 4, 7, 2, 2, 8, 3, 2, 1, 2, 1, 1, 4, 5, 1, 4, 3, 6, 2, 2, 1, 2, 2, 1, 4, 2, 2, 1, 6, 3, 3, 4, 3, 3, 2, 4, 2, 4, 5, 4, 8, 5, 1, 3, 6, 8, 2, 3, 2, 4, 6, 3, 2, 3]
def axt_mxs_3 : List (Nat) := [6, 2, 2, 2, 3, 2, 4, 2, 2, 2, 2, 2, 6, 4, 4, 9, 5, 7, 10, 4, 4, 5, 2, 4, 4, 4, 5, 4, 2, 4, 4, 5, 7, 3, 7, 5, 1, 2, 3, 4]
def axt_mxs : List (Nat) := axt_mxs_0 ++ (axt_mxs_1 ++ (axt_mxs_2 ++ (axt_mxs_3)))
def axt_ows_0 : List (Nat) := [0, 1, 2, 3, 0, 4, 4, 5, 5, 6, 7, 8, 8, 9, 10, 11, 12, 13, 10, 10, 11, 11, 10, 11, 11, 11, 11, 9, 9, 10, 10, 5, 12, 12, 5, 12, 2, 0, 6, 14, 0, 0, 6, 14, 0, 6, 6, 6, 7, 0, 4, 2, 0, 6, 7, 10, 10, 11, 10, 10]
def axt_ows_1 : List (Nat) := [10, 11, 10, 11, 11, 11, 10, 12, 13, 7, 12, 13, 8, 15, 12, 8, 12, 8, 8, 12, 8, 8, 12, 12, 8, 8, 8, 13, 13, 12, 12, 12, 12, 13, 8, 14, 16, 8, 8, 13, 13, 13, 13, 8, 13, 13, 8, 13, 13, 13, 14, 8, 13, 13, 13, 8, 8, 11, 8, 12]
def axt_ows_2 : List (Nat) := [11, 13, 8, 12, 13, 12, 12, 12, 12, 0, 0, 0, 0, 0, 6, 6, 10, 12, 12, 12, 16, 0, 10, 11, 0, 0, 0, 6, 0, 11, 0, 0, 12, 6, 0, 11, 11, 8, 0, 8, 0, 0, 14, 0, 0, 0, 0, 0, 8, 0, 0, 0, 0, 0, 17, 18, 18, 18, 18, 18]
def axt_ows_3 : List (Nat) := [18, 18, 18, 18, 18, 18, 18, 18, 18, 18, 18, 18, 18, 18, 18, 18, 18, 18, 18, 18, 18, 18, 18, 18, 18, 18, 18, 18, 18, 18, 18, 18, 18, 18, 18, 18, 18, 18, 18, 17]
def axt_ows : List (Nat) := axt_ows_0 ++ (axt_ows_1 ++ (axt_ows_2 ++ (axt_ows_3)))
def axt_ons_0 : List (String) := ["StripedStore", "java/lang/Object", "StripedStore$Net", "StripedStore$Message", "java/lang/Math", "StripedStore$Ranks", "StripedStore$Askers", "StripedStore$Asked", "StripedStore$Table", "java/util/Arrays", "StripedStore$Node", "StripedStore$Disk", "StripedStore$Leader", "StripedStore$Work", "StripedStore$Bytes", "java/lang/Long", "java/lang/Integer", "StripedStoreLaw", "StripedStoreModel"]
def axt_ons : List (String) := axt_ons_0
def axt_cis_0 : List (Nat) := [0, 99, 1, 2, 0, 99, 99, 3, 3, 4, 5, 6, 6, 99, 7, 8, 9, 10, 7, 7, 8, 8, 7, 8, 8, 8, 8, 99, 99, 7, 7, 3, 9, 9, 3, 9, 1, 0, 4, 99, 0, 0, 4, 99, 0, 4, 4, 4, 5, 0, 99, 1, 0, 4, 5, 7, 7, 8, 7, 7]
def axt_cis_1 : List (Nat) := [7, 8, 7, 8, 8, 8, 7, 9, 10, 5, 9, 10, 6, 99, 9, 6, 9, 6, 6, 9, 6, 6, 9, 9, 6, 6, 6, 10, 10, 9, 9, 9, 9, 10, 6, 99, 99, 6, 6, 10, 10, 10, 10, 6, 10, 10, 6, 10, 10, 10, 99, 6, 10, 10, 10, 6, 6, 8, 6, 9]
def axt_cis_2 : List (Nat) := [8, 10, 6, 9, 10, 9, 9, 9, 9, 0, 0, 0, 0, 0, 4, 4, 7, 9, 9, 9, 99, 0, 7, 8, 0, 0, 0, 4, 0, 8, 0, 0, 9, 4, 0, 8, 8, 6, 0, 6, 0, 0, 99, 0, 0, 0, 0, 0, 6, 0, 0, 0, 0, 0, 99, 11, 11, 11, 11, 11]
def axt_cis_3 : List (Nat) := [11, 11, 11, 11, 11, 11, 11, 11, 11, 11, 11, 11, 11, 11, 11, 11, 11, 11, 11, 11, 11, 11, 11, 11, 11, 11, 11, 11, 11, 11, 11, 11, 11, 11, 11, 11, 11, 11, 11, 99]
def axt_cis : List (Nat) := axt_cis_0 ++ (axt_cis_1 ++ (axt_cis_2 ++ (axt_cis_3)))
def axt_y (m : Nat) : MethodName := axt_ys.getD m ⟨"", "", ""⟩
def axt_b (m : Nat) : ByteArray := axt_bs.getD m ByteArray.empty
def axt_rt (m : Nat) : Option FieldType := axt_rts.getD m none
def axt_mx (m : Nat) : Nat := axt_mxs.getD m 0
def axt_ow (m : Nat) : Nat := axt_ows.getD m 0
def axt_on (o : Nat) : String := axt_ons.getD o ""
def axt_ci (m : Nat) : Nat := axt_cis.getD m 99
def axt_T0 : u_T := fun k => match k with
  | 0 => ("StripedStore", "ranks", "LStripedStore$Ranks;", true)
  | 1 => ("StripedStore", "net", "LStripedStore$Net;", true)
  | 2 => ("StripedStore", "askers", "LStripedStore$Askers;", true)
  | 3 => ("StripedStore", "nodes", "[LStripedStore$Node;", true)
  | 4 => ("StripedStore", "table", "LStripedStore$Table;", true)
  | 5 => ("StripedStore", "order", "[I", true)
  | 6 => ("StripedStore", "seenAt", "[I", true)
  | 7 => ("StripedStore", "bytes", "I", false)
  | 8 => ("StripedStore", "laid", "I", false)
  | 9 => ("StripedStore", "replaced", "I", false)
  | _ => ("StripedStore", "calm", "Z", false)
def axt_F0 : Nat → FieldType := fun k => match k with
  | 0 => .object "StripedStore$Ranks"
  | 1 => .object "StripedStore$Net"
  | 2 => .object "StripedStore$Askers"
  | 3 => .array (.object "StripedStore$Node")
  | 4 => .object "StripedStore$Table"
  | 5 => .array .int
  | 6 => .array .int
  | 7 => .int
  | 8 => .int
  | 9 => .int
  | _ => .boolean
def axt_T1 : u_T := fun k => match k with
  | 0 => ("StripedStore$Net", "way", "[LStripedStore$Message;", true)
  | 1 => ("StripedStore$Net", "count", "I", false)
  | 2 => ("StripedStore$Net", "taken", "LStripedStore$Message;", false)
  | _ => ("StripedStore$Net", "lost", "LStripedStore$Message;", true)
def axt_F1 : Nat → FieldType := fun k => match k with
  | 0 => .array (.object "StripedStore$Message")
  | 1 => .int
  | 2 => .object "StripedStore$Message"
  | _ => .object "StripedStore$Message"
def axt_T2 : u_T := fun k => match k with
  | 0 => ("StripedStore$Message", "kind", "I", false)
  | 1 => ("StripedStore$Message", "from", "I", false)
  | 2 => ("StripedStore$Message", "to", "I", false)
  | 3 => ("StripedStore$Message", "epoch", "I", false)
  | 4 => ("StripedStore$Message", "set", "I", false)
  | 5 => ("StripedStore$Message", "tag", "I", false)
  | 6 => ("StripedStore$Message", "value", "I", false)
  | 7 => ("StripedStore$Message", "count", "I", false)
  | _ => ("StripedStore$Message", "body", "[I", true)
def axt_F2 : Nat → FieldType := fun k => match k with
  | 0 => .int
  | 1 => .int
  | 2 => .int
  | 3 => .int
  | 4 => .int
  | 5 => .int
  | 6 => .int
  | 7 => .int
  | _ => .array .int
def axt_T3 : u_T := fun k => match k with
  | 0 => ("StripedStore$Ranks", "nodes", "I", true)
  | 1 => ("StripedStore$Ranks", "copies", "I", true)
  | 2 => ("StripedStore$Ranks", "groups", "I", true)
  | _ => ("StripedStore$Ranks", "order", "[I", true)
def axt_F3 : Nat → FieldType := fun k => match k with
  | 0 => .int
  | 1 => .int
  | 2 => .int
  | _ => .array .int
def axt_T4 : u_T := fun k => match k with
  | 0 => ("StripedStore$Askers", "ranks", "LStripedStore$Ranks;", true)
  | 1 => ("StripedStore$Askers", "net", "LStripedStore$Net;", true)
  | 2 => ("StripedStore$Askers", "tape", "[I", true)
  | 3 => ("StripedStore$Askers", "length", "I", false)
  | 4 => ("StripedStore$Askers", "names", "[I", true)
  | 5 => ("StripedStore$Askers", "nameLength", "[I", true)
  | 6 => ("StripedStore$Askers", "asked", "[LStripedStore$Asked;", true)
  | 7 => ("StripedStore$Askers", "answers", "[I", true)
  | 8 => ("StripedStore$Askers", "begun", "I", false)
  | 9 => ("StripedStore$Askers", "heard", "I", false)
  | 10 => ("StripedStore$Askers", "settled", "I", false)
  | 11 => ("StripedStore$Askers", "since", "I", false)
  | 12 => ("StripedStore$Askers", "effect", "I", false)
  | 13 => ("StripedStore$Askers", "epoch", "I", false)
  | 14 => ("StripedStore$Askers", "set", "I", false)
  | _ => ("StripedStore$Askers", "mapHeard", "I", false)
def axt_F4 : Nat → FieldType := fun k => match k with
  | 0 => .object "StripedStore$Ranks"
  | 1 => .object "StripedStore$Net"
  | 2 => .array .int
  | 3 => .int
  | 4 => .array .int
  | 5 => .array .int
  | 6 => .array (.object "StripedStore$Asked")
  | 7 => .array .int
  | 8 => .int
  | 9 => .int
  | 10 => .int
  | 11 => .int
  | 12 => .int
  | 13 => .int
  | 14 => .int
  | _ => .int
def axt_T5 : u_T := fun k => match k with
  | 0 => ("StripedStore$Asked", "kind", "I", false)
  | 1 => ("StripedStore$Asked", "a", "I", false)
  | 2 => ("StripedStore$Asked", "b", "I", false)
  | 3 => ("StripedStore$Asked", "length0", "I", false)
  | 4 => ("StripedStore$Asked", "length1", "I", false)
  | 5 => ("StripedStore$Asked", "length", "I", false)
  | 6 => ("StripedStore$Asked", "toldLength", "I", false)
  | _ => ("StripedStore$Asked", "words", "[I", true)
def axt_F5 : Nat → FieldType := fun k => match k with
  | 0 => .int
  | 1 => .int
  | 2 => .int
  | 3 => .int
  | 4 => .int
  | 5 => .int
  | 6 => .int
  | _ => .array .int
def axt_T6 : u_T := fun k => match k with
  | 0 => ("StripedStore$Table", "groups", "I", true)
  | 1 => ("StripedStore$Table", "id", "[I", true)
  | 2 => ("StripedStore$Table", "size", "[I", true)
  | 3 => ("StripedStore$Table", "nameLength", "[I", true)
  | 4 => ("StripedStore$Table", "names", "[I", true)
  | 5 => ("StripedStore$Table", "fileOf", "[I", true)
  | 6 => ("StripedStore$Table", "version", "[I", true)
  | 7 => ("StripedStore$Table", "holders", "[I", true)
  | 8 => ("StripedStore$Table", "known", "J", false)
  | 9 => ("StripedStore$Table", "files", "I", false)
  | _ => ("StripedStore$Table", "answer", "I", false)
def axt_F6 : Nat → FieldType := fun k => match k with
  | 0 => .int
  | 1 => .array .int
  | 2 => .array .int
  | 3 => .array .int
  | 4 => .array .int
  | 5 => .array .int
  | 6 => .array .int
  | 7 => .array .int
  | 8 => .long
  | 9 => .int
  | _ => .int
def axt_T7 : u_T := fun k => match k with
  | 0 => ("StripedStore$Node", "number", "I", true)
  | 1 => ("StripedStore$Node", "ranks", "LStripedStore$Ranks;", true)
  | 2 => ("StripedStore$Node", "net", "LStripedStore$Net;", true)
  | 3 => ("StripedStore$Node", "disk", "LStripedStore$Disk;", true)
  | 4 => ("StripedStore$Node", "leader", "LStripedStore$Leader;", true)
  | 5 => ("StripedStore$Node", "tags", "[I", true)
  | 6 => ("StripedStore$Node", "up", "Z", false)
  | 7 => ("StripedStore$Node", "epoch", "I", false)
  | _ => ("StripedStore$Node", "set", "I", false)
def axt_F7 : Nat → FieldType := fun k => match k with
  | 0 => .int
  | 1 => .object "StripedStore$Ranks"
  | 2 => .object "StripedStore$Net"
  | 3 => .object "StripedStore$Disk"
  | 4 => .object "StripedStore$Leader"
  | 5 => .array .int
  | 6 => .boolean
  | 7 => .int
  | _ => .int
def axt_T8 : u_T := fun k => match k with
  | 0 => ("StripedStore$Disk", "flushed", "[I", true)
  | 1 => ("StripedStore$Disk", "fresh", "[I", true)
  | 2 => ("StripedStore$Disk", "slotOf", "[I", true)
  | 3 => ("StripedStore$Disk", "freshOf", "[I", true)
  | _ => ("StripedStore$Disk", "count", "I", false)
def axt_F8 : Nat → FieldType := fun k => match k with
  | 0 => .array .int
  | 1 => .array .int
  | 2 => .array .int
  | 3 => .array .int
  | _ => .int
def axt_T9 : u_T := fun k => match k with
  | 0 => ("StripedStore$Leader", "me", "I", true)
  | 1 => ("StripedStore$Leader", "ranks", "LStripedStore$Ranks;", true)
  | 2 => ("StripedStore$Leader", "net", "LStripedStore$Net;", true)
  | 3 => ("StripedStore$Leader", "table", "LStripedStore$Table;", true)
  | 4 => ("StripedStore$Leader", "work", "LStripedStore$Work;", true)
  | 5 => ("StripedStore$Leader", "masks", "[I", true)
  | 6 => ("StripedStore$Leader", "spare", "[I", true)
  | 7 => ("StripedStore$Leader", "epoch", "I", false)
  | 8 => ("StripedStore$Leader", "set", "I", false)
  | 9 => ("StripedStore$Leader", "heard", "I", false)
  | 10 => ("StripedStore$Leader", "clean", "I", false)
  | 11 => ("StripedStore$Leader", "asked", "J", false)
  | 12 => ("StripedStore$Leader", "nextItem", "I", false)
  | 13 => ("StripedStore$Leader", "turn", "I", false)
  | _ => ("StripedStore$Leader", "mended", "Z", false)
def axt_F9 : Nat → FieldType := fun k => match k with
  | 0 => .int
  | 1 => .object "StripedStore$Ranks"
  | 2 => .object "StripedStore$Net"
  | 3 => .object "StripedStore$Table"
  | 4 => .object "StripedStore$Work"
  | 5 => .array .int
  | 6 => .array .int
  | 7 => .int
  | 8 => .int
  | 9 => .int
  | 10 => .int
  | 11 => .long
  | 12 => .int
  | 13 => .int
  | _ => .boolean
def axt_T10 : u_T := fun k => match k with
  | 0 => ("StripedStore$Work", "table", "LStripedStore$Table;", true)
  | 1 => ("StripedStore$Work", "asked", "LStripedStore$Asked;", true)
  | 2 => ("StripedStore$Work", "blocks", "[I", true)
  | 3 => ("StripedStore$Work", "step", "I", false)
  | 4 => ("StripedStore$Work", "op", "I", false)
  | 5 => ("StripedStore$Work", "answer", "I", false)
  | 6 => ("StripedStore$Work", "before", "I", false)
  | 7 => ("StripedStore$Work", "file", "I", false)
  | 8 => ("StripedStore$Work", "other", "I", false)
  | 9 => ("StripedStore$Work", "span", "I", false)
  | 10 => ("StripedStore$Work", "first", "I", false)
  | 11 => ("StripedStore$Work", "count", "I", false)
  | 12 => ("StripedStore$Work", "lacks", "I", false)
  | 13 => ("StripedStore$Work", "renewed", "I", false)
  | _ => ("StripedStore$Work", "renewedToo", "I", false)
def axt_F10 : Nat → FieldType := fun k => match k with
  | 0 => .object "StripedStore$Table"
  | 1 => .object "StripedStore$Asked"
  | 2 => .array .int
  | 3 => .int
  | 4 => .int
  | 5 => .int
  | 6 => .int
  | 7 => .int
  | 8 => .int
  | 9 => .int
  | 10 => .int
  | 11 => .int
  | 12 => .int
  | 13 => .int
  | _ => .int
def axt_T11 : u_T := fun k => match k with
  | 0 => ("StripedStoreModel", "nodes", "I", true)
  | 1 => ("StripedStoreModel", "copies", "I", true)
  | 2 => ("StripedStoreModel", "groups", "I", true)
  | 3 => ("StripedStoreModel", "up", "I", false)
  | 4 => ("StripedStoreModel", "inside", "I", false)
  | 5 => ("StripedStoreModel", "epoch", "I", false)
  | 6 => ("StripedStoreModel", "replaced", "I", false)
  | 7 => ("StripedStoreModel", "calm", "Z", false)
  | 8 => ("StripedStoreModel", "tape", "[B", true)
  | 9 => ("StripedStoreModel", "tapeLength", "I", false)
  | 10 => ("StripedStoreModel", "names", "[B", true)
  | 11 => ("StripedStoreModel", "nameLength", "[I", true)
  | 12 => ("StripedStoreModel", "order", "[I", true)
  | 13 => ("StripedStoreModel", "used", "[Z", true)
  | 14 => ("StripedStoreModel", "fileName", "[B", true)
  | 15 => ("StripedStoreModel", "fileNameLength", "[I", true)
  | 16 => ("StripedStoreModel", "fileId", "[I", true)
  | 17 => ("StripedStoreModel", "fileSize", "[I", true)
  | 18 => ("StripedStoreModel", "bytes", "[B", true)
  | 19 => ("StripedStoreModel", "laid", "[Z", true)
  | 20 => ("StripedStoreModel", "files", "I", false)
  | 21 => ("StripedStoreModel", "total", "I", false)
  | 22 => ("StripedStoreModel", "settledFiles", "I", false)
  | 23 => ("StripedStoreModel", "settledBytes", "I", false)
  | 24 => ("StripedStoreModel", "settledStripes", "I", false)
  | 25 => ("StripedStoreModel", "operations", "I", false)
  | 26 => ("StripedStoreModel", "waiting", "I", false)
  | 27 => ("StripedStoreModel", "kind", "[I", true)
  | 28 => ("StripedStoreModel", "first", "[I", true)
  | 29 => ("StripedStoreModel", "second", "[I", true)
  | 30 => ("StripedStoreModel", "opNames", "[B", true)
  | 31 => ("StripedStoreModel", "opNameLength", "[I", true)
  | 32 => ("StripedStoreModel", "opTape", "[B", true)
  | 33 => ("StripedStoreModel", "opTapeLength", "[I", true)
  | 34 => ("StripedStoreModel", "answers", "[I", false)
  | 35 => ("StripedStoreModel", "told", "[I", true)
  | 36 => ("StripedStoreModel", "toldLength", "[I", true)
  | 37 => ("StripedStoreModel", "toldFirst", "I", false)
  | _ => ("StripedStoreModel", "toldCount", "I", false)
def axt_F11 : Nat → FieldType := fun k => match k with
  | 0 => .int
  | 1 => .int
  | 2 => .int
  | 3 => .int
  | 4 => .int
  | 5 => .int
  | 6 => .int
  | 7 => .boolean
  | 8 => .array .byte
  | 9 => .int
  | 10 => .array .byte
  | 11 => .array .int
  | 12 => .array .int
  | 13 => .array .boolean
  | 14 => .array .byte
  | 15 => .array .int
  | 16 => .array .int
  | 17 => .array .int
  | 18 => .array .byte
  | 19 => .array .boolean
  | 20 => .int
  | 21 => .int
  | 22 => .int
  | 23 => .int
  | 24 => .int
  | 25 => .int
  | 26 => .int
  | 27 => .array .int
  | 28 => .array .int
  | 29 => .array .int
  | 30 => .array .byte
  | 31 => .array .int
  | 32 => .array .byte
  | 33 => .array .int
  | 34 => .array .int
  | 35 => .array .int
  | 36 => .array .int
  | 37 => .int
  | _ => .int
def axt_cl : List vw_C := [("StripedStore", axt_T0, 11), ("StripedStore$Net", axt_T1, 4), ("StripedStore$Message", axt_T2, 9), ("StripedStore$Ranks", axt_T3, 4), ("StripedStore$Askers", axt_T4, 16), ("StripedStore$Asked", axt_T5, 8), ("StripedStore$Table", axt_T6, 11), ("StripedStore$Node", axt_T7, 9), ("StripedStore$Disk", axt_T8, 5), ("StripedStore$Leader", axt_T9, 15), ("StripedStore$Work", axt_T10, 15), ("StripedStoreModel", axt_T11, 39)]
def axt_fty (c k : Nat) : FieldType := match c with
  | 0 => axt_F0 k
  | 1 => axt_F1 k
  | 2 => axt_F2 k
  | 3 => axt_F3 k
  | 4 => axt_F4 k
  | 5 => axt_F5 k
  | 6 => axt_F6 k
  | 7 => axt_F7 k
  | 8 => axt_F8 k
  | 9 => axt_F9 k
  | 10 => axt_F10 k
  | _ => axt_F11 k
def axt_dfs : List (List Value) := [[.null, .null, .null, .null, .null, .null, .null, .int 0, .int 0, .int 0, .int 0], [.null, .int 0, .null, .null], [.int 0, .int 0, .int 0, .int 0, .int 0, .int 0, .int 0, .int 0, .null], [.int 0, .int 0, .int 0, .null], [.null, .null, .null, .int 0, .null, .null, .null, .null, .int 0, .int 0, .int 0, .int 0, .int 0, .int 0, .int 0, .int 0], [.int 0, .int 0, .int 0, .int 0, .int 0, .int 0, .int 0, .null], [.int 0, .null, .null, .null, .null, .null, .null, .null, .long 0, .int 0, .int 0], [.int 0, .null, .null, .null, .null, .null, .int 0, .int 0, .int 0], [.null, .null, .null, .null, .int 0], [.int 0, .null, .null, .null, .null, .null, .null, .int 0, .int 0, .int 0, .int 0, .long 0, .int 0, .int 0, .int 0], [.null, .null, .null, .int 0, .int 0, .int 0, .int 0, .int 0, .int 0, .int 0, .int 0, .int 0, .int 0, .int 0, .int 0], [.int 0, .int 0, .int 0, .int 0, .int 0, .int 0, .int 0, .int 0, .null, .int 0, .null, .null, .null, .null, .null, .null, .null, .null, .null, .null, .int 0, .int 0, .int 0, .int 0, .int 0, .int 0, .int 0, .null, .null, .null, .null, .null, .null, .null, .null, .null, .null, .int 0, .int 0]]
def axt_df (c : Nat) : List Value := axt_dfs.getD c []
def axt_N (c : Nat) : Nat := (axt_df c).length
def axt_tys : List FieldType := [.int, .byte, .boolean, .object "StripedStore$Message", .object "StripedStore$Asked", .object "StripedStore$Node"]
def axt_ecs : List (Nat × Nat) := [(3, 2), (4, 5), (5, 7)]
def axt_ec (t : Nat) : Option Nat := ax_fnd axt_ecs t
def axt_ao : List String := ["StripedStore$Message", "StripedStore$Asked", "StripedStore$Node"]
def axt_nf : List (String × Nat × String × String × String × String) := []
def axt_nm : List (String × Nat × MethodName × String) := [("StripedStore$Net", 17, ⟨"StripedStore$Message", "<init>", "()V"⟩, "StripedStore"), ("StripedStore$Askers", 56, ⟨"StripedStore$Asked", "<init>", "()V"⟩, "StripedStore"), ("StripedStore$Work", 11, ⟨"StripedStore$Asked", "<init>", "()V"⟩, "StripedStore")]
def axt_fls : List (List (Nat × Nat × Nat × Nat)) := [[(273, 2, 2, 120), (123, 1, 0, 167), (106, 1, 1, 169), (58, 3, 0, 205), (147, 3, 1, 209), (47, 3, 2, 212), (180, 5, 6, 255), (185, 5, 7, 260), (79, 4, 3, 281), (176, 4, 6, 286), (170, 4, 7, 288), (93, 4, 8, 290), (286, 4, 9, 292), (96, 4, 10, 293), (173, 4, 11, 296), (69, 4, 13, 299), (72, 4, 14, 301), (289, 4, 15, 303), (200, 6, 1, 352), (197, 6, 2, 355), (203, 6, 3, 358), (253, 6, 6, 364), (241, 6, 7, 367), (194, 6, 9, 371), (230, 8, 0, 414), (292, 8, 4, 420), (150, 7, 3, 551), (293, 7, 4, 553), (131, 7, 6, 556), (32, 0, 0, 657), (12, 0, 1, 658), (41, 0, 2, 659), (63, 0, 3, 660), (54, 0, 4, 661), (16, 0, 5, 662), (20, 0, 6, 663), (261, 0, 7, 664), (264, 0, 8, 665), (144, 0, 9, 666), (99, 0, 10, 667)],
  [],
  [(29, 2, 0, 111), (32, 2, 1, 115), (35, 2, 2, 119), (38, 2, 3, 121), (41, 2, 4, 124), (44, 2, 5, 127), (47, 2, 6, 132), (50, 2, 7, 137), (11, 1, 0, 166), (25, 1, 1, 168), (18, 1, 2, 170), (22, 1, 3, 171)],
  [(9, 2, 8, 141)],
  [],
  [(9, 3, 0, 203), (15, 3, 1, 208), (18, 3, 2, 210), (21, 3, 3, 213)],
  [(137, 2, 0, 114), (139, 2, 1, 118), (138, 2, 3, 123), (122, 2, 5, 128), (127, 2, 6, 133), (142, 2, 7, 138), (145, 2, 8, 143), (45, 3, 0, 204), (78, 5, 0, 238), (81, 5, 1, 240), (84, 5, 2, 243), (87, 5, 3, 247), (90, 5, 4, 250), (93, 5, 5, 252), (94, 5, 6, 254), (97, 5, 7, 258), (37, 4, 0, 278), (41, 4, 1, 279), (9, 4, 2, 280), (57, 4, 3, 282), (15, 4, 4, 283), (18, 4, 5, 284), (23, 4, 6, 285), (27, 4, 7, 287), (75, 4, 8, 289), (106, 4, 9, 291), (152, 4, 10, 294), (155, 4, 11, 295), (30, 4, 12, 297), (34, 4, 13, 298), (50, 4, 14, 300), (53, 4, 15, 302)],
  [(19, 2, 7, 136), (24, 2, 8, 142), (27, 5, 0, 236), (30, 5, 1, 239), (33, 5, 2, 242), (36, 5, 3, 245), (39, 5, 4, 248), (15, 5, 5, 251), (9, 5, 7, 256)],
  [(33, 6, 0, 350), (9, 6, 1, 351), (15, 6, 2, 353), (18, 6, 3, 356), (21, 6, 4, 359), (24, 6, 5, 360), (27, 6, 6, 361), (30, 6, 7, 365), (46, 6, 8, 368), (50, 6, 9, 369), (53, 6, 10, 373)],
  [],
  [(119, 2, 0, 113), (131, 2, 1, 117), (115, 2, 3, 122), (118, 2, 4, 125), (137, 2, 5, 129), (144, 2, 6, 134), (163, 2, 7, 139), (160, 2, 8, 144), (122, 3, 0, 207), (167, 8, 0, 413), (166, 8, 4, 419), (22, 7, 0, 547), (26, 7, 1, 548), (30, 7, 2, 549), (12, 7, 3, 550), (39, 7, 4, 552), (18, 7, 5, 554), (49, 7, 6, 555), (88, 7, 7, 557), (91, 7, 8, 558)],
  [(10, 8, 0, 412), (16, 8, 1, 415), (19, 8, 2, 416), (22, 8, 3, 417), (35, 8, 4, 418)],
  [(120, 2, 0, 112), (129, 2, 1, 116), (195, 2, 5, 130), (201, 2, 6, 135), (208, 2, 7, 140), (219, 2, 8, 145), (98, 3, 0, 206), (32, 3, 2, 211), (214, 5, 7, 259), (174, 6, 6, 363), (177, 6, 7, 366), (211, 10, 1, 450), (180, 10, 2, 452), (72, 10, 3, 454), (75, 10, 4, 456), (198, 10, 5, 458), (151, 10, 12, 466), (18, 9, 0, 500), (22, 9, 1, 501), (26, 9, 2, 502), (40, 9, 3, 503), (49, 9, 4, 504), (9, 9, 5, 505), (15, 9, 6, 506), (56, 9, 7, 507), (59, 9, 8, 508), (78, 9, 9, 509), (81, 9, 10, 510), (84, 9, 11, 511), (88, 9, 12, 512), (91, 9, 13, 513), (94, 9, 14, 514)],
  [(30, 2, 5, 126), (38, 2, 6, 131), (91, 5, 0, 237), (126, 5, 1, 241), (132, 5, 2, 244), (81, 5, 3, 246), (98, 5, 4, 249), (146, 5, 5, 253), (78, 5, 7, 257), (116, 6, 2, 354), (143, 6, 3, 357), (48, 6, 6, 362), (119, 6, 9, 370), (74, 6, 10, 372), (26, 10, 0, 448), (12, 10, 1, 449), (18, 10, 2, 451), (35, 10, 3, 453), (22, 10, 4, 455), (77, 10, 5, 457), (41, 10, 6, 459), (88, 10, 7, 460), (101, 10, 8, 461), (62, 10, 9, 462), (153, 10, 10, 463), (65, 10, 11, 464), (59, 10, 12, 465), (68, 10, 13, 467), (71, 10, 14, 468)],
  [],
  [],
  [],
  [],
  [(80, 11, 0, 1289), (83, 11, 1, 1290), (86, 11, 2, 1291), (89, 11, 3, 1292), (92, 11, 4, 1293), (7, 11, 5, 1294), (119, 11, 6, 1295), (108, 11, 7, 1296), (13, 11, 8, 1297), (95, 11, 9, 1298), (17, 11, 10, 1299), (20, 11, 11, 1300), (24, 11, 12, 1301), (27, 11, 13, 1302), (31, 11, 14, 1303), (34, 11, 15, 1304), (37, 11, 16, 1305), (40, 11, 17, 1306), (44, 11, 18, 1307), (47, 11, 19, 1308), (122, 11, 20, 1309), (136, 11, 21, 1310), (183, 11, 22, 1311), (186, 11, 23, 1312), (189, 11, 24, 1313), (105, 11, 25, 1314), (102, 11, 26, 1315), (50, 11, 27, 1316), (53, 11, 28, 1317), (56, 11, 29, 1318), (59, 11, 30, 1319), (62, 11, 31, 1320), (65, 11, 32, 1321), (68, 11, 33, 1322), (71, 11, 34, 1323), (74, 11, 35, 1324), (77, 11, 36, 1325), (174, 11, 37, 1326), (177, 11, 38, 1327)]]
def axt_fld (o i : Nat) : Option (Nat × Nat) := (ax_fnd (axt_fls.getD o []) i).map fun e => (e.1, e.2.1)
def axt_nws : List (List (Nat × Nat × Nat × Nat × Nat)) := [[(9, 1, 98, 99, 73), (23, 3, 181, 182, 75), (36, 4, 223, 224, 77), (45, 6, 337, 338, 79), (61, 7, 397, 399, 81)], [], [(9, 2, 104, 106, 74)], [], [], [], [(21, 5, 229, 231, 78)], [], [], [], [(9, 8, 404, 405, 82), (34, 9, 432, 433, 83)], [], [(30, 6, 438, 338, 79), (44, 10, 440, 441, 84)], [(9, 5, 446, 231, 78)], [], [], [], [(7, 0, 90, 91, 72), (18, 11, 1282, 1283, 86)], []]
def axt_new (o i : Nat) : Option Nat := (ax_fnd (axt_nws.getD o []) i).map fun e => e.1
def axt_aws : List (List (Nat × Nat × Nat)) := [[(61, 5, 397)], [], [(9, 3, 104)], [], [], [], [(21, 4, 229)], [], [], [], [], [], [], [], [], [], [], [], []]
def axt_anw (o i : Nat) : Option Nat := (ax_fnd (axt_aws.getD o []) i).map fun e => e.1
def axt_css : List (List (Nat × Int32 × Nat)) := [[(127, 1103515245, 1090), (163, 1000000, 1181)], [], [], [], [], [(29, 40503, 199), (30, 73244475, 200), (31, 19349663, 201), (32, 2147483647, 202)], [], [], [], [], [], [(9, 35840, 410)], [], [(104, 32768, 947)], [(17, -2147483648, 939)], [], [(265, 1431655765, 1126), (266, 858993459, 1127), (267, 252645135, 1128)], [], [(43, 393216, 1288), (143, 32768, 1501), (195, 40503, 1561), (196, 73244475, 1562), (197, 19349663, 1563), (198, 2147483647, 1564)]]
def axt_cst (o i : Nat) : Option Int32 := (ax_fnd (axt_css.getD o []) i).map fun e => e.1
def axt_csls : List (List (Nat × Int64 × Nat)) := [[], [], [], [], [], [], [], [], [(77, -1, 1008)], [], [], [], [], [], [], [(314, 6148914691236517205, 842), (316, 3689348814741910323, 843), (318, 1085102592571150095, 844)], [], [], []]
def axt_cstl (o i : Nat) : Option Int64 := (ax_fnd (axt_csls.getD o []) i).map fun e => e.1
def axt_mt_0_0 : List (Nat × Nat × Nat × Nat × Nat × Nat × Nat × Nat) := [(3, 3, 0, 0, 95, 96, 0, 0), (11, 1, 2, 0, 100, 101, 0, 73), (25, 0, 4, 3, 183, 184, 0, 72), (221, 5, 0, 0, 186, 187, 0, 0), (270, 4, 0, 0, 189, 190, 0, 0), (29, 1, 7, 3, 192, 193, 0, 75), (38, 1, 9, 2, 225, 226, 0, 77), (51, 1, 11, 1, 339, 340, 0, 79)]
def axt_mt_0_1 : List (Nat × Nat × Nat × Nat × Nat × Nat × Nat × Nat) := [(66, 1, 14, 3, 400, 401, 0, 81), (75, 2, 18, 2, 578, 579, 580, 81), (82, 2, 38, 1, 695, 696, 697, 77), (85, 2, 42, 1, 710, 711, 712, 77), (89, 2, 45, 3, 723, 724, 725, 77), (103, 2, 46, 3, 727, 728, 729, 77), (109, 0, 50, 2, 747, 748, 0, 76), (115, 2, 51, 1, 750, 751, 752, 73)]
def axt_mt_0_2 : List (Nat × Nat × Nat × Nat × Nat × Nat × Nat × Nat) := [(119, 2, 52, 1, 754, 756, 7, 72), (278, 2, 53, 1, 758, 759, 760, 77), (281, 2, 55, 1, 766, 767, 768, 81), (128, 2, 133, 0, 1095, 1097, 40, 72), (282, 2, 134, 0, 1099, 1100, 1101, 77), (285, 2, 136, 0, 1107, 1108, 1109, 81), (134, 2, 142, 2, 1133, 1134, 1135, 81), (137, 2, 146, 0, 1152, 1154, 44, 72)]
def axt_mt_0_3 : List (Nat × Nat × Nat × Nat × Nat × Nat × Nat × Nat) := [(141, 2, 147, 1, 1156, 1157, 1158, 77), (154, 2, 149, 0, 1164, 1165, 1166, 82), (159, 2, 151, 0, 1172, 1174, 45, 72), (215, 2, 31, 3, 1176, 632, 633, 75), (297, 2, 152, 0, 1177, 1178, 1179, 83), (164, 2, 153, 0, 1182, 1183, 1184, 77), (167, 2, 154, 0, 1186, 1188, 46, 72), (302, 2, 12, 0, 1190, 344, 345, 79)]
def axt_mt_0_4 : List (Nat × Nat × Nat × Nat × Nat × Nat × Nat × Nat) := [(305, 2, 155, 0, 1191, 1192, 1193, 82), (308, 2, 84, 2, 1198, 885, 886, 79), (224, 2, 116, 1, 1199, 1026, 1027, 79), (227, 2, 156, 1, 1200, 1201, 1202, 82), (311, 2, 85, 2, 1204, 892, 893, 79), (206, 2, 157, 1, 1205, 1206, 1207, 79), (314, 2, 158, 1, 1209, 1211, 47, 72), (317, 2, 159, 2, 1213, 1214, 1215, 79)]
def axt_mt_0_5 : List (Nat × Nat × Nat × Nat × Nat × Nat × Nat × Nat) := [(188, 0, 162, 2, 1225, 1226, 0, 87), (209, 2, 165, 2, 1236, 1238, 48, 72), (212, 2, 75, 1, 1240, 850, 851, 79), (218, 2, 164, 3, 1245, 1233, 1234, 72), (233, 2, 20, 1, 1250, 587, 588, 82), (237, 2, 21, 1, 1251, 591, 592, 82), (238, 0, 168, 1, 1252, 1253, 0, 79), (244, 0, 13, 2, 1259, 348, 0, 80)]
def axt_mt_0_6 : List (Nat × Nat × Nat × Nat × Nat × Nat × Nat × Nat) := [(250, 2, 170, 1, 1260, 1262, 49, 72), (320, 2, 77, 1, 1264, 858, 859, 79), (323, 2, 34, 2, 1265, 645, 646, 75), (326, 2, 171, 2, 1266, 1268, 50, 72), (256, 0, 140, 1, 1270, 1124, 0, 89), (267, 2, 173, 0, 1275, 1277, 51, 72)]
def axt_mt_1_0 : List (Nat × Nat × Nat × Nat × Nat × Nat × Nat × Nat) := []
def axt_mt_2_0 : List (Nat × Nat × Nat × Nat × Nat × Nat × Nat × Nat) := [(3, 3, 0, 0, 103, 96, 0, 0), (17, 1, 3, 0, 1000000, 108, 0, 74)]
def axt_mt_3_0 : List (Nat × Nat × Nat × Nat × Nat × Nat × Nat × Nat) := [(3, 3, 0, 0, 110, 96, 0, 0)]
def axt_mt_4_0 : List (Nat × Nat × Nat × Nat × Nat × Nat × Nat × Nat) := []
def axt_mt_5_0 : List (Nat × Nat × Nat × Nat × Nat × Nat × Nat × Nat) := [(3, 3, 0, 0, 195, 96, 0, 0), (25, 0, 8, 2, 196, 197, 0, 75)]
def axt_mt_6_0 : List (Nat × Nat × Nat × Nat × Nat × Nat × Nat × Nat) := [(3, 3, 0, 0, 228, 96, 0, 0), (60, 0, 39, 3, 699, 700, 0, 87), (65, 0, 27, 4, 714, 618, 0, 80), (71, 0, 43, 5, 715, 716, 0, 87), (100, 6, 0, 0, 731, 607, 0, 0), (109, 2, 47, 0, 732, 734, 6, 77), (112, 2, 31, 3, 736, 632, 633, 75), (116, 2, 36, 5, 737, 653, 654, 73)]
def axt_mt_6_1 : List (Nat × Nat × Nat × Nat × Nat × Nat × Nat × Nat) := [(130, 2, 48, 1, 738, 739, 740, 78), (148, 2, 54, 0, 762, 763, 764, 78), (134, 2, 135, 0, 1103, 1105, 41, 77), (56, 1, 10, 0, 1000001, 233, 0, 78)]
def axt_mt_7_0 : List (Nat × Nat × Nat × Nat × Nat × Nat × Nat × Nat) := [(3, 3, 0, 0, 235, 96, 0, 0), (42, 6, 0, 0, 742, 607, 0, 0)]
def axt_mt_8_0 : List (Nat × Nat × Nat × Nat × Nat × Nat × Nat × Nat) := [(3, 3, 0, 0, 342, 96, 0, 0), (37, 2, 12, 0, 343, 344, 345, 79), (40, 0, 13, 2, 347, 348, 0, 80), (56, 0, 73, 1, 839, 840, 0, 88), (79, 0, 78, 1, 888, 862, 0, 79), (83, 5, 0, 0, 889, 187, 0, 0), (89, 4, 0, 0, 890, 190, 0, 0), (96, 2, 77, 1, 895, 858, 859, 79)]
def axt_mt_8_1 : List (Nat × Nat × Nat × Nat × Nat × Nat × Nat × Nat) := [(99, 2, 81, 1, 896, 872, 873, 79), (103, 2, 86, 4, 897, 898, 899, 79), (68, 6, 0, 0, 901, 607, 0, 0), (62, 0, 95, 6, 936, 937, 0, 87), (74, 0, 27, 4, 1007, 618, 0, 80), (92, 2, 103, 3, 1036, 971, 972, 79)]
def axt_mt_9_0 : List (Nat × Nat × Nat × Nat × Nat × Nat × Nat × Nat) := [(13, 0, 28, 3, 620, 621, 0, 80)]
def axt_mt_10_0 : List (Nat × Nat × Nat × Nat × Nat × Nat × Nat × Nat) := [(3, 3, 0, 0, 403, 96, 0, 0), (11, 1, 15, 0, 406, 407, 0, 82), (36, 1, 16, 3, 434, 435, 0, 83), (43, 0, 13, 2, 546, 348, 0, 80), (53, 2, 19, 0, 582, 584, 0, 81), (66, 2, 20, 1, 586, 587, 588, 82), (70, 2, 21, 1, 590, 591, 592, 82), (74, 2, 22, 1, 594, 596, 1, 81)]
def axt_mt_10_1 : List (Nat × Nat × Nat × Nat × Nat × Nat × Nat × Nat) := [(77, 2, 23, 0, 598, 599, 600, 82), (81, 2, 24, 0, 602, 603, 604, 82), (84, 2, 25, 1, 609, 610, 611, 82), (56, 2, 29, 2, 623, 625, 3, 81), (94, 2, 30, 0, 627, 629, 4, 81), (100, 2, 31, 3, 631, 632, 633, 75), (97, 2, 32, 2, 635, 636, 637, 83), (63, 2, 33, 0, 656, 640, 641, 83)]
def axt_mt_10_2 : List (Nat × Nat × Nat × Nat × Nat × Nat × Nat × Nat) := [(125, 2, 36, 5, 770, 653, 654, 73), (134, 2, 56, 1, 771, 773, 8, 81), (157, 2, 57, 1, 775, 776, 777, 82), (140, 2, 58, 4, 779, 781, 9, 81), (170, 6, 0, 0, 783, 607, 0, 0), (147, 2, 59, 1, 784, 786, 10, 81), (106, 2, 60, 0, 788, 790, 11, 81), (184, 2, 61, 1, 792, 793, 794, 82)]
def axt_mt_10_3 : List (Nat × Nat × Nat × Nat × Nat × Nat × Nat × Nat) := [(176, 2, 62, 0, 796, 798, 12, 81), (180, 2, 63, 2, 800, 801, 802, 82), (151, 2, 66, 1, 811, 813, 14, 81), (154, 2, 67, 1, 815, 816, 817, 83), (112, 2, 91, 0, 919, 920, 921, 83), (109, 2, 137, 0, 1111, 1112, 1113, 83), (60, 2, 143, 2, 1137, 1138, 1139, 82)]
def axt_mt_11_0 : List (Nat × Nat × Nat × Nat × Nat × Nat × Nat × Nat) := [(3, 3, 0, 0, 409, 96, 0, 0), (25, 0, 13, 2, 411, 348, 0, 80), (43, 6, 0, 0, 606, 607, 0, 0), (39, 2, 26, 1, 613, 615, 2, 82), (52, 0, 27, 4, 617, 618, 0, 80), (49, 2, 64, 1, 804, 806, 13, 82), (31, 0, 65, 3, 808, 809, 0, 82), (55, 5, 0, 0, 1141, 187, 0, 0)]
def axt_mt_11_1 : List (Nat × Nat × Nat × Nat × Nat × Nat × Nat × Nat) := [(61, 4, 0, 0, 1142, 190, 0, 0), (64, 0, 43, 5, 1143, 716, 0, 87), (70, 2, 21, 1, 1195, 591, 592, 82), (77, 0, 80, 1, 1196, 869, 0, 79), (73, 2, 20, 1, 1197, 587, 588, 82)]
def axt_mt_12_0 : List (Nat × Nat × Nat × Nat × Nat × Nat × Nat × Nat) := [(3, 3, 0, 0, 437, 96, 0, 0), (37, 1, 11, 1, 439, 340, 0, 79), (46, 1, 17, 1, 442, 443, 0, 84), (53, 2, 33, 0, 639, 640, 641, 83), (69, 2, 12, 0, 643, 344, 345, 79), (62, 2, 34, 2, 644, 645, 646, 75), (66, 2, 35, 0, 648, 650, 5, 83), (101, 2, 36, 5, 652, 653, 654, 73)]
def axt_mt_12_1 : List (Nat × Nat × Nat × Nat × Nat × Nat × Nat × Nat) := [(125, 2, 68, 1, 819, 820, 821, 84), (132, 2, 70, 1, 827, 829, 15, 83), (110, 2, 71, 0, 831, 832, 833, 84), (114, 2, 72, 0, 835, 836, 837, 79), (192, 2, 74, 1, 845, 847, 16, 83), (170, 2, 75, 1, 849, 850, 851, 79), (251, 2, 76, 2, 853, 855, 17, 83), (189, 2, 77, 1, 857, 858, 859, 79)]
def axt_mt_12_2 : List (Nat × Nat × Nat × Nat × Nat × Nat × Nat × Nat) := [(262, 0, 78, 1, 861, 862, 0, 79), (254, 2, 79, 2, 864, 866, 18, 83), (265, 0, 80, 1, 868, 869, 0, 79), (268, 2, 81, 1, 871, 872, 873, 79), (222, 6, 0, 0, 875, 607, 0, 0), (258, 2, 82, 2, 876, 878, 19, 83), (135, 2, 83, 1, 880, 882, 20, 83), (271, 2, 84, 2, 884, 885, 886, 79)]
def axt_mt_12_3 : List (Nat × Nat × Nat × Nat × Nat × Nat × Nat × Nat) := [(275, 2, 85, 2, 891, 892, 893, 79), (278, 2, 87, 2, 902, 903, 904, 84), (138, 2, 89, 1, 911, 913, 21, 83), (141, 2, 90, 1, 915, 917, 22, 83), (144, 2, 92, 1, 923, 925, 23, 83), (148, 2, 93, 0, 927, 928, 929, 84), (154, 2, 104, 0, 974, 975, 976, 84), (157, 2, 114, 0, 1017, 1018, 1019, 84)]
def axt_mt_12_4 : List (Nat × Nat × Nat × Nat × Nat × Nat × Nat × Nat) := [(160, 2, 119, 2, 1037, 1039, 34, 83), (183, 0, 120, 2, 1041, 1042, 0, 82), (164, 2, 121, 0, 1044, 1045, 1046, 84), (167, 2, 123, 0, 1052, 1054, 35, 83), (204, 2, 124, 0, 1056, 1057, 1058, 84), (107, 2, 125, 0, 1060, 1062, 36, 83), (228, 2, 88, 1, 1064, 907, 908, 84), (231, 2, 126, 1, 1065, 1067, 37, 83)]
def axt_mt_12_5 : List (Nat × Nat × Nat × Nat × Nat × Nat × Nat × Nat) := [(237, 2, 127, 1, 1069, 1071, 38, 83), (240, 2, 116, 1, 1073, 1026, 1027, 79), (234, 2, 128, 1, 1074, 1076, 39, 83), (117, 2, 138, 0, 1115, 1117, 42, 83), (243, 2, 139, 2, 1119, 1121, 43, 83), (246, 0, 140, 1, 1123, 1124, 0, 89)]
def axt_mt_13_0 : List (Nat × Nat × Nat × Nat × Nat × Nat × Nat × Nat) := [(3, 3, 0, 0, 445, 96, 0, 0), (44, 2, 69, 1, 823, 824, 825, 78), (156, 2, 88, 1, 906, 907, 908, 84), (159, 6, 0, 0, 910, 607, 0, 0), (53, 0, 13, 2, 931, 348, 0, 80), (84, 2, 94, 3, 932, 933, 934, 79), (94, 2, 97, 2, 943, 944, 945, 79), (105, 2, 98, 0, 948, 949, 950, 79)]
def axt_mt_13_1 : List (Nat × Nat × Nat × Nat × Nat × Nat × Nat × Nat) := [(109, 2, 99, 1, 952, 954, 24, 84), (122, 2, 100, 2, 956, 958, 25, 84), (140, 4, 0, 0, 960, 190, 0, 0), (129, 2, 101, 2, 961, 963, 26, 84), (135, 5, 0, 0, 965, 187, 0, 0), (113, 2, 102, 0, 966, 968, 27, 84), (149, 2, 103, 3, 970, 971, 972, 79), (165, 2, 105, 0, 978, 980, 28, 84)]
def axt_mt_13_2 : List (Nat × Nat × Nat × Nat × Nat × Nat × Nat × Nat) := [(188, 2, 106, 1, 982, 983, 984, 79), (191, 2, 86, 4, 986, 898, 899, 79), (168, 2, 107, 1, 987, 989, 29, 84), (195, 0, 43, 5, 991, 716, 0, 87), (172, 2, 108, 0, 992, 994, 30, 84), (175, 2, 109, 0, 996, 998, 31, 84), (201, 0, 110, 3, 1000, 1001, 0, 87), (178, 2, 111, 1, 1003, 1004, 1005, 79)]
def axt_mt_13_3 : List (Nat × Nat × Nat × Nat × Nat × Nat × Nat × Nat) := [(182, 2, 112, 0, 1009, 1011, 32, 84), (185, 2, 113, 0, 1013, 1015, 33, 84), (205, 2, 115, 2, 1021, 1022, 1023, 79), (209, 2, 116, 1, 1025, 1026, 1027, 79), (212, 0, 117, 3, 1029, 1030, 0, 82), (217, 2, 118, 3, 1032, 1033, 1034, 79), (220, 2, 122, 2, 1048, 1049, 1050, 79), (11, 1, 10, 0, 1000002, 233, 0, 78)]
def axt_mt_14_0 : List (Nat × Nat × Nat × Nat × Nat × Nat × Nat × Nat) := [(9, 6, 0, 0, 718, 607, 0, 0), (18, 0, 96, 2, 940, 941, 0, 89)]
def axt_mt_15_0 : List (Nat × Nat × Nat × Nat × Nat × Nat × Nat × Nat) := []
def axt_mt_16_0 : List (Nat × Nat × Nat × Nat × Nat × Nat × Nat × Nat) := []
def axt_mt_17_0 : List (Nat × Nat × Nat × Nat × Nat × Nat × Nat × Nat) := [(15, 1, 0, 3, 92, 93, 0, 72), (21, 2, 37, 5, 691, 692, 693, 72), (26, 2, 40, 1, 702, 703, 704, 72), (31, 2, 41, 1, 706, 707, 708, 72), (35, 2, 44, 3, 719, 720, 721, 72), (40, 2, 49, 1, 743, 744, 745, 72), (45, 2, 129, 1, 1078, 1079, 1080, 72), (49, 2, 130, 1, 1082, 1083, 1084, 72)]
def axt_mt_17_1 : List (Nat × Nat × Nat × Nat × Nat × Nat × Nat × Nat) := [(53, 2, 131, 2, 1086, 1087, 1088, 72), (58, 2, 132, 1, 1091, 1092, 1093, 72), (62, 2, 141, 3, 1129, 1130, 1131, 72), (67, 2, 144, 1, 1144, 1145, 1146, 72), (72, 2, 145, 1, 1148, 1149, 1150, 72), (76, 2, 148, 1, 1160, 1161, 1162, 72), (80, 2, 150, 0, 1168, 1169, 1170, 72), (85, 2, 160, 1, 1217, 1218, 1219, 72)]
def axt_mt_17_2 : List (Nat × Nat × Nat × Nat × Nat × Nat × Nat × Nat) := [(89, 2, 161, 2, 1221, 1222, 1223, 72), (93, 2, 163, 2, 1228, 1229, 1230, 72), (97, 2, 164, 3, 1232, 1233, 1234, 72), (101, 2, 166, 4, 1241, 1242, 1243, 72), (106, 2, 167, 1, 1246, 1247, 1248, 72), (110, 2, 169, 0, 1255, 1256, 1257, 72), (114, 2, 172, 1, 1271, 1272, 1273, 72), (9, 0, 174, 2, 1279, 1280, 0, 71)]
def axt_mt_17_3 : List (Nat × Nat × Nat × Nat × Nat × Nat × Nat × Nat) := [(20, 1, 175, 3, 1284, 1285, 0, 86), (25, 2, 176, 5, 1409, 1410, 1411, 86), (30, 2, 178, 1, 1417, 1418, 1419, 86), (34, 2, 179, 1, 1421, 1422, 1423, 86), (39, 2, 180, 3, 1425, 1426, 1427, 86), (44, 2, 181, 1, 1429, 1430, 1431, 86), (48, 2, 182, 1, 1433, 1434, 1435, 86), (52, 2, 183, 1, 1437, 1438, 1439, 86)]
def axt_mt_17_4 : List (Nat × Nat × Nat × Nat × Nat × Nat × Nat × Nat) := [(57, 2, 184, 2, 1441, 1442, 1443, 86), (61, 2, 185, 1, 1445, 1446, 1447, 86), (66, 2, 186, 3, 1449, 1450, 1451, 86), (71, 2, 188, 1, 1457, 1458, 1459, 86), (75, 2, 190, 1, 1465, 1466, 1467, 86), (79, 2, 191, 1, 1469, 1470, 1471, 86), (84, 2, 192, 0, 1473, 1474, 1475, 86), (88, 2, 208, 1, 1538, 1539, 1540, 86)]
def axt_mt_17_5 : List (Nat × Nat × Nat × Nat × Nat × Nat × Nat × Nat) := [(92, 2, 209, 2, 1542, 1543, 1544, 86), (96, 2, 210, 2, 1546, 1547, 1548, 86), (100, 2, 211, 3, 1550, 1551, 1552, 86), (105, 2, 214, 4, 1565, 1566, 1567, 86), (109, 2, 215, 1, 1570, 1571, 1572, 86), (113, 2, 216, 0, 1574, 1575, 1576, 86), (117, 2, 217, 1, 1578, 1579, 1580, 86)]
def axt_mt_18_0 : List (Nat × Nat × Nat × Nat × Nat × Nat × Nat × Nat) := [(1, 3, 0, 0, 1287, 96, 0, 0), (98, 2, 177, 1, 1413, 1415, 52, 86), (112, 2, 187, 1, 1453, 1455, 53, 86), (116, 2, 189, 1, 1461, 1463, 54, 86), (180, 2, 193, 2, 1477, 1479, 55, 86), (139, 2, 194, 2, 1481, 1483, 56, 86), (125, 2, 195, 3, 1485, 1487, 57, 86), (144, 2, 196, 2, 1489, 1491, 58, 86)]
def axt_mt_18_1 : List (Nat × Nat × Nat × Nat × Nat × Nat × Nat × Nat) := [(129, 2, 197, 3, 1493, 1495, 59, 86), (155, 2, 198, 3, 1497, 1499, 60, 86), (147, 2, 199, 2, 1502, 1504, 61, 86), (159, 2, 200, 1, 1506, 1508, 62, 86), (162, 2, 201, 1, 1510, 1512, 63, 86), (151, 2, 202, 1, 1514, 1516, 64, 86), (133, 2, 203, 1, 1518, 1520, 65, 86), (165, 2, 204, 1, 1522, 1524, 66, 86)]
def axt_mt_18_2 : List (Nat × Nat × Nat × Nat × Nat × Nat × Nat × Nat) := [(168, 2, 205, 1, 1526, 1528, 67, 86), (171, 2, 206, 1, 1530, 1532, 68, 86), (192, 2, 207, 1, 1534, 1536, 69, 86), (202, 2, 212, 3, 1554, 1556, 70, 86), (199, 0, 213, 2, 1558, 1559, 0, 86), (205, 2, 211, 3, 1569, 1551, 1552, 86), (208, 0, 218, 1, 1582, 1583, 0, 86)]
def axt_mts : List (List (Nat × Nat × Nat × Nat × Nat × Nat × Nat × Nat)) := [axt_mt_0_0 ++ (axt_mt_0_1 ++ (axt_mt_0_2 ++ (axt_mt_0_3 ++ (axt_mt_0_4 ++ (axt_mt_0_5 ++ (axt_mt_0_6)))))), axt_mt_1_0, axt_mt_2_0, axt_mt_3_0, axt_mt_4_0, axt_mt_5_0, axt_mt_6_0 ++ (axt_mt_6_1), axt_mt_7_0, axt_mt_8_0 ++ (axt_mt_8_1), axt_mt_9_0, axt_mt_10_0 ++ (axt_mt_10_1 ++ (axt_mt_10_2 ++ (axt_mt_10_3))), axt_mt_11_0 ++ (axt_mt_11_1), axt_mt_12_0 ++ (axt_mt_12_1 ++ (axt_mt_12_2 ++ (axt_mt_12_3 ++ (axt_mt_12_4 ++ (axt_mt_12_5))))), axt_mt_13_0 ++ (axt_mt_13_1 ++ (axt_mt_13_2 ++ (axt_mt_13_3))), axt_mt_14_0, axt_mt_15_0, axt_mt_16_0, axt_mt_17_0 ++ (axt_mt_17_1 ++ (axt_mt_17_2 ++ (axt_mt_17_3 ++ (axt_mt_17_4 ++ (axt_mt_17_5))))), axt_mt_18_0 ++ (axt_mt_18_1 ++ (axt_mt_18_2))]
def axt_mth (o i : Nat) : Option (Nat × Nat × Nat) := (ax_fnd (axt_mts.getD o []) i).map fun e => (e.1, e.2.1, e.2.2.1)
/-- may method m write field k of class c: not if it is final, but in a constructor of its own class -/
def axt_pok (m c k : Nat) : Bool := match axt_cl[c]? with
  | some r => !(r.2.1 k).2.2.2 || ((axt_y m).name == "<init>" && (r.2.1 k).1 == axt_on (axt_ow m))
  | none => false
/-- the words that hold all along -/
def axt_ts : List Cond := lw_tbl.filter goodWord
theorem axt_in {w : Cond} (i : Nat) (h : lw_tbl[i]? = some w) (g : goodWord w = true) : w ∈ axt_ts := List.mem_filter.mpr ⟨List.mem_of_getElem? h, g⟩
theorem axt_good : ∀ w ∈ axt_ts, (w.onTables && w.keeps) = true ∨ ∃ ty, w = .arrayClass ty := fun w h => good_of_word (List.mem_filter.mp h).2
theorem axt_ty0 : axt_tys[0]? = some .int := rfl
theorem axt_ty1 : axt_tys[1]? = some .byte := rfl
theorem axt_ty2 : axt_tys[2]? = some .boolean := rfl

