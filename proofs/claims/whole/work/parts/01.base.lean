-- ===== PART A: goes FIRST, ahead of the names: the tables' words, and 'selects' of the private methods out of them =====
/-- a private method of a class that the tables say can be made, by its rows of tables_1 -/
def lw_okq (q : MethodName × Nat) : Prop := (q.1.cls ≠ "java/lang/invoke/MethodHandle" ∧ q.1.cls ≠ "java/lang/invoke/VarHandle") ∧ Cond.instantiable q.1.cls q.2 ∈ tables_1 ∧ Cond.privateMethod q.1 ∈ tables_1 ∧ Cond.instanceMethod q.1 ∈ tables_1
theorem lw_p0 : lw_okq (⟨"TokenRow", "appendBytes", "(I)V"⟩, 14) := ⟨⟨by decide +kernel, by decide +kernel⟩, List.mem_of_getElem? (i := 9) (by decide +kernel), List.mem_of_getElem? (i := 65) (by decide +kernel), List.mem_of_getElem? (i := 66) (by decide +kernel)⟩
theorem lw_p1 : lw_okq (⟨"TokenRow", "skipGap", "()V"⟩, 14) := ⟨⟨by decide +kernel, by decide +kernel⟩, List.mem_of_getElem? (i := 9) (by decide +kernel), List.mem_of_getElem? (i := 77) (by decide +kernel), List.mem_of_getElem? (i := 78) (by decide +kernel)⟩
theorem lw_p2 : lw_okq (⟨"TokenRow", "tapeByte", "(I)I"⟩, 14) := ⟨⟨by decide +kernel, by decide +kernel⟩, List.mem_of_getElem? (i := 9) (by decide +kernel), List.mem_of_getElem? (i := 81) (by decide +kernel), List.mem_of_getElem? (i := 82) (by decide +kernel)⟩
theorem lw_p3 : lw_okq (⟨"TokenRow", "readToken", "()Z"⟩, 14) := ⟨⟨by decide +kernel, by decide +kernel⟩, List.mem_of_getElem? (i := 9) (by decide +kernel), List.mem_of_getElem? (i := 88) (by decide +kernel), List.mem_of_getElem? (i := 89) (by decide +kernel)⟩
theorem lw_p4 : lw_okq (⟨"TokenRow", "takeToken", "()I"⟩, 14) := ⟨⟨by decide +kernel, by decide +kernel⟩, List.mem_of_getElem? (i := 9) (by decide +kernel), List.mem_of_getElem? (i := 92) (by decide +kernel), List.mem_of_getElem? (i := 93) (by decide +kernel)⟩
theorem lw_p5 : lw_okq (⟨"TokenRow", "takeWord", "()I"⟩, 14) := ⟨⟨by decide +kernel, by decide +kernel⟩, List.mem_of_getElem? (i := 9) (by decide +kernel), List.mem_of_getElem? (i := 99) (by decide +kernel), List.mem_of_getElem? (i := 100) (by decide +kernel)⟩
theorem lw_p6 : lw_okq (⟨"TokenRow", "isKeyword", "(II)Z"⟩, 14) := ⟨⟨by decide +kernel, by decide +kernel⟩, List.mem_of_getElem? (i := 9) (by decide +kernel), List.mem_of_getElem? (i := 109) (by decide +kernel), List.mem_of_getElem? (i := 110) (by decide +kernel)⟩
theorem lw_p7 : lw_okq (⟨"TokenRow", "takeText", "(I)V"⟩, 14) := ⟨⟨by decide +kernel, by decide +kernel⟩, List.mem_of_getElem? (i := 9) (by decide +kernel), List.mem_of_getElem? (i := 167) (by decide +kernel), List.mem_of_getElem? (i := 168) (by decide +kernel)⟩
theorem lw_p8 : lw_okq (⟨"TokenRow", "appendText", "(I)V"⟩, 14) := ⟨⟨by decide +kernel, by decide +kernel⟩, List.mem_of_getElem? (i := 9) (by decide +kernel), List.mem_of_getElem? (i := 171) (by decide +kernel), List.mem_of_getElem? (i := 172) (by decide +kernel)⟩
theorem lw_p9 : lw_okq (⟨"TokenRow", "takeDigits", "(I)I"⟩, 14) := ⟨⟨by decide +kernel, by decide +kernel⟩, List.mem_of_getElem? (i := 9) (by decide +kernel), List.mem_of_getElem? (i := 175) (by decide +kernel), List.mem_of_getElem? (i := 176) (by decide +kernel)⟩
theorem lw_p10 : lw_okq (⟨"TokenRow", "takeNumberInBase", "()I"⟩, 14) := ⟨⟨by decide +kernel, by decide +kernel⟩, List.mem_of_getElem? (i := 9) (by decide +kernel), List.mem_of_getElem? (i := 186) (by decide +kernel), List.mem_of_getElem? (i := 187) (by decide +kernel)⟩
theorem lw_p11 : lw_okq (⟨"TokenRow", "takeCharacter", "()I"⟩, 14) := ⟨⟨by decide +kernel, by decide +kernel⟩, List.mem_of_getElem? (i := 9) (by decide +kernel), List.mem_of_getElem? (i := 190) (by decide +kernel), List.mem_of_getElem? (i := 191) (by decide +kernel)⟩
theorem lw_p12 : lw_okq (⟨"TokenRow", "takeMeantByte", "(I)I"⟩, 14) := ⟨⟨by decide +kernel, by decide +kernel⟩, List.mem_of_getElem? (i := 9) (by decide +kernel), List.mem_of_getElem? (i := 194) (by decide +kernel), List.mem_of_getElem? (i := 195) (by decide +kernel)⟩
theorem lw_p13 : lw_okq (⟨"TokenRow", "takeString", "()I"⟩, 14) := ⟨⟨by decide +kernel, by decide +kernel⟩, List.mem_of_getElem? (i := 9) (by decide +kernel), List.mem_of_getElem? (i := 201) (by decide +kernel), List.mem_of_getElem? (i := 202) (by decide +kernel)⟩
theorem lw_p14 : lw_okq (⟨"TokenRow", "takeSign", "()I"⟩, 14) := ⟨⟨by decide +kernel, by decide +kernel⟩, List.mem_of_getElem? (i := 9) (by decide +kernel), List.mem_of_getElem? (i := 205) (by decide +kernel), List.mem_of_getElem? (i := 206) (by decide +kernel)⟩
theorem lw_p15 : lw_okq (⟨"TokenRow", "isSemicolonDue", "(III)Z"⟩, 14) := ⟨⟨by decide +kernel, by decide +kernel⟩, List.mem_of_getElem? (i := 9) (by decide +kernel), List.mem_of_getElem? (i := 210) (by decide +kernel), List.mem_of_getElem? (i := 211) (by decide +kernel)⟩
def lw_privs_1 : List (MethodName × Nat) := [(⟨"TokenRow", "appendBytes", "(I)V"⟩, 14), (⟨"TokenRow", "skipGap", "()V"⟩, 14), (⟨"TokenRow", "tapeByte", "(I)I"⟩, 14), (⟨"TokenRow", "readToken", "()Z"⟩, 14), (⟨"TokenRow", "takeToken", "()I"⟩, 14), (⟨"TokenRow", "takeWord", "()I"⟩, 14), (⟨"TokenRow", "isKeyword", "(II)Z"⟩, 14), (⟨"TokenRow", "takeText", "(I)V"⟩, 14), (⟨"TokenRow", "appendText", "(I)V"⟩, 14), (⟨"TokenRow", "takeDigits", "(I)I"⟩, 14), (⟨"TokenRow", "takeNumberInBase", "()I"⟩, 14), (⟨"TokenRow", "takeCharacter", "()I"⟩, 14), (⟨"TokenRow", "takeMeantByte", "(I)I"⟩, 14), (⟨"TokenRow", "takeString", "()I"⟩, 14), (⟨"TokenRow", "takeSign", "()I"⟩, 14), (⟨"TokenRow", "isSemicolonDue", "(III)Z"⟩, 14)]
theorem lw_r1 : ∀ q ∈ lw_privs_1, lw_okq q := List.forall_mem_cons.mpr ⟨lw_p0, List.forall_mem_cons.mpr ⟨lw_p1, List.forall_mem_cons.mpr ⟨lw_p2, List.forall_mem_cons.mpr ⟨lw_p3, List.forall_mem_cons.mpr ⟨lw_p4, List.forall_mem_cons.mpr ⟨lw_p5, List.forall_mem_cons.mpr ⟨lw_p6, List.forall_mem_cons.mpr ⟨lw_p7, List.forall_mem_cons.mpr ⟨lw_p8, List.forall_mem_cons.mpr ⟨lw_p9, List.forall_mem_cons.mpr ⟨lw_p10, List.forall_mem_cons.mpr ⟨lw_p11, List.forall_mem_cons.mpr ⟨lw_p12, List.forall_mem_cons.mpr ⟨lw_p13, List.forall_mem_cons.mpr ⟨lw_p14, List.forall_mem_cons.mpr ⟨lw_p15, fun _ h => absurd h List.not_mem_nil⟩⟩⟩⟩⟩⟩⟩⟩⟩⟩⟩⟩⟩⟩⟩⟩
theorem lw_p16 : lw_okq (⟨"TokenRow", "isToken", "(I)Z"⟩, 14) := ⟨⟨by decide +kernel, by decide +kernel⟩, List.mem_of_getElem? (i := 9) (by decide +kernel), List.mem_of_getElem? (i := 214) (by decide +kernel), List.mem_of_getElem? (i := 215) (by decide +kernel)⟩
theorem lw_p17 : lw_okq (⟨"TokenRow", "mayEndStatement", "(III)Z"⟩, 14) := ⟨⟨by decide +kernel, by decide +kernel⟩, List.mem_of_getElem? (i := 9) (by decide +kernel), List.mem_of_getElem? (i := 218) (by decide +kernel), List.mem_of_getElem? (i := 219) (by decide +kernel)⟩
theorem lw_p18 : lw_okq (⟨"TokenRow", "mayBeginStatement", "(III)Z"⟩, 14) := ⟨⟨by decide +kernel, by decide +kernel⟩, List.mem_of_getElem? (i := 9) (by decide +kernel), List.mem_of_getElem? (i := 229) (by decide +kernel), List.mem_of_getElem? (i := 230) (by decide +kernel)⟩
theorem lw_p19 : lw_okq (⟨"TokenRow", "addSemicolon", "(I)V"⟩, 14) := ⟨⟨by decide +kernel, by decide +kernel⟩, List.mem_of_getElem? (i := 9) (by decide +kernel), List.mem_of_getElem? (i := 234) (by decide +kernel), List.mem_of_getElem? (i := 235) (by decide +kernel)⟩
theorem lw_p20 : lw_okq (⟨"TokenRow", "addToken", "(IIIII)V"⟩, 14) := ⟨⟨by decide +kernel, by decide +kernel⟩, List.mem_of_getElem? (i := 9) (by decide +kernel), List.mem_of_getElem? (i := 238) (by decide +kernel), List.mem_of_getElem? (i := 239) (by decide +kernel)⟩
theorem lw_p21 : lw_okq (⟨"TokenRowModel", "put", "(I)V"⟩, 20) := ⟨⟨by decide +kernel, by decide +kernel⟩, List.mem_of_getElem? (i := 274) (by decide +kernel), List.mem_of_getElem? (i := 347) (by decide +kernel), List.mem_of_getElem? (i := 348) (by decide +kernel)⟩
theorem lw_p22 : lw_okq (⟨"TokenRowModel", "skip", "()V"⟩, 20) := ⟨⟨by decide +kernel, by decide +kernel⟩, List.mem_of_getElem? (i := 274) (by decide +kernel), List.mem_of_getElem? (i := 359) (by decide +kernel), List.mem_of_getElem? (i := 360) (by decide +kernel)⟩
theorem lw_p23 : lw_okq (⟨"TokenRowModel", "see", "(I)I"⟩, 20) := ⟨⟨by decide +kernel, by decide +kernel⟩, List.mem_of_getElem? (i := 274) (by decide +kernel), List.mem_of_getElem? (i := 363) (by decide +kernel), List.mem_of_getElem? (i := 364) (by decide +kernel)⟩
theorem lw_p24 : lw_okq (⟨"TokenRowModel", "readToken", "()V"⟩, 20) := ⟨⟨by decide +kernel, by decide +kernel⟩, List.mem_of_getElem? (i := 274) (by decide +kernel), List.mem_of_getElem? (i := 367) (by decide +kernel), List.mem_of_getElem? (i := 368) (by decide +kernel)⟩
theorem lw_p25 : lw_okq (⟨"TokenRowModel", "readName", "()V"⟩, 20) := ⟨⟨by decide +kernel, by decide +kernel⟩, List.mem_of_getElem? (i := 274) (by decide +kernel), List.mem_of_getElem? (i := 377) (by decide +kernel), List.mem_of_getElem? (i := 378) (by decide +kernel)⟩
theorem lw_p26 : lw_okq (⟨"TokenRowModel", "readDigits", "(II)V"⟩, 20) := ⟨⟨by decide +kernel, by decide +kernel⟩, List.mem_of_getElem? (i := 274) (by decide +kernel), List.mem_of_getElem? (i := 387) (by decide +kernel), List.mem_of_getElem? (i := 388) (by decide +kernel)⟩
theorem lw_p27 : lw_okq (⟨"TokenRowModel", "readByte", "()V"⟩, 20) := ⟨⟨by decide +kernel, by decide +kernel⟩, List.mem_of_getElem? (i := 274) (by decide +kernel), List.mem_of_getElem? (i := 395) (by decide +kernel), List.mem_of_getElem? (i := 396) (by decide +kernel)⟩
theorem lw_p28 : lw_okq (⟨"TokenRowModel", "meaning", "(II)I"⟩, 20) := ⟨⟨by decide +kernel, by decide +kernel⟩, List.mem_of_getElem? (i := 274) (by decide +kernel), List.mem_of_getElem? (i := 399) (by decide +kernel), List.mem_of_getElem? (i := 400) (by decide +kernel)⟩
theorem lw_p29 : lw_okq (⟨"TokenRowModel", "next", "(I)I"⟩, 20) := ⟨⟨by decide +kernel, by decide +kernel⟩, List.mem_of_getElem? (i := 274) (by decide +kernel), List.mem_of_getElem? (i := 403) (by decide +kernel), List.mem_of_getElem? (i := 404) (by decide +kernel)⟩
theorem lw_p30 : lw_okq (⟨"TokenRowModel", "readString", "()V"⟩, 20) := ⟨⟨by decide +kernel, by decide +kernel⟩, List.mem_of_getElem? (i := 274) (by decide +kernel), List.mem_of_getElem? (i := 407) (by decide +kernel), List.mem_of_getElem? (i := 408) (by decide +kernel)⟩
theorem lw_p31 : lw_okq (⟨"TokenRowModel", "readSign", "()V"⟩, 20) := ⟨⟨by decide +kernel, by decide +kernel⟩, List.mem_of_getElem? (i := 274) (by decide +kernel), List.mem_of_getElem? (i := 411) (by decide +kernel), List.mem_of_getElem? (i := 412) (by decide +kernel)⟩
def lw_privs_2 : List (MethodName × Nat) := [(⟨"TokenRow", "isToken", "(I)Z"⟩, 14), (⟨"TokenRow", "mayEndStatement", "(III)Z"⟩, 14), (⟨"TokenRow", "mayBeginStatement", "(III)Z"⟩, 14), (⟨"TokenRow", "addSemicolon", "(I)V"⟩, 14), (⟨"TokenRow", "addToken", "(IIIII)V"⟩, 14), (⟨"TokenRowModel", "put", "(I)V"⟩, 20), (⟨"TokenRowModel", "skip", "()V"⟩, 20), (⟨"TokenRowModel", "see", "(I)I"⟩, 20), (⟨"TokenRowModel", "readToken", "()V"⟩, 20), (⟨"TokenRowModel", "readName", "()V"⟩, 20), (⟨"TokenRowModel", "readDigits", "(II)V"⟩, 20), (⟨"TokenRowModel", "readByte", "()V"⟩, 20), (⟨"TokenRowModel", "meaning", "(II)I"⟩, 20), (⟨"TokenRowModel", "next", "(I)I"⟩, 20), (⟨"TokenRowModel", "readString", "()V"⟩, 20), (⟨"TokenRowModel", "readSign", "()V"⟩, 20)]
theorem lw_r2 : ∀ q ∈ lw_privs_2, lw_okq q := List.forall_mem_cons.mpr ⟨lw_p16, List.forall_mem_cons.mpr ⟨lw_p17, List.forall_mem_cons.mpr ⟨lw_p18, List.forall_mem_cons.mpr ⟨lw_p19, List.forall_mem_cons.mpr ⟨lw_p20, List.forall_mem_cons.mpr ⟨lw_p21, List.forall_mem_cons.mpr ⟨lw_p22, List.forall_mem_cons.mpr ⟨lw_p23, List.forall_mem_cons.mpr ⟨lw_p24, List.forall_mem_cons.mpr ⟨lw_p25, List.forall_mem_cons.mpr ⟨lw_p26, List.forall_mem_cons.mpr ⟨lw_p27, List.forall_mem_cons.mpr ⟨lw_p28, List.forall_mem_cons.mpr ⟨lw_p29, List.forall_mem_cons.mpr ⟨lw_p30, List.forall_mem_cons.mpr ⟨lw_p31, fun _ h => absurd h List.not_mem_nil⟩⟩⟩⟩⟩⟩⟩⟩⟩⟩⟩⟩⟩⟩⟩⟩
theorem lw_p32 : lw_okq (⟨"TokenRowModel", "add", "(II)V"⟩, 20) := ⟨⟨by decide +kernel, by decide +kernel⟩, List.mem_of_getElem? (i := 274) (by decide +kernel), List.mem_of_getElem? (i := 415) (by decide +kernel), List.mem_of_getElem? (i := 416) (by decide +kernel)⟩
theorem lw_p33 : lw_okq (⟨"TokenRowModel", "keep", "()V"⟩, 20) := ⟨⟨by decide +kernel, by decide +kernel⟩, List.mem_of_getElem? (i := 274) (by decide +kernel), List.mem_of_getElem? (i := 419) (by decide +kernel), List.mem_of_getElem? (i := 420) (by decide +kernel)⟩
theorem lw_p34 : lw_okq (⟨"TokenRowModel", "say", "(I)V"⟩, 20) := ⟨⟨by decide +kernel, by decide +kernel⟩, List.mem_of_getElem? (i := 274) (by decide +kernel), List.mem_of_getElem? (i := 423) (by decide +kernel), List.mem_of_getElem? (i := 424) (by decide +kernel)⟩
theorem lw_p35 : lw_okq (⟨"TokenRowModel", "isIn", "(ILjava/lang/String;)Z"⟩, 20) := ⟨⟨by decide +kernel, by decide +kernel⟩, List.mem_of_getElem? (i := 274) (by decide +kernel), List.mem_of_getElem? (i := 427) (by decide +kernel), List.mem_of_getElem? (i := 428) (by decide +kernel)⟩
theorem lw_p36 : lw_okq (⟨"TokenRowModel", "standsAt", "(ILjava/lang/String;I)Z"⟩, 20) := ⟨⟨by decide +kernel, by decide +kernel⟩, List.mem_of_getElem? (i := 274) (by decide +kernel), List.mem_of_getElem? (i := 433) (by decide +kernel), List.mem_of_getElem? (i := 434) (by decide +kernel)⟩
theorem lw_p37 : lw_okq (⟨"TokenRowModel", "understand", "()V"⟩, 20) := ⟨⟨by decide +kernel, by decide +kernel⟩, List.mem_of_getElem? (i := 274) (by decide +kernel), List.mem_of_getElem? (i := 437) (by decide +kernel), List.mem_of_getElem? (i := 438) (by decide +kernel)⟩
theorem lw_p38 : lw_okq (⟨"TokenRowModel", "ends", "(I)Z"⟩, 20) := ⟨⟨by decide +kernel, by decide +kernel⟩, List.mem_of_getElem? (i := 274) (by decide +kernel), List.mem_of_getElem? (i := 441) (by decide +kernel), List.mem_of_getElem? (i := 442) (by decide +kernel)⟩
theorem lw_p39 : lw_okq (⟨"TokenRowModel", "is", "(III)Z"⟩, 20) := ⟨⟨by decide +kernel, by decide +kernel⟩, List.mem_of_getElem? (i := 274) (by decide +kernel), List.mem_of_getElem? (i := 448) (by decide +kernel), List.mem_of_getElem? (i := 449) (by decide +kernel)⟩
theorem lw_p40 : lw_okq (⟨"TokenRowModel", "begins", "(I)Z"⟩, 20) := ⟨⟨by decide +kernel, by decide +kernel⟩, List.mem_of_getElem? (i := 274) (by decide +kernel), List.mem_of_getElem? (i := 452) (by decide +kernel), List.mem_of_getElem? (i := 453) (by decide +kernel)⟩
theorem lw_p41 : lw_okq (⟨"TokenRowModel", "isToken", "(I)Z"⟩, 20) := ⟨⟨by decide +kernel, by decide +kernel⟩, List.mem_of_getElem? (i := 274) (by decide +kernel), List.mem_of_getElem? (i := 460) (by decide +kernel), List.mem_of_getElem? (i := 461) (by decide +kernel)⟩
def lw_privs_3 : List (MethodName × Nat) := [(⟨"TokenRowModel", "add", "(II)V"⟩, 20), (⟨"TokenRowModel", "keep", "()V"⟩, 20), (⟨"TokenRowModel", "say", "(I)V"⟩, 20), (⟨"TokenRowModel", "isIn", "(ILjava/lang/String;)Z"⟩, 20), (⟨"TokenRowModel", "standsAt", "(ILjava/lang/String;I)Z"⟩, 20), (⟨"TokenRowModel", "understand", "()V"⟩, 20), (⟨"TokenRowModel", "ends", "(I)Z"⟩, 20), (⟨"TokenRowModel", "is", "(III)Z"⟩, 20), (⟨"TokenRowModel", "begins", "(I)Z"⟩, 20), (⟨"TokenRowModel", "isToken", "(I)Z"⟩, 20)]
theorem lw_r3 : ∀ q ∈ lw_privs_3, lw_okq q := List.forall_mem_cons.mpr ⟨lw_p32, List.forall_mem_cons.mpr ⟨lw_p33, List.forall_mem_cons.mpr ⟨lw_p34, List.forall_mem_cons.mpr ⟨lw_p35, List.forall_mem_cons.mpr ⟨lw_p36, List.forall_mem_cons.mpr ⟨lw_p37, List.forall_mem_cons.mpr ⟨lw_p38, List.forall_mem_cons.mpr ⟨lw_p39, List.forall_mem_cons.mpr ⟨lw_p40, List.forall_mem_cons.mpr ⟨lw_p41, fun _ h => absurd h List.not_mem_nil⟩⟩⟩⟩⟩⟩⟩⟩⟩⟩
def lw_privs : List (MethodName × Nat) := lw_privs_1 ++ (lw_privs_2 ++ (lw_privs_3))
def lw_tbl : List Cond := k2_sels lw_privs ++ tables_1
theorem lw_privs_ok : ∀ q ∈ lw_privs, lw_okq q := by
  show ∀ q ∈ lw_privs_1 ++ (lw_privs_2 ++ (lw_privs_3)), lw_okq q
  exact List.forall_mem_append.mpr ⟨lw_r1, List.forall_mem_append.mpr ⟨lw_r2, lw_r3⟩⟩

/-! words: every method of this claim carries its own code word ahead of one list TT, all good words of the tables -/
def TT : List Cond := lw_tbl.filter goodWord
theorem tt_in {w : Cond} (h : w ∈ lw_tbl) (g : goodWord w = true) : w ∈ TT := List.mem_filter.mpr ⟨h, g⟩
theorem tt_k (k : Nat) {w : Cond} (h : tables_1[k]? = some w) (g : goodWord w = true) : w ∈ TT := tt_in (List.mem_append_right _ (List.mem_of_getElem? h)) g
theorem tt_s (k : Nat) {w : Cond} (h : (k2_sels lw_privs)[k]? = some w) (g : goodWord w = true) : w ∈ TT := tt_in (List.mem_append_left _ (List.mem_of_getElem? h)) g
theorem tt_cc {c z : Cond} (hz : z ∈ TT) : GoodIn (c :: TT) (z :: TT) := by
  intro w hw
  have hw : w ∈ TT := by
    rcases List.mem_cons.mp hw with h | h
    · rw [h]; exact hz
    · exact h
  exact ⟨List.mem_cons_of_mem _ hw, good_of_word (List.mem_filter.mp hw).2⟩
theorem tt_lw {z : Cond} (hz : z ∈ TT) : GoodIn lw_tbl (z :: TT) := by
  intro w hw
  have hw : w ∈ TT := by
    rcases List.mem_cons.mp hw with h | h
    · rw [h]; exact hz
    · exact h
  exact ⟨(List.mem_filter.mp hw).1, good_of_word (List.mem_filter.mp hw).2⟩
def RX : String := "TokenRow"
def TX : u_T := fun k => match k with
  | 0 => ("TokenRow", "tape", "[I", true)
  | 1 => ("TokenRow", "tapeSize", "I", false)
  | 2 => ("TokenRow", "kinds", "[I", true)
  | 3 => ("TokenRow", "places", "[I", true)
  | 4 => ("TokenRow", "lines", "[I", true)
  | 5 => ("TokenRow", "values", "[I", true)
  | 6 => ("TokenRow", "textStarts", "[I", true)
  | 7 => ("TokenRow", "textSizes", "[I", true)
  | 8 => ("TokenRow", "count", "I", false)
  | 9 => ("TokenRow", "text", "[I", true)
  | 10 => ("TokenRow", "textEnd", "I", false)
  | 11 => ("TokenRow", "at", "I", false)
  | 12 => ("TokenRow", "atLine", "I", false)
  | _ => ("TokenRow", "bits", "I", false)
def tyX : Nat → FieldType := fun k => match k with
  | 0 => .array .int
  | 1 => .int
  | 2 => .array .int
  | 3 => .array .int
  | 4 => .array .int
  | 5 => .array .int
  | 6 => .array .int
  | 7 => .array .int
  | 8 => .int
  | 9 => .array .int
  | 10 => .int
  | 11 => .int
  | 12 => .int
  | _ => .int
theorem nmX : ∀ a, a < 14 → ∀ b, b < 14 → a ≠ b → (TX a).2.1 ≠ (TX b).2.1 := by decide +kernel
theorem tyX_ok : ∀ k, k < 14 → parseFieldDescriptor (TX k).2.2.1 = some (tyX k) := by decide +kernel
theorem inlX : ∀ w ∈ u_ws RX TX 14, w ∈ lw_tbl := by decide +kernel
theorem inX : ∀ w ∈ u_ws RX TX 14, w ∈ TT := fun w h => tt_in (inlX w h) ((by decide +kernel : ∀ w ∈ u_ws RX TX 14, goodWord w = true) w h)
def RM : String := "TokenRowModel"
def TM : u_T := fun k => match k with
  | 0 => ("TokenRowModel", "thrown", "I", false)
  | 1 => ("TokenRowModel", "tape", "[I", true)
  | 2 => ("TokenRowModel", "taped", "I", false)
  | 3 => ("TokenRowModel", "count", "I", false)
  | 4 => ("TokenRowModel", "kinds", "[I", true)
  | 5 => ("TokenRowModel", "places", "[I", true)
  | 6 => ("TokenRowModel", "lines", "[I", true)
  | 7 => ("TokenRowModel", "values", "[I", true)
  | 8 => ("TokenRowModel", "begins", "[I", true)
  | 9 => ("TokenRowModel", "sizes", "[I", true)
  | 10 => ("TokenRowModel", "texts", "[I", true)
  | 11 => ("TokenRowModel", "used", "I", false)
  | 12 => ("TokenRowModel", "keywords", "Ljava/lang/String;", true)
  | 13 => ("TokenRowModel", "enders", "Ljava/lang/String;", true)
  | 14 => ("TokenRowModel", "beginners", "Ljava/lang/String;", true)
  | 15 => ("TokenRowModel", "at", "I", false)
  | 16 => ("TokenRowModel", "line", "I", false)
  | 17 => ("TokenRowModel", "kind", "I", false)
  | 18 => ("TokenRowModel", "value", "I", false)
  | _ => ("TokenRowModel", "behind", "I", false)
def tyM : Nat → FieldType := fun k => match k with
  | 0 => .int
  | 1 => .array .int
  | 2 => .int
  | 3 => .int
  | 4 => .array .int
  | 5 => .array .int
  | 6 => .array .int
  | 7 => .array .int
  | 8 => .array .int
  | 9 => .array .int
  | 10 => .array .int
  | 11 => .int
  | 12 => .object "java/lang/String"
  | 13 => .object "java/lang/String"
  | 14 => .object "java/lang/String"
  | 15 => .int
  | 16 => .int
  | 17 => .int
  | 18 => .int
  | _ => .int
theorem nmM : ∀ a, a < 20 → ∀ b, b < 20 → a ≠ b → (TM a).2.1 ≠ (TM b).2.1 := by decide +kernel
theorem tyM_ok : ∀ k, k < 20 → parseFieldDescriptor (TM k).2.2.1 = some (tyM k) := by decide +kernel
theorem inlM : ∀ w ∈ u_ws RM TM 20, w ∈ lw_tbl := by decide +kernel
theorem inM : ∀ w ∈ u_ws RM TM 20, w ∈ TT := fun w h => tt_in (inlM w h) ((by decide +kernel : ∀ w ∈ u_ws RM TM 20, goodWord w = true) w h)
abbrev clT : List vw_C := [(RX, TX, 14), (RM, TM, 20)]
abbrev cX_init : ByteArray := prog_1_method_1_code
def yX_init : MethodName := ⟨"TokenRow", "<init>", "()V"⟩
theorem wcX_init : Cond.code yX_init cX_init 1 none ∈ TT := tt_k 12 rfl rfl
theorem wiX_init : Cond.instanceMethod yX_init ∈ TT := tt_k 11 rfl rfl
abbrev cX_feed : ByteArray := prog_1_method_2_code
def yX_feed : MethodName := ⟨"TokenRow", "feed", "(IIIII)Z"⟩
theorem wcX_feed : Cond.code yX_feed cX_feed 6 (some .boolean) ∈ TT := tt_k 63 rfl rfl
theorem wiX_feed : Cond.instanceMethod yX_feed ∈ TT := tt_k 61 rfl rfl
theorem weX_feed : Cond.selects "TokenRow" yX_feed yX_feed ∈ TT := tt_k 62 rfl rfl
abbrev cX_appendBytes : ByteArray := prog_1_method_12_code
def yX_appendBytes : MethodName := ⟨"TokenRow", "appendBytes", "(I)V"⟩
theorem wcX_appendBytes : Cond.code yX_appendBytes cX_appendBytes 3 none ∈ TT := tt_k 67 rfl rfl
theorem wiX_appendBytes : Cond.instanceMethod yX_appendBytes ∈ TT := tt_k 66 rfl rfl
theorem weX_appendBytes : Cond.selects "TokenRow" yX_appendBytes yX_appendBytes ∈ TT := tt_s 0 rfl rfl
abbrev cX_end : ByteArray := prog_1_method_3_code
def yX_end : MethodName := ⟨"TokenRow", "end", "(I)Z"⟩
theorem wcX_end : Cond.code yX_end cX_end 2 (some .boolean) ∈ TT := tt_k 71 rfl rfl
theorem wiX_end : Cond.instanceMethod yX_end ∈ TT := tt_k 69 rfl rfl
theorem weX_end : Cond.selects "TokenRow" yX_end yX_end ∈ TT := tt_k 70 rfl rfl
abbrev cX_read : ByteArray := prog_1_method_4_code
def yX_read : MethodName := ⟨"TokenRow", "read", "()I"⟩
theorem wcX_read : Cond.code yX_read cX_read 3 (some .int) ∈ TT := tt_k 75 rfl rfl
theorem wiX_read : Cond.instanceMethod yX_read ∈ TT := tt_k 73 rfl rfl
theorem weX_read : Cond.selects "TokenRow" yX_read yX_read ∈ TT := tt_k 74 rfl rfl
abbrev cX_skipGap : ByteArray := prog_1_method_15_code
def yX_skipGap : MethodName := ⟨"TokenRow", "skipGap", "()V"⟩
theorem wcX_skipGap : Cond.code yX_skipGap cX_skipGap 3 none ∈ TT := tt_k 79 rfl rfl
theorem wiX_skipGap : Cond.instanceMethod yX_skipGap ∈ TT := tt_k 78 rfl rfl
theorem weX_skipGap : Cond.selects "TokenRow" yX_skipGap yX_skipGap ∈ TT := tt_s 1 rfl rfl
abbrev cX_tapeByte : ByteArray := prog_1_method_13_code
def yX_tapeByte : MethodName := ⟨"TokenRow", "tapeByte", "(I)I"⟩
theorem wcX_tapeByte : Cond.code yX_tapeByte cX_tapeByte 2 (some .int) ∈ TT := tt_k 83 rfl rfl
theorem wiX_tapeByte : Cond.instanceMethod yX_tapeByte ∈ TT := tt_k 82 rfl rfl
theorem weX_tapeByte : Cond.selects "TokenRow" yX_tapeByte yX_tapeByte ∈ TT := tt_s 2 rfl rfl
abbrev cX_elementAt : ByteArray := prog_1_method_14_code
def yX_elementAt : MethodName := ⟨"TokenRow", "elementAt", "([II)I"⟩
theorem wcX_elementAt : Cond.code yX_elementAt cX_elementAt 2 (some .int) ∈ TT := tt_k 86 rfl rfl
theorem wsX_elementAt : Cond.static yX_elementAt ∈ TT := tt_k 85 rfl rfl
abbrev cX_readToken : ByteArray := prog_1_method_16_code
def yX_readToken : MethodName := ⟨"TokenRow", "readToken", "()Z"⟩
theorem wcX_readToken : Cond.code yX_readToken cX_readToken 5 (some .boolean) ∈ TT := tt_k 90 rfl rfl
theorem wiX_readToken : Cond.instanceMethod yX_readToken ∈ TT := tt_k 89 rfl rfl
theorem weX_readToken : Cond.selects "TokenRow" yX_readToken yX_readToken ∈ TT := tt_s 3 rfl rfl
abbrev cX_takeToken : ByteArray := prog_1_method_17_code
def yX_takeToken : MethodName := ⟨"TokenRow", "takeToken", "()I"⟩
theorem wcX_takeToken : Cond.code yX_takeToken cX_takeToken 2 (some .int) ∈ TT := tt_k 94 rfl rfl
theorem wiX_takeToken : Cond.instanceMethod yX_takeToken ∈ TT := tt_k 93 rfl rfl
theorem weX_takeToken : Cond.selects "TokenRow" yX_takeToken yX_takeToken ∈ TT := tt_s 4 rfl rfl
abbrev cX_isLetter : ByteArray := prog_1_method_28_code
def yX_isLetter : MethodName := ⟨"TokenRow", "isLetter", "(I)Z"⟩
theorem wcX_isLetter : Cond.code yX_isLetter cX_isLetter 1 (some .boolean) ∈ TT := tt_k 97 rfl rfl
theorem wsX_isLetter : Cond.static yX_isLetter ∈ TT := tt_k 96 rfl rfl
abbrev cX_takeWord : ByteArray := prog_1_method_18_code
def yX_takeWord : MethodName := ⟨"TokenRow", "takeWord", "()I"⟩
theorem wcX_takeWord : Cond.code yX_takeWord cX_takeWord 4 (some .int) ∈ TT := tt_k 101 rfl rfl
theorem wiX_takeWord : Cond.instanceMethod yX_takeWord ∈ TT := tt_k 100 rfl rfl
theorem weX_takeWord : Cond.selects "TokenRow" yX_takeWord yX_takeWord ∈ TT := tt_s 5 rfl rfl
abbrev cX_isNameByte : ByteArray := prog_1_method_30_code
def yX_isNameByte : MethodName := ⟨"TokenRow", "isNameByte", "(I)Z"⟩
theorem wcX_isNameByte : Cond.code yX_isNameByte cX_isNameByte 1 (some .boolean) ∈ TT := tt_k 104 rfl rfl
theorem wsX_isNameByte : Cond.static yX_isNameByte ∈ TT := tt_k 103 rfl rfl
abbrev cX_isDecimalDigit : ByteArray := prog_1_method_29_code
def yX_isDecimalDigit : MethodName := ⟨"TokenRow", "isDecimalDigit", "(I)Z"⟩
theorem wcX_isDecimalDigit : Cond.code yX_isDecimalDigit cX_isDecimalDigit 1 (some .boolean) ∈ TT := tt_k 107 rfl rfl
theorem wsX_isDecimalDigit : Cond.static yX_isDecimalDigit ∈ TT := tt_k 106 rfl rfl
abbrev cX_isKeyword : ByteArray := prog_1_method_32_code
def yX_isKeyword : MethodName := ⟨"TokenRow", "isKeyword", "(II)Z"⟩
theorem wcX_isKeyword : Cond.code yX_isKeyword cX_isKeyword 3 (some .boolean) ∈ TT := tt_k 111 rfl rfl
theorem wiX_isKeyword : Cond.instanceMethod yX_isKeyword ∈ TT := tt_k 110 rfl rfl
theorem weX_isKeyword : Cond.selects "TokenRow" yX_isKeyword yX_isKeyword ∈ TT := tt_s 6 rfl rfl
abbrev cX_numberInList : ByteArray := prog_1_method_33_code
def yX_numberInList : MethodName := ⟨"TokenRow", "numberInList", "(Ljava/lang/String;[III)I"⟩
theorem wcX_numberInList : Cond.code yX_numberInList cX_numberInList 8 (some .int) ∈ TT := tt_k 115 rfl rfl
theorem wsX_numberInList : Cond.static yX_numberInList ∈ TT := tt_k 114 rfl rfl
abbrev cS_length : ByteArray := prog_5_method_54_code
def yS_length : MethodName := ⟨"java/lang/String", "length", "()I"⟩
theorem wcS_length : Cond.code yS_length cS_length 1 (some .int) ∈ TT := tt_k 119 rfl rfl
theorem wiS_length : Cond.instanceMethod yS_length ∈ TT := tt_k 117 rfl rfl
theorem weS_length : Cond.selects "java/lang/String" yS_length yS_length ∈ TT := tt_k 118 rfl rfl
abbrev cS_coder : ByteArray := prog_5_method_152_code
def yS_coder : MethodName := ⟨"java/lang/String", "coder", "()B"⟩
theorem wcS_coder : Cond.code yS_coder cS_coder 1 (some .byte) ∈ TT := tt_k 123 rfl rfl
theorem wiS_coder : Cond.instanceMethod yS_coder ∈ TT := tt_k 121 rfl rfl
theorem weS_coder : Cond.selects "java/lang/String" yS_coder yS_coder ∈ TT := tt_k 122 rfl rfl
abbrev cS_charAt : ByteArray := prog_5_method_56_code
def yS_charAt : MethodName := ⟨"java/lang/String", "charAt", "(I)C"⟩
theorem wcS_charAt : Cond.code yS_charAt cS_charAt 2 (some .char) ∈ TT := tt_k 129 rfl rfl
theorem wiS_charAt : Cond.instanceMethod yS_charAt ∈ TT := tt_k 127 rfl rfl
theorem weS_charAt : Cond.selects "java/lang/String" yS_charAt yS_charAt ∈ TT := tt_k 128 rfl rfl
abbrev cS_isLatin1 : ByteArray := prog_5_method_154_code
def yS_isLatin1 : MethodName := ⟨"java/lang/String", "isLatin1", "()Z"⟩
theorem wcS_isLatin1 : Cond.code yS_isLatin1 cS_isLatin1 1 (some .boolean) ∈ TT := tt_k 133 rfl rfl
theorem wiS_isLatin1 : Cond.instanceMethod yS_isLatin1 ∈ TT := tt_k 131 rfl rfl
theorem weS_isLatin1 : Cond.selects "java/lang/String" yS_isLatin1 yS_isLatin1 ∈ TT := tt_k 132 rfl rfl
abbrev cL1_charAt : ByteArray := prog_6_method_2_code
def yL1_charAt : MethodName := ⟨"java/lang/StringLatin1", "charAt", "([BI)C"⟩
theorem wcL1_charAt : Cond.code yL1_charAt cL1_charAt 2 (some .char) ∈ TT := tt_k 136 rfl rfl
theorem wsL1_charAt : Cond.static yL1_charAt ∈ TT := tt_k 135 rfl rfl
abbrev cS_checkIndex : ByteArray := prog_5_method_155_code
def yS_checkIndex : MethodName := ⟨"java/lang/String", "checkIndex", "(II)V"⟩
theorem wcS_checkIndex : Cond.code yS_checkIndex cS_checkIndex 2 none ∈ TT := tt_k 139 rfl rfl
theorem wsS_checkIndex : Cond.static yS_checkIndex ∈ TT := tt_k 138 rfl rfl
abbrev cP_checkIndex : ByteArray := prog_8_method_11_code
def yP_checkIndex : MethodName := ⟨"jdk/internal/util/Preconditions", "checkIndex", "(IILjava/util/function/BiFunction;)I"⟩
theorem wcP_checkIndex : Cond.code yP_checkIndex cP_checkIndex 3 (some .int) ∈ TT := tt_k 144 rfl rfl
theorem wsP_checkIndex : Cond.static yP_checkIndex ∈ TT := tt_k 143 rfl rfl
abbrev cX_takeText : ByteArray := prog_1_method_26_code
def yX_takeText : MethodName := ⟨"TokenRow", "takeText", "(I)V"⟩
theorem wcX_takeText : Cond.code yX_takeText cX_takeText 3 none ∈ TT := tt_k 169 rfl rfl
theorem wiX_takeText : Cond.instanceMethod yX_takeText ∈ TT := tt_k 168 rfl rfl
theorem weX_takeText : Cond.selects "TokenRow" yX_takeText yX_takeText ∈ TT := tt_s 7 rfl rfl
abbrev cX_appendText : ByteArray := prog_1_method_27_code
def yX_appendText : MethodName := ⟨"TokenRow", "appendText", "(I)V"⟩
theorem wcX_appendText : Cond.code yX_appendText cX_appendText 2 none ∈ TT := tt_k 173 rfl rfl
theorem wiX_appendText : Cond.instanceMethod yX_appendText ∈ TT := tt_k 172 rfl rfl
theorem weX_appendText : Cond.selects "TokenRow" yX_appendText yX_appendText ∈ TT := tt_s 8 rfl rfl
abbrev cX_takeDigits : ByteArray := prog_1_method_21_code
def yX_takeDigits : MethodName := ⟨"TokenRow", "takeDigits", "(I)I"⟩
theorem wcX_takeDigits : Cond.code yX_takeDigits cX_takeDigits 6 (some .int) ∈ TT := tt_k 177 rfl rfl
theorem wiX_takeDigits : Cond.instanceMethod yX_takeDigits ∈ TT := tt_k 176 rfl rfl
theorem weX_takeDigits : Cond.selects "TokenRow" yX_takeDigits yX_takeDigits ∈ TT := tt_s 9 rfl rfl
abbrev cX_digitOf : ByteArray := prog_1_method_31_code
def yX_digitOf : MethodName := ⟨"TokenRow", "digitOf", "(I)I"⟩
theorem wcX_digitOf : Cond.code yX_digitOf cX_digitOf 1 (some .int) ∈ TT := tt_k 180 rfl rfl
theorem wsX_digitOf : Cond.static yX_digitOf ∈ TT := tt_k 179 rfl rfl
abbrev cX_takeNumberInBase : ByteArray := prog_1_method_20_code
def yX_takeNumberInBase : MethodName := ⟨"TokenRow", "takeNumberInBase", "()I"⟩
theorem wcX_takeNumberInBase : Cond.code yX_takeNumberInBase cX_takeNumberInBase 1 (some .int) ∈ TT := tt_k 188 rfl rfl
theorem wiX_takeNumberInBase : Cond.instanceMethod yX_takeNumberInBase ∈ TT := tt_k 187 rfl rfl
theorem weX_takeNumberInBase : Cond.selects "TokenRow" yX_takeNumberInBase yX_takeNumberInBase ∈ TT := tt_s 10 rfl rfl
abbrev cX_takeCharacter : ByteArray := prog_1_method_22_code
def yX_takeCharacter : MethodName := ⟨"TokenRow", "takeCharacter", "()I"⟩
theorem wcX_takeCharacter : Cond.code yX_takeCharacter cX_takeCharacter 2 (some .int) ∈ TT := tt_k 192 rfl rfl
theorem wiX_takeCharacter : Cond.instanceMethod yX_takeCharacter ∈ TT := tt_k 191 rfl rfl
theorem weX_takeCharacter : Cond.selects "TokenRow" yX_takeCharacter yX_takeCharacter ∈ TT := tt_s 11 rfl rfl
abbrev cX_takeMeantByte : ByteArray := prog_1_method_24_code
def yX_takeMeantByte : MethodName := ⟨"TokenRow", "takeMeantByte", "(I)I"⟩
theorem wcX_takeMeantByte : Cond.code yX_takeMeantByte cX_takeMeantByte 4 (some .int) ∈ TT := tt_k 196 rfl rfl
theorem wiX_takeMeantByte : Cond.instanceMethod yX_takeMeantByte ∈ TT := tt_k 195 rfl rfl
theorem weX_takeMeantByte : Cond.selects "TokenRow" yX_takeMeantByte yX_takeMeantByte ∈ TT := tt_s 12 rfl rfl
abbrev cX_meaningBehindStar : ByteArray := prog_1_method_25_code
def yX_meaningBehindStar : MethodName := ⟨"TokenRow", "meaningBehindStar", "(I)I"⟩
theorem wcX_meaningBehindStar : Cond.code yX_meaningBehindStar cX_meaningBehindStar 1 (some .int) ∈ TT := tt_k 199 rfl rfl
theorem wsX_meaningBehindStar : Cond.static yX_meaningBehindStar ∈ TT := tt_k 198 rfl rfl
abbrev cX_takeString : ByteArray := prog_1_method_23_code
def yX_takeString : MethodName := ⟨"TokenRow", "takeString", "()I"⟩
theorem wcX_takeString : Cond.code yX_takeString cX_takeString 3 (some .int) ∈ TT := tt_k 203 rfl rfl
theorem wiX_takeString : Cond.instanceMethod yX_takeString ∈ TT := tt_k 202 rfl rfl
theorem weX_takeString : Cond.selects "TokenRow" yX_takeString yX_takeString ∈ TT := tt_s 13 rfl rfl
abbrev cX_takeSign : ByteArray := prog_1_method_19_code
def yX_takeSign : MethodName := ⟨"TokenRow", "takeSign", "()I"⟩
theorem wcX_takeSign : Cond.code yX_takeSign cX_takeSign 2 (some .int) ∈ TT := tt_k 207 rfl rfl
theorem wiX_takeSign : Cond.instanceMethod yX_takeSign ∈ TT := tt_k 206 rfl rfl
theorem weX_takeSign : Cond.selects "TokenRow" yX_takeSign yX_takeSign ∈ TT := tt_s 14 rfl rfl
abbrev cX_isSemicolonDue : ByteArray := prog_1_method_34_code
def yX_isSemicolonDue : MethodName := ⟨"TokenRow", "isSemicolonDue", "(III)Z"⟩
theorem wcX_isSemicolonDue : Cond.code yX_isSemicolonDue cX_isSemicolonDue 5 (some .boolean) ∈ TT := tt_k 212 rfl rfl
theorem wiX_isSemicolonDue : Cond.instanceMethod yX_isSemicolonDue ∈ TT := tt_k 211 rfl rfl
theorem weX_isSemicolonDue : Cond.selects "TokenRow" yX_isSemicolonDue yX_isSemicolonDue ∈ TT := tt_s 15 rfl rfl
abbrev cX_isToken : ByteArray := prog_1_method_39_code
def yX_isToken : MethodName := ⟨"TokenRow", "isToken", "(I)Z"⟩
theorem wcX_isToken : Cond.code yX_isToken cX_isToken 2 (some .boolean) ∈ TT := tt_k 216 rfl rfl
theorem wiX_isToken : Cond.instanceMethod yX_isToken ∈ TT := tt_k 215 rfl rfl
theorem weX_isToken : Cond.selects "TokenRow" yX_isToken yX_isToken ∈ TT := tt_s 16 rfl rfl
abbrev cX_mayEndStatement : ByteArray := prog_1_method_35_code
def yX_mayEndStatement : MethodName := ⟨"TokenRow", "mayEndStatement", "(III)Z"⟩
theorem wcX_mayEndStatement : Cond.code yX_mayEndStatement cX_mayEndStatement 4 (some .boolean) ∈ TT := tt_k 220 rfl rfl
theorem wiX_mayEndStatement : Cond.instanceMethod yX_mayEndStatement ∈ TT := tt_k 219 rfl rfl
theorem weX_mayEndStatement : Cond.selects "TokenRow" yX_mayEndStatement yX_mayEndStatement ∈ TT := tt_s 17 rfl rfl
abbrev cX_isSignOrKeyword : ByteArray := prog_1_method_38_code
def yX_isSignOrKeyword : MethodName := ⟨"TokenRow", "isSignOrKeyword", "(I)Z"⟩
theorem wcX_isSignOrKeyword : Cond.code yX_isSignOrKeyword cX_isSignOrKeyword 1 (some .boolean) ∈ TT := tt_k 223 rfl rfl
theorem wsX_isSignOrKeyword : Cond.static yX_isSignOrKeyword ∈ TT := tt_k 222 rfl rfl
abbrev cX_isOperand : ByteArray := prog_1_method_37_code
def yX_isOperand : MethodName := ⟨"TokenRow", "isOperand", "(I)Z"⟩
theorem wcX_isOperand : Cond.code yX_isOperand cX_isOperand 1 (some .boolean) ∈ TT := tt_k 226 rfl rfl
theorem wsX_isOperand : Cond.static yX_isOperand ∈ TT := tt_k 225 rfl rfl
abbrev cX_mayBeginStatement : ByteArray := prog_1_method_36_code
def yX_mayBeginStatement : MethodName := ⟨"TokenRow", "mayBeginStatement", "(III)Z"⟩
theorem wcX_mayBeginStatement : Cond.code yX_mayBeginStatement cX_mayBeginStatement 4 (some .boolean) ∈ TT := tt_k 231 rfl rfl
theorem wiX_mayBeginStatement : Cond.instanceMethod yX_mayBeginStatement ∈ TT := tt_k 230 rfl rfl
theorem weX_mayBeginStatement : Cond.selects "TokenRow" yX_mayBeginStatement yX_mayBeginStatement ∈ TT := tt_s 18 rfl rfl
abbrev cX_addSemicolon : ByteArray := prog_1_method_40_code
def yX_addSemicolon : MethodName := ⟨"TokenRow", "addSemicolon", "(I)V"⟩
theorem wcX_addSemicolon : Cond.code yX_addSemicolon cX_addSemicolon 3 none ∈ TT := tt_k 236 rfl rfl
theorem wiX_addSemicolon : Cond.instanceMethod yX_addSemicolon ∈ TT := tt_k 235 rfl rfl
theorem weX_addSemicolon : Cond.selects "TokenRow" yX_addSemicolon yX_addSemicolon ∈ TT := tt_s 19 rfl rfl
abbrev cX_addToken : ByteArray := prog_1_method_41_code
def yX_addToken : MethodName := ⟨"TokenRow", "addToken", "(IIIII)V"⟩
theorem wcX_addToken : Cond.code yX_addToken cX_addToken 6 none ∈ TT := tt_k 240 rfl rfl
theorem wiX_addToken : Cond.instanceMethod yX_addToken ∈ TT := tt_k 239 rfl rfl
theorem weX_addToken : Cond.selects "TokenRow" yX_addToken yX_addToken ∈ TT := tt_s 20 rfl rfl
abbrev cX_kind : ByteArray := prog_1_method_5_code
def yX_kind : MethodName := ⟨"TokenRow", "kind", "(I)I"⟩
theorem wcX_kind : Cond.code yX_kind cX_kind 2 (some .int) ∈ TT := tt_k 245 rfl rfl
theorem wiX_kind : Cond.instanceMethod yX_kind ∈ TT := tt_k 243 rfl rfl
theorem weX_kind : Cond.selects "TokenRow" yX_kind yX_kind ∈ TT := tt_k 244 rfl rfl
abbrev cX_place : ByteArray := prog_1_method_6_code
def yX_place : MethodName := ⟨"TokenRow", "place", "(I)I"⟩
theorem wcX_place : Cond.code yX_place cX_place 2 (some .int) ∈ TT := tt_k 249 rfl rfl
theorem wiX_place : Cond.instanceMethod yX_place ∈ TT := tt_k 247 rfl rfl
theorem weX_place : Cond.selects "TokenRow" yX_place yX_place ∈ TT := tt_k 248 rfl rfl
abbrev cX_line : ByteArray := prog_1_method_7_code
def yX_line : MethodName := ⟨"TokenRow", "line", "(I)I"⟩
theorem wcX_line : Cond.code yX_line cX_line 2 (some .int) ∈ TT := tt_k 253 rfl rfl
theorem wiX_line : Cond.instanceMethod yX_line ∈ TT := tt_k 251 rfl rfl
theorem weX_line : Cond.selects "TokenRow" yX_line yX_line ∈ TT := tt_k 252 rfl rfl
abbrev cX_value : ByteArray := prog_1_method_8_code
def yX_value : MethodName := ⟨"TokenRow", "value", "(I)I"⟩
theorem wcX_value : Cond.code yX_value cX_value 2 (some .int) ∈ TT := tt_k 257 rfl rfl
theorem wiX_value : Cond.instanceMethod yX_value ∈ TT := tt_k 255 rfl rfl
theorem weX_value : Cond.selects "TokenRow" yX_value yX_value ∈ TT := tt_k 256 rfl rfl
abbrev cX_level : ByteArray := prog_1_method_9_code
def yX_level : MethodName := ⟨"TokenRow", "level", "(I)I"⟩
theorem wcX_level : Cond.code yX_level cX_level 2 (some .int) ∈ TT := tt_k 261 rfl rfl
theorem wiX_level : Cond.instanceMethod yX_level ∈ TT := tt_k 259 rfl rfl
theorem weX_level : Cond.selects "TokenRow" yX_level yX_level ∈ TT := tt_k 260 rfl rfl
abbrev cX_size : ByteArray := prog_1_method_10_code
def yX_size : MethodName := ⟨"TokenRow", "size", "(I)I"⟩
theorem wcX_size : Cond.code yX_size cX_size 2 (some .int) ∈ TT := tt_k 268 rfl rfl
theorem wiX_size : Cond.instanceMethod yX_size ∈ TT := tt_k 266 rfl rfl
theorem weX_size : Cond.selects "TokenRow" yX_size yX_size ∈ TT := tt_k 267 rfl rfl
abbrev cX_textAt : ByteArray := prog_1_method_11_code
def yX_textAt : MethodName := ⟨"TokenRow", "textAt", "(II)I"⟩
theorem wcX_textAt : Cond.code yX_textAt cX_textAt 3 (some .int) ∈ TT := tt_k 272 rfl rfl
theorem wiX_textAt : Cond.instanceMethod yX_textAt ∈ TT := tt_k 270 rfl rfl
theorem weX_textAt : Cond.selects "TokenRow" yX_textAt yX_textAt ∈ TT := tt_k 271 rfl rfl
abbrev cM_init : ByteArray := prog_3_method_1_code
def yM_init : MethodName := ⟨"TokenRowModel", "<init>", "()V"⟩
theorem wcM_init : Cond.code yM_init cM_init 1 none ∈ TT := tt_k 277 rfl rfl
theorem wiM_init : Cond.instanceMethod yM_init ∈ TT := tt_k 276 rfl rfl
abbrev cM_feed : ByteArray := prog_3_method_4_code
def yM_feed : MethodName := ⟨"TokenRowModel", "feed", "(IIIII)Z"⟩
theorem wcM_feed : Cond.code yM_feed cM_feed 6 (some .boolean) ∈ TT := tt_k 345 rfl rfl
theorem wiM_feed : Cond.instanceMethod yM_feed ∈ TT := tt_k 343 rfl rfl
theorem weM_feed : Cond.selects "TokenRowModel" yM_feed yM_feed ∈ TT := tt_k 344 rfl rfl
abbrev cM_put : ByteArray := prog_3_method_3_code
def yM_put : MethodName := ⟨"TokenRowModel", "put", "(I)V"⟩
theorem wcM_put : Cond.code yM_put cM_put 3 none ∈ TT := tt_k 349 rfl rfl
theorem wiM_put : Cond.instanceMethod yM_put ∈ TT := tt_k 348 rfl rfl
theorem weM_put : Cond.selects "TokenRowModel" yM_put yM_put ∈ TT := tt_s 21 rfl rfl
abbrev cM_end : ByteArray := prog_3_method_5_code
def yM_end : MethodName := ⟨"TokenRowModel", "end", "(I)Z"⟩
theorem wcM_end : Cond.code yM_end cM_end 2 (some .boolean) ∈ TT := tt_k 353 rfl rfl
theorem wiM_end : Cond.instanceMethod yM_end ∈ TT := tt_k 351 rfl rfl
theorem weM_end : Cond.selects "TokenRowModel" yM_end yM_end ∈ TT := tt_k 352 rfl rfl
abbrev cM_read : ByteArray := prog_3_method_31_code
def yM_read : MethodName := ⟨"TokenRowModel", "read", "()I"⟩
theorem wcM_read : Cond.code yM_read cM_read 2 (some .int) ∈ TT := tt_k 357 rfl rfl
theorem wiM_read : Cond.instanceMethod yM_read ∈ TT := tt_k 355 rfl rfl
theorem weM_read : Cond.selects "TokenRowModel" yM_read yM_read ∈ TT := tt_k 356 rfl rfl
abbrev cM_skip : ByteArray := prog_3_method_11_code
def yM_skip : MethodName := ⟨"TokenRowModel", "skip", "()V"⟩
theorem wcM_skip : Cond.code yM_skip cM_skip 4 none ∈ TT := tt_k 361 rfl rfl
theorem wiM_skip : Cond.instanceMethod yM_skip ∈ TT := tt_k 360 rfl rfl
theorem weM_skip : Cond.selects "TokenRowModel" yM_skip yM_skip ∈ TT := tt_s 22 rfl rfl
abbrev cM_see : ByteArray := prog_3_method_6_code
def yM_see : MethodName := ⟨"TokenRowModel", "see", "(I)I"⟩
theorem wcM_see : Cond.code yM_see cM_see 2 (some .int) ∈ TT := tt_k 365 rfl rfl
theorem wiM_see : Cond.instanceMethod yM_see ∈ TT := tt_k 364 rfl rfl
theorem weM_see : Cond.selects "TokenRowModel" yM_see yM_see ∈ TT := tt_s 23 rfl rfl
abbrev cM_readToken : ByteArray := prog_3_method_29_code
def yM_readToken : MethodName := ⟨"TokenRowModel", "readToken", "()V"⟩
theorem wcM_readToken : Cond.code yM_readToken cM_readToken 2 none ∈ TT := tt_k 369 rfl rfl
theorem wiM_readToken : Cond.instanceMethod yM_readToken ∈ TT := tt_k 368 rfl rfl
theorem weM_readToken : Cond.selects "TokenRowModel" yM_readToken yM_readToken ∈ TT := tt_s 24 rfl rfl
abbrev cM_isLetter : ByteArray := prog_3_method_8_code
def yM_isLetter : MethodName := ⟨"TokenRowModel", "isLetter", "(I)Z"⟩
theorem wcM_isLetter : Cond.code yM_isLetter cM_isLetter 1 (some .boolean) ∈ TT := tt_k 372 rfl rfl
theorem wsM_isLetter : Cond.static yM_isLetter ∈ TT := tt_k 371 rfl rfl
abbrev cM_isGreat : ByteArray := prog_3_method_7_code
def yM_isGreat : MethodName := ⟨"TokenRowModel", "isGreat", "(I)Z"⟩
theorem wcM_isGreat : Cond.code yM_isGreat cM_isGreat 1 (some .boolean) ∈ TT := tt_k 375 rfl rfl
theorem wsM_isGreat : Cond.static yM_isGreat ∈ TT := tt_k 374 rfl rfl
abbrev cM_readName : ByteArray := prog_3_method_21_code
def yM_readName : MethodName := ⟨"TokenRowModel", "readName", "()V"⟩
theorem wcM_readName : Cond.code yM_readName cM_readName 2 none ∈ TT := tt_k 379 rfl rfl
theorem wiM_readName : Cond.instanceMethod yM_readName ∈ TT := tt_k 378 rfl rfl
theorem weM_readName : Cond.selects "TokenRowModel" yM_readName yM_readName ∈ TT := tt_s 25 rfl rfl
abbrev cM_isNamed : ByteArray := prog_3_method_10_code
def yM_isNamed : MethodName := ⟨"TokenRowModel", "isNamed", "(I)Z"⟩
theorem wcM_isNamed : Cond.code yM_isNamed cM_isNamed 1 (some .boolean) ∈ TT := tt_k 382 rfl rfl
theorem wsM_isNamed : Cond.static yM_isNamed ∈ TT := tt_k 381 rfl rfl
abbrev cM_isDigit : ByteArray := prog_3_method_9_code
def yM_isDigit : MethodName := ⟨"TokenRowModel", "isDigit", "(I)Z"⟩
theorem wcM_isDigit : Cond.code yM_isDigit cM_isDigit 1 (some .boolean) ∈ TT := tt_k 385 rfl rfl
theorem wsM_isDigit : Cond.static yM_isDigit ∈ TT := tt_k 384 rfl rfl
abbrev cM_readDigits : ByteArray := prog_3_method_22_code
def yM_readDigits : MethodName := ⟨"TokenRowModel", "readDigits", "(II)V"⟩
theorem wcM_readDigits : Cond.code yM_readDigits cM_readDigits 7 none ∈ TT := tt_k 389 rfl rfl
theorem wiM_readDigits : Cond.instanceMethod yM_readDigits ∈ TT := tt_k 388 rfl rfl
theorem weM_readDigits : Cond.selects "TokenRowModel" yM_readDigits yM_readDigits ∈ TT := tt_s 26 rfl rfl
abbrev cM_digit : ByteArray := prog_3_method_23_code
def yM_digit : MethodName := ⟨"TokenRowModel", "digit", "(I)I"⟩
theorem wcM_digit : Cond.code yM_digit cM_digit 1 (some .int) ∈ TT := tt_k 392 rfl rfl
theorem wsM_digit : Cond.static yM_digit ∈ TT := tt_k 391 rfl rfl
abbrev cM_readByte : ByteArray := prog_3_method_26_code
def yM_readByte : MethodName := ⟨"TokenRowModel", "readByte", "()V"⟩
theorem wcM_readByte : Cond.code yM_readByte cM_readByte 1 none ∈ TT := tt_k 397 rfl rfl
theorem wiM_readByte : Cond.instanceMethod yM_readByte ∈ TT := tt_k 396 rfl rfl
theorem weM_readByte : Cond.selects "TokenRowModel" yM_readByte yM_readByte ∈ TT := tt_s 27 rfl rfl
abbrev cM_meaning : ByteArray := prog_3_method_24_code
def yM_meaning : MethodName := ⟨"TokenRowModel", "meaning", "(II)I"⟩
theorem wcM_meaning : Cond.code yM_meaning cM_meaning 5 (some .int) ∈ TT := tt_k 401 rfl rfl
theorem wiM_meaning : Cond.instanceMethod yM_meaning ∈ TT := tt_k 400 rfl rfl
theorem weM_meaning : Cond.selects "TokenRowModel" yM_meaning yM_meaning ∈ TT := tt_s 28 rfl rfl
abbrev cM_next : ByteArray := prog_3_method_25_code
def yM_next : MethodName := ⟨"TokenRowModel", "next", "(I)I"⟩
theorem wcM_next : Cond.code yM_next cM_next 2 (some .int) ∈ TT := tt_k 405 rfl rfl
theorem wiM_next : Cond.instanceMethod yM_next ∈ TT := tt_k 404 rfl rfl
theorem weM_next : Cond.selects "TokenRowModel" yM_next yM_next ∈ TT := tt_s 29 rfl rfl
abbrev cM_readString : ByteArray := prog_3_method_27_code
def yM_readString : MethodName := ⟨"TokenRowModel", "readString", "()V"⟩
theorem wcM_readString : Cond.code yM_readString cM_readString 3 none ∈ TT := tt_k 409 rfl rfl
theorem wiM_readString : Cond.instanceMethod yM_readString ∈ TT := tt_k 408 rfl rfl
theorem weM_readString : Cond.selects "TokenRowModel" yM_readString yM_readString ∈ TT := tt_s 30 rfl rfl
abbrev cM_readSign : ByteArray := prog_3_method_28_code
def yM_readSign : MethodName := ⟨"TokenRowModel", "readSign", "()V"⟩
theorem wcM_readSign : Cond.code yM_readSign cM_readSign 5 none ∈ TT := tt_k 413 rfl rfl
theorem wiM_readSign : Cond.instanceMethod yM_readSign ∈ TT := tt_k 412 rfl rfl
theorem weM_readSign : Cond.selects "TokenRowModel" yM_readSign yM_readSign ∈ TT := tt_s 31 rfl rfl
abbrev cM_add : ByteArray := prog_3_method_12_code
def yM_add : MethodName := ⟨"TokenRowModel", "add", "(II)V"⟩
theorem wcM_add : Cond.code yM_add cM_add 3 none ∈ TT := tt_k 417 rfl rfl
theorem wiM_add : Cond.instanceMethod yM_add ∈ TT := tt_k 416 rfl rfl
theorem weM_add : Cond.selects "TokenRowModel" yM_add yM_add ∈ TT := tt_s 32 rfl rfl
abbrev cM_keep : ByteArray := prog_3_method_30_code
def yM_keep : MethodName := ⟨"TokenRowModel", "keep", "()V"⟩
theorem wcM_keep : Cond.code yM_keep cM_keep 2 none ∈ TT := tt_k 421 rfl rfl
theorem wiM_keep : Cond.instanceMethod yM_keep ∈ TT := tt_k 420 rfl rfl
theorem weM_keep : Cond.selects "TokenRowModel" yM_keep yM_keep ∈ TT := tt_s 33 rfl rfl
abbrev cM_say : ByteArray := prog_3_method_13_code
def yM_say : MethodName := ⟨"TokenRowModel", "say", "(I)V"⟩
theorem wcM_say : Cond.code yM_say cM_say 2 none ∈ TT := tt_k 425 rfl rfl
theorem wiM_say : Cond.instanceMethod yM_say ∈ TT := tt_k 424 rfl rfl
theorem weM_say : Cond.selects "TokenRowModel" yM_say yM_say ∈ TT := tt_s 34 rfl rfl
abbrev cM_isIn : ByteArray := prog_3_method_14_code
def yM_isIn : MethodName := ⟨"TokenRowModel", "isIn", "(ILjava/lang/String;)Z"⟩
theorem wcM_isIn : Cond.code yM_isIn cM_isIn 4 (some .boolean) ∈ TT := tt_k 429 rfl rfl
theorem wiM_isIn : Cond.instanceMethod yM_isIn ∈ TT := tt_k 428 rfl rfl
theorem weM_isIn : Cond.selects "TokenRowModel" yM_isIn yM_isIn ∈ TT := tt_s 35 rfl rfl
abbrev cM_standsAt : ByteArray := prog_3_method_15_code
def yM_standsAt : MethodName := ⟨"TokenRowModel", "standsAt", "(ILjava/lang/String;I)Z"⟩
theorem wcM_standsAt : Cond.code yM_standsAt cM_standsAt 7 (some .boolean) ∈ TT := tt_k 435 rfl rfl
theorem wiM_standsAt : Cond.instanceMethod yM_standsAt ∈ TT := tt_k 434 rfl rfl
theorem weM_standsAt : Cond.selects "TokenRowModel" yM_standsAt yM_standsAt ∈ TT := tt_s 36 rfl rfl
abbrev cM_understand : ByteArray := prog_3_method_20_code
def yM_understand : MethodName := ⟨"TokenRowModel", "understand", "()V"⟩
theorem wcM_understand : Cond.code yM_understand cM_understand 2 none ∈ TT := tt_k 439 rfl rfl
theorem wiM_understand : Cond.instanceMethod yM_understand ∈ TT := tt_k 438 rfl rfl
theorem weM_understand : Cond.selects "TokenRowModel" yM_understand yM_understand ∈ TT := tt_s 37 rfl rfl
abbrev cM_ends : ByteArray := prog_3_method_18_code
def yM_ends : MethodName := ⟨"TokenRowModel", "ends", "(I)Z"⟩
theorem wcM_ends : Cond.code yM_ends cM_ends 2 (some .boolean) ∈ TT := tt_k 443 rfl rfl
theorem wiM_ends : Cond.instanceMethod yM_ends ∈ TT := tt_k 442 rfl rfl
theorem weM_ends : Cond.selects "TokenRowModel" yM_ends yM_ends ∈ TT := tt_s 38 rfl rfl
abbrev cM_isPlain : ByteArray := prog_3_method_17_code
def yM_isPlain : MethodName := ⟨"TokenRowModel", "isPlain", "(I)Z"⟩
theorem wcM_isPlain : Cond.code yM_isPlain cM_isPlain 1 (some .boolean) ∈ TT := tt_k 446 rfl rfl
theorem wsM_isPlain : Cond.static yM_isPlain ∈ TT := tt_k 445 rfl rfl
abbrev cM_is : ByteArray := prog_3_method_16_code
def yM_is : MethodName := ⟨"TokenRowModel", "is", "(III)Z"⟩
theorem wcM_is : Cond.code yM_is cM_is 4 (some .boolean) ∈ TT := tt_k 450 rfl rfl
theorem wiM_is : Cond.instanceMethod yM_is ∈ TT := tt_k 449 rfl rfl
theorem weM_is : Cond.selects "TokenRowModel" yM_is yM_is ∈ TT := tt_s 39 rfl rfl
abbrev cM_begins : ByteArray := prog_3_method_19_code
def yM_begins : MethodName := ⟨"TokenRowModel", "begins", "(I)Z"⟩
theorem wcM_begins : Cond.code yM_begins cM_begins 2 (some .boolean) ∈ TT := tt_k 454 rfl rfl
theorem wiM_begins : Cond.instanceMethod yM_begins ∈ TT := tt_k 453 rfl rfl
theorem weM_begins : Cond.selects "TokenRowModel" yM_begins yM_begins ∈ TT := tt_s 40 rfl rfl
abbrev cM_kind : ByteArray := prog_3_method_33_code
def yM_kind : MethodName := ⟨"TokenRowModel", "kind", "(I)I"⟩
theorem wcM_kind : Cond.code yM_kind cM_kind 2 (some .int) ∈ TT := tt_k 458 rfl rfl
theorem wiM_kind : Cond.instanceMethod yM_kind ∈ TT := tt_k 456 rfl rfl
theorem weM_kind : Cond.selects "TokenRowModel" yM_kind yM_kind ∈ TT := tt_k 457 rfl rfl
abbrev cM_isToken : ByteArray := prog_3_method_32_code
def yM_isToken : MethodName := ⟨"TokenRowModel", "isToken", "(I)Z"⟩
theorem wcM_isToken : Cond.code yM_isToken cM_isToken 2 (some .boolean) ∈ TT := tt_k 462 rfl rfl
theorem wiM_isToken : Cond.instanceMethod yM_isToken ∈ TT := tt_k 461 rfl rfl
theorem weM_isToken : Cond.selects "TokenRowModel" yM_isToken yM_isToken ∈ TT := tt_s 41 rfl rfl
abbrev cM_place : ByteArray := prog_3_method_34_code
def yM_place : MethodName := ⟨"TokenRowModel", "place", "(I)I"⟩
theorem wcM_place : Cond.code yM_place cM_place 2 (some .int) ∈ TT := tt_k 466 rfl rfl
theorem wiM_place : Cond.instanceMethod yM_place ∈ TT := tt_k 464 rfl rfl
theorem weM_place : Cond.selects "TokenRowModel" yM_place yM_place ∈ TT := tt_k 465 rfl rfl
abbrev cM_line : ByteArray := prog_3_method_35_code
def yM_line : MethodName := ⟨"TokenRowModel", "line", "(I)I"⟩
theorem wcM_line : Cond.code yM_line cM_line 2 (some .int) ∈ TT := tt_k 470 rfl rfl
theorem wiM_line : Cond.instanceMethod yM_line ∈ TT := tt_k 468 rfl rfl
theorem weM_line : Cond.selects "TokenRowModel" yM_line yM_line ∈ TT := tt_k 469 rfl rfl
abbrev cM_value : ByteArray := prog_3_method_36_code
def yM_value : MethodName := ⟨"TokenRowModel", "value", "(I)I"⟩
theorem wcM_value : Cond.code yM_value cM_value 2 (some .int) ∈ TT := tt_k 474 rfl rfl
theorem wiM_value : Cond.instanceMethod yM_value ∈ TT := tt_k 472 rfl rfl
theorem weM_value : Cond.selects "TokenRowModel" yM_value yM_value ∈ TT := tt_k 473 rfl rfl
abbrev cM_level : ByteArray := prog_3_method_37_code
def yM_level : MethodName := ⟨"TokenRowModel", "level", "(I)I"⟩
theorem wcM_level : Cond.code yM_level cM_level 2 (some .int) ∈ TT := tt_k 478 rfl rfl
theorem wiM_level : Cond.instanceMethod yM_level ∈ TT := tt_k 476 rfl rfl
theorem weM_level : Cond.selects "TokenRowModel" yM_level yM_level ∈ TT := tt_k 477 rfl rfl
abbrev cM_size : ByteArray := prog_3_method_38_code
def yM_size : MethodName := ⟨"TokenRowModel", "size", "(I)I"⟩
theorem wcM_size : Cond.code yM_size cM_size 2 (some .int) ∈ TT := tt_k 484 rfl rfl
theorem wiM_size : Cond.instanceMethod yM_size ∈ TT := tt_k 482 rfl rfl
theorem weM_size : Cond.selects "TokenRowModel" yM_size yM_size ∈ TT := tt_k 483 rfl rfl
abbrev cM_textAt : ByteArray := prog_3_method_39_code
def yM_textAt : MethodName := ⟨"TokenRowModel", "textAt", "(II)I"⟩
theorem wcM_textAt : Cond.code yM_textAt cM_textAt 3 (some .int) ∈ TT := tt_k 488 rfl rfl
theorem wiM_textAt : Cond.instanceMethod yM_textAt ∈ TT := tt_k 486 rfl rfl
theorem weM_textAt : Cond.selects "TokenRowModel" yM_textAt yM_textAt ∈ TT := tt_k 487 rfl rfl
theorem wnL : Cond.initialized "TokenRowLaw" ∈ TT := tt_k 0 rfl rfl
theorem wnX : Cond.initialized "TokenRow" ∈ TT := tt_k 1 rfl rfl
theorem wnM : Cond.initialized "TokenRowModel" ∈ TT := tt_k 2 rfl rfl
theorem wnS : Cond.initialized "java/lang/String" ∈ TT := tt_k 3 rfl rfl
theorem wnL1 : Cond.initialized "java/lang/StringLatin1" ∈ TT := tt_k 4 rfl rfl
theorem wnP : Cond.initialized "jdk/internal/util/Preconditions" ∈ TT := tt_k 5 rfl rfl
theorem wnMath : Cond.initialized "java/lang/Math" ∈ TT := tt_k 7 rfl rfl
theorem wlL_9 : Cond.methodLink "TokenRowLaw" 9 yX_init ∈ TT := tt_k 10 rfl rfl
theorem wfX_9 : Cond.fieldLink "TokenRow" 9 "TokenRow" "tape" "[I" ∈ TT := tt_k 16 rfl rfl
theorem wfX_34 : Cond.fieldLink "TokenRow" 34 "TokenRow" "tapeSize" "I" ∈ TT := tt_k 17 rfl rfl
theorem wfX_13 : Cond.fieldLink "TokenRow" 13 "TokenRow" "kinds" "[I" ∈ TT := tt_k 18 rfl rfl
theorem wfX_16 : Cond.fieldLink "TokenRow" 16 "TokenRow" "places" "[I" ∈ TT := tt_k 19 rfl rfl
theorem wfX_19 : Cond.fieldLink "TokenRow" 19 "TokenRow" "lines" "[I" ∈ TT := tt_k 20 rfl rfl
theorem wfX_22 : Cond.fieldLink "TokenRow" 22 "TokenRow" "values" "[I" ∈ TT := tt_k 21 rfl rfl
theorem wfX_25 : Cond.fieldLink "TokenRow" 25 "TokenRow" "textStarts" "[I" ∈ TT := tt_k 22 rfl rfl
theorem wfX_28 : Cond.fieldLink "TokenRow" 28 "TokenRow" "textSizes" "[I" ∈ TT := tt_k 23 rfl rfl
theorem wfX_42 : Cond.fieldLink "TokenRow" 42 "TokenRow" "count" "I" ∈ TT := tt_k 24 rfl rfl
theorem wfX_31 : Cond.fieldLink "TokenRow" 31 "TokenRow" "text" "[I" ∈ TT := tt_k 25 rfl rfl
theorem wfX_45 : Cond.fieldLink "TokenRow" 45 "TokenRow" "textEnd" "I" ∈ TT := tt_k 26 rfl rfl
theorem wfX_48 : Cond.fieldLink "TokenRow" 48 "TokenRow" "at" "I" ∈ TT := tt_k 27 rfl rfl
theorem wfX_51 : Cond.fieldLink "TokenRow" 51 "TokenRow" "atLine" "I" ∈ TT := tt_k 28 rfl rfl
theorem wfX_85 : Cond.fieldLink "TokenRow" 85 "TokenRow" "bits" "I" ∈ TT := tt_k 29 rfl rfl
theorem wlL_13 : Cond.methodLink "TokenRowLaw" 13 yX_feed ∈ TT := tt_k 60 rfl rfl
theorem wlX_38 : Cond.methodLink "TokenRow" 38 yX_appendBytes ∈ TT := tt_k 64 rfl rfl
theorem wlL_18 : Cond.methodLink "TokenRowLaw" 18 yX_end ∈ TT := tt_k 68 rfl rfl
theorem wlL_23 : Cond.methodLink "TokenRowLaw" 23 yX_read ∈ TT := tt_k 72 rfl rfl
theorem wlX_54 : Cond.methodLink "TokenRow" 54 yX_skipGap ∈ TT := tt_k 76 rfl rfl
theorem wlX_81 : Cond.methodLink "TokenRow" 81 yX_tapeByte ∈ TT := tt_k 80 rfl rfl
theorem wlX_77 : Cond.methodLink "TokenRow" 77 yX_elementAt ∈ TT := tt_k 84 rfl rfl
theorem wlX_57 : Cond.methodLink "TokenRow" 57 yX_readToken ∈ TT := tt_k 87 rfl rfl
theorem wlX_88 : Cond.methodLink "TokenRow" 88 yX_takeToken ∈ TT := tt_k 91 rfl rfl
theorem wlX_103 : Cond.methodLink "TokenRow" 103 yX_isLetter ∈ TT := tt_k 95 rfl rfl
theorem wlX_106 : Cond.methodLink "TokenRow" 106 yX_takeWord ∈ TT := tt_k 98 rfl rfl
theorem wlX_127 : Cond.methodLink "TokenRow" 127 yX_isNameByte ∈ TT := tt_k 102 rfl rfl
theorem wlX_109 : Cond.methodLink "TokenRow" 109 yX_isDecimalDigit ∈ TT := tt_k 105 rfl rfl
theorem wlX_130 : Cond.methodLink "TokenRow" 130 yX_isKeyword ∈ TT := tt_k 108 rfl rfl
theorem wlX_73 : Cond.methodLink "TokenRow" 73 yX_numberInList ∈ TT := tt_k 113 rfl rfl
theorem wlX_165 : Cond.methodLink "TokenRow" 165 yS_length ∈ TT := tt_k 116 rfl rfl
theorem wlS_335 : Cond.methodLink "java/lang/String" 335 yS_coder ∈ TT := tt_k 120 rfl rfl
theorem wfS_38 : Cond.fieldLink "java/lang/String" 38 "java/lang/String" "COMPACT_STRINGS" "Z" ∈ TT := tt_k 124 rfl rfl
theorem wlX_170 : Cond.methodLink "TokenRow" 170 yS_charAt ∈ TT := tt_k 126 rfl rfl
theorem wlS_492 : Cond.methodLink "java/lang/String" 492 yS_isLatin1 ∈ TT := tt_k 130 rfl rfl
theorem wlS_495 : Cond.methodLink "java/lang/String" 495 yL1_charAt ∈ TT := tt_k 134 rfl rfl
theorem wlL1_9 : Cond.methodLink "java/lang/StringLatin1" 9 yS_checkIndex ∈ TT := tt_k 137 rfl rfl
theorem wfS_1053 : Cond.fieldLink "java/lang/String" 1053 "jdk/internal/util/Preconditions" "SIOOBE_FORMATTER" "Ljava/util/function/BiFunction;" ∈ TT := tt_k 140 rfl rfl
theorem wlS_1059 : Cond.methodLink "java/lang/String" 1059 yP_checkIndex ∈ TT := tt_k 142 rfl rfl
theorem wlX_134 : Cond.methodLink "TokenRow" 134 yX_takeText ∈ TT := tt_k 166 rfl rfl
theorem wlX_153 : Cond.methodLink "TokenRow" 153 yX_appendText ∈ TT := tt_k 170 rfl rfl
theorem wlX_112 : Cond.methodLink "TokenRow" 112 yX_takeDigits ∈ TT := tt_k 174 rfl rfl
theorem wlX_139 : Cond.methodLink "TokenRow" 139 yX_digitOf ∈ TT := tt_k 178 rfl rfl
theorem wlX_115 : Cond.methodLink "TokenRow" 115 yX_takeNumberInBase ∈ TT := tt_k 185 rfl rfl
theorem wlX_118 : Cond.methodLink "TokenRow" 118 yX_takeCharacter ∈ TT := tt_k 189 rfl rfl
theorem wlX_150 : Cond.methodLink "TokenRow" 150 yX_takeMeantByte ∈ TT := tt_k 193 rfl rfl
theorem wlX_156 : Cond.methodLink "TokenRow" 156 yX_meaningBehindStar ∈ TT := tt_k 197 rfl rfl
theorem wlX_121 : Cond.methodLink "TokenRow" 121 yX_takeString ∈ TT := tt_k 200 rfl rfl
theorem wlX_124 : Cond.methodLink "TokenRow" 124 yX_takeSign ∈ TT := tt_k 204 rfl rfl
theorem wlX_92 : Cond.methodLink "TokenRow" 92 yX_isSemicolonDue ∈ TT := tt_k 209 rfl rfl
theorem wlX_61 : Cond.methodLink "TokenRow" 61 yX_isToken ∈ TT := tt_k 213 rfl rfl
theorem wlX_174 : Cond.methodLink "TokenRow" 174 yX_mayEndStatement ∈ TT := tt_k 217 rfl rfl
theorem wlX_65 : Cond.methodLink "TokenRow" 65 yX_isSignOrKeyword ∈ TT := tt_k 221 rfl rfl
theorem wlX_180 : Cond.methodLink "TokenRow" 180 yX_isOperand ∈ TT := tt_k 224 rfl rfl
theorem wlX_177 : Cond.methodLink "TokenRow" 177 yX_mayBeginStatement ∈ TT := tt_k 228 rfl rfl
theorem wlX_96 : Cond.methodLink "TokenRow" 96 yX_addSemicolon ∈ TT := tt_k 233 rfl rfl
theorem wlX_99 : Cond.methodLink "TokenRow" 99 yX_addToken ∈ TT := tt_k 237 rfl rfl
theorem wlL_28 : Cond.methodLink "TokenRowLaw" 28 yX_kind ∈ TT := tt_k 242 rfl rfl
theorem wlL_33 : Cond.methodLink "TokenRowLaw" 33 yX_place ∈ TT := tt_k 246 rfl rfl
theorem wlL_37 : Cond.methodLink "TokenRowLaw" 37 yX_line ∈ TT := tt_k 250 rfl rfl
theorem wlL_41 : Cond.methodLink "TokenRowLaw" 41 yX_value ∈ TT := tt_k 254 rfl rfl
theorem wlL_45 : Cond.methodLink "TokenRowLaw" 45 yX_level ∈ TT := tt_k 258 rfl rfl
theorem wfX_68 : Cond.fieldLink "TokenRow" 68 "TokenRow" "LEVELS" "[I" ∈ TT := tt_k 262 rfl rfl
theorem wlL_49 : Cond.methodLink "TokenRowLaw" 49 yX_size ∈ TT := tt_k 265 rfl rfl
theorem wlL_53 : Cond.methodLink "TokenRowLaw" 53 yX_textAt ∈ TT := tt_k 269 rfl rfl
theorem wlL_12 : Cond.methodLink "TokenRowLaw" 12 yM_init ∈ TT := tt_k 275 rfl rfl
theorem wfM_7 : Cond.fieldLink "TokenRowModel" 7 "TokenRowModel" "tape" "[I" ∈ TT := tt_k 282 rfl rfl
theorem wfM_54 : Cond.fieldLink "TokenRowModel" 54 "TokenRowModel" "taped" "I" ∈ TT := tt_k 283 rfl rfl
theorem wfM_81 : Cond.fieldLink "TokenRowModel" 81 "TokenRowModel" "count" "I" ∈ TT := tt_k 284 rfl rfl
theorem wfM_13 : Cond.fieldLink "TokenRowModel" 13 "TokenRowModel" "kinds" "[I" ∈ TT := tt_k 285 rfl rfl
theorem wfM_16 : Cond.fieldLink "TokenRowModel" 16 "TokenRowModel" "places" "[I" ∈ TT := tt_k 286 rfl rfl
theorem wfM_19 : Cond.fieldLink "TokenRowModel" 19 "TokenRowModel" "lines" "[I" ∈ TT := tt_k 287 rfl rfl
theorem wfM_22 : Cond.fieldLink "TokenRowModel" 22 "TokenRowModel" "values" "[I" ∈ TT := tt_k 288 rfl rfl
theorem wfM_25 : Cond.fieldLink "TokenRowModel" 25 "TokenRowModel" "begins" "[I" ∈ TT := tt_k 289 rfl rfl
theorem wfM_28 : Cond.fieldLink "TokenRowModel" 28 "TokenRowModel" "sizes" "[I" ∈ TT := tt_k 290 rfl rfl
theorem wfM_31 : Cond.fieldLink "TokenRowModel" 31 "TokenRowModel" "texts" "[I" ∈ TT := tt_k 291 rfl rfl
theorem wfM_84 : Cond.fieldLink "TokenRowModel" 84 "TokenRowModel" "used" "I" ∈ TT := tt_k 292 rfl rfl
theorem wfM_36 : Cond.fieldLink "TokenRowModel" 36 "TokenRowModel" "keywords" "Ljava/lang/String;" ∈ TT := tt_k 293 rfl rfl
theorem wfM_42 : Cond.fieldLink "TokenRowModel" 42 "TokenRowModel" "enders" "Ljava/lang/String;" ∈ TT := tt_k 294 rfl rfl
theorem wfM_47 : Cond.fieldLink "TokenRowModel" 47 "TokenRowModel" "beginners" "Ljava/lang/String;" ∈ TT := tt_k 295 rfl rfl
theorem wfM_71 : Cond.fieldLink "TokenRowModel" 71 "TokenRowModel" "at" "I" ∈ TT := tt_k 296 rfl rfl
theorem wfM_78 : Cond.fieldLink "TokenRowModel" 78 "TokenRowModel" "line" "I" ∈ TT := tt_k 297 rfl rfl
theorem wfM_123 : Cond.fieldLink "TokenRowModel" 123 "TokenRowModel" "kind" "I" ∈ TT := tt_k 298 rfl rfl
theorem wfM_131 : Cond.fieldLink "TokenRowModel" 131 "TokenRowModel" "value" "I" ∈ TT := tt_k 299 rfl rfl
theorem wfM_120 : Cond.fieldLink "TokenRowModel" 120 "TokenRowModel" "behind" "I" ∈ TT := tt_k 300 rfl rfl
theorem wlL_17 : Cond.methodLink "TokenRowLaw" 17 yM_feed ∈ TT := tt_k 342 rfl rfl
theorem wlM_57 : Cond.methodLink "TokenRowModel" 57 yM_put ∈ TT := tt_k 346 rfl rfl
theorem wlL_22 : Cond.methodLink "TokenRowLaw" 22 yM_end ∈ TT := tt_k 350 rfl rfl
theorem wlL_27 : Cond.methodLink "TokenRowLaw" 27 yM_read ∈ TT := tt_k 354 rfl rfl
theorem wlM_166 : Cond.methodLink "TokenRowModel" 166 yM_skip ∈ TT := tt_k 358 rfl rfl
theorem wlM_74 : Cond.methodLink "TokenRowModel" 74 yM_see ∈ TT := tt_k 362 rfl rfl
theorem wlM_169 : Cond.methodLink "TokenRowModel" 169 yM_readToken ∈ TT := tt_k 366 rfl rfl
theorem wlM_65 : Cond.methodLink "TokenRowModel" 65 yM_isLetter ∈ TT := tt_k 370 rfl rfl
theorem wlM_61 : Cond.methodLink "TokenRowModel" 61 yM_isGreat ∈ TT := tt_k 373 rfl rfl
theorem wlM_141 : Cond.methodLink "TokenRowModel" 141 yM_readName ∈ TT := tt_k 376 rfl rfl
theorem wlM_117 : Cond.methodLink "TokenRowModel" 117 yM_isNamed ∈ TT := tt_k 380 rfl rfl
theorem wlM_68 : Cond.methodLink "TokenRowModel" 68 yM_isDigit ∈ TT := tt_k 383 rfl rfl
theorem wlM_144 : Cond.methodLink "TokenRowModel" 144 yM_readDigits ∈ TT := tt_k 386 rfl rfl
theorem wlM_126 : Cond.methodLink "TokenRowModel" 126 yM_digit ∈ TT := tt_k 390 rfl rfl
theorem wlM_148 : Cond.methodLink "TokenRowModel" 148 yM_readByte ∈ TT := tt_k 394 rfl rfl
theorem wlM_134 : Cond.methodLink "TokenRowModel" 134 yM_meaning ∈ TT := tt_k 398 rfl rfl
theorem wlM_138 : Cond.methodLink "TokenRowModel" 138 yM_next ∈ TT := tt_k 402 rfl rfl
theorem wlM_151 : Cond.methodLink "TokenRowModel" 151 yM_readString ∈ TT := tt_k 406 rfl rfl
theorem wlM_154 : Cond.methodLink "TokenRowModel" 154 yM_readSign ∈ TT := tt_k 410 rfl rfl
theorem wlM_157 : Cond.methodLink "TokenRowModel" 157 yM_add ∈ TT := tt_k 414 rfl rfl
theorem wlM_172 : Cond.methodLink "TokenRowModel" 172 yM_keep ∈ TT := tt_k 418 rfl rfl
theorem wlM_160 : Cond.methodLink "TokenRowModel" 160 yM_say ∈ TT := tt_k 422 rfl rfl
theorem wlM_108 : Cond.methodLink "TokenRowModel" 108 yM_isIn ∈ TT := tt_k 426 rfl rfl
theorem wlM_87 : Cond.methodLink "TokenRowModel" 87 yS_length ∈ TT := tt_k 430 rfl rfl
theorem wlM_93 : Cond.methodLink "TokenRowModel" 93 yS_charAt ∈ TT := tt_k 431 rfl rfl
theorem wlM_97 : Cond.methodLink "TokenRowModel" 97 yM_standsAt ∈ TT := tt_k 432 rfl rfl
theorem wlM_163 : Cond.methodLink "TokenRowModel" 163 yM_understand ∈ TT := tt_k 436 rfl rfl
theorem wlM_112 : Cond.methodLink "TokenRowModel" 112 yM_ends ∈ TT := tt_k 440 rfl rfl
theorem wlM_101 : Cond.methodLink "TokenRowModel" 101 yM_isPlain ∈ TT := tt_k 444 rfl rfl
theorem wlM_104 : Cond.methodLink "TokenRowModel" 104 yM_is ∈ TT := tt_k 447 rfl rfl
theorem wlM_115 : Cond.methodLink "TokenRowModel" 115 yM_begins ∈ TT := tt_k 451 rfl rfl
theorem wlL_32 : Cond.methodLink "TokenRowLaw" 32 yM_kind ∈ TT := tt_k 455 rfl rfl
theorem wlM_175 : Cond.methodLink "TokenRowModel" 175 yM_isToken ∈ TT := tt_k 459 rfl rfl
theorem wlL_36 : Cond.methodLink "TokenRowLaw" 36 yM_place ∈ TT := tt_k 463 rfl rfl
theorem wlL_40 : Cond.methodLink "TokenRowLaw" 40 yM_line ∈ TT := tt_k 467 rfl rfl
theorem wlL_44 : Cond.methodLink "TokenRowLaw" 44 yM_value ∈ TT := tt_k 471 rfl rfl
theorem wlL_48 : Cond.methodLink "TokenRowLaw" 48 yM_level ∈ TT := tt_k 475 rfl rfl
theorem wlL_52 : Cond.methodLink "TokenRowLaw" 52 yM_size ∈ TT := tt_k 481 rfl rfl
theorem wlL_57 : Cond.methodLink "TokenRowLaw" 57 yM_textAt ∈ TT := tt_k 485 rfl rfl
theorem wfS_9 : Cond.fieldLink "java/lang/String" 9 "java/lang/String" "value" "[B" ∈ TT := tt_k 489 rfl rfl
theorem wfS_15 : Cond.fieldLink "java/lang/String" 15 "java/lang/String" "coder" "B" ∈ TT := tt_k 490 rfl rfl
theorem wa_int : Cond.arrayClass .int ∈ TT := tt_k 59 rfl rfl
