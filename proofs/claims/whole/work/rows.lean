section
-- ===== PART A: goes FIRST, ahead of the names: the tables' words, and 'selects' of the private methods out of them =====
/-- a private method of a class that the tables say can be made, by its rows of tables_1 -/
def lw_okq (q : MethodName × Nat) : Prop := (q.1.cls ≠ "java/lang/invoke/MethodHandle" ∧ q.1.cls ≠ "java/lang/invoke/VarHandle") ∧ Cond.instantiable q.1.cls q.2 ∈ tables_1 ∧ Cond.privateMethod q.1 ∈ tables_1 ∧ Cond.instanceMethod q.1 ∈ tables_1
theorem lw_p0 : lw_okq (⟨"TokenRow", "appendBytes", "(I)V"⟩, 14) := ⟨⟨by decide +kernel, by decide +kernel⟩, List.mem_of_getElem? (i := 9) (by decide +kernel), List.mem_of_getElem? (i := 65) (by decide +kernel), List.mem_of_getElem? (i := 66) (by decide +kernel)⟩
theorem lw_p1 : lw_okq (⟨"TokenRow", "skipGap", "()V"⟩, 14) := ⟨⟨by decide +kernel, by decide +kernel⟩, List.mem_of_getElem? (i := 9) (by decide +kernel), List.mem_of_getElem? (i := 77) (by decide +kernel), List.mem_of_getElem? (i := 78) (by decide +kernel)⟩
theorem lw_p2 : lw_okq (⟨"TokenRow", "tapeByte", "(I)I"⟩, 14) := ⟨⟨by decide +kernel, by decide +kernel⟩, List.mem_of_getElem? (i := 9) (by decide +kernel), List.mem_of_getElem? (i := 81) (by decide +kernel), List.mem_of_getElem? (i := 82) (by decide +kernel)⟩
theorem lw_p3 : lw_okq (⟨"TokenRow", "readToken", "()Z"⟩, 14) := ⟨⟨by decide +kernel, by decide +kernel⟩, List.mem_of_getElem? (i := 9) (by decide +kernel), List.mem_of_getElem? (i := 88) (by decide +kernel), List.mem_of_getElem? (i := 89) (by decide +kernel)⟩
theorem lw_p4 : lw_okq (⟨"TokenRow", "takeToken", "()I"⟩, 14) := ⟨⟨by decide +kernel, by decide +kernel⟩, List.mem_of_getElem? (i := 9) (by decide +kernel), List.mem_of_getElem? (i := 92) (by decide +kernel), List.mem_of_getElem? (i := 93) (by decide +kernel)⟩
theorem lw_p5 : lw_okq (⟨"TokenRow", "takeWord", "()I"⟩, 14) := ⟨⟨by decide +kernel, by decide +kernel⟩, List.mem_of_getElem? (i := 9) (by decide +kernel), List.mem_of_getElem? (i := 99) (by decide +kernel), List.mem_of_getElem? (i := 100) (by decide +kernel)⟩
theorem lw_p6 : lw_okq (⟨"TokenRow", "isKeyword", "(II)Z"⟩, 14) := ⟨⟨by decide +kernel, by decide +kernel⟩, List.mem_of_getElem? (i := 9) (by decide +kernel), List.mem_of_getElem? (i := 109) (by decide +kernel), List.mem_of_getElem? (i := 110) (by decide +kernel)⟩
theorem lw_p7 : lw_okq (⟨"TokenRow", "takeText", "(I)V"⟩, 14) := ⟨⟨by decide +kernel, by decide +kernel⟩, List.mem_of_getElem? (i := 9) (by decide +kernel), List.mem_of_getElem? (i := 167) (by decide +kernel), List.mem_of_getElem? (i := 168) (by decide +kernel)⟩
theorem lw_p8 : lw_okq (⟨"TokenRow", "appendText", "(I)V"⟩, 14) := ⟨⟨by decide +kernel, by decide +kernel⟩, List.mem_of_getElem? (i := 9) (by decide +kernel), List.mem_of_getElem? (i := 171) (by decide +kernel), List.mem_of_getElem? (i := 172) (by decide +kernel)⟩
theorem lw_p9 : lw_okq (⟨"TokenRow", "takeDigits", "(I)I"⟩, 14) := ⟨⟨by decide +kernel, by decide +kernel⟩, List.mem_of_getElem? (i := 9) (by decide +kernel), List.mem_of_getElem? (i := 175) (by decide +kernel), List.mem_of_getElem? (i := 176) (by decide +kernel)⟩
theorem lw_p10 : lw_okq (⟨"TokenRow", "takeNumberInBase", "()I"⟩, 14) := ⟨⟨by decide +kernel, by decide +kernel⟩, List.mem_of_getElem? (i := 9) (by decide +kernel), List.mem_of_getElem? (i := 186) (by decide +kernel), List.mem_of_getElem? (i := 187) (by decide +kernel)⟩
theorem lw_p11 : lw_okq (⟨"TokenRow", "takeCharacter", "()I"⟩, 14) := ⟨⟨by decide +kernel, by decide +kernel⟩, List.mem_of_getElem? (i := 9) (by decide +kernel), List.mem_of_getElem? (i := 190) (by decide +kernel), List.mem_of_getElem? (i := 191) (by decide +kernel)⟩
theorem lw_p12 : lw_okq (⟨"TokenRow", "takeMeantByte", "(I)I"⟩, 14) := ⟨⟨by decide +kernel, by decide +kernel⟩, List.mem_of_getElem? (i := 9) (by decide +kernel), List.mem_of_getElem? (i := 194) (by decide +kernel), List.mem_of_getElem? (i := 195) (by decide +kernel)⟩
theorem lw_p13 : lw_okq (⟨"TokenRow", "takeString", "()I"⟩, 14) := ⟨⟨by decide +kernel, by decide +kernel⟩, List.mem_of_getElem? (i := 9) (by decide +kernel), List.mem_of_getElem? (i := 201) (by decide +kernel), List.mem_of_getElem? (i := 202) (by decide +kernel)⟩
theorem lw_p14 : lw_okq (⟨"TokenRow", "takeSign", "()I"⟩, 14) := ⟨⟨by decide +kernel, by decide +kernel⟩, List.mem_of_getElem? (i := 9) (by decide +kernel), List.mem_of_getElem? (i := 205) (by decide +kernel), List.mem_of_getElem? (i := 206) (by decide +kernel)⟩
theorem lw_p15 : lw_okq (⟨"TokenRow", "isSemicolonDue", "(III)Z"⟩, 14) := ⟨⟨by decide +kernel, by decide +kernel⟩, List.mem_of_getElem? (i := 9) (by decide +kernel), List.mem_of_getElem? (i := 210) (by decide +kernel), List.mem_of_getElem? (i := 211) (by decide +kernel)⟩
def lw_privs_1 : List (MethodName × Nat) := [(⟨"TokenRow", "appendBytes", "(I)V"⟩, 14), (⟨"TokenRow", "skipGap", "()V"⟩, 14), (⟨"TokenRow", "tapeByte", "(I)I"⟩, 14), (⟨"TokenRow", "readToken", "()Z"⟩, 14), (⟨"TokenRow", "takeToken", "()I"⟩, 14), (⟨"TokenRow", "takeWord", "()I"⟩, 14), (⟨"TokenRow", "isKeyword", "(II)Z"⟩, 14), (⟨"TokenRow", "takeText", "(I)V"⟩, 14), (⟨"TokenRow", "appendText", "(I)V"⟩, 14), (⟨"TokenRow", "takeDigits", "(I)I"⟩, 14), (⟨"TokenRow", "takeNumberInBase", "()I"⟩, 14), (⟨"TokenRow", "takeCharacter", "()I"⟩, 14), (⟨"TokenRow", "takeMeantByte", "(I)I"⟩, 14), (⟨"TokenRow", "takeString", "()I"⟩, 14), (⟨"TokenRow", "takeSign", "()I"⟩, 14), (⟨"TokenRow", "isSemicolonDue", "(III)Z"⟩, 14)]
theorem lw_r1 : ∀ q ∈ lw_privs_1, lw_okq q := List.forall_mem_cons.mpr ⟨lw_p0, List.forall_mem_cons.mpr ⟨lw_p1, List.forall_mem_cons.mpr ⟨lw_p2, List.forall_mem_cons.mpr ⟨lw_p3, List.forall_mem_cons.mpr ⟨lw_p4, List.forall_mem_cons.mpr ⟨lw_p5, List.forall_mem_cons.mpr ⟨lw_p6, List.forall_mem_cons.mpr ⟨lw_p7, List.forall_mem_cons.mpr ⟨lw_p8, List.forall_mem_cons.mpr ⟨lw_p9, List.forall_mem_cons.mpr ⟨lw_p10, List.forall_mem_cons.mpr ⟨lw_p11, List.forall_mem_cons.mpr ⟨lw_p12, List.forall_mem_cons.mpr ⟨lw_p13, List.forall_mem_cons.mpr ⟨lw_p14, List.forall_mem_cons.mpr ⟨lw_p15, fun _ h => absurd h List.not_mem_nil⟩⟩⟩⟩⟩⟩⟩⟩⟩⟩⟩⟩⟩⟩⟩⟩
theorem lw_p16 : lw_okq (⟨"TokenRow", "isToken", "(I)Z"⟩, 14) := ⟨⟨by decide +kernel, by decide +kernel⟩, List.mem_of_getElem? (i := 9) (by decide +kernel), List.mem_of_getElem? (i := 214) (by decide +kernel), List.mem_of_getElem? (i := 215) (by decide +kernel)⟩
theorem lw_p17 : lw_okq (⟨"TokenRow", "mayEndStatement", "(III)Z"⟩, 14) := ⟨⟨by decide +kernel, by decide +kernel⟩, List.mem_of_getElem? (i := 9) (by decide +kernel), List.mem_of_getElem? (i := 218) (by decide +kernel), List.mem_of_getElem? (i := 219) (by decide +kernel)⟩
theorem lw_p18 : lw_okq (⟨"TokenRow", "mayBeginStatement", "(III)Z"⟩, 14) := ⟨⟨by decide +kernel, by decide +kernel⟩, List.mem_of_getElem? (i := 9) (by decide +kernel), List.mem_of_getElem? (i := 229) (by decide +kernel), List.mem_of_getElem? (i := 230) (by decide +kernel)⟩
theorem lw_p19 : lw_okq (⟨"TokenRow", "addSemicolon", "(I)V"⟩, 14) := ⟨⟨by decide +kernel, by decide +kernel⟩, List.mem_of_getElem? (i := 9) (by decide +kernel), List.mem_of_getElem? (i := 234) (by decide +kernel), List.mem_of_getElem? (i := 235) (by decide +kernel)⟩
theorem lw_p20 : lw_okq (⟨"TokenRow", "addToken", "(IIIII)V"⟩, 14) := ⟨⟨by decide +kernel, by decide +kernel⟩, List.mem_of_getElem? (i := 9) (by decide +kernel), List.mem_of_getElem? (i := 238) (by decide +kernel), List.mem_of_getElem? (i := 239) (by decide +kernel)⟩
theorem lw_p21 : lw_okq (⟨"TokenRowModel", "put", "(I)V"⟩, 20) := ⟨⟨by decide +kernel, by decide +kernel⟩, List.mem_of_getElem? (i := 274) (by decide +kernel), List.mem_of_getElem? (i := 347) (by decide +kernel), List.mem_of_getElem? (i := 348) (by decide +kernel)⟩
theorem lw_p22 : lw_okq (⟨"TokenRowModel", "skip", "()V"⟩, 20) := ⟨⟨by decide +kernel, by decide +kernel⟩, List.mem_of_getElem? (i := 274) (by decide +kernel), List.mem_of_getElem? (i := 359) (by decide +kernel), List.mem_of_getElem? (i := 360) (by decide +kernel)⟩
theorem lw_p23 : lw_okq (⟨"TokenRowModel", "see", "(I)I"⟩, 20) := ⟨⟨by decide +kernel, by decide +kernel⟩, List.mem_of_getElem? (i := 274) (by decide +kernel), List.mem_of_getElem? (i := 363) (by decide +kernel), List.mem_of_getElem? (i := 364) (by decide +kernel)⟩
theorem lw_p24 : lw_okq (⟨"TokenRowModel", "readToken", "()V"⟩, 20) := ⟨⟨by decide +kernel, by decide +kernel⟩, List.mem_of_getElem? (i := 274) (by decide +kernel), List.mem_of_getElem? (i := 367) (by decide +kernel), List.mem_of_getElem? (i := 368) (by decide +kernel)⟩
theorem lw_p25 : lw_okq (⟨"TokenRowModel", "readName", "()V"⟩, 20) := ⟨⟨by decide +kernel, by decide +kernel⟩, List.mem_of_getElem? (i := 274) (by decide +kernel), List.mem_of_getElem? (i := 377) (by decide +kernel), List.mem_of_getElem? (i := 378) (by decide +kernel)⟩
theorem lw_p26 : lw_okq (⟨"TokenRowModel", "readDigits", "(II)V"⟩, 20) := ⟨⟨by decide +kernel, by decide +kernel⟩, List.mem_of_getElem? (i := 274) (by decide +kernel), List.mem_of_getElem? (i := 387) (by decide +kernel), List.mem_of_getElem? (i := 388) (by decide +kernel)⟩
theorem lw_p27 : lw_okq (⟨"TokenRowModel", "readByte", "()V"⟩, 20) := ⟨⟨by decide +kernel, by decide +kernel⟩, List.mem_of_getElem? (i := 274) (by decide +kernel), List.mem_of_getElem? (i := 395) (by decide +kernel), List.mem_of_getElem? (i := 396) (by decide +kernel)⟩
theorem lw_p28 : lw_okq (⟨"TokenRowModel", "meaning", "(II)I"⟩, 20) := ⟨⟨by decide +kernel, by decide +kernel⟩, List.mem_of_getElem? (i := 274) (by decide +kernel), List.mem_of_getElem? (i := 399) (by decide +kernel), List.mem_of_getElem? (i := 400) (by decide +kernel)⟩
theorem lw_p29 : lw_okq (⟨"TokenRowModel", "next", "(I)I"⟩, 20) := ⟨⟨by decide +kernel, by decide +kernel⟩, List.mem_of_getElem? (i := 274) (by decide +kernel), List.mem_of_getElem? (i := 403) (by decide +kernel), List.mem_of_getElem? (i := 404) (by decide +kernel)⟩
theorem lw_p30 : lw_okq (⟨"TokenRowModel", "readString", "()V"⟩, 20) := ⟨⟨by decide +kernel, by decide +kernel⟩, List.mem_of_getElem? (i := 274) (by decide +kernel), List.mem_of_getElem? (i := 407) (by decide +kernel), List.mem_of_getElem? (i := 408) (by decide +kernel)⟩
theorem lw_p31 : lw_okq (⟨"TokenRowModel", "readSign", "()V"⟩, 20) := ⟨⟨by decide +kernel, by decide +kernel⟩, List.mem_of_getElem? (i := 274) (by decide +kernel), List.mem_of_getElem? (i := 411) (by decide +kernel), List.mem_of_getElem? (i := 412) (by decide +kernel)⟩
def lw_privs_2 : List (MethodName × Nat) := [(⟨"TokenRow", "isToken", "(I)Z"⟩, 14), (⟨"TokenRow", "mayEndStatement", "(III)Z"⟩, 14), (⟨"TokenRow", "mayBeginStatement", "(III)Z"⟩, 14), (⟨"TokenRow", "addSemicolon", "(I)V"⟩, 14), (⟨"TokenRow", "addToken", "(IIIII)V"⟩, 14), (⟨"TokenRowModel", "put", "(I)V"⟩, 20), (⟨"TokenRowModel", "skip", "()V"⟩, 20), (⟨"TokenRowModel", "see", "(I)I"⟩, 20), (⟨"TokenRowModel", "readToken", "()V"⟩, 20), (⟨"TokenRowModel", "readName", "()V"⟩, 20), (⟨"TokenRowModel", "readDigits", "(II)V"⟩, 20), (⟨"TokenRowModel", "readByte", "()V"⟩, 20), (⟨"TokenRowModel", "meaning", "(II)I"⟩, 20), (⟨"TokenRowModel", "next", "(I)I"⟩, 20), (⟨"TokenRowModel", "readString", "()V"⟩, 20), (⟨"TokenRowModel", "readSign", "()V"⟩, 20)]
theorem lw_r2 : ∀ q ∈ lw_privs_2, lw_okq q := List.forall_mem_cons.mpr ⟨lw_p16, List.forall_mem_cons.mpr ⟨lw_p17, List.forall_mem_cons.mpr ⟨lw_p18, List.forall_mem_cons.mpr ⟨lw_p19, List.forall_mem_cons.mpr ⟨lw_p20, List.forall_mem_cons.mpr ⟨lw_p21, List.forall_mem_cons.mpr ⟨lw_p22, List.forall_mem_cons.mpr ⟨lw_p23, List.forall_mem_cons.mpr ⟨lw_p24, List.forall_mem_cons.mpr ⟨lw_p25, List.forall_mem_cons.mpr ⟨lw_p26, List.forall_mem_cons.mpr ⟨lw_p27, List.forall_mem_cons.mpr ⟨lw_p28, List.forall_mem_cons.mpr ⟨lw_p29, List.forall_mem_cons.mpr ⟨lw_p30, List.forall_mem_cons.mpr ⟨lw_p31, fun _ h => absurd h List.not_mem_nil⟩⟩⟩⟩⟩⟩⟩⟩⟩⟩⟩⟩⟩⟩⟩⟩
theorem lw_p32 : lw_okq (⟨"TokenRowModel", "add", "(II)V"⟩, 20) := ⟨⟨by decide +kernel, by decide +kernel⟩, List.mem_of_getElem? (i := 274) (by decide +kernel), List.mem_of_getElem? (i := 415) (by decide +kernel), List.mem_of_getElem? (i := 416) (by decide +kernel)⟩
theorem lw_p33 : lw_okq (⟨"TokenRowModel", "keep", "()V"⟩, 20) := ⟨⟨by decide +kernel, by decide +kernel⟩, List.mem_of_getElem? (i := 274) (by decide +kernel), List.mem_of_getElem? (i := 419) (by decide +kernel), List.mem_of_getElem? (i := 420) (by decide +kernel)⟩
theorem lw_p34 : lw_okq (⟨"TokenRowModel", "say", "(I)V"⟩, 20) := ⟨⟨by decide +kernel, by decide +kernel⟩, List.mem_of_getElem? (i := 274) (by decide +kernel), List.mem_of_getElem? (i := 423) (by decide +kernel), List.mem_of_getElem? (i := 424) (by decide +kernel)⟩
theorem lw_p35 : lw_okq (⟨"TokenRowModel", "isIn", "(ILjava/lang/String;)Z"⟩, 20) := ⟨⟨by decide +kernel, by decide +kernel⟩, List.mem_of_getElem? (i := 274) (by decide +kernel), List.mem_of_getElem? (i := 427) (by decide +kernel), List.mem_of_getElem? (i := 428) (by decide +kernel)⟩
theorem lw_p36 : lw_okq (⟨"TokenRowModel", "standsAt", "(ILjava/lang/String;I)Z"⟩, 20) := ⟨⟨by decide +kernel, by decide +kernel⟩, List.mem_of_getElem? (i := 274) (by decide +kernel), List.mem_of_getElem? (i := 433) (by decide +kernel), List.mem_of_getElem? (i := 434) (by decide +kernel)⟩
theorem lw_p37 : lw_okq (⟨"TokenRowModel", "understand", "()V"⟩, 20) := ⟨⟨by decide +kernel, by decide +kernel⟩, List.mem_of_getElem? (i := 274) (by decide +kernel), List.mem_of_getElem? (i := 437) (by decide +kernel), List.mem_of_getElem? (i := 438) (by decide +kernel)⟩
theorem lw_p38 : lw_okq (⟨"TokenRowModel", "ends", "(I)Z"⟩, 20) := ⟨⟨by decide +kernel, by decide +kernel⟩, List.mem_of_getElem? (i := 274) (by decide +kernel), List.mem_of_getElem? (i := 441) (by decide +kernel), List.mem_of_getElem? (i := 442) (by decide +kernel)⟩
theorem lw_p39 : lw_okq (⟨"TokenRowModel", "is", "(III)Z"⟩, 20) := ⟨⟨by decide +kernel, by decide +kernel⟩, List.mem_of_getElem? (i := 274) (by decide +kernel), List.mem_of_getElem? (i := 448) (by decide +kernel), List.mem_of_getElem? (i := 449) (by decide +kernel)⟩
theorem lw_p40 : lw_okq (⟨"TokenRowModel", "begins", "(I)Z"⟩, 20) := ⟨⟨by decide +kernel, by decide +kernel⟩, List.mem_of_getElem? (i := 274) (by decide +kernel), List.mem_of_getElem? (i := 452) (by decide +kernel), List.mem_of_getElem? (i := 453) (by decide +kernel)⟩
theorem lw_p41 : lw_okq (⟨"TokenRowModel", "isToken", "(I)Z"⟩, 20) := ⟨⟨by decide +kernel, by decide +kernel⟩, List.mem_of_getElem? (i := 274) (by decide +kernel), List.mem_of_getElem? (i := 460) (by decide +kernel), List.mem_of_getElem? (i := 461) (by decide +kernel)⟩
def lw_privs_3 : List (MethodName × Nat) := [(⟨"TokenRowModel", "add", "(II)V"⟩, 20), (⟨"TokenRowModel", "keep", "()V"⟩, 20), (⟨"TokenRowModel", "say", "(I)V"⟩, 20), (⟨"TokenRowModel", "isIn", "(ILjava/lang/String;)Z"⟩, 20), (⟨"TokenRowModel", "standsAt", "(ILjava/lang/String;I)Z"⟩, 20), (⟨"TokenRowModel", "understand", "()V"⟩, 20), (⟨"TokenRowModel", "ends", "(I)Z"⟩, 20), (⟨"TokenRowModel", "is", "(III)Z"⟩, 20), (⟨"TokenRowModel", "begins", "(I)Z"⟩, 20), (⟨"TokenRowModel", "isToken", "(I)Z"⟩, 20)]
theorem lw_r3 : ∀ q ∈ lw_privs_3, lw_okq q := List.forall_mem_cons.mpr ⟨lw_p32, List.forall_mem_cons.mpr ⟨lw_p33, List.forall_mem_cons.mpr ⟨lw_p34, List.forall_mem_cons.mpr ⟨lw_p35, List.forall_mem_cons.mpr ⟨lw_p36, List.forall_mem_cons.mpr ⟨lw_p37, List.forall_mem_cons.mpr ⟨lw_p38, List.forall_mem_cons.mpr ⟨lw_p39, List.forall_mem_cons.mpr ⟨lw_p40, List.forall_mem_cons.mpr ⟨lw_p41, fun _ h => absurd h List.not_mem_nil⟩⟩⟩⟩⟩⟩⟩⟩⟩⟩
def lw_privs : List (MethodName × Nat) := lw_privs_1 ++ (lw_privs_2 ++ (lw_privs_3))
def lw_tbl : List Cond := k2_sels lw_privs ++ tables_1
theorem lw_privs_ok : ∀ q ∈ lw_privs, lw_okq q := by
  show ∀ q ∈ lw_privs_1 ++ (lw_privs_2 ++ (lw_privs_3)), lw_okq q
  exact List.forall_mem_append.mpr ⟨lw_r1, List.forall_mem_append.mpr ⟨lw_r2, lw_r3⟩⟩

/-! words: every method of this claim carries its own code word ahead of one list TT, all good words of the tables -/
def TT : List Cond := lw_tbl.filter goodWord
theorem tt_in {w : Cond} (h : w ∈ lw_tbl) (g : goodWord w = true) : w ∈ TT := List.mem_filter.mpr ⟨h, g⟩
theorem tt_k (k : Nat) {w : Cond} (h : tables_1[k]? = some w) (g : goodWord w = true) : w ∈ TT := tt_in (List.mem_append_right _ (List.mem_of_getElem? h)) g
theorem tt_s (k : Nat) {w : Cond} (h : (k2_sels lw_privs)[k]? = some w) (g : goodWord w = true) : w ∈ TT := tt_in (List.mem_append_left _ (List.mem_of_getElem? h)) g
theorem tt_cc {c z : Cond} (hz : z ∈ TT) : GoodIn (c :: TT) (z :: TT) := by
  intro w hw
  have hw : w ∈ TT := by
    rcases List.mem_cons.mp hw with h | h
    · rw [h]; exact hz
    · exact h
  exact ⟨List.mem_cons_of_mem _ hw, good_of_word (List.mem_filter.mp hw).2⟩
theorem tt_lw {z : Cond} (hz : z ∈ TT) : GoodIn lw_tbl (z :: TT) := by
  intro w hw
  have hw : w ∈ TT := by
    rcases List.mem_cons.mp hw with h | h
    · rw [h]; exact hz
    · exact h
  exact ⟨(List.mem_filter.mp hw).1, good_of_word (List.mem_filter.mp hw).2⟩
def RX : String := "TokenRow"
def TX : u_T := fun k => match k with
  | 0 => ("TokenRow", "tape", "[I", true)
  | 1 => ("TokenRow", "tapeSize", "I", false)
  | 2 => ("TokenRow", "kinds", "[I", true)
  | 3 => ("TokenRow", "places", "[I", true)
  | 4 => ("TokenRow", "lines", "[I", true)
  | 5 => ("TokenRow", "values", "[I", true)
  | 6 => ("TokenRow", "textStarts", "[I", true)
  | 7 => ("TokenRow", "textSizes", "[I", true)
  | 8 => ("TokenRow", "count", "I", false)
  | 9 => ("TokenRow", "text", "[I", true)
  | 10 => ("TokenRow", "textEnd", "I", false)
  | 11 => ("TokenRow", "at", "I", false)
  | 12 => ("TokenRow", "atLine", "I", false)
  | _ => ("TokenRow", "bits", "I", false)
def tyX : Nat → FieldType := fun k => match k with
  | 0 => .array .int
  | 1 => .int
  | 2 => .array .int
  | 3 => .array .int
  | 4 => .array .int
  | 5 => .array .int
  | 6 => .array .int
  | 7 => .array .int
  | 8 => .int
  | 9 => .array .int
  | 10 => .int
  | 11 => .int
  | 12 => .int
  | _ => .int
theorem nmX : ∀ a, a < 14 → ∀ b, b < 14 → a ≠ b → (TX a).2.1 ≠ (TX b).2.1 := by decide +kernel
theorem tyX_ok : ∀ k, k < 14 → parseFieldDescriptor (TX k).2.2.1 = some (tyX k) := by decide +kernel
theorem inlX : ∀ w ∈ u_ws RX TX 14, w ∈ lw_tbl := by decide +kernel
theorem inX : ∀ w ∈ u_ws RX TX 14, w ∈ TT := fun w h => tt_in (inlX w h) ((by decide +kernel : ∀ w ∈ u_ws RX TX 14, goodWord w = true) w h)
def RM : String := "TokenRowModel"
def TM : u_T := fun k => match k with
  | 0 => ("TokenRowModel", "thrown", "I", false)
  | 1 => ("TokenRowModel", "tape", "[I", true)
  | 2 => ("TokenRowModel", "taped", "I", false)
  | 3 => ("TokenRowModel", "count", "I", false)
  | 4 => ("TokenRowModel", "kinds", "[I", true)
  | 5 => ("TokenRowModel", "places", "[I", true)
  | 6 => ("TokenRowModel", "lines", "[I", true)
  | 7 => ("TokenRowModel", "values", "[I", true)
  | 8 => ("TokenRowModel", "begins", "[I", true)
  | 9 => ("TokenRowModel", "sizes", "[I", true)
  | 10 => ("TokenRowModel", "texts", "[I", true)
  | 11 => ("TokenRowModel", "used", "I", false)
  | 12 => ("TokenRowModel", "keywords", "Ljava/lang/String;", true)
  | 13 => ("TokenRowModel", "enders", "Ljava/lang/String;", true)
  | 14 => ("TokenRowModel", "beginners", "Ljava/lang/String;", true)
  | 15 => ("TokenRowModel", "at", "I", false)
  | 16 => ("TokenRowModel", "line", "I", false)
  | 17 => ("TokenRowModel", "kind", "I", false)
  | 18 => ("TokenRowModel", "value", "I", false)
  | _ => ("TokenRowModel", "behind", "I", false)
def tyM : Nat → FieldType := fun k => match k with
  | 0 => .int
  | 1 => .array .int
  | 2 => .int
  | 3 => .int
  | 4 => .array .int
  | 5 => .array .int
  | 6 => .array .int
  | 7 => .array .int
  | 8 => .array .int
  | 9 => .array .int
  | 10 => .array .int
  | 11 => .int
  | 12 => .object "java/lang/String"
  | 13 => .object "java/lang/String"
  | 14 => .object "java/lang/String"
  | 15 => .int
  | 16 => .int
  | 17 => .int
  | 18 => .int
  | _ => .int
theorem nmM : ∀ a, a < 20 → ∀ b, b < 20 → a ≠ b → (TM a).2.1 ≠ (TM b).2.1 := by decide +kernel
theorem tyM_ok : ∀ k, k < 20 → parseFieldDescriptor (TM k).2.2.1 = some (tyM k) := by decide +kernel
theorem inlM : ∀ w ∈ u_ws RM TM 20, w ∈ lw_tbl := by decide +kernel
theorem inM : ∀ w ∈ u_ws RM TM 20, w ∈ TT := fun w h => tt_in (inlM w h) ((by decide +kernel : ∀ w ∈ u_ws RM TM 20, goodWord w = true) w h)
abbrev clT : List vw_C := [(RX, TX, 14), (RM, TM, 20)]
abbrev cX_init : ByteArray := prog_1_method_1_code
def yX_init : MethodName := ⟨"TokenRow", "<init>", "()V"⟩
theorem wcX_init : Cond.code yX_init cX_init 1 none ∈ TT := tt_k 12 rfl rfl
theorem wiX_init : Cond.instanceMethod yX_init ∈ TT := tt_k 11 rfl rfl
abbrev cX_feed : ByteArray := prog_1_method_2_code
def yX_feed : MethodName := ⟨"TokenRow", "feed", "(IIIII)Z"⟩
theorem wcX_feed : Cond.code yX_feed cX_feed 6 (some .boolean) ∈ TT := tt_k 63 rfl rfl
theorem wiX_feed : Cond.instanceMethod yX_feed ∈ TT := tt_k 61 rfl rfl
theorem weX_feed : Cond.selects "TokenRow" yX_feed yX_feed ∈ TT := tt_k 62 rfl rfl
abbrev cX_appendBytes : ByteArray := prog_1_method_12_code
def yX_appendBytes : MethodName := ⟨"TokenRow", "appendBytes", "(I)V"⟩
theorem wcX_appendBytes : Cond.code yX_appendBytes cX_appendBytes 3 none ∈ TT := tt_k 67 rfl rfl
theorem wiX_appendBytes : Cond.instanceMethod yX_appendBytes ∈ TT := tt_k 66 rfl rfl
theorem weX_appendBytes : Cond.selects "TokenRow" yX_appendBytes yX_appendBytes ∈ TT := tt_s 0 rfl rfl
abbrev cX_end : ByteArray := prog_1_method_3_code
def yX_end : MethodName := ⟨"TokenRow", "end", "(I)Z"⟩
theorem wcX_end : Cond.code yX_end cX_end 2 (some .boolean) ∈ TT := tt_k 71 rfl rfl
theorem wiX_end : Cond.instanceMethod yX_end ∈ TT := tt_k 69 rfl rfl
theorem weX_end : Cond.selects "TokenRow" yX_end yX_end ∈ TT := tt_k 70 rfl rfl
abbrev cX_read : ByteArray := prog_1_method_4_code
def yX_read : MethodName := ⟨"TokenRow", "read", "()I"⟩
theorem wcX_read : Cond.code yX_read cX_read 3 (some .int) ∈ TT := tt_k 75 rfl rfl
theorem wiX_read : Cond.instanceMethod yX_read ∈ TT := tt_k 73 rfl rfl
theorem weX_read : Cond.selects "TokenRow" yX_read yX_read ∈ TT := tt_k 74 rfl rfl
abbrev cX_skipGap : ByteArray := prog_1_method_15_code
def yX_skipGap : MethodName := ⟨"TokenRow", "skipGap", "()V"⟩
theorem wcX_skipGap : Cond.code yX_skipGap cX_skipGap 3 none ∈ TT := tt_k 79 rfl rfl
theorem wiX_skipGap : Cond.instanceMethod yX_skipGap ∈ TT := tt_k 78 rfl rfl
theorem weX_skipGap : Cond.selects "TokenRow" yX_skipGap yX_skipGap ∈ TT := tt_s 1 rfl rfl
abbrev cX_tapeByte : ByteArray := prog_1_method_13_code
def yX_tapeByte : MethodName := ⟨"TokenRow", "tapeByte", "(I)I"⟩
theorem wcX_tapeByte : Cond.code yX_tapeByte cX_tapeByte 2 (some .int) ∈ TT := tt_k 83 rfl rfl
theorem wiX_tapeByte : Cond.instanceMethod yX_tapeByte ∈ TT := tt_k 82 rfl rfl
theorem weX_tapeByte : Cond.selects "TokenRow" yX_tapeByte yX_tapeByte ∈ TT := tt_s 2 rfl rfl
abbrev cX_elementAt : ByteArray := prog_1_method_14_code
def yX_elementAt : MethodName := ⟨"TokenRow", "elementAt", "([II)I"⟩
theorem wcX_elementAt : Cond.code yX_elementAt cX_elementAt 2 (some .int) ∈ TT := tt_k 86 rfl rfl
theorem wsX_elementAt : Cond.static yX_elementAt ∈ TT := tt_k 85 rfl rfl
abbrev cX_readToken : ByteArray := prog_1_method_16_code
def yX_readToken : MethodName := ⟨"TokenRow", "readToken", "()Z"⟩
theorem wcX_readToken : Cond.code yX_readToken cX_readToken 5 (some .boolean) ∈ TT := tt_k 90 rfl rfl
theorem wiX_readToken : Cond.instanceMethod yX_readToken ∈ TT := tt_k 89 rfl rfl
theorem weX_readToken : Cond.selects "TokenRow" yX_readToken yX_readToken ∈ TT := tt_s 3 rfl rfl
abbrev cX_takeToken : ByteArray := prog_1_method_17_code
def yX_takeToken : MethodName := ⟨"TokenRow", "takeToken", "()I"⟩
theorem wcX_takeToken : Cond.code yX_takeToken cX_takeToken 2 (some .int) ∈ TT := tt_k 94 rfl rfl
theorem wiX_takeToken : Cond.instanceMethod yX_takeToken ∈ TT := tt_k 93 rfl rfl
theorem weX_takeToken : Cond.selects "TokenRow" yX_takeToken yX_takeToken ∈ TT := tt_s 4 rfl rfl
abbrev cX_isLetter : ByteArray := prog_1_method_28_code
def yX_isLetter : MethodName := ⟨"TokenRow", "isLetter", "(I)Z"⟩
theorem wcX_isLetter : Cond.code yX_isLetter cX_isLetter 1 (some .boolean) ∈ TT := tt_k 97 rfl rfl
theorem wsX_isLetter : Cond.static yX_isLetter ∈ TT := tt_k 96 rfl rfl
abbrev cX_takeWord : ByteArray := prog_1_method_18_code
def yX_takeWord : MethodName := ⟨"TokenRow", "takeWord", "()I"⟩
theorem wcX_takeWord : Cond.code yX_takeWord cX_takeWord 4 (some .int) ∈ TT := tt_k 101 rfl rfl
theorem wiX_takeWord : Cond.instanceMethod yX_takeWord ∈ TT := tt_k 100 rfl rfl
theorem weX_takeWord : Cond.selects "TokenRow" yX_takeWord yX_takeWord ∈ TT := tt_s 5 rfl rfl
abbrev cX_isNameByte : ByteArray := prog_1_method_30_code
def yX_isNameByte : MethodName := ⟨"TokenRow", "isNameByte", "(I)Z"⟩
theorem wcX_isNameByte : Cond.code yX_isNameByte cX_isNameByte 1 (some .boolean) ∈ TT := tt_k 104 rfl rfl
theorem wsX_isNameByte : Cond.static yX_isNameByte ∈ TT := tt_k 103 rfl rfl
abbrev cX_isDecimalDigit : ByteArray := prog_1_method_29_code
def yX_isDecimalDigit : MethodName := ⟨"TokenRow", "isDecimalDigit", "(I)Z"⟩
theorem wcX_isDecimalDigit : Cond.code yX_isDecimalDigit cX_isDecimalDigit 1 (some .boolean) ∈ TT := tt_k 107 rfl rfl
theorem wsX_isDecimalDigit : Cond.static yX_isDecimalDigit ∈ TT := tt_k 106 rfl rfl
abbrev cX_isKeyword : ByteArray := prog_1_method_32_code
def yX_isKeyword : MethodName := ⟨"TokenRow", "isKeyword", "(II)Z"⟩
theorem wcX_isKeyword : Cond.code yX_isKeyword cX_isKeyword 3 (some .boolean) ∈ TT := tt_k 111 rfl rfl
theorem wiX_isKeyword : Cond.instanceMethod yX_isKeyword ∈ TT := tt_k 110 rfl rfl
theorem weX_isKeyword : Cond.selects "TokenRow" yX_isKeyword yX_isKeyword ∈ TT := tt_s 6 rfl rfl
abbrev cX_numberInList : ByteArray := prog_1_method_33_code
def yX_numberInList : MethodName := ⟨"TokenRow", "numberInList", "(Ljava/lang/String;[III)I"⟩
theorem wcX_numberInList : Cond.code yX_numberInList cX_numberInList 8 (some .int) ∈ TT := tt_k 115 rfl rfl
theorem wsX_numberInList : Cond.static yX_numberInList ∈ TT := tt_k 114 rfl rfl
abbrev cS_length : ByteArray := prog_5_method_54_code
def yS_length : MethodName := ⟨"java/lang/String", "length", "()I"⟩
theorem wcS_length : Cond.code yS_length cS_length 1 (some .int) ∈ TT := tt_k 119 rfl rfl
theorem wiS_length : Cond.instanceMethod yS_length ∈ TT := tt_k 117 rfl rfl
theorem weS_length : Cond.selects "java/lang/String" yS_length yS_length ∈ TT := tt_k 118 rfl rfl
abbrev cS_coder : ByteArray := prog_5_method_152_code
def yS_coder : MethodName := ⟨"java/lang/String", "coder", "()B"⟩
theorem wcS_coder : Cond.code yS_coder cS_coder 1 (some .byte) ∈ TT := tt_k 123 rfl rfl
theorem wiS_coder : Cond.instanceMethod yS_coder ∈ TT := tt_k 121 rfl rfl
theorem weS_coder : Cond.selects "java/lang/String" yS_coder yS_coder ∈ TT := tt_k 122 rfl rfl
abbrev cS_charAt : ByteArray := prog_5_method_56_code
def yS_charAt : MethodName := ⟨"java/lang/String", "charAt", "(I)C"⟩
theorem wcS_charAt : Cond.code yS_charAt cS_charAt 2 (some .char) ∈ TT := tt_k 129 rfl rfl
theorem wiS_charAt : Cond.instanceMethod yS_charAt ∈ TT := tt_k 127 rfl rfl
theorem weS_charAt : Cond.selects "java/lang/String" yS_charAt yS_charAt ∈ TT := tt_k 128 rfl rfl
abbrev cS_isLatin1 : ByteArray := prog_5_method_154_code
def yS_isLatin1 : MethodName := ⟨"java/lang/String", "isLatin1", "()Z"⟩
theorem wcS_isLatin1 : Cond.code yS_isLatin1 cS_isLatin1 1 (some .boolean) ∈ TT := tt_k 133 rfl rfl
theorem wiS_isLatin1 : Cond.instanceMethod yS_isLatin1 ∈ TT := tt_k 131 rfl rfl
theorem weS_isLatin1 : Cond.selects "java/lang/String" yS_isLatin1 yS_isLatin1 ∈ TT := tt_k 132 rfl rfl
abbrev cL1_charAt : ByteArray := prog_6_method_2_code
def yL1_charAt : MethodName := ⟨"java/lang/StringLatin1", "charAt", "([BI)C"⟩
theorem wcL1_charAt : Cond.code yL1_charAt cL1_charAt 2 (some .char) ∈ TT := tt_k 136 rfl rfl
theorem wsL1_charAt : Cond.static yL1_charAt ∈ TT := tt_k 135 rfl rfl
abbrev cS_checkIndex : ByteArray := prog_5_method_155_code
def yS_checkIndex : MethodName := ⟨"java/lang/String", "checkIndex", "(II)V"⟩
theorem wcS_checkIndex : Cond.code yS_checkIndex cS_checkIndex 2 none ∈ TT := tt_k 139 rfl rfl
theorem wsS_checkIndex : Cond.static yS_checkIndex ∈ TT := tt_k 138 rfl rfl
abbrev cP_checkIndex : ByteArray := prog_8_method_11_code
def yP_checkIndex : MethodName := ⟨"jdk/internal/util/Preconditions", "checkIndex", "(IILjava/util/function/BiFunction;)I"⟩
theorem wcP_checkIndex : Cond.code yP_checkIndex cP_checkIndex 3 (some .int) ∈ TT := tt_k 144 rfl rfl
theorem wsP_checkIndex : Cond.static yP_checkIndex ∈ TT := tt_k 143 rfl rfl
abbrev cX_takeText : ByteArray := prog_1_method_26_code
def yX_takeText : MethodName := ⟨"TokenRow", "takeText", "(I)V"⟩
theorem wcX_takeText : Cond.code yX_takeText cX_takeText 3 none ∈ TT := tt_k 169 rfl rfl
theorem wiX_takeText : Cond.instanceMethod yX_takeText ∈ TT := tt_k 168 rfl rfl
theorem weX_takeText : Cond.selects "TokenRow" yX_takeText yX_takeText ∈ TT := tt_s 7 rfl rfl
abbrev cX_appendText : ByteArray := prog_1_method_27_code
def yX_appendText : MethodName := ⟨"TokenRow", "appendText", "(I)V"⟩
theorem wcX_appendText : Cond.code yX_appendText cX_appendText 2 none ∈ TT := tt_k 173 rfl rfl
theorem wiX_appendText : Cond.instanceMethod yX_appendText ∈ TT := tt_k 172 rfl rfl
theorem weX_appendText : Cond.selects "TokenRow" yX_appendText yX_appendText ∈ TT := tt_s 8 rfl rfl
abbrev cX_takeDigits : ByteArray := prog_1_method_21_code
def yX_takeDigits : MethodName := ⟨"TokenRow", "takeDigits", "(I)I"⟩
theorem wcX_takeDigits : Cond.code yX_takeDigits cX_takeDigits 6 (some .int) ∈ TT := tt_k 177 rfl rfl
theorem wiX_takeDigits : Cond.instanceMethod yX_takeDigits ∈ TT := tt_k 176 rfl rfl
theorem weX_takeDigits : Cond.selects "TokenRow" yX_takeDigits yX_takeDigits ∈ TT := tt_s 9 rfl rfl
abbrev cX_digitOf : ByteArray := prog_1_method_31_code
def yX_digitOf : MethodName := ⟨"TokenRow", "digitOf", "(I)I"⟩
theorem wcX_digitOf : Cond.code yX_digitOf cX_digitOf 1 (some .int) ∈ TT := tt_k 180 rfl rfl
theorem wsX_digitOf : Cond.static yX_digitOf ∈ TT := tt_k 179 rfl rfl
abbrev cX_takeNumberInBase : ByteArray := prog_1_method_20_code
def yX_takeNumberInBase : MethodName := ⟨"TokenRow", "takeNumberInBase", "()I"⟩
theorem wcX_takeNumberInBase : Cond.code yX_takeNumberInBase cX_takeNumberInBase 1 (some .int) ∈ TT := tt_k 188 rfl rfl
theorem wiX_takeNumberInBase : Cond.instanceMethod yX_takeNumberInBase ∈ TT := tt_k 187 rfl rfl
theorem weX_takeNumberInBase : Cond.selects "TokenRow" yX_takeNumberInBase yX_takeNumberInBase ∈ TT := tt_s 10 rfl rfl
abbrev cX_takeCharacter : ByteArray := prog_1_method_22_code
def yX_takeCharacter : MethodName := ⟨"TokenRow", "takeCharacter", "()I"⟩
theorem wcX_takeCharacter : Cond.code yX_takeCharacter cX_takeCharacter 2 (some .int) ∈ TT := tt_k 192 rfl rfl
theorem wiX_takeCharacter : Cond.instanceMethod yX_takeCharacter ∈ TT := tt_k 191 rfl rfl
theorem weX_takeCharacter : Cond.selects "TokenRow" yX_takeCharacter yX_takeCharacter ∈ TT := tt_s 11 rfl rfl
abbrev cX_takeMeantByte : ByteArray := prog_1_method_24_code
def yX_takeMeantByte : MethodName := ⟨"TokenRow", "takeMeantByte", "(I)I"⟩
theorem wcX_takeMeantByte : Cond.code yX_takeMeantByte cX_takeMeantByte 4 (some .int) ∈ TT := tt_k 196 rfl rfl
theorem wiX_takeMeantByte : Cond.instanceMethod yX_takeMeantByte ∈ TT := tt_k 195 rfl rfl
theorem weX_takeMeantByte : Cond.selects "TokenRow" yX_takeMeantByte yX_takeMeantByte ∈ TT := tt_s 12 rfl rfl
abbrev cX_meaningBehindStar : ByteArray := prog_1_method_25_code
def yX_meaningBehindStar : MethodName := ⟨"TokenRow", "meaningBehindStar", "(I)I"⟩
theorem wcX_meaningBehindStar : Cond.code yX_meaningBehindStar cX_meaningBehindStar 1 (some .int) ∈ TT := tt_k 199 rfl rfl
theorem wsX_meaningBehindStar : Cond.static yX_meaningBehindStar ∈ TT := tt_k 198 rfl rfl
abbrev cX_takeString : ByteArray := prog_1_method_23_code
def yX_takeString : MethodName := ⟨"TokenRow", "takeString", "()I"⟩
theorem wcX_takeString : Cond.code yX_takeString cX_takeString 3 (some .int) ∈ TT := tt_k 203 rfl rfl
theorem wiX_takeString : Cond.instanceMethod yX_takeString ∈ TT := tt_k 202 rfl rfl
theorem weX_takeString : Cond.selects "TokenRow" yX_takeString yX_takeString ∈ TT := tt_s 13 rfl rfl
abbrev cX_takeSign : ByteArray := prog_1_method_19_code
def yX_takeSign : MethodName := ⟨"TokenRow", "takeSign", "()I"⟩
theorem wcX_takeSign : Cond.code yX_takeSign cX_takeSign 2 (some .int) ∈ TT := tt_k 207 rfl rfl
theorem wiX_takeSign : Cond.instanceMethod yX_takeSign ∈ TT := tt_k 206 rfl rfl
theorem weX_takeSign : Cond.selects "TokenRow" yX_takeSign yX_takeSign ∈ TT := tt_s 14 rfl rfl
abbrev cX_isSemicolonDue : ByteArray := prog_1_method_34_code
def yX_isSemicolonDue : MethodName := ⟨"TokenRow", "isSemicolonDue", "(III)Z"⟩
theorem wcX_isSemicolonDue : Cond.code yX_isSemicolonDue cX_isSemicolonDue 5 (some .boolean) ∈ TT := tt_k 212 rfl rfl
theorem wiX_isSemicolonDue : Cond.instanceMethod yX_isSemicolonDue ∈ TT := tt_k 211 rfl rfl
theorem weX_isSemicolonDue : Cond.selects "TokenRow" yX_isSemicolonDue yX_isSemicolonDue ∈ TT := tt_s 15 rfl rfl
abbrev cX_isToken : ByteArray := prog_1_method_39_code
def yX_isToken : MethodName := ⟨"TokenRow", "isToken", "(I)Z"⟩
theorem wcX_isToken : Cond.code yX_isToken cX_isToken 2 (some .boolean) ∈ TT := tt_k 216 rfl rfl
theorem wiX_isToken : Cond.instanceMethod yX_isToken ∈ TT := tt_k 215 rfl rfl
theorem weX_isToken : Cond.selects "TokenRow" yX_isToken yX_isToken ∈ TT := tt_s 16 rfl rfl
abbrev cX_mayEndStatement : ByteArray := prog_1_method_35_code
def yX_mayEndStatement : MethodName := ⟨"TokenRow", "mayEndStatement", "(III)Z"⟩
theorem wcX_mayEndStatement : Cond.code yX_mayEndStatement cX_mayEndStatement 4 (some .boolean) ∈ TT := tt_k 220 rfl rfl
theorem wiX_mayEndStatement : Cond.instanceMethod yX_mayEndStatement ∈ TT := tt_k 219 rfl rfl
theorem weX_mayEndStatement : Cond.selects "TokenRow" yX_mayEndStatement yX_mayEndStatement ∈ TT := tt_s 17 rfl rfl
abbrev cX_isSignOrKeyword : ByteArray := prog_1_method_38_code
def yX_isSignOrKeyword : MethodName := ⟨"TokenRow", "isSignOrKeyword", "(I)Z"⟩
theorem wcX_isSignOrKeyword : Cond.code yX_isSignOrKeyword cX_isSignOrKeyword 1 (some .boolean) ∈ TT := tt_k 223 rfl rfl
theorem wsX_isSignOrKeyword : Cond.static yX_isSignOrKeyword ∈ TT := tt_k 222 rfl rfl
abbrev cX_isOperand : ByteArray := prog_1_method_37_code
def yX_isOperand : MethodName := ⟨"TokenRow", "isOperand", "(I)Z"⟩
theorem wcX_isOperand : Cond.code yX_isOperand cX_isOperand 1 (some .boolean) ∈ TT := tt_k 226 rfl rfl
theorem wsX_isOperand : Cond.static yX_isOperand ∈ TT := tt_k 225 rfl rfl
abbrev cX_mayBeginStatement : ByteArray := prog_1_method_36_code
def yX_mayBeginStatement : MethodName := ⟨"TokenRow", "mayBeginStatement", "(III)Z"⟩
theorem wcX_mayBeginStatement : Cond.code yX_mayBeginStatement cX_mayBeginStatement 4 (some .boolean) ∈ TT := tt_k 231 rfl rfl
theorem wiX_mayBeginStatement : Cond.instanceMethod yX_mayBeginStatement ∈ TT := tt_k 230 rfl rfl
theorem weX_mayBeginStatement : Cond.selects "TokenRow" yX_mayBeginStatement yX_mayBeginStatement ∈ TT := tt_s 18 rfl rfl
abbrev cX_addSemicolon : ByteArray := prog_1_method_40_code
def yX_addSemicolon : MethodName := ⟨"TokenRow", "addSemicolon", "(I)V"⟩
theorem wcX_addSemicolon : Cond.code yX_addSemicolon cX_addSemicolon 3 none ∈ TT := tt_k 236 rfl rfl
theorem wiX_addSemicolon : Cond.instanceMethod yX_addSemicolon ∈ TT := tt_k 235 rfl rfl
theorem weX_addSemicolon : Cond.selects "TokenRow" yX_addSemicolon yX_addSemicolon ∈ TT := tt_s 19 rfl rfl
abbrev cX_addToken : ByteArray := prog_1_method_41_code
def yX_addToken : MethodName := ⟨"TokenRow", "addToken", "(IIIII)V"⟩
theorem wcX_addToken : Cond.code yX_addToken cX_addToken 6 none ∈ TT := tt_k 240 rfl rfl
theorem wiX_addToken : Cond.instanceMethod yX_addToken ∈ TT := tt_k 239 rfl rfl
theorem weX_addToken : Cond.selects "TokenRow" yX_addToken yX_addToken ∈ TT := tt_s 20 rfl rfl
abbrev cX_kind : ByteArray := prog_1_method_5_code
def yX_kind : MethodName := ⟨"TokenRow", "kind", "(I)I"⟩
theorem wcX_kind : Cond.code yX_kind cX_kind 2 (some .int) ∈ TT := tt_k 245 rfl rfl
theorem wiX_kind : Cond.instanceMethod yX_kind ∈ TT := tt_k 243 rfl rfl
theorem weX_kind : Cond.selects "TokenRow" yX_kind yX_kind ∈ TT := tt_k 244 rfl rfl
abbrev cX_place : ByteArray := prog_1_method_6_code
def yX_place : MethodName := ⟨"TokenRow", "place", "(I)I"⟩
theorem wcX_place : Cond.code yX_place cX_place 2 (some .int) ∈ TT := tt_k 249 rfl rfl
theorem wiX_place : Cond.instanceMethod yX_place ∈ TT := tt_k 247 rfl rfl
theorem weX_place : Cond.selects "TokenRow" yX_place yX_place ∈ TT := tt_k 248 rfl rfl
abbrev cX_line : ByteArray := prog_1_method_7_code
def yX_line : MethodName := ⟨"TokenRow", "line", "(I)I"⟩
theorem wcX_line : Cond.code yX_line cX_line 2 (some .int) ∈ TT := tt_k 253 rfl rfl
theorem wiX_line : Cond.instanceMethod yX_line ∈ TT := tt_k 251 rfl rfl
theorem weX_line : Cond.selects "TokenRow" yX_line yX_line ∈ TT := tt_k 252 rfl rfl
abbrev cX_value : ByteArray := prog_1_method_8_code
def yX_value : MethodName := ⟨"TokenRow", "value", "(I)I"⟩
theorem wcX_value : Cond.code yX_value cX_value 2 (some .int) ∈ TT := tt_k 257 rfl rfl
theorem wiX_value : Cond.instanceMethod yX_value ∈ TT := tt_k 255 rfl rfl
theorem weX_value : Cond.selects "TokenRow" yX_value yX_value ∈ TT := tt_k 256 rfl rfl
abbrev cX_level : ByteArray := prog_1_method_9_code
def yX_level : MethodName := ⟨"TokenRow", "level", "(I)I"⟩
theorem wcX_level : Cond.code yX_level cX_level 2 (some .int) ∈ TT := tt_k 261 rfl rfl
theorem wiX_level : Cond.instanceMethod yX_level ∈ TT := tt_k 259 rfl rfl
theorem weX_level : Cond.selects "TokenRow" yX_level yX_level ∈ TT := tt_k 260 rfl rfl
abbrev cX_size : ByteArray := prog_1_method_10_code
def yX_size : MethodName := ⟨"TokenRow", "size", "(I)I"⟩
theorem wcX_size : Cond.code yX_size cX_size 2 (some .int) ∈ TT := tt_k 268 rfl rfl
theorem wiX_size : Cond.instanceMethod yX_size ∈ TT := tt_k 266 rfl rfl
theorem weX_size : Cond.selects "TokenRow" yX_size yX_size ∈ TT := tt_k 267 rfl rfl
abbrev cX_textAt : ByteArray := prog_1_method_11_code
def yX_textAt : MethodName := ⟨"TokenRow", "textAt", "(II)I"⟩
theorem wcX_textAt : Cond.code yX_textAt cX_textAt 3 (some .int) ∈ TT := tt_k 272 rfl rfl
theorem wiX_textAt : Cond.instanceMethod yX_textAt ∈ TT := tt_k 270 rfl rfl
theorem weX_textAt : Cond.selects "TokenRow" yX_textAt yX_textAt ∈ TT := tt_k 271 rfl rfl
abbrev cM_init : ByteArray := prog_3_method_1_code
def yM_init : MethodName := ⟨"TokenRowModel", "<init>", "()V"⟩
theorem wcM_init : Cond.code yM_init cM_init 1 none ∈ TT := tt_k 277 rfl rfl
theorem wiM_init : Cond.instanceMethod yM_init ∈ TT := tt_k 276 rfl rfl
abbrev cM_feed : ByteArray := prog_3_method_4_code
def yM_feed : MethodName := ⟨"TokenRowModel", "feed", "(IIIII)Z"⟩
theorem wcM_feed : Cond.code yM_feed cM_feed 6 (some .boolean) ∈ TT := tt_k 345 rfl rfl
theorem wiM_feed : Cond.instanceMethod yM_feed ∈ TT := tt_k 343 rfl rfl
theorem weM_feed : Cond.selects "TokenRowModel" yM_feed yM_feed ∈ TT := tt_k 344 rfl rfl
abbrev cM_put : ByteArray := prog_3_method_3_code
def yM_put : MethodName := ⟨"TokenRowModel", "put", "(I)V"⟩
theorem wcM_put : Cond.code yM_put cM_put 3 none ∈ TT := tt_k 349 rfl rfl
theorem wiM_put : Cond.instanceMethod yM_put ∈ TT := tt_k 348 rfl rfl
theorem weM_put : Cond.selects "TokenRowModel" yM_put yM_put ∈ TT := tt_s 21 rfl rfl
abbrev cM_end : ByteArray := prog_3_method_5_code
def yM_end : MethodName := ⟨"TokenRowModel", "end", "(I)Z"⟩
theorem wcM_end : Cond.code yM_end cM_end 2 (some .boolean) ∈ TT := tt_k 353 rfl rfl
theorem wiM_end : Cond.instanceMethod yM_end ∈ TT := tt_k 351 rfl rfl
theorem weM_end : Cond.selects "TokenRowModel" yM_end yM_end ∈ TT := tt_k 352 rfl rfl
abbrev cM_read : ByteArray := prog_3_method_31_code
def yM_read : MethodName := ⟨"TokenRowModel", "read", "()I"⟩
theorem wcM_read : Cond.code yM_read cM_read 2 (some .int) ∈ TT := tt_k 357 rfl rfl
theorem wiM_read : Cond.instanceMethod yM_read ∈ TT := tt_k 355 rfl rfl
theorem weM_read : Cond.selects "TokenRowModel" yM_read yM_read ∈ TT := tt_k 356 rfl rfl
abbrev cM_skip : ByteArray := prog_3_method_11_code
def yM_skip : MethodName := ⟨"TokenRowModel", "skip", "()V"⟩
theorem wcM_skip : Cond.code yM_skip cM_skip 4 none ∈ TT := tt_k 361 rfl rfl
theorem wiM_skip : Cond.instanceMethod yM_skip ∈ TT := tt_k 360 rfl rfl
theorem weM_skip : Cond.selects "TokenRowModel" yM_skip yM_skip ∈ TT := tt_s 22 rfl rfl
abbrev cM_see : ByteArray := prog_3_method_6_code
def yM_see : MethodName := ⟨"TokenRowModel", "see", "(I)I"⟩
theorem wcM_see : Cond.code yM_see cM_see 2 (some .int) ∈ TT := tt_k 365 rfl rfl
theorem wiM_see : Cond.instanceMethod yM_see ∈ TT := tt_k 364 rfl rfl
theorem weM_see : Cond.selects "TokenRowModel" yM_see yM_see ∈ TT := tt_s 23 rfl rfl
abbrev cM_readToken : ByteArray := prog_3_method_29_code
def yM_readToken : MethodName := ⟨"TokenRowModel", "readToken", "()V"⟩
theorem wcM_readToken : Cond.code yM_readToken cM_readToken 2 none ∈ TT := tt_k 369 rfl rfl
theorem wiM_readToken : Cond.instanceMethod yM_readToken ∈ TT := tt_k 368 rfl rfl
theorem weM_readToken : Cond.selects "TokenRowModel" yM_readToken yM_readToken ∈ TT := tt_s 24 rfl rfl
abbrev cM_isLetter : ByteArray := prog_3_method_8_code
def yM_isLetter : MethodName := ⟨"TokenRowModel", "isLetter", "(I)Z"⟩
theorem wcM_isLetter : Cond.code yM_isLetter cM_isLetter 1 (some .boolean) ∈ TT := tt_k 372 rfl rfl
theorem wsM_isLetter : Cond.static yM_isLetter ∈ TT := tt_k 371 rfl rfl
abbrev cM_isGreat : ByteArray := prog_3_method_7_code
def yM_isGreat : MethodName := ⟨"TokenRowModel", "isGreat", "(I)Z"⟩
theorem wcM_isGreat : Cond.code yM_isGreat cM_isGreat 1 (some .boolean) ∈ TT := tt_k 375 rfl rfl
theorem wsM_isGreat : Cond.static yM_isGreat ∈ TT := tt_k 374 rfl rfl
abbrev cM_readName : ByteArray := prog_3_method_21_code
def yM_readName : MethodName := ⟨"TokenRowModel", "readName", "()V"⟩
theorem wcM_readName : Cond.code yM_readName cM_readName 2 none ∈ TT := tt_k 379 rfl rfl
theorem wiM_readName : Cond.instanceMethod yM_readName ∈ TT := tt_k 378 rfl rfl
theorem weM_readName : Cond.selects "TokenRowModel" yM_readName yM_readName ∈ TT := tt_s 25 rfl rfl
abbrev cM_isNamed : ByteArray := prog_3_method_10_code
def yM_isNamed : MethodName := ⟨"TokenRowModel", "isNamed", "(I)Z"⟩
theorem wcM_isNamed : Cond.code yM_isNamed cM_isNamed 1 (some .boolean) ∈ TT := tt_k 382 rfl rfl
theorem wsM_isNamed : Cond.static yM_isNamed ∈ TT := tt_k 381 rfl rfl
abbrev cM_isDigit : ByteArray := prog_3_method_9_code
def yM_isDigit : MethodName := ⟨"TokenRowModel", "isDigit", "(I)Z"⟩
theorem wcM_isDigit : Cond.code yM_isDigit cM_isDigit 1 (some .boolean) ∈ TT := tt_k 385 rfl rfl
theorem wsM_isDigit : Cond.static yM_isDigit ∈ TT := tt_k 384 rfl rfl
abbrev cM_readDigits : ByteArray := prog_3_method_22_code
def yM_readDigits : MethodName := ⟨"TokenRowModel", "readDigits", "(II)V"⟩
theorem wcM_readDigits : Cond.code yM_readDigits cM_readDigits 7 none ∈ TT := tt_k 389 rfl rfl
theorem wiM_readDigits : Cond.instanceMethod yM_readDigits ∈ TT := tt_k 388 rfl rfl
theorem weM_readDigits : Cond.selects "TokenRowModel" yM_readDigits yM_readDigits ∈ TT := tt_s 26 rfl rfl
abbrev cM_digit : ByteArray := prog_3_method_23_code
def yM_digit : MethodName := ⟨"TokenRowModel", "digit", "(I)I"⟩
theorem wcM_digit : Cond.code yM_digit cM_digit 1 (some .int) ∈ TT := tt_k 392 rfl rfl
theorem wsM_digit : Cond.static yM_digit ∈ TT := tt_k 391 rfl rfl
abbrev cM_readByte : ByteArray := prog_3_method_26_code
def yM_readByte : MethodName := ⟨"TokenRowModel", "readByte", "()V"⟩
theorem wcM_readByte : Cond.code yM_readByte cM_readByte 1 none ∈ TT := tt_k 397 rfl rfl
theorem wiM_readByte : Cond.instanceMethod yM_readByte ∈ TT := tt_k 396 rfl rfl
theorem weM_readByte : Cond.selects "TokenRowModel" yM_readByte yM_readByte ∈ TT := tt_s 27 rfl rfl
abbrev cM_meaning : ByteArray := prog_3_method_24_code
def yM_meaning : MethodName := ⟨"TokenRowModel", "meaning", "(II)I"⟩
theorem wcM_meaning : Cond.code yM_meaning cM_meaning 5 (some .int) ∈ TT := tt_k 401 rfl rfl
theorem wiM_meaning : Cond.instanceMethod yM_meaning ∈ TT := tt_k 400 rfl rfl
theorem weM_meaning : Cond.selects "TokenRowModel" yM_meaning yM_meaning ∈ TT := tt_s 28 rfl rfl
abbrev cM_next : ByteArray := prog_3_method_25_code
def yM_next : MethodName := ⟨"TokenRowModel", "next", "(I)I"⟩
theorem wcM_next : Cond.code yM_next cM_next 2 (some .int) ∈ TT := tt_k 405 rfl rfl
theorem wiM_next : Cond.instanceMethod yM_next ∈ TT := tt_k 404 rfl rfl
theorem weM_next : Cond.selects "TokenRowModel" yM_next yM_next ∈ TT := tt_s 29 rfl rfl
abbrev cM_readString : ByteArray := prog_3_method_27_code
def yM_readString : MethodName := ⟨"TokenRowModel", "readString", "()V"⟩
theorem wcM_readString : Cond.code yM_readString cM_readString 3 none ∈ TT := tt_k 409 rfl rfl
theorem wiM_readString : Cond.instanceMethod yM_readString ∈ TT := tt_k 408 rfl rfl
theorem weM_readString : Cond.selects "TokenRowModel" yM_readString yM_readString ∈ TT := tt_s 30 rfl rfl
abbrev cM_readSign : ByteArray := prog_3_method_28_code
def yM_readSign : MethodName := ⟨"TokenRowModel", "readSign", "()V"⟩
theorem wcM_readSign : Cond.code yM_readSign cM_readSign 5 none ∈ TT := tt_k 413 rfl rfl
theorem wiM_readSign : Cond.instanceMethod yM_readSign ∈ TT := tt_k 412 rfl rfl
theorem weM_readSign : Cond.selects "TokenRowModel" yM_readSign yM_readSign ∈ TT := tt_s 31 rfl rfl
abbrev cM_add : ByteArray := prog_3_method_12_code
def yM_add : MethodName := ⟨"TokenRowModel", "add", "(II)V"⟩
theorem wcM_add : Cond.code yM_add cM_add 3 none ∈ TT := tt_k 417 rfl rfl
theorem wiM_add : Cond.instanceMethod yM_add ∈ TT := tt_k 416 rfl rfl
theorem weM_add : Cond.selects "TokenRowModel" yM_add yM_add ∈ TT := tt_s 32 rfl rfl
abbrev cM_keep : ByteArray := prog_3_method_30_code
def yM_keep : MethodName := ⟨"TokenRowModel", "keep", "()V"⟩
theorem wcM_keep : Cond.code yM_keep cM_keep 2 none ∈ TT := tt_k 421 rfl rfl
theorem wiM_keep : Cond.instanceMethod yM_keep ∈ TT := tt_k 420 rfl rfl
theorem weM_keep : Cond.selects "TokenRowModel" yM_keep yM_keep ∈ TT := tt_s 33 rfl rfl
abbrev cM_say : ByteArray := prog_3_method_13_code
def yM_say : MethodName := ⟨"TokenRowModel", "say", "(I)V"⟩
theorem wcM_say : Cond.code yM_say cM_say 2 none ∈ TT := tt_k 425 rfl rfl
theorem wiM_say : Cond.instanceMethod yM_say ∈ TT := tt_k 424 rfl rfl
theorem weM_say : Cond.selects "TokenRowModel" yM_say yM_say ∈ TT := tt_s 34 rfl rfl
abbrev cM_isIn : ByteArray := prog_3_method_14_code
def yM_isIn : MethodName := ⟨"TokenRowModel", "isIn", "(ILjava/lang/String;)Z"⟩
theorem wcM_isIn : Cond.code yM_isIn cM_isIn 4 (some .boolean) ∈ TT := tt_k 429 rfl rfl
theorem wiM_isIn : Cond.instanceMethod yM_isIn ∈ TT := tt_k 428 rfl rfl
theorem weM_isIn : Cond.selects "TokenRowModel" yM_isIn yM_isIn ∈ TT := tt_s 35 rfl rfl
abbrev cM_standsAt : ByteArray := prog_3_method_15_code
def yM_standsAt : MethodName := ⟨"TokenRowModel", "standsAt", "(ILjava/lang/String;I)Z"⟩
theorem wcM_standsAt : Cond.code yM_standsAt cM_standsAt 7 (some .boolean) ∈ TT := tt_k 435 rfl rfl
theorem wiM_standsAt : Cond.instanceMethod yM_standsAt ∈ TT := tt_k 434 rfl rfl
theorem weM_standsAt : Cond.selects "TokenRowModel" yM_standsAt yM_standsAt ∈ TT := tt_s 36 rfl rfl
abbrev cM_understand : ByteArray := prog_3_method_20_code
def yM_understand : MethodName := ⟨"TokenRowModel", "understand", "()V"⟩
theorem wcM_understand : Cond.code yM_understand cM_understand 2 none ∈ TT := tt_k 439 rfl rfl
theorem wiM_understand : Cond.instanceMethod yM_understand ∈ TT := tt_k 438 rfl rfl
theorem weM_understand : Cond.selects "TokenRowModel" yM_understand yM_understand ∈ TT := tt_s 37 rfl rfl
abbrev cM_ends : ByteArray := prog_3_method_18_code
def yM_ends : MethodName := ⟨"TokenRowModel", "ends", "(I)Z"⟩
theorem wcM_ends : Cond.code yM_ends cM_ends 2 (some .boolean) ∈ TT := tt_k 443 rfl rfl
theorem wiM_ends : Cond.instanceMethod yM_ends ∈ TT := tt_k 442 rfl rfl
theorem weM_ends : Cond.selects "TokenRowModel" yM_ends yM_ends ∈ TT := tt_s 38 rfl rfl
abbrev cM_isPlain : ByteArray := prog_3_method_17_code
def yM_isPlain : MethodName := ⟨"TokenRowModel", "isPlain", "(I)Z"⟩
theorem wcM_isPlain : Cond.code yM_isPlain cM_isPlain 1 (some .boolean) ∈ TT := tt_k 446 rfl rfl
theorem wsM_isPlain : Cond.static yM_isPlain ∈ TT := tt_k 445 rfl rfl
abbrev cM_is : ByteArray := prog_3_method_16_code
def yM_is : MethodName := ⟨"TokenRowModel", "is", "(III)Z"⟩
theorem wcM_is : Cond.code yM_is cM_is 4 (some .boolean) ∈ TT := tt_k 450 rfl rfl
theorem wiM_is : Cond.instanceMethod yM_is ∈ TT := tt_k 449 rfl rfl
theorem weM_is : Cond.selects "TokenRowModel" yM_is yM_is ∈ TT := tt_s 39 rfl rfl
abbrev cM_begins : ByteArray := prog_3_method_19_code
def yM_begins : MethodName := ⟨"TokenRowModel", "begins", "(I)Z"⟩
theorem wcM_begins : Cond.code yM_begins cM_begins 2 (some .boolean) ∈ TT := tt_k 454 rfl rfl
theorem wiM_begins : Cond.instanceMethod yM_begins ∈ TT := tt_k 453 rfl rfl
theorem weM_begins : Cond.selects "TokenRowModel" yM_begins yM_begins ∈ TT := tt_s 40 rfl rfl
abbrev cM_kind : ByteArray := prog_3_method_33_code
def yM_kind : MethodName := ⟨"TokenRowModel", "kind", "(I)I"⟩
theorem wcM_kind : Cond.code yM_kind cM_kind 2 (some .int) ∈ TT := tt_k 458 rfl rfl
theorem wiM_kind : Cond.instanceMethod yM_kind ∈ TT := tt_k 456 rfl rfl
theorem weM_kind : Cond.selects "TokenRowModel" yM_kind yM_kind ∈ TT := tt_k 457 rfl rfl
abbrev cM_isToken : ByteArray := prog_3_method_32_code
def yM_isToken : MethodName := ⟨"TokenRowModel", "isToken", "(I)Z"⟩
theorem wcM_isToken : Cond.code yM_isToken cM_isToken 2 (some .boolean) ∈ TT := tt_k 462 rfl rfl
theorem wiM_isToken : Cond.instanceMethod yM_isToken ∈ TT := tt_k 461 rfl rfl
theorem weM_isToken : Cond.selects "TokenRowModel" yM_isToken yM_isToken ∈ TT := tt_s 41 rfl rfl
abbrev cM_place : ByteArray := prog_3_method_34_code
def yM_place : MethodName := ⟨"TokenRowModel", "place", "(I)I"⟩
theorem wcM_place : Cond.code yM_place cM_place 2 (some .int) ∈ TT := tt_k 466 rfl rfl
theorem wiM_place : Cond.instanceMethod yM_place ∈ TT := tt_k 464 rfl rfl
theorem weM_place : Cond.selects "TokenRowModel" yM_place yM_place ∈ TT := tt_k 465 rfl rfl
abbrev cM_line : ByteArray := prog_3_method_35_code
def yM_line : MethodName := ⟨"TokenRowModel", "line", "(I)I"⟩
theorem wcM_line : Cond.code yM_line cM_line 2 (some .int) ∈ TT := tt_k 470 rfl rfl
theorem wiM_line : Cond.instanceMethod yM_line ∈ TT := tt_k 468 rfl rfl
theorem weM_line : Cond.selects "TokenRowModel" yM_line yM_line ∈ TT := tt_k 469 rfl rfl
abbrev cM_value : ByteArray := prog_3_method_36_code
def yM_value : MethodName := ⟨"TokenRowModel", "value", "(I)I"⟩
theorem wcM_value : Cond.code yM_value cM_value 2 (some .int) ∈ TT := tt_k 474 rfl rfl
theorem wiM_value : Cond.instanceMethod yM_value ∈ TT := tt_k 472 rfl rfl
theorem weM_value : Cond.selects "TokenRowModel" yM_value yM_value ∈ TT := tt_k 473 rfl rfl
abbrev cM_level : ByteArray := prog_3_method_37_code
def yM_level : MethodName := ⟨"TokenRowModel", "level", "(I)I"⟩
theorem wcM_level : Cond.code yM_level cM_level 2 (some .int) ∈ TT := tt_k 478 rfl rfl
theorem wiM_level : Cond.instanceMethod yM_level ∈ TT := tt_k 476 rfl rfl
theorem weM_level : Cond.selects "TokenRowModel" yM_level yM_level ∈ TT := tt_k 477 rfl rfl
abbrev cM_size : ByteArray := prog_3_method_38_code
def yM_size : MethodName := ⟨"TokenRowModel", "size", "(I)I"⟩
theorem wcM_size : Cond.code yM_size cM_size 2 (some .int) ∈ TT := tt_k 484 rfl rfl
theorem wiM_size : Cond.instanceMethod yM_size ∈ TT := tt_k 482 rfl rfl
theorem weM_size : Cond.selects "TokenRowModel" yM_size yM_size ∈ TT := tt_k 483 rfl rfl
abbrev cM_textAt : ByteArray := prog_3_method_39_code
def yM_textAt : MethodName := ⟨"TokenRowModel", "textAt", "(II)I"⟩
theorem wcM_textAt : Cond.code yM_textAt cM_textAt 3 (some .int) ∈ TT := tt_k 488 rfl rfl
theorem wiM_textAt : Cond.instanceMethod yM_textAt ∈ TT := tt_k 486 rfl rfl
theorem weM_textAt : Cond.selects "TokenRowModel" yM_textAt yM_textAt ∈ TT := tt_k 487 rfl rfl
theorem wnL : Cond.initialized "TokenRowLaw" ∈ TT := tt_k 0 rfl rfl
theorem wnX : Cond.initialized "TokenRow" ∈ TT := tt_k 1 rfl rfl
theorem wnM : Cond.initialized "TokenRowModel" ∈ TT := tt_k 2 rfl rfl
theorem wnS : Cond.initialized "java/lang/String" ∈ TT := tt_k 3 rfl rfl
theorem wnL1 : Cond.initialized "java/lang/StringLatin1" ∈ TT := tt_k 4 rfl rfl
theorem wnP : Cond.initialized "jdk/internal/util/Preconditions" ∈ TT := tt_k 5 rfl rfl
theorem wnMath : Cond.initialized "java/lang/Math" ∈ TT := tt_k 7 rfl rfl
theorem wlL_9 : Cond.methodLink "TokenRowLaw" 9 yX_init ∈ TT := tt_k 10 rfl rfl
theorem wfX_9 : Cond.fieldLink "TokenRow" 9 "TokenRow" "tape" "[I" ∈ TT := tt_k 16 rfl rfl
theorem wfX_34 : Cond.fieldLink "TokenRow" 34 "TokenRow" "tapeSize" "I" ∈ TT := tt_k 17 rfl rfl
theorem wfX_13 : Cond.fieldLink "TokenRow" 13 "TokenRow" "kinds" "[I" ∈ TT := tt_k 18 rfl rfl
theorem wfX_16 : Cond.fieldLink "TokenRow" 16 "TokenRow" "places" "[I" ∈ TT := tt_k 19 rfl rfl
theorem wfX_19 : Cond.fieldLink "TokenRow" 19 "TokenRow" "lines" "[I" ∈ TT := tt_k 20 rfl rfl
theorem wfX_22 : Cond.fieldLink "TokenRow" 22 "TokenRow" "values" "[I" ∈ TT := tt_k 21 rfl rfl
theorem wfX_25 : Cond.fieldLink "TokenRow" 25 "TokenRow" "textStarts" "[I" ∈ TT := tt_k 22 rfl rfl
theorem wfX_28 : Cond.fieldLink "TokenRow" 28 "TokenRow" "textSizes" "[I" ∈ TT := tt_k 23 rfl rfl
theorem wfX_42 : Cond.fieldLink "TokenRow" 42 "TokenRow" "count" "I" ∈ TT := tt_k 24 rfl rfl
theorem wfX_31 : Cond.fieldLink "TokenRow" 31 "TokenRow" "text" "[I" ∈ TT := tt_k 25 rfl rfl
theorem wfX_45 : Cond.fieldLink "TokenRow" 45 "TokenRow" "textEnd" "I" ∈ TT := tt_k 26 rfl rfl
theorem wfX_48 : Cond.fieldLink "TokenRow" 48 "TokenRow" "at" "I" ∈ TT := tt_k 27 rfl rfl
theorem wfX_51 : Cond.fieldLink "TokenRow" 51 "TokenRow" "atLine" "I" ∈ TT := tt_k 28 rfl rfl
theorem wfX_85 : Cond.fieldLink "TokenRow" 85 "TokenRow" "bits" "I" ∈ TT := tt_k 29 rfl rfl
theorem wlL_13 : Cond.methodLink "TokenRowLaw" 13 yX_feed ∈ TT := tt_k 60 rfl rfl
theorem wlX_38 : Cond.methodLink "TokenRow" 38 yX_appendBytes ∈ TT := tt_k 64 rfl rfl
theorem wlL_18 : Cond.methodLink "TokenRowLaw" 18 yX_end ∈ TT := tt_k 68 rfl rfl
theorem wlL_23 : Cond.methodLink "TokenRowLaw" 23 yX_read ∈ TT := tt_k 72 rfl rfl
theorem wlX_54 : Cond.methodLink "TokenRow" 54 yX_skipGap ∈ TT := tt_k 76 rfl rfl
theorem wlX_81 : Cond.methodLink "TokenRow" 81 yX_tapeByte ∈ TT := tt_k 80 rfl rfl
theorem wlX_77 : Cond.methodLink "TokenRow" 77 yX_elementAt ∈ TT := tt_k 84 rfl rfl
theorem wlX_57 : Cond.methodLink "TokenRow" 57 yX_readToken ∈ TT := tt_k 87 rfl rfl
theorem wlX_88 : Cond.methodLink "TokenRow" 88 yX_takeToken ∈ TT := tt_k 91 rfl rfl
theorem wlX_103 : Cond.methodLink "TokenRow" 103 yX_isLetter ∈ TT := tt_k 95 rfl rfl
theorem wlX_106 : Cond.methodLink "TokenRow" 106 yX_takeWord ∈ TT := tt_k 98 rfl rfl
theorem wlX_127 : Cond.methodLink "TokenRow" 127 yX_isNameByte ∈ TT := tt_k 102 rfl rfl
theorem wlX_109 : Cond.methodLink "TokenRow" 109 yX_isDecimalDigit ∈ TT := tt_k 105 rfl rfl
theorem wlX_130 : Cond.methodLink "TokenRow" 130 yX_isKeyword ∈ TT := tt_k 108 rfl rfl
theorem wlX_73 : Cond.methodLink "TokenRow" 73 yX_numberInList ∈ TT := tt_k 113 rfl rfl
theorem wlX_165 : Cond.methodLink "TokenRow" 165 yS_length ∈ TT := tt_k 116 rfl rfl
theorem wlS_335 : Cond.methodLink "java/lang/String" 335 yS_coder ∈ TT := tt_k 120 rfl rfl
theorem wfS_38 : Cond.fieldLink "java/lang/String" 38 "java/lang/String" "COMPACT_STRINGS" "Z" ∈ TT := tt_k 124 rfl rfl
theorem wlX_170 : Cond.methodLink "TokenRow" 170 yS_charAt ∈ TT := tt_k 126 rfl rfl
theorem wlS_492 : Cond.methodLink "java/lang/String" 492 yS_isLatin1 ∈ TT := tt_k 130 rfl rfl
theorem wlS_495 : Cond.methodLink "java/lang/String" 495 yL1_charAt ∈ TT := tt_k 134 rfl rfl
theorem wlL1_9 : Cond.methodLink "java/lang/StringLatin1" 9 yS_checkIndex ∈ TT := tt_k 137 rfl rfl
theorem wfS_1053 : Cond.fieldLink "java/lang/String" 1053 "jdk/internal/util/Preconditions" "SIOOBE_FORMATTER" "Ljava/util/function/BiFunction;" ∈ TT := tt_k 140 rfl rfl
theorem wlS_1059 : Cond.methodLink "java/lang/String" 1059 yP_checkIndex ∈ TT := tt_k 142 rfl rfl
theorem wlX_134 : Cond.methodLink "TokenRow" 134 yX_takeText ∈ TT := tt_k 166 rfl rfl
theorem wlX_153 : Cond.methodLink "TokenRow" 153 yX_appendText ∈ TT := tt_k 170 rfl rfl
theorem wlX_112 : Cond.methodLink "TokenRow" 112 yX_takeDigits ∈ TT := tt_k 174 rfl rfl
theorem wlX_139 : Cond.methodLink "TokenRow" 139 yX_digitOf ∈ TT := tt_k 178 rfl rfl
theorem wlX_115 : Cond.methodLink "TokenRow" 115 yX_takeNumberInBase ∈ TT := tt_k 185 rfl rfl
theorem wlX_118 : Cond.methodLink "TokenRow" 118 yX_takeCharacter ∈ TT := tt_k 189 rfl rfl
theorem wlX_150 : Cond.methodLink "TokenRow" 150 yX_takeMeantByte ∈ TT := tt_k 193 rfl rfl
theorem wlX_156 : Cond.methodLink "TokenRow" 156 yX_meaningBehindStar ∈ TT := tt_k 197 rfl rfl
theorem wlX_121 : Cond.methodLink "TokenRow" 121 yX_takeString ∈ TT := tt_k 200 rfl rfl
theorem wlX_124 : Cond.methodLink "TokenRow" 124 yX_takeSign ∈ TT := tt_k 204 rfl rfl
theorem wlX_92 : Cond.methodLink "TokenRow" 92 yX_isSemicolonDue ∈ TT := tt_k 209 rfl rfl
theorem wlX_61 : Cond.methodLink "TokenRow" 61 yX_isToken ∈ TT := tt_k 213 rfl rfl
theorem wlX_174 : Cond.methodLink "TokenRow" 174 yX_mayEndStatement ∈ TT := tt_k 217 rfl rfl
theorem wlX_65 : Cond.methodLink "TokenRow" 65 yX_isSignOrKeyword ∈ TT := tt_k 221 rfl rfl
theorem wlX_180 : Cond.methodLink "TokenRow" 180 yX_isOperand ∈ TT := tt_k 224 rfl rfl
theorem wlX_177 : Cond.methodLink "TokenRow" 177 yX_mayBeginStatement ∈ TT := tt_k 228 rfl rfl
theorem wlX_96 : Cond.methodLink "TokenRow" 96 yX_addSemicolon ∈ TT := tt_k 233 rfl rfl
theorem wlX_99 : Cond.methodLink "TokenRow" 99 yX_addToken ∈ TT := tt_k 237 rfl rfl
theorem wlL_28 : Cond.methodLink "TokenRowLaw" 28 yX_kind ∈ TT := tt_k 242 rfl rfl
theorem wlL_33 : Cond.methodLink "TokenRowLaw" 33 yX_place ∈ TT := tt_k 246 rfl rfl
theorem wlL_37 : Cond.methodLink "TokenRowLaw" 37 yX_line ∈ TT := tt_k 250 rfl rfl
theorem wlL_41 : Cond.methodLink "TokenRowLaw" 41 yX_value ∈ TT := tt_k 254 rfl rfl
theorem wlL_45 : Cond.methodLink "TokenRowLaw" 45 yX_level ∈ TT := tt_k 258 rfl rfl
theorem wfX_68 : Cond.fieldLink "TokenRow" 68 "TokenRow" "LEVELS" "[I" ∈ TT := tt_k 262 rfl rfl
theorem wlL_49 : Cond.methodLink "TokenRowLaw" 49 yX_size ∈ TT := tt_k 265 rfl rfl
theorem wlL_53 : Cond.methodLink "TokenRowLaw" 53 yX_textAt ∈ TT := tt_k 269 rfl rfl
theorem wlL_12 : Cond.methodLink "TokenRowLaw" 12 yM_init ∈ TT := tt_k 275 rfl rfl
theorem wfM_7 : Cond.fieldLink "TokenRowModel" 7 "TokenRowModel" "tape" "[I" ∈ TT := tt_k 282 rfl rfl
theorem wfM_54 : Cond.fieldLink "TokenRowModel" 54 "TokenRowModel" "taped" "I" ∈ TT := tt_k 283 rfl rfl
theorem wfM_81 : Cond.fieldLink "TokenRowModel" 81 "TokenRowModel" "count" "I" ∈ TT := tt_k 284 rfl rfl
theorem wfM_13 : Cond.fieldLink "TokenRowModel" 13 "TokenRowModel" "kinds" "[I" ∈ TT := tt_k 285 rfl rfl
theorem wfM_16 : Cond.fieldLink "TokenRowModel" 16 "TokenRowModel" "places" "[I" ∈ TT := tt_k 286 rfl rfl
theorem wfM_19 : Cond.fieldLink "TokenRowModel" 19 "TokenRowModel" "lines" "[I" ∈ TT := tt_k 287 rfl rfl
theorem wfM_22 : Cond.fieldLink "TokenRowModel" 22 "TokenRowModel" "values" "[I" ∈ TT := tt_k 288 rfl rfl
theorem wfM_25 : Cond.fieldLink "TokenRowModel" 25 "TokenRowModel" "begins" "[I" ∈ TT := tt_k 289 rfl rfl
theorem wfM_28 : Cond.fieldLink "TokenRowModel" 28 "TokenRowModel" "sizes" "[I" ∈ TT := tt_k 290 rfl rfl
theorem wfM_31 : Cond.fieldLink "TokenRowModel" 31 "TokenRowModel" "texts" "[I" ∈ TT := tt_k 291 rfl rfl
theorem wfM_84 : Cond.fieldLink "TokenRowModel" 84 "TokenRowModel" "used" "I" ∈ TT := tt_k 292 rfl rfl
theorem wfM_36 : Cond.fieldLink "TokenRowModel" 36 "TokenRowModel" "keywords" "Ljava/lang/String;" ∈ TT := tt_k 293 rfl rfl
theorem wfM_42 : Cond.fieldLink "TokenRowModel" 42 "TokenRowModel" "enders" "Ljava/lang/String;" ∈ TT := tt_k 294 rfl rfl
theorem wfM_47 : Cond.fieldLink "TokenRowModel" 47 "TokenRowModel" "beginners" "Ljava/lang/String;" ∈ TT := tt_k 295 rfl rfl
theorem wfM_71 : Cond.fieldLink "TokenRowModel" 71 "TokenRowModel" "at" "I" ∈ TT := tt_k 296 rfl rfl
theorem wfM_78 : Cond.fieldLink "TokenRowModel" 78 "TokenRowModel" "line" "I" ∈ TT := tt_k 297 rfl rfl
theorem wfM_123 : Cond.fieldLink "TokenRowModel" 123 "TokenRowModel" "kind" "I" ∈ TT := tt_k 298 rfl rfl
theorem wfM_131 : Cond.fieldLink "TokenRowModel" 131 "TokenRowModel" "value" "I" ∈ TT := tt_k 299 rfl rfl
theorem wfM_120 : Cond.fieldLink "TokenRowModel" 120 "TokenRowModel" "behind" "I" ∈ TT := tt_k 300 rfl rfl
theorem wlL_17 : Cond.methodLink "TokenRowLaw" 17 yM_feed ∈ TT := tt_k 342 rfl rfl
theorem wlM_57 : Cond.methodLink "TokenRowModel" 57 yM_put ∈ TT := tt_k 346 rfl rfl
theorem wlL_22 : Cond.methodLink "TokenRowLaw" 22 yM_end ∈ TT := tt_k 350 rfl rfl
theorem wlL_27 : Cond.methodLink "TokenRowLaw" 27 yM_read ∈ TT := tt_k 354 rfl rfl
theorem wlM_166 : Cond.methodLink "TokenRowModel" 166 yM_skip ∈ TT := tt_k 358 rfl rfl
theorem wlM_74 : Cond.methodLink "TokenRowModel" 74 yM_see ∈ TT := tt_k 362 rfl rfl
theorem wlM_169 : Cond.methodLink "TokenRowModel" 169 yM_readToken ∈ TT := tt_k 366 rfl rfl
theorem wlM_65 : Cond.methodLink "TokenRowModel" 65 yM_isLetter ∈ TT := tt_k 370 rfl rfl
theorem wlM_61 : Cond.methodLink "TokenRowModel" 61 yM_isGreat ∈ TT := tt_k 373 rfl rfl
theorem wlM_141 : Cond.methodLink "TokenRowModel" 141 yM_readName ∈ TT := tt_k 376 rfl rfl
theorem wlM_117 : Cond.methodLink "TokenRowModel" 117 yM_isNamed ∈ TT := tt_k 380 rfl rfl
theorem wlM_68 : Cond.methodLink "TokenRowModel" 68 yM_isDigit ∈ TT := tt_k 383 rfl rfl
theorem wlM_144 : Cond.methodLink "TokenRowModel" 144 yM_readDigits ∈ TT := tt_k 386 rfl rfl
theorem wlM_126 : Cond.methodLink "TokenRowModel" 126 yM_digit ∈ TT := tt_k 390 rfl rfl
theorem wlM_148 : Cond.methodLink "TokenRowModel" 148 yM_readByte ∈ TT := tt_k 394 rfl rfl
theorem wlM_134 : Cond.methodLink "TokenRowModel" 134 yM_meaning ∈ TT := tt_k 398 rfl rfl
theorem wlM_138 : Cond.methodLink "TokenRowModel" 138 yM_next ∈ TT := tt_k 402 rfl rfl
theorem wlM_151 : Cond.methodLink "TokenRowModel" 151 yM_readString ∈ TT := tt_k 406 rfl rfl
theorem wlM_154 : Cond.methodLink "TokenRowModel" 154 yM_readSign ∈ TT := tt_k 410 rfl rfl
theorem wlM_157 : Cond.methodLink "TokenRowModel" 157 yM_add ∈ TT := tt_k 414 rfl rfl
theorem wlM_172 : Cond.methodLink "TokenRowModel" 172 yM_keep ∈ TT := tt_k 418 rfl rfl
theorem wlM_160 : Cond.methodLink "TokenRowModel" 160 yM_say ∈ TT := tt_k 422 rfl rfl
theorem wlM_108 : Cond.methodLink "TokenRowModel" 108 yM_isIn ∈ TT := tt_k 426 rfl rfl
theorem wlM_87 : Cond.methodLink "TokenRowModel" 87 yS_length ∈ TT := tt_k 430 rfl rfl
theorem wlM_93 : Cond.methodLink "TokenRowModel" 93 yS_charAt ∈ TT := tt_k 431 rfl rfl
theorem wlM_97 : Cond.methodLink "TokenRowModel" 97 yM_standsAt ∈ TT := tt_k 432 rfl rfl
theorem wlM_163 : Cond.methodLink "TokenRowModel" 163 yM_understand ∈ TT := tt_k 436 rfl rfl
theorem wlM_112 : Cond.methodLink "TokenRowModel" 112 yM_ends ∈ TT := tt_k 440 rfl rfl
theorem wlM_101 : Cond.methodLink "TokenRowModel" 101 yM_isPlain ∈ TT := tt_k 444 rfl rfl
theorem wlM_104 : Cond.methodLink "TokenRowModel" 104 yM_is ∈ TT := tt_k 447 rfl rfl
theorem wlM_115 : Cond.methodLink "TokenRowModel" 115 yM_begins ∈ TT := tt_k 451 rfl rfl
theorem wlL_32 : Cond.methodLink "TokenRowLaw" 32 yM_kind ∈ TT := tt_k 455 rfl rfl
theorem wlM_175 : Cond.methodLink "TokenRowModel" 175 yM_isToken ∈ TT := tt_k 459 rfl rfl
theorem wlL_36 : Cond.methodLink "TokenRowLaw" 36 yM_place ∈ TT := tt_k 463 rfl rfl
theorem wlL_40 : Cond.methodLink "TokenRowLaw" 40 yM_line ∈ TT := tt_k 467 rfl rfl
theorem wlL_44 : Cond.methodLink "TokenRowLaw" 44 yM_value ∈ TT := tt_k 471 rfl rfl
theorem wlL_48 : Cond.methodLink "TokenRowLaw" 48 yM_level ∈ TT := tt_k 475 rfl rfl
theorem wlL_52 : Cond.methodLink "TokenRowLaw" 52 yM_size ∈ TT := tt_k 481 rfl rfl
theorem wlL_57 : Cond.methodLink "TokenRowLaw" 57 yM_textAt ∈ TT := tt_k 485 rfl rfl
theorem wfS_9 : Cond.fieldLink "java/lang/String" 9 "java/lang/String" "value" "[B" ∈ TT := tt_k 489 rfl rfl
theorem wfS_15 : Cond.fieldLink "java/lang/String" 15 "java/lang/String" "coder" "B" ∈ TT := tt_k 490 rfl rfl
theorem wa_int : Cond.arrayClass .int ∈ TT := tt_k 59 rfl rfl
end
section
theorem dX_init_0 : decode cX_init 0 = .ok (.aload_n 0, 1) := by decide +kernel
theorem dX_init_1 : decode cX_init 1 = .ok (.invokespecial 3, 3) := by decide +kernel
theorem dX_init_4 : decode cX_init 4 = .ok (.aload_n 0, 1) := by decide +kernel
theorem dX_init_5 : decode cX_init 5 = .ok (.sipush 1000, 3) := by decide +kernel
theorem dX_init_8 : decode cX_init 8 = .ok (.newarray .int, 2) := by decide +kernel
theorem dX_init_10 : decode cX_init 10 = .ok (.putfield 9, 3) := by decide +kernel
theorem dX_init_13 : decode cX_init 13 = .ok (.aload_n 0, 1) := by decide +kernel
theorem dX_init_14 : decode cX_init 14 = .ok (.sipush 1001, 3) := by decide +kernel
theorem dX_init_17 : decode cX_init 17 = .ok (.newarray .int, 2) := by decide +kernel
theorem dX_init_19 : decode cX_init 19 = .ok (.putfield 13, 3) := by decide +kernel
theorem dX_init_22 : decode cX_init 22 = .ok (.aload_n 0, 1) := by decide +kernel
theorem dX_init_23 : decode cX_init 23 = .ok (.sipush 1001, 3) := by decide +kernel
theorem dX_init_26 : decode cX_init 26 = .ok (.newarray .int, 2) := by decide +kernel
theorem dX_init_28 : decode cX_init 28 = .ok (.putfield 16, 3) := by decide +kernel
theorem dX_init_31 : decode cX_init 31 = .ok (.aload_n 0, 1) := by decide +kernel
theorem dX_init_32 : decode cX_init 32 = .ok (.sipush 1001, 3) := by decide +kernel
theorem dX_init_35 : decode cX_init 35 = .ok (.newarray .int, 2) := by decide +kernel
theorem dX_init_37 : decode cX_init 37 = .ok (.putfield 19, 3) := by decide +kernel
theorem dX_init_40 : decode cX_init 40 = .ok (.aload_n 0, 1) := by decide +kernel
theorem dX_init_41 : decode cX_init 41 = .ok (.sipush 1001, 3) := by decide +kernel
theorem dX_init_44 : decode cX_init 44 = .ok (.newarray .int, 2) := by decide +kernel
theorem dX_init_46 : decode cX_init 46 = .ok (.putfield 22, 3) := by decide +kernel
theorem dX_init_49 : decode cX_init 49 = .ok (.aload_n 0, 1) := by decide +kernel
theorem dX_init_50 : decode cX_init 50 = .ok (.sipush 1001, 3) := by decide +kernel
theorem dX_init_53 : decode cX_init 53 = .ok (.newarray .int, 2) := by decide +kernel
theorem dX_init_55 : decode cX_init 55 = .ok (.putfield 25, 3) := by decide +kernel
theorem dX_init_58 : decode cX_init 58 = .ok (.aload_n 0, 1) := by decide +kernel
theorem dX_init_59 : decode cX_init 59 = .ok (.sipush 1001, 3) := by decide +kernel
theorem dX_init_62 : decode cX_init 62 = .ok (.newarray .int, 2) := by decide +kernel
theorem dX_init_64 : decode cX_init 64 = .ok (.putfield 28, 3) := by decide +kernel
theorem dX_init_67 : decode cX_init 67 = .ok (.aload_n 0, 1) := by decide +kernel
theorem dX_init_68 : decode cX_init 68 = .ok (.sipush 1000, 3) := by decide +kernel
theorem dX_init_71 : decode cX_init 71 = .ok (.newarray .int, 2) := by decide +kernel
theorem dX_init_73 : decode cX_init 73 = .ok (.putfield 31, 3) := by decide +kernel
theorem dX_init_76 : decode cX_init 76 = .ok (.return_, 1) := by decide +kernel
theorem dX_feed_0 : decode cX_feed 0 = .ok (.aload_n 0, 1) := by decide +kernel
theorem dX_feed_1 : decode cX_feed 1 = .ok (.getfield 34, 3) := by decide +kernel
theorem dX_feed_4 : decode cX_feed 4 = .ok (.bipush 20, 2) := by decide +kernel
theorem dX_feed_6 : decode cX_feed 6 = .ok (.iadd, 1) := by decide +kernel
theorem dX_feed_7 : decode cX_feed 7 = .ok (.sipush 1000, 3) := by decide +kernel
theorem dX_feed_10 : decode cX_feed 10 = .ok (.if_icmp .le 5, 3) := by decide +kernel
theorem dX_feed_13 : decode cX_feed 13 = .ok (.iconst 0, 1) := by decide +kernel
theorem dX_feed_14 : decode cX_feed 14 = .ok (.ireturn, 1) := by decide +kernel
theorem dX_feed_15 : decode cX_feed 15 = .ok (.aload_n 0, 1) := by decide +kernel
theorem dX_feed_16 : decode cX_feed 16 = .ok (.iload_n 1, 1) := by decide +kernel
theorem dX_feed_17 : decode cX_feed 17 = .ok (.invokevirtual 38, 3) := by decide +kernel
theorem dX_feed_20 : decode cX_feed 20 = .ok (.aload_n 0, 1) := by decide +kernel
theorem dX_feed_21 : decode cX_feed 21 = .ok (.iload_n 2, 1) := by decide +kernel
theorem dX_feed_22 : decode cX_feed 22 = .ok (.invokevirtual 38, 3) := by decide +kernel
theorem dX_feed_25 : decode cX_feed 25 = .ok (.aload_n 0, 1) := by decide +kernel
theorem dX_feed_26 : decode cX_feed 26 = .ok (.iload_n 3, 1) := by decide +kernel
theorem dX_feed_27 : decode cX_feed 27 = .ok (.invokevirtual 38, 3) := by decide +kernel
theorem dX_feed_30 : decode cX_feed 30 = .ok (.aload_n 0, 1) := by decide +kernel
theorem dX_feed_31 : decode cX_feed 31 = .ok (.iload 4, 2) := by decide +kernel
theorem dX_feed_33 : decode cX_feed 33 = .ok (.invokevirtual 38, 3) := by decide +kernel
theorem dX_feed_36 : decode cX_feed 36 = .ok (.aload_n 0, 1) := by decide +kernel
theorem dX_feed_37 : decode cX_feed 37 = .ok (.iload 5, 2) := by decide +kernel
theorem dX_feed_39 : decode cX_feed 39 = .ok (.invokevirtual 38, 3) := by decide +kernel
theorem dX_feed_42 : decode cX_feed 42 = .ok (.iconst 1, 1) := by decide +kernel
theorem dX_feed_43 : decode cX_feed 43 = .ok (.ireturn, 1) := by decide +kernel
theorem dX_appendBytes_0 : decode cX_appendBytes 0 = .ok (.bipush 24, 2) := by decide +kernel
theorem dX_appendBytes_2 : decode cX_appendBytes 2 = .ok (.istore_n 2, 1) := by decide +kernel
theorem dX_appendBytes_3 : decode cX_appendBytes 3 = .ok (.iload_n 2, 1) := by decide +kernel
theorem dX_appendBytes_4 : decode cX_appendBytes 4 = .ok (.ifCond .lt 45, 3) := by decide +kernel
theorem dX_appendBytes_7 : decode cX_appendBytes 7 = .ok (.aload_n 0, 1) := by decide +kernel
theorem dX_appendBytes_8 : decode cX_appendBytes 8 = .ok (.getfield 34, 3) := by decide +kernel
theorem dX_appendBytes_11 : decode cX_appendBytes 11 = .ok (.sipush 1000, 3) := by decide +kernel
theorem dX_appendBytes_14 : decode cX_appendBytes 14 = .ok (.if_icmp .ge 35, 3) := by decide +kernel
theorem dX_appendBytes_17 : decode cX_appendBytes 17 = .ok (.aload_n 0, 1) := by decide +kernel
theorem dX_appendBytes_18 : decode cX_appendBytes 18 = .ok (.getfield 9, 3) := by decide +kernel
theorem dX_appendBytes_21 : decode cX_appendBytes 21 = .ok (.aload_n 0, 1) := by decide +kernel
theorem dX_appendBytes_22 : decode cX_appendBytes 22 = .ok (.getfield 34, 3) := by decide +kernel
theorem dX_appendBytes_25 : decode cX_appendBytes 25 = .ok (.iload_n 1, 1) := by decide +kernel
theorem dX_appendBytes_26 : decode cX_appendBytes 26 = .ok (.iload_n 2, 1) := by decide +kernel
theorem dX_appendBytes_27 : decode cX_appendBytes 27 = .ok (.iushr, 1) := by decide +kernel
theorem dX_appendBytes_28 : decode cX_appendBytes 28 = .ok (.sipush 255, 3) := by decide +kernel
theorem dX_appendBytes_31 : decode cX_appendBytes 31 = .ok (.iand, 1) := by decide +kernel
theorem dX_appendBytes_32 : decode cX_appendBytes 32 = .ok (.iastore, 1) := by decide +kernel
theorem dX_appendBytes_33 : decode cX_appendBytes 33 = .ok (.aload_n 0, 1) := by decide +kernel
theorem dX_appendBytes_34 : decode cX_appendBytes 34 = .ok (.dup, 1) := by decide +kernel
theorem dX_appendBytes_35 : decode cX_appendBytes 35 = .ok (.getfield 34, 3) := by decide +kernel
theorem dX_appendBytes_38 : decode cX_appendBytes 38 = .ok (.iconst 1, 1) := by decide +kernel
theorem dX_appendBytes_39 : decode cX_appendBytes 39 = .ok (.iadd, 1) := by decide +kernel
theorem dX_appendBytes_40 : decode cX_appendBytes 40 = .ok (.putfield 34, 3) := by decide +kernel
theorem dX_appendBytes_43 : decode cX_appendBytes 43 = .ok (.iinc 2 (-8), 3) := by decide +kernel
theorem dX_appendBytes_46 : decode cX_appendBytes 46 = .ok (.goto (-43), 3) := by decide +kernel
theorem dX_appendBytes_49 : decode cX_appendBytes 49 = .ok (.return_, 1) := by decide +kernel
theorem dX_end_0 : decode cX_end 0 = .ok (.iload_n 1, 1) := by decide +kernel
theorem dX_end_1 : decode cX_end 1 = .ok (.ifCond .lt 11, 3) := by decide +kernel
theorem dX_end_4 : decode cX_end 4 = .ok (.iload_n 1, 1) := by decide +kernel
theorem dX_end_5 : decode cX_end 5 = .ok (.aload_n 0, 1) := by decide +kernel
theorem dX_end_6 : decode cX_end 6 = .ok (.getfield 34, 3) := by decide +kernel
theorem dX_end_9 : decode cX_end 9 = .ok (.if_icmp .le 5, 3) := by decide +kernel
theorem dX_end_12 : decode cX_end 12 = .ok (.iconst 0, 1) := by decide +kernel
theorem dX_end_13 : decode cX_end 13 = .ok (.ireturn, 1) := by decide +kernel
theorem dX_end_14 : decode cX_end 14 = .ok (.aload_n 0, 1) := by decide +kernel
theorem dX_end_15 : decode cX_end 15 = .ok (.iload_n 1, 1) := by decide +kernel
theorem dX_end_16 : decode cX_end 16 = .ok (.putfield 34, 3) := by decide +kernel
theorem dX_end_19 : decode cX_end 19 = .ok (.iconst 1, 1) := by decide +kernel
theorem dX_end_20 : decode cX_end 20 = .ok (.ireturn, 1) := by decide +kernel
theorem dX_read_0 : decode cX_read 0 = .ok (.aload_n 0, 1) := by decide +kernel
theorem dX_read_1 : decode cX_read 1 = .ok (.iconst 0, 1) := by decide +kernel
theorem dX_read_2 : decode cX_read 2 = .ok (.putfield 42, 3) := by decide +kernel
theorem dX_read_5 : decode cX_read 5 = .ok (.aload_n 0, 1) := by decide +kernel
theorem dX_read_6 : decode cX_read 6 = .ok (.iconst 0, 1) := by decide +kernel
theorem dX_read_7 : decode cX_read 7 = .ok (.putfield 45, 3) := by decide +kernel
theorem dX_read_10 : decode cX_read 10 = .ok (.aload_n 0, 1) := by decide +kernel
theorem dX_read_11 : decode cX_read 11 = .ok (.iconst 0, 1) := by decide +kernel
theorem dX_read_12 : decode cX_read 12 = .ok (.putfield 48, 3) := by decide +kernel
theorem dX_read_15 : decode cX_read 15 = .ok (.aload_n 0, 1) := by decide +kernel
theorem dX_read_16 : decode cX_read 16 = .ok (.iconst 0, 1) := by decide +kernel
theorem dX_read_17 : decode cX_read 17 = .ok (.putfield 51, 3) := by decide +kernel
theorem dX_read_20 : decode cX_read 20 = .ok (.iconst 1, 1) := by decide +kernel
theorem dX_read_21 : decode cX_read 21 = .ok (.istore_n 1, 1) := by decide +kernel
theorem dX_read_22 : decode cX_read 22 = .ok (.iconst 0, 1) := by decide +kernel
theorem dX_read_23 : decode cX_read 23 = .ok (.istore_n 2, 1) := by decide +kernel
theorem dX_read_24 : decode cX_read 24 = .ok (.iload_n 2, 1) := by decide +kernel
theorem dX_read_25 : decode cX_read 25 = .ok (.sipush 1001, 3) := by decide +kernel
theorem dX_read_28 : decode cX_read 28 = .ok (.if_icmp .ge 22, 3) := by decide +kernel
theorem dX_read_31 : decode cX_read 31 = .ok (.iload_n 1, 1) := by decide +kernel
theorem dX_read_32 : decode cX_read 32 = .ok (.ifCond .eq 18, 3) := by decide +kernel
theorem dX_read_35 : decode cX_read 35 = .ok (.aload_n 0, 1) := by decide +kernel
theorem dX_read_36 : decode cX_read 36 = .ok (.invokevirtual 54, 3) := by decide +kernel
theorem dX_read_39 : decode cX_read 39 = .ok (.aload_n 0, 1) := by decide +kernel
theorem dX_read_40 : decode cX_read 40 = .ok (.invokevirtual 57, 3) := by decide +kernel
theorem dX_read_43 : decode cX_read 43 = .ok (.istore_n 1, 1) := by decide +kernel
theorem dX_read_44 : decode cX_read 44 = .ok (.iinc 2 1, 3) := by decide +kernel
theorem dX_read_47 : decode cX_read 47 = .ok (.goto (-23), 3) := by decide +kernel
theorem dX_read_50 : decode cX_read 50 = .ok (.aload_n 0, 1) := by decide +kernel
theorem dX_read_51 : decode cX_read 51 = .ok (.iconst 0, 1) := by decide +kernel
theorem dX_read_52 : decode cX_read 52 = .ok (.putfield 34, 3) := by decide +kernel
theorem dX_read_55 : decode cX_read 55 = .ok (.aload_n 0, 1) := by decide +kernel
theorem dX_read_56 : decode cX_read 56 = .ok (.getfield 42, 3) := by decide +kernel
theorem dX_read_59 : decode cX_read 59 = .ok (.ireturn, 1) := by decide +kernel
theorem dX_skipGap_0 : decode cX_skipGap 0 = .ok (.iconst 0, 1) := by decide +kernel
theorem dX_skipGap_1 : decode cX_skipGap 1 = .ok (.istore_n 1, 1) := by decide +kernel
theorem dX_skipGap_2 : decode cX_skipGap 2 = .ok (.aload_n 0, 1) := by decide +kernel
theorem dX_skipGap_3 : decode cX_skipGap 3 = .ok (.getfield 48, 3) := by decide +kernel
theorem dX_skipGap_6 : decode cX_skipGap 6 = .ok (.aload_n 0, 1) := by decide +kernel
theorem dX_skipGap_7 : decode cX_skipGap 7 = .ok (.getfield 34, 3) := by decide +kernel
theorem dX_skipGap_10 : decode cX_skipGap 10 = .ok (.if_icmp .ge 95, 3) := by decide +kernel
theorem dX_skipGap_13 : decode cX_skipGap 13 = .ok (.aload_n 0, 1) := by decide +kernel
theorem dX_skipGap_14 : decode cX_skipGap 14 = .ok (.aload_n 0, 1) := by decide +kernel
theorem dX_skipGap_15 : decode cX_skipGap 15 = .ok (.getfield 48, 3) := by decide +kernel
theorem dX_skipGap_18 : decode cX_skipGap 18 = .ok (.invokevirtual 81, 3) := by decide +kernel
theorem dX_skipGap_21 : decode cX_skipGap 21 = .ok (.istore_n 2, 1) := by decide +kernel
theorem dX_skipGap_22 : decode cX_skipGap 22 = .ok (.iload_n 2, 1) := by decide +kernel
theorem dX_skipGap_23 : decode cX_skipGap 23 = .ok (.bipush 10, 2) := by decide +kernel
theorem dX_skipGap_25 : decode cX_skipGap 25 = .ok (.if_icmp .ne 18, 3) := by decide +kernel
theorem dX_skipGap_28 : decode cX_skipGap 28 = .ok (.aload_n 0, 1) := by decide +kernel
theorem dX_skipGap_29 : decode cX_skipGap 29 = .ok (.dup, 1) := by decide +kernel
theorem dX_skipGap_30 : decode cX_skipGap 30 = .ok (.getfield 51, 3) := by decide +kernel
theorem dX_skipGap_33 : decode cX_skipGap 33 = .ok (.iconst 1, 1) := by decide +kernel
theorem dX_skipGap_34 : decode cX_skipGap 34 = .ok (.iadd, 1) := by decide +kernel
theorem dX_skipGap_35 : decode cX_skipGap 35 = .ok (.putfield 51, 3) := by decide +kernel
theorem dX_skipGap_38 : decode cX_skipGap 38 = .ok (.iconst 0, 1) := by decide +kernel
theorem dX_skipGap_39 : decode cX_skipGap 39 = .ok (.istore_n 1, 1) := by decide +kernel
theorem dX_skipGap_40 : decode cX_skipGap 40 = .ok (.goto 52, 3) := by decide +kernel
theorem dX_skipGap_43 : decode cX_skipGap 43 = .ok (.iload_n 2, 1) := by decide +kernel
theorem dX_skipGap_44 : decode cX_skipGap 44 = .ok (.bipush 47, 2) := by decide +kernel
theorem dX_skipGap_46 : decode cX_skipGap 46 = .ok (.if_icmp .ne 23, 3) := by decide +kernel
theorem dX_skipGap_49 : decode cX_skipGap 49 = .ok (.aload_n 0, 1) := by decide +kernel
theorem dX_skipGap_50 : decode cX_skipGap 50 = .ok (.aload_n 0, 1) := by decide +kernel
theorem dX_skipGap_51 : decode cX_skipGap 51 = .ok (.getfield 48, 3) := by decide +kernel
theorem dX_skipGap_54 : decode cX_skipGap 54 = .ok (.iconst 1, 1) := by decide +kernel
theorem dX_skipGap_55 : decode cX_skipGap 55 = .ok (.iadd, 1) := by decide +kernel
theorem dX_skipGap_56 : decode cX_skipGap 56 = .ok (.invokevirtual 81, 3) := by decide +kernel
theorem dX_skipGap_59 : decode cX_skipGap 59 = .ok (.bipush 47, 2) := by decide +kernel
theorem dX_skipGap_61 : decode cX_skipGap 61 = .ok (.if_icmp .ne 8, 3) := by decide +kernel
theorem dX_skipGap_64 : decode cX_skipGap 64 = .ok (.iconst 1, 1) := by decide +kernel
theorem dX_skipGap_65 : decode cX_skipGap 65 = .ok (.istore_n 1, 1) := by decide +kernel
theorem dX_skipGap_66 : decode cX_skipGap 66 = .ok (.goto 26, 3) := by decide +kernel
theorem dX_skipGap_69 : decode cX_skipGap 69 = .ok (.iload_n 1, 1) := by decide +kernel
theorem dX_skipGap_70 : decode cX_skipGap 70 = .ok (.ifCond .ne 22, 3) := by decide +kernel
theorem dX_skipGap_73 : decode cX_skipGap 73 = .ok (.iload_n 2, 1) := by decide +kernel
theorem dX_skipGap_74 : decode cX_skipGap 74 = .ok (.bipush 9, 2) := by decide +kernel
theorem dX_skipGap_76 : decode cX_skipGap 76 = .ok (.if_icmp .eq 16, 3) := by decide +kernel
theorem dX_skipGap_79 : decode cX_skipGap 79 = .ok (.iload_n 2, 1) := by decide +kernel
theorem dX_skipGap_80 : decode cX_skipGap 80 = .ok (.bipush 13, 2) := by decide +kernel
theorem dX_skipGap_82 : decode cX_skipGap 82 = .ok (.if_icmp .eq 10, 3) := by decide +kernel
theorem dX_skipGap_85 : decode cX_skipGap 85 = .ok (.iload_n 2, 1) := by decide +kernel
theorem dX_skipGap_86 : decode cX_skipGap 86 = .ok (.bipush 32, 2) := by decide +kernel
theorem dX_skipGap_88 : decode cX_skipGap 88 = .ok (.if_icmp .eq 4, 3) := by decide +kernel
theorem dX_skipGap_91 : decode cX_skipGap 91 = .ok (.return_, 1) := by decide +kernel
theorem dX_skipGap_92 : decode cX_skipGap 92 = .ok (.aload_n 0, 1) := by decide +kernel
theorem dX_skipGap_93 : decode cX_skipGap 93 = .ok (.dup, 1) := by decide +kernel
theorem dX_skipGap_94 : decode cX_skipGap 94 = .ok (.getfield 48, 3) := by decide +kernel
theorem dX_skipGap_97 : decode cX_skipGap 97 = .ok (.iconst 1, 1) := by decide +kernel
theorem dX_skipGap_98 : decode cX_skipGap 98 = .ok (.iadd, 1) := by decide +kernel
theorem dX_skipGap_99 : decode cX_skipGap 99 = .ok (.putfield 48, 3) := by decide +kernel
theorem dX_skipGap_102 : decode cX_skipGap 102 = .ok (.goto (-100), 3) := by decide +kernel
theorem dX_skipGap_105 : decode cX_skipGap 105 = .ok (.return_, 1) := by decide +kernel
theorem dX_tapeByte_0 : decode cX_tapeByte 0 = .ok (.iload_n 1, 1) := by decide +kernel
theorem dX_tapeByte_1 : decode cX_tapeByte 1 = .ok (.aload_n 0, 1) := by decide +kernel
theorem dX_tapeByte_2 : decode cX_tapeByte 2 = .ok (.getfield 34, 3) := by decide +kernel
theorem dX_tapeByte_5 : decode cX_tapeByte 5 = .ok (.if_icmp .ge 14, 3) := by decide +kernel
theorem dX_tapeByte_8 : decode cX_tapeByte 8 = .ok (.aload_n 0, 1) := by decide +kernel
theorem dX_tapeByte_9 : decode cX_tapeByte 9 = .ok (.getfield 9, 3) := by decide +kernel
theorem dX_tapeByte_12 : decode cX_tapeByte 12 = .ok (.iload_n 1, 1) := by decide +kernel
theorem dX_tapeByte_13 : decode cX_tapeByte 13 = .ok (.invokestatic 77, 3) := by decide +kernel
theorem dX_tapeByte_16 : decode cX_tapeByte 16 = .ok (.goto 4, 3) := by decide +kernel
theorem dX_tapeByte_19 : decode cX_tapeByte 19 = .ok (.iconst (-1), 1) := by decide +kernel
theorem dX_tapeByte_20 : decode cX_tapeByte 20 = .ok (.ireturn, 1) := by decide +kernel
theorem dX_elementAt_0 : decode cX_elementAt 0 = .ok (.iload_n 1, 1) := by decide +kernel
theorem dX_elementAt_1 : decode cX_elementAt 1 = .ok (.ifCond .lt 15, 3) := by decide +kernel
theorem dX_elementAt_4 : decode cX_elementAt 4 = .ok (.iload_n 1, 1) := by decide +kernel
theorem dX_elementAt_5 : decode cX_elementAt 5 = .ok (.aload_n 0, 1) := by decide +kernel
theorem dX_elementAt_6 : decode cX_elementAt 6 = .ok (.arraylength, 1) := by decide +kernel
theorem dX_elementAt_7 : decode cX_elementAt 7 = .ok (.if_icmp .ge 9, 3) := by decide +kernel
theorem dX_elementAt_10 : decode cX_elementAt 10 = .ok (.aload_n 0, 1) := by decide +kernel
theorem dX_elementAt_11 : decode cX_elementAt 11 = .ok (.iload_n 1, 1) := by decide +kernel
theorem dX_elementAt_12 : decode cX_elementAt 12 = .ok (.iaload, 1) := by decide +kernel
theorem dX_elementAt_13 : decode cX_elementAt 13 = .ok (.goto 4, 3) := by decide +kernel
theorem dX_elementAt_16 : decode cX_elementAt 16 = .ok (.iconst (-1), 1) := by decide +kernel
theorem dX_elementAt_17 : decode cX_elementAt 17 = .ok (.ireturn, 1) := by decide +kernel
theorem dX_readToken_0 : decode cX_readToken 0 = .ok (.aload_n 0, 1) := by decide +kernel
theorem dX_readToken_1 : decode cX_readToken 1 = .ok (.getfield 48, 3) := by decide +kernel
theorem dX_readToken_4 : decode cX_readToken 4 = .ok (.istore_n 1, 1) := by decide +kernel
theorem dX_readToken_5 : decode cX_readToken 5 = .ok (.aload_n 0, 1) := by decide +kernel
theorem dX_readToken_6 : decode cX_readToken 6 = .ok (.getfield 45, 3) := by decide +kernel
theorem dX_readToken_9 : decode cX_readToken 9 = .ok (.istore_n 2, 1) := by decide +kernel
theorem dX_readToken_10 : decode cX_readToken 10 = .ok (.aload_n 0, 1) := by decide +kernel
theorem dX_readToken_11 : decode cX_readToken 11 = .ok (.iconst 0, 1) := by decide +kernel
theorem dX_readToken_12 : decode cX_readToken 12 = .ok (.putfield 85, 3) := by decide +kernel
theorem dX_readToken_15 : decode cX_readToken 15 = .ok (.aload_n 0, 1) := by decide +kernel
theorem dX_readToken_16 : decode cX_readToken 16 = .ok (.invokevirtual 88, 3) := by decide +kernel
theorem dX_readToken_19 : decode cX_readToken 19 = .ok (.istore_n 3, 1) := by decide +kernel
theorem dX_readToken_20 : decode cX_readToken 20 = .ok (.iload_n 3, 1) := by decide +kernel
theorem dX_readToken_21 : decode cX_readToken 21 = .ok (.bipush 6, 2) := by decide +kernel
theorem dX_readToken_23 : decode cX_readToken 23 = .ok (.if_icmp .ne 8, 3) := by decide +kernel
theorem dX_readToken_26 : decode cX_readToken 26 = .ok (.aload_n 0, 1) := by decide +kernel
theorem dX_readToken_27 : decode cX_readToken 27 = .ok (.iload_n 2, 1) := by decide +kernel
theorem dX_readToken_28 : decode cX_readToken 28 = .ok (.putfield 45, 3) := by decide +kernel
theorem dX_readToken_31 : decode cX_readToken 31 = .ok (.aload_n 0, 1) := by decide +kernel
theorem dX_readToken_32 : decode cX_readToken 32 = .ok (.getfield 45, 3) := by decide +kernel
theorem dX_readToken_35 : decode cX_readToken 35 = .ok (.iload_n 2, 1) := by decide +kernel
theorem dX_readToken_36 : decode cX_readToken 36 = .ok (.isub, 1) := by decide +kernel
theorem dX_readToken_37 : decode cX_readToken 37 = .ok (.istore 4, 2) := by decide +kernel
theorem dX_readToken_39 : decode cX_readToken 39 = .ok (.aload_n 0, 1) := by decide +kernel
theorem dX_readToken_40 : decode cX_readToken 40 = .ok (.iload_n 3, 1) := by decide +kernel
theorem dX_readToken_41 : decode cX_readToken 41 = .ok (.iload_n 2, 1) := by decide +kernel
theorem dX_readToken_42 : decode cX_readToken 42 = .ok (.iload 4, 2) := by decide +kernel
theorem dX_readToken_44 : decode cX_readToken 44 = .ok (.invokevirtual 92, 3) := by decide +kernel
theorem dX_readToken_47 : decode cX_readToken 47 = .ok (.ifCond .eq 8, 3) := by decide +kernel
theorem dX_readToken_50 : decode cX_readToken 50 = .ok (.aload_n 0, 1) := by decide +kernel
theorem dX_readToken_51 : decode cX_readToken 51 = .ok (.iload_n 1, 1) := by decide +kernel
theorem dX_readToken_52 : decode cX_readToken 52 = .ok (.invokevirtual 96, 3) := by decide +kernel
theorem dX_readToken_55 : decode cX_readToken 55 = .ok (.aload_n 0, 1) := by decide +kernel
theorem dX_readToken_56 : decode cX_readToken 56 = .ok (.iload_n 3, 1) := by decide +kernel
theorem dX_readToken_57 : decode cX_readToken 57 = .ok (.iload_n 1, 1) := by decide +kernel
theorem dX_readToken_58 : decode cX_readToken 58 = .ok (.aload_n 0, 1) := by decide +kernel
theorem dX_readToken_59 : decode cX_readToken 59 = .ok (.getfield 85, 3) := by decide +kernel
theorem dX_readToken_62 : decode cX_readToken 62 = .ok (.iload_n 2, 1) := by decide +kernel
theorem dX_readToken_63 : decode cX_readToken 63 = .ok (.iload 4, 2) := by decide +kernel
theorem dX_readToken_65 : decode cX_readToken 65 = .ok (.invokevirtual 99, 3) := by decide +kernel
theorem dX_readToken_68 : decode cX_readToken 68 = .ok (.iload_n 3, 1) := by decide +kernel
theorem dX_readToken_69 : decode cX_readToken 69 = .ok (.iconst 5, 1) := by decide +kernel
theorem dX_readToken_70 : decode cX_readToken 70 = .ok (.if_icmp .eq 13, 3) := by decide +kernel
theorem dX_readToken_73 : decode cX_readToken 73 = .ok (.iload_n 3, 1) := by decide +kernel
theorem dX_readToken_74 : decode cX_readToken 74 = .ok (.bipush 6, 2) := by decide +kernel
theorem dX_readToken_76 : decode cX_readToken 76 = .ok (.if_icmp .eq 7, 3) := by decide +kernel
theorem dX_readToken_79 : decode cX_readToken 79 = .ok (.iconst 1, 1) := by decide +kernel
theorem dX_readToken_80 : decode cX_readToken 80 = .ok (.goto 4, 3) := by decide +kernel
theorem dX_readToken_83 : decode cX_readToken 83 = .ok (.iconst 0, 1) := by decide +kernel
theorem dX_readToken_84 : decode cX_readToken 84 = .ok (.ireturn, 1) := by decide +kernel
theorem dX_takeToken_0 : decode cX_takeToken 0 = .ok (.aload_n 0, 1) := by decide +kernel
theorem dX_takeToken_1 : decode cX_takeToken 1 = .ok (.aload_n 0, 1) := by decide +kernel
theorem dX_takeToken_2 : decode cX_takeToken 2 = .ok (.getfield 48, 3) := by decide +kernel
theorem dX_takeToken_5 : decode cX_takeToken 5 = .ok (.invokevirtual 81, 3) := by decide +kernel
theorem dX_takeToken_8 : decode cX_takeToken 8 = .ok (.istore_n 1, 1) := by decide +kernel
theorem dX_takeToken_9 : decode cX_takeToken 9 = .ok (.iload_n 1, 1) := by decide +kernel
theorem dX_takeToken_10 : decode cX_takeToken 10 = .ok (.iconst (-1), 1) := by decide +kernel
theorem dX_takeToken_11 : decode cX_takeToken 11 = .ok (.if_icmp .ne 5, 3) := by decide +kernel
theorem dX_takeToken_14 : decode cX_takeToken 14 = .ok (.iconst 5, 1) := by decide +kernel
theorem dX_takeToken_15 : decode cX_takeToken 15 = .ok (.ireturn, 1) := by decide +kernel
theorem dX_takeToken_16 : decode cX_takeToken 16 = .ok (.iload_n 1, 1) := by decide +kernel
theorem dX_takeToken_17 : decode cX_takeToken 17 = .ok (.invokestatic 103, 3) := by decide +kernel
theorem dX_takeToken_20 : decode cX_takeToken 20 = .ok (.ifCond .eq 8, 3) := by decide +kernel
theorem dX_takeToken_23 : decode cX_takeToken 23 = .ok (.aload_n 0, 1) := by decide +kernel
theorem dX_takeToken_24 : decode cX_takeToken 24 = .ok (.invokevirtual 106, 3) := by decide +kernel
theorem dX_takeToken_27 : decode cX_takeToken 27 = .ok (.ireturn, 1) := by decide +kernel
theorem dX_takeToken_28 : decode cX_takeToken 28 = .ok (.iload_n 1, 1) := by decide +kernel
theorem dX_takeToken_29 : decode cX_takeToken 29 = .ok (.invokestatic 109, 3) := by decide +kernel
theorem dX_takeToken_32 : decode cX_takeToken 32 = .ok (.ifCond .eq 10, 3) := by decide +kernel
theorem dX_takeToken_35 : decode cX_takeToken 35 = .ok (.aload_n 0, 1) := by decide +kernel
theorem dX_takeToken_36 : decode cX_takeToken 36 = .ok (.bipush 10, 2) := by decide +kernel
theorem dX_takeToken_38 : decode cX_takeToken 38 = .ok (.invokevirtual 112, 3) := by decide +kernel
theorem dX_takeToken_41 : decode cX_takeToken 41 = .ok (.ireturn, 1) := by decide +kernel
theorem dX_takeToken_42 : decode cX_takeToken 42 = .ok (.iload_n 1, 1) := by decide +kernel
theorem dX_takeToken_43 : decode cX_takeToken 43 = .ok (.bipush 35, 2) := by decide +kernel
theorem dX_takeToken_45 : decode cX_takeToken 45 = .ok (.if_icmp .ne 8, 3) := by decide +kernel
theorem dX_takeToken_48 : decode cX_takeToken 48 = .ok (.aload_n 0, 1) := by decide +kernel
theorem dX_takeToken_49 : decode cX_takeToken 49 = .ok (.invokevirtual 115, 3) := by decide +kernel
theorem dX_takeToken_52 : decode cX_takeToken 52 = .ok (.ireturn, 1) := by decide +kernel
theorem dX_takeToken_53 : decode cX_takeToken 53 = .ok (.iload_n 1, 1) := by decide +kernel
theorem dX_takeToken_54 : decode cX_takeToken 54 = .ok (.bipush 39, 2) := by decide +kernel
theorem dX_takeToken_56 : decode cX_takeToken 56 = .ok (.if_icmp .ne 8, 3) := by decide +kernel
theorem dX_takeToken_59 : decode cX_takeToken 59 = .ok (.aload_n 0, 1) := by decide +kernel
theorem dX_takeToken_60 : decode cX_takeToken 60 = .ok (.invokevirtual 118, 3) := by decide +kernel
theorem dX_takeToken_63 : decode cX_takeToken 63 = .ok (.ireturn, 1) := by decide +kernel
theorem dX_takeToken_64 : decode cX_takeToken 64 = .ok (.iload_n 1, 1) := by decide +kernel
theorem dX_takeToken_65 : decode cX_takeToken 65 = .ok (.bipush 34, 2) := by decide +kernel
theorem dX_takeToken_67 : decode cX_takeToken 67 = .ok (.if_icmp .ne 10, 3) := by decide +kernel
theorem dX_takeToken_70 : decode cX_takeToken 70 = .ok (.aload_n 0, 1) := by decide +kernel
theorem dX_takeToken_71 : decode cX_takeToken 71 = .ok (.invokevirtual 121, 3) := by decide +kernel
theorem dX_takeToken_74 : decode cX_takeToken 74 = .ok (.goto 7, 3) := by decide +kernel
theorem dX_takeToken_77 : decode cX_takeToken 77 = .ok (.aload_n 0, 1) := by decide +kernel
theorem dX_takeToken_78 : decode cX_takeToken 78 = .ok (.invokevirtual 124, 3) := by decide +kernel
theorem dX_takeToken_81 : decode cX_takeToken 81 = .ok (.ireturn, 1) := by decide +kernel
theorem dX_isLetter_0 : decode cX_isLetter 0 = .ok (.iload_n 0, 1) := by decide +kernel
theorem dX_isLetter_1 : decode cX_isLetter 1 = .ok (.bipush 97, 2) := by decide +kernel
theorem dX_isLetter_3 : decode cX_isLetter 3 = .ok (.if_icmp .lt 9, 3) := by decide +kernel
theorem dX_isLetter_6 : decode cX_isLetter 6 = .ok (.iload_n 0, 1) := by decide +kernel
theorem dX_isLetter_7 : decode cX_isLetter 7 = .ok (.bipush 122, 2) := by decide +kernel
theorem dX_isLetter_9 : decode cX_isLetter 9 = .ok (.if_icmp .le 15, 3) := by decide +kernel
theorem dX_isLetter_12 : decode cX_isLetter 12 = .ok (.iload_n 0, 1) := by decide +kernel
theorem dX_isLetter_13 : decode cX_isLetter 13 = .ok (.bipush 65, 2) := by decide +kernel
theorem dX_isLetter_15 : decode cX_isLetter 15 = .ok (.if_icmp .lt 13, 3) := by decide +kernel
theorem dX_isLetter_18 : decode cX_isLetter 18 = .ok (.iload_n 0, 1) := by decide +kernel
theorem dX_isLetter_19 : decode cX_isLetter 19 = .ok (.bipush 90, 2) := by decide +kernel
theorem dX_isLetter_21 : decode cX_isLetter 21 = .ok (.if_icmp .gt 7, 3) := by decide +kernel
theorem dX_isLetter_24 : decode cX_isLetter 24 = .ok (.iconst 1, 1) := by decide +kernel
theorem dX_isLetter_25 : decode cX_isLetter 25 = .ok (.goto 4, 3) := by decide +kernel
theorem dX_isLetter_28 : decode cX_isLetter 28 = .ok (.iconst 0, 1) := by decide +kernel
theorem dX_isLetter_29 : decode cX_isLetter 29 = .ok (.ireturn, 1) := by decide +kernel
theorem dX_takeWord_0 : decode cX_takeWord 0 = .ok (.aload_n 0, 1) := by decide +kernel
theorem dX_takeWord_1 : decode cX_takeWord 1 = .ok (.getfield 48, 3) := by decide +kernel
theorem dX_takeWord_4 : decode cX_takeWord 4 = .ok (.istore_n 1, 1) := by decide +kernel
theorem dX_takeWord_5 : decode cX_takeWord 5 = .ok (.iload_n 1, 1) := by decide +kernel
theorem dX_takeWord_6 : decode cX_takeWord 6 = .ok (.aload_n 0, 1) := by decide +kernel
theorem dX_takeWord_7 : decode cX_takeWord 7 = .ok (.getfield 34, 3) := by decide +kernel
theorem dX_takeWord_10 : decode cX_takeWord 10 = .ok (.if_icmp .ge 20, 3) := by decide +kernel
theorem dX_takeWord_13 : decode cX_takeWord 13 = .ok (.aload_n 0, 1) := by decide +kernel
theorem dX_takeWord_14 : decode cX_takeWord 14 = .ok (.iload_n 1, 1) := by decide +kernel
theorem dX_takeWord_15 : decode cX_takeWord 15 = .ok (.invokevirtual 81, 3) := by decide +kernel
theorem dX_takeWord_18 : decode cX_takeWord 18 = .ok (.invokestatic 127, 3) := by decide +kernel
theorem dX_takeWord_21 : decode cX_takeWord 21 = .ok (.ifCond .eq 9, 3) := by decide +kernel
theorem dX_takeWord_24 : decode cX_takeWord 24 = .ok (.iinc 1 1, 3) := by decide +kernel
theorem dX_takeWord_27 : decode cX_takeWord 27 = .ok (.goto (-22), 3) := by decide +kernel
theorem dX_takeWord_30 : decode cX_takeWord 30 = .ok (.iload_n 1, 1) := by decide +kernel
theorem dX_takeWord_31 : decode cX_takeWord 31 = .ok (.aload_n 0, 1) := by decide +kernel
theorem dX_takeWord_32 : decode cX_takeWord 32 = .ok (.getfield 48, 3) := by decide +kernel
theorem dX_takeWord_35 : decode cX_takeWord 35 = .ok (.isub, 1) := by decide +kernel
theorem dX_takeWord_36 : decode cX_takeWord 36 = .ok (.istore_n 2, 1) := by decide +kernel
theorem dX_takeWord_37 : decode cX_takeWord 37 = .ok (.iload_n 2, 1) := by decide +kernel
theorem dX_takeWord_38 : decode cX_takeWord 38 = .ok (.bipush 40, 2) := by decide +kernel
theorem dX_takeWord_40 : decode cX_takeWord 40 = .ok (.if_icmp .le 6, 3) := by decide +kernel
theorem dX_takeWord_43 : decode cX_takeWord 43 = .ok (.bipush 6, 2) := by decide +kernel
theorem dX_takeWord_45 : decode cX_takeWord 45 = .ok (.ireturn, 1) := by decide +kernel
theorem dX_takeWord_46 : decode cX_takeWord 46 = .ok (.aload_n 0, 1) := by decide +kernel
theorem dX_takeWord_47 : decode cX_takeWord 47 = .ok (.aload_n 0, 1) := by decide +kernel
theorem dX_takeWord_48 : decode cX_takeWord 48 = .ok (.getfield 48, 3) := by decide +kernel
theorem dX_takeWord_51 : decode cX_takeWord 51 = .ok (.iload_n 2, 1) := by decide +kernel
theorem dX_takeWord_52 : decode cX_takeWord 52 = .ok (.invokevirtual 130, 3) := by decide +kernel
theorem dX_takeWord_55 : decode cX_takeWord 55 = .ok (.ifCond .eq 7, 3) := by decide +kernel
theorem dX_takeWord_58 : decode cX_takeWord 58 = .ok (.iconst 4, 1) := by decide +kernel
theorem dX_takeWord_59 : decode cX_takeWord 59 = .ok (.goto 4, 3) := by decide +kernel
theorem dX_takeWord_62 : decode cX_takeWord 62 = .ok (.iconst 0, 1) := by decide +kernel
theorem dX_takeWord_63 : decode cX_takeWord 63 = .ok (.istore_n 3, 1) := by decide +kernel
theorem dX_takeWord_64 : decode cX_takeWord 64 = .ok (.aload_n 0, 1) := by decide +kernel
theorem dX_takeWord_65 : decode cX_takeWord 65 = .ok (.iload_n 2, 1) := by decide +kernel
theorem dX_takeWord_66 : decode cX_takeWord 66 = .ok (.invokevirtual 134, 3) := by decide +kernel
theorem dX_takeWord_69 : decode cX_takeWord 69 = .ok (.iload_n 3, 1) := by decide +kernel
theorem dX_takeWord_70 : decode cX_takeWord 70 = .ok (.ireturn, 1) := by decide +kernel
theorem dX_isNameByte_0 : decode cX_isNameByte 0 = .ok (.iload_n 0, 1) := by decide +kernel
theorem dX_isNameByte_1 : decode cX_isNameByte 1 = .ok (.invokestatic 103, 3) := by decide +kernel
theorem dX_isNameByte_4 : decode cX_isNameByte 4 = .ok (.ifCond .ne 22, 3) := by decide +kernel
theorem dX_isNameByte_7 : decode cX_isNameByte 7 = .ok (.iload_n 0, 1) := by decide +kernel
theorem dX_isNameByte_8 : decode cX_isNameByte 8 = .ok (.invokestatic 109, 3) := by decide +kernel
theorem dX_isNameByte_11 : decode cX_isNameByte 11 = .ok (.ifCond .ne 15, 3) := by decide +kernel
theorem dX_isNameByte_14 : decode cX_isNameByte 14 = .ok (.iload_n 0, 1) := by decide +kernel
theorem dX_isNameByte_15 : decode cX_isNameByte 15 = .ok (.bipush 46, 2) := by decide +kernel
theorem dX_isNameByte_17 : decode cX_isNameByte 17 = .ok (.if_icmp .eq 9, 3) := by decide +kernel
theorem dX_isNameByte_20 : decode cX_isNameByte 20 = .ok (.iload_n 0, 1) := by decide +kernel
theorem dX_isNameByte_21 : decode cX_isNameByte 21 = .ok (.bipush 95, 2) := by decide +kernel
theorem dX_isNameByte_23 : decode cX_isNameByte 23 = .ok (.if_icmp .ne 7, 3) := by decide +kernel
theorem dX_isNameByte_26 : decode cX_isNameByte 26 = .ok (.iconst 1, 1) := by decide +kernel
theorem dX_isNameByte_27 : decode cX_isNameByte 27 = .ok (.goto 4, 3) := by decide +kernel
theorem dX_isNameByte_30 : decode cX_isNameByte 30 = .ok (.iconst 0, 1) := by decide +kernel
theorem dX_isNameByte_31 : decode cX_isNameByte 31 = .ok (.ireturn, 1) := by decide +kernel
theorem dX_isDecimalDigit_0 : decode cX_isDecimalDigit 0 = .ok (.iload_n 0, 1) := by decide +kernel
theorem dX_isDecimalDigit_1 : decode cX_isDecimalDigit 1 = .ok (.bipush 48, 2) := by decide +kernel
theorem dX_isDecimalDigit_3 : decode cX_isDecimalDigit 3 = .ok (.if_icmp .lt 13, 3) := by decide +kernel
theorem dX_isDecimalDigit_6 : decode cX_isDecimalDigit 6 = .ok (.iload_n 0, 1) := by decide +kernel
theorem dX_isDecimalDigit_7 : decode cX_isDecimalDigit 7 = .ok (.bipush 57, 2) := by decide +kernel
theorem dX_isDecimalDigit_9 : decode cX_isDecimalDigit 9 = .ok (.if_icmp .gt 7, 3) := by decide +kernel
theorem dX_isDecimalDigit_12 : decode cX_isDecimalDigit 12 = .ok (.iconst 1, 1) := by decide +kernel
theorem dX_isDecimalDigit_13 : decode cX_isDecimalDigit 13 = .ok (.goto 4, 3) := by decide +kernel
theorem dX_isDecimalDigit_16 : decode cX_isDecimalDigit 16 = .ok (.iconst 0, 1) := by decide +kernel
theorem dX_isDecimalDigit_17 : decode cX_isDecimalDigit 17 = .ok (.ireturn, 1) := by decide +kernel
theorem dX_isKeyword_0 : decode cX_isKeyword 0 = .ok (.ldc 159, 2) := by decide +kernel
theorem dX_isKeyword_2 : decode cX_isKeyword 2 = .ok (.aload_n 0, 1) := by decide +kernel
theorem dX_isKeyword_3 : decode cX_isKeyword 3 = .ok (.getfield 9, 3) := by decide +kernel
theorem dX_isKeyword_6 : decode cX_isKeyword 6 = .ok (.iload_n 1, 1) := by decide +kernel
theorem dX_isKeyword_7 : decode cX_isKeyword 7 = .ok (.iload_n 2, 1) := by decide +kernel
theorem dX_isKeyword_8 : decode cX_isKeyword 8 = .ok (.invokestatic 73, 3) := by decide +kernel
theorem dX_isKeyword_11 : decode cX_isKeyword 11 = .ok (.iconst (-1), 1) := by decide +kernel
theorem dX_isKeyword_12 : decode cX_isKeyword 12 = .ok (.if_icmp .ne 33, 3) := by decide +kernel
theorem dX_isKeyword_15 : decode cX_isKeyword 15 = .ok (.ldc 161, 2) := by decide +kernel
theorem dX_isKeyword_17 : decode cX_isKeyword 17 = .ok (.aload_n 0, 1) := by decide +kernel
theorem dX_isKeyword_18 : decode cX_isKeyword 18 = .ok (.getfield 9, 3) := by decide +kernel
theorem dX_isKeyword_21 : decode cX_isKeyword 21 = .ok (.iload_n 1, 1) := by decide +kernel
theorem dX_isKeyword_22 : decode cX_isKeyword 22 = .ok (.iload_n 2, 1) := by decide +kernel
theorem dX_isKeyword_23 : decode cX_isKeyword 23 = .ok (.invokestatic 73, 3) := by decide +kernel
theorem dX_isKeyword_26 : decode cX_isKeyword 26 = .ok (.iconst (-1), 1) := by decide +kernel
theorem dX_isKeyword_27 : decode cX_isKeyword 27 = .ok (.if_icmp .ne 18, 3) := by decide +kernel
theorem dX_isKeyword_30 : decode cX_isKeyword 30 = .ok (.ldc 163, 2) := by decide +kernel
theorem dX_isKeyword_32 : decode cX_isKeyword 32 = .ok (.aload_n 0, 1) := by decide +kernel
theorem dX_isKeyword_33 : decode cX_isKeyword 33 = .ok (.getfield 9, 3) := by decide +kernel
theorem dX_isKeyword_36 : decode cX_isKeyword 36 = .ok (.iload_n 1, 1) := by decide +kernel
theorem dX_isKeyword_37 : decode cX_isKeyword 37 = .ok (.iload_n 2, 1) := by decide +kernel
theorem dX_isKeyword_38 : decode cX_isKeyword 38 = .ok (.invokestatic 73, 3) := by decide +kernel
theorem dX_isKeyword_41 : decode cX_isKeyword 41 = .ok (.iconst (-1), 1) := by decide +kernel
theorem dX_isKeyword_42 : decode cX_isKeyword 42 = .ok (.if_icmp .eq 7, 3) := by decide +kernel
theorem dX_isKeyword_45 : decode cX_isKeyword 45 = .ok (.iconst 1, 1) := by decide +kernel
theorem dX_isKeyword_46 : decode cX_isKeyword 46 = .ok (.goto 4, 3) := by decide +kernel
theorem dX_isKeyword_49 : decode cX_isKeyword 49 = .ok (.iconst 0, 1) := by decide +kernel
theorem dX_isKeyword_50 : decode cX_isKeyword 50 = .ok (.ireturn, 1) := by decide +kernel
theorem dX_numberInList_0 : decode cX_numberInList 0 = .ok (.iconst 0, 1) := by decide +kernel
theorem dX_numberInList_1 : decode cX_numberInList 1 = .ok (.istore 4, 2) := by decide +kernel
theorem dX_numberInList_3 : decode cX_numberInList 3 = .ok (.iconst 0, 1) := by decide +kernel
theorem dX_numberInList_4 : decode cX_numberInList 4 = .ok (.istore 5, 2) := by decide +kernel
theorem dX_numberInList_6 : decode cX_numberInList 6 = .ok (.iconst 0, 1) := by decide +kernel
theorem dX_numberInList_7 : decode cX_numberInList 7 = .ok (.istore 6, 2) := by decide +kernel
theorem dX_numberInList_9 : decode cX_numberInList 9 = .ok (.iload 6, 2) := by decide +kernel
theorem dX_numberInList_11 : decode cX_numberInList 11 = .ok (.aload_n 0, 1) := by decide +kernel
theorem dX_numberInList_12 : decode cX_numberInList 12 = .ok (.invokevirtual 165, 3) := by decide +kernel
theorem dX_numberInList_15 : decode cX_numberInList 15 = .ok (.if_icmp .ge 75, 3) := by decide +kernel
theorem dX_numberInList_18 : decode cX_numberInList 18 = .ok (.aload_n 0, 1) := by decide +kernel
theorem dX_numberInList_19 : decode cX_numberInList 19 = .ok (.iload 6, 2) := by decide +kernel
theorem dX_numberInList_21 : decode cX_numberInList 21 = .ok (.invokevirtual 170, 3) := by decide +kernel
theorem dX_numberInList_24 : decode cX_numberInList 24 = .ok (.istore 7, 2) := by decide +kernel
theorem dX_numberInList_26 : decode cX_numberInList 26 = .ok (.iload 7, 2) := by decide +kernel
theorem dX_numberInList_28 : decode cX_numberInList 28 = .ok (.bipush 32, 2) := by decide +kernel
theorem dX_numberInList_30 : decode cX_numberInList 30 = .ok (.if_icmp .ne 21, 3) := by decide +kernel
theorem dX_numberInList_33 : decode cX_numberInList 33 = .ok (.iload 5, 2) := by decide +kernel
theorem dX_numberInList_35 : decode cX_numberInList 35 = .ok (.iload_n 3, 1) := by decide +kernel
theorem dX_numberInList_36 : decode cX_numberInList 36 = .ok (.if_icmp .ne 6, 3) := by decide +kernel
theorem dX_numberInList_39 : decode cX_numberInList 39 = .ok (.iload 4, 2) := by decide +kernel
theorem dX_numberInList_41 : decode cX_numberInList 41 = .ok (.ireturn, 1) := by decide +kernel
theorem dX_numberInList_42 : decode cX_numberInList 42 = .ok (.iinc 4 1, 3) := by decide +kernel
theorem dX_numberInList_45 : decode cX_numberInList 45 = .ok (.iconst 0, 1) := by decide +kernel
theorem dX_numberInList_46 : decode cX_numberInList 46 = .ok (.istore 5, 2) := by decide +kernel
theorem dX_numberInList_48 : decode cX_numberInList 48 = .ok (.goto 36, 3) := by decide +kernel
theorem dX_numberInList_51 : decode cX_numberInList 51 = .ok (.iload 5, 2) := by decide +kernel
theorem dX_numberInList_53 : decode cX_numberInList 53 = .ok (.ifCond .lt 28, 3) := by decide +kernel
theorem dX_numberInList_56 : decode cX_numberInList 56 = .ok (.iload 5, 2) := by decide +kernel
theorem dX_numberInList_58 : decode cX_numberInList 58 = .ok (.iload_n 3, 1) := by decide +kernel
theorem dX_numberInList_59 : decode cX_numberInList 59 = .ok (.if_icmp .ge 22, 3) := by decide +kernel
theorem dX_numberInList_62 : decode cX_numberInList 62 = .ok (.aload_n 1, 1) := by decide +kernel
theorem dX_numberInList_63 : decode cX_numberInList 63 = .ok (.iload_n 2, 1) := by decide +kernel
theorem dX_numberInList_64 : decode cX_numberInList 64 = .ok (.iload 5, 2) := by decide +kernel
theorem dX_numberInList_66 : decode cX_numberInList 66 = .ok (.iadd, 1) := by decide +kernel
theorem dX_numberInList_67 : decode cX_numberInList 67 = .ok (.invokestatic 77, 3) := by decide +kernel
theorem dX_numberInList_70 : decode cX_numberInList 70 = .ok (.iload 7, 2) := by decide +kernel
theorem dX_numberInList_72 : decode cX_numberInList 72 = .ok (.if_icmp .ne 9, 3) := by decide +kernel
theorem dX_numberInList_75 : decode cX_numberInList 75 = .ok (.iinc 5 1, 3) := by decide +kernel
theorem dX_numberInList_78 : decode cX_numberInList 78 = .ok (.goto 6, 3) := by decide +kernel
theorem dX_numberInList_81 : decode cX_numberInList 81 = .ok (.iconst (-1), 1) := by decide +kernel
theorem dX_numberInList_82 : decode cX_numberInList 82 = .ok (.istore 5, 2) := by decide +kernel
theorem dX_numberInList_84 : decode cX_numberInList 84 = .ok (.iinc 6 1, 3) := by decide +kernel
theorem dX_numberInList_87 : decode cX_numberInList 87 = .ok (.goto (-78), 3) := by decide +kernel
theorem dX_numberInList_90 : decode cX_numberInList 90 = .ok (.iconst (-1), 1) := by decide +kernel
theorem dX_numberInList_91 : decode cX_numberInList 91 = .ok (.ireturn, 1) := by decide +kernel
theorem dS_length_0 : decode cS_length 0 = .ok (.aload_n 0, 1) := by decide +kernel
theorem dS_length_1 : decode cS_length 1 = .ok (.getfield 9, 3) := by decide +kernel
theorem dS_length_4 : decode cS_length 4 = .ok (.arraylength, 1) := by decide +kernel
theorem dS_length_5 : decode cS_length 5 = .ok (.aload_n 0, 1) := by decide +kernel
theorem dS_length_6 : decode cS_length 6 = .ok (.invokevirtual 335, 3) := by decide +kernel
theorem dS_length_9 : decode cS_length 9 = .ok (.ishr, 1) := by decide +kernel
theorem dS_length_10 : decode cS_length 10 = .ok (.ireturn, 1) := by decide +kernel
theorem dS_coder_0 : decode cS_coder 0 = .ok (.getstatic 38, 3) := by decide +kernel
theorem dS_coder_3 : decode cS_coder 3 = .ok (.ifCond .eq 10, 3) := by decide +kernel
theorem dS_coder_6 : decode cS_coder 6 = .ok (.aload_n 0, 1) := by decide +kernel
theorem dS_coder_7 : decode cS_coder 7 = .ok (.getfield 15, 3) := by decide +kernel
theorem dS_coder_10 : decode cS_coder 10 = .ok (.goto 4, 3) := by decide +kernel
theorem dS_coder_13 : decode cS_coder 13 = .ok (.iconst 1, 1) := by decide +kernel
theorem dS_coder_14 : decode cS_coder 14 = .ok (.ireturn, 1) := by decide +kernel
theorem dS_charAt_0 : decode cS_charAt 0 = .ok (.aload_n 0, 1) := by decide +kernel
theorem dS_charAt_1 : decode cS_charAt 1 = .ok (.invokevirtual 492, 3) := by decide +kernel
theorem dS_charAt_4 : decode cS_charAt 4 = .ok (.ifCond .eq 12, 3) := by decide +kernel
theorem dS_charAt_7 : decode cS_charAt 7 = .ok (.aload_n 0, 1) := by decide +kernel
theorem dS_charAt_8 : decode cS_charAt 8 = .ok (.getfield 9, 3) := by decide +kernel
theorem dS_charAt_11 : decode cS_charAt 11 = .ok (.iload_n 1, 1) := by decide +kernel
theorem dS_charAt_12 : decode cS_charAt 12 = .ok (.invokestatic 495, 3) := by decide +kernel
theorem dS_charAt_15 : decode cS_charAt 15 = .ok (.ireturn, 1) := by decide +kernel
theorem dS_charAt_16 : decode cS_charAt 16 = .ok (.aload_n 0, 1) := by decide +kernel
theorem dS_charAt_17 : decode cS_charAt 17 = .ok (.getfield 9, 3) := by decide +kernel
theorem dS_charAt_20 : decode cS_charAt 20 = .ok (.iload_n 1, 1) := by decide +kernel
theorem dS_charAt_21 : decode cS_charAt 21 = .ok (.invokestatic 498, 3) := by decide +kernel
theorem dS_charAt_24 : decode cS_charAt 24 = .ok (.ireturn, 1) := by decide +kernel
theorem dS_isLatin1_0 : decode cS_isLatin1 0 = .ok (.getstatic 38, 3) := by decide +kernel
theorem dS_isLatin1_3 : decode cS_isLatin1 3 = .ok (.ifCond .eq 14, 3) := by decide +kernel
theorem dS_isLatin1_6 : decode cS_isLatin1 6 = .ok (.aload_n 0, 1) := by decide +kernel
theorem dS_isLatin1_7 : decode cS_isLatin1 7 = .ok (.getfield 15, 3) := by decide +kernel
theorem dS_isLatin1_10 : decode cS_isLatin1 10 = .ok (.ifCond .ne 7, 3) := by decide +kernel
theorem dS_isLatin1_13 : decode cS_isLatin1 13 = .ok (.iconst 1, 1) := by decide +kernel
theorem dS_isLatin1_14 : decode cS_isLatin1 14 = .ok (.goto 4, 3) := by decide +kernel
theorem dS_isLatin1_17 : decode cS_isLatin1 17 = .ok (.iconst 0, 1) := by decide +kernel
theorem dS_isLatin1_18 : decode cS_isLatin1 18 = .ok (.ireturn, 1) := by decide +kernel
theorem dL1_charAt_0 : decode cL1_charAt 0 = .ok (.iload_n 1, 1) := by decide +kernel
theorem dL1_charAt_1 : decode cL1_charAt 1 = .ok (.aload_n 0, 1) := by decide +kernel
theorem dL1_charAt_2 : decode cL1_charAt 2 = .ok (.arraylength, 1) := by decide +kernel
theorem dL1_charAt_3 : decode cL1_charAt 3 = .ok (.invokestatic 9, 3) := by decide +kernel
theorem dL1_charAt_6 : decode cL1_charAt 6 = .ok (.aload_n 0, 1) := by decide +kernel
theorem dL1_charAt_7 : decode cL1_charAt 7 = .ok (.iload_n 1, 1) := by decide +kernel
theorem dL1_charAt_8 : decode cL1_charAt 8 = .ok (.baload, 1) := by decide +kernel
theorem dL1_charAt_9 : decode cL1_charAt 9 = .ok (.sipush 255, 3) := by decide +kernel
theorem dL1_charAt_12 : decode cL1_charAt 12 = .ok (.iand, 1) := by decide +kernel
theorem dL1_charAt_13 : decode cL1_charAt 13 = .ok (.i2c, 1) := by decide +kernel
theorem dL1_charAt_14 : decode cL1_charAt 14 = .ok (.ireturn, 1) := by decide +kernel
theorem dS_checkIndex_0 : decode cS_checkIndex 0 = .ok (.iload_n 0, 1) := by decide +kernel
theorem dS_checkIndex_1 : decode cS_checkIndex 1 = .ok (.iload_n 1, 1) := by decide +kernel
theorem dS_checkIndex_2 : decode cS_checkIndex 2 = .ok (.getstatic 1053, 3) := by decide +kernel
theorem dS_checkIndex_5 : decode cS_checkIndex 5 = .ok (.invokestatic 1059, 3) := by decide +kernel
theorem dS_checkIndex_8 : decode cS_checkIndex 8 = .ok (.pop, 1) := by decide +kernel
theorem dS_checkIndex_9 : decode cS_checkIndex 9 = .ok (.return_, 1) := by decide +kernel
theorem dP_checkIndex_0 : decode cP_checkIndex 0 = .ok (.iload_n 0, 1) := by decide +kernel
theorem dP_checkIndex_1 : decode cP_checkIndex 1 = .ok (.ifCond .lt 8, 3) := by decide +kernel
theorem dP_checkIndex_4 : decode cP_checkIndex 4 = .ok (.iload_n 0, 1) := by decide +kernel
theorem dP_checkIndex_5 : decode cP_checkIndex 5 = .ok (.iload_n 1, 1) := by decide +kernel
theorem dP_checkIndex_6 : decode cP_checkIndex 6 = .ok (.if_icmp .lt 10, 3) := by decide +kernel
theorem dP_checkIndex_9 : decode cP_checkIndex 9 = .ok (.aload_n 2, 1) := by decide +kernel
theorem dP_checkIndex_10 : decode cP_checkIndex 10 = .ok (.iload_n 0, 1) := by decide +kernel
theorem dP_checkIndex_11 : decode cP_checkIndex 11 = .ok (.iload_n 1, 1) := by decide +kernel
theorem dP_checkIndex_12 : decode cP_checkIndex 12 = .ok (.invokestatic 95, 3) := by decide +kernel
theorem dP_checkIndex_15 : decode cP_checkIndex 15 = .ok (.athrow, 1) := by decide +kernel
theorem dP_checkIndex_16 : decode cP_checkIndex 16 = .ok (.iload_n 0, 1) := by decide +kernel
theorem dP_checkIndex_17 : decode cP_checkIndex 17 = .ok (.ireturn, 1) := by decide +kernel
theorem dX_takeText_0 : decode cX_takeText 0 = .ok (.iconst 0, 1) := by decide +kernel
theorem dX_takeText_1 : decode cX_takeText 1 = .ok (.istore_n 2, 1) := by decide +kernel
theorem dX_takeText_2 : decode cX_takeText 2 = .ok (.iload_n 2, 1) := by decide +kernel
theorem dX_takeText_3 : decode cX_takeText 3 = .ok (.iload_n 1, 1) := by decide +kernel
theorem dX_takeText_4 : decode cX_takeText 4 = .ok (.if_icmp .ge 31, 3) := by decide +kernel
theorem dX_takeText_7 : decode cX_takeText 7 = .ok (.aload_n 0, 1) := by decide +kernel
theorem dX_takeText_8 : decode cX_takeText 8 = .ok (.aload_n 0, 1) := by decide +kernel
theorem dX_takeText_9 : decode cX_takeText 9 = .ok (.aload_n 0, 1) := by decide +kernel
theorem dX_takeText_10 : decode cX_takeText 10 = .ok (.getfield 48, 3) := by decide +kernel
theorem dX_takeText_13 : decode cX_takeText 13 = .ok (.invokevirtual 81, 3) := by decide +kernel
theorem dX_takeText_16 : decode cX_takeText 16 = .ok (.invokevirtual 153, 3) := by decide +kernel
theorem dX_takeText_19 : decode cX_takeText 19 = .ok (.aload_n 0, 1) := by decide +kernel
theorem dX_takeText_20 : decode cX_takeText 20 = .ok (.dup, 1) := by decide +kernel
theorem dX_takeText_21 : decode cX_takeText 21 = .ok (.getfield 48, 3) := by decide +kernel
theorem dX_takeText_24 : decode cX_takeText 24 = .ok (.iconst 1, 1) := by decide +kernel
theorem dX_takeText_25 : decode cX_takeText 25 = .ok (.iadd, 1) := by decide +kernel
theorem dX_takeText_26 : decode cX_takeText 26 = .ok (.putfield 48, 3) := by decide +kernel
theorem dX_takeText_29 : decode cX_takeText 29 = .ok (.iinc 2 1, 3) := by decide +kernel
theorem dX_takeText_32 : decode cX_takeText 32 = .ok (.goto (-30), 3) := by decide +kernel
theorem dX_takeText_35 : decode cX_takeText 35 = .ok (.return_, 1) := by decide +kernel
theorem dX_appendText_0 : decode cX_appendText 0 = .ok (.aload_n 0, 1) := by decide +kernel
theorem dX_appendText_1 : decode cX_appendText 1 = .ok (.getfield 45, 3) := by decide +kernel
theorem dX_appendText_4 : decode cX_appendText 4 = .ok (.ifCond .lt 35, 3) := by decide +kernel
theorem dX_appendText_7 : decode cX_appendText 7 = .ok (.aload_n 0, 1) := by decide +kernel
theorem dX_appendText_8 : decode cX_appendText 8 = .ok (.getfield 45, 3) := by decide +kernel
theorem dX_appendText_11 : decode cX_appendText 11 = .ok (.aload_n 0, 1) := by decide +kernel
theorem dX_appendText_12 : decode cX_appendText 12 = .ok (.getfield 31, 3) := by decide +kernel
theorem dX_appendText_15 : decode cX_appendText 15 = .ok (.arraylength, 1) := by decide +kernel
theorem dX_appendText_16 : decode cX_appendText 16 = .ok (.if_icmp .ge 23, 3) := by decide +kernel
theorem dX_appendText_19 : decode cX_appendText 19 = .ok (.aload_n 0, 1) := by decide +kernel
theorem dX_appendText_20 : decode cX_appendText 20 = .ok (.getfield 31, 3) := by decide +kernel
theorem dX_appendText_23 : decode cX_appendText 23 = .ok (.aload_n 0, 1) := by decide +kernel
theorem dX_appendText_24 : decode cX_appendText 24 = .ok (.getfield 45, 3) := by decide +kernel
theorem dX_appendText_27 : decode cX_appendText 27 = .ok (.iload_n 1, 1) := by decide +kernel
theorem dX_appendText_28 : decode cX_appendText 28 = .ok (.iastore, 1) := by decide +kernel
theorem dX_appendText_29 : decode cX_appendText 29 = .ok (.aload_n 0, 1) := by decide +kernel
theorem dX_appendText_30 : decode cX_appendText 30 = .ok (.dup, 1) := by decide +kernel
theorem dX_appendText_31 : decode cX_appendText 31 = .ok (.getfield 45, 3) := by decide +kernel
theorem dX_appendText_34 : decode cX_appendText 34 = .ok (.iconst 1, 1) := by decide +kernel
theorem dX_appendText_35 : decode cX_appendText 35 = .ok (.iadd, 1) := by decide +kernel
theorem dX_appendText_36 : decode cX_appendText 36 = .ok (.putfield 45, 3) := by decide +kernel
theorem dX_appendText_39 : decode cX_appendText 39 = .ok (.return_, 1) := by decide +kernel
theorem dX_takeDigits_0 : decode cX_takeDigits 0 = .ok (.aload_n 0, 1) := by decide +kernel
theorem dX_takeDigits_1 : decode cX_takeDigits 1 = .ok (.getfield 48, 3) := by decide +kernel
theorem dX_takeDigits_4 : decode cX_takeDigits 4 = .ok (.istore_n 2, 1) := by decide +kernel
theorem dX_takeDigits_5 : decode cX_takeDigits 5 = .ok (.lconst 0, 1) := by decide +kernel
theorem dX_takeDigits_6 : decode cX_takeDigits 6 = .ok (.lstore_n 3, 1) := by decide +kernel
theorem dX_takeDigits_7 : decode cX_takeDigits 7 = .ok (.aload_n 0, 1) := by decide +kernel
theorem dX_takeDigits_8 : decode cX_takeDigits 8 = .ok (.getfield 48, 3) := by decide +kernel
theorem dX_takeDigits_11 : decode cX_takeDigits 11 = .ok (.aload_n 0, 1) := by decide +kernel
theorem dX_takeDigits_12 : decode cX_takeDigits 12 = .ok (.getfield 34, 3) := by decide +kernel
theorem dX_takeDigits_15 : decode cX_takeDigits 15 = .ok (.if_icmp .ge 59, 3) := by decide +kernel
theorem dX_takeDigits_18 : decode cX_takeDigits 18 = .ok (.aload_n 0, 1) := by decide +kernel
theorem dX_takeDigits_19 : decode cX_takeDigits 19 = .ok (.aload_n 0, 1) := by decide +kernel
theorem dX_takeDigits_20 : decode cX_takeDigits 20 = .ok (.getfield 48, 3) := by decide +kernel
theorem dX_takeDigits_23 : decode cX_takeDigits 23 = .ok (.invokevirtual 81, 3) := by decide +kernel
theorem dX_takeDigits_26 : decode cX_takeDigits 26 = .ok (.invokestatic 139, 3) := by decide +kernel
theorem dX_takeDigits_29 : decode cX_takeDigits 29 = .ok (.istore 5, 2) := by decide +kernel
theorem dX_takeDigits_31 : decode cX_takeDigits 31 = .ok (.iload 5, 2) := by decide +kernel
theorem dX_takeDigits_33 : decode cX_takeDigits 33 = .ok (.iconst (-1), 1) := by decide +kernel
theorem dX_takeDigits_34 : decode cX_takeDigits 34 = .ok (.if_icmp .eq 40, 3) := by decide +kernel
theorem dX_takeDigits_37 : decode cX_takeDigits 37 = .ok (.iload 5, 2) := by decide +kernel
theorem dX_takeDigits_39 : decode cX_takeDigits 39 = .ok (.iload_n 1, 1) := by decide +kernel
theorem dX_takeDigits_40 : decode cX_takeDigits 40 = .ok (.if_icmp .lt 6, 3) := by decide +kernel
theorem dX_takeDigits_43 : decode cX_takeDigits 43 = .ok (.goto 31, 3) := by decide +kernel
theorem dX_takeDigits_46 : decode cX_takeDigits 46 = .ok (.lload_n 3, 1) := by decide +kernel
theorem dX_takeDigits_47 : decode cX_takeDigits 47 = .ok (.iload_n 1, 1) := by decide +kernel
theorem dX_takeDigits_48 : decode cX_takeDigits 48 = .ok (.i2l, 1) := by decide +kernel
theorem dX_takeDigits_49 : decode cX_takeDigits 49 = .ok (.lmul, 1) := by decide +kernel
theorem dX_takeDigits_50 : decode cX_takeDigits 50 = .ok (.iload 5, 2) := by decide +kernel
theorem dX_takeDigits_52 : decode cX_takeDigits 52 = .ok (.i2l, 1) := by decide +kernel
theorem dX_takeDigits_53 : decode cX_takeDigits 53 = .ok (.ladd, 1) := by decide +kernel
theorem dX_takeDigits_54 : decode cX_takeDigits 54 = .ok (.ldc2_w 142, 3) := by decide +kernel
theorem dX_takeDigits_57 : decode cX_takeDigits 57 = .ok (.invokestatic 144, 3) := by decide +kernel
theorem dX_takeDigits_60 : decode cX_takeDigits 60 = .ok (.lstore_n 3, 1) := by decide +kernel
theorem dX_takeDigits_61 : decode cX_takeDigits 61 = .ok (.aload_n 0, 1) := by decide +kernel
theorem dX_takeDigits_62 : decode cX_takeDigits 62 = .ok (.dup, 1) := by decide +kernel
theorem dX_takeDigits_63 : decode cX_takeDigits 63 = .ok (.getfield 48, 3) := by decide +kernel
theorem dX_takeDigits_66 : decode cX_takeDigits 66 = .ok (.iconst 1, 1) := by decide +kernel
theorem dX_takeDigits_67 : decode cX_takeDigits 67 = .ok (.iadd, 1) := by decide +kernel
theorem dX_takeDigits_68 : decode cX_takeDigits 68 = .ok (.putfield 48, 3) := by decide +kernel
theorem dX_takeDigits_71 : decode cX_takeDigits 71 = .ok (.goto (-64), 3) := by decide +kernel
theorem dX_takeDigits_74 : decode cX_takeDigits 74 = .ok (.aload_n 0, 1) := by decide +kernel
theorem dX_takeDigits_75 : decode cX_takeDigits 75 = .ok (.getfield 48, 3) := by decide +kernel
theorem dX_takeDigits_78 : decode cX_takeDigits 78 = .ok (.iload_n 2, 1) := by decide +kernel
theorem dX_takeDigits_79 : decode cX_takeDigits 79 = .ok (.if_icmp .eq 11, 3) := by decide +kernel
theorem dX_takeDigits_82 : decode cX_takeDigits 82 = .ok (.lload_n 3, 1) := by decide +kernel
theorem dX_takeDigits_83 : decode cX_takeDigits 83 = .ok (.ldc2_w 142, 3) := by decide +kernel
theorem dX_takeDigits_86 : decode cX_takeDigits 86 = .ok (.lcmp, 1) := by decide +kernel
theorem dX_takeDigits_87 : decode cX_takeDigits 87 = .ok (.ifCond .lt 6, 3) := by decide +kernel
theorem dX_takeDigits_90 : decode cX_takeDigits 90 = .ok (.bipush 6, 2) := by decide +kernel
theorem dX_takeDigits_92 : decode cX_takeDigits 92 = .ok (.ireturn, 1) := by decide +kernel
theorem dX_takeDigits_93 : decode cX_takeDigits 93 = .ok (.aload_n 0, 1) := by decide +kernel
theorem dX_takeDigits_94 : decode cX_takeDigits 94 = .ok (.lload_n 3, 1) := by decide +kernel
theorem dX_takeDigits_95 : decode cX_takeDigits 95 = .ok (.l2i, 1) := by decide +kernel
theorem dX_takeDigits_96 : decode cX_takeDigits 96 = .ok (.putfield 85, 3) := by decide +kernel
theorem dX_takeDigits_99 : decode cX_takeDigits 99 = .ok (.iconst 1, 1) := by decide +kernel
theorem dX_takeDigits_100 : decode cX_takeDigits 100 = .ok (.ireturn, 1) := by decide +kernel
theorem dX_digitOf_0 : decode cX_digitOf 0 = .ok (.iload_n 0, 1) := by decide +kernel
theorem dX_digitOf_1 : decode cX_digitOf 1 = .ok (.invokestatic 109, 3) := by decide +kernel
theorem dX_digitOf_4 : decode cX_digitOf 4 = .ok (.ifCond .eq 8, 3) := by decide +kernel
theorem dX_digitOf_7 : decode cX_digitOf 7 = .ok (.iload_n 0, 1) := by decide +kernel
theorem dX_digitOf_8 : decode cX_digitOf 8 = .ok (.bipush 48, 2) := by decide +kernel
theorem dX_digitOf_10 : decode cX_digitOf 10 = .ok (.isub, 1) := by decide +kernel
theorem dX_digitOf_11 : decode cX_digitOf 11 = .ok (.ireturn, 1) := by decide +kernel
theorem dX_digitOf_12 : decode cX_digitOf 12 = .ok (.iload_n 0, 1) := by decide +kernel
theorem dX_digitOf_13 : decode cX_digitOf 13 = .ok (.bipush 65, 2) := by decide +kernel
theorem dX_digitOf_15 : decode cX_digitOf 15 = .ok (.if_icmp .lt 19, 3) := by decide +kernel
theorem dX_digitOf_18 : decode cX_digitOf 18 = .ok (.iload_n 0, 1) := by decide +kernel
theorem dX_digitOf_19 : decode cX_digitOf 19 = .ok (.bipush 70, 2) := by decide +kernel
theorem dX_digitOf_21 : decode cX_digitOf 21 = .ok (.if_icmp .gt 13, 3) := by decide +kernel
theorem dX_digitOf_24 : decode cX_digitOf 24 = .ok (.iload_n 0, 1) := by decide +kernel
theorem dX_digitOf_25 : decode cX_digitOf 25 = .ok (.bipush 65, 2) := by decide +kernel
theorem dX_digitOf_27 : decode cX_digitOf 27 = .ok (.isub, 1) := by decide +kernel
theorem dX_digitOf_28 : decode cX_digitOf 28 = .ok (.bipush 10, 2) := by decide +kernel
theorem dX_digitOf_30 : decode cX_digitOf 30 = .ok (.iadd, 1) := by decide +kernel
theorem dX_digitOf_31 : decode cX_digitOf 31 = .ok (.goto 4, 3) := by decide +kernel
theorem dX_digitOf_34 : decode cX_digitOf 34 = .ok (.iconst (-1), 1) := by decide +kernel
theorem dX_digitOf_35 : decode cX_digitOf 35 = .ok (.ireturn, 1) := by decide +kernel
theorem dX_takeNumberInBase_0 : decode cX_takeNumberInBase 0 = .ok (.aload_n 0, 1) := by decide +kernel
theorem dX_takeNumberInBase_1 : decode cX_takeNumberInBase 1 = .ok (.dup, 1) := by decide +kernel
theorem dX_takeNumberInBase_2 : decode cX_takeNumberInBase 2 = .ok (.getfield 48, 3) := by decide +kernel
theorem dX_takeNumberInBase_5 : decode cX_takeNumberInBase 5 = .ok (.iconst 1, 1) := by decide +kernel
theorem dX_takeNumberInBase_6 : decode cX_takeNumberInBase 6 = .ok (.iadd, 1) := by decide +kernel
theorem dX_takeNumberInBase_7 : decode cX_takeNumberInBase 7 = .ok (.putfield 48, 3) := by decide +kernel
theorem dX_takeNumberInBase_10 : decode cX_takeNumberInBase 10 = .ok (.aload_n 0, 1) := by decide +kernel
theorem dX_takeNumberInBase_11 : decode cX_takeNumberInBase 11 = .ok (.aload_n 0, 1) := by decide +kernel
theorem dX_takeNumberInBase_12 : decode cX_takeNumberInBase 12 = .ok (.getfield 48, 3) := by decide +kernel
theorem dX_takeNumberInBase_15 : decode cX_takeNumberInBase 15 = .ok (.invokevirtual 81, 3) := by decide +kernel
theorem dX_takeNumberInBase_18 : decode cX_takeNumberInBase 18 = .ok (.bipush 88, 2) := by decide +kernel
theorem dX_takeNumberInBase_20 : decode cX_takeNumberInBase 20 = .ok (.if_icmp .eq 10, 3) := by decide +kernel
theorem dX_takeNumberInBase_23 : decode cX_takeNumberInBase 23 = .ok (.aload_n 0, 1) := by decide +kernel
theorem dX_takeNumberInBase_24 : decode cX_takeNumberInBase 24 = .ok (.bipush 8, 2) := by decide +kernel
theorem dX_takeNumberInBase_26 : decode cX_takeNumberInBase 26 = .ok (.invokevirtual 112, 3) := by decide +kernel
theorem dX_takeNumberInBase_29 : decode cX_takeNumberInBase 29 = .ok (.ireturn, 1) := by decide +kernel
theorem dX_takeNumberInBase_30 : decode cX_takeNumberInBase 30 = .ok (.aload_n 0, 1) := by decide +kernel
theorem dX_takeNumberInBase_31 : decode cX_takeNumberInBase 31 = .ok (.dup, 1) := by decide +kernel
theorem dX_takeNumberInBase_32 : decode cX_takeNumberInBase 32 = .ok (.getfield 48, 3) := by decide +kernel
theorem dX_takeNumberInBase_35 : decode cX_takeNumberInBase 35 = .ok (.iconst 1, 1) := by decide +kernel
theorem dX_takeNumberInBase_36 : decode cX_takeNumberInBase 36 = .ok (.iadd, 1) := by decide +kernel
theorem dX_takeNumberInBase_37 : decode cX_takeNumberInBase 37 = .ok (.putfield 48, 3) := by decide +kernel
theorem dX_takeNumberInBase_40 : decode cX_takeNumberInBase 40 = .ok (.aload_n 0, 1) := by decide +kernel
theorem dX_takeNumberInBase_41 : decode cX_takeNumberInBase 41 = .ok (.bipush 16, 2) := by decide +kernel
theorem dX_takeNumberInBase_43 : decode cX_takeNumberInBase 43 = .ok (.invokevirtual 112, 3) := by decide +kernel
theorem dX_takeNumberInBase_46 : decode cX_takeNumberInBase 46 = .ok (.ireturn, 1) := by decide +kernel
theorem dX_takeCharacter_0 : decode cX_takeCharacter 0 = .ok (.aload_n 0, 1) := by decide +kernel
theorem dX_takeCharacter_1 : decode cX_takeCharacter 1 = .ok (.dup, 1) := by decide +kernel
theorem dX_takeCharacter_2 : decode cX_takeCharacter 2 = .ok (.getfield 48, 3) := by decide +kernel
theorem dX_takeCharacter_5 : decode cX_takeCharacter 5 = .ok (.iconst 1, 1) := by decide +kernel
theorem dX_takeCharacter_6 : decode cX_takeCharacter 6 = .ok (.iadd, 1) := by decide +kernel
theorem dX_takeCharacter_7 : decode cX_takeCharacter 7 = .ok (.putfield 48, 3) := by decide +kernel
theorem dX_takeCharacter_10 : decode cX_takeCharacter 10 = .ok (.aload_n 0, 1) := by decide +kernel
theorem dX_takeCharacter_11 : decode cX_takeCharacter 11 = .ok (.bipush 39, 2) := by decide +kernel
theorem dX_takeCharacter_13 : decode cX_takeCharacter 13 = .ok (.invokevirtual 150, 3) := by decide +kernel
theorem dX_takeCharacter_16 : decode cX_takeCharacter 16 = .ok (.istore_n 1, 1) := by decide +kernel
theorem dX_takeCharacter_17 : decode cX_takeCharacter 17 = .ok (.iload_n 1, 1) := by decide +kernel
theorem dX_takeCharacter_18 : decode cX_takeCharacter 18 = .ok (.iconst (-1), 1) := by decide +kernel
theorem dX_takeCharacter_19 : decode cX_takeCharacter 19 = .ok (.if_icmp .eq 16, 3) := by decide +kernel
theorem dX_takeCharacter_22 : decode cX_takeCharacter 22 = .ok (.aload_n 0, 1) := by decide +kernel
theorem dX_takeCharacter_23 : decode cX_takeCharacter 23 = .ok (.aload_n 0, 1) := by decide +kernel
theorem dX_takeCharacter_24 : decode cX_takeCharacter 24 = .ok (.getfield 48, 3) := by decide +kernel
theorem dX_takeCharacter_27 : decode cX_takeCharacter 27 = .ok (.invokevirtual 81, 3) := by decide +kernel
theorem dX_takeCharacter_30 : decode cX_takeCharacter 30 = .ok (.bipush 39, 2) := by decide +kernel
theorem dX_takeCharacter_32 : decode cX_takeCharacter 32 = .ok (.if_icmp .eq 6, 3) := by decide +kernel
theorem dX_takeCharacter_35 : decode cX_takeCharacter 35 = .ok (.bipush 6, 2) := by decide +kernel
theorem dX_takeCharacter_37 : decode cX_takeCharacter 37 = .ok (.ireturn, 1) := by decide +kernel
theorem dX_takeCharacter_38 : decode cX_takeCharacter 38 = .ok (.aload_n 0, 1) := by decide +kernel
theorem dX_takeCharacter_39 : decode cX_takeCharacter 39 = .ok (.dup, 1) := by decide +kernel
theorem dX_takeCharacter_40 : decode cX_takeCharacter 40 = .ok (.getfield 48, 3) := by decide +kernel
theorem dX_takeCharacter_43 : decode cX_takeCharacter 43 = .ok (.iconst 1, 1) := by decide +kernel
theorem dX_takeCharacter_44 : decode cX_takeCharacter 44 = .ok (.iadd, 1) := by decide +kernel
theorem dX_takeCharacter_45 : decode cX_takeCharacter 45 = .ok (.putfield 48, 3) := by decide +kernel
theorem dX_takeCharacter_48 : decode cX_takeCharacter 48 = .ok (.aload_n 0, 1) := by decide +kernel
theorem dX_takeCharacter_49 : decode cX_takeCharacter 49 = .ok (.iload_n 1, 1) := by decide +kernel
theorem dX_takeCharacter_50 : decode cX_takeCharacter 50 = .ok (.putfield 85, 3) := by decide +kernel
theorem dX_takeCharacter_53 : decode cX_takeCharacter 53 = .ok (.iconst 1, 1) := by decide +kernel
theorem dX_takeCharacter_54 : decode cX_takeCharacter 54 = .ok (.ireturn, 1) := by decide +kernel
theorem dX_takeMeantByte_0 : decode cX_takeMeantByte 0 = .ok (.aload_n 0, 1) := by decide +kernel
theorem dX_takeMeantByte_1 : decode cX_takeMeantByte 1 = .ok (.aload_n 0, 1) := by decide +kernel
theorem dX_takeMeantByte_2 : decode cX_takeMeantByte 2 = .ok (.getfield 48, 3) := by decide +kernel
theorem dX_takeMeantByte_5 : decode cX_takeMeantByte 5 = .ok (.invokevirtual 81, 3) := by decide +kernel
theorem dX_takeMeantByte_8 : decode cX_takeMeantByte 8 = .ok (.istore_n 2, 1) := by decide +kernel
theorem dX_takeMeantByte_9 : decode cX_takeMeantByte 9 = .ok (.iload_n 2, 1) := by decide +kernel
theorem dX_takeMeantByte_10 : decode cX_takeMeantByte 10 = .ok (.bipush 42, 2) := by decide +kernel
theorem dX_takeMeantByte_12 : decode cX_takeMeantByte 12 = .ok (.if_icmp .ne 29, 3) := by decide +kernel
theorem dX_takeMeantByte_15 : decode cX_takeMeantByte 15 = .ok (.aload_n 0, 1) := by decide +kernel
theorem dX_takeMeantByte_16 : decode cX_takeMeantByte 16 = .ok (.aload_n 0, 1) := by decide +kernel
theorem dX_takeMeantByte_17 : decode cX_takeMeantByte 17 = .ok (.getfield 48, 3) := by decide +kernel
theorem dX_takeMeantByte_20 : decode cX_takeMeantByte 20 = .ok (.iconst 1, 1) := by decide +kernel
theorem dX_takeMeantByte_21 : decode cX_takeMeantByte 21 = .ok (.iadd, 1) := by decide +kernel
theorem dX_takeMeantByte_22 : decode cX_takeMeantByte 22 = .ok (.invokevirtual 81, 3) := by decide +kernel
theorem dX_takeMeantByte_25 : decode cX_takeMeantByte 25 = .ok (.invokestatic 156, 3) := by decide +kernel
theorem dX_takeMeantByte_28 : decode cX_takeMeantByte 28 = .ok (.istore_n 3, 1) := by decide +kernel
theorem dX_takeMeantByte_29 : decode cX_takeMeantByte 29 = .ok (.aload_n 0, 1) := by decide +kernel
theorem dX_takeMeantByte_30 : decode cX_takeMeantByte 30 = .ok (.dup, 1) := by decide +kernel
theorem dX_takeMeantByte_31 : decode cX_takeMeantByte 31 = .ok (.getfield 48, 3) := by decide +kernel
theorem dX_takeMeantByte_34 : decode cX_takeMeantByte 34 = .ok (.iconst 2, 1) := by decide +kernel
theorem dX_takeMeantByte_35 : decode cX_takeMeantByte 35 = .ok (.iadd, 1) := by decide +kernel
theorem dX_takeMeantByte_36 : decode cX_takeMeantByte 36 = .ok (.putfield 48, 3) := by decide +kernel
theorem dX_takeMeantByte_39 : decode cX_takeMeantByte 39 = .ok (.iload_n 3, 1) := by decide +kernel
theorem dX_takeMeantByte_40 : decode cX_takeMeantByte 40 = .ok (.ireturn, 1) := by decide +kernel
theorem dX_takeMeantByte_41 : decode cX_takeMeantByte 41 = .ok (.aload_n 0, 1) := by decide +kernel
theorem dX_takeMeantByte_42 : decode cX_takeMeantByte 42 = .ok (.dup, 1) := by decide +kernel
theorem dX_takeMeantByte_43 : decode cX_takeMeantByte 43 = .ok (.getfield 48, 3) := by decide +kernel
theorem dX_takeMeantByte_46 : decode cX_takeMeantByte 46 = .ok (.iconst 1, 1) := by decide +kernel
theorem dX_takeMeantByte_47 : decode cX_takeMeantByte 47 = .ok (.iadd, 1) := by decide +kernel
theorem dX_takeMeantByte_48 : decode cX_takeMeantByte 48 = .ok (.putfield 48, 3) := by decide +kernel
theorem dX_takeMeantByte_51 : decode cX_takeMeantByte 51 = .ok (.iload_n 2, 1) := by decide +kernel
theorem dX_takeMeantByte_52 : decode cX_takeMeantByte 52 = .ok (.bipush 32, 2) := by decide +kernel
theorem dX_takeMeantByte_54 : decode cX_takeMeantByte 54 = .ok (.if_icmp .lt 18, 3) := by decide +kernel
theorem dX_takeMeantByte_57 : decode cX_takeMeantByte 57 = .ok (.iload_n 2, 1) := by decide +kernel
theorem dX_takeMeantByte_58 : decode cX_takeMeantByte 58 = .ok (.bipush 126, 2) := by decide +kernel
theorem dX_takeMeantByte_60 : decode cX_takeMeantByte 60 = .ok (.if_icmp .gt 12, 3) := by decide +kernel
theorem dX_takeMeantByte_63 : decode cX_takeMeantByte 63 = .ok (.iload_n 2, 1) := by decide +kernel
theorem dX_takeMeantByte_64 : decode cX_takeMeantByte 64 = .ok (.iload_n 1, 1) := by decide +kernel
theorem dX_takeMeantByte_65 : decode cX_takeMeantByte 65 = .ok (.if_icmp .eq 7, 3) := by decide +kernel
theorem dX_takeMeantByte_68 : decode cX_takeMeantByte 68 = .ok (.iload_n 2, 1) := by decide +kernel
theorem dX_takeMeantByte_69 : decode cX_takeMeantByte 69 = .ok (.goto 4, 3) := by decide +kernel
theorem dX_takeMeantByte_72 : decode cX_takeMeantByte 72 = .ok (.iconst (-1), 1) := by decide +kernel
theorem dX_takeMeantByte_73 : decode cX_takeMeantByte 73 = .ok (.ireturn, 1) := by decide +kernel
theorem dX_meaningBehindStar_0 : decode cX_meaningBehindStar 0 = .ok (.iload_n 0, 1) := by decide +kernel
theorem dX_meaningBehindStar_1 : decode cX_meaningBehindStar 1 = .ok (.lookupswitch 70 #[(34, 68), (39, 68), (42, 68), (78, 59), (83, 62), (84, 65)], 59) := by decide +kernel
theorem dX_meaningBehindStar_60 : decode cX_meaningBehindStar 60 = .ok (.bipush 10, 2) := by decide +kernel
theorem dX_meaningBehindStar_62 : decode cX_meaningBehindStar 62 = .ok (.ireturn, 1) := by decide +kernel
theorem dX_meaningBehindStar_63 : decode cX_meaningBehindStar 63 = .ok (.bipush 32, 2) := by decide +kernel
theorem dX_meaningBehindStar_65 : decode cX_meaningBehindStar 65 = .ok (.ireturn, 1) := by decide +kernel
theorem dX_meaningBehindStar_66 : decode cX_meaningBehindStar 66 = .ok (.bipush 9, 2) := by decide +kernel
theorem dX_meaningBehindStar_68 : decode cX_meaningBehindStar 68 = .ok (.ireturn, 1) := by decide +kernel
theorem dX_meaningBehindStar_69 : decode cX_meaningBehindStar 69 = .ok (.iload_n 0, 1) := by decide +kernel
theorem dX_meaningBehindStar_70 : decode cX_meaningBehindStar 70 = .ok (.ireturn, 1) := by decide +kernel
theorem dX_meaningBehindStar_71 : decode cX_meaningBehindStar 71 = .ok (.iconst (-1), 1) := by decide +kernel
theorem dX_meaningBehindStar_72 : decode cX_meaningBehindStar 72 = .ok (.ireturn, 1) := by decide +kernel
theorem dX_takeString_0 : decode cX_takeString 0 = .ok (.aload_n 0, 1) := by decide +kernel
theorem dX_takeString_1 : decode cX_takeString 1 = .ok (.dup, 1) := by decide +kernel
theorem dX_takeString_2 : decode cX_takeString 2 = .ok (.getfield 48, 3) := by decide +kernel
theorem dX_takeString_5 : decode cX_takeString 5 = .ok (.iconst 1, 1) := by decide +kernel
theorem dX_takeString_6 : decode cX_takeString 6 = .ok (.iadd, 1) := by decide +kernel
theorem dX_takeString_7 : decode cX_takeString 7 = .ok (.putfield 48, 3) := by decide +kernel
theorem dX_takeString_10 : decode cX_takeString 10 = .ok (.iconst 0, 1) := by decide +kernel
theorem dX_takeString_11 : decode cX_takeString 11 = .ok (.istore_n 1, 1) := by decide +kernel
theorem dX_takeString_12 : decode cX_takeString 12 = .ok (.iload_n 1, 1) := by decide +kernel
theorem dX_takeString_13 : decode cX_takeString 13 = .ok (.sipush 200, 3) := by decide +kernel
theorem dX_takeString_16 : decode cX_takeString 16 = .ok (.if_icmp .gt 54, 3) := by decide +kernel
theorem dX_takeString_19 : decode cX_takeString 19 = .ok (.aload_n 0, 1) := by decide +kernel
theorem dX_takeString_20 : decode cX_takeString 20 = .ok (.aload_n 0, 1) := by decide +kernel
theorem dX_takeString_21 : decode cX_takeString 21 = .ok (.getfield 48, 3) := by decide +kernel
theorem dX_takeString_24 : decode cX_takeString 24 = .ok (.invokevirtual 81, 3) := by decide +kernel
theorem dX_takeString_27 : decode cX_takeString 27 = .ok (.bipush 34, 2) := by decide +kernel
theorem dX_takeString_29 : decode cX_takeString 29 = .ok (.if_icmp .ne 15, 3) := by decide +kernel
theorem dX_takeString_32 : decode cX_takeString 32 = .ok (.aload_n 0, 1) := by decide +kernel
theorem dX_takeString_33 : decode cX_takeString 33 = .ok (.dup, 1) := by decide +kernel
theorem dX_takeString_34 : decode cX_takeString 34 = .ok (.getfield 48, 3) := by decide +kernel
theorem dX_takeString_37 : decode cX_takeString 37 = .ok (.iconst 1, 1) := by decide +kernel
theorem dX_takeString_38 : decode cX_takeString 38 = .ok (.iadd, 1) := by decide +kernel
theorem dX_takeString_39 : decode cX_takeString 39 = .ok (.putfield 48, 3) := by decide +kernel
theorem dX_takeString_42 : decode cX_takeString 42 = .ok (.iconst 2, 1) := by decide +kernel
theorem dX_takeString_43 : decode cX_takeString 43 = .ok (.ireturn, 1) := by decide +kernel
theorem dX_takeString_44 : decode cX_takeString 44 = .ok (.aload_n 0, 1) := by decide +kernel
theorem dX_takeString_45 : decode cX_takeString 45 = .ok (.bipush 34, 2) := by decide +kernel
theorem dX_takeString_47 : decode cX_takeString 47 = .ok (.invokevirtual 150, 3) := by decide +kernel
theorem dX_takeString_50 : decode cX_takeString 50 = .ok (.istore_n 2, 1) := by decide +kernel
theorem dX_takeString_51 : decode cX_takeString 51 = .ok (.iload_n 2, 1) := by decide +kernel
theorem dX_takeString_52 : decode cX_takeString 52 = .ok (.iconst (-1), 1) := by decide +kernel
theorem dX_takeString_53 : decode cX_takeString 53 = .ok (.if_icmp .ne 6, 3) := by decide +kernel
theorem dX_takeString_56 : decode cX_takeString 56 = .ok (.bipush 6, 2) := by decide +kernel
theorem dX_takeString_58 : decode cX_takeString 58 = .ok (.ireturn, 1) := by decide +kernel
theorem dX_takeString_59 : decode cX_takeString 59 = .ok (.aload_n 0, 1) := by decide +kernel
theorem dX_takeString_60 : decode cX_takeString 60 = .ok (.iload_n 2, 1) := by decide +kernel
theorem dX_takeString_61 : decode cX_takeString 61 = .ok (.invokevirtual 153, 3) := by decide +kernel
theorem dX_takeString_64 : decode cX_takeString 64 = .ok (.iinc 1 1, 3) := by decide +kernel
theorem dX_takeString_67 : decode cX_takeString 67 = .ok (.goto (-55), 3) := by decide +kernel
theorem dX_takeString_70 : decode cX_takeString 70 = .ok (.bipush 6, 2) := by decide +kernel
theorem dX_takeString_72 : decode cX_takeString 72 = .ok (.ireturn, 1) := by decide +kernel
theorem dX_takeSign_0 : decode cX_takeSign 0 = .ok (.iconst 2, 1) := by decide +kernel
theorem dX_takeSign_1 : decode cX_takeSign 1 = .ok (.istore_n 1, 1) := by decide +kernel
theorem dX_takeSign_2 : decode cX_takeSign 2 = .ok (.iload_n 1, 1) := by decide +kernel
theorem dX_takeSign_3 : decode cX_takeSign 3 = .ok (.ifCond .le 47, 3) := by decide +kernel
theorem dX_takeSign_6 : decode cX_takeSign 6 = .ok (.iload_n 1, 1) := by decide +kernel
theorem dX_takeSign_7 : decode cX_takeSign 7 = .ok (.aload_n 0, 1) := by decide +kernel
theorem dX_takeSign_8 : decode cX_takeSign 8 = .ok (.getfield 34, 3) := by decide +kernel
theorem dX_takeSign_11 : decode cX_takeSign 11 = .ok (.aload_n 0, 1) := by decide +kernel
theorem dX_takeSign_12 : decode cX_takeSign 12 = .ok (.getfield 48, 3) := by decide +kernel
theorem dX_takeSign_15 : decode cX_takeSign 15 = .ok (.isub, 1) := by decide +kernel
theorem dX_takeSign_16 : decode cX_takeSign 16 = .ok (.if_icmp .gt 28, 3) := by decide +kernel
theorem dX_takeSign_19 : decode cX_takeSign 19 = .ok (.ldc 137, 2) := by decide +kernel
theorem dX_takeSign_21 : decode cX_takeSign 21 = .ok (.aload_n 0, 1) := by decide +kernel
theorem dX_takeSign_22 : decode cX_takeSign 22 = .ok (.getfield 9, 3) := by decide +kernel
theorem dX_takeSign_25 : decode cX_takeSign 25 = .ok (.aload_n 0, 1) := by decide +kernel
theorem dX_takeSign_26 : decode cX_takeSign 26 = .ok (.getfield 48, 3) := by decide +kernel
theorem dX_takeSign_29 : decode cX_takeSign 29 = .ok (.iload_n 1, 1) := by decide +kernel
theorem dX_takeSign_30 : decode cX_takeSign 30 = .ok (.invokestatic 73, 3) := by decide +kernel
theorem dX_takeSign_33 : decode cX_takeSign 33 = .ok (.iconst (-1), 1) := by decide +kernel
theorem dX_takeSign_34 : decode cX_takeSign 34 = .ok (.if_icmp .eq 10, 3) := by decide +kernel
theorem dX_takeSign_37 : decode cX_takeSign 37 = .ok (.aload_n 0, 1) := by decide +kernel
theorem dX_takeSign_38 : decode cX_takeSign 38 = .ok (.iload_n 1, 1) := by decide +kernel
theorem dX_takeSign_39 : decode cX_takeSign 39 = .ok (.invokevirtual 134, 3) := by decide +kernel
theorem dX_takeSign_42 : decode cX_takeSign 42 = .ok (.iconst 3, 1) := by decide +kernel
theorem dX_takeSign_43 : decode cX_takeSign 43 = .ok (.ireturn, 1) := by decide +kernel
theorem dX_takeSign_44 : decode cX_takeSign 44 = .ok (.iinc 1 (-1), 3) := by decide +kernel
theorem dX_takeSign_47 : decode cX_takeSign 47 = .ok (.goto (-45), 3) := by decide +kernel
theorem dX_takeSign_50 : decode cX_takeSign 50 = .ok (.bipush 6, 2) := by decide +kernel
theorem dX_takeSign_52 : decode cX_takeSign 52 = .ok (.ireturn, 1) := by decide +kernel
theorem dX_isSemicolonDue_0 : decode cX_isSemicolonDue 0 = .ok (.aload_n 0, 1) := by decide +kernel
theorem dX_isSemicolonDue_1 : decode cX_isSemicolonDue 1 = .ok (.getfield 42, 3) := by decide +kernel
theorem dX_isSemicolonDue_4 : decode cX_isSemicolonDue 4 = .ok (.iconst 1, 1) := by decide +kernel
theorem dX_isSemicolonDue_5 : decode cX_isSemicolonDue 5 = .ok (.isub, 1) := by decide +kernel
theorem dX_isSemicolonDue_6 : decode cX_isSemicolonDue 6 = .ok (.istore 4, 2) := by decide +kernel
theorem dX_isSemicolonDue_8 : decode cX_isSemicolonDue 8 = .ok (.aload_n 0, 1) := by decide +kernel
theorem dX_isSemicolonDue_9 : decode cX_isSemicolonDue 9 = .ok (.iload 4, 2) := by decide +kernel
theorem dX_isSemicolonDue_11 : decode cX_isSemicolonDue 11 = .ok (.invokevirtual 61, 3) := by decide +kernel
theorem dX_isSemicolonDue_14 : decode cX_isSemicolonDue 14 = .ok (.ifCond .eq 59, 3) := by decide +kernel
theorem dX_isSemicolonDue_17 : decode cX_isSemicolonDue 17 = .ok (.aload_n 0, 1) := by decide +kernel
theorem dX_isSemicolonDue_18 : decode cX_isSemicolonDue 18 = .ok (.getfield 19, 3) := by decide +kernel
theorem dX_isSemicolonDue_21 : decode cX_isSemicolonDue 21 = .ok (.iload 4, 2) := by decide +kernel
theorem dX_isSemicolonDue_23 : decode cX_isSemicolonDue 23 = .ok (.iaload, 1) := by decide +kernel
theorem dX_isSemicolonDue_24 : decode cX_isSemicolonDue 24 = .ok (.aload_n 0, 1) := by decide +kernel
theorem dX_isSemicolonDue_25 : decode cX_isSemicolonDue 25 = .ok (.getfield 51, 3) := by decide +kernel
theorem dX_isSemicolonDue_28 : decode cX_isSemicolonDue 28 = .ok (.if_icmp .ge 45, 3) := by decide +kernel
theorem dX_isSemicolonDue_31 : decode cX_isSemicolonDue 31 = .ok (.aload_n 0, 1) := by decide +kernel
theorem dX_isSemicolonDue_32 : decode cX_isSemicolonDue 32 = .ok (.aload_n 0, 1) := by decide +kernel
theorem dX_isSemicolonDue_33 : decode cX_isSemicolonDue 33 = .ok (.getfield 13, 3) := by decide +kernel
theorem dX_isSemicolonDue_36 : decode cX_isSemicolonDue 36 = .ok (.iload 4, 2) := by decide +kernel
theorem dX_isSemicolonDue_38 : decode cX_isSemicolonDue 38 = .ok (.iaload, 1) := by decide +kernel
theorem dX_isSemicolonDue_39 : decode cX_isSemicolonDue 39 = .ok (.aload_n 0, 1) := by decide +kernel
theorem dX_isSemicolonDue_40 : decode cX_isSemicolonDue 40 = .ok (.getfield 25, 3) := by decide +kernel
theorem dX_isSemicolonDue_43 : decode cX_isSemicolonDue 43 = .ok (.iload 4, 2) := by decide +kernel
theorem dX_isSemicolonDue_45 : decode cX_isSemicolonDue 45 = .ok (.iaload, 1) := by decide +kernel
theorem dX_isSemicolonDue_46 : decode cX_isSemicolonDue 46 = .ok (.aload_n 0, 1) := by decide +kernel
theorem dX_isSemicolonDue_47 : decode cX_isSemicolonDue 47 = .ok (.getfield 28, 3) := by decide +kernel
theorem dX_isSemicolonDue_50 : decode cX_isSemicolonDue 50 = .ok (.iload 4, 2) := by decide +kernel
theorem dX_isSemicolonDue_52 : decode cX_isSemicolonDue 52 = .ok (.iaload, 1) := by decide +kernel
theorem dX_isSemicolonDue_53 : decode cX_isSemicolonDue 53 = .ok (.invokevirtual 174, 3) := by decide +kernel
theorem dX_isSemicolonDue_56 : decode cX_isSemicolonDue 56 = .ok (.ifCond .eq 17, 3) := by decide +kernel
theorem dX_isSemicolonDue_59 : decode cX_isSemicolonDue 59 = .ok (.aload_n 0, 1) := by decide +kernel
theorem dX_isSemicolonDue_60 : decode cX_isSemicolonDue 60 = .ok (.iload_n 1, 1) := by decide +kernel
theorem dX_isSemicolonDue_61 : decode cX_isSemicolonDue 61 = .ok (.iload_n 2, 1) := by decide +kernel
theorem dX_isSemicolonDue_62 : decode cX_isSemicolonDue 62 = .ok (.iload_n 3, 1) := by decide +kernel
theorem dX_isSemicolonDue_63 : decode cX_isSemicolonDue 63 = .ok (.invokevirtual 177, 3) := by decide +kernel
theorem dX_isSemicolonDue_66 : decode cX_isSemicolonDue 66 = .ok (.ifCond .eq 7, 3) := by decide +kernel
theorem dX_isSemicolonDue_69 : decode cX_isSemicolonDue 69 = .ok (.iconst 1, 1) := by decide +kernel
theorem dX_isSemicolonDue_70 : decode cX_isSemicolonDue 70 = .ok (.goto 4, 3) := by decide +kernel
theorem dX_isSemicolonDue_73 : decode cX_isSemicolonDue 73 = .ok (.iconst 0, 1) := by decide +kernel
theorem dX_isSemicolonDue_74 : decode cX_isSemicolonDue 74 = .ok (.ireturn, 1) := by decide +kernel
theorem dX_isToken_0 : decode cX_isToken 0 = .ok (.iload_n 1, 1) := by decide +kernel
theorem dX_isToken_1 : decode cX_isToken 1 = .ok (.ifCond .lt 22, 3) := by decide +kernel
theorem dX_isToken_4 : decode cX_isToken 4 = .ok (.iload_n 1, 1) := by decide +kernel
theorem dX_isToken_5 : decode cX_isToken 5 = .ok (.aload_n 0, 1) := by decide +kernel
theorem dX_isToken_6 : decode cX_isToken 6 = .ok (.getfield 42, 3) := by decide +kernel
theorem dX_isToken_9 : decode cX_isToken 9 = .ok (.if_icmp .ge 14, 3) := by decide +kernel
theorem dX_isToken_12 : decode cX_isToken 12 = .ok (.iload_n 1, 1) := by decide +kernel
theorem dX_isToken_13 : decode cX_isToken 13 = .ok (.sipush 1001, 3) := by decide +kernel
theorem dX_isToken_16 : decode cX_isToken 16 = .ok (.if_icmp .ge 7, 3) := by decide +kernel
theorem dX_isToken_19 : decode cX_isToken 19 = .ok (.iconst 1, 1) := by decide +kernel
theorem dX_isToken_20 : decode cX_isToken 20 = .ok (.goto 4, 3) := by decide +kernel
theorem dX_isToken_23 : decode cX_isToken 23 = .ok (.iconst 0, 1) := by decide +kernel
theorem dX_isToken_24 : decode cX_isToken 24 = .ok (.ireturn, 1) := by decide +kernel
theorem dX_mayEndStatement_0 : decode cX_mayEndStatement 0 = .ok (.iload_n 1, 1) := by decide +kernel
theorem dX_mayEndStatement_1 : decode cX_mayEndStatement 1 = .ok (.invokestatic 65, 3) := by decide +kernel
theorem dX_mayEndStatement_4 : decode cX_mayEndStatement 4 = .ok (.ifCond .ne 8, 3) := by decide +kernel
theorem dX_mayEndStatement_7 : decode cX_mayEndStatement 7 = .ok (.iload_n 1, 1) := by decide +kernel
theorem dX_mayEndStatement_8 : decode cX_mayEndStatement 8 = .ok (.invokestatic 180, 3) := by decide +kernel
theorem dX_mayEndStatement_11 : decode cX_mayEndStatement 11 = .ok (.ireturn, 1) := by decide +kernel
theorem dX_mayEndStatement_12 : decode cX_mayEndStatement 12 = .ok (.ldc 183, 2) := by decide +kernel
theorem dX_mayEndStatement_14 : decode cX_mayEndStatement 14 = .ok (.aload_n 0, 1) := by decide +kernel
theorem dX_mayEndStatement_15 : decode cX_mayEndStatement 15 = .ok (.getfield 31, 3) := by decide +kernel
theorem dX_mayEndStatement_18 : decode cX_mayEndStatement 18 = .ok (.iload_n 2, 1) := by decide +kernel
theorem dX_mayEndStatement_19 : decode cX_mayEndStatement 19 = .ok (.iload_n 3, 1) := by decide +kernel
theorem dX_mayEndStatement_20 : decode cX_mayEndStatement 20 = .ok (.invokestatic 73, 3) := by decide +kernel
theorem dX_mayEndStatement_23 : decode cX_mayEndStatement 23 = .ok (.iconst (-1), 1) := by decide +kernel
theorem dX_mayEndStatement_24 : decode cX_mayEndStatement 24 = .ok (.if_icmp .ne 18, 3) := by decide +kernel
theorem dX_mayEndStatement_27 : decode cX_mayEndStatement 27 = .ok (.ldc 159, 2) := by decide +kernel
theorem dX_mayEndStatement_29 : decode cX_mayEndStatement 29 = .ok (.aload_n 0, 1) := by decide +kernel
theorem dX_mayEndStatement_30 : decode cX_mayEndStatement 30 = .ok (.getfield 31, 3) := by decide +kernel
theorem dX_mayEndStatement_33 : decode cX_mayEndStatement 33 = .ok (.iload_n 2, 1) := by decide +kernel
theorem dX_mayEndStatement_34 : decode cX_mayEndStatement 34 = .ok (.iload_n 3, 1) := by decide +kernel
theorem dX_mayEndStatement_35 : decode cX_mayEndStatement 35 = .ok (.invokestatic 73, 3) := by decide +kernel
theorem dX_mayEndStatement_38 : decode cX_mayEndStatement 38 = .ok (.iconst (-1), 1) := by decide +kernel
theorem dX_mayEndStatement_39 : decode cX_mayEndStatement 39 = .ok (.if_icmp .eq 7, 3) := by decide +kernel
theorem dX_mayEndStatement_42 : decode cX_mayEndStatement 42 = .ok (.iconst 1, 1) := by decide +kernel
theorem dX_mayEndStatement_43 : decode cX_mayEndStatement 43 = .ok (.goto 4, 3) := by decide +kernel
theorem dX_mayEndStatement_46 : decode cX_mayEndStatement 46 = .ok (.iconst 0, 1) := by decide +kernel
theorem dX_mayEndStatement_47 : decode cX_mayEndStatement 47 = .ok (.ireturn, 1) := by decide +kernel
theorem dX_isSignOrKeyword_0 : decode cX_isSignOrKeyword 0 = .ok (.iload_n 0, 1) := by decide +kernel
theorem dX_isSignOrKeyword_1 : decode cX_isSignOrKeyword 1 = .ok (.iconst 3, 1) := by decide +kernel
theorem dX_isSignOrKeyword_2 : decode cX_isSignOrKeyword 2 = .ok (.if_icmp .eq 8, 3) := by decide +kernel
theorem dX_isSignOrKeyword_5 : decode cX_isSignOrKeyword 5 = .ok (.iload_n 0, 1) := by decide +kernel
theorem dX_isSignOrKeyword_6 : decode cX_isSignOrKeyword 6 = .ok (.iconst 4, 1) := by decide +kernel
theorem dX_isSignOrKeyword_7 : decode cX_isSignOrKeyword 7 = .ok (.if_icmp .ne 7, 3) := by decide +kernel
theorem dX_isSignOrKeyword_10 : decode cX_isSignOrKeyword 10 = .ok (.iconst 1, 1) := by decide +kernel
theorem dX_isSignOrKeyword_11 : decode cX_isSignOrKeyword 11 = .ok (.goto 4, 3) := by decide +kernel
theorem dX_isSignOrKeyword_14 : decode cX_isSignOrKeyword 14 = .ok (.iconst 0, 1) := by decide +kernel
theorem dX_isSignOrKeyword_15 : decode cX_isSignOrKeyword 15 = .ok (.ireturn, 1) := by decide +kernel
theorem dX_isOperand_0 : decode cX_isOperand 0 = .ok (.iload_n 0, 1) := by decide +kernel
theorem dX_isOperand_1 : decode cX_isOperand 1 = .ok (.ifCond .eq 13, 3) := by decide +kernel
theorem dX_isOperand_4 : decode cX_isOperand 4 = .ok (.iload_n 0, 1) := by decide +kernel
theorem dX_isOperand_5 : decode cX_isOperand 5 = .ok (.iconst 1, 1) := by decide +kernel
theorem dX_isOperand_6 : decode cX_isOperand 6 = .ok (.if_icmp .eq 8, 3) := by decide +kernel
theorem dX_isOperand_9 : decode cX_isOperand 9 = .ok (.iload_n 0, 1) := by decide +kernel
theorem dX_isOperand_10 : decode cX_isOperand 10 = .ok (.iconst 2, 1) := by decide +kernel
theorem dX_isOperand_11 : decode cX_isOperand 11 = .ok (.if_icmp .ne 7, 3) := by decide +kernel
theorem dX_isOperand_14 : decode cX_isOperand 14 = .ok (.iconst 1, 1) := by decide +kernel
theorem dX_isOperand_15 : decode cX_isOperand 15 = .ok (.goto 4, 3) := by decide +kernel
theorem dX_isOperand_18 : decode cX_isOperand 18 = .ok (.iconst 0, 1) := by decide +kernel
theorem dX_isOperand_19 : decode cX_isOperand 19 = .ok (.ireturn, 1) := by decide +kernel
theorem dX_mayBeginStatement_0 : decode cX_mayBeginStatement 0 = .ok (.iload_n 1, 1) := by decide +kernel
theorem dX_mayBeginStatement_1 : decode cX_mayBeginStatement 1 = .ok (.invokestatic 65, 3) := by decide +kernel
theorem dX_mayBeginStatement_4 : decode cX_mayBeginStatement 4 = .ok (.ifCond .ne 8, 3) := by decide +kernel
theorem dX_mayBeginStatement_7 : decode cX_mayBeginStatement 7 = .ok (.iload_n 1, 1) := by decide +kernel
theorem dX_mayBeginStatement_8 : decode cX_mayBeginStatement 8 = .ok (.invokestatic 180, 3) := by decide +kernel
theorem dX_mayBeginStatement_11 : decode cX_mayBeginStatement 11 = .ok (.ireturn, 1) := by decide +kernel
theorem dX_mayBeginStatement_12 : decode cX_mayBeginStatement 12 = .ok (.ldc 185, 2) := by decide +kernel
theorem dX_mayBeginStatement_14 : decode cX_mayBeginStatement 14 = .ok (.aload_n 0, 1) := by decide +kernel
theorem dX_mayBeginStatement_15 : decode cX_mayBeginStatement 15 = .ok (.getfield 31, 3) := by decide +kernel
theorem dX_mayBeginStatement_18 : decode cX_mayBeginStatement 18 = .ok (.iload_n 2, 1) := by decide +kernel
theorem dX_mayBeginStatement_19 : decode cX_mayBeginStatement 19 = .ok (.iload_n 3, 1) := by decide +kernel
theorem dX_mayBeginStatement_20 : decode cX_mayBeginStatement 20 = .ok (.invokestatic 73, 3) := by decide +kernel
theorem dX_mayBeginStatement_23 : decode cX_mayBeginStatement 23 = .ok (.iconst (-1), 1) := by decide +kernel
theorem dX_mayBeginStatement_24 : decode cX_mayBeginStatement 24 = .ok (.if_icmp .ne 33, 3) := by decide +kernel
theorem dX_mayBeginStatement_27 : decode cX_mayBeginStatement 27 = .ok (.ldc 159, 2) := by decide +kernel
theorem dX_mayBeginStatement_29 : decode cX_mayBeginStatement 29 = .ok (.aload_n 0, 1) := by decide +kernel
theorem dX_mayBeginStatement_30 : decode cX_mayBeginStatement 30 = .ok (.getfield 31, 3) := by decide +kernel
theorem dX_mayBeginStatement_33 : decode cX_mayBeginStatement 33 = .ok (.iload_n 2, 1) := by decide +kernel
theorem dX_mayBeginStatement_34 : decode cX_mayBeginStatement 34 = .ok (.iload_n 3, 1) := by decide +kernel
theorem dX_mayBeginStatement_35 : decode cX_mayBeginStatement 35 = .ok (.invokestatic 73, 3) := by decide +kernel
theorem dX_mayBeginStatement_38 : decode cX_mayBeginStatement 38 = .ok (.iconst (-1), 1) := by decide +kernel
theorem dX_mayBeginStatement_39 : decode cX_mayBeginStatement 39 = .ok (.if_icmp .ne 18, 3) := by decide +kernel
theorem dX_mayBeginStatement_42 : decode cX_mayBeginStatement 42 = .ok (.ldc 161, 2) := by decide +kernel
theorem dX_mayBeginStatement_44 : decode cX_mayBeginStatement 44 = .ok (.aload_n 0, 1) := by decide +kernel
theorem dX_mayBeginStatement_45 : decode cX_mayBeginStatement 45 = .ok (.getfield 31, 3) := by decide +kernel
theorem dX_mayBeginStatement_48 : decode cX_mayBeginStatement 48 = .ok (.iload_n 2, 1) := by decide +kernel
theorem dX_mayBeginStatement_49 : decode cX_mayBeginStatement 49 = .ok (.iload_n 3, 1) := by decide +kernel
theorem dX_mayBeginStatement_50 : decode cX_mayBeginStatement 50 = .ok (.invokestatic 73, 3) := by decide +kernel
theorem dX_mayBeginStatement_53 : decode cX_mayBeginStatement 53 = .ok (.iconst (-1), 1) := by decide +kernel
theorem dX_mayBeginStatement_54 : decode cX_mayBeginStatement 54 = .ok (.if_icmp .eq 7, 3) := by decide +kernel
theorem dX_mayBeginStatement_57 : decode cX_mayBeginStatement 57 = .ok (.iconst 1, 1) := by decide +kernel
theorem dX_mayBeginStatement_58 : decode cX_mayBeginStatement 58 = .ok (.goto 4, 3) := by decide +kernel
theorem dX_mayBeginStatement_61 : decode cX_mayBeginStatement 61 = .ok (.iconst 0, 1) := by decide +kernel
theorem dX_mayBeginStatement_62 : decode cX_mayBeginStatement 62 = .ok (.ireturn, 1) := by decide +kernel
theorem dX_addSemicolon_0 : decode cX_addSemicolon 0 = .ok (.aload_n 0, 1) := by decide +kernel
theorem dX_addSemicolon_1 : decode cX_addSemicolon 1 = .ok (.getfield 45, 3) := by decide +kernel
theorem dX_addSemicolon_4 : decode cX_addSemicolon 4 = .ok (.istore_n 2, 1) := by decide +kernel
theorem dX_addSemicolon_5 : decode cX_addSemicolon 5 = .ok (.aload_n 0, 1) := by decide +kernel
theorem dX_addSemicolon_6 : decode cX_addSemicolon 6 = .ok (.bipush 59, 2) := by decide +kernel
theorem dX_addSemicolon_8 : decode cX_addSemicolon 8 = .ok (.invokevirtual 153, 3) := by decide +kernel
theorem dX_addSemicolon_11 : decode cX_addSemicolon 11 = .ok (.aload_n 0, 1) := by decide +kernel
theorem dX_addSemicolon_12 : decode cX_addSemicolon 12 = .ok (.iconst 3, 1) := by decide +kernel
theorem dX_addSemicolon_13 : decode cX_addSemicolon 13 = .ok (.iload_n 1, 1) := by decide +kernel
theorem dX_addSemicolon_14 : decode cX_addSemicolon 14 = .ok (.iconst 0, 1) := by decide +kernel
theorem dX_addSemicolon_15 : decode cX_addSemicolon 15 = .ok (.iload_n 2, 1) := by decide +kernel
theorem dX_addSemicolon_16 : decode cX_addSemicolon 16 = .ok (.aload_n 0, 1) := by decide +kernel
theorem dX_addSemicolon_17 : decode cX_addSemicolon 17 = .ok (.getfield 45, 3) := by decide +kernel
theorem dX_addSemicolon_20 : decode cX_addSemicolon 20 = .ok (.iload_n 2, 1) := by decide +kernel
theorem dX_addSemicolon_21 : decode cX_addSemicolon 21 = .ok (.isub, 1) := by decide +kernel
theorem dX_addSemicolon_22 : decode cX_addSemicolon 22 = .ok (.invokevirtual 99, 3) := by decide +kernel
theorem dX_addSemicolon_25 : decode cX_addSemicolon 25 = .ok (.return_, 1) := by decide +kernel
theorem dX_addToken_0 : decode cX_addToken 0 = .ok (.aload_n 0, 1) := by decide +kernel
theorem dX_addToken_1 : decode cX_addToken 1 = .ok (.getfield 42, 3) := by decide +kernel
theorem dX_addToken_4 : decode cX_addToken 4 = .ok (.ifCond .lt 13, 3) := by decide +kernel
theorem dX_addToken_7 : decode cX_addToken 7 = .ok (.aload_n 0, 1) := by decide +kernel
theorem dX_addToken_8 : decode cX_addToken 8 = .ok (.getfield 42, 3) := by decide +kernel
theorem dX_addToken_11 : decode cX_addToken 11 = .ok (.sipush 1001, 3) := by decide +kernel
theorem dX_addToken_14 : decode cX_addToken 14 = .ok (.if_icmp .lt 4, 3) := by decide +kernel
theorem dX_addToken_17 : decode cX_addToken 17 = .ok (.return_, 1) := by decide +kernel
theorem dX_addToken_18 : decode cX_addToken 18 = .ok (.aload_n 0, 1) := by decide +kernel
theorem dX_addToken_19 : decode cX_addToken 19 = .ok (.getfield 13, 3) := by decide +kernel
theorem dX_addToken_22 : decode cX_addToken 22 = .ok (.aload_n 0, 1) := by decide +kernel
theorem dX_addToken_23 : decode cX_addToken 23 = .ok (.getfield 42, 3) := by decide +kernel
theorem dX_addToken_26 : decode cX_addToken 26 = .ok (.iload_n 1, 1) := by decide +kernel
theorem dX_addToken_27 : decode cX_addToken 27 = .ok (.iastore, 1) := by decide +kernel
theorem dX_addToken_28 : decode cX_addToken 28 = .ok (.aload_n 0, 1) := by decide +kernel
theorem dX_addToken_29 : decode cX_addToken 29 = .ok (.getfield 16, 3) := by decide +kernel
theorem dX_addToken_32 : decode cX_addToken 32 = .ok (.aload_n 0, 1) := by decide +kernel
theorem dX_addToken_33 : decode cX_addToken 33 = .ok (.getfield 42, 3) := by decide +kernel
theorem dX_addToken_36 : decode cX_addToken 36 = .ok (.iload_n 2, 1) := by decide +kernel
theorem dX_addToken_37 : decode cX_addToken 37 = .ok (.iastore, 1) := by decide +kernel
theorem dX_addToken_38 : decode cX_addToken 38 = .ok (.aload_n 0, 1) := by decide +kernel
theorem dX_addToken_39 : decode cX_addToken 39 = .ok (.getfield 19, 3) := by decide +kernel
theorem dX_addToken_42 : decode cX_addToken 42 = .ok (.aload_n 0, 1) := by decide +kernel
theorem dX_addToken_43 : decode cX_addToken 43 = .ok (.getfield 42, 3) := by decide +kernel
theorem dX_addToken_46 : decode cX_addToken 46 = .ok (.aload_n 0, 1) := by decide +kernel
theorem dX_addToken_47 : decode cX_addToken 47 = .ok (.getfield 51, 3) := by decide +kernel
theorem dX_addToken_50 : decode cX_addToken 50 = .ok (.iastore, 1) := by decide +kernel
theorem dX_addToken_51 : decode cX_addToken 51 = .ok (.aload_n 0, 1) := by decide +kernel
theorem dX_addToken_52 : decode cX_addToken 52 = .ok (.getfield 22, 3) := by decide +kernel
theorem dX_addToken_55 : decode cX_addToken 55 = .ok (.aload_n 0, 1) := by decide +kernel
theorem dX_addToken_56 : decode cX_addToken 56 = .ok (.getfield 42, 3) := by decide +kernel
theorem dX_addToken_59 : decode cX_addToken 59 = .ok (.iload_n 3, 1) := by decide +kernel
theorem dX_addToken_60 : decode cX_addToken 60 = .ok (.iastore, 1) := by decide +kernel
theorem dX_addToken_61 : decode cX_addToken 61 = .ok (.aload_n 0, 1) := by decide +kernel
theorem dX_addToken_62 : decode cX_addToken 62 = .ok (.getfield 25, 3) := by decide +kernel
theorem dX_addToken_65 : decode cX_addToken 65 = .ok (.aload_n 0, 1) := by decide +kernel
theorem dX_addToken_66 : decode cX_addToken 66 = .ok (.getfield 42, 3) := by decide +kernel
theorem dX_addToken_69 : decode cX_addToken 69 = .ok (.iload 4, 2) := by decide +kernel
theorem dX_addToken_71 : decode cX_addToken 71 = .ok (.iastore, 1) := by decide +kernel
theorem dX_addToken_72 : decode cX_addToken 72 = .ok (.aload_n 0, 1) := by decide +kernel
theorem dX_addToken_73 : decode cX_addToken 73 = .ok (.getfield 28, 3) := by decide +kernel
theorem dX_addToken_76 : decode cX_addToken 76 = .ok (.aload_n 0, 1) := by decide +kernel
theorem dX_addToken_77 : decode cX_addToken 77 = .ok (.getfield 42, 3) := by decide +kernel
theorem dX_addToken_80 : decode cX_addToken 80 = .ok (.iload 5, 2) := by decide +kernel
theorem dX_addToken_82 : decode cX_addToken 82 = .ok (.iastore, 1) := by decide +kernel
theorem dX_addToken_83 : decode cX_addToken 83 = .ok (.aload_n 0, 1) := by decide +kernel
theorem dX_addToken_84 : decode cX_addToken 84 = .ok (.dup, 1) := by decide +kernel
theorem dX_addToken_85 : decode cX_addToken 85 = .ok (.getfield 42, 3) := by decide +kernel
theorem dX_addToken_88 : decode cX_addToken 88 = .ok (.iconst 1, 1) := by decide +kernel
theorem dX_addToken_89 : decode cX_addToken 89 = .ok (.iadd, 1) := by decide +kernel
theorem dX_addToken_90 : decode cX_addToken 90 = .ok (.putfield 42, 3) := by decide +kernel
theorem dX_addToken_93 : decode cX_addToken 93 = .ok (.return_, 1) := by decide +kernel
theorem dX_kind_0 : decode cX_kind 0 = .ok (.aload_n 0, 1) := by decide +kernel
theorem dX_kind_1 : decode cX_kind 1 = .ok (.iload_n 1, 1) := by decide +kernel
theorem dX_kind_2 : decode cX_kind 2 = .ok (.invokevirtual 61, 3) := by decide +kernel
theorem dX_kind_5 : decode cX_kind 5 = .ok (.ifCond .eq 12, 3) := by decide +kernel
theorem dX_kind_8 : decode cX_kind 8 = .ok (.aload_n 0, 1) := by decide +kernel
theorem dX_kind_9 : decode cX_kind 9 = .ok (.getfield 13, 3) := by decide +kernel
theorem dX_kind_12 : decode cX_kind 12 = .ok (.iload_n 1, 1) := by decide +kernel
theorem dX_kind_13 : decode cX_kind 13 = .ok (.iaload, 1) := by decide +kernel
theorem dX_kind_14 : decode cX_kind 14 = .ok (.goto 4, 3) := by decide +kernel
theorem dX_kind_17 : decode cX_kind 17 = .ok (.iconst (-1), 1) := by decide +kernel
theorem dX_kind_18 : decode cX_kind 18 = .ok (.ireturn, 1) := by decide +kernel
theorem dX_place_0 : decode cX_place 0 = .ok (.aload_n 0, 1) := by decide +kernel
theorem dX_place_1 : decode cX_place 1 = .ok (.iload_n 1, 1) := by decide +kernel
theorem dX_place_2 : decode cX_place 2 = .ok (.invokevirtual 61, 3) := by decide +kernel
theorem dX_place_5 : decode cX_place 5 = .ok (.ifCond .eq 12, 3) := by decide +kernel
theorem dX_place_8 : decode cX_place 8 = .ok (.aload_n 0, 1) := by decide +kernel
theorem dX_place_9 : decode cX_place 9 = .ok (.getfield 16, 3) := by decide +kernel
theorem dX_place_12 : decode cX_place 12 = .ok (.iload_n 1, 1) := by decide +kernel
theorem dX_place_13 : decode cX_place 13 = .ok (.iaload, 1) := by decide +kernel
theorem dX_place_14 : decode cX_place 14 = .ok (.goto 4, 3) := by decide +kernel
theorem dX_place_17 : decode cX_place 17 = .ok (.iconst (-1), 1) := by decide +kernel
theorem dX_place_18 : decode cX_place 18 = .ok (.ireturn, 1) := by decide +kernel
theorem dX_line_0 : decode cX_line 0 = .ok (.aload_n 0, 1) := by decide +kernel
theorem dX_line_1 : decode cX_line 1 = .ok (.iload_n 1, 1) := by decide +kernel
theorem dX_line_2 : decode cX_line 2 = .ok (.invokevirtual 61, 3) := by decide +kernel
theorem dX_line_5 : decode cX_line 5 = .ok (.ifCond .eq 12, 3) := by decide +kernel
theorem dX_line_8 : decode cX_line 8 = .ok (.aload_n 0, 1) := by decide +kernel
theorem dX_line_9 : decode cX_line 9 = .ok (.getfield 19, 3) := by decide +kernel
theorem dX_line_12 : decode cX_line 12 = .ok (.iload_n 1, 1) := by decide +kernel
theorem dX_line_13 : decode cX_line 13 = .ok (.iaload, 1) := by decide +kernel
theorem dX_line_14 : decode cX_line 14 = .ok (.goto 4, 3) := by decide +kernel
theorem dX_line_17 : decode cX_line 17 = .ok (.iconst (-1), 1) := by decide +kernel
theorem dX_line_18 : decode cX_line 18 = .ok (.ireturn, 1) := by decide +kernel
theorem dX_value_0 : decode cX_value 0 = .ok (.aload_n 0, 1) := by decide +kernel
theorem dX_value_1 : decode cX_value 1 = .ok (.iload_n 1, 1) := by decide +kernel
theorem dX_value_2 : decode cX_value 2 = .ok (.invokevirtual 61, 3) := by decide +kernel
theorem dX_value_5 : decode cX_value 5 = .ok (.ifCond .eq 12, 3) := by decide +kernel
theorem dX_value_8 : decode cX_value 8 = .ok (.aload_n 0, 1) := by decide +kernel
theorem dX_value_9 : decode cX_value 9 = .ok (.getfield 22, 3) := by decide +kernel
theorem dX_value_12 : decode cX_value 12 = .ok (.iload_n 1, 1) := by decide +kernel
theorem dX_value_13 : decode cX_value 13 = .ok (.iaload, 1) := by decide +kernel
theorem dX_value_14 : decode cX_value 14 = .ok (.goto 4, 3) := by decide +kernel
theorem dX_value_17 : decode cX_value 17 = .ok (.iconst 0, 1) := by decide +kernel
theorem dX_value_18 : decode cX_value 18 = .ok (.ireturn, 1) := by decide +kernel
theorem dX_level_0 : decode cX_level 0 = .ok (.aload_n 0, 1) := by decide +kernel
theorem dX_level_1 : decode cX_level 1 = .ok (.iload_n 1, 1) := by decide +kernel
theorem dX_level_2 : decode cX_level 2 = .ok (.invokevirtual 61, 3) := by decide +kernel
theorem dX_level_5 : decode cX_level 5 = .ok (.ifCond .eq 15, 3) := by decide +kernel
theorem dX_level_8 : decode cX_level 8 = .ok (.aload_n 0, 1) := by decide +kernel
theorem dX_level_9 : decode cX_level 9 = .ok (.getfield 13, 3) := by decide +kernel
theorem dX_level_12 : decode cX_level 12 = .ok (.iload_n 1, 1) := by decide +kernel
theorem dX_level_13 : decode cX_level 13 = .ok (.iaload, 1) := by decide +kernel
theorem dX_level_14 : decode cX_level 14 = .ok (.invokestatic 65, 3) := by decide +kernel
theorem dX_level_17 : decode cX_level 17 = .ok (.ifCond .ne 5, 3) := by decide +kernel
theorem dX_level_20 : decode cX_level 20 = .ok (.iconst (-1), 1) := by decide +kernel
theorem dX_level_21 : decode cX_level 21 = .ok (.ireturn, 1) := by decide +kernel
theorem dX_level_22 : decode cX_level 22 = .ok (.getstatic 68, 3) := by decide +kernel
theorem dX_level_25 : decode cX_level 25 = .ok (.ldc 71, 2) := by decide +kernel
theorem dX_level_27 : decode cX_level 27 = .ok (.aload_n 0, 1) := by decide +kernel
theorem dX_level_28 : decode cX_level 28 = .ok (.getfield 31, 3) := by decide +kernel
theorem dX_level_31 : decode cX_level 31 = .ok (.aload_n 0, 1) := by decide +kernel
theorem dX_level_32 : decode cX_level 32 = .ok (.getfield 25, 3) := by decide +kernel
theorem dX_level_35 : decode cX_level 35 = .ok (.iload_n 1, 1) := by decide +kernel
theorem dX_level_36 : decode cX_level 36 = .ok (.iaload, 1) := by decide +kernel
theorem dX_level_37 : decode cX_level 37 = .ok (.aload_n 0, 1) := by decide +kernel
theorem dX_level_38 : decode cX_level 38 = .ok (.getfield 28, 3) := by decide +kernel
theorem dX_level_41 : decode cX_level 41 = .ok (.iload_n 1, 1) := by decide +kernel
theorem dX_level_42 : decode cX_level 42 = .ok (.iaload, 1) := by decide +kernel
theorem dX_level_43 : decode cX_level 43 = .ok (.invokestatic 73, 3) := by decide +kernel
theorem dX_level_46 : decode cX_level 46 = .ok (.invokestatic 77, 3) := by decide +kernel
theorem dX_level_49 : decode cX_level 49 = .ok (.ireturn, 1) := by decide +kernel
theorem dX_size_0 : decode cX_size 0 = .ok (.aload_n 0, 1) := by decide +kernel
theorem dX_size_1 : decode cX_size 1 = .ok (.iload_n 1, 1) := by decide +kernel
theorem dX_size_2 : decode cX_size 2 = .ok (.invokevirtual 61, 3) := by decide +kernel
theorem dX_size_5 : decode cX_size 5 = .ok (.ifCond .eq 12, 3) := by decide +kernel
theorem dX_size_8 : decode cX_size 8 = .ok (.aload_n 0, 1) := by decide +kernel
theorem dX_size_9 : decode cX_size 9 = .ok (.getfield 28, 3) := by decide +kernel
theorem dX_size_12 : decode cX_size 12 = .ok (.iload_n 1, 1) := by decide +kernel
theorem dX_size_13 : decode cX_size 13 = .ok (.iaload, 1) := by decide +kernel
theorem dX_size_14 : decode cX_size 14 = .ok (.goto 4, 3) := by decide +kernel
theorem dX_size_17 : decode cX_size 17 = .ok (.iconst (-1), 1) := by decide +kernel
theorem dX_size_18 : decode cX_size 18 = .ok (.ireturn, 1) := by decide +kernel
theorem dX_textAt_0 : decode cX_textAt 0 = .ok (.aload_n 0, 1) := by decide +kernel
theorem dX_textAt_1 : decode cX_textAt 1 = .ok (.iload_n 1, 1) := by decide +kernel
theorem dX_textAt_2 : decode cX_textAt 2 = .ok (.invokevirtual 61, 3) := by decide +kernel
theorem dX_textAt_5 : decode cX_textAt 5 = .ok (.ifCond .eq 17, 3) := by decide +kernel
theorem dX_textAt_8 : decode cX_textAt 8 = .ok (.iload_n 2, 1) := by decide +kernel
theorem dX_textAt_9 : decode cX_textAt 9 = .ok (.ifCond .lt 13, 3) := by decide +kernel
theorem dX_textAt_12 : decode cX_textAt 12 = .ok (.iload_n 2, 1) := by decide +kernel
theorem dX_textAt_13 : decode cX_textAt 13 = .ok (.aload_n 0, 1) := by decide +kernel
theorem dX_textAt_14 : decode cX_textAt 14 = .ok (.getfield 28, 3) := by decide +kernel
theorem dX_textAt_17 : decode cX_textAt 17 = .ok (.iload_n 1, 1) := by decide +kernel
theorem dX_textAt_18 : decode cX_textAt 18 = .ok (.iaload, 1) := by decide +kernel
theorem dX_textAt_19 : decode cX_textAt 19 = .ok (.if_icmp .lt 5, 3) := by decide +kernel
theorem dX_textAt_22 : decode cX_textAt 22 = .ok (.iconst (-1), 1) := by decide +kernel
theorem dX_textAt_23 : decode cX_textAt 23 = .ok (.ireturn, 1) := by decide +kernel
theorem dX_textAt_24 : decode cX_textAt 24 = .ok (.aload_n 0, 1) := by decide +kernel
theorem dX_textAt_25 : decode cX_textAt 25 = .ok (.getfield 31, 3) := by decide +kernel
theorem dX_textAt_28 : decode cX_textAt 28 = .ok (.aload_n 0, 1) := by decide +kernel
theorem dX_textAt_29 : decode cX_textAt 29 = .ok (.getfield 25, 3) := by decide +kernel
theorem dX_textAt_32 : decode cX_textAt 32 = .ok (.iload_n 1, 1) := by decide +kernel
theorem dX_textAt_33 : decode cX_textAt 33 = .ok (.iaload, 1) := by decide +kernel
theorem dX_textAt_34 : decode cX_textAt 34 = .ok (.iload_n 2, 1) := by decide +kernel
theorem dX_textAt_35 : decode cX_textAt 35 = .ok (.iadd, 1) := by decide +kernel
theorem dX_textAt_36 : decode cX_textAt 36 = .ok (.invokestatic 77, 3) := by decide +kernel
theorem dX_textAt_39 : decode cX_textAt 39 = .ok (.ireturn, 1) := by decide +kernel
end
section
theorem dM_init_0 : decode cM_init 0 = .ok (.aload_n 0, 1) := by decide +kernel
theorem dM_init_1 : decode cM_init 1 = .ok (.invokespecial 1, 3) := by decide +kernel
theorem dM_init_4 : decode cM_init 4 = .ok (.aload_n 0, 1) := by decide +kernel
theorem dM_init_5 : decode cM_init 5 = .ok (.sipush 1000, 3) := by decide +kernel
theorem dM_init_8 : decode cM_init 8 = .ok (.newarray .int, 2) := by decide +kernel
theorem dM_init_10 : decode cM_init 10 = .ok (.putfield 7, 3) := by decide +kernel
theorem dM_init_13 : decode cM_init 13 = .ok (.aload_n 0, 1) := by decide +kernel
theorem dM_init_14 : decode cM_init 14 = .ok (.sipush 2100, 3) := by decide +kernel
theorem dM_init_17 : decode cM_init 17 = .ok (.newarray .int, 2) := by decide +kernel
theorem dM_init_19 : decode cM_init 19 = .ok (.putfield 13, 3) := by decide +kernel
theorem dM_init_22 : decode cM_init 22 = .ok (.aload_n 0, 1) := by decide +kernel
theorem dM_init_23 : decode cM_init 23 = .ok (.sipush 2100, 3) := by decide +kernel
theorem dM_init_26 : decode cM_init 26 = .ok (.newarray .int, 2) := by decide +kernel
theorem dM_init_28 : decode cM_init 28 = .ok (.putfield 16, 3) := by decide +kernel
theorem dM_init_31 : decode cM_init 31 = .ok (.aload_n 0, 1) := by decide +kernel
theorem dM_init_32 : decode cM_init 32 = .ok (.sipush 2100, 3) := by decide +kernel
theorem dM_init_35 : decode cM_init 35 = .ok (.newarray .int, 2) := by decide +kernel
theorem dM_init_37 : decode cM_init 37 = .ok (.putfield 19, 3) := by decide +kernel
theorem dM_init_40 : decode cM_init 40 = .ok (.aload_n 0, 1) := by decide +kernel
theorem dM_init_41 : decode cM_init 41 = .ok (.sipush 2100, 3) := by decide +kernel
theorem dM_init_44 : decode cM_init 44 = .ok (.newarray .int, 2) := by decide +kernel
theorem dM_init_46 : decode cM_init 46 = .ok (.putfield 22, 3) := by decide +kernel
theorem dM_init_49 : decode cM_init 49 = .ok (.aload_n 0, 1) := by decide +kernel
theorem dM_init_50 : decode cM_init 50 = .ok (.sipush 2100, 3) := by decide +kernel
theorem dM_init_53 : decode cM_init 53 = .ok (.newarray .int, 2) := by decide +kernel
theorem dM_init_55 : decode cM_init 55 = .ok (.putfield 25, 3) := by decide +kernel
theorem dM_init_58 : decode cM_init 58 = .ok (.aload_n 0, 1) := by decide +kernel
theorem dM_init_59 : decode cM_init 59 = .ok (.sipush 2100, 3) := by decide +kernel
theorem dM_init_62 : decode cM_init 62 = .ok (.newarray .int, 2) := by decide +kernel
theorem dM_init_64 : decode cM_init 64 = .ok (.putfield 28, 3) := by decide +kernel
theorem dM_init_67 : decode cM_init 67 = .ok (.aload_n 0, 1) := by decide +kernel
theorem dM_init_68 : decode cM_init 68 = .ok (.sipush 2100, 3) := by decide +kernel
theorem dM_init_71 : decode cM_init 71 = .ok (.newarray .int, 2) := by decide +kernel
theorem dM_init_73 : decode cM_init 73 = .ok (.putfield 31, 3) := by decide +kernel
theorem dM_init_76 : decode cM_init 76 = .ok (.aload_n 0, 1) := by decide +kernel
theorem dM_init_77 : decode cM_init 77 = .ok (.ldc 34, 2) := by decide +kernel
theorem dM_init_79 : decode cM_init 79 = .ok (.putfield 36, 3) := by decide +kernel
theorem dM_init_82 : decode cM_init 82 = .ok (.aload_n 0, 1) := by decide +kernel
theorem dM_init_83 : decode cM_init 83 = .ok (.ldc 40, 2) := by decide +kernel
theorem dM_init_85 : decode cM_init 85 = .ok (.putfield 42, 3) := by decide +kernel
theorem dM_init_88 : decode cM_init 88 = .ok (.aload_n 0, 1) := by decide +kernel
theorem dM_init_89 : decode cM_init 89 = .ok (.ldc 45, 2) := by decide +kernel
theorem dM_init_91 : decode cM_init 91 = .ok (.putfield 47, 3) := by decide +kernel
theorem dM_init_94 : decode cM_init 94 = .ok (.return_, 1) := by decide +kernel
theorem dM_feed_0 : decode cM_feed 0 = .ok (.aload_n 0, 1) := by decide +kernel
theorem dM_feed_1 : decode cM_feed 1 = .ok (.getfield 54, 3) := by decide +kernel
theorem dM_feed_4 : decode cM_feed 4 = .ok (.bipush 20, 2) := by decide +kernel
theorem dM_feed_6 : decode cM_feed 6 = .ok (.iadd, 1) := by decide +kernel
theorem dM_feed_7 : decode cM_feed 7 = .ok (.sipush 1000, 3) := by decide +kernel
theorem dM_feed_10 : decode cM_feed 10 = .ok (.if_icmp .le 5, 3) := by decide +kernel
theorem dM_feed_13 : decode cM_feed 13 = .ok (.iconst 0, 1) := by decide +kernel
theorem dM_feed_14 : decode cM_feed 14 = .ok (.ireturn, 1) := by decide +kernel
theorem dM_feed_15 : decode cM_feed 15 = .ok (.aload_n 0, 1) := by decide +kernel
theorem dM_feed_16 : decode cM_feed 16 = .ok (.iload_n 1, 1) := by decide +kernel
theorem dM_feed_17 : decode cM_feed 17 = .ok (.invokevirtual 57, 3) := by decide +kernel
theorem dM_feed_20 : decode cM_feed 20 = .ok (.aload_n 0, 1) := by decide +kernel
theorem dM_feed_21 : decode cM_feed 21 = .ok (.iload_n 2, 1) := by decide +kernel
theorem dM_feed_22 : decode cM_feed 22 = .ok (.invokevirtual 57, 3) := by decide +kernel
theorem dM_feed_25 : decode cM_feed 25 = .ok (.aload_n 0, 1) := by decide +kernel
theorem dM_feed_26 : decode cM_feed 26 = .ok (.iload_n 3, 1) := by decide +kernel
theorem dM_feed_27 : decode cM_feed 27 = .ok (.invokevirtual 57, 3) := by decide +kernel
theorem dM_feed_30 : decode cM_feed 30 = .ok (.aload_n 0, 1) := by decide +kernel
theorem dM_feed_31 : decode cM_feed 31 = .ok (.iload 4, 2) := by decide +kernel
theorem dM_feed_33 : decode cM_feed 33 = .ok (.invokevirtual 57, 3) := by decide +kernel
theorem dM_feed_36 : decode cM_feed 36 = .ok (.aload_n 0, 1) := by decide +kernel
theorem dM_feed_37 : decode cM_feed 37 = .ok (.iload 5, 2) := by decide +kernel
theorem dM_feed_39 : decode cM_feed 39 = .ok (.invokevirtual 57, 3) := by decide +kernel
theorem dM_feed_42 : decode cM_feed 42 = .ok (.iconst 1, 1) := by decide +kernel
theorem dM_feed_43 : decode cM_feed 43 = .ok (.ireturn, 1) := by decide +kernel
theorem dM_put_0 : decode cM_put 0 = .ok (.bipush 24, 2) := by decide +kernel
theorem dM_put_2 : decode cM_put 2 = .ok (.istore_n 2, 1) := by decide +kernel
theorem dM_put_3 : decode cM_put 3 = .ok (.iload_n 2, 1) := by decide +kernel
theorem dM_put_4 : decode cM_put 4 = .ok (.ifCond .lt 35, 3) := by decide +kernel
theorem dM_put_7 : decode cM_put 7 = .ok (.aload_n 0, 1) := by decide +kernel
theorem dM_put_8 : decode cM_put 8 = .ok (.getfield 7, 3) := by decide +kernel
theorem dM_put_11 : decode cM_put 11 = .ok (.aload_n 0, 1) := by decide +kernel
theorem dM_put_12 : decode cM_put 12 = .ok (.getfield 54, 3) := by decide +kernel
theorem dM_put_15 : decode cM_put 15 = .ok (.iload_n 1, 1) := by decide +kernel
theorem dM_put_16 : decode cM_put 16 = .ok (.iload_n 2, 1) := by decide +kernel
theorem dM_put_17 : decode cM_put 17 = .ok (.ishr, 1) := by decide +kernel
theorem dM_put_18 : decode cM_put 18 = .ok (.sipush 255, 3) := by decide +kernel
theorem dM_put_21 : decode cM_put 21 = .ok (.iand, 1) := by decide +kernel
theorem dM_put_22 : decode cM_put 22 = .ok (.iastore, 1) := by decide +kernel
theorem dM_put_23 : decode cM_put 23 = .ok (.aload_n 0, 1) := by decide +kernel
theorem dM_put_24 : decode cM_put 24 = .ok (.dup, 1) := by decide +kernel
theorem dM_put_25 : decode cM_put 25 = .ok (.getfield 54, 3) := by decide +kernel
theorem dM_put_28 : decode cM_put 28 = .ok (.iconst 1, 1) := by decide +kernel
theorem dM_put_29 : decode cM_put 29 = .ok (.iadd, 1) := by decide +kernel
theorem dM_put_30 : decode cM_put 30 = .ok (.putfield 54, 3) := by decide +kernel
theorem dM_put_33 : decode cM_put 33 = .ok (.iinc 2 (-8), 3) := by decide +kernel
theorem dM_put_36 : decode cM_put 36 = .ok (.goto (-33), 3) := by decide +kernel
theorem dM_put_39 : decode cM_put 39 = .ok (.return_, 1) := by decide +kernel
theorem dM_end_0 : decode cM_end 0 = .ok (.iload_n 1, 1) := by decide +kernel
theorem dM_end_1 : decode cM_end 1 = .ok (.ifCond .lt 11, 3) := by decide +kernel
theorem dM_end_4 : decode cM_end 4 = .ok (.iload_n 1, 1) := by decide +kernel
theorem dM_end_5 : decode cM_end 5 = .ok (.aload_n 0, 1) := by decide +kernel
theorem dM_end_6 : decode cM_end 6 = .ok (.getfield 54, 3) := by decide +kernel
theorem dM_end_9 : decode cM_end 9 = .ok (.if_icmp .le 5, 3) := by decide +kernel
theorem dM_end_12 : decode cM_end 12 = .ok (.iconst 0, 1) := by decide +kernel
theorem dM_end_13 : decode cM_end 13 = .ok (.ireturn, 1) := by decide +kernel
theorem dM_end_14 : decode cM_end 14 = .ok (.aload_n 0, 1) := by decide +kernel
theorem dM_end_15 : decode cM_end 15 = .ok (.iload_n 1, 1) := by decide +kernel
theorem dM_end_16 : decode cM_end 16 = .ok (.putfield 54, 3) := by decide +kernel
theorem dM_end_19 : decode cM_end 19 = .ok (.iconst 1, 1) := by decide +kernel
theorem dM_end_20 : decode cM_end 20 = .ok (.ireturn, 1) := by decide +kernel
theorem dM_read_0 : decode cM_read 0 = .ok (.aload_n 0, 1) := by decide +kernel
theorem dM_read_1 : decode cM_read 1 = .ok (.iconst 0, 1) := by decide +kernel
theorem dM_read_2 : decode cM_read 2 = .ok (.putfield 81, 3) := by decide +kernel
theorem dM_read_5 : decode cM_read 5 = .ok (.aload_n 0, 1) := by decide +kernel
theorem dM_read_6 : decode cM_read 6 = .ok (.iconst 0, 1) := by decide +kernel
theorem dM_read_7 : decode cM_read 7 = .ok (.putfield 84, 3) := by decide +kernel
theorem dM_read_10 : decode cM_read 10 = .ok (.aload_n 0, 1) := by decide +kernel
theorem dM_read_11 : decode cM_read 11 = .ok (.iconst 0, 1) := by decide +kernel
theorem dM_read_12 : decode cM_read 12 = .ok (.putfield 71, 3) := by decide +kernel
theorem dM_read_15 : decode cM_read 15 = .ok (.aload_n 0, 1) := by decide +kernel
theorem dM_read_16 : decode cM_read 16 = .ok (.iconst 0, 1) := by decide +kernel
theorem dM_read_17 : decode cM_read 17 = .ok (.putfield 78, 3) := by decide +kernel
theorem dM_read_20 : decode cM_read 20 = .ok (.aload_n 0, 1) := by decide +kernel
theorem dM_read_21 : decode cM_read 21 = .ok (.invokevirtual 166, 3) := by decide +kernel
theorem dM_read_24 : decode cM_read 24 = .ok (.aload_n 0, 1) := by decide +kernel
theorem dM_read_25 : decode cM_read 25 = .ok (.getfield 71, 3) := by decide +kernel
theorem dM_read_28 : decode cM_read 28 = .ok (.aload_n 0, 1) := by decide +kernel
theorem dM_read_29 : decode cM_read 29 = .ok (.getfield 54, 3) := by decide +kernel
theorem dM_read_32 : decode cM_read 32 = .ok (.if_icmp .ge 7, 3) := by decide +kernel
theorem dM_read_35 : decode cM_read 35 = .ok (.iconst 1, 1) := by decide +kernel
theorem dM_read_36 : decode cM_read 36 = .ok (.goto 4, 3) := by decide +kernel
theorem dM_read_39 : decode cM_read 39 = .ok (.iconst 0, 1) := by decide +kernel
theorem dM_read_40 : decode cM_read 40 = .ok (.istore_n 1, 1) := by decide +kernel
theorem dM_read_41 : decode cM_read 41 = .ok (.iload_n 1, 1) := by decide +kernel
theorem dM_read_42 : decode cM_read 42 = .ok (.ifCond .eq 69, 3) := by decide +kernel
theorem dM_read_45 : decode cM_read 45 = .ok (.aload_n 0, 1) := by decide +kernel
theorem dM_read_46 : decode cM_read 46 = .ok (.invokevirtual 169, 3) := by decide +kernel
theorem dM_read_49 : decode cM_read 49 = .ok (.aload_n 0, 1) := by decide +kernel
theorem dM_read_50 : decode cM_read 50 = .ok (.getfield 123, 3) := by decide +kernel
theorem dM_read_53 : decode cM_read 53 = .ok (.bipush 6, 2) := by decide +kernel
theorem dM_read_55 : decode cM_read 55 = .ok (.if_icmp .ne 20, 3) := by decide +kernel
theorem dM_read_58 : decode cM_read 58 = .ok (.aload_n 0, 1) := by decide +kernel
theorem dM_read_59 : decode cM_read 59 = .ok (.bipush 6, 2) := by decide +kernel
theorem dM_read_61 : decode cM_read 61 = .ok (.iconst 0, 1) := by decide +kernel
theorem dM_read_62 : decode cM_read 62 = .ok (.invokevirtual 157, 3) := by decide +kernel
theorem dM_read_65 : decode cM_read 65 = .ok (.aload_n 0, 1) := by decide +kernel
theorem dM_read_66 : decode cM_read 66 = .ok (.iconst 0, 1) := by decide +kernel
theorem dM_read_67 : decode cM_read 67 = .ok (.putfield 54, 3) := by decide +kernel
theorem dM_read_70 : decode cM_read 70 = .ok (.aload_n 0, 1) := by decide +kernel
theorem dM_read_71 : decode cM_read 71 = .ok (.getfield 81, 3) := by decide +kernel
theorem dM_read_74 : decode cM_read 74 = .ok (.ireturn, 1) := by decide +kernel
theorem dM_read_75 : decode cM_read 75 = .ok (.aload_n 0, 1) := by decide +kernel
theorem dM_read_76 : decode cM_read 76 = .ok (.invokevirtual 172, 3) := by decide +kernel
theorem dM_read_79 : decode cM_read 79 = .ok (.aload_n 0, 1) := by decide +kernel
theorem dM_read_80 : decode cM_read 80 = .ok (.aload_n 0, 1) := by decide +kernel
theorem dM_read_81 : decode cM_read 81 = .ok (.getfield 120, 3) := by decide +kernel
theorem dM_read_84 : decode cM_read 84 = .ok (.putfield 71, 3) := by decide +kernel
theorem dM_read_87 : decode cM_read 87 = .ok (.aload_n 0, 1) := by decide +kernel
theorem dM_read_88 : decode cM_read 88 = .ok (.invokevirtual 166, 3) := by decide +kernel
theorem dM_read_91 : decode cM_read 91 = .ok (.aload_n 0, 1) := by decide +kernel
theorem dM_read_92 : decode cM_read 92 = .ok (.getfield 71, 3) := by decide +kernel
theorem dM_read_95 : decode cM_read 95 = .ok (.aload_n 0, 1) := by decide +kernel
theorem dM_read_96 : decode cM_read 96 = .ok (.getfield 54, 3) := by decide +kernel
theorem dM_read_99 : decode cM_read 99 = .ok (.if_icmp .ge 7, 3) := by decide +kernel
theorem dM_read_102 : decode cM_read 102 = .ok (.iconst 1, 1) := by decide +kernel
theorem dM_read_103 : decode cM_read 103 = .ok (.goto 4, 3) := by decide +kernel
theorem dM_read_106 : decode cM_read 106 = .ok (.iconst 0, 1) := by decide +kernel
theorem dM_read_107 : decode cM_read 107 = .ok (.istore_n 1, 1) := by decide +kernel
theorem dM_read_108 : decode cM_read 108 = .ok (.goto (-67), 3) := by decide +kernel
theorem dM_read_111 : decode cM_read 111 = .ok (.aload_n 0, 1) := by decide +kernel
theorem dM_read_112 : decode cM_read 112 = .ok (.iconst 5, 1) := by decide +kernel
theorem dM_read_113 : decode cM_read 113 = .ok (.iconst 0, 1) := by decide +kernel
theorem dM_read_114 : decode cM_read 114 = .ok (.invokevirtual 157, 3) := by decide +kernel
theorem dM_read_117 : decode cM_read 117 = .ok (.aload_n 0, 1) := by decide +kernel
theorem dM_read_118 : decode cM_read 118 = .ok (.iconst 0, 1) := by decide +kernel
theorem dM_read_119 : decode cM_read 119 = .ok (.putfield 54, 3) := by decide +kernel
theorem dM_read_122 : decode cM_read 122 = .ok (.aload_n 0, 1) := by decide +kernel
theorem dM_read_123 : decode cM_read 123 = .ok (.getfield 81, 3) := by decide +kernel
theorem dM_read_126 : decode cM_read 126 = .ok (.ireturn, 1) := by decide +kernel
theorem dM_skip_0 : decode cM_skip 0 = .ok (.iconst 1, 1) := by decide +kernel
theorem dM_skip_1 : decode cM_skip 1 = .ok (.istore_n 1, 1) := by decide +kernel
theorem dM_skip_2 : decode cM_skip 2 = .ok (.iload_n 1, 1) := by decide +kernel
theorem dM_skip_3 : decode cM_skip 3 = .ok (.ifCond .eq 158, 3) := by decide +kernel
theorem dM_skip_6 : decode cM_skip 6 = .ok (.aload_n 0, 1) := by decide +kernel
theorem dM_skip_7 : decode cM_skip 7 = .ok (.aload_n 0, 1) := by decide +kernel
theorem dM_skip_8 : decode cM_skip 8 = .ok (.getfield 71, 3) := by decide +kernel
theorem dM_skip_11 : decode cM_skip 11 = .ok (.invokevirtual 74, 3) := by decide +kernel
theorem dM_skip_14 : decode cM_skip 14 = .ok (.istore_n 2, 1) := by decide +kernel
theorem dM_skip_15 : decode cM_skip 15 = .ok (.iload_n 2, 1) := by decide +kernel
theorem dM_skip_16 : decode cM_skip 16 = .ok (.bipush 47, 2) := by decide +kernel
theorem dM_skip_18 : decode cM_skip 18 = .ok (.if_icmp .ne 22, 3) := by decide +kernel
theorem dM_skip_21 : decode cM_skip 21 = .ok (.aload_n 0, 1) := by decide +kernel
theorem dM_skip_22 : decode cM_skip 22 = .ok (.aload_n 0, 1) := by decide +kernel
theorem dM_skip_23 : decode cM_skip 23 = .ok (.getfield 71, 3) := by decide +kernel
theorem dM_skip_26 : decode cM_skip 26 = .ok (.iconst 1, 1) := by decide +kernel
theorem dM_skip_27 : decode cM_skip 27 = .ok (.iadd, 1) := by decide +kernel
theorem dM_skip_28 : decode cM_skip 28 = .ok (.invokevirtual 74, 3) := by decide +kernel
theorem dM_skip_31 : decode cM_skip 31 = .ok (.bipush 47, 2) := by decide +kernel
theorem dM_skip_33 : decode cM_skip 33 = .ok (.if_icmp .ne 7, 3) := by decide +kernel
theorem dM_skip_36 : decode cM_skip 36 = .ok (.iconst 1, 1) := by decide +kernel
theorem dM_skip_37 : decode cM_skip 37 = .ok (.goto 4, 3) := by decide +kernel
theorem dM_skip_40 : decode cM_skip 40 = .ok (.iconst 0, 1) := by decide +kernel
theorem dM_skip_41 : decode cM_skip 41 = .ok (.istore_n 3, 1) := by decide +kernel
theorem dM_skip_42 : decode cM_skip 42 = .ok (.iload_n 3, 1) := by decide +kernel
theorem dM_skip_43 : decode cM_skip 43 = .ok (.ifCond .eq 40, 3) := by decide +kernel
theorem dM_skip_46 : decode cM_skip 46 = .ok (.aload_n 0, 1) := by decide +kernel
theorem dM_skip_47 : decode cM_skip 47 = .ok (.getfield 71, 3) := by decide +kernel
theorem dM_skip_50 : decode cM_skip 50 = .ok (.aload_n 0, 1) := by decide +kernel
theorem dM_skip_51 : decode cM_skip 51 = .ok (.getfield 54, 3) := by decide +kernel
theorem dM_skip_54 : decode cM_skip 54 = .ok (.if_icmp .ge 29, 3) := by decide +kernel
theorem dM_skip_57 : decode cM_skip 57 = .ok (.aload_n 0, 1) := by decide +kernel
theorem dM_skip_58 : decode cM_skip 58 = .ok (.aload_n 0, 1) := by decide +kernel
theorem dM_skip_59 : decode cM_skip 59 = .ok (.getfield 71, 3) := by decide +kernel
theorem dM_skip_62 : decode cM_skip 62 = .ok (.invokevirtual 74, 3) := by decide +kernel
theorem dM_skip_65 : decode cM_skip 65 = .ok (.bipush 10, 2) := by decide +kernel
theorem dM_skip_67 : decode cM_skip 67 = .ok (.if_icmp .eq 16, 3) := by decide +kernel
theorem dM_skip_70 : decode cM_skip 70 = .ok (.aload_n 0, 1) := by decide +kernel
theorem dM_skip_71 : decode cM_skip 71 = .ok (.dup, 1) := by decide +kernel
theorem dM_skip_72 : decode cM_skip 72 = .ok (.getfield 71, 3) := by decide +kernel
theorem dM_skip_75 : decode cM_skip 75 = .ok (.iconst 1, 1) := by decide +kernel
theorem dM_skip_76 : decode cM_skip 76 = .ok (.iadd, 1) := by decide +kernel
theorem dM_skip_77 : decode cM_skip 77 = .ok (.putfield 71, 3) := by decide +kernel
theorem dM_skip_80 : decode cM_skip 80 = .ok (.goto (-38), 3) := by decide +kernel
theorem dM_skip_83 : decode cM_skip 83 = .ok (.iload_n 3, 1) := by decide +kernel
theorem dM_skip_84 : decode cM_skip 84 = .ok (.ifCond .ne 27, 3) := by decide +kernel
theorem dM_skip_87 : decode cM_skip 87 = .ok (.iload_n 2, 1) := by decide +kernel
theorem dM_skip_88 : decode cM_skip 88 = .ok (.bipush 9, 2) := by decide +kernel
theorem dM_skip_90 : decode cM_skip 90 = .ok (.if_icmp .eq 21, 3) := by decide +kernel
theorem dM_skip_93 : decode cM_skip 93 = .ok (.iload_n 2, 1) := by decide +kernel
theorem dM_skip_94 : decode cM_skip 94 = .ok (.bipush 10, 2) := by decide +kernel
theorem dM_skip_96 : decode cM_skip 96 = .ok (.if_icmp .eq 15, 3) := by decide +kernel
theorem dM_skip_99 : decode cM_skip 99 = .ok (.iload_n 2, 1) := by decide +kernel
theorem dM_skip_100 : decode cM_skip 100 = .ok (.bipush 13, 2) := by decide +kernel
theorem dM_skip_102 : decode cM_skip 102 = .ok (.if_icmp .eq 9, 3) := by decide +kernel
theorem dM_skip_105 : decode cM_skip 105 = .ok (.iload_n 2, 1) := by decide +kernel
theorem dM_skip_106 : decode cM_skip 106 = .ok (.bipush 32, 2) := by decide +kernel
theorem dM_skip_108 : decode cM_skip 108 = .ok (.if_icmp .ne 7, 3) := by decide +kernel
theorem dM_skip_111 : decode cM_skip 111 = .ok (.iconst 1, 1) := by decide +kernel
theorem dM_skip_112 : decode cM_skip 112 = .ok (.goto 4, 3) := by decide +kernel
theorem dM_skip_115 : decode cM_skip 115 = .ok (.iconst 0, 1) := by decide +kernel
theorem dM_skip_116 : decode cM_skip 116 = .ok (.istore_n 1, 1) := by decide +kernel
theorem dM_skip_117 : decode cM_skip 117 = .ok (.iload_n 1, 1) := by decide +kernel
theorem dM_skip_118 : decode cM_skip 118 = .ok (.ifCond .eq (-116), 3) := by decide +kernel
theorem dM_skip_121 : decode cM_skip 121 = .ok (.iload_n 3, 1) := by decide +kernel
theorem dM_skip_122 : decode cM_skip 122 = .ok (.ifCond .eq 6, 3) := by decide +kernel
theorem dM_skip_125 : decode cM_skip 125 = .ok (.goto (-123), 3) := by decide +kernel
theorem dM_skip_128 : decode cM_skip 128 = .ok (.aload_n 0, 1) := by decide +kernel
theorem dM_skip_129 : decode cM_skip 129 = .ok (.dup, 1) := by decide +kernel
theorem dM_skip_130 : decode cM_skip 130 = .ok (.getfield 78, 3) := by decide +kernel
theorem dM_skip_133 : decode cM_skip 133 = .ok (.iload_n 2, 1) := by decide +kernel
theorem dM_skip_134 : decode cM_skip 134 = .ok (.bipush 10, 2) := by decide +kernel
theorem dM_skip_136 : decode cM_skip 136 = .ok (.if_icmp .ne 7, 3) := by decide +kernel
theorem dM_skip_139 : decode cM_skip 139 = .ok (.iconst 1, 1) := by decide +kernel
theorem dM_skip_140 : decode cM_skip 140 = .ok (.goto 4, 3) := by decide +kernel
theorem dM_skip_143 : decode cM_skip 143 = .ok (.iconst 0, 1) := by decide +kernel
theorem dM_skip_144 : decode cM_skip 144 = .ok (.iadd, 1) := by decide +kernel
theorem dM_skip_145 : decode cM_skip 145 = .ok (.putfield 78, 3) := by decide +kernel
theorem dM_skip_148 : decode cM_skip 148 = .ok (.aload_n 0, 1) := by decide +kernel
theorem dM_skip_149 : decode cM_skip 149 = .ok (.dup, 1) := by decide +kernel
theorem dM_skip_150 : decode cM_skip 150 = .ok (.getfield 71, 3) := by decide +kernel
theorem dM_skip_153 : decode cM_skip 153 = .ok (.iconst 1, 1) := by decide +kernel
theorem dM_skip_154 : decode cM_skip 154 = .ok (.iadd, 1) := by decide +kernel
theorem dM_skip_155 : decode cM_skip 155 = .ok (.putfield 71, 3) := by decide +kernel
theorem dM_skip_158 : decode cM_skip 158 = .ok (.goto (-156), 3) := by decide +kernel
theorem dM_skip_161 : decode cM_skip 161 = .ok (.return_, 1) := by decide +kernel
theorem dM_see_0 : decode cM_see 0 = .ok (.iload_n 1, 1) := by decide +kernel
theorem dM_see_1 : decode cM_see 1 = .ok (.aload_n 0, 1) := by decide +kernel
theorem dM_see_2 : decode cM_see 2 = .ok (.getfield 54, 3) := by decide +kernel
theorem dM_see_5 : decode cM_see 5 = .ok (.if_icmp .ge 12, 3) := by decide +kernel
theorem dM_see_8 : decode cM_see 8 = .ok (.aload_n 0, 1) := by decide +kernel
theorem dM_see_9 : decode cM_see 9 = .ok (.getfield 7, 3) := by decide +kernel
theorem dM_see_12 : decode cM_see 12 = .ok (.iload_n 1, 1) := by decide +kernel
theorem dM_see_13 : decode cM_see 13 = .ok (.iaload, 1) := by decide +kernel
theorem dM_see_14 : decode cM_see 14 = .ok (.goto 4, 3) := by decide +kernel
theorem dM_see_17 : decode cM_see 17 = .ok (.iconst (-1), 1) := by decide +kernel
theorem dM_see_18 : decode cM_see 18 = .ok (.ireturn, 1) := by decide +kernel
theorem dM_readToken_0 : decode cM_readToken 0 = .ok (.aload_n 0, 1) := by decide +kernel
theorem dM_readToken_1 : decode cM_readToken 1 = .ok (.aload_n 0, 1) := by decide +kernel
theorem dM_readToken_2 : decode cM_readToken 2 = .ok (.getfield 71, 3) := by decide +kernel
theorem dM_readToken_5 : decode cM_readToken 5 = .ok (.invokevirtual 74, 3) := by decide +kernel
theorem dM_readToken_8 : decode cM_readToken 8 = .ok (.istore_n 1, 1) := by decide +kernel
theorem dM_readToken_9 : decode cM_readToken 9 = .ok (.aload_n 0, 1) := by decide +kernel
theorem dM_readToken_10 : decode cM_readToken 10 = .ok (.iconst 0, 1) := by decide +kernel
theorem dM_readToken_11 : decode cM_readToken 11 = .ok (.putfield 131, 3) := by decide +kernel
theorem dM_readToken_14 : decode cM_readToken 14 = .ok (.iload_n 1, 1) := by decide +kernel
theorem dM_readToken_15 : decode cM_readToken 15 = .ok (.invokestatic 65, 3) := by decide +kernel
theorem dM_readToken_18 : decode cM_readToken 18 = .ok (.ifCond .eq 10, 3) := by decide +kernel
theorem dM_readToken_21 : decode cM_readToken 21 = .ok (.aload_n 0, 1) := by decide +kernel
theorem dM_readToken_22 : decode cM_readToken 22 = .ok (.invokevirtual 141, 3) := by decide +kernel
theorem dM_readToken_25 : decode cM_readToken 25 = .ok (.goto 110, 3) := by decide +kernel
theorem dM_readToken_28 : decode cM_readToken 28 = .ok (.iload_n 1, 1) := by decide +kernel
theorem dM_readToken_29 : decode cM_readToken 29 = .ok (.invokestatic 68, 3) := by decide +kernel
theorem dM_readToken_32 : decode cM_readToken 32 = .ok (.ifCond .eq 16, 3) := by decide +kernel
theorem dM_readToken_35 : decode cM_readToken 35 = .ok (.aload_n 0, 1) := by decide +kernel
theorem dM_readToken_36 : decode cM_readToken 36 = .ok (.aload_n 0, 1) := by decide +kernel
theorem dM_readToken_37 : decode cM_readToken 37 = .ok (.getfield 71, 3) := by decide +kernel
theorem dM_readToken_40 : decode cM_readToken 40 = .ok (.bipush 10, 2) := by decide +kernel
theorem dM_readToken_42 : decode cM_readToken 42 = .ok (.invokevirtual 144, 3) := by decide +kernel
theorem dM_readToken_45 : decode cM_readToken 45 = .ok (.goto 90, 3) := by decide +kernel
theorem dM_readToken_48 : decode cM_readToken 48 = .ok (.iload_n 1, 1) := by decide +kernel
theorem dM_readToken_49 : decode cM_readToken 49 = .ok (.bipush 35, 2) := by decide +kernel
theorem dM_readToken_51 : decode cM_readToken 51 = .ok (.if_icmp .ne 33, 3) := by decide +kernel
theorem dM_readToken_54 : decode cM_readToken 54 = .ok (.aload_n 0, 1) := by decide +kernel
theorem dM_readToken_55 : decode cM_readToken 55 = .ok (.aload_n 0, 1) := by decide +kernel
theorem dM_readToken_56 : decode cM_readToken 56 = .ok (.getfield 71, 3) := by decide +kernel
theorem dM_readToken_59 : decode cM_readToken 59 = .ok (.iconst 1, 1) := by decide +kernel
theorem dM_readToken_60 : decode cM_readToken 60 = .ok (.iadd, 1) := by decide +kernel
theorem dM_readToken_61 : decode cM_readToken 61 = .ok (.invokevirtual 74, 3) := by decide +kernel
theorem dM_readToken_64 : decode cM_readToken 64 = .ok (.bipush 88, 2) := by decide +kernel
theorem dM_readToken_66 : decode cM_readToken 66 = .ok (.if_icmp .ne 18, 3) := by decide +kernel
theorem dM_readToken_69 : decode cM_readToken 69 = .ok (.aload_n 0, 1) := by decide +kernel
theorem dM_readToken_70 : decode cM_readToken 70 = .ok (.aload_n 0, 1) := by decide +kernel
theorem dM_readToken_71 : decode cM_readToken 71 = .ok (.getfield 71, 3) := by decide +kernel
theorem dM_readToken_74 : decode cM_readToken 74 = .ok (.iconst 2, 1) := by decide +kernel
theorem dM_readToken_75 : decode cM_readToken 75 = .ok (.iadd, 1) := by decide +kernel
theorem dM_readToken_76 : decode cM_readToken 76 = .ok (.bipush 16, 2) := by decide +kernel
theorem dM_readToken_78 : decode cM_readToken 78 = .ok (.invokevirtual 144, 3) := by decide +kernel
theorem dM_readToken_81 : decode cM_readToken 81 = .ok (.goto 54, 3) := by decide +kernel
theorem dM_readToken_84 : decode cM_readToken 84 = .ok (.iload_n 1, 1) := by decide +kernel
theorem dM_readToken_85 : decode cM_readToken 85 = .ok (.bipush 35, 2) := by decide +kernel
theorem dM_readToken_87 : decode cM_readToken 87 = .ok (.if_icmp .ne 18, 3) := by decide +kernel
theorem dM_readToken_90 : decode cM_readToken 90 = .ok (.aload_n 0, 1) := by decide +kernel
theorem dM_readToken_91 : decode cM_readToken 91 = .ok (.aload_n 0, 1) := by decide +kernel
theorem dM_readToken_92 : decode cM_readToken 92 = .ok (.getfield 71, 3) := by decide +kernel
theorem dM_readToken_95 : decode cM_readToken 95 = .ok (.iconst 1, 1) := by decide +kernel
theorem dM_readToken_96 : decode cM_readToken 96 = .ok (.iadd, 1) := by decide +kernel
theorem dM_readToken_97 : decode cM_readToken 97 = .ok (.bipush 8, 2) := by decide +kernel
theorem dM_readToken_99 : decode cM_readToken 99 = .ok (.invokevirtual 144, 3) := by decide +kernel
theorem dM_readToken_102 : decode cM_readToken 102 = .ok (.goto 33, 3) := by decide +kernel
theorem dM_readToken_105 : decode cM_readToken 105 = .ok (.iload_n 1, 1) := by decide +kernel
theorem dM_readToken_106 : decode cM_readToken 106 = .ok (.bipush 39, 2) := by decide +kernel
theorem dM_readToken_108 : decode cM_readToken 108 = .ok (.if_icmp .ne 10, 3) := by decide +kernel
theorem dM_readToken_111 : decode cM_readToken 111 = .ok (.aload_n 0, 1) := by decide +kernel
theorem dM_readToken_112 : decode cM_readToken 112 = .ok (.invokevirtual 148, 3) := by decide +kernel
theorem dM_readToken_115 : decode cM_readToken 115 = .ok (.goto 20, 3) := by decide +kernel
theorem dM_readToken_118 : decode cM_readToken 118 = .ok (.iload_n 1, 1) := by decide +kernel
theorem dM_readToken_119 : decode cM_readToken 119 = .ok (.bipush 34, 2) := by decide +kernel
theorem dM_readToken_121 : decode cM_readToken 121 = .ok (.if_icmp .ne 10, 3) := by decide +kernel
theorem dM_readToken_124 : decode cM_readToken 124 = .ok (.aload_n 0, 1) := by decide +kernel
theorem dM_readToken_125 : decode cM_readToken 125 = .ok (.invokevirtual 151, 3) := by decide +kernel
theorem dM_readToken_128 : decode cM_readToken 128 = .ok (.goto 7, 3) := by decide +kernel
theorem dM_readToken_131 : decode cM_readToken 131 = .ok (.aload_n 0, 1) := by decide +kernel
theorem dM_readToken_132 : decode cM_readToken 132 = .ok (.invokevirtual 154, 3) := by decide +kernel
theorem dM_readToken_135 : decode cM_readToken 135 = .ok (.return_, 1) := by decide +kernel
theorem dM_isLetter_0 : decode cM_isLetter 0 = .ok (.iload_n 0, 1) := by decide +kernel
theorem dM_isLetter_1 : decode cM_isLetter 1 = .ok (.invokestatic 61, 3) := by decide +kernel
theorem dM_isLetter_4 : decode cM_isLetter 4 = .ok (.ifCond .ne 15, 3) := by decide +kernel
theorem dM_isLetter_7 : decode cM_isLetter 7 = .ok (.iload_n 0, 1) := by decide +kernel
theorem dM_isLetter_8 : decode cM_isLetter 8 = .ok (.bipush 97, 2) := by decide +kernel
theorem dM_isLetter_10 : decode cM_isLetter 10 = .ok (.if_icmp .lt 13, 3) := by decide +kernel
theorem dM_isLetter_13 : decode cM_isLetter 13 = .ok (.iload_n 0, 1) := by decide +kernel
theorem dM_isLetter_14 : decode cM_isLetter 14 = .ok (.bipush 122, 2) := by decide +kernel
theorem dM_isLetter_16 : decode cM_isLetter 16 = .ok (.if_icmp .gt 7, 3) := by decide +kernel
theorem dM_isLetter_19 : decode cM_isLetter 19 = .ok (.iconst 1, 1) := by decide +kernel
theorem dM_isLetter_20 : decode cM_isLetter 20 = .ok (.goto 4, 3) := by decide +kernel
theorem dM_isLetter_23 : decode cM_isLetter 23 = .ok (.iconst 0, 1) := by decide +kernel
theorem dM_isLetter_24 : decode cM_isLetter 24 = .ok (.ireturn, 1) := by decide +kernel
theorem dM_isGreat_0 : decode cM_isGreat 0 = .ok (.iload_n 0, 1) := by decide +kernel
theorem dM_isGreat_1 : decode cM_isGreat 1 = .ok (.bipush 65, 2) := by decide +kernel
theorem dM_isGreat_3 : decode cM_isGreat 3 = .ok (.if_icmp .lt 13, 3) := by decide +kernel
theorem dM_isGreat_6 : decode cM_isGreat 6 = .ok (.iload_n 0, 1) := by decide +kernel
theorem dM_isGreat_7 : decode cM_isGreat 7 = .ok (.bipush 90, 2) := by decide +kernel
theorem dM_isGreat_9 : decode cM_isGreat 9 = .ok (.if_icmp .gt 7, 3) := by decide +kernel
theorem dM_isGreat_12 : decode cM_isGreat 12 = .ok (.iconst 1, 1) := by decide +kernel
theorem dM_isGreat_13 : decode cM_isGreat 13 = .ok (.goto 4, 3) := by decide +kernel
theorem dM_isGreat_16 : decode cM_isGreat 16 = .ok (.iconst 0, 1) := by decide +kernel
theorem dM_isGreat_17 : decode cM_isGreat 17 = .ok (.ireturn, 1) := by decide +kernel
theorem dM_readName_0 : decode cM_readName 0 = .ok (.aload_n 0, 1) := by decide +kernel
theorem dM_readName_1 : decode cM_readName 1 = .ok (.getfield 71, 3) := by decide +kernel
theorem dM_readName_4 : decode cM_readName 4 = .ok (.istore_n 1, 1) := by decide +kernel
theorem dM_readName_5 : decode cM_readName 5 = .ok (.aload_n 0, 1) := by decide +kernel
theorem dM_readName_6 : decode cM_readName 6 = .ok (.iload_n 1, 1) := by decide +kernel
theorem dM_readName_7 : decode cM_readName 7 = .ok (.invokevirtual 74, 3) := by decide +kernel
theorem dM_readName_10 : decode cM_readName 10 = .ok (.invokestatic 117, 3) := by decide +kernel
theorem dM_readName_13 : decode cM_readName 13 = .ok (.ifCond .eq 9, 3) := by decide +kernel
theorem dM_readName_16 : decode cM_readName 16 = .ok (.iinc 1 1, 3) := by decide +kernel
theorem dM_readName_19 : decode cM_readName 19 = .ok (.goto (-14), 3) := by decide +kernel
theorem dM_readName_22 : decode cM_readName 22 = .ok (.aload_n 0, 1) := by decide +kernel
theorem dM_readName_23 : decode cM_readName 23 = .ok (.iload_n 1, 1) := by decide +kernel
theorem dM_readName_24 : decode cM_readName 24 = .ok (.putfield 120, 3) := by decide +kernel
theorem dM_readName_27 : decode cM_readName 27 = .ok (.aload_n 0, 1) := by decide +kernel
theorem dM_readName_28 : decode cM_readName 28 = .ok (.iload_n 1, 1) := by decide +kernel
theorem dM_readName_29 : decode cM_readName 29 = .ok (.aload_n 0, 1) := by decide +kernel
theorem dM_readName_30 : decode cM_readName 30 = .ok (.getfield 71, 3) := by decide +kernel
theorem dM_readName_33 : decode cM_readName 33 = .ok (.isub, 1) := by decide +kernel
theorem dM_readName_34 : decode cM_readName 34 = .ok (.bipush 40, 2) := by decide +kernel
theorem dM_readName_36 : decode cM_readName 36 = .ok (.if_icmp .le 8, 3) := by decide +kernel
theorem dM_readName_39 : decode cM_readName 39 = .ok (.bipush 6, 2) := by decide +kernel
theorem dM_readName_41 : decode cM_readName 41 = .ok (.goto 4, 3) := by decide +kernel
theorem dM_readName_44 : decode cM_readName 44 = .ok (.iconst 0, 1) := by decide +kernel
theorem dM_readName_45 : decode cM_readName 45 = .ok (.putfield 123, 3) := by decide +kernel
theorem dM_readName_48 : decode cM_readName 48 = .ok (.return_, 1) := by decide +kernel
theorem dM_isNamed_0 : decode cM_isNamed 0 = .ok (.iload_n 0, 1) := by decide +kernel
theorem dM_isNamed_1 : decode cM_isNamed 1 = .ok (.invokestatic 65, 3) := by decide +kernel
theorem dM_isNamed_4 : decode cM_isNamed 4 = .ok (.ifCond .ne 22, 3) := by decide +kernel
theorem dM_isNamed_7 : decode cM_isNamed 7 = .ok (.iload_n 0, 1) := by decide +kernel
theorem dM_isNamed_8 : decode cM_isNamed 8 = .ok (.invokestatic 68, 3) := by decide +kernel
theorem dM_isNamed_11 : decode cM_isNamed 11 = .ok (.ifCond .ne 15, 3) := by decide +kernel
theorem dM_isNamed_14 : decode cM_isNamed 14 = .ok (.iload_n 0, 1) := by decide +kernel
theorem dM_isNamed_15 : decode cM_isNamed 15 = .ok (.bipush 46, 2) := by decide +kernel
theorem dM_isNamed_17 : decode cM_isNamed 17 = .ok (.if_icmp .eq 9, 3) := by decide +kernel
theorem dM_isNamed_20 : decode cM_isNamed 20 = .ok (.iload_n 0, 1) := by decide +kernel
theorem dM_isNamed_21 : decode cM_isNamed 21 = .ok (.bipush 95, 2) := by decide +kernel
theorem dM_isNamed_23 : decode cM_isNamed 23 = .ok (.if_icmp .ne 7, 3) := by decide +kernel
theorem dM_isNamed_26 : decode cM_isNamed 26 = .ok (.iconst 1, 1) := by decide +kernel
theorem dM_isNamed_27 : decode cM_isNamed 27 = .ok (.goto 4, 3) := by decide +kernel
theorem dM_isNamed_30 : decode cM_isNamed 30 = .ok (.iconst 0, 1) := by decide +kernel
theorem dM_isNamed_31 : decode cM_isNamed 31 = .ok (.ireturn, 1) := by decide +kernel
theorem dM_isDigit_0 : decode cM_isDigit 0 = .ok (.iload_n 0, 1) := by decide +kernel
theorem dM_isDigit_1 : decode cM_isDigit 1 = .ok (.bipush 48, 2) := by decide +kernel
theorem dM_isDigit_3 : decode cM_isDigit 3 = .ok (.if_icmp .lt 13, 3) := by decide +kernel
theorem dM_isDigit_6 : decode cM_isDigit 6 = .ok (.iload_n 0, 1) := by decide +kernel
theorem dM_isDigit_7 : decode cM_isDigit 7 = .ok (.bipush 57, 2) := by decide +kernel
theorem dM_isDigit_9 : decode cM_isDigit 9 = .ok (.if_icmp .gt 7, 3) := by decide +kernel
theorem dM_isDigit_12 : decode cM_isDigit 12 = .ok (.iconst 1, 1) := by decide +kernel
theorem dM_isDigit_13 : decode cM_isDigit 13 = .ok (.goto 4, 3) := by decide +kernel
theorem dM_isDigit_16 : decode cM_isDigit 16 = .ok (.iconst 0, 1) := by decide +kernel
theorem dM_isDigit_17 : decode cM_isDigit 17 = .ok (.ireturn, 1) := by decide +kernel
theorem dM_readDigits_0 : decode cM_readDigits 0 = .ok (.lconst 0, 1) := by decide +kernel
theorem dM_readDigits_1 : decode cM_readDigits 1 = .ok (.lstore_n 3, 1) := by decide +kernel
theorem dM_readDigits_2 : decode cM_readDigits 2 = .ok (.iload_n 1, 1) := by decide +kernel
theorem dM_readDigits_3 : decode cM_readDigits 3 = .ok (.istore 5, 2) := by decide +kernel
theorem dM_readDigits_5 : decode cM_readDigits 5 = .ok (.aload_n 0, 1) := by decide +kernel
theorem dM_readDigits_6 : decode cM_readDigits 6 = .ok (.iload 5, 2) := by decide +kernel
theorem dM_readDigits_8 : decode cM_readDigits 8 = .ok (.invokevirtual 74, 3) := by decide +kernel
theorem dM_readDigits_11 : decode cM_readDigits 11 = .ok (.invokestatic 126, 3) := by decide +kernel
theorem dM_readDigits_14 : decode cM_readDigits 14 = .ok (.istore 6, 2) := by decide +kernel
theorem dM_readDigits_16 : decode cM_readDigits 16 = .ok (.iload 6, 2) := by decide +kernel
theorem dM_readDigits_18 : decode cM_readDigits 18 = .ok (.iload_n 2, 1) := by decide +kernel
theorem dM_readDigits_19 : decode cM_readDigits 19 = .ok (.if_icmp .ge 41, 3) := by decide +kernel
theorem dM_readDigits_22 : decode cM_readDigits 22 = .ok (.lload_n 3, 1) := by decide +kernel
theorem dM_readDigits_23 : decode cM_readDigits 23 = .ok (.ldc2_w 129, 3) := by decide +kernel
theorem dM_readDigits_26 : decode cM_readDigits 26 = .ok (.lcmp, 1) := by decide +kernel
theorem dM_readDigits_27 : decode cM_readDigits 27 = .ok (.ifCond .lt 7, 3) := by decide +kernel
theorem dM_readDigits_30 : decode cM_readDigits 30 = .ok (.lload_n 3, 1) := by decide +kernel
theorem dM_readDigits_31 : decode cM_readDigits 31 = .ok (.goto 11, 3) := by decide +kernel
theorem dM_readDigits_34 : decode cM_readDigits 34 = .ok (.lload_n 3, 1) := by decide +kernel
theorem dM_readDigits_35 : decode cM_readDigits 35 = .ok (.iload_n 2, 1) := by decide +kernel
theorem dM_readDigits_36 : decode cM_readDigits 36 = .ok (.i2l, 1) := by decide +kernel
theorem dM_readDigits_37 : decode cM_readDigits 37 = .ok (.lmul, 1) := by decide +kernel
theorem dM_readDigits_38 : decode cM_readDigits 38 = .ok (.iload 6, 2) := by decide +kernel
theorem dM_readDigits_40 : decode cM_readDigits 40 = .ok (.i2l, 1) := by decide +kernel
theorem dM_readDigits_41 : decode cM_readDigits 41 = .ok (.ladd, 1) := by decide +kernel
theorem dM_readDigits_42 : decode cM_readDigits 42 = .ok (.lstore_n 3, 1) := by decide +kernel
theorem dM_readDigits_43 : decode cM_readDigits 43 = .ok (.iinc 5 1, 3) := by decide +kernel
theorem dM_readDigits_46 : decode cM_readDigits 46 = .ok (.aload_n 0, 1) := by decide +kernel
theorem dM_readDigits_47 : decode cM_readDigits 47 = .ok (.iload 5, 2) := by decide +kernel
theorem dM_readDigits_49 : decode cM_readDigits 49 = .ok (.invokevirtual 74, 3) := by decide +kernel
theorem dM_readDigits_52 : decode cM_readDigits 52 = .ok (.invokestatic 126, 3) := by decide +kernel
theorem dM_readDigits_55 : decode cM_readDigits 55 = .ok (.istore 6, 2) := by decide +kernel
theorem dM_readDigits_57 : decode cM_readDigits 57 = .ok (.goto (-41), 3) := by decide +kernel
theorem dM_readDigits_60 : decode cM_readDigits 60 = .ok (.aload_n 0, 1) := by decide +kernel
theorem dM_readDigits_61 : decode cM_readDigits 61 = .ok (.iload 5, 2) := by decide +kernel
theorem dM_readDigits_63 : decode cM_readDigits 63 = .ok (.iload_n 1, 1) := by decide +kernel
theorem dM_readDigits_64 : decode cM_readDigits 64 = .ok (.if_icmp .eq 11, 3) := by decide +kernel
theorem dM_readDigits_67 : decode cM_readDigits 67 = .ok (.lload_n 3, 1) := by decide +kernel
theorem dM_readDigits_68 : decode cM_readDigits 68 = .ok (.ldc2_w 129, 3) := by decide +kernel
theorem dM_readDigits_71 : decode cM_readDigits 71 = .ok (.lcmp, 1) := by decide +kernel
theorem dM_readDigits_72 : decode cM_readDigits 72 = .ok (.ifCond .lt 8, 3) := by decide +kernel
theorem dM_readDigits_75 : decode cM_readDigits 75 = .ok (.bipush 6, 2) := by decide +kernel
theorem dM_readDigits_77 : decode cM_readDigits 77 = .ok (.goto 4, 3) := by decide +kernel
theorem dM_readDigits_80 : decode cM_readDigits 80 = .ok (.iconst 1, 1) := by decide +kernel
theorem dM_readDigits_81 : decode cM_readDigits 81 = .ok (.putfield 123, 3) := by decide +kernel
theorem dM_readDigits_84 : decode cM_readDigits 84 = .ok (.aload_n 0, 1) := by decide +kernel
theorem dM_readDigits_85 : decode cM_readDigits 85 = .ok (.lload_n 3, 1) := by decide +kernel
theorem dM_readDigits_86 : decode cM_readDigits 86 = .ok (.l2i, 1) := by decide +kernel
theorem dM_readDigits_87 : decode cM_readDigits 87 = .ok (.putfield 131, 3) := by decide +kernel
theorem dM_readDigits_90 : decode cM_readDigits 90 = .ok (.aload_n 0, 1) := by decide +kernel
theorem dM_readDigits_91 : decode cM_readDigits 91 = .ok (.iload 5, 2) := by decide +kernel
theorem dM_readDigits_93 : decode cM_readDigits 93 = .ok (.putfield 120, 3) := by decide +kernel
theorem dM_readDigits_96 : decode cM_readDigits 96 = .ok (.return_, 1) := by decide +kernel
theorem dM_digit_0 : decode cM_digit 0 = .ok (.iload_n 0, 1) := by decide +kernel
theorem dM_digit_1 : decode cM_digit 1 = .ok (.invokestatic 68, 3) := by decide +kernel
theorem dM_digit_4 : decode cM_digit 4 = .ok (.ifCond .eq 10, 3) := by decide +kernel
theorem dM_digit_7 : decode cM_digit 7 = .ok (.iload_n 0, 1) := by decide +kernel
theorem dM_digit_8 : decode cM_digit 8 = .ok (.bipush 48, 2) := by decide +kernel
theorem dM_digit_10 : decode cM_digit 10 = .ok (.isub, 1) := by decide +kernel
theorem dM_digit_11 : decode cM_digit 11 = .ok (.goto 27, 3) := by decide +kernel
theorem dM_digit_14 : decode cM_digit 14 = .ok (.iload_n 0, 1) := by decide +kernel
theorem dM_digit_15 : decode cM_digit 15 = .ok (.bipush 65, 2) := by decide +kernel
theorem dM_digit_17 : decode cM_digit 17 = .ok (.if_icmp .lt 19, 3) := by decide +kernel
theorem dM_digit_20 : decode cM_digit 20 = .ok (.iload_n 0, 1) := by decide +kernel
theorem dM_digit_21 : decode cM_digit 21 = .ok (.bipush 70, 2) := by decide +kernel
theorem dM_digit_23 : decode cM_digit 23 = .ok (.if_icmp .gt 13, 3) := by decide +kernel
theorem dM_digit_26 : decode cM_digit 26 = .ok (.iload_n 0, 1) := by decide +kernel
theorem dM_digit_27 : decode cM_digit 27 = .ok (.bipush 65, 2) := by decide +kernel
theorem dM_digit_29 : decode cM_digit 29 = .ok (.isub, 1) := by decide +kernel
theorem dM_digit_30 : decode cM_digit 30 = .ok (.bipush 10, 2) := by decide +kernel
theorem dM_digit_32 : decode cM_digit 32 = .ok (.iadd, 1) := by decide +kernel
theorem dM_digit_33 : decode cM_digit 33 = .ok (.goto 5, 3) := by decide +kernel
theorem dM_digit_36 : decode cM_digit 36 = .ok (.bipush 99, 2) := by decide +kernel
theorem dM_digit_38 : decode cM_digit 38 = .ok (.ireturn, 1) := by decide +kernel
theorem dM_readByte_0 : decode cM_readByte 0 = .ok (.aload_n 0, 1) := by decide +kernel
theorem dM_readByte_1 : decode cM_readByte 1 = .ok (.aload_n 0, 1) := by decide +kernel
theorem dM_readByte_2 : decode cM_readByte 2 = .ok (.aload_n 0, 1) := by decide +kernel
theorem dM_readByte_3 : decode cM_readByte 3 = .ok (.getfield 71, 3) := by decide +kernel
theorem dM_readByte_6 : decode cM_readByte 6 = .ok (.iconst 1, 1) := by decide +kernel
theorem dM_readByte_7 : decode cM_readByte 7 = .ok (.iadd, 1) := by decide +kernel
theorem dM_readByte_8 : decode cM_readByte 8 = .ok (.bipush 39, 2) := by decide +kernel
theorem dM_readByte_10 : decode cM_readByte 10 = .ok (.invokevirtual 134, 3) := by decide +kernel
theorem dM_readByte_13 : decode cM_readByte 13 = .ok (.putfield 131, 3) := by decide +kernel
theorem dM_readByte_16 : decode cM_readByte 16 = .ok (.aload_n 0, 1) := by decide +kernel
theorem dM_readByte_17 : decode cM_readByte 17 = .ok (.aload_n 0, 1) := by decide +kernel
theorem dM_readByte_18 : decode cM_readByte 18 = .ok (.aload_n 0, 1) := by decide +kernel
theorem dM_readByte_19 : decode cM_readByte 19 = .ok (.getfield 71, 3) := by decide +kernel
theorem dM_readByte_22 : decode cM_readByte 22 = .ok (.iconst 1, 1) := by decide +kernel
theorem dM_readByte_23 : decode cM_readByte 23 = .ok (.iadd, 1) := by decide +kernel
theorem dM_readByte_24 : decode cM_readByte 24 = .ok (.invokevirtual 138, 3) := by decide +kernel
theorem dM_readByte_27 : decode cM_readByte 27 = .ok (.iconst 1, 1) := by decide +kernel
theorem dM_readByte_28 : decode cM_readByte 28 = .ok (.iadd, 1) := by decide +kernel
theorem dM_readByte_29 : decode cM_readByte 29 = .ok (.putfield 120, 3) := by decide +kernel
theorem dM_readByte_32 : decode cM_readByte 32 = .ok (.aload_n 0, 1) := by decide +kernel
theorem dM_readByte_33 : decode cM_readByte 33 = .ok (.aload_n 0, 1) := by decide +kernel
theorem dM_readByte_34 : decode cM_readByte 34 = .ok (.getfield 131, 3) := by decide +kernel
theorem dM_readByte_37 : decode cM_readByte 37 = .ok (.ifCond .lt 22, 3) := by decide +kernel
theorem dM_readByte_40 : decode cM_readByte 40 = .ok (.aload_n 0, 1) := by decide +kernel
theorem dM_readByte_41 : decode cM_readByte 41 = .ok (.aload_n 0, 1) := by decide +kernel
theorem dM_readByte_42 : decode cM_readByte 42 = .ok (.getfield 120, 3) := by decide +kernel
theorem dM_readByte_45 : decode cM_readByte 45 = .ok (.iconst 1, 1) := by decide +kernel
theorem dM_readByte_46 : decode cM_readByte 46 = .ok (.isub, 1) := by decide +kernel
theorem dM_readByte_47 : decode cM_readByte 47 = .ok (.invokevirtual 74, 3) := by decide +kernel
theorem dM_readByte_50 : decode cM_readByte 50 = .ok (.bipush 39, 2) := by decide +kernel
theorem dM_readByte_52 : decode cM_readByte 52 = .ok (.if_icmp .ne 7, 3) := by decide +kernel
theorem dM_readByte_55 : decode cM_readByte 55 = .ok (.iconst 1, 1) := by decide +kernel
theorem dM_readByte_56 : decode cM_readByte 56 = .ok (.goto 5, 3) := by decide +kernel
theorem dM_readByte_59 : decode cM_readByte 59 = .ok (.bipush 6, 2) := by decide +kernel
theorem dM_readByte_61 : decode cM_readByte 61 = .ok (.putfield 123, 3) := by decide +kernel
theorem dM_readByte_64 : decode cM_readByte 64 = .ok (.return_, 1) := by decide +kernel
theorem dM_meaning_0 : decode cM_meaning 0 = .ok (.aload_n 0, 1) := by decide +kernel
theorem dM_meaning_1 : decode cM_meaning 1 = .ok (.iload_n 1, 1) := by decide +kernel
theorem dM_meaning_2 : decode cM_meaning 2 = .ok (.invokevirtual 74, 3) := by decide +kernel
theorem dM_meaning_5 : decode cM_meaning 5 = .ok (.istore_n 3, 1) := by decide +kernel
theorem dM_meaning_6 : decode cM_meaning 6 = .ok (.iload_n 3, 1) := by decide +kernel
theorem dM_meaning_7 : decode cM_meaning 7 = .ok (.bipush 42, 2) := by decide +kernel
theorem dM_meaning_9 : decode cM_meaning 9 = .ok (.if_icmp .ne 76, 3) := by decide +kernel
theorem dM_meaning_12 : decode cM_meaning 12 = .ok (.aload_n 0, 1) := by decide +kernel
theorem dM_meaning_13 : decode cM_meaning 13 = .ok (.iload_n 1, 1) := by decide +kernel
theorem dM_meaning_14 : decode cM_meaning 14 = .ok (.iconst 1, 1) := by decide +kernel
theorem dM_meaning_15 : decode cM_meaning 15 = .ok (.iadd, 1) := by decide +kernel
theorem dM_meaning_16 : decode cM_meaning 16 = .ok (.invokevirtual 74, 3) := by decide +kernel
theorem dM_meaning_19 : decode cM_meaning 19 = .ok (.istore 4, 2) := by decide +kernel
theorem dM_meaning_21 : decode cM_meaning 21 = .ok (.iload 4, 2) := by decide +kernel
theorem dM_meaning_23 : decode cM_meaning 23 = .ok (.bipush 78, 2) := by decide +kernel
theorem dM_meaning_25 : decode cM_meaning 25 = .ok (.if_icmp .ne 8, 3) := by decide +kernel
theorem dM_meaning_28 : decode cM_meaning 28 = .ok (.bipush 10, 2) := by decide +kernel
theorem dM_meaning_30 : decode cM_meaning 30 = .ok (.goto 54, 3) := by decide +kernel
theorem dM_meaning_33 : decode cM_meaning 33 = .ok (.iload 4, 2) := by decide +kernel
theorem dM_meaning_35 : decode cM_meaning 35 = .ok (.bipush 83, 2) := by decide +kernel
theorem dM_meaning_37 : decode cM_meaning 37 = .ok (.if_icmp .ne 8, 3) := by decide +kernel
theorem dM_meaning_40 : decode cM_meaning 40 = .ok (.bipush 32, 2) := by decide +kernel
theorem dM_meaning_42 : decode cM_meaning 42 = .ok (.goto 42, 3) := by decide +kernel
theorem dM_meaning_45 : decode cM_meaning 45 = .ok (.iload 4, 2) := by decide +kernel
theorem dM_meaning_47 : decode cM_meaning 47 = .ok (.bipush 84, 2) := by decide +kernel
theorem dM_meaning_49 : decode cM_meaning 49 = .ok (.if_icmp .ne 8, 3) := by decide +kernel
theorem dM_meaning_52 : decode cM_meaning 52 = .ok (.bipush 9, 2) := by decide +kernel
theorem dM_meaning_54 : decode cM_meaning 54 = .ok (.goto 30, 3) := by decide +kernel
theorem dM_meaning_57 : decode cM_meaning 57 = .ok (.iload 4, 2) := by decide +kernel
theorem dM_meaning_59 : decode cM_meaning 59 = .ok (.bipush 39, 2) := by decide +kernel
theorem dM_meaning_61 : decode cM_meaning 61 = .ok (.if_icmp .eq 17, 3) := by decide +kernel
theorem dM_meaning_64 : decode cM_meaning 64 = .ok (.iload 4, 2) := by decide +kernel
theorem dM_meaning_66 : decode cM_meaning 66 = .ok (.bipush 34, 2) := by decide +kernel
theorem dM_meaning_68 : decode cM_meaning 68 = .ok (.if_icmp .eq 10, 3) := by decide +kernel
theorem dM_meaning_71 : decode cM_meaning 71 = .ok (.iload 4, 2) := by decide +kernel
theorem dM_meaning_73 : decode cM_meaning 73 = .ok (.bipush 42, 2) := by decide +kernel
theorem dM_meaning_75 : decode cM_meaning 75 = .ok (.if_icmp .ne 8, 3) := by decide +kernel
theorem dM_meaning_78 : decode cM_meaning 78 = .ok (.iload 4, 2) := by decide +kernel
theorem dM_meaning_80 : decode cM_meaning 80 = .ok (.goto 4, 3) := by decide +kernel
theorem dM_meaning_83 : decode cM_meaning 83 = .ok (.iconst (-1), 1) := by decide +kernel
theorem dM_meaning_84 : decode cM_meaning 84 = .ok (.ireturn, 1) := by decide +kernel
theorem dM_meaning_85 : decode cM_meaning 85 = .ok (.iload_n 3, 1) := by decide +kernel
theorem dM_meaning_86 : decode cM_meaning 86 = .ok (.bipush 32, 2) := by decide +kernel
theorem dM_meaning_88 : decode cM_meaning 88 = .ok (.if_icmp .lt 18, 3) := by decide +kernel
theorem dM_meaning_91 : decode cM_meaning 91 = .ok (.iload_n 3, 1) := by decide +kernel
theorem dM_meaning_92 : decode cM_meaning 92 = .ok (.bipush 126, 2) := by decide +kernel
theorem dM_meaning_94 : decode cM_meaning 94 = .ok (.if_icmp .gt 12, 3) := by decide +kernel
theorem dM_meaning_97 : decode cM_meaning 97 = .ok (.iload_n 3, 1) := by decide +kernel
theorem dM_meaning_98 : decode cM_meaning 98 = .ok (.iload_n 2, 1) := by decide +kernel
theorem dM_meaning_99 : decode cM_meaning 99 = .ok (.if_icmp .eq 7, 3) := by decide +kernel
theorem dM_meaning_102 : decode cM_meaning 102 = .ok (.iload_n 3, 1) := by decide +kernel
theorem dM_meaning_103 : decode cM_meaning 103 = .ok (.goto 4, 3) := by decide +kernel
theorem dM_meaning_106 : decode cM_meaning 106 = .ok (.iconst (-1), 1) := by decide +kernel
theorem dM_meaning_107 : decode cM_meaning 107 = .ok (.ireturn, 1) := by decide +kernel
theorem dM_next_0 : decode cM_next 0 = .ok (.aload_n 0, 1) := by decide +kernel
theorem dM_next_1 : decode cM_next 1 = .ok (.iload_n 1, 1) := by decide +kernel
theorem dM_next_2 : decode cM_next 2 = .ok (.invokevirtual 74, 3) := by decide +kernel
theorem dM_next_5 : decode cM_next 5 = .ok (.bipush 42, 2) := by decide +kernel
theorem dM_next_7 : decode cM_next 7 = .ok (.if_icmp .ne 9, 3) := by decide +kernel
theorem dM_next_10 : decode cM_next 10 = .ok (.iload_n 1, 1) := by decide +kernel
theorem dM_next_11 : decode cM_next 11 = .ok (.iconst 2, 1) := by decide +kernel
theorem dM_next_12 : decode cM_next 12 = .ok (.iadd, 1) := by decide +kernel
theorem dM_next_13 : decode cM_next 13 = .ok (.goto 6, 3) := by decide +kernel
theorem dM_next_16 : decode cM_next 16 = .ok (.iload_n 1, 1) := by decide +kernel
theorem dM_next_17 : decode cM_next 17 = .ok (.iconst 1, 1) := by decide +kernel
theorem dM_next_18 : decode cM_next 18 = .ok (.iadd, 1) := by decide +kernel
theorem dM_next_19 : decode cM_next 19 = .ok (.ireturn, 1) := by decide +kernel
theorem dM_readString_0 : decode cM_readString 0 = .ok (.aload_n 0, 1) := by decide +kernel
theorem dM_readString_1 : decode cM_readString 1 = .ok (.getfield 71, 3) := by decide +kernel
theorem dM_readString_4 : decode cM_readString 4 = .ok (.iconst 1, 1) := by decide +kernel
theorem dM_readString_5 : decode cM_readString 5 = .ok (.iadd, 1) := by decide +kernel
theorem dM_readString_6 : decode cM_readString 6 = .ok (.istore_n 1, 1) := by decide +kernel
theorem dM_readString_7 : decode cM_readString 7 = .ok (.iconst 0, 1) := by decide +kernel
theorem dM_readString_8 : decode cM_readString 8 = .ok (.istore_n 2, 1) := by decide +kernel
theorem dM_readString_9 : decode cM_readString 9 = .ok (.aload_n 0, 1) := by decide +kernel
theorem dM_readString_10 : decode cM_readString 10 = .ok (.iload_n 1, 1) := by decide +kernel
theorem dM_readString_11 : decode cM_readString 11 = .ok (.invokevirtual 74, 3) := by decide +kernel
theorem dM_readString_14 : decode cM_readString 14 = .ok (.bipush 34, 2) := by decide +kernel
theorem dM_readString_16 : decode cM_readString 16 = .ok (.if_icmp .eq 25, 3) := by decide +kernel
theorem dM_readString_19 : decode cM_readString 19 = .ok (.aload_n 0, 1) := by decide +kernel
theorem dM_readString_20 : decode cM_readString 20 = .ok (.iload_n 1, 1) := by decide +kernel
theorem dM_readString_21 : decode cM_readString 21 = .ok (.bipush 34, 2) := by decide +kernel
theorem dM_readString_23 : decode cM_readString 23 = .ok (.invokevirtual 134, 3) := by decide +kernel
theorem dM_readString_26 : decode cM_readString 26 = .ok (.ifCond .lt 15, 3) := by decide +kernel
theorem dM_readString_29 : decode cM_readString 29 = .ok (.aload_n 0, 1) := by decide +kernel
theorem dM_readString_30 : decode cM_readString 30 = .ok (.iload_n 1, 1) := by decide +kernel
theorem dM_readString_31 : decode cM_readString 31 = .ok (.invokevirtual 138, 3) := by decide +kernel
theorem dM_readString_34 : decode cM_readString 34 = .ok (.istore_n 1, 1) := by decide +kernel
theorem dM_readString_35 : decode cM_readString 35 = .ok (.iinc 2 1, 3) := by decide +kernel
theorem dM_readString_38 : decode cM_readString 38 = .ok (.goto (-29), 3) := by decide +kernel
theorem dM_readString_41 : decode cM_readString 41 = .ok (.aload_n 0, 1) := by decide +kernel
theorem dM_readString_42 : decode cM_readString 42 = .ok (.iload_n 1, 1) := by decide +kernel
theorem dM_readString_43 : decode cM_readString 43 = .ok (.iconst 1, 1) := by decide +kernel
theorem dM_readString_44 : decode cM_readString 44 = .ok (.iadd, 1) := by decide +kernel
theorem dM_readString_45 : decode cM_readString 45 = .ok (.putfield 120, 3) := by decide +kernel
theorem dM_readString_48 : decode cM_readString 48 = .ok (.aload_n 0, 1) := by decide +kernel
theorem dM_readString_49 : decode cM_readString 49 = .ok (.aload_n 0, 1) := by decide +kernel
theorem dM_readString_50 : decode cM_readString 50 = .ok (.iload_n 1, 1) := by decide +kernel
theorem dM_readString_51 : decode cM_readString 51 = .ok (.invokevirtual 74, 3) := by decide +kernel
theorem dM_readString_54 : decode cM_readString 54 = .ok (.bipush 34, 2) := by decide +kernel
theorem dM_readString_56 : decode cM_readString 56 = .ok (.if_icmp .ne 10, 3) := by decide +kernel
theorem dM_readString_59 : decode cM_readString 59 = .ok (.iload_n 2, 1) := by decide +kernel
theorem dM_readString_60 : decode cM_readString 60 = .ok (.sipush 200, 3) := by decide +kernel
theorem dM_readString_63 : decode cM_readString 63 = .ok (.if_icmp .le 8, 3) := by decide +kernel
theorem dM_readString_66 : decode cM_readString 66 = .ok (.bipush 6, 2) := by decide +kernel
theorem dM_readString_68 : decode cM_readString 68 = .ok (.goto 4, 3) := by decide +kernel
theorem dM_readString_71 : decode cM_readString 71 = .ok (.iconst 2, 1) := by decide +kernel
theorem dM_readString_72 : decode cM_readString 72 = .ok (.putfield 123, 3) := by decide +kernel
theorem dM_readString_75 : decode cM_readString 75 = .ok (.return_, 1) := by decide +kernel
theorem dM_readSign_0 : decode cM_readSign 0 = .ok (.aload_n 0, 1) := by decide +kernel
theorem dM_readSign_1 : decode cM_readSign 1 = .ok (.aload_n 0, 1) := by decide +kernel
theorem dM_readSign_2 : decode cM_readSign 2 = .ok (.getfield 71, 3) := by decide +kernel
theorem dM_readSign_5 : decode cM_readSign 5 = .ok (.invokevirtual 74, 3) := by decide +kernel
theorem dM_readSign_8 : decode cM_readSign 8 = .ok (.istore_n 1, 1) := by decide +kernel
theorem dM_readSign_9 : decode cM_readSign 9 = .ok (.aload_n 0, 1) := by decide +kernel
theorem dM_readSign_10 : decode cM_readSign 10 = .ok (.aload_n 0, 1) := by decide +kernel
theorem dM_readSign_11 : decode cM_readSign 11 = .ok (.getfield 71, 3) := by decide +kernel
theorem dM_readSign_14 : decode cM_readSign 14 = .ok (.iconst 1, 1) := by decide +kernel
theorem dM_readSign_15 : decode cM_readSign 15 = .ok (.iadd, 1) := by decide +kernel
theorem dM_readSign_16 : decode cM_readSign 16 = .ok (.invokevirtual 74, 3) := by decide +kernel
theorem dM_readSign_19 : decode cM_readSign 19 = .ok (.istore_n 2, 1) := by decide +kernel
theorem dM_readSign_20 : decode cM_readSign 20 = .ok (.iload_n 1, 1) := by decide +kernel
theorem dM_readSign_21 : decode cM_readSign 21 = .ok (.bipush 36, 2) := by decide +kernel
theorem dM_readSign_23 : decode cM_readSign 23 = .ok (.if_icmp .ne 15, 3) := by decide +kernel
theorem dM_readSign_26 : decode cM_readSign 26 = .ok (.iload_n 2, 1) := by decide +kernel
theorem dM_readSign_27 : decode cM_readSign 27 = .ok (.bipush 40, 2) := by decide +kernel
theorem dM_readSign_29 : decode cM_readSign 29 = .ok (.if_icmp .eq 81, 3) := by decide +kernel
theorem dM_readSign_32 : decode cM_readSign 32 = .ok (.iload_n 2, 1) := by decide +kernel
theorem dM_readSign_33 : decode cM_readSign 33 = .ok (.bipush 41, 2) := by decide +kernel
theorem dM_readSign_35 : decode cM_readSign 35 = .ok (.if_icmp .eq 75, 3) := by decide +kernel
theorem dM_readSign_38 : decode cM_readSign 38 = .ok (.iload_n 1, 1) := by decide +kernel
theorem dM_readSign_39 : decode cM_readSign 39 = .ok (.bipush 58, 2) := by decide +kernel
theorem dM_readSign_41 : decode cM_readSign 41 = .ok (.if_icmp .ne 9, 3) := by decide +kernel
theorem dM_readSign_44 : decode cM_readSign 44 = .ok (.iload_n 2, 1) := by decide +kernel
theorem dM_readSign_45 : decode cM_readSign 45 = .ok (.bipush 61, 2) := by decide +kernel
theorem dM_readSign_47 : decode cM_readSign 47 = .ok (.if_icmp .eq 63, 3) := by decide +kernel
theorem dM_readSign_50 : decode cM_readSign 50 = .ok (.iload_n 1, 1) := by decide +kernel
theorem dM_readSign_51 : decode cM_readSign 51 = .ok (.bipush 126, 2) := by decide +kernel
theorem dM_readSign_53 : decode cM_readSign 53 = .ok (.if_icmp .ne 9, 3) := by decide +kernel
theorem dM_readSign_56 : decode cM_readSign 56 = .ok (.iload_n 2, 1) := by decide +kernel
theorem dM_readSign_57 : decode cM_readSign 57 = .ok (.bipush 61, 2) := by decide +kernel
theorem dM_readSign_59 : decode cM_readSign 59 = .ok (.if_icmp .eq 51, 3) := by decide +kernel
theorem dM_readSign_62 : decode cM_readSign 62 = .ok (.iload_n 1, 1) := by decide +kernel
theorem dM_readSign_63 : decode cM_readSign 63 = .ok (.bipush 60, 2) := by decide +kernel
theorem dM_readSign_65 : decode cM_readSign 65 = .ok (.if_icmp .ne 15, 3) := by decide +kernel
theorem dM_readSign_68 : decode cM_readSign 68 = .ok (.iload_n 2, 1) := by decide +kernel
theorem dM_readSign_69 : decode cM_readSign 69 = .ok (.bipush 61, 2) := by decide +kernel
theorem dM_readSign_71 : decode cM_readSign 71 = .ok (.if_icmp .eq 39, 3) := by decide +kernel
theorem dM_readSign_74 : decode cM_readSign 74 = .ok (.iload_n 2, 1) := by decide +kernel
theorem dM_readSign_75 : decode cM_readSign 75 = .ok (.bipush 60, 2) := by decide +kernel
theorem dM_readSign_77 : decode cM_readSign 77 = .ok (.if_icmp .eq 33, 3) := by decide +kernel
theorem dM_readSign_80 : decode cM_readSign 80 = .ok (.iload_n 1, 1) := by decide +kernel
theorem dM_readSign_81 : decode cM_readSign 81 = .ok (.bipush 62, 2) := by decide +kernel
theorem dM_readSign_83 : decode cM_readSign 83 = .ok (.if_icmp .ne 15, 3) := by decide +kernel
theorem dM_readSign_86 : decode cM_readSign 86 = .ok (.iload_n 2, 1) := by decide +kernel
theorem dM_readSign_87 : decode cM_readSign 87 = .ok (.bipush 61, 2) := by decide +kernel
theorem dM_readSign_89 : decode cM_readSign 89 = .ok (.if_icmp .eq 21, 3) := by decide +kernel
theorem dM_readSign_92 : decode cM_readSign 92 = .ok (.iload_n 2, 1) := by decide +kernel
theorem dM_readSign_93 : decode cM_readSign 93 = .ok (.bipush 62, 2) := by decide +kernel
theorem dM_readSign_95 : decode cM_readSign 95 = .ok (.if_icmp .eq 15, 3) := by decide +kernel
theorem dM_readSign_98 : decode cM_readSign 98 = .ok (.iload_n 1, 1) := by decide +kernel
theorem dM_readSign_99 : decode cM_readSign 99 = .ok (.bipush 45, 2) := by decide +kernel
theorem dM_readSign_101 : decode cM_readSign 101 = .ok (.if_icmp .ne 13, 3) := by decide +kernel
theorem dM_readSign_104 : decode cM_readSign 104 = .ok (.iload_n 2, 1) := by decide +kernel
theorem dM_readSign_105 : decode cM_readSign 105 = .ok (.bipush 62, 2) := by decide +kernel
theorem dM_readSign_107 : decode cM_readSign 107 = .ok (.if_icmp .ne 7, 3) := by decide +kernel
theorem dM_readSign_110 : decode cM_readSign 110 = .ok (.iconst 1, 1) := by decide +kernel
theorem dM_readSign_111 : decode cM_readSign 111 = .ok (.goto 4, 3) := by decide +kernel
theorem dM_readSign_114 : decode cM_readSign 114 = .ok (.iconst 0, 1) := by decide +kernel
theorem dM_readSign_115 : decode cM_readSign 115 = .ok (.istore_n 3, 1) := by decide +kernel
theorem dM_readSign_116 : decode cM_readSign 116 = .ok (.iload_n 1, 1) := by decide +kernel
theorem dM_readSign_117 : decode cM_readSign 117 = .ok (.bipush 40, 2) := by decide +kernel
theorem dM_readSign_119 : decode cM_readSign 119 = .ok (.if_icmp .eq 99, 3) := by decide +kernel
theorem dM_readSign_122 : decode cM_readSign 122 = .ok (.iload_n 1, 1) := by decide +kernel
theorem dM_readSign_123 : decode cM_readSign 123 = .ok (.bipush 41, 2) := by decide +kernel
theorem dM_readSign_125 : decode cM_readSign 125 = .ok (.if_icmp .eq 93, 3) := by decide +kernel
theorem dM_readSign_128 : decode cM_readSign 128 = .ok (.iload_n 1, 1) := by decide +kernel
theorem dM_readSign_129 : decode cM_readSign 129 = .ok (.bipush 44, 2) := by decide +kernel
theorem dM_readSign_131 : decode cM_readSign 131 = .ok (.if_icmp .eq 87, 3) := by decide +kernel
theorem dM_readSign_134 : decode cM_readSign 134 = .ok (.iload_n 1, 1) := by decide +kernel
theorem dM_readSign_135 : decode cM_readSign 135 = .ok (.bipush 59, 2) := by decide +kernel
theorem dM_readSign_137 : decode cM_readSign 137 = .ok (.if_icmp .eq 81, 3) := by decide +kernel
theorem dM_readSign_140 : decode cM_readSign 140 = .ok (.iload_n 1, 1) := by decide +kernel
theorem dM_readSign_141 : decode cM_readSign 141 = .ok (.bipush 58, 2) := by decide +kernel
theorem dM_readSign_143 : decode cM_readSign 143 = .ok (.if_icmp .eq 75, 3) := by decide +kernel
theorem dM_readSign_146 : decode cM_readSign 146 = .ok (.iload_n 1, 1) := by decide +kernel
theorem dM_readSign_147 : decode cM_readSign 147 = .ok (.bipush 33, 2) := by decide +kernel
theorem dM_readSign_149 : decode cM_readSign 149 = .ok (.if_icmp .eq 69, 3) := by decide +kernel
theorem dM_readSign_152 : decode cM_readSign 152 = .ok (.iload_n 1, 1) := by decide +kernel
theorem dM_readSign_153 : decode cM_readSign 153 = .ok (.bipush 64, 2) := by decide +kernel
theorem dM_readSign_155 : decode cM_readSign 155 = .ok (.if_icmp .eq 63, 3) := by decide +kernel
theorem dM_readSign_158 : decode cM_readSign 158 = .ok (.iload_n 1, 1) := by decide +kernel
theorem dM_readSign_159 : decode cM_readSign 159 = .ok (.bipush 43, 2) := by decide +kernel
theorem dM_readSign_161 : decode cM_readSign 161 = .ok (.if_icmp .eq 57, 3) := by decide +kernel
theorem dM_readSign_164 : decode cM_readSign 164 = .ok (.iload_n 1, 1) := by decide +kernel
theorem dM_readSign_165 : decode cM_readSign 165 = .ok (.bipush 45, 2) := by decide +kernel
theorem dM_readSign_167 : decode cM_readSign 167 = .ok (.if_icmp .eq 51, 3) := by decide +kernel
theorem dM_readSign_170 : decode cM_readSign 170 = .ok (.iload_n 1, 1) := by decide +kernel
theorem dM_readSign_171 : decode cM_readSign 171 = .ok (.bipush 42, 2) := by decide +kernel
theorem dM_readSign_173 : decode cM_readSign 173 = .ok (.if_icmp .eq 45, 3) := by decide +kernel
theorem dM_readSign_176 : decode cM_readSign 176 = .ok (.iload_n 1, 1) := by decide +kernel
theorem dM_readSign_177 : decode cM_readSign 177 = .ok (.bipush 47, 2) := by decide +kernel
theorem dM_readSign_179 : decode cM_readSign 179 = .ok (.if_icmp .eq 39, 3) := by decide +kernel
theorem dM_readSign_182 : decode cM_readSign 182 = .ok (.iload_n 1, 1) := by decide +kernel
theorem dM_readSign_183 : decode cM_readSign 183 = .ok (.bipush 61, 2) := by decide +kernel
theorem dM_readSign_185 : decode cM_readSign 185 = .ok (.if_icmp .eq 33, 3) := by decide +kernel
theorem dM_readSign_188 : decode cM_readSign 188 = .ok (.iload_n 1, 1) := by decide +kernel
theorem dM_readSign_189 : decode cM_readSign 189 = .ok (.bipush 60, 2) := by decide +kernel
theorem dM_readSign_191 : decode cM_readSign 191 = .ok (.if_icmp .eq 27, 3) := by decide +kernel
theorem dM_readSign_194 : decode cM_readSign 194 = .ok (.iload_n 1, 1) := by decide +kernel
theorem dM_readSign_195 : decode cM_readSign 195 = .ok (.bipush 62, 2) := by decide +kernel
theorem dM_readSign_197 : decode cM_readSign 197 = .ok (.if_icmp .eq 21, 3) := by decide +kernel
theorem dM_readSign_200 : decode cM_readSign 200 = .ok (.iload_n 1, 1) := by decide +kernel
theorem dM_readSign_201 : decode cM_readSign 201 = .ok (.bipush 126, 2) := by decide +kernel
theorem dM_readSign_203 : decode cM_readSign 203 = .ok (.if_icmp .eq 15, 3) := by decide +kernel
theorem dM_readSign_206 : decode cM_readSign 206 = .ok (.iload_n 1, 1) := by decide +kernel
theorem dM_readSign_207 : decode cM_readSign 207 = .ok (.bipush 38, 2) := by decide +kernel
theorem dM_readSign_209 : decode cM_readSign 209 = .ok (.if_icmp .eq 9, 3) := by decide +kernel
theorem dM_readSign_212 : decode cM_readSign 212 = .ok (.iload_n 1, 1) := by decide +kernel
theorem dM_readSign_213 : decode cM_readSign 213 = .ok (.bipush 124, 2) := by decide +kernel
theorem dM_readSign_215 : decode cM_readSign 215 = .ok (.if_icmp .ne 7, 3) := by decide +kernel
theorem dM_readSign_218 : decode cM_readSign 218 = .ok (.iconst 1, 1) := by decide +kernel
theorem dM_readSign_219 : decode cM_readSign 219 = .ok (.goto 4, 3) := by decide +kernel
theorem dM_readSign_222 : decode cM_readSign 222 = .ok (.iconst 0, 1) := by decide +kernel
theorem dM_readSign_223 : decode cM_readSign 223 = .ok (.istore 4, 2) := by decide +kernel
theorem dM_readSign_225 : decode cM_readSign 225 = .ok (.aload_n 0, 1) := by decide +kernel
theorem dM_readSign_226 : decode cM_readSign 226 = .ok (.iload 4, 2) := by decide +kernel
theorem dM_readSign_228 : decode cM_readSign 228 = .ok (.ifCond .ne 7, 3) := by decide +kernel
theorem dM_readSign_231 : decode cM_readSign 231 = .ok (.iload_n 3, 1) := by decide +kernel
theorem dM_readSign_232 : decode cM_readSign 232 = .ok (.ifCond .eq 7, 3) := by decide +kernel
theorem dM_readSign_235 : decode cM_readSign 235 = .ok (.iconst 3, 1) := by decide +kernel
theorem dM_readSign_236 : decode cM_readSign 236 = .ok (.goto 5, 3) := by decide +kernel
theorem dM_readSign_239 : decode cM_readSign 239 = .ok (.bipush 6, 2) := by decide +kernel
theorem dM_readSign_241 : decode cM_readSign 241 = .ok (.putfield 123, 3) := by decide +kernel
theorem dM_readSign_244 : decode cM_readSign 244 = .ok (.aload_n 0, 1) := by decide +kernel
theorem dM_readSign_245 : decode cM_readSign 245 = .ok (.iload_n 3, 1) := by decide +kernel
theorem dM_readSign_246 : decode cM_readSign 246 = .ok (.ifCond .eq 12, 3) := by decide +kernel
theorem dM_readSign_249 : decode cM_readSign 249 = .ok (.aload_n 0, 1) := by decide +kernel
theorem dM_readSign_250 : decode cM_readSign 250 = .ok (.getfield 71, 3) := by decide +kernel
theorem dM_readSign_253 : decode cM_readSign 253 = .ok (.iconst 2, 1) := by decide +kernel
theorem dM_readSign_254 : decode cM_readSign 254 = .ok (.iadd, 1) := by decide +kernel
theorem dM_readSign_255 : decode cM_readSign 255 = .ok (.goto 9, 3) := by decide +kernel
theorem dM_readSign_258 : decode cM_readSign 258 = .ok (.aload_n 0, 1) := by decide +kernel
theorem dM_readSign_259 : decode cM_readSign 259 = .ok (.getfield 71, 3) := by decide +kernel
theorem dM_readSign_262 : decode cM_readSign 262 = .ok (.iconst 1, 1) := by decide +kernel
theorem dM_readSign_263 : decode cM_readSign 263 = .ok (.iadd, 1) := by decide +kernel
theorem dM_readSign_264 : decode cM_readSign 264 = .ok (.putfield 120, 3) := by decide +kernel
theorem dM_readSign_267 : decode cM_readSign 267 = .ok (.return_, 1) := by decide +kernel
theorem dM_add_0 : decode cM_add 0 = .ok (.aload_n 0, 1) := by decide +kernel
theorem dM_add_1 : decode cM_add 1 = .ok (.getfield 13, 3) := by decide +kernel
theorem dM_add_4 : decode cM_add 4 = .ok (.aload_n 0, 1) := by decide +kernel
theorem dM_add_5 : decode cM_add 5 = .ok (.getfield 81, 3) := by decide +kernel
theorem dM_add_8 : decode cM_add 8 = .ok (.iload_n 1, 1) := by decide +kernel
theorem dM_add_9 : decode cM_add 9 = .ok (.iastore, 1) := by decide +kernel
theorem dM_add_10 : decode cM_add 10 = .ok (.aload_n 0, 1) := by decide +kernel
theorem dM_add_11 : decode cM_add 11 = .ok (.getfield 16, 3) := by decide +kernel
theorem dM_add_14 : decode cM_add 14 = .ok (.aload_n 0, 1) := by decide +kernel
theorem dM_add_15 : decode cM_add 15 = .ok (.getfield 81, 3) := by decide +kernel
theorem dM_add_18 : decode cM_add 18 = .ok (.aload_n 0, 1) := by decide +kernel
theorem dM_add_19 : decode cM_add 19 = .ok (.getfield 71, 3) := by decide +kernel
theorem dM_add_22 : decode cM_add 22 = .ok (.iastore, 1) := by decide +kernel
theorem dM_add_23 : decode cM_add 23 = .ok (.aload_n 0, 1) := by decide +kernel
theorem dM_add_24 : decode cM_add 24 = .ok (.getfield 19, 3) := by decide +kernel
theorem dM_add_27 : decode cM_add 27 = .ok (.aload_n 0, 1) := by decide +kernel
theorem dM_add_28 : decode cM_add 28 = .ok (.getfield 81, 3) := by decide +kernel
theorem dM_add_31 : decode cM_add 31 = .ok (.aload_n 0, 1) := by decide +kernel
theorem dM_add_32 : decode cM_add 32 = .ok (.getfield 78, 3) := by decide +kernel
theorem dM_add_35 : decode cM_add 35 = .ok (.iastore, 1) := by decide +kernel
theorem dM_add_36 : decode cM_add 36 = .ok (.aload_n 0, 1) := by decide +kernel
theorem dM_add_37 : decode cM_add 37 = .ok (.getfield 22, 3) := by decide +kernel
theorem dM_add_40 : decode cM_add 40 = .ok (.aload_n 0, 1) := by decide +kernel
theorem dM_add_41 : decode cM_add 41 = .ok (.getfield 81, 3) := by decide +kernel
theorem dM_add_44 : decode cM_add 44 = .ok (.iload_n 2, 1) := by decide +kernel
theorem dM_add_45 : decode cM_add 45 = .ok (.iastore, 1) := by decide +kernel
theorem dM_add_46 : decode cM_add 46 = .ok (.aload_n 0, 1) := by decide +kernel
theorem dM_add_47 : decode cM_add 47 = .ok (.getfield 25, 3) := by decide +kernel
theorem dM_add_50 : decode cM_add 50 = .ok (.aload_n 0, 1) := by decide +kernel
theorem dM_add_51 : decode cM_add 51 = .ok (.getfield 81, 3) := by decide +kernel
theorem dM_add_54 : decode cM_add 54 = .ok (.aload_n 0, 1) := by decide +kernel
theorem dM_add_55 : decode cM_add 55 = .ok (.getfield 84, 3) := by decide +kernel
theorem dM_add_58 : decode cM_add 58 = .ok (.iastore, 1) := by decide +kernel
theorem dM_add_59 : decode cM_add 59 = .ok (.aload_n 0, 1) := by decide +kernel
theorem dM_add_60 : decode cM_add 60 = .ok (.getfield 28, 3) := by decide +kernel
theorem dM_add_63 : decode cM_add 63 = .ok (.aload_n 0, 1) := by decide +kernel
theorem dM_add_64 : decode cM_add 64 = .ok (.getfield 81, 3) := by decide +kernel
theorem dM_add_67 : decode cM_add 67 = .ok (.iconst 0, 1) := by decide +kernel
theorem dM_add_68 : decode cM_add 68 = .ok (.iastore, 1) := by decide +kernel
theorem dM_add_69 : decode cM_add 69 = .ok (.aload_n 0, 1) := by decide +kernel
theorem dM_add_70 : decode cM_add 70 = .ok (.dup, 1) := by decide +kernel
theorem dM_add_71 : decode cM_add 71 = .ok (.getfield 81, 3) := by decide +kernel
theorem dM_add_74 : decode cM_add 74 = .ok (.iconst 1, 1) := by decide +kernel
theorem dM_add_75 : decode cM_add 75 = .ok (.iadd, 1) := by decide +kernel
theorem dM_add_76 : decode cM_add 76 = .ok (.putfield 81, 3) := by decide +kernel
theorem dM_add_79 : decode cM_add 79 = .ok (.return_, 1) := by decide +kernel
theorem dM_keep_0 : decode cM_keep 0 = .ok (.aload_n 0, 1) := by decide +kernel
theorem dM_keep_1 : decode cM_keep 1 = .ok (.aload_n 0, 1) := by decide +kernel
theorem dM_keep_2 : decode cM_keep 2 = .ok (.getfield 123, 3) := by decide +kernel
theorem dM_keep_5 : decode cM_keep 5 = .ok (.aload_n 0, 1) := by decide +kernel
theorem dM_keep_6 : decode cM_keep 6 = .ok (.getfield 123, 3) := by decide +kernel
theorem dM_keep_9 : decode cM_keep 9 = .ok (.iconst 1, 1) := by decide +kernel
theorem dM_keep_10 : decode cM_keep 10 = .ok (.if_icmp .ne 10, 3) := by decide +kernel
theorem dM_keep_13 : decode cM_keep 13 = .ok (.aload_n 0, 1) := by decide +kernel
theorem dM_keep_14 : decode cM_keep 14 = .ok (.getfield 131, 3) := by decide +kernel
theorem dM_keep_17 : decode cM_keep 17 = .ok (.goto 4, 3) := by decide +kernel
theorem dM_keep_20 : decode cM_keep 20 = .ok (.iconst 0, 1) := by decide +kernel
theorem dM_keep_21 : decode cM_keep 21 = .ok (.invokevirtual 157, 3) := by decide +kernel
theorem dM_keep_24 : decode cM_keep 24 = .ok (.aload_n 0, 1) := by decide +kernel
theorem dM_keep_25 : decode cM_keep 25 = .ok (.getfield 123, 3) := by decide +kernel
theorem dM_keep_28 : decode cM_keep 28 = .ok (.ifCond .eq 11, 3) := by decide +kernel
theorem dM_keep_31 : decode cM_keep 31 = .ok (.aload_n 0, 1) := by decide +kernel
theorem dM_keep_32 : decode cM_keep 32 = .ok (.getfield 123, 3) := by decide +kernel
theorem dM_keep_35 : decode cM_keep 35 = .ok (.iconst 3, 1) := by decide +kernel
theorem dM_keep_36 : decode cM_keep 36 = .ok (.if_icmp .ne 35, 3) := by decide +kernel
theorem dM_keep_39 : decode cM_keep 39 = .ok (.aload_n 0, 1) := by decide +kernel
theorem dM_keep_40 : decode cM_keep 40 = .ok (.getfield 71, 3) := by decide +kernel
theorem dM_keep_43 : decode cM_keep 43 = .ok (.istore_n 1, 1) := by decide +kernel
theorem dM_keep_44 : decode cM_keep 44 = .ok (.iload_n 1, 1) := by decide +kernel
theorem dM_keep_45 : decode cM_keep 45 = .ok (.aload_n 0, 1) := by decide +kernel
theorem dM_keep_46 : decode cM_keep 46 = .ok (.getfield 120, 3) := by decide +kernel
theorem dM_keep_49 : decode cM_keep 49 = .ok (.if_icmp .ge 19, 3) := by decide +kernel
theorem dM_keep_52 : decode cM_keep 52 = .ok (.aload_n 0, 1) := by decide +kernel
theorem dM_keep_53 : decode cM_keep 53 = .ok (.aload_n 0, 1) := by decide +kernel
theorem dM_keep_54 : decode cM_keep 54 = .ok (.getfield 7, 3) := by decide +kernel
theorem dM_keep_57 : decode cM_keep 57 = .ok (.iload_n 1, 1) := by decide +kernel
theorem dM_keep_58 : decode cM_keep 58 = .ok (.iaload, 1) := by decide +kernel
theorem dM_keep_59 : decode cM_keep 59 = .ok (.invokevirtual 160, 3) := by decide +kernel
theorem dM_keep_62 : decode cM_keep 62 = .ok (.iinc 1 1, 3) := by decide +kernel
theorem dM_keep_65 : decode cM_keep 65 = .ok (.goto (-21), 3) := by decide +kernel
theorem dM_keep_68 : decode cM_keep 68 = .ok (.goto 48, 3) := by decide +kernel
theorem dM_keep_71 : decode cM_keep 71 = .ok (.aload_n 0, 1) := by decide +kernel
theorem dM_keep_72 : decode cM_keep 72 = .ok (.getfield 123, 3) := by decide +kernel
theorem dM_keep_75 : decode cM_keep 75 = .ok (.iconst 2, 1) := by decide +kernel
theorem dM_keep_76 : decode cM_keep 76 = .ok (.if_icmp .ne 40, 3) := by decide +kernel
theorem dM_keep_79 : decode cM_keep 79 = .ok (.aload_n 0, 1) := by decide +kernel
theorem dM_keep_80 : decode cM_keep 80 = .ok (.getfield 71, 3) := by decide +kernel
theorem dM_keep_83 : decode cM_keep 83 = .ok (.iconst 1, 1) := by decide +kernel
theorem dM_keep_84 : decode cM_keep 84 = .ok (.iadd, 1) := by decide +kernel
theorem dM_keep_85 : decode cM_keep 85 = .ok (.istore_n 1, 1) := by decide +kernel
theorem dM_keep_86 : decode cM_keep 86 = .ok (.iload_n 1, 1) := by decide +kernel
theorem dM_keep_87 : decode cM_keep 87 = .ok (.aload_n 0, 1) := by decide +kernel
theorem dM_keep_88 : decode cM_keep 88 = .ok (.getfield 120, 3) := by decide +kernel
theorem dM_keep_91 : decode cM_keep 91 = .ok (.iconst 1, 1) := by decide +kernel
theorem dM_keep_92 : decode cM_keep 92 = .ok (.isub, 1) := by decide +kernel
theorem dM_keep_93 : decode cM_keep 93 = .ok (.if_icmp .ge 23, 3) := by decide +kernel
theorem dM_keep_96 : decode cM_keep 96 = .ok (.aload_n 0, 1) := by decide +kernel
theorem dM_keep_97 : decode cM_keep 97 = .ok (.aload_n 0, 1) := by decide +kernel
theorem dM_keep_98 : decode cM_keep 98 = .ok (.iload_n 1, 1) := by decide +kernel
theorem dM_keep_99 : decode cM_keep 99 = .ok (.bipush 34, 2) := by decide +kernel
theorem dM_keep_101 : decode cM_keep 101 = .ok (.invokevirtual 134, 3) := by decide +kernel
theorem dM_keep_104 : decode cM_keep 104 = .ok (.invokevirtual 160, 3) := by decide +kernel
theorem dM_keep_107 : decode cM_keep 107 = .ok (.aload_n 0, 1) := by decide +kernel
theorem dM_keep_108 : decode cM_keep 108 = .ok (.iload_n 1, 1) := by decide +kernel
theorem dM_keep_109 : decode cM_keep 109 = .ok (.invokevirtual 138, 3) := by decide +kernel
theorem dM_keep_112 : decode cM_keep 112 = .ok (.istore_n 1, 1) := by decide +kernel
theorem dM_keep_113 : decode cM_keep 113 = .ok (.goto (-27), 3) := by decide +kernel
theorem dM_keep_116 : decode cM_keep 116 = .ok (.aload_n 0, 1) := by decide +kernel
theorem dM_keep_117 : decode cM_keep 117 = .ok (.getfield 123, 3) := by decide +kernel
theorem dM_keep_120 : decode cM_keep 120 = .ok (.ifCond .ne 30, 3) := by decide +kernel
theorem dM_keep_123 : decode cM_keep 123 = .ok (.aload_n 0, 1) := by decide +kernel
theorem dM_keep_124 : decode cM_keep 124 = .ok (.aload_n 0, 1) := by decide +kernel
theorem dM_keep_125 : decode cM_keep 125 = .ok (.getfield 81, 3) := by decide +kernel
theorem dM_keep_128 : decode cM_keep 128 = .ok (.iconst 1, 1) := by decide +kernel
theorem dM_keep_129 : decode cM_keep 129 = .ok (.isub, 1) := by decide +kernel
theorem dM_keep_130 : decode cM_keep 130 = .ok (.ldc 34, 2) := by decide +kernel
theorem dM_keep_132 : decode cM_keep 132 = .ok (.invokevirtual 108, 3) := by decide +kernel
theorem dM_keep_135 : decode cM_keep 135 = .ok (.ifCond .eq 15, 3) := by decide +kernel
theorem dM_keep_138 : decode cM_keep 138 = .ok (.aload_n 0, 1) := by decide +kernel
theorem dM_keep_139 : decode cM_keep 139 = .ok (.getfield 13, 3) := by decide +kernel
theorem dM_keep_142 : decode cM_keep 142 = .ok (.aload_n 0, 1) := by decide +kernel
theorem dM_keep_143 : decode cM_keep 143 = .ok (.getfield 81, 3) := by decide +kernel
theorem dM_keep_146 : decode cM_keep 146 = .ok (.iconst 1, 1) := by decide +kernel
theorem dM_keep_147 : decode cM_keep 147 = .ok (.isub, 1) := by decide +kernel
theorem dM_keep_148 : decode cM_keep 148 = .ok (.iconst 4, 1) := by decide +kernel
theorem dM_keep_149 : decode cM_keep 149 = .ok (.iastore, 1) := by decide +kernel
theorem dM_keep_150 : decode cM_keep 150 = .ok (.aload_n 0, 1) := by decide +kernel
theorem dM_keep_151 : decode cM_keep 151 = .ok (.invokevirtual 163, 3) := by decide +kernel
theorem dM_keep_154 : decode cM_keep 154 = .ok (.return_, 1) := by decide +kernel
theorem dM_say_0 : decode cM_say 0 = .ok (.aload_n 0, 1) := by decide +kernel
theorem dM_say_1 : decode cM_say 1 = .ok (.getfield 31, 3) := by decide +kernel
theorem dM_say_4 : decode cM_say 4 = .ok (.aload_n 0, 1) := by decide +kernel
theorem dM_say_5 : decode cM_say 5 = .ok (.getfield 84, 3) := by decide +kernel
theorem dM_say_8 : decode cM_say 8 = .ok (.iload_n 1, 1) := by decide +kernel
theorem dM_say_9 : decode cM_say 9 = .ok (.iastore, 1) := by decide +kernel
theorem dM_say_10 : decode cM_say 10 = .ok (.aload_n 0, 1) := by decide +kernel
theorem dM_say_11 : decode cM_say 11 = .ok (.dup, 1) := by decide +kernel
theorem dM_say_12 : decode cM_say 12 = .ok (.getfield 84, 3) := by decide +kernel
theorem dM_say_15 : decode cM_say 15 = .ok (.iconst 1, 1) := by decide +kernel
theorem dM_say_16 : decode cM_say 16 = .ok (.iadd, 1) := by decide +kernel
theorem dM_say_17 : decode cM_say 17 = .ok (.putfield 84, 3) := by decide +kernel
theorem dM_say_20 : decode cM_say 20 = .ok (.aload_n 0, 1) := by decide +kernel
theorem dM_say_21 : decode cM_say 21 = .ok (.getfield 28, 3) := by decide +kernel
theorem dM_say_24 : decode cM_say 24 = .ok (.aload_n 0, 1) := by decide +kernel
theorem dM_say_25 : decode cM_say 25 = .ok (.getfield 81, 3) := by decide +kernel
theorem dM_say_28 : decode cM_say 28 = .ok (.iconst 1, 1) := by decide +kernel
theorem dM_say_29 : decode cM_say 29 = .ok (.isub, 1) := by decide +kernel
theorem dM_say_30 : decode cM_say 30 = .ok (.dup2, 1) := by decide +kernel
theorem dM_say_31 : decode cM_say 31 = .ok (.iaload, 1) := by decide +kernel
theorem dM_say_32 : decode cM_say 32 = .ok (.iconst 1, 1) := by decide +kernel
theorem dM_say_33 : decode cM_say 33 = .ok (.iadd, 1) := by decide +kernel
theorem dM_say_34 : decode cM_say 34 = .ok (.iastore, 1) := by decide +kernel
theorem dM_say_35 : decode cM_say 35 = .ok (.return_, 1) := by decide +kernel
theorem dM_isIn_0 : decode cM_isIn 0 = .ok (.iconst 0, 1) := by decide +kernel
theorem dM_isIn_1 : decode cM_isIn 1 = .ok (.istore_n 3, 1) := by decide +kernel
theorem dM_isIn_2 : decode cM_isIn 2 = .ok (.iload_n 3, 1) := by decide +kernel
theorem dM_isIn_3 : decode cM_isIn 3 = .ok (.aload_n 2, 1) := by decide +kernel
theorem dM_isIn_4 : decode cM_isIn 4 = .ok (.invokevirtual 87, 3) := by decide +kernel
theorem dM_isIn_7 : decode cM_isIn 7 = .ok (.if_icmp .ge 33, 3) := by decide +kernel
theorem dM_isIn_10 : decode cM_isIn 10 = .ok (.aload_n 2, 1) := by decide +kernel
theorem dM_isIn_11 : decode cM_isIn 11 = .ok (.iload_n 3, 1) := by decide +kernel
theorem dM_isIn_12 : decode cM_isIn 12 = .ok (.invokevirtual 93, 3) := by decide +kernel
theorem dM_isIn_15 : decode cM_isIn 15 = .ok (.bipush 32, 2) := by decide +kernel
theorem dM_isIn_17 : decode cM_isIn 17 = .ok (.if_icmp .ne 17, 3) := by decide +kernel
theorem dM_isIn_20 : decode cM_isIn 20 = .ok (.aload_n 0, 1) := by decide +kernel
theorem dM_isIn_21 : decode cM_isIn 21 = .ok (.iload_n 1, 1) := by decide +kernel
theorem dM_isIn_22 : decode cM_isIn 22 = .ok (.aload_n 2, 1) := by decide +kernel
theorem dM_isIn_23 : decode cM_isIn 23 = .ok (.iload_n 3, 1) := by decide +kernel
theorem dM_isIn_24 : decode cM_isIn 24 = .ok (.iconst 1, 1) := by decide +kernel
theorem dM_isIn_25 : decode cM_isIn 25 = .ok (.iadd, 1) := by decide +kernel
theorem dM_isIn_26 : decode cM_isIn 26 = .ok (.invokevirtual 97, 3) := by decide +kernel
theorem dM_isIn_29 : decode cM_isIn 29 = .ok (.ifCond .eq 5, 3) := by decide +kernel
theorem dM_isIn_32 : decode cM_isIn 32 = .ok (.iconst 1, 1) := by decide +kernel
theorem dM_isIn_33 : decode cM_isIn 33 = .ok (.ireturn, 1) := by decide +kernel
theorem dM_isIn_34 : decode cM_isIn 34 = .ok (.iinc 3 1, 3) := by decide +kernel
theorem dM_isIn_37 : decode cM_isIn 37 = .ok (.goto (-35), 3) := by decide +kernel
theorem dM_isIn_40 : decode cM_isIn 40 = .ok (.iconst 0, 1) := by decide +kernel
theorem dM_isIn_41 : decode cM_isIn 41 = .ok (.ireturn, 1) := by decide +kernel
theorem dM_standsAt_0 : decode cM_standsAt 0 = .ok (.aload_n 0, 1) := by decide +kernel
theorem dM_standsAt_1 : decode cM_standsAt 1 = .ok (.getfield 28, 3) := by decide +kernel
theorem dM_standsAt_4 : decode cM_standsAt 4 = .ok (.iload_n 1, 1) := by decide +kernel
theorem dM_standsAt_5 : decode cM_standsAt 5 = .ok (.iaload, 1) := by decide +kernel
theorem dM_standsAt_6 : decode cM_standsAt 6 = .ok (.istore 4, 2) := by decide +kernel
theorem dM_standsAt_8 : decode cM_standsAt 8 = .ok (.iload_n 3, 1) := by decide +kernel
theorem dM_standsAt_9 : decode cM_standsAt 9 = .ok (.iload 4, 2) := by decide +kernel
theorem dM_standsAt_11 : decode cM_standsAt 11 = .ok (.iadd, 1) := by decide +kernel
theorem dM_standsAt_12 : decode cM_standsAt 12 = .ok (.aload_n 2, 1) := by decide +kernel
theorem dM_standsAt_13 : decode cM_standsAt 13 = .ok (.invokevirtual 87, 3) := by decide +kernel
theorem dM_standsAt_16 : decode cM_standsAt 16 = .ok (.if_icmp .ge 16, 3) := by decide +kernel
theorem dM_standsAt_19 : decode cM_standsAt 19 = .ok (.aload_n 2, 1) := by decide +kernel
theorem dM_standsAt_20 : decode cM_standsAt 20 = .ok (.iload_n 3, 1) := by decide +kernel
theorem dM_standsAt_21 : decode cM_standsAt 21 = .ok (.iload 4, 2) := by decide +kernel
theorem dM_standsAt_23 : decode cM_standsAt 23 = .ok (.iadd, 1) := by decide +kernel
theorem dM_standsAt_24 : decode cM_standsAt 24 = .ok (.invokevirtual 93, 3) := by decide +kernel
theorem dM_standsAt_27 : decode cM_standsAt 27 = .ok (.bipush 32, 2) := by decide +kernel
theorem dM_standsAt_29 : decode cM_standsAt 29 = .ok (.if_icmp .eq 5, 3) := by decide +kernel
theorem dM_standsAt_32 : decode cM_standsAt 32 = .ok (.iconst 0, 1) := by decide +kernel
theorem dM_standsAt_33 : decode cM_standsAt 33 = .ok (.ireturn, 1) := by decide +kernel
theorem dM_standsAt_34 : decode cM_standsAt 34 = .ok (.iload 4, 2) := by decide +kernel
theorem dM_standsAt_36 : decode cM_standsAt 36 = .ok (.ifCond .le 7, 3) := by decide +kernel
theorem dM_standsAt_39 : decode cM_standsAt 39 = .ok (.iconst 1, 1) := by decide +kernel
theorem dM_standsAt_40 : decode cM_standsAt 40 = .ok (.goto 4, 3) := by decide +kernel
theorem dM_standsAt_43 : decode cM_standsAt 43 = .ok (.iconst 0, 1) := by decide +kernel
theorem dM_standsAt_44 : decode cM_standsAt 44 = .ok (.istore 5, 2) := by decide +kernel
theorem dM_standsAt_46 : decode cM_standsAt 46 = .ok (.iconst 0, 1) := by decide +kernel
theorem dM_standsAt_47 : decode cM_standsAt 47 = .ok (.istore 6, 2) := by decide +kernel
theorem dM_standsAt_49 : decode cM_standsAt 49 = .ok (.iload 6, 2) := by decide +kernel
theorem dM_standsAt_51 : decode cM_standsAt 51 = .ok (.iload 4, 2) := by decide +kernel
theorem dM_standsAt_53 : decode cM_standsAt 53 = .ok (.if_icmp .ge 46, 3) := by decide +kernel
theorem dM_standsAt_56 : decode cM_standsAt 56 = .ok (.iload 5, 2) := by decide +kernel
theorem dM_standsAt_58 : decode cM_standsAt 58 = .ok (.ifCond .eq 41, 3) := by decide +kernel
theorem dM_standsAt_61 : decode cM_standsAt 61 = .ok (.aload_n 0, 1) := by decide +kernel
theorem dM_standsAt_62 : decode cM_standsAt 62 = .ok (.getfield 31, 3) := by decide +kernel
theorem dM_standsAt_65 : decode cM_standsAt 65 = .ok (.aload_n 0, 1) := by decide +kernel
theorem dM_standsAt_66 : decode cM_standsAt 66 = .ok (.getfield 25, 3) := by decide +kernel
theorem dM_standsAt_69 : decode cM_standsAt 69 = .ok (.iload_n 1, 1) := by decide +kernel
theorem dM_standsAt_70 : decode cM_standsAt 70 = .ok (.iaload, 1) := by decide +kernel
theorem dM_standsAt_71 : decode cM_standsAt 71 = .ok (.iload 6, 2) := by decide +kernel
theorem dM_standsAt_73 : decode cM_standsAt 73 = .ok (.iadd, 1) := by decide +kernel
theorem dM_standsAt_74 : decode cM_standsAt 74 = .ok (.iaload, 1) := by decide +kernel
theorem dM_standsAt_75 : decode cM_standsAt 75 = .ok (.aload_n 2, 1) := by decide +kernel
theorem dM_standsAt_76 : decode cM_standsAt 76 = .ok (.iload_n 3, 1) := by decide +kernel
theorem dM_standsAt_77 : decode cM_standsAt 77 = .ok (.iload 6, 2) := by decide +kernel
theorem dM_standsAt_79 : decode cM_standsAt 79 = .ok (.iadd, 1) := by decide +kernel
theorem dM_standsAt_80 : decode cM_standsAt 80 = .ok (.invokevirtual 93, 3) := by decide +kernel
theorem dM_standsAt_83 : decode cM_standsAt 83 = .ok (.if_icmp .ne 7, 3) := by decide +kernel
theorem dM_standsAt_86 : decode cM_standsAt 86 = .ok (.iconst 1, 1) := by decide +kernel
theorem dM_standsAt_87 : decode cM_standsAt 87 = .ok (.goto 4, 3) := by decide +kernel
theorem dM_standsAt_90 : decode cM_standsAt 90 = .ok (.iconst 0, 1) := by decide +kernel
theorem dM_standsAt_91 : decode cM_standsAt 91 = .ok (.istore 5, 2) := by decide +kernel
theorem dM_standsAt_93 : decode cM_standsAt 93 = .ok (.iinc 6 1, 3) := by decide +kernel
theorem dM_standsAt_96 : decode cM_standsAt 96 = .ok (.goto (-47), 3) := by decide +kernel
theorem dM_standsAt_99 : decode cM_standsAt 99 = .ok (.iload 5, 2) := by decide +kernel
theorem dM_standsAt_101 : decode cM_standsAt 101 = .ok (.ireturn, 1) := by decide +kernel
theorem dM_understand_0 : decode cM_understand 0 = .ok (.aload_n 0, 1) := by decide +kernel
theorem dM_understand_1 : decode cM_understand 1 = .ok (.getfield 81, 3) := by decide +kernel
theorem dM_understand_4 : decode cM_understand 4 = .ok (.iconst 1, 1) := by decide +kernel
theorem dM_understand_5 : decode cM_understand 5 = .ok (.isub, 1) := by decide +kernel
theorem dM_understand_6 : decode cM_understand 6 = .ok (.istore_n 1, 1) := by decide +kernel
theorem dM_understand_7 : decode cM_understand 7 = .ok (.iload_n 1, 1) := by decide +kernel
theorem dM_understand_8 : decode cM_understand 8 = .ok (.iconst 1, 1) := by decide +kernel
theorem dM_understand_9 : decode cM_understand 9 = .ok (.if_icmp .lt 38, 3) := by decide +kernel
theorem dM_understand_12 : decode cM_understand 12 = .ok (.aload_n 0, 1) := by decide +kernel
theorem dM_understand_13 : decode cM_understand 13 = .ok (.getfield 19, 3) := by decide +kernel
theorem dM_understand_16 : decode cM_understand 16 = .ok (.iload_n 1, 1) := by decide +kernel
theorem dM_understand_17 : decode cM_understand 17 = .ok (.iconst 1, 1) := by decide +kernel
theorem dM_understand_18 : decode cM_understand 18 = .ok (.isub, 1) := by decide +kernel
theorem dM_understand_19 : decode cM_understand 19 = .ok (.iaload, 1) := by decide +kernel
theorem dM_understand_20 : decode cM_understand 20 = .ok (.aload_n 0, 1) := by decide +kernel
theorem dM_understand_21 : decode cM_understand 21 = .ok (.getfield 19, 3) := by decide +kernel
theorem dM_understand_24 : decode cM_understand 24 = .ok (.iload_n 1, 1) := by decide +kernel
theorem dM_understand_25 : decode cM_understand 25 = .ok (.iaload, 1) := by decide +kernel
theorem dM_understand_26 : decode cM_understand 26 = .ok (.if_icmp .ge 21, 3) := by decide +kernel
theorem dM_understand_29 : decode cM_understand 29 = .ok (.aload_n 0, 1) := by decide +kernel
theorem dM_understand_30 : decode cM_understand 30 = .ok (.iload_n 1, 1) := by decide +kernel
theorem dM_understand_31 : decode cM_understand 31 = .ok (.iconst 1, 1) := by decide +kernel
theorem dM_understand_32 : decode cM_understand 32 = .ok (.isub, 1) := by decide +kernel
theorem dM_understand_33 : decode cM_understand 33 = .ok (.invokevirtual 112, 3) := by decide +kernel
theorem dM_understand_36 : decode cM_understand 36 = .ok (.ifCond .eq 11, 3) := by decide +kernel
theorem dM_understand_39 : decode cM_understand 39 = .ok (.aload_n 0, 1) := by decide +kernel
theorem dM_understand_40 : decode cM_understand 40 = .ok (.iload_n 1, 1) := by decide +kernel
theorem dM_understand_41 : decode cM_understand 41 = .ok (.invokevirtual 115, 3) := by decide +kernel
theorem dM_understand_44 : decode cM_understand 44 = .ok (.ifCond .ne 4, 3) := by decide +kernel
theorem dM_understand_47 : decode cM_understand 47 = .ok (.return_, 1) := by decide +kernel
theorem dM_understand_48 : decode cM_understand 48 = .ok (.aload_n 0, 1) := by decide +kernel
theorem dM_understand_49 : decode cM_understand 49 = .ok (.getfield 13, 3) := by decide +kernel
theorem dM_understand_52 : decode cM_understand 52 = .ok (.aload_n 0, 1) := by decide +kernel
theorem dM_understand_53 : decode cM_understand 53 = .ok (.getfield 81, 3) := by decide +kernel
theorem dM_understand_56 : decode cM_understand 56 = .ok (.aload_n 0, 1) := by decide +kernel
theorem dM_understand_57 : decode cM_understand 57 = .ok (.getfield 13, 3) := by decide +kernel
theorem dM_understand_60 : decode cM_understand 60 = .ok (.iload_n 1, 1) := by decide +kernel
theorem dM_understand_61 : decode cM_understand 61 = .ok (.iaload, 1) := by decide +kernel
theorem dM_understand_62 : decode cM_understand 62 = .ok (.iastore, 1) := by decide +kernel
theorem dM_understand_63 : decode cM_understand 63 = .ok (.aload_n 0, 1) := by decide +kernel
theorem dM_understand_64 : decode cM_understand 64 = .ok (.getfield 16, 3) := by decide +kernel
theorem dM_understand_67 : decode cM_understand 67 = .ok (.aload_n 0, 1) := by decide +kernel
theorem dM_understand_68 : decode cM_understand 68 = .ok (.getfield 81, 3) := by decide +kernel
theorem dM_understand_71 : decode cM_understand 71 = .ok (.aload_n 0, 1) := by decide +kernel
theorem dM_understand_72 : decode cM_understand 72 = .ok (.getfield 16, 3) := by decide +kernel
theorem dM_understand_75 : decode cM_understand 75 = .ok (.iload_n 1, 1) := by decide +kernel
theorem dM_understand_76 : decode cM_understand 76 = .ok (.iaload, 1) := by decide +kernel
theorem dM_understand_77 : decode cM_understand 77 = .ok (.iastore, 1) := by decide +kernel
theorem dM_understand_78 : decode cM_understand 78 = .ok (.aload_n 0, 1) := by decide +kernel
theorem dM_understand_79 : decode cM_understand 79 = .ok (.getfield 19, 3) := by decide +kernel
theorem dM_understand_82 : decode cM_understand 82 = .ok (.aload_n 0, 1) := by decide +kernel
theorem dM_understand_83 : decode cM_understand 83 = .ok (.getfield 81, 3) := by decide +kernel
theorem dM_understand_86 : decode cM_understand 86 = .ok (.aload_n 0, 1) := by decide +kernel
theorem dM_understand_87 : decode cM_understand 87 = .ok (.getfield 19, 3) := by decide +kernel
theorem dM_understand_90 : decode cM_understand 90 = .ok (.iload_n 1, 1) := by decide +kernel
theorem dM_understand_91 : decode cM_understand 91 = .ok (.iaload, 1) := by decide +kernel
theorem dM_understand_92 : decode cM_understand 92 = .ok (.iastore, 1) := by decide +kernel
theorem dM_understand_93 : decode cM_understand 93 = .ok (.aload_n 0, 1) := by decide +kernel
theorem dM_understand_94 : decode cM_understand 94 = .ok (.getfield 22, 3) := by decide +kernel
theorem dM_understand_97 : decode cM_understand 97 = .ok (.aload_n 0, 1) := by decide +kernel
theorem dM_understand_98 : decode cM_understand 98 = .ok (.getfield 81, 3) := by decide +kernel
theorem dM_understand_101 : decode cM_understand 101 = .ok (.aload_n 0, 1) := by decide +kernel
theorem dM_understand_102 : decode cM_understand 102 = .ok (.getfield 22, 3) := by decide +kernel
theorem dM_understand_105 : decode cM_understand 105 = .ok (.iload_n 1, 1) := by decide +kernel
theorem dM_understand_106 : decode cM_understand 106 = .ok (.iaload, 1) := by decide +kernel
theorem dM_understand_107 : decode cM_understand 107 = .ok (.iastore, 1) := by decide +kernel
theorem dM_understand_108 : decode cM_understand 108 = .ok (.aload_n 0, 1) := by decide +kernel
theorem dM_understand_109 : decode cM_understand 109 = .ok (.getfield 25, 3) := by decide +kernel
theorem dM_understand_112 : decode cM_understand 112 = .ok (.aload_n 0, 1) := by decide +kernel
theorem dM_understand_113 : decode cM_understand 113 = .ok (.getfield 81, 3) := by decide +kernel
theorem dM_understand_116 : decode cM_understand 116 = .ok (.aload_n 0, 1) := by decide +kernel
theorem dM_understand_117 : decode cM_understand 117 = .ok (.getfield 25, 3) := by decide +kernel
theorem dM_understand_120 : decode cM_understand 120 = .ok (.iload_n 1, 1) := by decide +kernel
theorem dM_understand_121 : decode cM_understand 121 = .ok (.iaload, 1) := by decide +kernel
theorem dM_understand_122 : decode cM_understand 122 = .ok (.iastore, 1) := by decide +kernel
theorem dM_understand_123 : decode cM_understand 123 = .ok (.aload_n 0, 1) := by decide +kernel
theorem dM_understand_124 : decode cM_understand 124 = .ok (.getfield 28, 3) := by decide +kernel
theorem dM_understand_127 : decode cM_understand 127 = .ok (.aload_n 0, 1) := by decide +kernel
theorem dM_understand_128 : decode cM_understand 128 = .ok (.getfield 81, 3) := by decide +kernel
theorem dM_understand_131 : decode cM_understand 131 = .ok (.aload_n 0, 1) := by decide +kernel
theorem dM_understand_132 : decode cM_understand 132 = .ok (.getfield 28, 3) := by decide +kernel
theorem dM_understand_135 : decode cM_understand 135 = .ok (.iload_n 1, 1) := by decide +kernel
theorem dM_understand_136 : decode cM_understand 136 = .ok (.iaload, 1) := by decide +kernel
theorem dM_understand_137 : decode cM_understand 137 = .ok (.iastore, 1) := by decide +kernel
theorem dM_understand_138 : decode cM_understand 138 = .ok (.aload_n 0, 1) := by decide +kernel
theorem dM_understand_139 : decode cM_understand 139 = .ok (.dup, 1) := by decide +kernel
theorem dM_understand_140 : decode cM_understand 140 = .ok (.getfield 81, 3) := by decide +kernel
theorem dM_understand_143 : decode cM_understand 143 = .ok (.iconst 1, 1) := by decide +kernel
theorem dM_understand_144 : decode cM_understand 144 = .ok (.iadd, 1) := by decide +kernel
theorem dM_understand_145 : decode cM_understand 145 = .ok (.putfield 81, 3) := by decide +kernel
theorem dM_understand_148 : decode cM_understand 148 = .ok (.aload_n 0, 1) := by decide +kernel
theorem dM_understand_149 : decode cM_understand 149 = .ok (.getfield 13, 3) := by decide +kernel
theorem dM_understand_152 : decode cM_understand 152 = .ok (.iload_n 1, 1) := by decide +kernel
theorem dM_understand_153 : decode cM_understand 153 = .ok (.iconst 3, 1) := by decide +kernel
theorem dM_understand_154 : decode cM_understand 154 = .ok (.iastore, 1) := by decide +kernel
theorem dM_understand_155 : decode cM_understand 155 = .ok (.aload_n 0, 1) := by decide +kernel
theorem dM_understand_156 : decode cM_understand 156 = .ok (.getfield 22, 3) := by decide +kernel
theorem dM_understand_159 : decode cM_understand 159 = .ok (.iload_n 1, 1) := by decide +kernel
theorem dM_understand_160 : decode cM_understand 160 = .ok (.iconst 0, 1) := by decide +kernel
theorem dM_understand_161 : decode cM_understand 161 = .ok (.iastore, 1) := by decide +kernel
theorem dM_understand_162 : decode cM_understand 162 = .ok (.aload_n 0, 1) := by decide +kernel
theorem dM_understand_163 : decode cM_understand 163 = .ok (.getfield 25, 3) := by decide +kernel
theorem dM_understand_166 : decode cM_understand 166 = .ok (.iload_n 1, 1) := by decide +kernel
theorem dM_understand_167 : decode cM_understand 167 = .ok (.aload_n 0, 1) := by decide +kernel
theorem dM_understand_168 : decode cM_understand 168 = .ok (.getfield 84, 3) := by decide +kernel
theorem dM_understand_171 : decode cM_understand 171 = .ok (.iastore, 1) := by decide +kernel
theorem dM_understand_172 : decode cM_understand 172 = .ok (.aload_n 0, 1) := by decide +kernel
theorem dM_understand_173 : decode cM_understand 173 = .ok (.getfield 28, 3) := by decide +kernel
theorem dM_understand_176 : decode cM_understand 176 = .ok (.iload_n 1, 1) := by decide +kernel
theorem dM_understand_177 : decode cM_understand 177 = .ok (.iconst 1, 1) := by decide +kernel
theorem dM_understand_178 : decode cM_understand 178 = .ok (.iastore, 1) := by decide +kernel
theorem dM_understand_179 : decode cM_understand 179 = .ok (.aload_n 0, 1) := by decide +kernel
theorem dM_understand_180 : decode cM_understand 180 = .ok (.getfield 31, 3) := by decide +kernel
theorem dM_understand_183 : decode cM_understand 183 = .ok (.aload_n 0, 1) := by decide +kernel
theorem dM_understand_184 : decode cM_understand 184 = .ok (.getfield 84, 3) := by decide +kernel
theorem dM_understand_187 : decode cM_understand 187 = .ok (.bipush 59, 2) := by decide +kernel
theorem dM_understand_189 : decode cM_understand 189 = .ok (.iastore, 1) := by decide +kernel
theorem dM_understand_190 : decode cM_understand 190 = .ok (.aload_n 0, 1) := by decide +kernel
theorem dM_understand_191 : decode cM_understand 191 = .ok (.dup, 1) := by decide +kernel
theorem dM_understand_192 : decode cM_understand 192 = .ok (.getfield 84, 3) := by decide +kernel
theorem dM_understand_195 : decode cM_understand 195 = .ok (.iconst 1, 1) := by decide +kernel
theorem dM_understand_196 : decode cM_understand 196 = .ok (.iadd, 1) := by decide +kernel
theorem dM_understand_197 : decode cM_understand 197 = .ok (.putfield 84, 3) := by decide +kernel
theorem dM_understand_200 : decode cM_understand 200 = .ok (.return_, 1) := by decide +kernel
theorem dM_ends_0 : decode cM_ends 0 = .ok (.aload_n 0, 1) := by decide +kernel
theorem dM_ends_1 : decode cM_ends 1 = .ok (.getfield 13, 3) := by decide +kernel
theorem dM_ends_4 : decode cM_ends 4 = .ok (.iload_n 1, 1) := by decide +kernel
theorem dM_ends_5 : decode cM_ends 5 = .ok (.iaload, 1) := by decide +kernel
theorem dM_ends_6 : decode cM_ends 6 = .ok (.invokestatic 101, 3) := by decide +kernel
theorem dM_ends_9 : decode cM_ends 9 = .ok (.ifCond .ne 46, 3) := by decide +kernel
theorem dM_ends_12 : decode cM_ends 12 = .ok (.aload_n 0, 1) := by decide +kernel
theorem dM_ends_13 : decode cM_ends 13 = .ok (.iload_n 1, 1) := by decide +kernel
theorem dM_ends_14 : decode cM_ends 14 = .ok (.bipush 36, 2) := by decide +kernel
theorem dM_ends_16 : decode cM_ends 16 = .ok (.bipush 41, 2) := by decide +kernel
theorem dM_ends_18 : decode cM_ends 18 = .ok (.invokevirtual 104, 3) := by decide +kernel
theorem dM_ends_21 : decode cM_ends 21 = .ok (.ifCond .ne 34, 3) := by decide +kernel
theorem dM_ends_24 : decode cM_ends 24 = .ok (.aload_n 0, 1) := by decide +kernel
theorem dM_ends_25 : decode cM_ends 25 = .ok (.iload_n 1, 1) := by decide +kernel
theorem dM_ends_26 : decode cM_ends 26 = .ok (.bipush 41, 2) := by decide +kernel
theorem dM_ends_28 : decode cM_ends 28 = .ok (.iconst 0, 1) := by decide +kernel
theorem dM_ends_29 : decode cM_ends 29 = .ok (.invokevirtual 104, 3) := by decide +kernel
theorem dM_ends_32 : decode cM_ends 32 = .ok (.ifCond .ne 23, 3) := by decide +kernel
theorem dM_ends_35 : decode cM_ends 35 = .ok (.aload_n 0, 1) := by decide +kernel
theorem dM_ends_36 : decode cM_ends 36 = .ok (.getfield 13, 3) := by decide +kernel
theorem dM_ends_39 : decode cM_ends 39 = .ok (.iload_n 1, 1) := by decide +kernel
theorem dM_ends_40 : decode cM_ends 40 = .ok (.iaload, 1) := by decide +kernel
theorem dM_ends_41 : decode cM_ends 41 = .ok (.iconst 4, 1) := by decide +kernel
theorem dM_ends_42 : decode cM_ends 42 = .ok (.if_icmp .ne 17, 3) := by decide +kernel
theorem dM_ends_45 : decode cM_ends 45 = .ok (.aload_n 0, 1) := by decide +kernel
theorem dM_ends_46 : decode cM_ends 46 = .ok (.iload_n 1, 1) := by decide +kernel
theorem dM_ends_47 : decode cM_ends 47 = .ok (.ldc 40, 2) := by decide +kernel
theorem dM_ends_49 : decode cM_ends 49 = .ok (.invokevirtual 108, 3) := by decide +kernel
theorem dM_ends_52 : decode cM_ends 52 = .ok (.ifCond .eq 7, 3) := by decide +kernel
theorem dM_ends_55 : decode cM_ends 55 = .ok (.iconst 1, 1) := by decide +kernel
theorem dM_ends_56 : decode cM_ends 56 = .ok (.goto 4, 3) := by decide +kernel
theorem dM_ends_59 : decode cM_ends 59 = .ok (.iconst 0, 1) := by decide +kernel
theorem dM_ends_60 : decode cM_ends 60 = .ok (.ireturn, 1) := by decide +kernel
theorem dM_isPlain_0 : decode cM_isPlain 0 = .ok (.iload_n 0, 1) := by decide +kernel
theorem dM_isPlain_1 : decode cM_isPlain 1 = .ok (.ifCond .eq 13, 3) := by decide +kernel
theorem dM_isPlain_4 : decode cM_isPlain 4 = .ok (.iload_n 0, 1) := by decide +kernel
theorem dM_isPlain_5 : decode cM_isPlain 5 = .ok (.iconst 1, 1) := by decide +kernel
theorem dM_isPlain_6 : decode cM_isPlain 6 = .ok (.if_icmp .eq 8, 3) := by decide +kernel
theorem dM_isPlain_9 : decode cM_isPlain 9 = .ok (.iload_n 0, 1) := by decide +kernel
theorem dM_isPlain_10 : decode cM_isPlain 10 = .ok (.iconst 2, 1) := by decide +kernel
theorem dM_isPlain_11 : decode cM_isPlain 11 = .ok (.if_icmp .ne 7, 3) := by decide +kernel
theorem dM_isPlain_14 : decode cM_isPlain 14 = .ok (.iconst 1, 1) := by decide +kernel
theorem dM_isPlain_15 : decode cM_isPlain 15 = .ok (.goto 4, 3) := by decide +kernel
theorem dM_isPlain_18 : decode cM_isPlain 18 = .ok (.iconst 0, 1) := by decide +kernel
theorem dM_isPlain_19 : decode cM_isPlain 19 = .ok (.ireturn, 1) := by decide +kernel
theorem dM_is_0 : decode cM_is 0 = .ok (.aload_n 0, 1) := by decide +kernel
theorem dM_is_1 : decode cM_is 1 = .ok (.getfield 13, 3) := by decide +kernel
theorem dM_is_4 : decode cM_is 4 = .ok (.iload_n 1, 1) := by decide +kernel
theorem dM_is_5 : decode cM_is 5 = .ok (.iaload, 1) := by decide +kernel
theorem dM_is_6 : decode cM_is 6 = .ok (.iconst 3, 1) := by decide +kernel
theorem dM_is_7 : decode cM_is 7 = .ok (.if_icmp .ne 61, 3) := by decide +kernel
theorem dM_is_10 : decode cM_is 10 = .ok (.aload_n 0, 1) := by decide +kernel
theorem dM_is_11 : decode cM_is 11 = .ok (.getfield 31, 3) := by decide +kernel
theorem dM_is_14 : decode cM_is 14 = .ok (.aload_n 0, 1) := by decide +kernel
theorem dM_is_15 : decode cM_is 15 = .ok (.getfield 25, 3) := by decide +kernel
theorem dM_is_18 : decode cM_is 18 = .ok (.iload_n 1, 1) := by decide +kernel
theorem dM_is_19 : decode cM_is 19 = .ok (.iaload, 1) := by decide +kernel
theorem dM_is_20 : decode cM_is 20 = .ok (.iaload, 1) := by decide +kernel
theorem dM_is_21 : decode cM_is 21 = .ok (.iload_n 2, 1) := by decide +kernel
theorem dM_is_22 : decode cM_is 22 = .ok (.if_icmp .ne 46, 3) := by decide +kernel
theorem dM_is_25 : decode cM_is 25 = .ok (.aload_n 0, 1) := by decide +kernel
theorem dM_is_26 : decode cM_is 26 = .ok (.getfield 28, 3) := by decide +kernel
theorem dM_is_29 : decode cM_is 29 = .ok (.iload_n 1, 1) := by decide +kernel
theorem dM_is_30 : decode cM_is 30 = .ok (.iaload, 1) := by decide +kernel
theorem dM_is_31 : decode cM_is 31 = .ok (.iload_n 3, 1) := by decide +kernel
theorem dM_is_32 : decode cM_is 32 = .ok (.ifCond .ne 7, 3) := by decide +kernel
theorem dM_is_35 : decode cM_is 35 = .ok (.iconst 1, 1) := by decide +kernel
theorem dM_is_36 : decode cM_is 36 = .ok (.goto 4, 3) := by decide +kernel
theorem dM_is_39 : decode cM_is 39 = .ok (.iconst 2, 1) := by decide +kernel
theorem dM_is_40 : decode cM_is 40 = .ok (.if_icmp .ne 28, 3) := by decide +kernel
theorem dM_is_43 : decode cM_is 43 = .ok (.iload_n 3, 1) := by decide +kernel
theorem dM_is_44 : decode cM_is 44 = .ok (.ifCond .eq 20, 3) := by decide +kernel
theorem dM_is_47 : decode cM_is 47 = .ok (.aload_n 0, 1) := by decide +kernel
theorem dM_is_48 : decode cM_is 48 = .ok (.getfield 31, 3) := by decide +kernel
theorem dM_is_51 : decode cM_is 51 = .ok (.aload_n 0, 1) := by decide +kernel
theorem dM_is_52 : decode cM_is 52 = .ok (.getfield 25, 3) := by decide +kernel
theorem dM_is_55 : decode cM_is 55 = .ok (.iload_n 1, 1) := by decide +kernel
theorem dM_is_56 : decode cM_is 56 = .ok (.iaload, 1) := by decide +kernel
theorem dM_is_57 : decode cM_is 57 = .ok (.iconst 1, 1) := by decide +kernel
theorem dM_is_58 : decode cM_is 58 = .ok (.iadd, 1) := by decide +kernel
theorem dM_is_59 : decode cM_is 59 = .ok (.iaload, 1) := by decide +kernel
theorem dM_is_60 : decode cM_is 60 = .ok (.iload_n 3, 1) := by decide +kernel
theorem dM_is_61 : decode cM_is 61 = .ok (.if_icmp .ne 7, 3) := by decide +kernel
theorem dM_is_64 : decode cM_is 64 = .ok (.iconst 1, 1) := by decide +kernel
theorem dM_is_65 : decode cM_is 65 = .ok (.goto 4, 3) := by decide +kernel
theorem dM_is_68 : decode cM_is 68 = .ok (.iconst 0, 1) := by decide +kernel
theorem dM_is_69 : decode cM_is 69 = .ok (.ireturn, 1) := by decide +kernel
theorem dM_begins_0 : decode cM_begins 0 = .ok (.aload_n 0, 1) := by decide +kernel
theorem dM_begins_1 : decode cM_begins 1 = .ok (.getfield 13, 3) := by decide +kernel
theorem dM_begins_4 : decode cM_begins 4 = .ok (.iload_n 1, 1) := by decide +kernel
theorem dM_begins_5 : decode cM_begins 5 = .ok (.iaload, 1) := by decide +kernel
theorem dM_begins_6 : decode cM_begins 6 = .ok (.invokestatic 101, 3) := by decide +kernel
theorem dM_begins_9 : decode cM_begins 9 = .ok (.ifCond .ne 68, 3) := by decide +kernel
theorem dM_begins_12 : decode cM_begins 12 = .ok (.aload_n 0, 1) := by decide +kernel
theorem dM_begins_13 : decode cM_begins 13 = .ok (.iload_n 1, 1) := by decide +kernel
theorem dM_begins_14 : decode cM_begins 14 = .ok (.bipush 40, 2) := by decide +kernel
theorem dM_begins_16 : decode cM_begins 16 = .ok (.iconst 0, 1) := by decide +kernel
theorem dM_begins_17 : decode cM_begins 17 = .ok (.invokevirtual 104, 3) := by decide +kernel
theorem dM_begins_20 : decode cM_begins 20 = .ok (.ifCond .ne 57, 3) := by decide +kernel
theorem dM_begins_23 : decode cM_begins 23 = .ok (.aload_n 0, 1) := by decide +kernel
theorem dM_begins_24 : decode cM_begins 24 = .ok (.iload_n 1, 1) := by decide +kernel
theorem dM_begins_25 : decode cM_begins 25 = .ok (.bipush 33, 2) := by decide +kernel
theorem dM_begins_27 : decode cM_begins 27 = .ok (.iconst 0, 1) := by decide +kernel
theorem dM_begins_28 : decode cM_begins 28 = .ok (.invokevirtual 104, 3) := by decide +kernel
theorem dM_begins_31 : decode cM_begins 31 = .ok (.ifCond .ne 46, 3) := by decide +kernel
theorem dM_begins_34 : decode cM_begins 34 = .ok (.aload_n 0, 1) := by decide +kernel
theorem dM_begins_35 : decode cM_begins 35 = .ok (.iload_n 1, 1) := by decide +kernel
theorem dM_begins_36 : decode cM_begins 36 = .ok (.bipush 64, 2) := by decide +kernel
theorem dM_begins_38 : decode cM_begins 38 = .ok (.iconst 0, 1) := by decide +kernel
theorem dM_begins_39 : decode cM_begins 39 = .ok (.invokevirtual 104, 3) := by decide +kernel
theorem dM_begins_42 : decode cM_begins 42 = .ok (.ifCond .ne 35, 3) := by decide +kernel
theorem dM_begins_45 : decode cM_begins 45 = .ok (.aload_n 0, 1) := by decide +kernel
theorem dM_begins_46 : decode cM_begins 46 = .ok (.iload_n 1, 1) := by decide +kernel
theorem dM_begins_47 : decode cM_begins 47 = .ok (.bipush 36, 2) := by decide +kernel
theorem dM_begins_49 : decode cM_begins 49 = .ok (.bipush 40, 2) := by decide +kernel
theorem dM_begins_51 : decode cM_begins 51 = .ok (.invokevirtual 104, 3) := by decide +kernel
theorem dM_begins_54 : decode cM_begins 54 = .ok (.ifCond .ne 23, 3) := by decide +kernel
theorem dM_begins_57 : decode cM_begins 57 = .ok (.aload_n 0, 1) := by decide +kernel
theorem dM_begins_58 : decode cM_begins 58 = .ok (.getfield 13, 3) := by decide +kernel
theorem dM_begins_61 : decode cM_begins 61 = .ok (.iload_n 1, 1) := by decide +kernel
theorem dM_begins_62 : decode cM_begins 62 = .ok (.iaload, 1) := by decide +kernel
theorem dM_begins_63 : decode cM_begins 63 = .ok (.iconst 4, 1) := by decide +kernel
theorem dM_begins_64 : decode cM_begins 64 = .ok (.if_icmp .ne 17, 3) := by decide +kernel
theorem dM_begins_67 : decode cM_begins 67 = .ok (.aload_n 0, 1) := by decide +kernel
theorem dM_begins_68 : decode cM_begins 68 = .ok (.iload_n 1, 1) := by decide +kernel
theorem dM_begins_69 : decode cM_begins 69 = .ok (.ldc 45, 2) := by decide +kernel
theorem dM_begins_71 : decode cM_begins 71 = .ok (.invokevirtual 108, 3) := by decide +kernel
theorem dM_begins_74 : decode cM_begins 74 = .ok (.ifCond .eq 7, 3) := by decide +kernel
theorem dM_begins_77 : decode cM_begins 77 = .ok (.iconst 1, 1) := by decide +kernel
theorem dM_begins_78 : decode cM_begins 78 = .ok (.goto 4, 3) := by decide +kernel
theorem dM_begins_81 : decode cM_begins 81 = .ok (.iconst 0, 1) := by decide +kernel
theorem dM_begins_82 : decode cM_begins 82 = .ok (.ireturn, 1) := by decide +kernel
theorem dM_kind_0 : decode cM_kind 0 = .ok (.aload_n 0, 1) := by decide +kernel
theorem dM_kind_1 : decode cM_kind 1 = .ok (.iload_n 1, 1) := by decide +kernel
theorem dM_kind_2 : decode cM_kind 2 = .ok (.invokevirtual 175, 3) := by decide +kernel
theorem dM_kind_5 : decode cM_kind 5 = .ok (.ifCond .eq 12, 3) := by decide +kernel
theorem dM_kind_8 : decode cM_kind 8 = .ok (.aload_n 0, 1) := by decide +kernel
theorem dM_kind_9 : decode cM_kind 9 = .ok (.getfield 13, 3) := by decide +kernel
theorem dM_kind_12 : decode cM_kind 12 = .ok (.iload_n 1, 1) := by decide +kernel
theorem dM_kind_13 : decode cM_kind 13 = .ok (.iaload, 1) := by decide +kernel
theorem dM_kind_14 : decode cM_kind 14 = .ok (.goto 4, 3) := by decide +kernel
theorem dM_kind_17 : decode cM_kind 17 = .ok (.iconst (-1), 1) := by decide +kernel
theorem dM_kind_18 : decode cM_kind 18 = .ok (.ireturn, 1) := by decide +kernel
theorem dM_isToken_0 : decode cM_isToken 0 = .ok (.iload_n 1, 1) := by decide +kernel
theorem dM_isToken_1 : decode cM_isToken 1 = .ok (.ifCond .lt 15, 3) := by decide +kernel
theorem dM_isToken_4 : decode cM_isToken 4 = .ok (.iload_n 1, 1) := by decide +kernel
theorem dM_isToken_5 : decode cM_isToken 5 = .ok (.aload_n 0, 1) := by decide +kernel
theorem dM_isToken_6 : decode cM_isToken 6 = .ok (.getfield 81, 3) := by decide +kernel
theorem dM_isToken_9 : decode cM_isToken 9 = .ok (.if_icmp .ge 7, 3) := by decide +kernel
theorem dM_isToken_12 : decode cM_isToken 12 = .ok (.iconst 1, 1) := by decide +kernel
theorem dM_isToken_13 : decode cM_isToken 13 = .ok (.goto 4, 3) := by decide +kernel
theorem dM_isToken_16 : decode cM_isToken 16 = .ok (.iconst 0, 1) := by decide +kernel
theorem dM_isToken_17 : decode cM_isToken 17 = .ok (.ireturn, 1) := by decide +kernel
theorem dM_place_0 : decode cM_place 0 = .ok (.aload_n 0, 1) := by decide +kernel
theorem dM_place_1 : decode cM_place 1 = .ok (.iload_n 1, 1) := by decide +kernel
theorem dM_place_2 : decode cM_place 2 = .ok (.invokevirtual 175, 3) := by decide +kernel
theorem dM_place_5 : decode cM_place 5 = .ok (.ifCond .eq 12, 3) := by decide +kernel
theorem dM_place_8 : decode cM_place 8 = .ok (.aload_n 0, 1) := by decide +kernel
theorem dM_place_9 : decode cM_place 9 = .ok (.getfield 16, 3) := by decide +kernel
theorem dM_place_12 : decode cM_place 12 = .ok (.iload_n 1, 1) := by decide +kernel
theorem dM_place_13 : decode cM_place 13 = .ok (.iaload, 1) := by decide +kernel
theorem dM_place_14 : decode cM_place 14 = .ok (.goto 4, 3) := by decide +kernel
theorem dM_place_17 : decode cM_place 17 = .ok (.iconst (-1), 1) := by decide +kernel
theorem dM_place_18 : decode cM_place 18 = .ok (.ireturn, 1) := by decide +kernel
theorem dM_line_0 : decode cM_line 0 = .ok (.aload_n 0, 1) := by decide +kernel
theorem dM_line_1 : decode cM_line 1 = .ok (.iload_n 1, 1) := by decide +kernel
theorem dM_line_2 : decode cM_line 2 = .ok (.invokevirtual 175, 3) := by decide +kernel
theorem dM_line_5 : decode cM_line 5 = .ok (.ifCond .eq 12, 3) := by decide +kernel
theorem dM_line_8 : decode cM_line 8 = .ok (.aload_n 0, 1) := by decide +kernel
theorem dM_line_9 : decode cM_line 9 = .ok (.getfield 19, 3) := by decide +kernel
theorem dM_line_12 : decode cM_line 12 = .ok (.iload_n 1, 1) := by decide +kernel
theorem dM_line_13 : decode cM_line 13 = .ok (.iaload, 1) := by decide +kernel
theorem dM_line_14 : decode cM_line 14 = .ok (.goto 4, 3) := by decide +kernel
theorem dM_line_17 : decode cM_line 17 = .ok (.iconst (-1), 1) := by decide +kernel
theorem dM_line_18 : decode cM_line 18 = .ok (.ireturn, 1) := by decide +kernel
theorem dM_value_0 : decode cM_value 0 = .ok (.aload_n 0, 1) := by decide +kernel
theorem dM_value_1 : decode cM_value 1 = .ok (.iload_n 1, 1) := by decide +kernel
theorem dM_value_2 : decode cM_value 2 = .ok (.invokevirtual 175, 3) := by decide +kernel
theorem dM_value_5 : decode cM_value 5 = .ok (.ifCond .eq 12, 3) := by decide +kernel
theorem dM_value_8 : decode cM_value 8 = .ok (.aload_n 0, 1) := by decide +kernel
theorem dM_value_9 : decode cM_value 9 = .ok (.getfield 22, 3) := by decide +kernel
theorem dM_value_12 : decode cM_value 12 = .ok (.iload_n 1, 1) := by decide +kernel
theorem dM_value_13 : decode cM_value 13 = .ok (.iaload, 1) := by decide +kernel
theorem dM_value_14 : decode cM_value 14 = .ok (.goto 4, 3) := by decide +kernel
theorem dM_value_17 : decode cM_value 17 = .ok (.iconst 0, 1) := by decide +kernel
theorem dM_value_18 : decode cM_value 18 = .ok (.ireturn, 1) := by decide +kernel
theorem dM_level_0 : decode cM_level 0 = .ok (.aload_n 0, 1) := by decide +kernel
theorem dM_level_1 : decode cM_level 1 = .ok (.iload_n 1, 1) := by decide +kernel
theorem dM_level_2 : decode cM_level 2 = .ok (.invokevirtual 175, 3) := by decide +kernel
theorem dM_level_5 : decode cM_level 5 = .ok (.ifCond .ne 5, 3) := by decide +kernel
theorem dM_level_8 : decode cM_level 8 = .ok (.iconst (-1), 1) := by decide +kernel
theorem dM_level_9 : decode cM_level 9 = .ok (.ireturn, 1) := by decide +kernel
theorem dM_level_10 : decode cM_level 10 = .ok (.aload_n 0, 1) := by decide +kernel
theorem dM_level_11 : decode cM_level 11 = .ok (.getfield 13, 3) := by decide +kernel
theorem dM_level_14 : decode cM_level 14 = .ok (.iload_n 1, 1) := by decide +kernel
theorem dM_level_15 : decode cM_level 15 = .ok (.iaload, 1) := by decide +kernel
theorem dM_level_16 : decode cM_level 16 = .ok (.iconst 4, 1) := by decide +kernel
theorem dM_level_17 : decode cM_level 17 = .ok (.if_icmp .ne 34, 3) := by decide +kernel
theorem dM_level_20 : decode cM_level 20 = .ok (.aload_n 0, 1) := by decide +kernel
theorem dM_level_21 : decode cM_level 21 = .ok (.iload_n 1, 1) := by decide +kernel
theorem dM_level_22 : decode cM_level 22 = .ok (.ldc 178, 2) := by decide +kernel
theorem dM_level_24 : decode cM_level 24 = .ok (.invokevirtual 108, 3) := by decide +kernel
theorem dM_level_27 : decode cM_level 27 = .ok (.ifCond .eq 7, 3) := by decide +kernel
theorem dM_level_30 : decode cM_level 30 = .ok (.iconst 0, 1) := by decide +kernel
theorem dM_level_31 : decode cM_level 31 = .ok (.goto 19, 3) := by decide +kernel
theorem dM_level_34 : decode cM_level 34 = .ok (.aload_n 0, 1) := by decide +kernel
theorem dM_level_35 : decode cM_level 35 = .ok (.iload_n 1, 1) := by decide +kernel
theorem dM_level_36 : decode cM_level 36 = .ok (.ldc 180, 2) := by decide +kernel
theorem dM_level_38 : decode cM_level 38 = .ok (.invokevirtual 108, 3) := by decide +kernel
theorem dM_level_41 : decode cM_level 41 = .ok (.ifCond .eq 8, 3) := by decide +kernel
theorem dM_level_44 : decode cM_level 44 = .ok (.bipush 6, 2) := by decide +kernel
theorem dM_level_46 : decode cM_level 46 = .ok (.goto 4, 3) := by decide +kernel
theorem dM_level_49 : decode cM_level 49 = .ok (.iconst (-1), 1) := by decide +kernel
theorem dM_level_50 : decode cM_level 50 = .ok (.ireturn, 1) := by decide +kernel
theorem dM_level_51 : decode cM_level 51 = .ok (.aload_n 0, 1) := by decide +kernel
theorem dM_level_52 : decode cM_level 52 = .ok (.iload_n 1, 1) := by decide +kernel
theorem dM_level_53 : decode cM_level 53 = .ok (.bipush 124, 2) := by decide +kernel
theorem dM_level_55 : decode cM_level 55 = .ok (.iconst 0, 1) := by decide +kernel
theorem dM_level_56 : decode cM_level 56 = .ok (.invokevirtual 104, 3) := by decide +kernel
theorem dM_level_59 : decode cM_level 59 = .ok (.ifCond .eq 5, 3) := by decide +kernel
theorem dM_level_62 : decode cM_level 62 = .ok (.iconst 1, 1) := by decide +kernel
theorem dM_level_63 : decode cM_level 63 = .ok (.ireturn, 1) := by decide +kernel
theorem dM_level_64 : decode cM_level 64 = .ok (.aload_n 0, 1) := by decide +kernel
theorem dM_level_65 : decode cM_level 65 = .ok (.iload_n 1, 1) := by decide +kernel
theorem dM_level_66 : decode cM_level 66 = .ok (.bipush 38, 2) := by decide +kernel
theorem dM_level_68 : decode cM_level 68 = .ok (.iconst 0, 1) := by decide +kernel
theorem dM_level_69 : decode cM_level 69 = .ok (.invokevirtual 104, 3) := by decide +kernel
theorem dM_level_72 : decode cM_level 72 = .ok (.ifCond .eq 5, 3) := by decide +kernel
theorem dM_level_75 : decode cM_level 75 = .ok (.iconst 2, 1) := by decide +kernel
theorem dM_level_76 : decode cM_level 76 = .ok (.ireturn, 1) := by decide +kernel
theorem dM_level_77 : decode cM_level 77 = .ok (.aload_n 0, 1) := by decide +kernel
theorem dM_level_78 : decode cM_level 78 = .ok (.iload_n 1, 1) := by decide +kernel
theorem dM_level_79 : decode cM_level 79 = .ok (.bipush 60, 2) := by decide +kernel
theorem dM_level_81 : decode cM_level 81 = .ok (.bipush 60, 2) := by decide +kernel
theorem dM_level_83 : decode cM_level 83 = .ok (.invokevirtual 104, 3) := by decide +kernel
theorem dM_level_86 : decode cM_level 86 = .ok (.ifCond .ne 15, 3) := by decide +kernel
theorem dM_level_89 : decode cM_level 89 = .ok (.aload_n 0, 1) := by decide +kernel
theorem dM_level_90 : decode cM_level 90 = .ok (.iload_n 1, 1) := by decide +kernel
theorem dM_level_91 : decode cM_level 91 = .ok (.bipush 62, 2) := by decide +kernel
theorem dM_level_93 : decode cM_level 93 = .ok (.bipush 62, 2) := by decide +kernel
theorem dM_level_95 : decode cM_level 95 = .ok (.invokevirtual 104, 3) := by decide +kernel
theorem dM_level_98 : decode cM_level 98 = .ok (.ifCond .eq 5, 3) := by decide +kernel
theorem dM_level_101 : decode cM_level 101 = .ok (.iconst 3, 1) := by decide +kernel
theorem dM_level_102 : decode cM_level 102 = .ok (.ireturn, 1) := by decide +kernel
theorem dM_level_103 : decode cM_level 103 = .ok (.aload_n 0, 1) := by decide +kernel
theorem dM_level_104 : decode cM_level 104 = .ok (.iload_n 1, 1) := by decide +kernel
theorem dM_level_105 : decode cM_level 105 = .ok (.bipush 61, 2) := by decide +kernel
theorem dM_level_107 : decode cM_level 107 = .ok (.iconst 0, 1) := by decide +kernel
theorem dM_level_108 : decode cM_level 108 = .ok (.invokevirtual 104, 3) := by decide +kernel
theorem dM_level_111 : decode cM_level 111 = .ok (.ifCond .ne 61, 3) := by decide +kernel
theorem dM_level_114 : decode cM_level 114 = .ok (.aload_n 0, 1) := by decide +kernel
theorem dM_level_115 : decode cM_level 115 = .ok (.iload_n 1, 1) := by decide +kernel
theorem dM_level_116 : decode cM_level 116 = .ok (.bipush 126, 2) := by decide +kernel
theorem dM_level_118 : decode cM_level 118 = .ok (.bipush 61, 2) := by decide +kernel
theorem dM_level_120 : decode cM_level 120 = .ok (.invokevirtual 104, 3) := by decide +kernel
theorem dM_level_123 : decode cM_level 123 = .ok (.ifCond .ne 49, 3) := by decide +kernel
theorem dM_level_126 : decode cM_level 126 = .ok (.aload_n 0, 1) := by decide +kernel
theorem dM_level_127 : decode cM_level 127 = .ok (.iload_n 1, 1) := by decide +kernel
theorem dM_level_128 : decode cM_level 128 = .ok (.bipush 60, 2) := by decide +kernel
theorem dM_level_130 : decode cM_level 130 = .ok (.iconst 0, 1) := by decide +kernel
theorem dM_level_131 : decode cM_level 131 = .ok (.invokevirtual 104, 3) := by decide +kernel
theorem dM_level_134 : decode cM_level 134 = .ok (.ifCond .ne 38, 3) := by decide +kernel
theorem dM_level_137 : decode cM_level 137 = .ok (.aload_n 0, 1) := by decide +kernel
theorem dM_level_138 : decode cM_level 138 = .ok (.iload_n 1, 1) := by decide +kernel
theorem dM_level_139 : decode cM_level 139 = .ok (.bipush 60, 2) := by decide +kernel
theorem dM_level_141 : decode cM_level 141 = .ok (.bipush 61, 2) := by decide +kernel
theorem dM_level_143 : decode cM_level 143 = .ok (.invokevirtual 104, 3) := by decide +kernel
theorem dM_level_146 : decode cM_level 146 = .ok (.ifCond .ne 26, 3) := by decide +kernel
theorem dM_level_149 : decode cM_level 149 = .ok (.aload_n 0, 1) := by decide +kernel
theorem dM_level_150 : decode cM_level 150 = .ok (.iload_n 1, 1) := by decide +kernel
theorem dM_level_151 : decode cM_level 151 = .ok (.bipush 62, 2) := by decide +kernel
theorem dM_level_153 : decode cM_level 153 = .ok (.iconst 0, 1) := by decide +kernel
theorem dM_level_154 : decode cM_level 154 = .ok (.invokevirtual 104, 3) := by decide +kernel
theorem dM_level_157 : decode cM_level 157 = .ok (.ifCond .ne 15, 3) := by decide +kernel
theorem dM_level_160 : decode cM_level 160 = .ok (.aload_n 0, 1) := by decide +kernel
theorem dM_level_161 : decode cM_level 161 = .ok (.iload_n 1, 1) := by decide +kernel
theorem dM_level_162 : decode cM_level 162 = .ok (.bipush 62, 2) := by decide +kernel
theorem dM_level_164 : decode cM_level 164 = .ok (.bipush 61, 2) := by decide +kernel
theorem dM_level_166 : decode cM_level 166 = .ok (.invokevirtual 104, 3) := by decide +kernel
theorem dM_level_169 : decode cM_level 169 = .ok (.ifCond .eq 5, 3) := by decide +kernel
theorem dM_level_172 : decode cM_level 172 = .ok (.iconst 4, 1) := by decide +kernel
theorem dM_level_173 : decode cM_level 173 = .ok (.ireturn, 1) := by decide +kernel
theorem dM_level_174 : decode cM_level 174 = .ok (.aload_n 0, 1) := by decide +kernel
theorem dM_level_175 : decode cM_level 175 = .ok (.iload_n 1, 1) := by decide +kernel
theorem dM_level_176 : decode cM_level 176 = .ok (.bipush 43, 2) := by decide +kernel
theorem dM_level_178 : decode cM_level 178 = .ok (.iconst 0, 1) := by decide +kernel
theorem dM_level_179 : decode cM_level 179 = .ok (.invokevirtual 104, 3) := by decide +kernel
theorem dM_level_182 : decode cM_level 182 = .ok (.ifCond .ne 14, 3) := by decide +kernel
theorem dM_level_185 : decode cM_level 185 = .ok (.aload_n 0, 1) := by decide +kernel
theorem dM_level_186 : decode cM_level 186 = .ok (.iload_n 1, 1) := by decide +kernel
theorem dM_level_187 : decode cM_level 187 = .ok (.bipush 45, 2) := by decide +kernel
theorem dM_level_189 : decode cM_level 189 = .ok (.iconst 0, 1) := by decide +kernel
theorem dM_level_190 : decode cM_level 190 = .ok (.invokevirtual 104, 3) := by decide +kernel
theorem dM_level_193 : decode cM_level 193 = .ok (.ifCond .eq 5, 3) := by decide +kernel
theorem dM_level_196 : decode cM_level 196 = .ok (.iconst 5, 1) := by decide +kernel
theorem dM_level_197 : decode cM_level 197 = .ok (.ireturn, 1) := by decide +kernel
theorem dM_level_198 : decode cM_level 198 = .ok (.aload_n 0, 1) := by decide +kernel
theorem dM_level_199 : decode cM_level 199 = .ok (.iload_n 1, 1) := by decide +kernel
theorem dM_level_200 : decode cM_level 200 = .ok (.bipush 42, 2) := by decide +kernel
theorem dM_level_202 : decode cM_level 202 = .ok (.iconst 0, 1) := by decide +kernel
theorem dM_level_203 : decode cM_level 203 = .ok (.invokevirtual 104, 3) := by decide +kernel
theorem dM_level_206 : decode cM_level 206 = .ok (.ifCond .ne 14, 3) := by decide +kernel
theorem dM_level_209 : decode cM_level 209 = .ok (.aload_n 0, 1) := by decide +kernel
theorem dM_level_210 : decode cM_level 210 = .ok (.iload_n 1, 1) := by decide +kernel
theorem dM_level_211 : decode cM_level 211 = .ok (.bipush 47, 2) := by decide +kernel
theorem dM_level_213 : decode cM_level 213 = .ok (.iconst 0, 1) := by decide +kernel
theorem dM_level_214 : decode cM_level 214 = .ok (.invokevirtual 104, 3) := by decide +kernel
theorem dM_level_217 : decode cM_level 217 = .ok (.ifCond .eq 8, 3) := by decide +kernel
theorem dM_level_220 : decode cM_level 220 = .ok (.bipush 6, 2) := by decide +kernel
theorem dM_level_222 : decode cM_level 222 = .ok (.goto 4, 3) := by decide +kernel
theorem dM_level_225 : decode cM_level 225 = .ok (.iconst (-1), 1) := by decide +kernel
theorem dM_level_226 : decode cM_level 226 = .ok (.ireturn, 1) := by decide +kernel
theorem dM_size_0 : decode cM_size 0 = .ok (.aload_n 0, 1) := by decide +kernel
theorem dM_size_1 : decode cM_size 1 = .ok (.iload_n 1, 1) := by decide +kernel
theorem dM_size_2 : decode cM_size 2 = .ok (.invokevirtual 175, 3) := by decide +kernel
theorem dM_size_5 : decode cM_size 5 = .ok (.ifCond .eq 12, 3) := by decide +kernel
theorem dM_size_8 : decode cM_size 8 = .ok (.aload_n 0, 1) := by decide +kernel
theorem dM_size_9 : decode cM_size 9 = .ok (.getfield 28, 3) := by decide +kernel
theorem dM_size_12 : decode cM_size 12 = .ok (.iload_n 1, 1) := by decide +kernel
theorem dM_size_13 : decode cM_size 13 = .ok (.iaload, 1) := by decide +kernel
theorem dM_size_14 : decode cM_size 14 = .ok (.goto 4, 3) := by decide +kernel
theorem dM_size_17 : decode cM_size 17 = .ok (.iconst (-1), 1) := by decide +kernel
theorem dM_size_18 : decode cM_size 18 = .ok (.ireturn, 1) := by decide +kernel
theorem dM_textAt_0 : decode cM_textAt 0 = .ok (.aload_n 0, 1) := by decide +kernel
theorem dM_textAt_1 : decode cM_textAt 1 = .ok (.iload_n 1, 1) := by decide +kernel
theorem dM_textAt_2 : decode cM_textAt 2 = .ok (.invokevirtual 175, 3) := by decide +kernel
theorem dM_textAt_5 : decode cM_textAt 5 = .ok (.ifCond .eq 33, 3) := by decide +kernel
theorem dM_textAt_8 : decode cM_textAt 8 = .ok (.iload_n 2, 1) := by decide +kernel
theorem dM_textAt_9 : decode cM_textAt 9 = .ok (.ifCond .lt 29, 3) := by decide +kernel
theorem dM_textAt_12 : decode cM_textAt 12 = .ok (.iload_n 2, 1) := by decide +kernel
theorem dM_textAt_13 : decode cM_textAt 13 = .ok (.aload_n 0, 1) := by decide +kernel
theorem dM_textAt_14 : decode cM_textAt 14 = .ok (.getfield 28, 3) := by decide +kernel
theorem dM_textAt_17 : decode cM_textAt 17 = .ok (.iload_n 1, 1) := by decide +kernel
theorem dM_textAt_18 : decode cM_textAt 18 = .ok (.iaload, 1) := by decide +kernel
theorem dM_textAt_19 : decode cM_textAt 19 = .ok (.if_icmp .ge 19, 3) := by decide +kernel
theorem dM_textAt_22 : decode cM_textAt 22 = .ok (.aload_n 0, 1) := by decide +kernel
theorem dM_textAt_23 : decode cM_textAt 23 = .ok (.getfield 31, 3) := by decide +kernel
theorem dM_textAt_26 : decode cM_textAt 26 = .ok (.aload_n 0, 1) := by decide +kernel
theorem dM_textAt_27 : decode cM_textAt 27 = .ok (.getfield 25, 3) := by decide +kernel
theorem dM_textAt_30 : decode cM_textAt 30 = .ok (.iload_n 1, 1) := by decide +kernel
theorem dM_textAt_31 : decode cM_textAt 31 = .ok (.iaload, 1) := by decide +kernel
theorem dM_textAt_32 : decode cM_textAt 32 = .ok (.iload_n 2, 1) := by decide +kernel
theorem dM_textAt_33 : decode cM_textAt 33 = .ok (.iadd, 1) := by decide +kernel
theorem dM_textAt_34 : decode cM_textAt 34 = .ok (.iaload, 1) := by decide +kernel
theorem dM_textAt_35 : decode cM_textAt 35 = .ok (.goto 4, 3) := by decide +kernel
theorem dM_textAt_38 : decode cM_textAt 38 = .ok (.iconst (-1), 1) := by decide +kernel
theorem dM_textAt_39 : decode cM_textAt 39 = .ok (.ireturn, 1) := by decide +kernel
end
section
theorem dL_0 : decode code 0 = .ok (.new 7, 3) := by decide +kernel
theorem dL_3 : decode code 3 = .ok (.dup, 1) := by decide +kernel
theorem dL_4 : decode code 4 = .ok (.invokespecial 9, 3) := by decide +kernel
theorem dL_7 : decode code 7 = .ok (.astore_n 1, 1) := by decide +kernel
theorem dL_8 : decode code 8 = .ok (.new 10, 3) := by decide +kernel
theorem dL_11 : decode code 11 = .ok (.dup, 1) := by decide +kernel
theorem dL_12 : decode code 12 = .ok (.invokespecial 12, 3) := by decide +kernel
theorem dL_15 : decode code 15 = .ok (.astore_n 2, 1) := by decide +kernel
theorem dL_16 : decode code 16 = .ok (.iconst 0, 1) := by decide +kernel
theorem dL_17 : decode code 17 = .ok (.istore_n 3, 1) := by decide +kernel
theorem dL_18 : decode code 18 = .ok (.iload_n 3, 1) := by decide +kernel
theorem dL_19 : decode code 19 = .ok (.aload_n 0, 1) := by decide +kernel
theorem dL_20 : decode code 20 = .ok (.arraylength, 1) := by decide +kernel
theorem dL_21 : decode code 21 = .ok (.bipush 6, 2) := by decide +kernel
theorem dL_23 : decode code 23 = .ok (.isub, 1) := by decide +kernel
theorem dL_24 : decode code 24 = .ok (.if_icmp .gt 340, 3) := by decide +kernel
theorem dL_27 : decode code 27 = .ok (.aload_n 0, 1) := by decide +kernel
theorem dL_28 : decode code 28 = .ok (.iload_n 3, 1) := by decide +kernel
theorem dL_29 : decode code 29 = .ok (.iaload, 1) := by decide +kernel
theorem dL_30 : decode code 30 = .ok (.bipush 15, 2) := by decide +kernel
theorem dL_32 : decode code 32 = .ok (.iand, 1) := by decide +kernel
theorem dL_33 : decode code 33 = .ok (.tableswitch 325 0 9 #[55, 118, 141, 154, 177, 200, 223, 246, 269, 292], 55) := by decide +kernel
theorem dL_88 : decode code 88 = .ok (.aload_n 1, 1) := by decide +kernel
theorem dL_89 : decode code 89 = .ok (.aload_n 0, 1) := by decide +kernel
theorem dL_90 : decode code 90 = .ok (.iload_n 3, 1) := by decide +kernel
theorem dL_91 : decode code 91 = .ok (.iconst 1, 1) := by decide +kernel
theorem dL_92 : decode code 92 = .ok (.iadd, 1) := by decide +kernel
theorem dL_93 : decode code 93 = .ok (.iaload, 1) := by decide +kernel
theorem dL_94 : decode code 94 = .ok (.aload_n 0, 1) := by decide +kernel
theorem dL_95 : decode code 95 = .ok (.iload_n 3, 1) := by decide +kernel
theorem dL_96 : decode code 96 = .ok (.iconst 2, 1) := by decide +kernel
theorem dL_97 : decode code 97 = .ok (.iadd, 1) := by decide +kernel
theorem dL_98 : decode code 98 = .ok (.iaload, 1) := by decide +kernel
theorem dL_99 : decode code 99 = .ok (.aload_n 0, 1) := by decide +kernel
theorem dL_100 : decode code 100 = .ok (.iload_n 3, 1) := by decide +kernel
theorem dL_101 : decode code 101 = .ok (.iconst 3, 1) := by decide +kernel
theorem dL_102 : decode code 102 = .ok (.iadd, 1) := by decide +kernel
theorem dL_103 : decode code 103 = .ok (.iaload, 1) := by decide +kernel
theorem dL_104 : decode code 104 = .ok (.aload_n 0, 1) := by decide +kernel
theorem dL_105 : decode code 105 = .ok (.iload_n 3, 1) := by decide +kernel
theorem dL_106 : decode code 106 = .ok (.iconst 4, 1) := by decide +kernel
theorem dL_107 : decode code 107 = .ok (.iadd, 1) := by decide +kernel
theorem dL_108 : decode code 108 = .ok (.iaload, 1) := by decide +kernel
theorem dL_109 : decode code 109 = .ok (.aload_n 0, 1) := by decide +kernel
theorem dL_110 : decode code 110 = .ok (.iload_n 3, 1) := by decide +kernel
theorem dL_111 : decode code 111 = .ok (.iconst 5, 1) := by decide +kernel
theorem dL_112 : decode code 112 = .ok (.iadd, 1) := by decide +kernel
theorem dL_113 : decode code 113 = .ok (.iaload, 1) := by decide +kernel
theorem dL_114 : decode code 114 = .ok (.invokevirtual 13, 3) := by decide +kernel
theorem dL_117 : decode code 117 = .ok (.aload_n 2, 1) := by decide +kernel
theorem dL_118 : decode code 118 = .ok (.aload_n 0, 1) := by decide +kernel
theorem dL_119 : decode code 119 = .ok (.iload_n 3, 1) := by decide +kernel
theorem dL_120 : decode code 120 = .ok (.iconst 1, 1) := by decide +kernel
theorem dL_121 : decode code 121 = .ok (.iadd, 1) := by decide +kernel
theorem dL_122 : decode code 122 = .ok (.iaload, 1) := by decide +kernel
theorem dL_123 : decode code 123 = .ok (.aload_n 0, 1) := by decide +kernel
theorem dL_124 : decode code 124 = .ok (.iload_n 3, 1) := by decide +kernel
theorem dL_125 : decode code 125 = .ok (.iconst 2, 1) := by decide +kernel
theorem dL_126 : decode code 126 = .ok (.iadd, 1) := by decide +kernel
theorem dL_127 : decode code 127 = .ok (.iaload, 1) := by decide +kernel
theorem dL_128 : decode code 128 = .ok (.aload_n 0, 1) := by decide +kernel
theorem dL_129 : decode code 129 = .ok (.iload_n 3, 1) := by decide +kernel
theorem dL_130 : decode code 130 = .ok (.iconst 3, 1) := by decide +kernel
theorem dL_131 : decode code 131 = .ok (.iadd, 1) := by decide +kernel
theorem dL_132 : decode code 132 = .ok (.iaload, 1) := by decide +kernel
theorem dL_133 : decode code 133 = .ok (.aload_n 0, 1) := by decide +kernel
theorem dL_134 : decode code 134 = .ok (.iload_n 3, 1) := by decide +kernel
theorem dL_135 : decode code 135 = .ok (.iconst 4, 1) := by decide +kernel
theorem dL_136 : decode code 136 = .ok (.iadd, 1) := by decide +kernel
theorem dL_137 : decode code 137 = .ok (.iaload, 1) := by decide +kernel
theorem dL_138 : decode code 138 = .ok (.aload_n 0, 1) := by decide +kernel
theorem dL_139 : decode code 139 = .ok (.iload_n 3, 1) := by decide +kernel
theorem dL_140 : decode code 140 = .ok (.iconst 5, 1) := by decide +kernel
theorem dL_141 : decode code 141 = .ok (.iadd, 1) := by decide +kernel
theorem dL_142 : decode code 142 = .ok (.iaload, 1) := by decide +kernel
theorem dL_143 : decode code 143 = .ok (.invokevirtual 17, 3) := by decide +kernel
theorem dL_146 : decode code 146 = .ok (.if_icmp .eq 212, 3) := by decide +kernel
theorem dL_149 : decode code 149 = .ok (.iconst 0, 1) := by decide +kernel
theorem dL_150 : decode code 150 = .ok (.ireturn, 1) := by decide +kernel
theorem dL_151 : decode code 151 = .ok (.aload_n 1, 1) := by decide +kernel
theorem dL_152 : decode code 152 = .ok (.aload_n 0, 1) := by decide +kernel
theorem dL_153 : decode code 153 = .ok (.iload_n 3, 1) := by decide +kernel
theorem dL_154 : decode code 154 = .ok (.iconst 1, 1) := by decide +kernel
theorem dL_155 : decode code 155 = .ok (.iadd, 1) := by decide +kernel
theorem dL_156 : decode code 156 = .ok (.iaload, 1) := by decide +kernel
theorem dL_157 : decode code 157 = .ok (.invokevirtual 18, 3) := by decide +kernel
theorem dL_160 : decode code 160 = .ok (.aload_n 2, 1) := by decide +kernel
theorem dL_161 : decode code 161 = .ok (.aload_n 0, 1) := by decide +kernel
theorem dL_162 : decode code 162 = .ok (.iload_n 3, 1) := by decide +kernel
theorem dL_163 : decode code 163 = .ok (.iconst 1, 1) := by decide +kernel
theorem dL_164 : decode code 164 = .ok (.iadd, 1) := by decide +kernel
theorem dL_165 : decode code 165 = .ok (.iaload, 1) := by decide +kernel
theorem dL_166 : decode code 166 = .ok (.invokevirtual 22, 3) := by decide +kernel
theorem dL_169 : decode code 169 = .ok (.if_icmp .eq 189, 3) := by decide +kernel
theorem dL_172 : decode code 172 = .ok (.iconst 0, 1) := by decide +kernel
theorem dL_173 : decode code 173 = .ok (.ireturn, 1) := by decide +kernel
theorem dL_174 : decode code 174 = .ok (.aload_n 1, 1) := by decide +kernel
theorem dL_175 : decode code 175 = .ok (.invokevirtual 23, 3) := by decide +kernel
theorem dL_178 : decode code 178 = .ok (.aload_n 2, 1) := by decide +kernel
theorem dL_179 : decode code 179 = .ok (.invokevirtual 27, 3) := by decide +kernel
theorem dL_182 : decode code 182 = .ok (.if_icmp .eq 176, 3) := by decide +kernel
theorem dL_185 : decode code 185 = .ok (.iconst 0, 1) := by decide +kernel
theorem dL_186 : decode code 186 = .ok (.ireturn, 1) := by decide +kernel
theorem dL_187 : decode code 187 = .ok (.aload_n 1, 1) := by decide +kernel
theorem dL_188 : decode code 188 = .ok (.aload_n 0, 1) := by decide +kernel
theorem dL_189 : decode code 189 = .ok (.iload_n 3, 1) := by decide +kernel
theorem dL_190 : decode code 190 = .ok (.iconst 1, 1) := by decide +kernel
theorem dL_191 : decode code 191 = .ok (.iadd, 1) := by decide +kernel
theorem dL_192 : decode code 192 = .ok (.iaload, 1) := by decide +kernel
theorem dL_193 : decode code 193 = .ok (.invokevirtual 28, 3) := by decide +kernel
theorem dL_196 : decode code 196 = .ok (.aload_n 2, 1) := by decide +kernel
theorem dL_197 : decode code 197 = .ok (.aload_n 0, 1) := by decide +kernel
theorem dL_198 : decode code 198 = .ok (.iload_n 3, 1) := by decide +kernel
theorem dL_199 : decode code 199 = .ok (.iconst 1, 1) := by decide +kernel
theorem dL_200 : decode code 200 = .ok (.iadd, 1) := by decide +kernel
theorem dL_201 : decode code 201 = .ok (.iaload, 1) := by decide +kernel
theorem dL_202 : decode code 202 = .ok (.invokevirtual 32, 3) := by decide +kernel
theorem dL_205 : decode code 205 = .ok (.if_icmp .eq 153, 3) := by decide +kernel
theorem dL_208 : decode code 208 = .ok (.iconst 0, 1) := by decide +kernel
theorem dL_209 : decode code 209 = .ok (.ireturn, 1) := by decide +kernel
theorem dL_210 : decode code 210 = .ok (.aload_n 1, 1) := by decide +kernel
theorem dL_211 : decode code 211 = .ok (.aload_n 0, 1) := by decide +kernel
theorem dL_212 : decode code 212 = .ok (.iload_n 3, 1) := by decide +kernel
theorem dL_213 : decode code 213 = .ok (.iconst 1, 1) := by decide +kernel
theorem dL_214 : decode code 214 = .ok (.iadd, 1) := by decide +kernel
theorem dL_215 : decode code 215 = .ok (.iaload, 1) := by decide +kernel
theorem dL_216 : decode code 216 = .ok (.invokevirtual 33, 3) := by decide +kernel
theorem dL_219 : decode code 219 = .ok (.aload_n 2, 1) := by decide +kernel
theorem dL_220 : decode code 220 = .ok (.aload_n 0, 1) := by decide +kernel
theorem dL_221 : decode code 221 = .ok (.iload_n 3, 1) := by decide +kernel
theorem dL_222 : decode code 222 = .ok (.iconst 1, 1) := by decide +kernel
theorem dL_223 : decode code 223 = .ok (.iadd, 1) := by decide +kernel
theorem dL_224 : decode code 224 = .ok (.iaload, 1) := by decide +kernel
theorem dL_225 : decode code 225 = .ok (.invokevirtual 36, 3) := by decide +kernel
theorem dL_228 : decode code 228 = .ok (.if_icmp .eq 130, 3) := by decide +kernel
theorem dL_231 : decode code 231 = .ok (.iconst 0, 1) := by decide +kernel
theorem dL_232 : decode code 232 = .ok (.ireturn, 1) := by decide +kernel
theorem dL_233 : decode code 233 = .ok (.aload_n 1, 1) := by decide +kernel
theorem dL_234 : decode code 234 = .ok (.aload_n 0, 1) := by decide +kernel
theorem dL_235 : decode code 235 = .ok (.iload_n 3, 1) := by decide +kernel
theorem dL_236 : decode code 236 = .ok (.iconst 1, 1) := by decide +kernel
theorem dL_237 : decode code 237 = .ok (.iadd, 1) := by decide +kernel
theorem dL_238 : decode code 238 = .ok (.iaload, 1) := by decide +kernel
theorem dL_239 : decode code 239 = .ok (.invokevirtual 37, 3) := by decide +kernel
theorem dL_242 : decode code 242 = .ok (.aload_n 2, 1) := by decide +kernel
theorem dL_243 : decode code 243 = .ok (.aload_n 0, 1) := by decide +kernel
theorem dL_244 : decode code 244 = .ok (.iload_n 3, 1) := by decide +kernel
theorem dL_245 : decode code 245 = .ok (.iconst 1, 1) := by decide +kernel
theorem dL_246 : decode code 246 = .ok (.iadd, 1) := by decide +kernel
theorem dL_247 : decode code 247 = .ok (.iaload, 1) := by decide +kernel
theorem dL_248 : decode code 248 = .ok (.invokevirtual 40, 3) := by decide +kernel
theorem dL_251 : decode code 251 = .ok (.if_icmp .eq 107, 3) := by decide +kernel
theorem dL_254 : decode code 254 = .ok (.iconst 0, 1) := by decide +kernel
theorem dL_255 : decode code 255 = .ok (.ireturn, 1) := by decide +kernel
theorem dL_256 : decode code 256 = .ok (.aload_n 1, 1) := by decide +kernel
theorem dL_257 : decode code 257 = .ok (.aload_n 0, 1) := by decide +kernel
theorem dL_258 : decode code 258 = .ok (.iload_n 3, 1) := by decide +kernel
theorem dL_259 : decode code 259 = .ok (.iconst 1, 1) := by decide +kernel
theorem dL_260 : decode code 260 = .ok (.iadd, 1) := by decide +kernel
theorem dL_261 : decode code 261 = .ok (.iaload, 1) := by decide +kernel
theorem dL_262 : decode code 262 = .ok (.invokevirtual 41, 3) := by decide +kernel
theorem dL_265 : decode code 265 = .ok (.aload_n 2, 1) := by decide +kernel
theorem dL_266 : decode code 266 = .ok (.aload_n 0, 1) := by decide +kernel
theorem dL_267 : decode code 267 = .ok (.iload_n 3, 1) := by decide +kernel
theorem dL_268 : decode code 268 = .ok (.iconst 1, 1) := by decide +kernel
theorem dL_269 : decode code 269 = .ok (.iadd, 1) := by decide +kernel
theorem dL_270 : decode code 270 = .ok (.iaload, 1) := by decide +kernel
theorem dL_271 : decode code 271 = .ok (.invokevirtual 44, 3) := by decide +kernel
theorem dL_274 : decode code 274 = .ok (.if_icmp .eq 84, 3) := by decide +kernel
theorem dL_277 : decode code 277 = .ok (.iconst 0, 1) := by decide +kernel
theorem dL_278 : decode code 278 = .ok (.ireturn, 1) := by decide +kernel
theorem dL_279 : decode code 279 = .ok (.aload_n 1, 1) := by decide +kernel
theorem dL_280 : decode code 280 = .ok (.aload_n 0, 1) := by decide +kernel
theorem dL_281 : decode code 281 = .ok (.iload_n 3, 1) := by decide +kernel
theorem dL_282 : decode code 282 = .ok (.iconst 1, 1) := by decide +kernel
theorem dL_283 : decode code 283 = .ok (.iadd, 1) := by decide +kernel
theorem dL_284 : decode code 284 = .ok (.iaload, 1) := by decide +kernel
theorem dL_285 : decode code 285 = .ok (.invokevirtual 45, 3) := by decide +kernel
theorem dL_288 : decode code 288 = .ok (.aload_n 2, 1) := by decide +kernel
theorem dL_289 : decode code 289 = .ok (.aload_n 0, 1) := by decide +kernel
theorem dL_290 : decode code 290 = .ok (.iload_n 3, 1) := by decide +kernel
theorem dL_291 : decode code 291 = .ok (.iconst 1, 1) := by decide +kernel
theorem dL_292 : decode code 292 = .ok (.iadd, 1) := by decide +kernel
theorem dL_293 : decode code 293 = .ok (.iaload, 1) := by decide +kernel
theorem dL_294 : decode code 294 = .ok (.invokevirtual 48, 3) := by decide +kernel
theorem dL_297 : decode code 297 = .ok (.if_icmp .eq 61, 3) := by decide +kernel
theorem dL_300 : decode code 300 = .ok (.iconst 0, 1) := by decide +kernel
theorem dL_301 : decode code 301 = .ok (.ireturn, 1) := by decide +kernel
theorem dL_302 : decode code 302 = .ok (.aload_n 1, 1) := by decide +kernel
theorem dL_303 : decode code 303 = .ok (.aload_n 0, 1) := by decide +kernel
theorem dL_304 : decode code 304 = .ok (.iload_n 3, 1) := by decide +kernel
theorem dL_305 : decode code 305 = .ok (.iconst 1, 1) := by decide +kernel
theorem dL_306 : decode code 306 = .ok (.iadd, 1) := by decide +kernel
theorem dL_307 : decode code 307 = .ok (.iaload, 1) := by decide +kernel
theorem dL_308 : decode code 308 = .ok (.invokevirtual 49, 3) := by decide +kernel
theorem dL_311 : decode code 311 = .ok (.aload_n 2, 1) := by decide +kernel
theorem dL_312 : decode code 312 = .ok (.aload_n 0, 1) := by decide +kernel
theorem dL_313 : decode code 313 = .ok (.iload_n 3, 1) := by decide +kernel
theorem dL_314 : decode code 314 = .ok (.iconst 1, 1) := by decide +kernel
theorem dL_315 : decode code 315 = .ok (.iadd, 1) := by decide +kernel
theorem dL_316 : decode code 316 = .ok (.iaload, 1) := by decide +kernel
theorem dL_317 : decode code 317 = .ok (.invokevirtual 52, 3) := by decide +kernel
theorem dL_320 : decode code 320 = .ok (.if_icmp .eq 38, 3) := by decide +kernel
theorem dL_323 : decode code 323 = .ok (.iconst 0, 1) := by decide +kernel
theorem dL_324 : decode code 324 = .ok (.ireturn, 1) := by decide +kernel
theorem dL_325 : decode code 325 = .ok (.aload_n 1, 1) := by decide +kernel
theorem dL_326 : decode code 326 = .ok (.aload_n 0, 1) := by decide +kernel
theorem dL_327 : decode code 327 = .ok (.iload_n 3, 1) := by decide +kernel
theorem dL_328 : decode code 328 = .ok (.iconst 1, 1) := by decide +kernel
theorem dL_329 : decode code 329 = .ok (.iadd, 1) := by decide +kernel
theorem dL_330 : decode code 330 = .ok (.iaload, 1) := by decide +kernel
theorem dL_331 : decode code 331 = .ok (.aload_n 0, 1) := by decide +kernel
theorem dL_332 : decode code 332 = .ok (.iload_n 3, 1) := by decide +kernel
theorem dL_333 : decode code 333 = .ok (.iconst 2, 1) := by decide +kernel
theorem dL_334 : decode code 334 = .ok (.iadd, 1) := by decide +kernel
theorem dL_335 : decode code 335 = .ok (.iaload, 1) := by decide +kernel
theorem dL_336 : decode code 336 = .ok (.invokevirtual 53, 3) := by decide +kernel
theorem dL_339 : decode code 339 = .ok (.aload_n 2, 1) := by decide +kernel
theorem dL_340 : decode code 340 = .ok (.aload_n 0, 1) := by decide +kernel
theorem dL_341 : decode code 341 = .ok (.iload_n 3, 1) := by decide +kernel
theorem dL_342 : decode code 342 = .ok (.iconst 1, 1) := by decide +kernel
theorem dL_343 : decode code 343 = .ok (.iadd, 1) := by decide +kernel
theorem dL_344 : decode code 344 = .ok (.iaload, 1) := by decide +kernel
theorem dL_345 : decode code 345 = .ok (.aload_n 0, 1) := by decide +kernel
theorem dL_346 : decode code 346 = .ok (.iload_n 3, 1) := by decide +kernel
theorem dL_347 : decode code 347 = .ok (.iconst 2, 1) := by decide +kernel
theorem dL_348 : decode code 348 = .ok (.iadd, 1) := by decide +kernel
theorem dL_349 : decode code 349 = .ok (.iaload, 1) := by decide +kernel
theorem dL_350 : decode code 350 = .ok (.invokevirtual 57, 3) := by decide +kernel
theorem dL_353 : decode code 353 = .ok (.if_icmp .eq 5, 3) := by decide +kernel
theorem dL_356 : decode code 356 = .ok (.iconst 0, 1) := by decide +kernel
theorem dL_357 : decode code 357 = .ok (.ireturn, 1) := by decide +kernel
theorem dL_358 : decode code 358 = .ok (.iinc 3 6, 3) := by decide +kernel
theorem dL_361 : decode code 361 = .ok (.goto (-343), 3) := by decide +kernel
theorem dL_364 : decode code 364 = .ok (.iconst 1, 1) := by decide +kernel
theorem dL_365 : decode code 365 = .ok (.ireturn, 1) := by decide +kernel
end
section
/-! ===== the constants: texts by their places, the table of levels ===== -/
abbrev kz_Z : Type := Nat × (Nat → Nat) × (Nat → Nat)
def lenK : List Nat := [44, 101, 86, 61, 5, 9, 46, 232, 45, 146, 10, 5]
def bytK : List (List Int32) := [[84, 82, 85, 69, 32, 70, 65, 76, 83, 69, 32, 66, 82, 69, 65, 75, 32, 76, 79, 79, 80, 32, 69, 78, 68, 67, 65, 83, 69, 32, 82, 69, 84, 85, 82, 78, 32, 70, 73, 78, 73, 83, 72, 32],
  [86, 65, 76, 79, 70, 32, 84, 65, 66, 76, 69, 32, 73, 70, 32, 85, 78, 76, 69, 83, 83, 32, 84, 69, 83, 84, 32, 87, 72, 73, 76, 69, 32, 85, 78, 84, 73, 76, 32, 70, 79, 82, 32, 83, 87, 73, 84, 67, 72, 79, 78, 32, 67, 65, 83, 69, 32, 68, 69, 70, 65, 85, 76, 84, 32, 82, 69, 83, 85, 76, 84, 73, 83, 32, 76, 69, 84, 32, 71, 76, 79, 66, 65, 76, 32, 77, 65, 78, 73, 70, 69, 83, 84, 32, 83, 84, 65, 84, 73, 67, 32],
  [82, 69, 77, 32, 69, 81, 86, 32, 78, 69, 81, 86, 32, 78, 79, 84, 32, 65, 78, 68, 32, 66, 69, 32, 86, 69, 67, 32, 68, 79, 32, 84, 72, 69, 78, 32, 79, 82, 32, 69, 76, 83, 69, 32, 84, 79, 32, 66, 89, 32, 73, 78, 84, 79, 32, 82, 69, 80, 69, 65, 84, 32, 82, 69, 80, 69, 65, 84, 87, 72, 73, 76, 69, 32, 82, 69, 80, 69, 65, 84, 85, 78, 84, 73, 76, 32],
  [36, 40, 32, 36, 41, 32, 40, 32, 41, 32, 44, 32, 59, 32, 58, 61, 32, 58, 32, 33, 32, 64, 32, 43, 32, 45, 32, 42, 32, 47, 32, 61, 32, 126, 61, 32, 60, 32, 60, 61, 32, 62, 32, 62, 61, 32, 60, 60, 32, 62, 62, 32, 126, 32, 38, 32, 124, 32, 45, 62, 32],
  [36, 41, 32, 41, 32],
  [40, 32, 33, 32, 64, 32, 36, 40, 32],
  [69, 81, 86, 32, 78, 69, 81, 86, 32, 124, 32, 38, 32, 60, 60, 32, 62, 62, 32, 61, 32, 126, 61, 32, 60, 32, 60, 61, 32, 62, 32, 62, 61, 32, 43, 32, 45, 32, 42, 32, 47, 32, 82, 69, 77, 32],
  [32, 84, 82, 85, 69, 32, 70, 65, 76, 83, 69, 32, 82, 69, 77, 32, 69, 81, 86, 32, 78, 69, 81, 86, 32, 78, 79, 84, 32, 86, 65, 76, 79, 70, 32, 84, 65, 66, 76, 69, 32, 73, 70, 32, 85, 78, 76, 69, 83, 83, 32, 84, 69, 83, 84, 32, 87, 72, 73, 76, 69, 32, 85, 78, 84, 73, 76, 32, 70, 79, 82, 32, 83, 87, 73, 84, 67, 72, 79, 78, 32, 67, 65, 83, 69, 32, 68, 69, 70, 65, 85, 76, 84, 32, 66, 82, 69, 65, 75, 32, 76, 79, 79, 80, 32, 69, 78, 68, 67, 65, 83, 69, 32, 82, 69, 84, 85, 82, 78, 32, 82, 69, 83, 85, 76, 84, 73, 83, 32, 70, 73, 78, 73, 83, 72, 32, 76, 69, 84, 32, 65, 78, 68, 32, 66, 69, 32, 71, 76, 79, 66, 65, 76, 32, 77, 65, 78, 73, 70, 69, 83, 84, 32, 83, 84, 65, 84, 73, 67, 32, 86, 69, 67, 32, 68, 79, 32, 84, 72, 69, 78, 32, 79, 82, 32, 69, 76, 83, 69, 32, 84, 79, 32, 66, 89, 32, 73, 78, 84, 79, 32, 82, 69, 80, 69, 65, 84, 32, 82, 69, 80, 69, 65, 84, 87, 72, 73, 76, 69, 32, 82, 69, 80, 69, 65, 84, 85, 78, 84, 73, 76, 32],
  [32, 84, 82, 85, 69, 32, 70, 65, 76, 83, 69, 32, 66, 82, 69, 65, 75, 32, 76, 79, 79, 80, 32, 69, 78, 68, 67, 65, 83, 69, 32, 82, 69, 84, 85, 82, 78, 32, 70, 73, 78, 73, 83, 72, 32],
  [32, 84, 82, 85, 69, 32, 70, 65, 76, 83, 69, 32, 86, 65, 76, 79, 70, 32, 84, 65, 66, 76, 69, 32, 73, 70, 32, 85, 78, 76, 69, 83, 83, 32, 84, 69, 83, 84, 32, 87, 72, 73, 76, 69, 32, 85, 78, 84, 73, 76, 32, 70, 79, 82, 32, 83, 87, 73, 84, 67, 72, 79, 78, 32, 67, 65, 83, 69, 32, 68, 69, 70, 65, 85, 76, 84, 32, 66, 82, 69, 65, 75, 32, 76, 79, 79, 80, 32, 69, 78, 68, 67, 65, 83, 69, 32, 82, 69, 84, 85, 82, 78, 32, 82, 69, 83, 85, 76, 84, 73, 83, 32, 70, 73, 78, 73, 83, 72, 32, 76, 69, 84, 32, 71, 76, 79, 66, 65, 76, 32, 77, 65, 78, 73, 70, 69, 83, 84, 32, 83, 84, 65, 84, 73, 67, 32],
  [32, 69, 81, 86, 32, 78, 69, 81, 86, 32],
  [32, 82, 69, 77, 32]]
def strK : List (String × Nat × String) := [("TokenRow", 159, "TRUE FALSE BREAK LOOP ENDCASE RETURN FINISH "),
  ("TokenRow", 161, "VALOF TABLE IF UNLESS TEST WHILE UNTIL FOR SWITCHON CASE DEFAULT RESULTIS LET GLOBAL MANIFEST STATIC "),
  ("TokenRow", 163, "REM EQV NEQV NOT AND BE VEC DO THEN OR ELSE TO BY INTO REPEAT REPEATWHILE REPEATUNTIL "),
  ("TokenRow", 137, "$( $) ( ) , ; := : ! @ + - * / = ~= < <= > >= << >> ~ & | -> "),
  ("TokenRow", 183, "$) ) "),
  ("TokenRow", 185, "( ! @ $( "),
  ("TokenRow", 71, "EQV NEQV | & << >> = ~= < <= > >= + - * / REM "),
  ("TokenRowModel", 34, " TRUE FALSE REM EQV NEQV NOT VALOF TABLE IF UNLESS TEST WHILE UNTIL FOR SWITCHON CASE DEFAULT BREAK LOOP ENDCASE RETURN RESULTIS FINISH LET AND BE GLOBAL MANIFEST STATIC VEC DO THEN OR ELSE TO BY INTO REPEAT REPEATWHILE REPEATUNTIL "),
  ("TokenRowModel", 40, " TRUE FALSE BREAK LOOP ENDCASE RETURN FINISH "),
  ("TokenRowModel", 45, " TRUE FALSE VALOF TABLE IF UNLESS TEST WHILE UNTIL FOR SWITCHON CASE DEFAULT BREAK LOOP ENDCASE RETURN RESULTIS FINISH LET GLOBAL MANIFEST STATIC "),
  ("TokenRowModel", 178, " EQV NEQV "),
  ("TokenRowModel", 180, " REM ")]
def levK : List Int32 := [0, 0, 1, 2, 3, 3, 4, 4, 4, 4, 4, 4, 5, 5, 6, 6, 6]
/-- statics that nobody writes: LEVELS, COMPACT_STRINGS, a formatter that is only carried, the texts -/
def tkS (z : kz_Z) (A : Nat → Prop) (U : State) (H : Heap) : Prop :=
  va_Z "TokenRow" "LEVELS" "[I" (.ref z.1) A U H ∧ va_T .int z.1 17 (fun j => .int (levK.getD j 0)) A U H ∧ va_Z "java/lang/String" "COMPACT_STRINGS" "Z" (.int 1) A U H ∧ va_Zq "jdk/internal/util/Preconditions" "SIOOBE_FORMATTER" "Ljava/util/function/BiFunction;" A U H ∧ vk_S 12 lenK bytK z.2.1 z.2.2 A U H
def tkR (z : kz_Z) (U : State) : Prop := ∀ (i : Nat) (r : String × Nat × String), strK[i]? = some r → vk_R r.1 r.2.1 r.2.2 (z.2.1 i) U
theorem tkS.moved {z : kz_Z} {A : Nat → Prop} {u U : State} {H : Heap} (hvm : u.vm.Alike U.vm) (h : tkS z A u H) : tkS z A U H := ⟨va_Z.moved hvm h.1, va_T.moved hvm h.2.1, va_Z.moved hvm h.2.2.1, va_Zq.moved hvm h.2.2.2.1, vk_S.moved hvm h.2.2.2.2⟩
theorem tkS.kept {z : kz_Z} {A : Nat → Prop} {U : State} {H H1 : Heap} (h : tkS z A U H) (hq : ∀ a : Nat, a < H.size → ¬ A a → H1[a]? = H[a]?) : tkS z A U H1 := ⟨h.1.kept hq, h.2.1.kept hq, h.2.2.1.kept hq, h.2.2.2.1.kept hq, h.2.2.2.2.kept hq⟩
theorem tkS.narrow {z : kz_Z} {A B : Nat → Prop} {U : State} {H : Heap} (h : tkS z A U H) (hAB : ∀ q, B q → A q) : tkS z B U H := ⟨h.1.narrow hAB, h.2.1.narrow hAB, h.2.2.1.narrow hAB, h.2.2.2.1.narrow hAB, h.2.2.2.2.narrow hAB⟩
theorem tkR.warm {z : kz_Z} {s U : State} (hW : s.WarmedH U.vm) (h : tkR z s) : tkR z U := fun i r hr => (h i r hr).warm hW
theorem tkR.same {z : kz_Z} {u U : State} (hv : U.vm = u.vm) (h : tkR z u) : tkR z U := fun i r hr => (h i r hr).same hv
/-- the same addresses: the same apartness -/
theorem kz_addr {A B : Nat → Prop} {ws ws' : va_W} (h : va_D A ws) (e : ws'.map Prod.fst = ws.map Prod.fst) (hB : ∀ q ∈ ws.map Prod.fst, B q) : va_D B ws' := by
  have key : ∀ (i : Nat) (p : Nat × va_E), ws'[i]? = some p → ∃ p0, ws[i]? = some p0 ∧ p0.1 = p.1 := by
    intro i p hp
    have h1 : (ws'.map Prod.fst)[i]? = some p.1 := by rw [List.getElem?_map, hp]; rfl
    rw [e, List.getElem?_map] at h1
    cases hq : ws[i]? with
    | none => rw [hq] at h1; cases h1
    | some p0 => rw [hq] at h1; exact ⟨p0, rfl, Option.some.inj h1⟩
  refine ⟨fun i j p q hi hj hpq => ?_, fun k q hk => ?_⟩
  · obtain ⟨p0, a1, a2⟩ := key i p hi
    obtain ⟨q0, b1, b2⟩ := key j q hj
    exact h.1 i j p0 q0 a1 b1 (a2.trans (hpq.trans b2.symm))
  · obtain ⟨p0, a1, a2⟩ := key k q hk
    rw [← a2]; exact hB _ (List.mem_map.mpr ⟨p0, List.mem_of_getElem? a1, rfl⟩)
/-- what a call needs of the tables -/
def lkV (own : String) (ix : Nat) (y : MethodName) (cc : ByteArray) (n : Nat) (ret : Option FieldType) (k : Nat) : Prop := Cond.methodLink own ix y ∈ TT ∧ Cond.instanceMethod y ∈ TT ∧ Cond.selects y.cls y y ∈ TT ∧ Cond.initialized y.cls ∈ TT ∧ Cond.code y cc n ret ∈ TT ∧ (y.cls ≠ "java/lang/invoke/MethodHandle" ∧ y.cls ≠ "java/lang/invoke/VarHandle" ∧ (parseMethodDescriptor y.desc).map (fun d => d.parameters.length) = some k)
def lkS (own : String) (ix : Nat) (y : MethodName) (cc : ByteArray) (n : Nat) (ret : Option FieldType) (k : Nat) : Prop := Cond.methodLink own ix y ∈ TT ∧ Cond.static y ∈ TT ∧ Cond.initialized y.cls ∈ TT ∧ Cond.code y cc n ret ∈ TT ∧ (y.cls ≠ "java/lang/invoke/MethodHandle" ∧ y.cls ≠ "java/lang/invoke/VarHandle" ∧ (parseMethodDescriptor y.desc).map (fun d => d.parameters.length) = some k)
section KZ
variable {p : Program} {l : Launch} {e : Env} {R : Room} {s : State} {m : MethodId} {args : Array Value} {below : List Frame} {meth : Method} {c : Code} {H : Heap} {locs : List Loc} {cells slots : Nat} {Q : State → Prop}
variable {cc : ByteArray} {pc nL : Nat} {ls : Array Slot} {rest : List Value} {D : va_G} {cA : ClassId} {A : Nat → Prop} {z : kz_Z} {w0 : Cond} {own : String}
/-- a call that makes nothing -/
theorem kz_call {Qa : State → Outcome → State → Prop} {free : Addr → Prop} {st0 : List Value} (hr : va_Run p l e R s m args below meth c H locs cells slots 0 0 (F0 m pc ls st0) rest Qa free) (hS : va_S A s.heap H locs) (hf : ∀ q, free q → A q)
    (kk : ∀ (v : Option Value) (st t : State) (H1 : Heap) (locs1 : List Loc), st.heap = H → t.heap = H1 → Qa st (.returned v) t → (∀ q ∈ locs1, A q.base) → W p l e R s m args below meth c H1 locs1 cells slots Q (F0 m (pc + 3) ls (v.toList ++ rest))) : W p l e R s m args below meth c H locs cells slots Q (F0 m pc ls st0) := by
  intro T hT X
  obtain ⟨v, st₀, t, T', L, h0, X', hL, e1, e2, hq, st⟩ := hr T hT X
  obtain ⟨t2, a1, b1⟩ := kk v st₀ t T'.heap (locs ++ L) h0 e1.symm hq (fun q hq => by
    rcases List.mem_append.mp hq with h | h
    · exact hS.2.2 q h
    · exact hf _ (hL q h)) T' rfl X'
  exact ⟨t2, st t2 a1, b1⟩
/-- a number on the stack by another name -/
theorem kz_top {x y : Int32} (h : x = y) (k : W p l e R s m args below meth c H locs cells slots Q (F0 m pc ls (.int y :: rest))) : W p l e R s m args below meth c H locs cells slots Q (F0 m pc ls (.int x :: rest)) := h ▸ k
theorem kz_topl {x y : Int64} (h : x = y) (k : W p l e R s m args below meth c H locs cells slots Q (F0 m pc ls (.long y :: rest))) : W p l e R s m args below meth c H locs cells slots Q (F0 m pc ls (.long x :: rest)) := h ▸ k
theorem kz_vm (U : State) (g : JFrame) (mk : MethodId) (a : Array Value) : (U.calling g mk a).vm = U.vm := rfl
theorem kz_heap (U : State) (g : JFrame) (mk : MethodId) (a : Array Value) : (U.calling g mk a).heap = U.heap := rfl
theorem kz_cwV {R : Room} {ix n k : Nat} {y : MethodName} {cy : ByteArray} {ret : Option FieldType} {rm : Room} (S : CallFix p m c cc nL s args (w0 :: TT) own) (hk : lkV own ix y cy n ret k) (hrc : rm.cells = 0) (hrs : rm.slots = 0) (hR : rm.frames + 1 ≤ R.frames ∧ 8 + (n + 11) + rm.locals ≤ R.locals) : CallW R s args own y.cls ix y cy n ret (Cond.code y cy n ret :: TT) rm 0 0 k := by
  obtain ⟨h1, h2, h3, h4, h5, h6⟩ := hk
  have hts := S.2.2.2.2
  have up : ∀ {w : Cond}, w ∈ TT → w.before args s = true := fun h => hts _ (List.mem_cons_of_mem _ h)
  exact ⟨callB_of k hts (tt_cc h5) rfl hrc hrs (up h4) (up h1) h6 hR, up h2, up h3⟩
theorem kz_cwS {R : Room} {ix n k : Nat} {y : MethodName} {cy : ByteArray} {ret : Option FieldType} {rm : Room} (S : CallFix p m c cc nL s args (w0 :: TT) own) (hk : lkS own ix y cy n ret k) (hrc : rm.cells = 0) (hrs : rm.slots = 0) (hR : rm.frames + 1 ≤ R.frames ∧ 8 + (n + 11) + rm.locals ≤ R.locals) : CallB R s args own ix y cy n ret (Cond.code y cy n ret :: TT) rm 0 0 k ∧ (Cond.static y).before args s = true := by
  obtain ⟨h1, h2, h4, h5, h6⟩ := hk
  have hts := S.2.2.2.2
  have up : ∀ {w : Cond}, w ∈ TT → w.before args s = true := fun h => hts _ (List.mem_cons_of_mem _ h)
  exact ⟨callB_of k hts (tt_cc h5) rfl hrc hrs (up h4) (up h1) h6 hR, up h2⟩
end KZ
/-! ===== static methods, and methods of constant texts: they change nothing; an int array may be handed in ===== -/
abbrev kz_O : Type := Option (Nat × Nat × (Nat → Int32))
def arS (o : kz_O) (sz : Nat) (U : State) (H : Heap) : Prop := ∀ (q N : Nat) (f : Nat → Int32), o = some (q, N, f) → va_T .int q N (fun j => .int (f j)) (fun x => sz ≤ x) U H
def preS (z : kz_Z) (o : kz_O) (sz : Nat) (U : State) : Prop := U.heap.size = sz ∧ tkS z (fun x => sz ≤ x) U U.heap ∧ tkR z U ∧ arS o sz U U.heap
def QS (sz : Nat) (post : Option Value → Prop) : Array Value → State → Outcome → State → Prop := fun _ st oc t => (∃ v, oc = .returned v ∧ post v) ∧ va_F (fun x => sz ≤ x) st t
def MS (l : Launch) (y : MethodName) (cy : ByteArray) (n : Nat) (ret : Option FieldType) (rm : Room) (As : List Value) (z : kz_Z) (o : kz_O) (post : Option Value → Prop) : Prop :=
  ∀ sz : Nat, Met l y (Cond.code y cy n ret :: TT) rm (va_Pc As (preS z o sz)) (QS sz post) 0 0 (fun x => sz ≤ x)
def sS (z : kz_Z) (o : kz_O) (s : State) (H : Heap) (locs : List Loc) : Prop := va_S (fun x => s.heap.size ≤ x) s.heap H locs ∧ tkS z (fun x => s.heap.size ≤ x) s s.heap ∧ tkR z s ∧ arS o s.heap.size s s.heap
theorem MS.mk {l : Launch} {y : MethodName} {cy : ByteArray} {n : Nat} {ret : Option FieldType} {rm : Room} {As : List Value} {z : kz_Z} {o : kz_O} {post : Option Value → Prop} (hy : plainName y.cls = true) (hn : (lg_sl As).length ≤ n)
    (body : ∀ (p : Program) (e : Env) (s : State) (m : MethodId) (below : List Frame) (meth : Method) (c : Code) (ls : Array Slot), CallFix p m c cy n s As.toArray (Cond.code y cy n ret :: TT) y.cls → meth.sig.returnType = ret → meth.locks = false → sS z o s s.heap [] → lv_has ls n (lv_args 0 As) →
      W p l e rm s m As.toArray below meth c s.heap [] 0 0 (MQ below (QS s.heap.size post) As.toArray s 0 0 (fun x => s.heap.size ≤ x)) (F0 m 0 ls [])) : MS l y cy n ret rm As z o post := by
  intro sz
  refine Met.ofW (cc := cy) (maxL := n) (ret := ret) hy rfl ?_
  intro p e s m args below meth c s₁ B hml hv
  obtain ⟨rfl, hsz, h1, h2, h3⟩ := hv
  subst hsz
  rw [lg_entry_eq]
  exact body p e s m below meth c _ ⟨B.exec, B.bytes, hml, findClass_of_methodNamed B.named, atoms_spec (ws := Cond.code y cy n ret :: TT) B.pre⟩ B.returns B.notSynchronized ⟨va_S.rf, h1, h2, h3⟩ (lv_entry As hn)
section KS
variable {p : Program} {l : Launch} {e : Env} {R : Room} {s : State} {m : MethodId} {args : Array Value} {below : List Frame} {meth : Method} {c : Code} {H : Heap} {locs : List Loc} {cells slots : Nat} {Q : State → Prop}
variable {cc : ByteArray} {pc nL : Nat} {ls : Array Slot} {rest : List Value} {D : va_G} {cA : ClassId} {A : Nat → Prop} {z : kz_Z} {w0 : Cond} {own : String}
theorem MS.iret {ty : FieldType} {o : kz_O} {post : Option Value → Prop} {v : Int32} (S : CallFix p m c cc nL s args (w0 :: TT) own) (hr : meth.sig.returnType = some ty) (hl : meth.locks = false) (hw : sS z o s H locs) (hdg : decode cc pc = .ok (.ireturn, 1)) (hn : narrow ty (.int v) = .int v) (hp : post (some (.int v))) :
    W p l e R s m args below meth c H locs cells slots (MQ below (QS s.heap.size post) args s cells slots (fun x => s.heap.size ≤ x)) (F0 m pc ls [.int v]) :=
  W.zret S.1 S.2.1 hr hn (fun t ht _ => ⟨⟨_, rfl, hp⟩, hw.1.F ht⟩) hw.1.2.2 hdg hl
theorem MS.vret {o : kz_O} {post : Option Value → Prop} (S : CallFix p m c cc nL s args (w0 :: TT) own) (hr : meth.sig.returnType = none) (hl : meth.locks = false) (hw : sS z o s H locs) (hdg : decode cc pc = .ok (.return_, 1)) (hp : post none) :
    W p l e R s m args below meth c H locs cells slots (MQ below (QS s.heap.size post) args s cells slots (fun x => s.heap.size ≤ x)) (F0 m pc ls []) :=
  W.vret S.1 S.2.1 hr (fun t ht _ => ⟨⟨_, rfl, hp⟩, hw.1.F ht⟩) hw.1.2.2 hdg hl
/-- what a static callee needs, out of any context -/
theorem preS.of {o : kz_O} (hS : va_S A s.heap H locs) (hA : ∀ q, s.heap.size ≤ q → A q) (tk : tkS z A s s.heap) (tr : tkR z s) (ar : arS o H.size s H) {U : State} (hU : U.heap = H) (hW : s.WarmedH U.vm) : preS z o H.size U := by
  refine ⟨by rw [hU], ?_, tr.warm hW, ?_⟩
  · rw [hU]
    exact ((tk.kept hS.2.1).narrow (fun q hq => hA q (Nat.le_trans hS.1 hq))).moved hW.alike
  · intro q N f h
    rw [hU]
    exact (ar q N f h).moved hW.alike
theorem preS.blind {o : kz_O} {sz : Nat} {As : List Value} : FrameBlind (va_Pc As (preS z o sz)) := by
  intro a U g mk q
  obtain ⟨q0, q1, q2, q3, q4⟩ := q
  exact ⟨q0, q1, q2.moved (Vm.Alike.refl U.vm), q3.same rfl, fun x N f h => (q4 x N f h).moved (Vm.Alike.refl U.vm)⟩
/-- a static call out of any context -/
theorem kz_cS {ix n k : Nat} {y : MethodName} {cy : ByteArray} {ret : Option FieldType} {rm : Room} {As : List Value} {o : kz_O} {post : Option Value → Prop} (S : CallFix p m c cc nL s args (w0 :: TT) own) (hk : lkS own ix y cy n ret k) (hM : MS l y cy n ret rm As z o post) (hS : va_S A s.heap H locs) (hA : ∀ q, s.heap.size ≤ q → A q) (tk : tkS z A s s.heap) (tr : tkR z s) (ar : arS o H.size s H)
    (hR : rm.frames + 1 ≤ R.frames ∧ 8 + (n + 11) + rm.locals ≤ R.locals) (hrc : rm.cells = 0) (hrs : rm.slots = 0) (hf : cells ≤ R.cells ∧ slots ≤ R.slots) (hn : As.length = k) (hls : ls.size = nL) (hW : (rest.map fun v => v.category).sum ≤ 8) (hdg : decode cc pc = .ok (.invokestatic ix, 3))
    (kk : ∀ (v : Option Value) (H1 : Heap) (locs1 : List Loc), post v → H.size ≤ H1.size → (∀ q : Nat, q < H.size → H1[q]? = H[q]?) → va_S A s.heap H1 locs1 → W p l e R s m args below meth c H1 locs1 cells slots Q (F0 m (pc + 3) ls (v.toList ++ rest))) : W p l e R s m args below meth c H locs cells slots Q (F0 m pc ls (As.reverse ++ rest)) := by
  refine kz_call (va_runS (As := As) (rest := rest) S (hM H.size) (kz_cwS S hk hrc hrs hR) ⟨preS.blind, fun U hU hW => ⟨rfl, preS.of hS hA tk tr ar hU hW⟩⟩ rfl hn hls rfl (lv_room hW) hdg hf) hS (fun q hq => hA q (Nat.le_trans hS.1 hq)) (fun v st t H1 locs1 h0 h1 hq hL => ?_)
  obtain ⟨⟨v', hv, hp⟩, hz, hkp⟩ := hq
  cases hv
  rw [h0] at hz hkp
  rw [h1] at hz hkp
  have hk' : ∀ q : Nat, q < H.size → H1[q]? = H[q]? := fun q h => hkp q h (Nat.not_le.mpr h)
  exact kk v H1 locs1 hp hz hk' ⟨Nat.le_trans hS.1 hz, fun q g1 g2 => (hk' q (Nat.lt_of_lt_of_le g1 hS.1)).trans (hS.2.1 q g1 g2), hL⟩
/-- a call of a constant text's own method out of any context -/
theorem kz_cT {ix n k i : Nat} {y : MethodName} {cy : ByteArray} {ret : Option FieldType} {rm : Room} {As : List Value} {o : kz_O} {post : Option Value → Prop} (S : CallFix p m c cc nL s args (w0 :: TT) own) (hk : lkV own ix y cy n ret k) (hyc : y.cls = "java/lang/String") (hi : i < 12) (hM : MS l y cy n ret rm (.ref (z.2.1 i) :: As) z o post) (hS : va_S A s.heap H locs) (hA : ∀ q, s.heap.size ≤ q → A q) (tk : tkS z A s s.heap) (tr : tkR z s) (ar : arS o H.size s H)
    (hR : rm.frames + 1 ≤ R.frames ∧ 8 + (n + 11) + rm.locals ≤ R.locals) (hrc : rm.cells = 0) (hrs : rm.slots = 0) (hf : cells ≤ R.cells ∧ slots ≤ R.slots) (hn : As.length = k) (hls : ls.size = nL) (hW : (rest.map fun v => v.category).sum ≤ 8) (hdg : decode cc pc = .ok (.invokevirtual ix, 3))
    (kk : ∀ (v : Option Value) (H1 : Heap) (locs1 : List Loc), post v → H.size ≤ H1.size → (∀ q : Nat, q < H.size → H1[q]? = H[q]?) → va_S A s.heap H1 locs1 → W p l e R s m args below meth c H1 locs1 cells slots Q (F0 m (pc + 3) ls (v.toList ++ rest))) : W p l e R s m args below meth c H locs cells slots Q (F0 m pc ls (As.reverse ++ .ref (z.2.1 i) :: rest)) := by
  refine kz_call (va_runV (As := As) (rest := rest) (b := z.2.1 i) S (hM H.size) (kz_cwV S hk hrc hrs hR) ⟨preS.blind, by rw [hyc]; exact vk_recv tk.2.2.2.2 hi hS, fun U hU hW => ⟨rfl, preS.of hS hA tk tr ar hU hW⟩⟩ rfl hn hls rfl (lv_room hW) hdg hf) hS (fun q hq => hA q (Nat.le_trans hS.1 hq)) (fun v st t H1 locs1 h0 h1 hq hL => ?_)
  obtain ⟨⟨v', hv, hp⟩, hz, hkp⟩ := hq
  cases hv
  rw [h0] at hz hkp
  rw [h1] at hz hkp
  have hk' : ∀ q : Nat, q < H.size → H1[q]? = H[q]? := fun q h => hkp q h (Nat.not_le.mpr h)
  exact kk v H1 locs1 hp hz hk' ⟨Nat.le_trans hS.1 hz, fun q g1 g2 => (hk' q (Nat.lt_of_lt_of_le g1 hS.1)).trans (hS.2.1 q g1 g2), hL⟩
end KS
/-! ===== the class TokenRow: its world, contracts and steps ===== -/
def wX (z : kz_Z) (cA : ClassId) (h : Nat) (a : Nat → Nat) (I : Nat → Int32) (F : Nat → Nat → Int32) : va_W := [(h, .inr (0, [.ref (a 0), .int (I 1), .ref (a 2), .ref (a 3), .ref (a 4), .ref (a 5), .ref (a 6), .ref (a 7), .int (I 8), .ref (a 9), .int (I 10), .int (I 11), .int (I 12), .int (I 13)])), (a 0, .inl (cA, 1000, .inl (F 0))), (a 2, .inl (cA, 1001, .inl (F 2))), (a 3, .inl (cA, 1001, .inl (F 3))), (a 4, .inl (cA, 1001, .inl (F 4))), (a 5, .inl (cA, 1001, .inl (F 5))), (a 6, .inl (cA, 1001, .inl (F 6))), (a 7, .inl (cA, 1001, .inl (F 7))), (a 9, .inl (cA, 1000, .inl (F 9)))]
def adX (h : Nat) (a : Nat → Nat) : List Nat := [h, a 0, a 2, a 3, a 4, a 5, a 6, a 7, a 9]
def AX (h : Nat) (a : Nat → Nat) (sz : Nat) : Nat → Prop := fun q => q ∈ adX h a ∨ sz ≤ q
def sX (z : kz_Z) (D : va_G) (cA : ClassId) (h : Nat) (a : Nat → Nat) (A : Nat → Prop) (s : State) (H : Heap) (locs : List Loc) (I : Nat → Int32) (F : Nat → Nat → Int32) : Prop :=
  va_K D clT [(cA, .int)] s ∧ va_P D clT (wX z cA h a I F) H ∧ va_D A (wX z cA h a I F) ∧ va_S A s.heap H locs ∧ tkS z A s s.heap ∧ tkR z s
def preX (z : kz_Z) (D : va_G) (cA : ClassId) (h : Nat) (a : Nat → Nat) (sz : Nat) (I : Nat → Int32) (F : Nat → Nat → Int32) (U : State) : Prop :=
  U.heap.size = sz ∧ va_K D clT [(cA, .int)] U ∧ va_P D clT (wX z cA h a I F) U.heap ∧ va_D (AX h a sz) (wX z cA h a I F) ∧ tkS z (AX h a sz) U U.heap ∧ tkR z U
def QX (z : kz_Z) (D : va_G) (cA : ClassId) (h : Nat) (a : Nat → Nat) (sz : Nat) (post : Option Value → (Nat → Int32) → (Nat → Nat → Int32) → Prop) : Array Value → State → Outcome → State → Prop := fun _ st oc t =>
  (∃ (v : Option Value) (I' : Nat → Int32) (F' : Nat → Nat → Int32), oc = .returned v ∧ post v I' F' ∧ va_P D clT (wX z cA h a I' F') t.heap) ∧ va_F (AX h a sz) st t
def MX (l : Launch) (y : MethodName) (cy : ByteArray) (n : Nat) (ret : Option FieldType) (rm : Room) (As : List Value) (I : Nat → Int32) (F : Nat → Nat → Int32) (post : Option Value → (Nat → Int32) → (Nat → Nat → Int32) → Prop) : Prop :=
  ∀ (z : kz_Z) (D : va_G) (cA : ClassId) (h : Nat) (a : Nat → Nat) (sz : Nat), Met l y (Cond.code y cy n ret :: TT) rm (va_Pc (.ref h :: As) (preX z D cA h a sz I F)) (QX z D cA h a sz post) 0 0 (AX h a sz)
/-- an answer that is a number; no answer -/
def iR (post : Int32 → (Nat → Int32) → (Nat → Nat → Int32) → Prop) : Option Value → (Nat → Int32) → (Nat → Nat → Int32) → Prop := fun v I F => ∃ r, v = some (.int r) ∧ post r I F
def vR (post : (Nat → Int32) → (Nat → Nat → Int32) → Prop) : Option Value → (Nat → Int32) → (Nat → Nat → Int32) → Prop := fun v I F => v = none ∧ post I F
theorem MX.mk {l : Launch} {y : MethodName} {cy : ByteArray} {n : Nat} {ret : Option FieldType} {rm : Room} {As : List Value} {I : Nat → Int32} {F : Nat → Nat → Int32} {post : Option Value → (Nat → Int32) → (Nat → Nat → Int32) → Prop} (hy : plainName y.cls = true) (hn : ∀ h : Nat, (lg_sl (.ref h :: As)).length ≤ n)
    (body : ∀ (z : kz_Z) (D : va_G) (cA : ClassId) (h : Nat) (a : Nat → Nat) (p : Program) (e : Env) (s : State) (m : MethodId) (below : List Frame) (meth : Method) (c : Code) (ls : Array Slot), CallFix p m c cy n s (Value.ref h :: As).toArray (Cond.code y cy n ret :: TT) y.cls → meth.sig.returnType = ret → meth.locks = false → (∀ q, s.heap.size ≤ q → AX h a s.heap.size q) → sX z D cA h a (AX h a s.heap.size) s s.heap [] I F → lv_has ls n (lv_args 0 (.ref h :: As)) →
      W p l e rm s m (Value.ref h :: As).toArray below meth c s.heap [] 0 0 (MQ below (QX z D cA h a s.heap.size post) (Value.ref h :: As).toArray s 0 0 (AX h a s.heap.size)) (F0 m 0 ls [])) : MX l y cy n ret rm As I F post := by
  intro z D cA h a sz
  refine Met.ofW (cc := cy) (maxL := n) (ret := ret) hy rfl ?_
  intro p e s m args below meth c s₁ B hml hv
  obtain ⟨rfl, hsz, h1, h2, h3, h4, h5⟩ := hv
  subst hsz
  rw [lg_entry_eq]
  exact body z D cA h a p e s m below meth c _ ⟨B.exec, B.bytes, hml, findClass_of_methodNamed B.named, atoms_spec (ws := Cond.code y cy n ret :: TT) B.pre⟩ B.returns B.notSynchronized (fun q hq => Or.inr hq) ⟨h1, h2, h3, va_S.rf, h4, h5⟩ (lv_entry _ (hn h))
theorem AX.sub {z : kz_Z} {cA : ClassId} {h : Nat} {a : Nat → Nat} {I : Nat → Int32} {F : Nat → Nat → Int32} {A : Nat → Prop} {H0 H : Heap} {locs : List Loc} (hD : va_D A (wX z cA h a I F)) (hS : va_S A H0 H locs) (hA : ∀ q, H0.size ≤ q → A q) : ∀ q, AX h a H.size q → A q := by
  intro q hq
  rcases hq with hq | hq
  · obtain ⟨i, hi⟩ := List.getElem?_of_mem (show q ∈ (wX z cA h a I F).map Prod.fst from hq)
    rw [List.getElem?_map] at hi
    cases hx : (wX z cA h a I F)[i]? with
    | none => rw [hx] at hi; cases hi
    | some x => rw [hx] at hi; cases hi; exact hD.2 i x hx
  · exact hA q (Nat.le_trans hS.1 hq)
theorem DX.any {z : kz_Z} {cA : ClassId} {h : Nat} {a : Nat → Nat} {I I' : Nat → Int32} {F F' : Nat → Nat → Int32} {A B : Nat → Prop} (hD : va_D A (wX z cA h a I F)) (hB : ∀ q ∈ adX h a, B q) : va_D B (wX z cA h a I' F') := kz_addr hD rfl hB
theorem DX.keep {z : kz_Z} {cA : ClassId} {h : Nat} {a : Nat → Nat} {I I' : Nat → Int32} {F F' : Nat → Nat → Int32} {A : Nat → Prop} (hD : va_D A (wX z cA h a I F)) : va_D A (wX z cA h a I' F') := by
  refine DX.any hD (fun q hq => ?_)
  obtain ⟨i, hi⟩ := List.getElem?_of_mem (show q ∈ (wX z cA h a I F).map Prod.fst from hq)
  rw [List.getElem?_map] at hi
  cases hx : (wX z cA h a I F)[i]? with
  | none => rw [hx] at hi; cases hi
  | some x => rw [hx] at hi; cases hi; exact hD.2 i x hx
section KX
variable {p : Program} {l : Launch} {e : Env} {R : Room} {s : State} {m : MethodId} {args : Array Value} {below : List Frame} {meth : Method} {c : Code} {H : Heap} {locs : List Loc} {cells slots : Nat} {Q : State → Prop}
variable {cc : ByteArray} {pc nL : Nat} {ls : Array Slot} {rest : List Value} {D : va_G} {cA : ClassId} {A : Nat → Prop} {z : kz_Z} {w0 : Cond} {own : String}
variable {h : Nat} {a : Nat → Nat} {I : Nat → Int32} {F : Nat → Nat → Int32} {post : Option Value → (Nat → Int32) → (Nat → Nat → Int32) → Prop}
theorem MX.iret {ty : FieldType} {v : Int32} (S : CallFix p m c cc nL s args (w0 :: TT) own) (hr : meth.sig.returnType = some ty) (hl : meth.locks = false) (hw : sX z D cA h a (AX h a s.heap.size) s H locs I F) (hdg : decode cc pc = .ok (.ireturn, 1)) (hn : narrow ty (.int v) = .int v) (hp : post (some (.int v)) I F) :
    W p l e R s m args below meth c H locs cells slots (MQ below (QX z D cA h a s.heap.size post) args s cells slots (AX h a s.heap.size)) (F0 m pc ls [.int v]) :=
  W.zret S.1 S.2.1 hr hn (fun t ht _ => ⟨⟨_, I, F, rfl, hp, by rw [ht]; exact hw.2.1⟩, hw.2.2.2.1.F ht⟩) hw.2.2.2.1.2.2 hdg hl
theorem MX.vret (S : CallFix p m c cc nL s args (w0 :: TT) own) (hr : meth.sig.returnType = none) (hl : meth.locks = false) (hw : sX z D cA h a (AX h a s.heap.size) s H locs I F) (hdg : decode cc pc = .ok (.return_, 1)) (hp : post none I F) :
    W p l e R s m args below meth c H locs cells slots (MQ below (QX z D cA h a s.heap.size post) args s cells slots (AX h a s.heap.size)) (F0 m pc ls []) :=
  W.vret S.1 S.2.1 hr (fun t ht _ => ⟨⟨_, I, F, rfl, hp, by rw [ht]; exact hw.2.1⟩, hw.2.2.2.1.F ht⟩) hw.2.2.2.1.2.2 hdg hl
theorem sX.kept {H1 : Heap} {locs1 : List Loc} (hw : sX z D cA h a A s H locs I F) (hk : ∀ q : Nat, q < H.size → H1[q]? = H[q]?) (hS : va_S A s.heap H1 locs1) : sX z D cA h a A s H1 locs1 I F :=
  ⟨hw.1, hw.2.1.kept (fun k q hq => hk q.1 (hw.2.1 k q hq).lt), hw.2.2.1, hS, hw.2.2.2.2.1, hw.2.2.2.2.2⟩
theorem kcX {ix n k : Nat} {y : MethodName} {cy : ByteArray} {ret : Option FieldType} {rm : Room} {As : List Value} (S : CallFix p m c cc nL s args (w0 :: TT) own) (hk : lkV own ix y cy n ret k) (hyc : y.cls = RX) (hM : MX l y cy n ret rm As I F post) (hw : sX z D cA h a A s H locs I F) (hA : ∀ q, s.heap.size ≤ q → A q)
    (hR : rm.frames + 1 ≤ R.frames ∧ 8 + (n + 11) + rm.locals ≤ R.locals) (hrc : rm.cells = 0) (hrs : rm.slots = 0) (hf : cells ≤ R.cells ∧ slots ≤ R.slots) (hn : As.length = k) (hls : ls.size = nL) (hW : (rest.map fun v => v.category).sum ≤ 8) (hdg : decode cc pc = .ok (.invokevirtual ix, 3))
    (kk : ∀ (v : Option Value) (I' : Nat → Int32) (F' : Nat → Nat → Int32) (H1 : Heap) (locs1 : List Loc), post v I' F' → sX z D cA h a A s H1 locs1 I' F' → W p l e R s m args below meth c H1 locs1 cells slots Q (F0 m (pc + 3) ls (v.toList ++ rest))) : W p l e R s m args below meth c H locs cells slots Q (F0 m pc ls (As.reverse ++ .ref h :: rest)) := by
  obtain ⟨w1, w2, w3, w4, w5, w6⟩ := hw
  have hsub := AX.sub w3 w4 hA
  refine kz_call (va_runV (As := As) (rest := rest) (b := h) S (hM z D cA h a H.size) (kz_cwV S hk hrc hrs hR) ⟨?_, by rw [hyc]; exact va_recv w1 w2 (ci := 0) (q0 := 0) rfl rfl, fun U hU hW => ⟨rfl, by rw [hU], va_K.moved hW.alike w1, by rw [hU]; exact w2, DX.any w3 (fun q hq => Or.inl hq), ?_, w6.warm hW⟩⟩ rfl hn hls rfl (lv_room hW) hdg hf) w4 hsub (fun v st t H1 locs1 h0 h1 hq hL => ?_)
  · intro a1 U g mk q
    obtain ⟨q0, q1, q2, q3, q4, q5, q6⟩ := q
    exact ⟨q0, q1, va_K.moved (Vm.Alike.refl U.vm) q2, q3, q4, q5.moved (Vm.Alike.refl U.vm), q6.same rfl⟩
  · rw [hU]
    exact ((w5.kept w4.2.1).narrow hsub).moved hW.alike
  · obtain ⟨⟨v', I', F', hv, hp, hP⟩, hz, hkp⟩ := hq
    cases hv
    rw [h0] at hz hkp
    rw [h1] at hz hkp hP
    exact kk v I' F' H1 locs1 hp ⟨w1, hP, DX.keep w3, ⟨Nat.le_trans w4.1 hz, fun q g1 g2 => (hkp q (Nat.lt_of_lt_of_le g1 w4.1) (fun x => g2 (hsub q x))).trans (w4.2.1 q g1 g2), hL⟩, w5, w6⟩
theorem kcXi {ix n k : Nat} {y : MethodName} {cy : ByteArray} {ret : Option FieldType} {rm : Room} {As : List Value} {posti : Int32 → (Nat → Int32) → (Nat → Nat → Int32) → Prop} (S : CallFix p m c cc nL s args (w0 :: TT) own) (hk : lkV own ix y cy n ret k) (hyc : y.cls = RX) (hM : MX l y cy n ret rm As I F (iR posti)) (hw : sX z D cA h a A s H locs I F) (hA : ∀ q, s.heap.size ≤ q → A q)
    (hR : rm.frames + 1 ≤ R.frames ∧ 8 + (n + 11) + rm.locals ≤ R.locals) (hrc : rm.cells = 0) (hrs : rm.slots = 0) (hf : cells ≤ R.cells ∧ slots ≤ R.slots) (hn : As.length = k) (hls : ls.size = nL) (hW : (rest.map fun v => v.category).sum ≤ 8) (hdg : decode cc pc = .ok (.invokevirtual ix, 3))
    (kk : ∀ (r : Int32) (I' : Nat → Int32) (F' : Nat → Nat → Int32) (H1 : Heap) (locs1 : List Loc), posti r I' F' → sX z D cA h a A s H1 locs1 I' F' → W p l e R s m args below meth c H1 locs1 cells slots Q (F0 m (pc + 3) ls (.int r :: rest))) : W p l e R s m args below meth c H locs cells slots Q (F0 m pc ls (As.reverse ++ .ref h :: rest)) := by
  refine kcX S hk hyc hM hw hA hR hrc hrs hf hn hls hW hdg (fun v I' F' H1 locs1 hp hw => ?_)
  obtain ⟨r, rfl, hp⟩ := hp
  exact kk r I' F' H1 locs1 hp hw
theorem kcXv {ix n k : Nat} {y : MethodName} {cy : ByteArray} {ret : Option FieldType} {rm : Room} {As : List Value} {postv : (Nat → Int32) → (Nat → Nat → Int32) → Prop} (S : CallFix p m c cc nL s args (w0 :: TT) own) (hk : lkV own ix y cy n ret k) (hyc : y.cls = RX) (hM : MX l y cy n ret rm As I F (vR postv)) (hw : sX z D cA h a A s H locs I F) (hA : ∀ q, s.heap.size ≤ q → A q)
    (hR : rm.frames + 1 ≤ R.frames ∧ 8 + (n + 11) + rm.locals ≤ R.locals) (hrc : rm.cells = 0) (hrs : rm.slots = 0) (hf : cells ≤ R.cells ∧ slots ≤ R.slots) (hn : As.length = k) (hls : ls.size = nL) (hW : (rest.map fun v => v.category).sum ≤ 8) (hdg : decode cc pc = .ok (.invokevirtual ix, 3))
    (kk : ∀ (I' : Nat → Int32) (F' : Nat → Nat → Int32) (H1 : Heap) (locs1 : List Loc), postv I' F' → sX z D cA h a A s H1 locs1 I' F' → W p l e R s m args below meth c H1 locs1 cells slots Q (F0 m (pc + 3) ls rest)) : W p l e R s m args below meth c H locs cells slots Q (F0 m pc ls (As.reverse ++ .ref h :: rest)) := by
  refine kcX S hk hyc hM hw hA hR hrc hrs hf hn hls hW hdg (fun v I' F' H1 locs1 hp hw => ?_)
  obtain ⟨rfl, hp⟩ := hp
  exact kk I' F' H1 locs1 hp hw
/-- a static call out of a method of this class -/
theorem kcXS {ix n k : Nat} {y : MethodName} {cy : ByteArray} {ret : Option FieldType} {rm : Room} {As : List Value} {o : kz_O} {posts : Int32 → Prop} (S : CallFix p m c cc nL s args (w0 :: TT) own) (hk : lkS own ix y cy n ret k) (hM : MS l y cy n ret rm As z o (fun v => ∃ r, v = some (.int r) ∧ posts r)) (hw : sX z D cA h a A s H locs I F) (hA : ∀ q, s.heap.size ≤ q → A q) (ar : arS o H.size s H)
    (hR : rm.frames + 1 ≤ R.frames ∧ 8 + (n + 11) + rm.locals ≤ R.locals) (hrc : rm.cells = 0) (hrs : rm.slots = 0) (hf : cells ≤ R.cells ∧ slots ≤ R.slots) (hn : As.length = k) (hls : ls.size = nL) (hW : (rest.map fun v => v.category).sum ≤ 8) (hdg : decode cc pc = .ok (.invokestatic ix, 3))
    (kk : ∀ (r : Int32) (H1 : Heap) (locs1 : List Loc), posts r → sX z D cA h a A s H1 locs1 I F → W p l e R s m args below meth c H1 locs1 cells slots Q (F0 m (pc + 3) ls (.int r :: rest))) : W p l e R s m args below meth c H locs cells slots Q (F0 m pc ls (As.reverse ++ rest)) := by
  refine kz_cS S hk hM hw.2.2.2.1 hA hw.2.2.2.2.1 hw.2.2.2.2.2 ar hR hrc hrs hf hn hls hW hdg (fun v H1 locs1 hp hz hkp hS => ?_)
  obtain ⟨r, rfl, hp⟩ := hp
  exact kk r H1 locs1 hp (hw.kept hkp hS)
theorem kcXT {ix n k i : Nat} {y : MethodName} {cy : ByteArray} {ret : Option FieldType} {rm : Room} {As : List Value} {o : kz_O} {posts : Int32 → Prop} (S : CallFix p m c cc nL s args (w0 :: TT) own) (hk : lkV own ix y cy n ret k) (hyc : y.cls = "java/lang/String") (hi : i < 12) (hM : MS l y cy n ret rm (.ref (z.2.1 i) :: As) z o (fun v => ∃ r, v = some (.int r) ∧ posts r)) (hw : sX z D cA h a A s H locs I F) (hA : ∀ q, s.heap.size ≤ q → A q) (ar : arS o H.size s H)
    (hR : rm.frames + 1 ≤ R.frames ∧ 8 + (n + 11) + rm.locals ≤ R.locals) (hrc : rm.cells = 0) (hrs : rm.slots = 0) (hf : cells ≤ R.cells ∧ slots ≤ R.slots) (hn : As.length = k) (hls : ls.size = nL) (hW : (rest.map fun v => v.category).sum ≤ 8) (hdg : decode cc pc = .ok (.invokevirtual ix, 3))
    (kk : ∀ (r : Int32) (H1 : Heap) (locs1 : List Loc), posts r → sX z D cA h a A s H1 locs1 I F → W p l e R s m args below meth c H1 locs1 cells slots Q (F0 m (pc + 3) ls (.int r :: rest))) : W p l e R s m args below meth c H locs cells slots Q (F0 m pc ls (As.reverse ++ .ref (z.2.1 i) :: rest)) := by
  refine kz_cT S hk hyc hi hM hw.2.2.2.1 hA hw.2.2.2.2.1 hw.2.2.2.2.2 ar hR hrc hrs hf hn hls hW hdg (fun v H1 locs1 hp hz hkp hS => ?_)
  obtain ⟨r, rfl, hp⟩ := hp
  exact kk r H1 locs1 hp (hw.kept hkp hS)
theorem arNone {sz : Nat} {U : State} : arS none sz U H := fun _ _ _ h => by cases h
theorem gX0 (S : CallFix p m c cc nL s args (w0 :: TT) RX) (hw : sX z D cA h a A s H locs I F) (hdg : decode cc pc = .ok (.getfield 9, 3)) (kk : W p l e R s m args below meth c H locs cells slots Q (F0 m (pc + 3) ls (.ref (a 0) :: rest))) : W p l e R s m args below meth c H locs cells slots Q (F0 m pc ls (.ref h :: rest)) :=
  va_get (D := D) (ci := 0) (v := .ref (a 0)) (C := RX) (T := TX) (N := 14) S.1 S.2.1 S.2.2.2.2 (fun w hw => List.mem_cons_of_mem _ (inX w hw)) S.2.2.2.1 hw.1 hw.2.1 0 rfl rfl 0 (by decide) (S.2.2.2.2 _ (List.mem_cons_of_mem _ wfX_9)) (fun _ h9 => h9) rfl hdg kk
theorem gX1 (S : CallFix p m c cc nL s args (w0 :: TT) RX) (hw : sX z D cA h a A s H locs I F) (hdg : decode cc pc = .ok (.getfield 34, 3)) (kk : W p l e R s m args below meth c H locs cells slots Q (F0 m (pc + 3) ls (.int (I 1) :: rest))) : W p l e R s m args below meth c H locs cells slots Q (F0 m pc ls (.ref h :: rest)) :=
  va_get (D := D) (ci := 0) (v := .int (I 1)) (C := RX) (T := TX) (N := 14) S.1 S.2.1 S.2.2.2.2 (fun w hw => List.mem_cons_of_mem _ (inX w hw)) S.2.2.2.1 hw.1 hw.2.1 0 rfl rfl 1 (by decide) (S.2.2.2.2 _ (List.mem_cons_of_mem _ wfX_34)) (fun _ h9 => h9) rfl hdg kk
theorem pX1 {x : Int32} (S : CallFix p m c cc nL s args (w0 :: TT) RX) (hw : sX z D cA h a A s H locs I F) (hdg : decode cc pc = .ok (.putfield 34, 3)) (kk : ∀ (H1 : Heap) (locs1 : List Loc), sX z D cA h a A s H1 locs1 (upd I 1 x) F → W p l e R s m args below meth c H1 locs1 cells slots Q (F0 m (pc + 3) ls rest)) : W p l e R s m args below meth c H locs cells slots Q (F0 m pc ls (.int x :: .ref h :: rest)) :=
  va_put (D := D) (ci := 0) (v := .int x) (ty := .int) (C := RX) (T := TX) (N := 14) S.1 S.2.1 S.2.2.2.2 (fun w hw => List.mem_cons_of_mem _ (inX w hw)) tyX tyX_ok nmX S.2.2.2.1 hw.1 hw.2.1 hw.2.2.1 hw.2.2.2.1 0 rfl rfl 1 (by decide) (S.2.2.2.2 _ (List.mem_cons_of_mem _ wfX_34)) (fun _ h9 => h9) rfl (by decide +kernel) rfl rfl (Nat.le_of_ble_eq_true rfl) hdg (fun H1 locs1 hP hD hS => kk H1 locs1 ⟨hw.1, hP, hD, hS, hw.2.2.2.2.1, hw.2.2.2.2.2⟩)
theorem gX2 (S : CallFix p m c cc nL s args (w0 :: TT) RX) (hw : sX z D cA h a A s H locs I F) (hdg : decode cc pc = .ok (.getfield 13, 3)) (kk : W p l e R s m args below meth c H locs cells slots Q (F0 m (pc + 3) ls (.ref (a 2) :: rest))) : W p l e R s m args below meth c H locs cells slots Q (F0 m pc ls (.ref h :: rest)) :=
  va_get (D := D) (ci := 0) (v := .ref (a 2)) (C := RX) (T := TX) (N := 14) S.1 S.2.1 S.2.2.2.2 (fun w hw => List.mem_cons_of_mem _ (inX w hw)) S.2.2.2.1 hw.1 hw.2.1 0 rfl rfl 2 (by decide) (S.2.2.2.2 _ (List.mem_cons_of_mem _ wfX_13)) (fun _ h9 => h9) rfl hdg kk
theorem gX3 (S : CallFix p m c cc nL s args (w0 :: TT) RX) (hw : sX z D cA h a A s H locs I F) (hdg : decode cc pc = .ok (.getfield 16, 3)) (kk : W p l e R s m args below meth c H locs cells slots Q (F0 m (pc + 3) ls (.ref (a 3) :: rest))) : W p l e R s m args below meth c H locs cells slots Q (F0 m pc ls (.ref h :: rest)) :=
  va_get (D := D) (ci := 0) (v := .ref (a 3)) (C := RX) (T := TX) (N := 14) S.1 S.2.1 S.2.2.2.2 (fun w hw => List.mem_cons_of_mem _ (inX w hw)) S.2.2.2.1 hw.1 hw.2.1 0 rfl rfl 3 (by decide) (S.2.2.2.2 _ (List.mem_cons_of_mem _ wfX_16)) (fun _ h9 => h9) rfl hdg kk
theorem gX4 (S : CallFix p m c cc nL s args (w0 :: TT) RX) (hw : sX z D cA h a A s H locs I F) (hdg : decode cc pc = .ok (.getfield 19, 3)) (kk : W p l e R s m args below meth c H locs cells slots Q (F0 m (pc + 3) ls (.ref (a 4) :: rest))) : W p l e R s m args below meth c H locs cells slots Q (F0 m pc ls (.ref h :: rest)) :=
  va_get (D := D) (ci := 0) (v := .ref (a 4)) (C := RX) (T := TX) (N := 14) S.1 S.2.1 S.2.2.2.2 (fun w hw => List.mem_cons_of_mem _ (inX w hw)) S.2.2.2.1 hw.1 hw.2.1 0 rfl rfl 4 (by decide) (S.2.2.2.2 _ (List.mem_cons_of_mem _ wfX_19)) (fun _ h9 => h9) rfl hdg kk
theorem gX5 (S : CallFix p m c cc nL s args (w0 :: TT) RX) (hw : sX z D cA h a A s H locs I F) (hdg : decode cc pc = .ok (.getfield 22, 3)) (kk : W p l e R s m args below meth c H locs cells slots Q (F0 m (pc + 3) ls (.ref (a 5) :: rest))) : W p l e R s m args below meth c H locs cells slots Q (F0 m pc ls (.ref h :: rest)) :=
  va_get (D := D) (ci := 0) (v := .ref (a 5)) (C := RX) (T := TX) (N := 14) S.1 S.2.1 S.2.2.2.2 (fun w hw => List.mem_cons_of_mem _ (inX w hw)) S.2.2.2.1 hw.1 hw.2.1 0 rfl rfl 5 (by decide) (S.2.2.2.2 _ (List.mem_cons_of_mem _ wfX_22)) (fun _ h9 => h9) rfl hdg kk
theorem gX6 (S : CallFix p m c cc nL s args (w0 :: TT) RX) (hw : sX z D cA h a A s H locs I F) (hdg : decode cc pc = .ok (.getfield 25, 3)) (kk : W p l e R s m args below meth c H locs cells slots Q (F0 m (pc + 3) ls (.ref (a 6) :: rest))) : W p l e R s m args below meth c H locs cells slots Q (F0 m pc ls (.ref h :: rest)) :=
  va_get (D := D) (ci := 0) (v := .ref (a 6)) (C := RX) (T := TX) (N := 14) S.1 S.2.1 S.2.2.2.2 (fun w hw => List.mem_cons_of_mem _ (inX w hw)) S.2.2.2.1 hw.1 hw.2.1 0 rfl rfl 6 (by decide) (S.2.2.2.2 _ (List.mem_cons_of_mem _ wfX_25)) (fun _ h9 => h9) rfl hdg kk
theorem gX7 (S : CallFix p m c cc nL s args (w0 :: TT) RX) (hw : sX z D cA h a A s H locs I F) (hdg : decode cc pc = .ok (.getfield 28, 3)) (kk : W p l e R s m args below meth c H locs cells slots Q (F0 m (pc + 3) ls (.ref (a 7) :: rest))) : W p l e R s m args below meth c H locs cells slots Q (F0 m pc ls (.ref h :: rest)) :=
  va_get (D := D) (ci := 0) (v := .ref (a 7)) (C := RX) (T := TX) (N := 14) S.1 S.2.1 S.2.2.2.2 (fun w hw => List.mem_cons_of_mem _ (inX w hw)) S.2.2.2.1 hw.1 hw.2.1 0 rfl rfl 7 (by decide) (S.2.2.2.2 _ (List.mem_cons_of_mem _ wfX_28)) (fun _ h9 => h9) rfl hdg kk
theorem gX8 (S : CallFix p m c cc nL s args (w0 :: TT) RX) (hw : sX z D cA h a A s H locs I F) (hdg : decode cc pc = .ok (.getfield 42, 3)) (kk : W p l e R s m args below meth c H locs cells slots Q (F0 m (pc + 3) ls (.int (I 8) :: rest))) : W p l e R s m args below meth c H locs cells slots Q (F0 m pc ls (.ref h :: rest)) :=
  va_get (D := D) (ci := 0) (v := .int (I 8)) (C := RX) (T := TX) (N := 14) S.1 S.2.1 S.2.2.2.2 (fun w hw => List.mem_cons_of_mem _ (inX w hw)) S.2.2.2.1 hw.1 hw.2.1 0 rfl rfl 8 (by decide) (S.2.2.2.2 _ (List.mem_cons_of_mem _ wfX_42)) (fun _ h9 => h9) rfl hdg kk
theorem pX8 {x : Int32} (S : CallFix p m c cc nL s args (w0 :: TT) RX) (hw : sX z D cA h a A s H locs I F) (hdg : decode cc pc = .ok (.putfield 42, 3)) (kk : ∀ (H1 : Heap) (locs1 : List Loc), sX z D cA h a A s H1 locs1 (upd I 8 x) F → W p l e R s m args below meth c H1 locs1 cells slots Q (F0 m (pc + 3) ls rest)) : W p l e R s m args below meth c H locs cells slots Q (F0 m pc ls (.int x :: .ref h :: rest)) :=
  va_put (D := D) (ci := 0) (v := .int x) (ty := .int) (C := RX) (T := TX) (N := 14) S.1 S.2.1 S.2.2.2.2 (fun w hw => List.mem_cons_of_mem _ (inX w hw)) tyX tyX_ok nmX S.2.2.2.1 hw.1 hw.2.1 hw.2.2.1 hw.2.2.2.1 0 rfl rfl 8 (by decide) (S.2.2.2.2 _ (List.mem_cons_of_mem _ wfX_42)) (fun _ h9 => h9) rfl (by decide +kernel) rfl rfl (Nat.le_of_ble_eq_true rfl) hdg (fun H1 locs1 hP hD hS => kk H1 locs1 ⟨hw.1, hP, hD, hS, hw.2.2.2.2.1, hw.2.2.2.2.2⟩)
theorem gX9 (S : CallFix p m c cc nL s args (w0 :: TT) RX) (hw : sX z D cA h a A s H locs I F) (hdg : decode cc pc = .ok (.getfield 31, 3)) (kk : W p l e R s m args below meth c H locs cells slots Q (F0 m (pc + 3) ls (.ref (a 9) :: rest))) : W p l e R s m args below meth c H locs cells slots Q (F0 m pc ls (.ref h :: rest)) :=
  va_get (D := D) (ci := 0) (v := .ref (a 9)) (C := RX) (T := TX) (N := 14) S.1 S.2.1 S.2.2.2.2 (fun w hw => List.mem_cons_of_mem _ (inX w hw)) S.2.2.2.1 hw.1 hw.2.1 0 rfl rfl 9 (by decide) (S.2.2.2.2 _ (List.mem_cons_of_mem _ wfX_31)) (fun _ h9 => h9) rfl hdg kk
theorem gX10 (S : CallFix p m c cc nL s args (w0 :: TT) RX) (hw : sX z D cA h a A s H locs I F) (hdg : decode cc pc = .ok (.getfield 45, 3)) (kk : W p l e R s m args below meth c H locs cells slots Q (F0 m (pc + 3) ls (.int (I 10) :: rest))) : W p l e R s m args below meth c H locs cells slots Q (F0 m pc ls (.ref h :: rest)) :=
  va_get (D := D) (ci := 0) (v := .int (I 10)) (C := RX) (T := TX) (N := 14) S.1 S.2.1 S.2.2.2.2 (fun w hw => List.mem_cons_of_mem _ (inX w hw)) S.2.2.2.1 hw.1 hw.2.1 0 rfl rfl 10 (by decide) (S.2.2.2.2 _ (List.mem_cons_of_mem _ wfX_45)) (fun _ h9 => h9) rfl hdg kk
theorem pX10 {x : Int32} (S : CallFix p m c cc nL s args (w0 :: TT) RX) (hw : sX z D cA h a A s H locs I F) (hdg : decode cc pc = .ok (.putfield 45, 3)) (kk : ∀ (H1 : Heap) (locs1 : List Loc), sX z D cA h a A s H1 locs1 (upd I 10 x) F → W p l e R s m args below meth c H1 locs1 cells slots Q (F0 m (pc + 3) ls rest)) : W p l e R s m args below meth c H locs cells slots Q (F0 m pc ls (.int x :: .ref h :: rest)) :=
  va_put (D := D) (ci := 0) (v := .int x) (ty := .int) (C := RX) (T := TX) (N := 14) S.1 S.2.1 S.2.2.2.2 (fun w hw => List.mem_cons_of_mem _ (inX w hw)) tyX tyX_ok nmX S.2.2.2.1 hw.1 hw.2.1 hw.2.2.1 hw.2.2.2.1 0 rfl rfl 10 (by decide) (S.2.2.2.2 _ (List.mem_cons_of_mem _ wfX_45)) (fun _ h9 => h9) rfl (by decide +kernel) rfl rfl (Nat.le_of_ble_eq_true rfl) hdg (fun H1 locs1 hP hD hS => kk H1 locs1 ⟨hw.1, hP, hD, hS, hw.2.2.2.2.1, hw.2.2.2.2.2⟩)
theorem gX11 (S : CallFix p m c cc nL s args (w0 :: TT) RX) (hw : sX z D cA h a A s H locs I F) (hdg : decode cc pc = .ok (.getfield 48, 3)) (kk : W p l e R s m args below meth c H locs cells slots Q (F0 m (pc + 3) ls (.int (I 11) :: rest))) : W p l e R s m args below meth c H locs cells slots Q (F0 m pc ls (.ref h :: rest)) :=
  va_get (D := D) (ci := 0) (v := .int (I 11)) (C := RX) (T := TX) (N := 14) S.1 S.2.1 S.2.2.2.2 (fun w hw => List.mem_cons_of_mem _ (inX w hw)) S.2.2.2.1 hw.1 hw.2.1 0 rfl rfl 11 (by decide) (S.2.2.2.2 _ (List.mem_cons_of_mem _ wfX_48)) (fun _ h9 => h9) rfl hdg kk
theorem pX11 {x : Int32} (S : CallFix p m c cc nL s args (w0 :: TT) RX) (hw : sX z D cA h a A s H locs I F) (hdg : decode cc pc = .ok (.putfield 48, 3)) (kk : ∀ (H1 : Heap) (locs1 : List Loc), sX z D cA h a A s H1 locs1 (upd I 11 x) F → W p l e R s m args below meth c H1 locs1 cells slots Q (F0 m (pc + 3) ls rest)) : W p l e R s m args below meth c H locs cells slots Q (F0 m pc ls (.int x :: .ref h :: rest)) :=
  va_put (D := D) (ci := 0) (v := .int x) (ty := .int) (C := RX) (T := TX) (N := 14) S.1 S.2.1 S.2.2.2.2 (fun w hw => List.mem_cons_of_mem _ (inX w hw)) tyX tyX_ok nmX S.2.2.2.1 hw.1 hw.2.1 hw.2.2.1 hw.2.2.2.1 0 rfl rfl 11 (by decide) (S.2.2.2.2 _ (List.mem_cons_of_mem _ wfX_48)) (fun _ h9 => h9) rfl (by decide +kernel) rfl rfl (Nat.le_of_ble_eq_true rfl) hdg (fun H1 locs1 hP hD hS => kk H1 locs1 ⟨hw.1, hP, hD, hS, hw.2.2.2.2.1, hw.2.2.2.2.2⟩)
theorem gX12 (S : CallFix p m c cc nL s args (w0 :: TT) RX) (hw : sX z D cA h a A s H locs I F) (hdg : decode cc pc = .ok (.getfield 51, 3)) (kk : W p l e R s m args below meth c H locs cells slots Q (F0 m (pc + 3) ls (.int (I 12) :: rest))) : W p l e R s m args below meth c H locs cells slots Q (F0 m pc ls (.ref h :: rest)) :=
  va_get (D := D) (ci := 0) (v := .int (I 12)) (C := RX) (T := TX) (N := 14) S.1 S.2.1 S.2.2.2.2 (fun w hw => List.mem_cons_of_mem _ (inX w hw)) S.2.2.2.1 hw.1 hw.2.1 0 rfl rfl 12 (by decide) (S.2.2.2.2 _ (List.mem_cons_of_mem _ wfX_51)) (fun _ h9 => h9) rfl hdg kk
theorem pX12 {x : Int32} (S : CallFix p m c cc nL s args (w0 :: TT) RX) (hw : sX z D cA h a A s H locs I F) (hdg : decode cc pc = .ok (.putfield 51, 3)) (kk : ∀ (H1 : Heap) (locs1 : List Loc), sX z D cA h a A s H1 locs1 (upd I 12 x) F → W p l e R s m args below meth c H1 locs1 cells slots Q (F0 m (pc + 3) ls rest)) : W p l e R s m args below meth c H locs cells slots Q (F0 m pc ls (.int x :: .ref h :: rest)) :=
  va_put (D := D) (ci := 0) (v := .int x) (ty := .int) (C := RX) (T := TX) (N := 14) S.1 S.2.1 S.2.2.2.2 (fun w hw => List.mem_cons_of_mem _ (inX w hw)) tyX tyX_ok nmX S.2.2.2.1 hw.1 hw.2.1 hw.2.2.1 hw.2.2.2.1 0 rfl rfl 12 (by decide) (S.2.2.2.2 _ (List.mem_cons_of_mem _ wfX_51)) (fun _ h9 => h9) rfl (by decide +kernel) rfl rfl (Nat.le_of_ble_eq_true rfl) hdg (fun H1 locs1 hP hD hS => kk H1 locs1 ⟨hw.1, hP, hD, hS, hw.2.2.2.2.1, hw.2.2.2.2.2⟩)
theorem gX13 (S : CallFix p m c cc nL s args (w0 :: TT) RX) (hw : sX z D cA h a A s H locs I F) (hdg : decode cc pc = .ok (.getfield 85, 3)) (kk : W p l e R s m args below meth c H locs cells slots Q (F0 m (pc + 3) ls (.int (I 13) :: rest))) : W p l e R s m args below meth c H locs cells slots Q (F0 m pc ls (.ref h :: rest)) :=
  va_get (D := D) (ci := 0) (v := .int (I 13)) (C := RX) (T := TX) (N := 14) S.1 S.2.1 S.2.2.2.2 (fun w hw => List.mem_cons_of_mem _ (inX w hw)) S.2.2.2.1 hw.1 hw.2.1 0 rfl rfl 13 (by decide) (S.2.2.2.2 _ (List.mem_cons_of_mem _ wfX_85)) (fun _ h9 => h9) rfl hdg kk
theorem pX13 {x : Int32} (S : CallFix p m c cc nL s args (w0 :: TT) RX) (hw : sX z D cA h a A s H locs I F) (hdg : decode cc pc = .ok (.putfield 85, 3)) (kk : ∀ (H1 : Heap) (locs1 : List Loc), sX z D cA h a A s H1 locs1 (upd I 13 x) F → W p l e R s m args below meth c H1 locs1 cells slots Q (F0 m (pc + 3) ls rest)) : W p l e R s m args below meth c H locs cells slots Q (F0 m pc ls (.int x :: .ref h :: rest)) :=
  va_put (D := D) (ci := 0) (v := .int x) (ty := .int) (C := RX) (T := TX) (N := 14) S.1 S.2.1 S.2.2.2.2 (fun w hw => List.mem_cons_of_mem _ (inX w hw)) tyX tyX_ok nmX S.2.2.2.1 hw.1 hw.2.1 hw.2.2.1 hw.2.2.2.1 0 rfl rfl 13 (by decide) (S.2.2.2.2 _ (List.mem_cons_of_mem _ wfX_85)) (fun _ h9 => h9) rfl (by decide +kernel) rfl rfl (Nat.le_of_ble_eq_true rfl) hdg (fun H1 locs1 hP hD hS => kk H1 locs1 ⟨hw.1, hP, hD, hS, hw.2.2.2.2.1, hw.2.2.2.2.2⟩)
theorem ldX0 {i : Int32} (S : CallFix p m c cc nL s args (w0 :: TT) own) (hw : sX z D cA h a A s H locs I F) (hin : vp_in i 1000) (hdg : decode cc pc = .ok (.iaload, 1)) (kk : W p l e R s m args below meth c H locs cells slots Q (F0 m (pc + 1) ls (.int (F 0 i.toNatClampNeg) :: rest))) : W p l e R s m args below meth c H locs cells slots Q (F0 m pc ls (.int i :: .ref (a 0) :: rest)) :=
  va_iald S.1 S.2.1 hw.1 hw.2.1 1 0 rfl rfl hin hdg kk
theorem stX0 {i x : Int32} (S : CallFix p m c cc nL s args (w0 :: TT) own) (hw : sX z D cA h a A s H locs I F) (hin : vp_in i 1000) (hdg : decode cc pc = .ok (.iastore, 1)) (kk : ∀ (H1 : Heap) (locs1 : List Loc), sX z D cA h a A s H1 locs1 I (va_up F 0 (upd (F 0) i.toNatClampNeg x)) → W p l e R s m args below meth c H1 locs1 cells slots Q (F0 m (pc + 1) ls rest)) : W p l e R s m args below meth c H locs cells slots Q (F0 m pc ls (.int x :: .int i :: .ref (a 0) :: rest)) :=
  va_iast S.1 S.2.1 hw.1 hw.2.1 hw.2.2.1 hw.2.2.2.1 1 0 rfl rfl hin hdg (fun H1 locs1 hP hD hS => kk H1 locs1 ⟨hw.1, hP, hD, hS, hw.2.2.2.2.1, hw.2.2.2.2.2⟩)
theorem lnX0 (S : CallFix p m c cc nL s args (w0 :: TT) own) (hw : sX z D cA h a A s H locs I F) (hdg : decode cc pc = .ok (.arraylength, 1)) (kk : W p l e R s m args below meth c H locs cells slots Q (F0 m (pc + 1) ls (.int (nI 1000) :: rest))) : W p l e R s m args below meth c H locs cells slots Q (F0 m pc ls (.ref (a 0) :: rest)) :=
  va_alen S.1 S.2.1 hw.1 hw.2.1 1 0 rfl rfl rfl hdg kk
theorem arX0 (hw : sX z D cA h a A s H locs I F) : arS (some (a 0, 1000, F 0)) H.size s H := by
  intro q N f e
  cases e
  have hc : H[a 0]? = some (vp_cell cA (1000, .inl (F 0))) := hw.2.1 1 _ rfl
  refine ⟨_, hc, (hw.1.2 0 _ rfl).1 1000 (fun j => .int (F 0 j)), (fun q => by cases q), ?_, ?_, fun j hj => ?_, Nat.not_le.mpr (Array.getElem?_eq_some_iff.mp hc).1⟩
  · rw [vp_cell_i, arrV_size]; exact Nat.le_refl _
  · rw [vp_cell_i, arrV_size] <;> rfl
  · rw [vp_cell_i, arrV_read _ _ hj]
theorem ldX2 {i : Int32} (S : CallFix p m c cc nL s args (w0 :: TT) own) (hw : sX z D cA h a A s H locs I F) (hin : vp_in i 1001) (hdg : decode cc pc = .ok (.iaload, 1)) (kk : W p l e R s m args below meth c H locs cells slots Q (F0 m (pc + 1) ls (.int (F 2 i.toNatClampNeg) :: rest))) : W p l e R s m args below meth c H locs cells slots Q (F0 m pc ls (.int i :: .ref (a 2) :: rest)) :=
  va_iald S.1 S.2.1 hw.1 hw.2.1 2 0 rfl rfl hin hdg kk
theorem stX2 {i x : Int32} (S : CallFix p m c cc nL s args (w0 :: TT) own) (hw : sX z D cA h a A s H locs I F) (hin : vp_in i 1001) (hdg : decode cc pc = .ok (.iastore, 1)) (kk : ∀ (H1 : Heap) (locs1 : List Loc), sX z D cA h a A s H1 locs1 I (va_up F 2 (upd (F 2) i.toNatClampNeg x)) → W p l e R s m args below meth c H1 locs1 cells slots Q (F0 m (pc + 1) ls rest)) : W p l e R s m args below meth c H locs cells slots Q (F0 m pc ls (.int x :: .int i :: .ref (a 2) :: rest)) :=
  va_iast S.1 S.2.1 hw.1 hw.2.1 hw.2.2.1 hw.2.2.2.1 2 0 rfl rfl hin hdg (fun H1 locs1 hP hD hS => kk H1 locs1 ⟨hw.1, hP, hD, hS, hw.2.2.2.2.1, hw.2.2.2.2.2⟩)
theorem lnX2 (S : CallFix p m c cc nL s args (w0 :: TT) own) (hw : sX z D cA h a A s H locs I F) (hdg : decode cc pc = .ok (.arraylength, 1)) (kk : W p l e R s m args below meth c H locs cells slots Q (F0 m (pc + 1) ls (.int (nI 1001) :: rest))) : W p l e R s m args below meth c H locs cells slots Q (F0 m pc ls (.ref (a 2) :: rest)) :=
  va_alen S.1 S.2.1 hw.1 hw.2.1 2 0 rfl rfl rfl hdg kk
theorem arX2 (hw : sX z D cA h a A s H locs I F) : arS (some (a 2, 1001, F 2)) H.size s H := by
  intro q N f e
  cases e
  have hc : H[a 2]? = some (vp_cell cA (1001, .inl (F 2))) := hw.2.1 2 _ rfl
  refine ⟨_, hc, (hw.1.2 0 _ rfl).1 1001 (fun j => .int (F 2 j)), (fun q => by cases q), ?_, ?_, fun j hj => ?_, Nat.not_le.mpr (Array.getElem?_eq_some_iff.mp hc).1⟩
  · rw [vp_cell_i, arrV_size]; exact Nat.le_refl _
  · rw [vp_cell_i, arrV_size] <;> rfl
  · rw [vp_cell_i, arrV_read _ _ hj]
theorem ldX3 {i : Int32} (S : CallFix p m c cc nL s args (w0 :: TT) own) (hw : sX z D cA h a A s H locs I F) (hin : vp_in i 1001) (hdg : decode cc pc = .ok (.iaload, 1)) (kk : W p l e R s m args below meth c H locs cells slots Q (F0 m (pc + 1) ls (.int (F 3 i.toNatClampNeg) :: rest))) : W p l e R s m args below meth c H locs cells slots Q (F0 m pc ls (.int i :: .ref (a 3) :: rest)) :=
  va_iald S.1 S.2.1 hw.1 hw.2.1 3 0 rfl rfl hin hdg kk
theorem stX3 {i x : Int32} (S : CallFix p m c cc nL s args (w0 :: TT) own) (hw : sX z D cA h a A s H locs I F) (hin : vp_in i 1001) (hdg : decode cc pc = .ok (.iastore, 1)) (kk : ∀ (H1 : Heap) (locs1 : List Loc), sX z D cA h a A s H1 locs1 I (va_up F 3 (upd (F 3) i.toNatClampNeg x)) → W p l e R s m args below meth c H1 locs1 cells slots Q (F0 m (pc + 1) ls rest)) : W p l e R s m args below meth c H locs cells slots Q (F0 m pc ls (.int x :: .int i :: .ref (a 3) :: rest)) :=
  va_iast S.1 S.2.1 hw.1 hw.2.1 hw.2.2.1 hw.2.2.2.1 3 0 rfl rfl hin hdg (fun H1 locs1 hP hD hS => kk H1 locs1 ⟨hw.1, hP, hD, hS, hw.2.2.2.2.1, hw.2.2.2.2.2⟩)
theorem lnX3 (S : CallFix p m c cc nL s args (w0 :: TT) own) (hw : sX z D cA h a A s H locs I F) (hdg : decode cc pc = .ok (.arraylength, 1)) (kk : W p l e R s m args below meth c H locs cells slots Q (F0 m (pc + 1) ls (.int (nI 1001) :: rest))) : W p l e R s m args below meth c H locs cells slots Q (F0 m pc ls (.ref (a 3) :: rest)) :=
  va_alen S.1 S.2.1 hw.1 hw.2.1 3 0 rfl rfl rfl hdg kk
theorem arX3 (hw : sX z D cA h a A s H locs I F) : arS (some (a 3, 1001, F 3)) H.size s H := by
  intro q N f e
  cases e
  have hc : H[a 3]? = some (vp_cell cA (1001, .inl (F 3))) := hw.2.1 3 _ rfl
  refine ⟨_, hc, (hw.1.2 0 _ rfl).1 1001 (fun j => .int (F 3 j)), (fun q => by cases q), ?_, ?_, fun j hj => ?_, Nat.not_le.mpr (Array.getElem?_eq_some_iff.mp hc).1⟩
  · rw [vp_cell_i, arrV_size]; exact Nat.le_refl _
  · rw [vp_cell_i, arrV_size] <;> rfl
  · rw [vp_cell_i, arrV_read _ _ hj]
theorem ldX4 {i : Int32} (S : CallFix p m c cc nL s args (w0 :: TT) own) (hw : sX z D cA h a A s H locs I F) (hin : vp_in i 1001) (hdg : decode cc pc = .ok (.iaload, 1)) (kk : W p l e R s m args below meth c H locs cells slots Q (F0 m (pc + 1) ls (.int (F 4 i.toNatClampNeg) :: rest))) : W p l e R s m args below meth c H locs cells slots Q (F0 m pc ls (.int i :: .ref (a 4) :: rest)) :=
  va_iald S.1 S.2.1 hw.1 hw.2.1 4 0 rfl rfl hin hdg kk
theorem stX4 {i x : Int32} (S : CallFix p m c cc nL s args (w0 :: TT) own) (hw : sX z D cA h a A s H locs I F) (hin : vp_in i 1001) (hdg : decode cc pc = .ok (.iastore, 1)) (kk : ∀ (H1 : Heap) (locs1 : List Loc), sX z D cA h a A s H1 locs1 I (va_up F 4 (upd (F 4) i.toNatClampNeg x)) → W p l e R s m args below meth c H1 locs1 cells slots Q (F0 m (pc + 1) ls rest)) : W p l e R s m args below meth c H locs cells slots Q (F0 m pc ls (.int x :: .int i :: .ref (a 4) :: rest)) :=
  va_iast S.1 S.2.1 hw.1 hw.2.1 hw.2.2.1 hw.2.2.2.1 4 0 rfl rfl hin hdg (fun H1 locs1 hP hD hS => kk H1 locs1 ⟨hw.1, hP, hD, hS, hw.2.2.2.2.1, hw.2.2.2.2.2⟩)
theorem lnX4 (S : CallFix p m c cc nL s args (w0 :: TT) own) (hw : sX z D cA h a A s H locs I F) (hdg : decode cc pc = .ok (.arraylength, 1)) (kk : W p l e R s m args below meth c H locs cells slots Q (F0 m (pc + 1) ls (.int (nI 1001) :: rest))) : W p l e R s m args below meth c H locs cells slots Q (F0 m pc ls (.ref (a 4) :: rest)) :=
  va_alen S.1 S.2.1 hw.1 hw.2.1 4 0 rfl rfl rfl hdg kk
theorem arX4 (hw : sX z D cA h a A s H locs I F) : arS (some (a 4, 1001, F 4)) H.size s H := by
  intro q N f e
  cases e
  have hc : H[a 4]? = some (vp_cell cA (1001, .inl (F 4))) := hw.2.1 4 _ rfl
  refine ⟨_, hc, (hw.1.2 0 _ rfl).1 1001 (fun j => .int (F 4 j)), (fun q => by cases q), ?_, ?_, fun j hj => ?_, Nat.not_le.mpr (Array.getElem?_eq_some_iff.mp hc).1⟩
  · rw [vp_cell_i, arrV_size]; exact Nat.le_refl _
  · rw [vp_cell_i, arrV_size] <;> rfl
  · rw [vp_cell_i, arrV_read _ _ hj]
theorem ldX5 {i : Int32} (S : CallFix p m c cc nL s args (w0 :: TT) own) (hw : sX z D cA h a A s H locs I F) (hin : vp_in i 1001) (hdg : decode cc pc = .ok (.iaload, 1)) (kk : W p l e R s m args below meth c H locs cells slots Q (F0 m (pc + 1) ls (.int (F 5 i.toNatClampNeg) :: rest))) : W p l e R s m args below meth c H locs cells slots Q (F0 m pc ls (.int i :: .ref (a 5) :: rest)) :=
  va_iald S.1 S.2.1 hw.1 hw.2.1 5 0 rfl rfl hin hdg kk
theorem stX5 {i x : Int32} (S : CallFix p m c cc nL s args (w0 :: TT) own) (hw : sX z D cA h a A s H locs I F) (hin : vp_in i 1001) (hdg : decode cc pc = .ok (.iastore, 1)) (kk : ∀ (H1 : Heap) (locs1 : List Loc), sX z D cA h a A s H1 locs1 I (va_up F 5 (upd (F 5) i.toNatClampNeg x)) → W p l e R s m args below meth c H1 locs1 cells slots Q (F0 m (pc + 1) ls rest)) : W p l e R s m args below meth c H locs cells slots Q (F0 m pc ls (.int x :: .int i :: .ref (a 5) :: rest)) :=
  va_iast S.1 S.2.1 hw.1 hw.2.1 hw.2.2.1 hw.2.2.2.1 5 0 rfl rfl hin hdg (fun H1 locs1 hP hD hS => kk H1 locs1 ⟨hw.1, hP, hD, hS, hw.2.2.2.2.1, hw.2.2.2.2.2⟩)
theorem lnX5 (S : CallFix p m c cc nL s args (w0 :: TT) own) (hw : sX z D cA h a A s H locs I F) (hdg : decode cc pc = .ok (.arraylength, 1)) (kk : W p l e R s m args below meth c H locs cells slots Q (F0 m (pc + 1) ls (.int (nI 1001) :: rest))) : W p l e R s m args below meth c H locs cells slots Q (F0 m pc ls (.ref (a 5) :: rest)) :=
  va_alen S.1 S.2.1 hw.1 hw.2.1 5 0 rfl rfl rfl hdg kk
theorem arX5 (hw : sX z D cA h a A s H locs I F) : arS (some (a 5, 1001, F 5)) H.size s H := by
  intro q N f e
  cases e
  have hc : H[a 5]? = some (vp_cell cA (1001, .inl (F 5))) := hw.2.1 5 _ rfl
  refine ⟨_, hc, (hw.1.2 0 _ rfl).1 1001 (fun j => .int (F 5 j)), (fun q => by cases q), ?_, ?_, fun j hj => ?_, Nat.not_le.mpr (Array.getElem?_eq_some_iff.mp hc).1⟩
  · rw [vp_cell_i, arrV_size]; exact Nat.le_refl _
  · rw [vp_cell_i, arrV_size] <;> rfl
  · rw [vp_cell_i, arrV_read _ _ hj]
theorem ldX6 {i : Int32} (S : CallFix p m c cc nL s args (w0 :: TT) own) (hw : sX z D cA h a A s H locs I F) (hin : vp_in i 1001) (hdg : decode cc pc = .ok (.iaload, 1)) (kk : W p l e R s m args below meth c H locs cells slots Q (F0 m (pc + 1) ls (.int (F 6 i.toNatClampNeg) :: rest))) : W p l e R s m args below meth c H locs cells slots Q (F0 m pc ls (.int i :: .ref (a 6) :: rest)) :=
  va_iald S.1 S.2.1 hw.1 hw.2.1 6 0 rfl rfl hin hdg kk
theorem stX6 {i x : Int32} (S : CallFix p m c cc nL s args (w0 :: TT) own) (hw : sX z D cA h a A s H locs I F) (hin : vp_in i 1001) (hdg : decode cc pc = .ok (.iastore, 1)) (kk : ∀ (H1 : Heap) (locs1 : List Loc), sX z D cA h a A s H1 locs1 I (va_up F 6 (upd (F 6) i.toNatClampNeg x)) → W p l e R s m args below meth c H1 locs1 cells slots Q (F0 m (pc + 1) ls rest)) : W p l e R s m args below meth c H locs cells slots Q (F0 m pc ls (.int x :: .int i :: .ref (a 6) :: rest)) :=
  va_iast S.1 S.2.1 hw.1 hw.2.1 hw.2.2.1 hw.2.2.2.1 6 0 rfl rfl hin hdg (fun H1 locs1 hP hD hS => kk H1 locs1 ⟨hw.1, hP, hD, hS, hw.2.2.2.2.1, hw.2.2.2.2.2⟩)
theorem lnX6 (S : CallFix p m c cc nL s args (w0 :: TT) own) (hw : sX z D cA h a A s H locs I F) (hdg : decode cc pc = .ok (.arraylength, 1)) (kk : W p l e R s m args below meth c H locs cells slots Q (F0 m (pc + 1) ls (.int (nI 1001) :: rest))) : W p l e R s m args below meth c H locs cells slots Q (F0 m pc ls (.ref (a 6) :: rest)) :=
  va_alen S.1 S.2.1 hw.1 hw.2.1 6 0 rfl rfl rfl hdg kk
theorem arX6 (hw : sX z D cA h a A s H locs I F) : arS (some (a 6, 1001, F 6)) H.size s H := by
  intro q N f e
  cases e
  have hc : H[a 6]? = some (vp_cell cA (1001, .inl (F 6))) := hw.2.1 6 _ rfl
  refine ⟨_, hc, (hw.1.2 0 _ rfl).1 1001 (fun j => .int (F 6 j)), (fun q => by cases q), ?_, ?_, fun j hj => ?_, Nat.not_le.mpr (Array.getElem?_eq_some_iff.mp hc).1⟩
  · rw [vp_cell_i, arrV_size]; exact Nat.le_refl _
  · rw [vp_cell_i, arrV_size] <;> rfl
  · rw [vp_cell_i, arrV_read _ _ hj]
theorem ldX7 {i : Int32} (S : CallFix p m c cc nL s args (w0 :: TT) own) (hw : sX z D cA h a A s H locs I F) (hin : vp_in i 1001) (hdg : decode cc pc = .ok (.iaload, 1)) (kk : W p l e R s m args below meth c H locs cells slots Q (F0 m (pc + 1) ls (.int (F 7 i.toNatClampNeg) :: rest))) : W p l e R s m args below meth c H locs cells slots Q (F0 m pc ls (.int i :: .ref (a 7) :: rest)) :=
  va_iald S.1 S.2.1 hw.1 hw.2.1 7 0 rfl rfl hin hdg kk
theorem stX7 {i x : Int32} (S : CallFix p m c cc nL s args (w0 :: TT) own) (hw : sX z D cA h a A s H locs I F) (hin : vp_in i 1001) (hdg : decode cc pc = .ok (.iastore, 1)) (kk : ∀ (H1 : Heap) (locs1 : List Loc), sX z D cA h a A s H1 locs1 I (va_up F 7 (upd (F 7) i.toNatClampNeg x)) → W p l e R s m args below meth c H1 locs1 cells slots Q (F0 m (pc + 1) ls rest)) : W p l e R s m args below meth c H locs cells slots Q (F0 m pc ls (.int x :: .int i :: .ref (a 7) :: rest)) :=
  va_iast S.1 S.2.1 hw.1 hw.2.1 hw.2.2.1 hw.2.2.2.1 7 0 rfl rfl hin hdg (fun H1 locs1 hP hD hS => kk H1 locs1 ⟨hw.1, hP, hD, hS, hw.2.2.2.2.1, hw.2.2.2.2.2⟩)
theorem lnX7 (S : CallFix p m c cc nL s args (w0 :: TT) own) (hw : sX z D cA h a A s H locs I F) (hdg : decode cc pc = .ok (.arraylength, 1)) (kk : W p l e R s m args below meth c H locs cells slots Q (F0 m (pc + 1) ls (.int (nI 1001) :: rest))) : W p l e R s m args below meth c H locs cells slots Q (F0 m pc ls (.ref (a 7) :: rest)) :=
  va_alen S.1 S.2.1 hw.1 hw.2.1 7 0 rfl rfl rfl hdg kk
theorem arX7 (hw : sX z D cA h a A s H locs I F) : arS (some (a 7, 1001, F 7)) H.size s H := by
  intro q N f e
  cases e
  have hc : H[a 7]? = some (vp_cell cA (1001, .inl (F 7))) := hw.2.1 7 _ rfl
  refine ⟨_, hc, (hw.1.2 0 _ rfl).1 1001 (fun j => .int (F 7 j)), (fun q => by cases q), ?_, ?_, fun j hj => ?_, Nat.not_le.mpr (Array.getElem?_eq_some_iff.mp hc).1⟩
  · rw [vp_cell_i, arrV_size]; exact Nat.le_refl _
  · rw [vp_cell_i, arrV_size] <;> rfl
  · rw [vp_cell_i, arrV_read _ _ hj]
theorem ldX9 {i : Int32} (S : CallFix p m c cc nL s args (w0 :: TT) own) (hw : sX z D cA h a A s H locs I F) (hin : vp_in i 1000) (hdg : decode cc pc = .ok (.iaload, 1)) (kk : W p l e R s m args below meth c H locs cells slots Q (F0 m (pc + 1) ls (.int (F 9 i.toNatClampNeg) :: rest))) : W p l e R s m args below meth c H locs cells slots Q (F0 m pc ls (.int i :: .ref (a 9) :: rest)) :=
  va_iald S.1 S.2.1 hw.1 hw.2.1 8 0 rfl rfl hin hdg kk
theorem stX9 {i x : Int32} (S : CallFix p m c cc nL s args (w0 :: TT) own) (hw : sX z D cA h a A s H locs I F) (hin : vp_in i 1000) (hdg : decode cc pc = .ok (.iastore, 1)) (kk : ∀ (H1 : Heap) (locs1 : List Loc), sX z D cA h a A s H1 locs1 I (va_up F 9 (upd (F 9) i.toNatClampNeg x)) → W p l e R s m args below meth c H1 locs1 cells slots Q (F0 m (pc + 1) ls rest)) : W p l e R s m args below meth c H locs cells slots Q (F0 m pc ls (.int x :: .int i :: .ref (a 9) :: rest)) :=
  va_iast S.1 S.2.1 hw.1 hw.2.1 hw.2.2.1 hw.2.2.2.1 8 0 rfl rfl hin hdg (fun H1 locs1 hP hD hS => kk H1 locs1 ⟨hw.1, hP, hD, hS, hw.2.2.2.2.1, hw.2.2.2.2.2⟩)
theorem lnX9 (S : CallFix p m c cc nL s args (w0 :: TT) own) (hw : sX z D cA h a A s H locs I F) (hdg : decode cc pc = .ok (.arraylength, 1)) (kk : W p l e R s m args below meth c H locs cells slots Q (F0 m (pc + 1) ls (.int (nI 1000) :: rest))) : W p l e R s m args below meth c H locs cells slots Q (F0 m pc ls (.ref (a 9) :: rest)) :=
  va_alen S.1 S.2.1 hw.1 hw.2.1 8 0 rfl rfl rfl hdg kk
theorem arX9 (hw : sX z D cA h a A s H locs I F) : arS (some (a 9, 1000, F 9)) H.size s H := by
  intro q N f e
  cases e
  have hc : H[a 9]? = some (vp_cell cA (1000, .inl (F 9))) := hw.2.1 8 _ rfl
  refine ⟨_, hc, (hw.1.2 0 _ rfl).1 1000 (fun j => .int (F 9 j)), (fun q => by cases q), ?_, ?_, fun j hj => ?_, Nat.not_le.mpr (Array.getElem?_eq_some_iff.mp hc).1⟩
  · rw [vp_cell_i, arrV_size]; exact Nat.le_refl _
  · rw [vp_cell_i, arrV_size] <;> rfl
  · rw [vp_cell_i, arrV_read _ _ hj]
end KX
/-! ===== the class TokenRowModel: its world, contracts and steps ===== -/
def wM (z : kz_Z) (cA : ClassId) (h : Nat) (a : Nat → Nat) (I : Nat → Int32) (F : Nat → Nat → Int32) : va_W := [(h, .inr (1, [.int (I 0), .ref (a 1), .int (I 2), .int (I 3), .ref (a 4), .ref (a 5), .ref (a 6), .ref (a 7), .ref (a 8), .ref (a 9), .ref (a 10), .int (I 11), .ref (z.2.1 7), .ref (z.2.1 8), .ref (z.2.1 9), .int (I 15), .int (I 16), .int (I 17), .int (I 18), .int (I 19)])), (a 1, .inl (cA, 1000, .inl (F 1))), (a 4, .inl (cA, 2100, .inl (F 4))), (a 5, .inl (cA, 2100, .inl (F 5))), (a 6, .inl (cA, 2100, .inl (F 6))), (a 7, .inl (cA, 2100, .inl (F 7))), (a 8, .inl (cA, 2100, .inl (F 8))), (a 9, .inl (cA, 2100, .inl (F 9))), (a 10, .inl (cA, 2100, .inl (F 10)))]
def adM (h : Nat) (a : Nat → Nat) : List Nat := [h, a 1, a 4, a 5, a 6, a 7, a 8, a 9, a 10]
def AM (h : Nat) (a : Nat → Nat) (sz : Nat) : Nat → Prop := fun q => q ∈ adM h a ∨ sz ≤ q
def sM (z : kz_Z) (D : va_G) (cA : ClassId) (h : Nat) (a : Nat → Nat) (A : Nat → Prop) (s : State) (H : Heap) (locs : List Loc) (I : Nat → Int32) (F : Nat → Nat → Int32) : Prop :=
  va_K D clT [(cA, .int)] s ∧ va_P D clT (wM z cA h a I F) H ∧ va_D A (wM z cA h a I F) ∧ va_S A s.heap H locs ∧ tkS z A s s.heap ∧ tkR z s
def preM (z : kz_Z) (D : va_G) (cA : ClassId) (h : Nat) (a : Nat → Nat) (sz : Nat) (I : Nat → Int32) (F : Nat → Nat → Int32) (U : State) : Prop :=
  U.heap.size = sz ∧ va_K D clT [(cA, .int)] U ∧ va_P D clT (wM z cA h a I F) U.heap ∧ va_D (AM h a sz) (wM z cA h a I F) ∧ tkS z (AM h a sz) U U.heap ∧ tkR z U
def QM (z : kz_Z) (D : va_G) (cA : ClassId) (h : Nat) (a : Nat → Nat) (sz : Nat) (post : Option Value → (Nat → Int32) → (Nat → Nat → Int32) → Prop) : Array Value → State → Outcome → State → Prop := fun _ st oc t =>
  (∃ (v : Option Value) (I' : Nat → Int32) (F' : Nat → Nat → Int32), oc = .returned v ∧ post v I' F' ∧ va_P D clT (wM z cA h a I' F') t.heap) ∧ va_F (AM h a sz) st t
def MM (l : Launch) (y : MethodName) (cy : ByteArray) (n : Nat) (ret : Option FieldType) (rm : Room) (As : List Value) (I : Nat → Int32) (F : Nat → Nat → Int32) (post : Option Value → (Nat → Int32) → (Nat → Nat → Int32) → Prop) : Prop :=
  ∀ (z : kz_Z) (D : va_G) (cA : ClassId) (h : Nat) (a : Nat → Nat) (sz : Nat), Met l y (Cond.code y cy n ret :: TT) rm (va_Pc (.ref h :: As) (preM z D cA h a sz I F)) (QM z D cA h a sz post) 0 0 (AM h a sz)
theorem MM.mk {l : Launch} {y : MethodName} {cy : ByteArray} {n : Nat} {ret : Option FieldType} {rm : Room} {As : List Value} {I : Nat → Int32} {F : Nat → Nat → Int32} {post : Option Value → (Nat → Int32) → (Nat → Nat → Int32) → Prop} (hy : plainName y.cls = true) (hn : ∀ h : Nat, (lg_sl (.ref h :: As)).length ≤ n)
    (body : ∀ (z : kz_Z) (D : va_G) (cA : ClassId) (h : Nat) (a : Nat → Nat) (p : Program) (e : Env) (s : State) (m : MethodId) (below : List Frame) (meth : Method) (c : Code) (ls : Array Slot), CallFix p m c cy n s (Value.ref h :: As).toArray (Cond.code y cy n ret :: TT) y.cls → meth.sig.returnType = ret → meth.locks = false → (∀ q, s.heap.size ≤ q → AM h a s.heap.size q) → sM z D cA h a (AM h a s.heap.size) s s.heap [] I F → lv_has ls n (lv_args 0 (.ref h :: As)) →
      W p l e rm s m (Value.ref h :: As).toArray below meth c s.heap [] 0 0 (MQ below (QM z D cA h a s.heap.size post) (Value.ref h :: As).toArray s 0 0 (AM h a s.heap.size)) (F0 m 0 ls [])) : MM l y cy n ret rm As I F post := by
  intro z D cA h a sz
  refine Met.ofW (cc := cy) (maxL := n) (ret := ret) hy rfl ?_
  intro p e s m args below meth c s₁ B hml hv
  obtain ⟨rfl, hsz, h1, h2, h3, h4, h5⟩ := hv
  subst hsz
  rw [lg_entry_eq]
  exact body z D cA h a p e s m below meth c _ ⟨B.exec, B.bytes, hml, findClass_of_methodNamed B.named, atoms_spec (ws := Cond.code y cy n ret :: TT) B.pre⟩ B.returns B.notSynchronized (fun q hq => Or.inr hq) ⟨h1, h2, h3, va_S.rf, h4, h5⟩ (lv_entry _ (hn h))
theorem AM.sub {z : kz_Z} {cA : ClassId} {h : Nat} {a : Nat → Nat} {I : Nat → Int32} {F : Nat → Nat → Int32} {A : Nat → Prop} {H0 H : Heap} {locs : List Loc} (hD : va_D A (wM z cA h a I F)) (hS : va_S A H0 H locs) (hA : ∀ q, H0.size ≤ q → A q) : ∀ q, AM h a H.size q → A q := by
  intro q hq
  rcases hq with hq | hq
  · obtain ⟨i, hi⟩ := List.getElem?_of_mem (show q ∈ (wM z cA h a I F).map Prod.fst from hq)
    rw [List.getElem?_map] at hi
    cases hx : (wM z cA h a I F)[i]? with
    | none => rw [hx] at hi; cases hi
    | some x => rw [hx] at hi; cases hi; exact hD.2 i x hx
  · exact hA q (Nat.le_trans hS.1 hq)
theorem DM.any {z : kz_Z} {cA : ClassId} {h : Nat} {a : Nat → Nat} {I I' : Nat → Int32} {F F' : Nat → Nat → Int32} {A B : Nat → Prop} (hD : va_D A (wM z cA h a I F)) (hB : ∀ q ∈ adM h a, B q) : va_D B (wM z cA h a I' F') := kz_addr hD rfl hB
theorem DM.keep {z : kz_Z} {cA : ClassId} {h : Nat} {a : Nat → Nat} {I I' : Nat → Int32} {F F' : Nat → Nat → Int32} {A : Nat → Prop} (hD : va_D A (wM z cA h a I F)) : va_D A (wM z cA h a I' F') := by
  refine DM.any hD (fun q hq => ?_)
  obtain ⟨i, hi⟩ := List.getElem?_of_mem (show q ∈ (wM z cA h a I F).map Prod.fst from hq)
  rw [List.getElem?_map] at hi
  cases hx : (wM z cA h a I F)[i]? with
  | none => rw [hx] at hi; cases hi
  | some x => rw [hx] at hi; cases hi; exact hD.2 i x hx
section KM
variable {p : Program} {l : Launch} {e : Env} {R : Room} {s : State} {m : MethodId} {args : Array Value} {below : List Frame} {meth : Method} {c : Code} {H : Heap} {locs : List Loc} {cells slots : Nat} {Q : State → Prop}
variable {cc : ByteArray} {pc nL : Nat} {ls : Array Slot} {rest : List Value} {D : va_G} {cA : ClassId} {A : Nat → Prop} {z : kz_Z} {w0 : Cond} {own : String}
variable {h : Nat} {a : Nat → Nat} {I : Nat → Int32} {F : Nat → Nat → Int32} {post : Option Value → (Nat → Int32) → (Nat → Nat → Int32) → Prop}
theorem MM.iret {ty : FieldType} {v : Int32} (S : CallFix p m c cc nL s args (w0 :: TT) own) (hr : meth.sig.returnType = some ty) (hl : meth.locks = false) (hw : sM z D cA h a (AM h a s.heap.size) s H locs I F) (hdg : decode cc pc = .ok (.ireturn, 1)) (hn : narrow ty (.int v) = .int v) (hp : post (some (.int v)) I F) :
    W p l e R s m args below meth c H locs cells slots (MQ below (QM z D cA h a s.heap.size post) args s cells slots (AM h a s.heap.size)) (F0 m pc ls [.int v]) :=
  W.zret S.1 S.2.1 hr hn (fun t ht _ => ⟨⟨_, I, F, rfl, hp, by rw [ht]; exact hw.2.1⟩, hw.2.2.2.1.F ht⟩) hw.2.2.2.1.2.2 hdg hl
theorem MM.vret (S : CallFix p m c cc nL s args (w0 :: TT) own) (hr : meth.sig.returnType = none) (hl : meth.locks = false) (hw : sM z D cA h a (AM h a s.heap.size) s H locs I F) (hdg : decode cc pc = .ok (.return_, 1)) (hp : post none I F) :
    W p l e R s m args below meth c H locs cells slots (MQ below (QM z D cA h a s.heap.size post) args s cells slots (AM h a s.heap.size)) (F0 m pc ls []) :=
  W.vret S.1 S.2.1 hr (fun t ht _ => ⟨⟨_, I, F, rfl, hp, by rw [ht]; exact hw.2.1⟩, hw.2.2.2.1.F ht⟩) hw.2.2.2.1.2.2 hdg hl
theorem sM.kept {H1 : Heap} {locs1 : List Loc} (hw : sM z D cA h a A s H locs I F) (hk : ∀ q : Nat, q < H.size → H1[q]? = H[q]?) (hS : va_S A s.heap H1 locs1) : sM z D cA h a A s H1 locs1 I F :=
  ⟨hw.1, hw.2.1.kept (fun k q hq => hk q.1 (hw.2.1 k q hq).lt), hw.2.2.1, hS, hw.2.2.2.2.1, hw.2.2.2.2.2⟩
theorem kcM {ix n k : Nat} {y : MethodName} {cy : ByteArray} {ret : Option FieldType} {rm : Room} {As : List Value} (S : CallFix p m c cc nL s args (w0 :: TT) own) (hk : lkV own ix y cy n ret k) (hyc : y.cls = RM) (hM : MM l y cy n ret rm As I F post) (hw : sM z D cA h a A s H locs I F) (hA : ∀ q, s.heap.size ≤ q → A q)
    (hR : rm.frames + 1 ≤ R.frames ∧ 8 + (n + 11) + rm.locals ≤ R.locals) (hrc : rm.cells = 0) (hrs : rm.slots = 0) (hf : cells ≤ R.cells ∧ slots ≤ R.slots) (hn : As.length = k) (hls : ls.size = nL) (hW : (rest.map fun v => v.category).sum ≤ 8) (hdg : decode cc pc = .ok (.invokevirtual ix, 3))
    (kk : ∀ (v : Option Value) (I' : Nat → Int32) (F' : Nat → Nat → Int32) (H1 : Heap) (locs1 : List Loc), post v I' F' → sM z D cA h a A s H1 locs1 I' F' → W p l e R s m args below meth c H1 locs1 cells slots Q (F0 m (pc + 3) ls (v.toList ++ rest))) : W p l e R s m args below meth c H locs cells slots Q (F0 m pc ls (As.reverse ++ .ref h :: rest)) := by
  obtain ⟨w1, w2, w3, w4, w5, w6⟩ := hw
  have hsub := AM.sub w3 w4 hA
  refine kz_call (va_runV (As := As) (rest := rest) (b := h) S (hM z D cA h a H.size) (kz_cwV S hk hrc hrs hR) ⟨?_, by rw [hyc]; exact va_recv w1 w2 (ci := 1) (q0 := 0) rfl rfl, fun U hU hW => ⟨rfl, by rw [hU], va_K.moved hW.alike w1, by rw [hU]; exact w2, DM.any w3 (fun q hq => Or.inl hq), ?_, w6.warm hW⟩⟩ rfl hn hls rfl (lv_room hW) hdg hf) w4 hsub (fun v st t H1 locs1 h0 h1 hq hL => ?_)
  · intro a1 U g mk q
    obtain ⟨q0, q1, q2, q3, q4, q5, q6⟩ := q
    exact ⟨q0, q1, va_K.moved (Vm.Alike.refl U.vm) q2, q3, q4, q5.moved (Vm.Alike.refl U.vm), q6.same rfl⟩
  · rw [hU]
    exact ((w5.kept w4.2.1).narrow hsub).moved hW.alike
  · obtain ⟨⟨v', I', F', hv, hp, hP⟩, hz, hkp⟩ := hq
    cases hv
    rw [h0] at hz hkp
    rw [h1] at hz hkp hP
    exact kk v I' F' H1 locs1 hp ⟨w1, hP, DM.keep w3, ⟨Nat.le_trans w4.1 hz, fun q g1 g2 => (hkp q (Nat.lt_of_lt_of_le g1 w4.1) (fun x => g2 (hsub q x))).trans (w4.2.1 q g1 g2), hL⟩, w5, w6⟩
theorem kcMi {ix n k : Nat} {y : MethodName} {cy : ByteArray} {ret : Option FieldType} {rm : Room} {As : List Value} {posti : Int32 → (Nat → Int32) → (Nat → Nat → Int32) → Prop} (S : CallFix p m c cc nL s args (w0 :: TT) own) (hk : lkV own ix y cy n ret k) (hyc : y.cls = RM) (hM : MM l y cy n ret rm As I F (iR posti)) (hw : sM z D cA h a A s H locs I F) (hA : ∀ q, s.heap.size ≤ q → A q)
    (hR : rm.frames + 1 ≤ R.frames ∧ 8 + (n + 11) + rm.locals ≤ R.locals) (hrc : rm.cells = 0) (hrs : rm.slots = 0) (hf : cells ≤ R.cells ∧ slots ≤ R.slots) (hn : As.length = k) (hls : ls.size = nL) (hW : (rest.map fun v => v.category).sum ≤ 8) (hdg : decode cc pc = .ok (.invokevirtual ix, 3))
    (kk : ∀ (r : Int32) (I' : Nat → Int32) (F' : Nat → Nat → Int32) (H1 : Heap) (locs1 : List Loc), posti r I' F' → sM z D cA h a A s H1 locs1 I' F' → W p l e R s m args below meth c H1 locs1 cells slots Q (F0 m (pc + 3) ls (.int r :: rest))) : W p l e R s m args below meth c H locs cells slots Q (F0 m pc ls (As.reverse ++ .ref h :: rest)) := by
  refine kcM S hk hyc hM hw hA hR hrc hrs hf hn hls hW hdg (fun v I' F' H1 locs1 hp hw => ?_)
  obtain ⟨r, rfl, hp⟩ := hp
  exact kk r I' F' H1 locs1 hp hw
theorem kcMv {ix n k : Nat} {y : MethodName} {cy : ByteArray} {ret : Option FieldType} {rm : Room} {As : List Value} {postv : (Nat → Int32) → (Nat → Nat → Int32) → Prop} (S : CallFix p m c cc nL s args (w0 :: TT) own) (hk : lkV own ix y cy n ret k) (hyc : y.cls = RM) (hM : MM l y cy n ret rm As I F (vR postv)) (hw : sM z D cA h a A s H locs I F) (hA : ∀ q, s.heap.size ≤ q → A q)
    (hR : rm.frames + 1 ≤ R.frames ∧ 8 + (n + 11) + rm.locals ≤ R.locals) (hrc : rm.cells = 0) (hrs : rm.slots = 0) (hf : cells ≤ R.cells ∧ slots ≤ R.slots) (hn : As.length = k) (hls : ls.size = nL) (hW : (rest.map fun v => v.category).sum ≤ 8) (hdg : decode cc pc = .ok (.invokevirtual ix, 3))
    (kk : ∀ (I' : Nat → Int32) (F' : Nat → Nat → Int32) (H1 : Heap) (locs1 : List Loc), postv I' F' → sM z D cA h a A s H1 locs1 I' F' → W p l e R s m args below meth c H1 locs1 cells slots Q (F0 m (pc + 3) ls rest)) : W p l e R s m args below meth c H locs cells slots Q (F0 m pc ls (As.reverse ++ .ref h :: rest)) := by
  refine kcM S hk hyc hM hw hA hR hrc hrs hf hn hls hW hdg (fun v I' F' H1 locs1 hp hw => ?_)
  obtain ⟨rfl, hp⟩ := hp
  exact kk I' F' H1 locs1 hp hw
/-- a static call out of a method of this class -/
theorem kcMS {ix n k : Nat} {y : MethodName} {cy : ByteArray} {ret : Option FieldType} {rm : Room} {As : List Value} {o : kz_O} {posts : Int32 → Prop} (S : CallFix p m c cc nL s args (w0 :: TT) own) (hk : lkS own ix y cy n ret k) (hM : MS l y cy n ret rm As z o (fun v => ∃ r, v = some (.int r) ∧ posts r)) (hw : sM z D cA h a A s H locs I F) (hA : ∀ q, s.heap.size ≤ q → A q) (ar : arS o H.size s H)
    (hR : rm.frames + 1 ≤ R.frames ∧ 8 + (n + 11) + rm.locals ≤ R.locals) (hrc : rm.cells = 0) (hrs : rm.slots = 0) (hf : cells ≤ R.cells ∧ slots ≤ R.slots) (hn : As.length = k) (hls : ls.size = nL) (hW : (rest.map fun v => v.category).sum ≤ 8) (hdg : decode cc pc = .ok (.invokestatic ix, 3))
    (kk : ∀ (r : Int32) (H1 : Heap) (locs1 : List Loc), posts r → sM z D cA h a A s H1 locs1 I F → W p l e R s m args below meth c H1 locs1 cells slots Q (F0 m (pc + 3) ls (.int r :: rest))) : W p l e R s m args below meth c H locs cells slots Q (F0 m pc ls (As.reverse ++ rest)) := by
  refine kz_cS S hk hM hw.2.2.2.1 hA hw.2.2.2.2.1 hw.2.2.2.2.2 ar hR hrc hrs hf hn hls hW hdg (fun v H1 locs1 hp hz hkp hS => ?_)
  obtain ⟨r, rfl, hp⟩ := hp
  exact kk r H1 locs1 hp (hw.kept hkp hS)
theorem kcMT {ix n k i : Nat} {y : MethodName} {cy : ByteArray} {ret : Option FieldType} {rm : Room} {As : List Value} {o : kz_O} {posts : Int32 → Prop} (S : CallFix p m c cc nL s args (w0 :: TT) own) (hk : lkV own ix y cy n ret k) (hyc : y.cls = "java/lang/String") (hi : i < 12) (hM : MS l y cy n ret rm (.ref (z.2.1 i) :: As) z o (fun v => ∃ r, v = some (.int r) ∧ posts r)) (hw : sM z D cA h a A s H locs I F) (hA : ∀ q, s.heap.size ≤ q → A q) (ar : arS o H.size s H)
    (hR : rm.frames + 1 ≤ R.frames ∧ 8 + (n + 11) + rm.locals ≤ R.locals) (hrc : rm.cells = 0) (hrs : rm.slots = 0) (hf : cells ≤ R.cells ∧ slots ≤ R.slots) (hn : As.length = k) (hls : ls.size = nL) (hW : (rest.map fun v => v.category).sum ≤ 8) (hdg : decode cc pc = .ok (.invokevirtual ix, 3))
    (kk : ∀ (r : Int32) (H1 : Heap) (locs1 : List Loc), posts r → sM z D cA h a A s H1 locs1 I F → W p l e R s m args below meth c H1 locs1 cells slots Q (F0 m (pc + 3) ls (.int r :: rest))) : W p l e R s m args below meth c H locs cells slots Q (F0 m pc ls (As.reverse ++ .ref (z.2.1 i) :: rest)) := by
  refine kz_cT S hk hyc hi hM hw.2.2.2.1 hA hw.2.2.2.2.1 hw.2.2.2.2.2 ar hR hrc hrs hf hn hls hW hdg (fun v H1 locs1 hp hz hkp hS => ?_)
  obtain ⟨r, rfl, hp⟩ := hp
  exact kk r H1 locs1 hp (hw.kept hkp hS)
theorem gM1 (S : CallFix p m c cc nL s args (w0 :: TT) RM) (hw : sM z D cA h a A s H locs I F) (hdg : decode cc pc = .ok (.getfield 7, 3)) (kk : W p l e R s m args below meth c H locs cells slots Q (F0 m (pc + 3) ls (.ref (a 1) :: rest))) : W p l e R s m args below meth c H locs cells slots Q (F0 m pc ls (.ref h :: rest)) :=
  va_get (D := D) (ci := 1) (v := .ref (a 1)) (C := RM) (T := TM) (N := 20) S.1 S.2.1 S.2.2.2.2 (fun w hw => List.mem_cons_of_mem _ (inM w hw)) S.2.2.2.1 hw.1 hw.2.1 0 rfl rfl 1 (by decide) (S.2.2.2.2 _ (List.mem_cons_of_mem _ wfM_7)) (fun _ h9 => h9) rfl hdg kk
theorem gM2 (S : CallFix p m c cc nL s args (w0 :: TT) RM) (hw : sM z D cA h a A s H locs I F) (hdg : decode cc pc = .ok (.getfield 54, 3)) (kk : W p l e R s m args below meth c H locs cells slots Q (F0 m (pc + 3) ls (.int (I 2) :: rest))) : W p l e R s m args below meth c H locs cells slots Q (F0 m pc ls (.ref h :: rest)) :=
  va_get (D := D) (ci := 1) (v := .int (I 2)) (C := RM) (T := TM) (N := 20) S.1 S.2.1 S.2.2.2.2 (fun w hw => List.mem_cons_of_mem _ (inM w hw)) S.2.2.2.1 hw.1 hw.2.1 0 rfl rfl 2 (by decide) (S.2.2.2.2 _ (List.mem_cons_of_mem _ wfM_54)) (fun _ h9 => h9) rfl hdg kk
theorem pM2 {x : Int32} (S : CallFix p m c cc nL s args (w0 :: TT) RM) (hw : sM z D cA h a A s H locs I F) (hdg : decode cc pc = .ok (.putfield 54, 3)) (kk : ∀ (H1 : Heap) (locs1 : List Loc), sM z D cA h a A s H1 locs1 (upd I 2 x) F → W p l e R s m args below meth c H1 locs1 cells slots Q (F0 m (pc + 3) ls rest)) : W p l e R s m args below meth c H locs cells slots Q (F0 m pc ls (.int x :: .ref h :: rest)) :=
  va_put (D := D) (ci := 1) (v := .int x) (ty := .int) (C := RM) (T := TM) (N := 20) S.1 S.2.1 S.2.2.2.2 (fun w hw => List.mem_cons_of_mem _ (inM w hw)) tyM tyM_ok nmM S.2.2.2.1 hw.1 hw.2.1 hw.2.2.1 hw.2.2.2.1 0 rfl rfl 2 (by decide) (S.2.2.2.2 _ (List.mem_cons_of_mem _ wfM_54)) (fun _ h9 => h9) rfl (by decide +kernel) rfl rfl (Nat.le_of_ble_eq_true rfl) hdg (fun H1 locs1 hP hD hS => kk H1 locs1 ⟨hw.1, hP, hD, hS, hw.2.2.2.2.1, hw.2.2.2.2.2⟩)
theorem gM3 (S : CallFix p m c cc nL s args (w0 :: TT) RM) (hw : sM z D cA h a A s H locs I F) (hdg : decode cc pc = .ok (.getfield 81, 3)) (kk : W p l e R s m args below meth c H locs cells slots Q (F0 m (pc + 3) ls (.int (I 3) :: rest))) : W p l e R s m args below meth c H locs cells slots Q (F0 m pc ls (.ref h :: rest)) :=
  va_get (D := D) (ci := 1) (v := .int (I 3)) (C := RM) (T := TM) (N := 20) S.1 S.2.1 S.2.2.2.2 (fun w hw => List.mem_cons_of_mem _ (inM w hw)) S.2.2.2.1 hw.1 hw.2.1 0 rfl rfl 3 (by decide) (S.2.2.2.2 _ (List.mem_cons_of_mem _ wfM_81)) (fun _ h9 => h9) rfl hdg kk
theorem pM3 {x : Int32} (S : CallFix p m c cc nL s args (w0 :: TT) RM) (hw : sM z D cA h a A s H locs I F) (hdg : decode cc pc = .ok (.putfield 81, 3)) (kk : ∀ (H1 : Heap) (locs1 : List Loc), sM z D cA h a A s H1 locs1 (upd I 3 x) F → W p l e R s m args below meth c H1 locs1 cells slots Q (F0 m (pc + 3) ls rest)) : W p l e R s m args below meth c H locs cells slots Q (F0 m pc ls (.int x :: .ref h :: rest)) :=
  va_put (D := D) (ci := 1) (v := .int x) (ty := .int) (C := RM) (T := TM) (N := 20) S.1 S.2.1 S.2.2.2.2 (fun w hw => List.mem_cons_of_mem _ (inM w hw)) tyM tyM_ok nmM S.2.2.2.1 hw.1 hw.2.1 hw.2.2.1 hw.2.2.2.1 0 rfl rfl 3 (by decide) (S.2.2.2.2 _ (List.mem_cons_of_mem _ wfM_81)) (fun _ h9 => h9) rfl (by decide +kernel) rfl rfl (Nat.le_of_ble_eq_true rfl) hdg (fun H1 locs1 hP hD hS => kk H1 locs1 ⟨hw.1, hP, hD, hS, hw.2.2.2.2.1, hw.2.2.2.2.2⟩)
theorem gM4 (S : CallFix p m c cc nL s args (w0 :: TT) RM) (hw : sM z D cA h a A s H locs I F) (hdg : decode cc pc = .ok (.getfield 13, 3)) (kk : W p l e R s m args below meth c H locs cells slots Q (F0 m (pc + 3) ls (.ref (a 4) :: rest))) : W p l e R s m args below meth c H locs cells slots Q (F0 m pc ls (.ref h :: rest)) :=
  va_get (D := D) (ci := 1) (v := .ref (a 4)) (C := RM) (T := TM) (N := 20) S.1 S.2.1 S.2.2.2.2 (fun w hw => List.mem_cons_of_mem _ (inM w hw)) S.2.2.2.1 hw.1 hw.2.1 0 rfl rfl 4 (by decide) (S.2.2.2.2 _ (List.mem_cons_of_mem _ wfM_13)) (fun _ h9 => h9) rfl hdg kk
theorem gM5 (S : CallFix p m c cc nL s args (w0 :: TT) RM) (hw : sM z D cA h a A s H locs I F) (hdg : decode cc pc = .ok (.getfield 16, 3)) (kk : W p l e R s m args below meth c H locs cells slots Q (F0 m (pc + 3) ls (.ref (a 5) :: rest))) : W p l e R s m args below meth c H locs cells slots Q (F0 m pc ls (.ref h :: rest)) :=
  va_get (D := D) (ci := 1) (v := .ref (a 5)) (C := RM) (T := TM) (N := 20) S.1 S.2.1 S.2.2.2.2 (fun w hw => List.mem_cons_of_mem _ (inM w hw)) S.2.2.2.1 hw.1 hw.2.1 0 rfl rfl 5 (by decide) (S.2.2.2.2 _ (List.mem_cons_of_mem _ wfM_16)) (fun _ h9 => h9) rfl hdg kk
theorem gM6 (S : CallFix p m c cc nL s args (w0 :: TT) RM) (hw : sM z D cA h a A s H locs I F) (hdg : decode cc pc = .ok (.getfield 19, 3)) (kk : W p l e R s m args below meth c H locs cells slots Q (F0 m (pc + 3) ls (.ref (a 6) :: rest))) : W p l e R s m args below meth c H locs cells slots Q (F0 m pc ls (.ref h :: rest)) :=
  va_get (D := D) (ci := 1) (v := .ref (a 6)) (C := RM) (T := TM) (N := 20) S.1 S.2.1 S.2.2.2.2 (fun w hw => List.mem_cons_of_mem _ (inM w hw)) S.2.2.2.1 hw.1 hw.2.1 0 rfl rfl 6 (by decide) (S.2.2.2.2 _ (List.mem_cons_of_mem _ wfM_19)) (fun _ h9 => h9) rfl hdg kk
theorem gM7 (S : CallFix p m c cc nL s args (w0 :: TT) RM) (hw : sM z D cA h a A s H locs I F) (hdg : decode cc pc = .ok (.getfield 22, 3)) (kk : W p l e R s m args below meth c H locs cells slots Q (F0 m (pc + 3) ls (.ref (a 7) :: rest))) : W p l e R s m args below meth c H locs cells slots Q (F0 m pc ls (.ref h :: rest)) :=
  va_get (D := D) (ci := 1) (v := .ref (a 7)) (C := RM) (T := TM) (N := 20) S.1 S.2.1 S.2.2.2.2 (fun w hw => List.mem_cons_of_mem _ (inM w hw)) S.2.2.2.1 hw.1 hw.2.1 0 rfl rfl 7 (by decide) (S.2.2.2.2 _ (List.mem_cons_of_mem _ wfM_22)) (fun _ h9 => h9) rfl hdg kk
theorem gM8 (S : CallFix p m c cc nL s args (w0 :: TT) RM) (hw : sM z D cA h a A s H locs I F) (hdg : decode cc pc = .ok (.getfield 25, 3)) (kk : W p l e R s m args below meth c H locs cells slots Q (F0 m (pc + 3) ls (.ref (a 8) :: rest))) : W p l e R s m args below meth c H locs cells slots Q (F0 m pc ls (.ref h :: rest)) :=
  va_get (D := D) (ci := 1) (v := .ref (a 8)) (C := RM) (T := TM) (N := 20) S.1 S.2.1 S.2.2.2.2 (fun w hw => List.mem_cons_of_mem _ (inM w hw)) S.2.2.2.1 hw.1 hw.2.1 0 rfl rfl 8 (by decide) (S.2.2.2.2 _ (List.mem_cons_of_mem _ wfM_25)) (fun _ h9 => h9) rfl hdg kk
theorem gM9 (S : CallFix p m c cc nL s args (w0 :: TT) RM) (hw : sM z D cA h a A s H locs I F) (hdg : decode cc pc = .ok (.getfield 28, 3)) (kk : W p l e R s m args below meth c H locs cells slots Q (F0 m (pc + 3) ls (.ref (a 9) :: rest))) : W p l e R s m args below meth c H locs cells slots Q (F0 m pc ls (.ref h :: rest)) :=
  va_get (D := D) (ci := 1) (v := .ref (a 9)) (C := RM) (T := TM) (N := 20) S.1 S.2.1 S.2.2.2.2 (fun w hw => List.mem_cons_of_mem _ (inM w hw)) S.2.2.2.1 hw.1 hw.2.1 0 rfl rfl 9 (by decide) (S.2.2.2.2 _ (List.mem_cons_of_mem _ wfM_28)) (fun _ h9 => h9) rfl hdg kk
theorem gM10 (S : CallFix p m c cc nL s args (w0 :: TT) RM) (hw : sM z D cA h a A s H locs I F) (hdg : decode cc pc = .ok (.getfield 31, 3)) (kk : W p l e R s m args below meth c H locs cells slots Q (F0 m (pc + 3) ls (.ref (a 10) :: rest))) : W p l e R s m args below meth c H locs cells slots Q (F0 m pc ls (.ref h :: rest)) :=
  va_get (D := D) (ci := 1) (v := .ref (a 10)) (C := RM) (T := TM) (N := 20) S.1 S.2.1 S.2.2.2.2 (fun w hw => List.mem_cons_of_mem _ (inM w hw)) S.2.2.2.1 hw.1 hw.2.1 0 rfl rfl 10 (by decide) (S.2.2.2.2 _ (List.mem_cons_of_mem _ wfM_31)) (fun _ h9 => h9) rfl hdg kk
theorem gM11 (S : CallFix p m c cc nL s args (w0 :: TT) RM) (hw : sM z D cA h a A s H locs I F) (hdg : decode cc pc = .ok (.getfield 84, 3)) (kk : W p l e R s m args below meth c H locs cells slots Q (F0 m (pc + 3) ls (.int (I 11) :: rest))) : W p l e R s m args below meth c H locs cells slots Q (F0 m pc ls (.ref h :: rest)) :=
  va_get (D := D) (ci := 1) (v := .int (I 11)) (C := RM) (T := TM) (N := 20) S.1 S.2.1 S.2.2.2.2 (fun w hw => List.mem_cons_of_mem _ (inM w hw)) S.2.2.2.1 hw.1 hw.2.1 0 rfl rfl 11 (by decide) (S.2.2.2.2 _ (List.mem_cons_of_mem _ wfM_84)) (fun _ h9 => h9) rfl hdg kk
theorem pM11 {x : Int32} (S : CallFix p m c cc nL s args (w0 :: TT) RM) (hw : sM z D cA h a A s H locs I F) (hdg : decode cc pc = .ok (.putfield 84, 3)) (kk : ∀ (H1 : Heap) (locs1 : List Loc), sM z D cA h a A s H1 locs1 (upd I 11 x) F → W p l e R s m args below meth c H1 locs1 cells slots Q (F0 m (pc + 3) ls rest)) : W p l e R s m args below meth c H locs cells slots Q (F0 m pc ls (.int x :: .ref h :: rest)) :=
  va_put (D := D) (ci := 1) (v := .int x) (ty := .int) (C := RM) (T := TM) (N := 20) S.1 S.2.1 S.2.2.2.2 (fun w hw => List.mem_cons_of_mem _ (inM w hw)) tyM tyM_ok nmM S.2.2.2.1 hw.1 hw.2.1 hw.2.2.1 hw.2.2.2.1 0 rfl rfl 11 (by decide) (S.2.2.2.2 _ (List.mem_cons_of_mem _ wfM_84)) (fun _ h9 => h9) rfl (by decide +kernel) rfl rfl (Nat.le_of_ble_eq_true rfl) hdg (fun H1 locs1 hP hD hS => kk H1 locs1 ⟨hw.1, hP, hD, hS, hw.2.2.2.2.1, hw.2.2.2.2.2⟩)
theorem gM12 (S : CallFix p m c cc nL s args (w0 :: TT) RM) (hw : sM z D cA h a A s H locs I F) (hdg : decode cc pc = .ok (.getfield 36, 3)) (kk : W p l e R s m args below meth c H locs cells slots Q (F0 m (pc + 3) ls (.ref (z.2.1 7) :: rest))) : W p l e R s m args below meth c H locs cells slots Q (F0 m pc ls (.ref h :: rest)) :=
  va_get (D := D) (ci := 1) (v := .ref (z.2.1 7)) (C := RM) (T := TM) (N := 20) S.1 S.2.1 S.2.2.2.2 (fun w hw => List.mem_cons_of_mem _ (inM w hw)) S.2.2.2.1 hw.1 hw.2.1 0 rfl rfl 12 (by decide) (S.2.2.2.2 _ (List.mem_cons_of_mem _ wfM_36)) (fun _ h9 => h9) rfl hdg kk
theorem gM13 (S : CallFix p m c cc nL s args (w0 :: TT) RM) (hw : sM z D cA h a A s H locs I F) (hdg : decode cc pc = .ok (.getfield 42, 3)) (kk : W p l e R s m args below meth c H locs cells slots Q (F0 m (pc + 3) ls (.ref (z.2.1 8) :: rest))) : W p l e R s m args below meth c H locs cells slots Q (F0 m pc ls (.ref h :: rest)) :=
  va_get (D := D) (ci := 1) (v := .ref (z.2.1 8)) (C := RM) (T := TM) (N := 20) S.1 S.2.1 S.2.2.2.2 (fun w hw => List.mem_cons_of_mem _ (inM w hw)) S.2.2.2.1 hw.1 hw.2.1 0 rfl rfl 13 (by decide) (S.2.2.2.2 _ (List.mem_cons_of_mem _ wfM_42)) (fun _ h9 => h9) rfl hdg kk
theorem gM14 (S : CallFix p m c cc nL s args (w0 :: TT) RM) (hw : sM z D cA h a A s H locs I F) (hdg : decode cc pc = .ok (.getfield 47, 3)) (kk : W p l e R s m args below meth c H locs cells slots Q (F0 m (pc + 3) ls (.ref (z.2.1 9) :: rest))) : W p l e R s m args below meth c H locs cells slots Q (F0 m pc ls (.ref h :: rest)) :=
  va_get (D := D) (ci := 1) (v := .ref (z.2.1 9)) (C := RM) (T := TM) (N := 20) S.1 S.2.1 S.2.2.2.2 (fun w hw => List.mem_cons_of_mem _ (inM w hw)) S.2.2.2.1 hw.1 hw.2.1 0 rfl rfl 14 (by decide) (S.2.2.2.2 _ (List.mem_cons_of_mem _ wfM_47)) (fun _ h9 => h9) rfl hdg kk
theorem gM15 (S : CallFix p m c cc nL s args (w0 :: TT) RM) (hw : sM z D cA h a A s H locs I F) (hdg : decode cc pc = .ok (.getfield 71, 3)) (kk : W p l e R s m args below meth c H locs cells slots Q (F0 m (pc + 3) ls (.int (I 15) :: rest))) : W p l e R s m args below meth c H locs cells slots Q (F0 m pc ls (.ref h :: rest)) :=
  va_get (D := D) (ci := 1) (v := .int (I 15)) (C := RM) (T := TM) (N := 20) S.1 S.2.1 S.2.2.2.2 (fun w hw => List.mem_cons_of_mem _ (inM w hw)) S.2.2.2.1 hw.1 hw.2.1 0 rfl rfl 15 (by decide) (S.2.2.2.2 _ (List.mem_cons_of_mem _ wfM_71)) (fun _ h9 => h9) rfl hdg kk
theorem pM15 {x : Int32} (S : CallFix p m c cc nL s args (w0 :: TT) RM) (hw : sM z D cA h a A s H locs I F) (hdg : decode cc pc = .ok (.putfield 71, 3)) (kk : ∀ (H1 : Heap) (locs1 : List Loc), sM z D cA h a A s H1 locs1 (upd I 15 x) F → W p l e R s m args below meth c H1 locs1 cells slots Q (F0 m (pc + 3) ls rest)) : W p l e R s m args below meth c H locs cells slots Q (F0 m pc ls (.int x :: .ref h :: rest)) :=
  va_put (D := D) (ci := 1) (v := .int x) (ty := .int) (C := RM) (T := TM) (N := 20) S.1 S.2.1 S.2.2.2.2 (fun w hw => List.mem_cons_of_mem _ (inM w hw)) tyM tyM_ok nmM S.2.2.2.1 hw.1 hw.2.1 hw.2.2.1 hw.2.2.2.1 0 rfl rfl 15 (by decide) (S.2.2.2.2 _ (List.mem_cons_of_mem _ wfM_71)) (fun _ h9 => h9) rfl (by decide +kernel) rfl rfl (Nat.le_of_ble_eq_true rfl) hdg (fun H1 locs1 hP hD hS => kk H1 locs1 ⟨hw.1, hP, hD, hS, hw.2.2.2.2.1, hw.2.2.2.2.2⟩)
theorem gM16 (S : CallFix p m c cc nL s args (w0 :: TT) RM) (hw : sM z D cA h a A s H locs I F) (hdg : decode cc pc = .ok (.getfield 78, 3)) (kk : W p l e R s m args below meth c H locs cells slots Q (F0 m (pc + 3) ls (.int (I 16) :: rest))) : W p l e R s m args below meth c H locs cells slots Q (F0 m pc ls (.ref h :: rest)) :=
  va_get (D := D) (ci := 1) (v := .int (I 16)) (C := RM) (T := TM) (N := 20) S.1 S.2.1 S.2.2.2.2 (fun w hw => List.mem_cons_of_mem _ (inM w hw)) S.2.2.2.1 hw.1 hw.2.1 0 rfl rfl 16 (by decide) (S.2.2.2.2 _ (List.mem_cons_of_mem _ wfM_78)) (fun _ h9 => h9) rfl hdg kk
theorem pM16 {x : Int32} (S : CallFix p m c cc nL s args (w0 :: TT) RM) (hw : sM z D cA h a A s H locs I F) (hdg : decode cc pc = .ok (.putfield 78, 3)) (kk : ∀ (H1 : Heap) (locs1 : List Loc), sM z D cA h a A s H1 locs1 (upd I 16 x) F → W p l e R s m args below meth c H1 locs1 cells slots Q (F0 m (pc + 3) ls rest)) : W p l e R s m args below meth c H locs cells slots Q (F0 m pc ls (.int x :: .ref h :: rest)) :=
  va_put (D := D) (ci := 1) (v := .int x) (ty := .int) (C := RM) (T := TM) (N := 20) S.1 S.2.1 S.2.2.2.2 (fun w hw => List.mem_cons_of_mem _ (inM w hw)) tyM tyM_ok nmM S.2.2.2.1 hw.1 hw.2.1 hw.2.2.1 hw.2.2.2.1 0 rfl rfl 16 (by decide) (S.2.2.2.2 _ (List.mem_cons_of_mem _ wfM_78)) (fun _ h9 => h9) rfl (by decide +kernel) rfl rfl (Nat.le_of_ble_eq_true rfl) hdg (fun H1 locs1 hP hD hS => kk H1 locs1 ⟨hw.1, hP, hD, hS, hw.2.2.2.2.1, hw.2.2.2.2.2⟩)
theorem gM17 (S : CallFix p m c cc nL s args (w0 :: TT) RM) (hw : sM z D cA h a A s H locs I F) (hdg : decode cc pc = .ok (.getfield 123, 3)) (kk : W p l e R s m args below meth c H locs cells slots Q (F0 m (pc + 3) ls (.int (I 17) :: rest))) : W p l e R s m args below meth c H locs cells slots Q (F0 m pc ls (.ref h :: rest)) :=
  va_get (D := D) (ci := 1) (v := .int (I 17)) (C := RM) (T := TM) (N := 20) S.1 S.2.1 S.2.2.2.2 (fun w hw => List.mem_cons_of_mem _ (inM w hw)) S.2.2.2.1 hw.1 hw.2.1 0 rfl rfl 17 (by decide) (S.2.2.2.2 _ (List.mem_cons_of_mem _ wfM_123)) (fun _ h9 => h9) rfl hdg kk
theorem pM17 {x : Int32} (S : CallFix p m c cc nL s args (w0 :: TT) RM) (hw : sM z D cA h a A s H locs I F) (hdg : decode cc pc = .ok (.putfield 123, 3)) (kk : ∀ (H1 : Heap) (locs1 : List Loc), sM z D cA h a A s H1 locs1 (upd I 17 x) F → W p l e R s m args below meth c H1 locs1 cells slots Q (F0 m (pc + 3) ls rest)) : W p l e R s m args below meth c H locs cells slots Q (F0 m pc ls (.int x :: .ref h :: rest)) :=
  va_put (D := D) (ci := 1) (v := .int x) (ty := .int) (C := RM) (T := TM) (N := 20) S.1 S.2.1 S.2.2.2.2 (fun w hw => List.mem_cons_of_mem _ (inM w hw)) tyM tyM_ok nmM S.2.2.2.1 hw.1 hw.2.1 hw.2.2.1 hw.2.2.2.1 0 rfl rfl 17 (by decide) (S.2.2.2.2 _ (List.mem_cons_of_mem _ wfM_123)) (fun _ h9 => h9) rfl (by decide +kernel) rfl rfl (Nat.le_of_ble_eq_true rfl) hdg (fun H1 locs1 hP hD hS => kk H1 locs1 ⟨hw.1, hP, hD, hS, hw.2.2.2.2.1, hw.2.2.2.2.2⟩)
theorem gM18 (S : CallFix p m c cc nL s args (w0 :: TT) RM) (hw : sM z D cA h a A s H locs I F) (hdg : decode cc pc = .ok (.getfield 131, 3)) (kk : W p l e R s m args below meth c H locs cells slots Q (F0 m (pc + 3) ls (.int (I 18) :: rest))) : W p l e R s m args below meth c H locs cells slots Q (F0 m pc ls (.ref h :: rest)) :=
  va_get (D := D) (ci := 1) (v := .int (I 18)) (C := RM) (T := TM) (N := 20) S.1 S.2.1 S.2.2.2.2 (fun w hw => List.mem_cons_of_mem _ (inM w hw)) S.2.2.2.1 hw.1 hw.2.1 0 rfl rfl 18 (by decide) (S.2.2.2.2 _ (List.mem_cons_of_mem _ wfM_131)) (fun _ h9 => h9) rfl hdg kk
theorem pM18 {x : Int32} (S : CallFix p m c cc nL s args (w0 :: TT) RM) (hw : sM z D cA h a A s H locs I F) (hdg : decode cc pc = .ok (.putfield 131, 3)) (kk : ∀ (H1 : Heap) (locs1 : List Loc), sM z D cA h a A s H1 locs1 (upd I 18 x) F → W p l e R s m args below meth c H1 locs1 cells slots Q (F0 m (pc + 3) ls rest)) : W p l e R s m args below meth c H locs cells slots Q (F0 m pc ls (.int x :: .ref h :: rest)) :=
  va_put (D := D) (ci := 1) (v := .int x) (ty := .int) (C := RM) (T := TM) (N := 20) S.1 S.2.1 S.2.2.2.2 (fun w hw => List.mem_cons_of_mem _ (inM w hw)) tyM tyM_ok nmM S.2.2.2.1 hw.1 hw.2.1 hw.2.2.1 hw.2.2.2.1 0 rfl rfl 18 (by decide) (S.2.2.2.2 _ (List.mem_cons_of_mem _ wfM_131)) (fun _ h9 => h9) rfl (by decide +kernel) rfl rfl (Nat.le_of_ble_eq_true rfl) hdg (fun H1 locs1 hP hD hS => kk H1 locs1 ⟨hw.1, hP, hD, hS, hw.2.2.2.2.1, hw.2.2.2.2.2⟩)
theorem gM19 (S : CallFix p m c cc nL s args (w0 :: TT) RM) (hw : sM z D cA h a A s H locs I F) (hdg : decode cc pc = .ok (.getfield 120, 3)) (kk : W p l e R s m args below meth c H locs cells slots Q (F0 m (pc + 3) ls (.int (I 19) :: rest))) : W p l e R s m args below meth c H locs cells slots Q (F0 m pc ls (.ref h :: rest)) :=
  va_get (D := D) (ci := 1) (v := .int (I 19)) (C := RM) (T := TM) (N := 20) S.1 S.2.1 S.2.2.2.2 (fun w hw => List.mem_cons_of_mem _ (inM w hw)) S.2.2.2.1 hw.1 hw.2.1 0 rfl rfl 19 (by decide) (S.2.2.2.2 _ (List.mem_cons_of_mem _ wfM_120)) (fun _ h9 => h9) rfl hdg kk
theorem pM19 {x : Int32} (S : CallFix p m c cc nL s args (w0 :: TT) RM) (hw : sM z D cA h a A s H locs I F) (hdg : decode cc pc = .ok (.putfield 120, 3)) (kk : ∀ (H1 : Heap) (locs1 : List Loc), sM z D cA h a A s H1 locs1 (upd I 19 x) F → W p l e R s m args below meth c H1 locs1 cells slots Q (F0 m (pc + 3) ls rest)) : W p l e R s m args below meth c H locs cells slots Q (F0 m pc ls (.int x :: .ref h :: rest)) :=
  va_put (D := D) (ci := 1) (v := .int x) (ty := .int) (C := RM) (T := TM) (N := 20) S.1 S.2.1 S.2.2.2.2 (fun w hw => List.mem_cons_of_mem _ (inM w hw)) tyM tyM_ok nmM S.2.2.2.1 hw.1 hw.2.1 hw.2.2.1 hw.2.2.2.1 0 rfl rfl 19 (by decide) (S.2.2.2.2 _ (List.mem_cons_of_mem _ wfM_120)) (fun _ h9 => h9) rfl (by decide +kernel) rfl rfl (Nat.le_of_ble_eq_true rfl) hdg (fun H1 locs1 hP hD hS => kk H1 locs1 ⟨hw.1, hP, hD, hS, hw.2.2.2.2.1, hw.2.2.2.2.2⟩)
theorem ldM1 {i : Int32} (S : CallFix p m c cc nL s args (w0 :: TT) own) (hw : sM z D cA h a A s H locs I F) (hin : vp_in i 1000) (hdg : decode cc pc = .ok (.iaload, 1)) (kk : W p l e R s m args below meth c H locs cells slots Q (F0 m (pc + 1) ls (.int (F 1 i.toNatClampNeg) :: rest))) : W p l e R s m args below meth c H locs cells slots Q (F0 m pc ls (.int i :: .ref (a 1) :: rest)) :=
  va_iald S.1 S.2.1 hw.1 hw.2.1 1 0 rfl rfl hin hdg kk
theorem stM1 {i x : Int32} (S : CallFix p m c cc nL s args (w0 :: TT) own) (hw : sM z D cA h a A s H locs I F) (hin : vp_in i 1000) (hdg : decode cc pc = .ok (.iastore, 1)) (kk : ∀ (H1 : Heap) (locs1 : List Loc), sM z D cA h a A s H1 locs1 I (va_up F 1 (upd (F 1) i.toNatClampNeg x)) → W p l e R s m args below meth c H1 locs1 cells slots Q (F0 m (pc + 1) ls rest)) : W p l e R s m args below meth c H locs cells slots Q (F0 m pc ls (.int x :: .int i :: .ref (a 1) :: rest)) :=
  va_iast S.1 S.2.1 hw.1 hw.2.1 hw.2.2.1 hw.2.2.2.1 1 0 rfl rfl hin hdg (fun H1 locs1 hP hD hS => kk H1 locs1 ⟨hw.1, hP, hD, hS, hw.2.2.2.2.1, hw.2.2.2.2.2⟩)
theorem lnM1 (S : CallFix p m c cc nL s args (w0 :: TT) own) (hw : sM z D cA h a A s H locs I F) (hdg : decode cc pc = .ok (.arraylength, 1)) (kk : W p l e R s m args below meth c H locs cells slots Q (F0 m (pc + 1) ls (.int (nI 1000) :: rest))) : W p l e R s m args below meth c H locs cells slots Q (F0 m pc ls (.ref (a 1) :: rest)) :=
  va_alen S.1 S.2.1 hw.1 hw.2.1 1 0 rfl rfl rfl hdg kk
theorem arM1 (hw : sM z D cA h a A s H locs I F) : arS (some (a 1, 1000, F 1)) H.size s H := by
  intro q N f e
  cases e
  have hc : H[a 1]? = some (vp_cell cA (1000, .inl (F 1))) := hw.2.1 1 _ rfl
  refine ⟨_, hc, (hw.1.2 0 _ rfl).1 1000 (fun j => .int (F 1 j)), (fun q => by cases q), ?_, ?_, fun j hj => ?_, Nat.not_le.mpr (Array.getElem?_eq_some_iff.mp hc).1⟩
  · rw [vp_cell_i, arrV_size]; exact Nat.le_refl _
  · rw [vp_cell_i, arrV_size] <;> rfl
  · rw [vp_cell_i, arrV_read _ _ hj]
theorem ldM4 {i : Int32} (S : CallFix p m c cc nL s args (w0 :: TT) own) (hw : sM z D cA h a A s H locs I F) (hin : vp_in i 2100) (hdg : decode cc pc = .ok (.iaload, 1)) (kk : W p l e R s m args below meth c H locs cells slots Q (F0 m (pc + 1) ls (.int (F 4 i.toNatClampNeg) :: rest))) : W p l e R s m args below meth c H locs cells slots Q (F0 m pc ls (.int i :: .ref (a 4) :: rest)) :=
  va_iald S.1 S.2.1 hw.1 hw.2.1 2 0 rfl rfl hin hdg kk
theorem stM4 {i x : Int32} (S : CallFix p m c cc nL s args (w0 :: TT) own) (hw : sM z D cA h a A s H locs I F) (hin : vp_in i 2100) (hdg : decode cc pc = .ok (.iastore, 1)) (kk : ∀ (H1 : Heap) (locs1 : List Loc), sM z D cA h a A s H1 locs1 I (va_up F 4 (upd (F 4) i.toNatClampNeg x)) → W p l e R s m args below meth c H1 locs1 cells slots Q (F0 m (pc + 1) ls rest)) : W p l e R s m args below meth c H locs cells slots Q (F0 m pc ls (.int x :: .int i :: .ref (a 4) :: rest)) :=
  va_iast S.1 S.2.1 hw.1 hw.2.1 hw.2.2.1 hw.2.2.2.1 2 0 rfl rfl hin hdg (fun H1 locs1 hP hD hS => kk H1 locs1 ⟨hw.1, hP, hD, hS, hw.2.2.2.2.1, hw.2.2.2.2.2⟩)
theorem lnM4 (S : CallFix p m c cc nL s args (w0 :: TT) own) (hw : sM z D cA h a A s H locs I F) (hdg : decode cc pc = .ok (.arraylength, 1)) (kk : W p l e R s m args below meth c H locs cells slots Q (F0 m (pc + 1) ls (.int (nI 2100) :: rest))) : W p l e R s m args below meth c H locs cells slots Q (F0 m pc ls (.ref (a 4) :: rest)) :=
  va_alen S.1 S.2.1 hw.1 hw.2.1 2 0 rfl rfl rfl hdg kk
theorem arM4 (hw : sM z D cA h a A s H locs I F) : arS (some (a 4, 2100, F 4)) H.size s H := by
  intro q N f e
  cases e
  have hc : H[a 4]? = some (vp_cell cA (2100, .inl (F 4))) := hw.2.1 2 _ rfl
  refine ⟨_, hc, (hw.1.2 0 _ rfl).1 2100 (fun j => .int (F 4 j)), (fun q => by cases q), ?_, ?_, fun j hj => ?_, Nat.not_le.mpr (Array.getElem?_eq_some_iff.mp hc).1⟩
  · rw [vp_cell_i, arrV_size]; exact Nat.le_refl _
  · rw [vp_cell_i, arrV_size] <;> rfl
  · rw [vp_cell_i, arrV_read _ _ hj]
theorem ldM5 {i : Int32} (S : CallFix p m c cc nL s args (w0 :: TT) own) (hw : sM z D cA h a A s H locs I F) (hin : vp_in i 2100) (hdg : decode cc pc = .ok (.iaload, 1)) (kk : W p l e R s m args below meth c H locs cells slots Q (F0 m (pc + 1) ls (.int (F 5 i.toNatClampNeg) :: rest))) : W p l e R s m args below meth c H locs cells slots Q (F0 m pc ls (.int i :: .ref (a 5) :: rest)) :=
  va_iald S.1 S.2.1 hw.1 hw.2.1 3 0 rfl rfl hin hdg kk
theorem stM5 {i x : Int32} (S : CallFix p m c cc nL s args (w0 :: TT) own) (hw : sM z D cA h a A s H locs I F) (hin : vp_in i 2100) (hdg : decode cc pc = .ok (.iastore, 1)) (kk : ∀ (H1 : Heap) (locs1 : List Loc), sM z D cA h a A s H1 locs1 I (va_up F 5 (upd (F 5) i.toNatClampNeg x)) → W p l e R s m args below meth c H1 locs1 cells slots Q (F0 m (pc + 1) ls rest)) : W p l e R s m args below meth c H locs cells slots Q (F0 m pc ls (.int x :: .int i :: .ref (a 5) :: rest)) :=
  va_iast S.1 S.2.1 hw.1 hw.2.1 hw.2.2.1 hw.2.2.2.1 3 0 rfl rfl hin hdg (fun H1 locs1 hP hD hS => kk H1 locs1 ⟨hw.1, hP, hD, hS, hw.2.2.2.2.1, hw.2.2.2.2.2⟩)
theorem lnM5 (S : CallFix p m c cc nL s args (w0 :: TT) own) (hw : sM z D cA h a A s H locs I F) (hdg : decode cc pc = .ok (.arraylength, 1)) (kk : W p l e R s m args below meth c H locs cells slots Q (F0 m (pc + 1) ls (.int (nI 2100) :: rest))) : W p l e R s m args below meth c H locs cells slots Q (F0 m pc ls (.ref (a 5) :: rest)) :=
  va_alen S.1 S.2.1 hw.1 hw.2.1 3 0 rfl rfl rfl hdg kk
theorem arM5 (hw : sM z D cA h a A s H locs I F) : arS (some (a 5, 2100, F 5)) H.size s H := by
  intro q N f e
  cases e
  have hc : H[a 5]? = some (vp_cell cA (2100, .inl (F 5))) := hw.2.1 3 _ rfl
  refine ⟨_, hc, (hw.1.2 0 _ rfl).1 2100 (fun j => .int (F 5 j)), (fun q => by cases q), ?_, ?_, fun j hj => ?_, Nat.not_le.mpr (Array.getElem?_eq_some_iff.mp hc).1⟩
  · rw [vp_cell_i, arrV_size]; exact Nat.le_refl _
  · rw [vp_cell_i, arrV_size] <;> rfl
  · rw [vp_cell_i, arrV_read _ _ hj]
theorem ldM6 {i : Int32} (S : CallFix p m c cc nL s args (w0 :: TT) own) (hw : sM z D cA h a A s H locs I F) (hin : vp_in i 2100) (hdg : decode cc pc = .ok (.iaload, 1)) (kk : W p l e R s m args below meth c H locs cells slots Q (F0 m (pc + 1) ls (.int (F 6 i.toNatClampNeg) :: rest))) : W p l e R s m args below meth c H locs cells slots Q (F0 m pc ls (.int i :: .ref (a 6) :: rest)) :=
  va_iald S.1 S.2.1 hw.1 hw.2.1 4 0 rfl rfl hin hdg kk
theorem stM6 {i x : Int32} (S : CallFix p m c cc nL s args (w0 :: TT) own) (hw : sM z D cA h a A s H locs I F) (hin : vp_in i 2100) (hdg : decode cc pc = .ok (.iastore, 1)) (kk : ∀ (H1 : Heap) (locs1 : List Loc), sM z D cA h a A s H1 locs1 I (va_up F 6 (upd (F 6) i.toNatClampNeg x)) → W p l e R s m args below meth c H1 locs1 cells slots Q (F0 m (pc + 1) ls rest)) : W p l e R s m args below meth c H locs cells slots Q (F0 m pc ls (.int x :: .int i :: .ref (a 6) :: rest)) :=
  va_iast S.1 S.2.1 hw.1 hw.2.1 hw.2.2.1 hw.2.2.2.1 4 0 rfl rfl hin hdg (fun H1 locs1 hP hD hS => kk H1 locs1 ⟨hw.1, hP, hD, hS, hw.2.2.2.2.1, hw.2.2.2.2.2⟩)
theorem lnM6 (S : CallFix p m c cc nL s args (w0 :: TT) own) (hw : sM z D cA h a A s H locs I F) (hdg : decode cc pc = .ok (.arraylength, 1)) (kk : W p l e R s m args below meth c H locs cells slots Q (F0 m (pc + 1) ls (.int (nI 2100) :: rest))) : W p l e R s m args below meth c H locs cells slots Q (F0 m pc ls (.ref (a 6) :: rest)) :=
  va_alen S.1 S.2.1 hw.1 hw.2.1 4 0 rfl rfl rfl hdg kk
theorem arM6 (hw : sM z D cA h a A s H locs I F) : arS (some (a 6, 2100, F 6)) H.size s H := by
  intro q N f e
  cases e
  have hc : H[a 6]? = some (vp_cell cA (2100, .inl (F 6))) := hw.2.1 4 _ rfl
  refine ⟨_, hc, (hw.1.2 0 _ rfl).1 2100 (fun j => .int (F 6 j)), (fun q => by cases q), ?_, ?_, fun j hj => ?_, Nat.not_le.mpr (Array.getElem?_eq_some_iff.mp hc).1⟩
  · rw [vp_cell_i, arrV_size]; exact Nat.le_refl _
  · rw [vp_cell_i, arrV_size] <;> rfl
  · rw [vp_cell_i, arrV_read _ _ hj]
theorem ldM7 {i : Int32} (S : CallFix p m c cc nL s args (w0 :: TT) own) (hw : sM z D cA h a A s H locs I F) (hin : vp_in i 2100) (hdg : decode cc pc = .ok (.iaload, 1)) (kk : W p l e R s m args below meth c H locs cells slots Q (F0 m (pc + 1) ls (.int (F 7 i.toNatClampNeg) :: rest))) : W p l e R s m args below meth c H locs cells slots Q (F0 m pc ls (.int i :: .ref (a 7) :: rest)) :=
  va_iald S.1 S.2.1 hw.1 hw.2.1 5 0 rfl rfl hin hdg kk
theorem stM7 {i x : Int32} (S : CallFix p m c cc nL s args (w0 :: TT) own) (hw : sM z D cA h a A s H locs I F) (hin : vp_in i 2100) (hdg : decode cc pc = .ok (.iastore, 1)) (kk : ∀ (H1 : Heap) (locs1 : List Loc), sM z D cA h a A s H1 locs1 I (va_up F 7 (upd (F 7) i.toNatClampNeg x)) → W p l e R s m args below meth c H1 locs1 cells slots Q (F0 m (pc + 1) ls rest)) : W p l e R s m args below meth c H locs cells slots Q (F0 m pc ls (.int x :: .int i :: .ref (a 7) :: rest)) :=
  va_iast S.1 S.2.1 hw.1 hw.2.1 hw.2.2.1 hw.2.2.2.1 5 0 rfl rfl hin hdg (fun H1 locs1 hP hD hS => kk H1 locs1 ⟨hw.1, hP, hD, hS, hw.2.2.2.2.1, hw.2.2.2.2.2⟩)
theorem lnM7 (S : CallFix p m c cc nL s args (w0 :: TT) own) (hw : sM z D cA h a A s H locs I F) (hdg : decode cc pc = .ok (.arraylength, 1)) (kk : W p l e R s m args below meth c H locs cells slots Q (F0 m (pc + 1) ls (.int (nI 2100) :: rest))) : W p l e R s m args below meth c H locs cells slots Q (F0 m pc ls (.ref (a 7) :: rest)) :=
  va_alen S.1 S.2.1 hw.1 hw.2.1 5 0 rfl rfl rfl hdg kk
theorem arM7 (hw : sM z D cA h a A s H locs I F) : arS (some (a 7, 2100, F 7)) H.size s H := by
  intro q N f e
  cases e
  have hc : H[a 7]? = some (vp_cell cA (2100, .inl (F 7))) := hw.2.1 5 _ rfl
  refine ⟨_, hc, (hw.1.2 0 _ rfl).1 2100 (fun j => .int (F 7 j)), (fun q => by cases q), ?_, ?_, fun j hj => ?_, Nat.not_le.mpr (Array.getElem?_eq_some_iff.mp hc).1⟩
  · rw [vp_cell_i, arrV_size]; exact Nat.le_refl _
  · rw [vp_cell_i, arrV_size] <;> rfl
  · rw [vp_cell_i, arrV_read _ _ hj]
theorem ldM8 {i : Int32} (S : CallFix p m c cc nL s args (w0 :: TT) own) (hw : sM z D cA h a A s H locs I F) (hin : vp_in i 2100) (hdg : decode cc pc = .ok (.iaload, 1)) (kk : W p l e R s m args below meth c H locs cells slots Q (F0 m (pc + 1) ls (.int (F 8 i.toNatClampNeg) :: rest))) : W p l e R s m args below meth c H locs cells slots Q (F0 m pc ls (.int i :: .ref (a 8) :: rest)) :=
  va_iald S.1 S.2.1 hw.1 hw.2.1 6 0 rfl rfl hin hdg kk
theorem stM8 {i x : Int32} (S : CallFix p m c cc nL s args (w0 :: TT) own) (hw : sM z D cA h a A s H locs I F) (hin : vp_in i 2100) (hdg : decode cc pc = .ok (.iastore, 1)) (kk : ∀ (H1 : Heap) (locs1 : List Loc), sM z D cA h a A s H1 locs1 I (va_up F 8 (upd (F 8) i.toNatClampNeg x)) → W p l e R s m args below meth c H1 locs1 cells slots Q (F0 m (pc + 1) ls rest)) : W p l e R s m args below meth c H locs cells slots Q (F0 m pc ls (.int x :: .int i :: .ref (a 8) :: rest)) :=
  va_iast S.1 S.2.1 hw.1 hw.2.1 hw.2.2.1 hw.2.2.2.1 6 0 rfl rfl hin hdg (fun H1 locs1 hP hD hS => kk H1 locs1 ⟨hw.1, hP, hD, hS, hw.2.2.2.2.1, hw.2.2.2.2.2⟩)
theorem lnM8 (S : CallFix p m c cc nL s args (w0 :: TT) own) (hw : sM z D cA h a A s H locs I F) (hdg : decode cc pc = .ok (.arraylength, 1)) (kk : W p l e R s m args below meth c H locs cells slots Q (F0 m (pc + 1) ls (.int (nI 2100) :: rest))) : W p l e R s m args below meth c H locs cells slots Q (F0 m pc ls (.ref (a 8) :: rest)) :=
  va_alen S.1 S.2.1 hw.1 hw.2.1 6 0 rfl rfl rfl hdg kk
theorem arM8 (hw : sM z D cA h a A s H locs I F) : arS (some (a 8, 2100, F 8)) H.size s H := by
  intro q N f e
  cases e
  have hc : H[a 8]? = some (vp_cell cA (2100, .inl (F 8))) := hw.2.1 6 _ rfl
  refine ⟨_, hc, (hw.1.2 0 _ rfl).1 2100 (fun j => .int (F 8 j)), (fun q => by cases q), ?_, ?_, fun j hj => ?_, Nat.not_le.mpr (Array.getElem?_eq_some_iff.mp hc).1⟩
  · rw [vp_cell_i, arrV_size]; exact Nat.le_refl _
  · rw [vp_cell_i, arrV_size] <;> rfl
  · rw [vp_cell_i, arrV_read _ _ hj]
theorem ldM9 {i : Int32} (S : CallFix p m c cc nL s args (w0 :: TT) own) (hw : sM z D cA h a A s H locs I F) (hin : vp_in i 2100) (hdg : decode cc pc = .ok (.iaload, 1)) (kk : W p l e R s m args below meth c H locs cells slots Q (F0 m (pc + 1) ls (.int (F 9 i.toNatClampNeg) :: rest))) : W p l e R s m args below meth c H locs cells slots Q (F0 m pc ls (.int i :: .ref (a 9) :: rest)) :=
  va_iald S.1 S.2.1 hw.1 hw.2.1 7 0 rfl rfl hin hdg kk
theorem stM9 {i x : Int32} (S : CallFix p m c cc nL s args (w0 :: TT) own) (hw : sM z D cA h a A s H locs I F) (hin : vp_in i 2100) (hdg : decode cc pc = .ok (.iastore, 1)) (kk : ∀ (H1 : Heap) (locs1 : List Loc), sM z D cA h a A s H1 locs1 I (va_up F 9 (upd (F 9) i.toNatClampNeg x)) → W p l e R s m args below meth c H1 locs1 cells slots Q (F0 m (pc + 1) ls rest)) : W p l e R s m args below meth c H locs cells slots Q (F0 m pc ls (.int x :: .int i :: .ref (a 9) :: rest)) :=
  va_iast S.1 S.2.1 hw.1 hw.2.1 hw.2.2.1 hw.2.2.2.1 7 0 rfl rfl hin hdg (fun H1 locs1 hP hD hS => kk H1 locs1 ⟨hw.1, hP, hD, hS, hw.2.2.2.2.1, hw.2.2.2.2.2⟩)
theorem lnM9 (S : CallFix p m c cc nL s args (w0 :: TT) own) (hw : sM z D cA h a A s H locs I F) (hdg : decode cc pc = .ok (.arraylength, 1)) (kk : W p l e R s m args below meth c H locs cells slots Q (F0 m (pc + 1) ls (.int (nI 2100) :: rest))) : W p l e R s m args below meth c H locs cells slots Q (F0 m pc ls (.ref (a 9) :: rest)) :=
  va_alen S.1 S.2.1 hw.1 hw.2.1 7 0 rfl rfl rfl hdg kk
theorem arM9 (hw : sM z D cA h a A s H locs I F) : arS (some (a 9, 2100, F 9)) H.size s H := by
  intro q N f e
  cases e
  have hc : H[a 9]? = some (vp_cell cA (2100, .inl (F 9))) := hw.2.1 7 _ rfl
  refine ⟨_, hc, (hw.1.2 0 _ rfl).1 2100 (fun j => .int (F 9 j)), (fun q => by cases q), ?_, ?_, fun j hj => ?_, Nat.not_le.mpr (Array.getElem?_eq_some_iff.mp hc).1⟩
  · rw [vp_cell_i, arrV_size]; exact Nat.le_refl _
  · rw [vp_cell_i, arrV_size] <;> rfl
  · rw [vp_cell_i, arrV_read _ _ hj]
theorem ldM10 {i : Int32} (S : CallFix p m c cc nL s args (w0 :: TT) own) (hw : sM z D cA h a A s H locs I F) (hin : vp_in i 2100) (hdg : decode cc pc = .ok (.iaload, 1)) (kk : W p l e R s m args below meth c H locs cells slots Q (F0 m (pc + 1) ls (.int (F 10 i.toNatClampNeg) :: rest))) : W p l e R s m args below meth c H locs cells slots Q (F0 m pc ls (.int i :: .ref (a 10) :: rest)) :=
  va_iald S.1 S.2.1 hw.1 hw.2.1 8 0 rfl rfl hin hdg kk
theorem stM10 {i x : Int32} (S : CallFix p m c cc nL s args (w0 :: TT) own) (hw : sM z D cA h a A s H locs I F) (hin : vp_in i 2100) (hdg : decode cc pc = .ok (.iastore, 1)) (kk : ∀ (H1 : Heap) (locs1 : List Loc), sM z D cA h a A s H1 locs1 I (va_up F 10 (upd (F 10) i.toNatClampNeg x)) → W p l e R s m args below meth c H1 locs1 cells slots Q (F0 m (pc + 1) ls rest)) : W p l e R s m args below meth c H locs cells slots Q (F0 m pc ls (.int x :: .int i :: .ref (a 10) :: rest)) :=
  va_iast S.1 S.2.1 hw.1 hw.2.1 hw.2.2.1 hw.2.2.2.1 8 0 rfl rfl hin hdg (fun H1 locs1 hP hD hS => kk H1 locs1 ⟨hw.1, hP, hD, hS, hw.2.2.2.2.1, hw.2.2.2.2.2⟩)
theorem lnM10 (S : CallFix p m c cc nL s args (w0 :: TT) own) (hw : sM z D cA h a A s H locs I F) (hdg : decode cc pc = .ok (.arraylength, 1)) (kk : W p l e R s m args below meth c H locs cells slots Q (F0 m (pc + 1) ls (.int (nI 2100) :: rest))) : W p l e R s m args below meth c H locs cells slots Q (F0 m pc ls (.ref (a 10) :: rest)) :=
  va_alen S.1 S.2.1 hw.1 hw.2.1 8 0 rfl rfl rfl hdg kk
theorem arM10 (hw : sM z D cA h a A s H locs I F) : arS (some (a 10, 2100, F 10)) H.size s H := by
  intro q N f e
  cases e
  have hc : H[a 10]? = some (vp_cell cA (2100, .inl (F 10))) := hw.2.1 8 _ rfl
  refine ⟨_, hc, (hw.1.2 0 _ rfl).1 2100 (fun j => .int (F 10 j)), (fun q => by cases q), ?_, ?_, fun j hj => ?_, Nat.not_le.mpr (Array.getElem?_eq_some_iff.mp hc).1⟩
  · rw [vp_cell_i, arrV_size]; exact Nat.le_refl _
  · rw [vp_cell_i, arrV_size] <;> rfl
  · rw [vp_cell_i, arrV_read _ _ hj]
end KM
theorem kX_38 : lkV "TokenRow" 38 yX_appendBytes cX_appendBytes 3 none 1 := ⟨wlX_38, wiX_appendBytes, weX_appendBytes, wnX, wcX_appendBytes, by decide +kernel⟩
theorem kX_54 : lkV "TokenRow" 54 yX_skipGap cX_skipGap 3 none 0 := ⟨wlX_54, wiX_skipGap, weX_skipGap, wnX, wcX_skipGap, by decide +kernel⟩
theorem kX_57 : lkV "TokenRow" 57 yX_readToken cX_readToken 5 (some .boolean) 0 := ⟨wlX_57, wiX_readToken, weX_readToken, wnX, wcX_readToken, by decide +kernel⟩
theorem kX_61 : lkV "TokenRow" 61 yX_isToken cX_isToken 2 (some .boolean) 1 := ⟨wlX_61, wiX_isToken, weX_isToken, wnX, wcX_isToken, by decide +kernel⟩
theorem kX_65 : lkS "TokenRow" 65 yX_isSignOrKeyword cX_isSignOrKeyword 1 (some .boolean) 1 := ⟨wlX_65, wsX_isSignOrKeyword, wnX, wcX_isSignOrKeyword, by decide +kernel⟩
theorem kX_73 : lkS "TokenRow" 73 yX_numberInList cX_numberInList 8 (some .int) 4 := ⟨wlX_73, wsX_numberInList, wnX, wcX_numberInList, by decide +kernel⟩
theorem kX_77 : lkS "TokenRow" 77 yX_elementAt cX_elementAt 2 (some .int) 2 := ⟨wlX_77, wsX_elementAt, wnX, wcX_elementAt, by decide +kernel⟩
theorem kX_81 : lkV "TokenRow" 81 yX_tapeByte cX_tapeByte 2 (some .int) 1 := ⟨wlX_81, wiX_tapeByte, weX_tapeByte, wnX, wcX_tapeByte, by decide +kernel⟩
theorem kX_88 : lkV "TokenRow" 88 yX_takeToken cX_takeToken 2 (some .int) 0 := ⟨wlX_88, wiX_takeToken, weX_takeToken, wnX, wcX_takeToken, by decide +kernel⟩
theorem kX_92 : lkV "TokenRow" 92 yX_isSemicolonDue cX_isSemicolonDue 5 (some .boolean) 3 := ⟨wlX_92, wiX_isSemicolonDue, weX_isSemicolonDue, wnX, wcX_isSemicolonDue, by decide +kernel⟩
theorem kX_96 : lkV "TokenRow" 96 yX_addSemicolon cX_addSemicolon 3 none 1 := ⟨wlX_96, wiX_addSemicolon, weX_addSemicolon, wnX, wcX_addSemicolon, by decide +kernel⟩
theorem kX_99 : lkV "TokenRow" 99 yX_addToken cX_addToken 6 none 5 := ⟨wlX_99, wiX_addToken, weX_addToken, wnX, wcX_addToken, by decide +kernel⟩
theorem kX_103 : lkS "TokenRow" 103 yX_isLetter cX_isLetter 1 (some .boolean) 1 := ⟨wlX_103, wsX_isLetter, wnX, wcX_isLetter, by decide +kernel⟩
theorem kX_106 : lkV "TokenRow" 106 yX_takeWord cX_takeWord 4 (some .int) 0 := ⟨wlX_106, wiX_takeWord, weX_takeWord, wnX, wcX_takeWord, by decide +kernel⟩
theorem kX_109 : lkS "TokenRow" 109 yX_isDecimalDigit cX_isDecimalDigit 1 (some .boolean) 1 := ⟨wlX_109, wsX_isDecimalDigit, wnX, wcX_isDecimalDigit, by decide +kernel⟩
theorem kX_112 : lkV "TokenRow" 112 yX_takeDigits cX_takeDigits 6 (some .int) 1 := ⟨wlX_112, wiX_takeDigits, weX_takeDigits, wnX, wcX_takeDigits, by decide +kernel⟩
theorem kX_115 : lkV "TokenRow" 115 yX_takeNumberInBase cX_takeNumberInBase 1 (some .int) 0 := ⟨wlX_115, wiX_takeNumberInBase, weX_takeNumberInBase, wnX, wcX_takeNumberInBase, by decide +kernel⟩
theorem kX_118 : lkV "TokenRow" 118 yX_takeCharacter cX_takeCharacter 2 (some .int) 0 := ⟨wlX_118, wiX_takeCharacter, weX_takeCharacter, wnX, wcX_takeCharacter, by decide +kernel⟩
theorem kX_121 : lkV "TokenRow" 121 yX_takeString cX_takeString 3 (some .int) 0 := ⟨wlX_121, wiX_takeString, weX_takeString, wnX, wcX_takeString, by decide +kernel⟩
theorem kX_124 : lkV "TokenRow" 124 yX_takeSign cX_takeSign 2 (some .int) 0 := ⟨wlX_124, wiX_takeSign, weX_takeSign, wnX, wcX_takeSign, by decide +kernel⟩
theorem kX_127 : lkS "TokenRow" 127 yX_isNameByte cX_isNameByte 1 (some .boolean) 1 := ⟨wlX_127, wsX_isNameByte, wnX, wcX_isNameByte, by decide +kernel⟩
theorem kX_130 : lkV "TokenRow" 130 yX_isKeyword cX_isKeyword 3 (some .boolean) 2 := ⟨wlX_130, wiX_isKeyword, weX_isKeyword, wnX, wcX_isKeyword, by decide +kernel⟩
theorem kX_134 : lkV "TokenRow" 134 yX_takeText cX_takeText 3 none 1 := ⟨wlX_134, wiX_takeText, weX_takeText, wnX, wcX_takeText, by decide +kernel⟩
theorem kX_139 : lkS "TokenRow" 139 yX_digitOf cX_digitOf 1 (some .int) 1 := ⟨wlX_139, wsX_digitOf, wnX, wcX_digitOf, by decide +kernel⟩
theorem kX_150 : lkV "TokenRow" 150 yX_takeMeantByte cX_takeMeantByte 4 (some .int) 1 := ⟨wlX_150, wiX_takeMeantByte, weX_takeMeantByte, wnX, wcX_takeMeantByte, by decide +kernel⟩
theorem kX_153 : lkV "TokenRow" 153 yX_appendText cX_appendText 2 none 1 := ⟨wlX_153, wiX_appendText, weX_appendText, wnX, wcX_appendText, by decide +kernel⟩
theorem kX_156 : lkS "TokenRow" 156 yX_meaningBehindStar cX_meaningBehindStar 1 (some .int) 1 := ⟨wlX_156, wsX_meaningBehindStar, wnX, wcX_meaningBehindStar, by decide +kernel⟩
theorem kX_165 : lkV "TokenRow" 165 yS_length cS_length 1 (some .int) 0 := ⟨wlX_165, wiS_length, weS_length, wnS, wcS_length, by decide +kernel⟩
theorem kX_170 : lkV "TokenRow" 170 yS_charAt cS_charAt 2 (some .char) 1 := ⟨wlX_170, wiS_charAt, weS_charAt, wnS, wcS_charAt, by decide +kernel⟩
theorem kX_174 : lkV "TokenRow" 174 yX_mayEndStatement cX_mayEndStatement 4 (some .boolean) 3 := ⟨wlX_174, wiX_mayEndStatement, weX_mayEndStatement, wnX, wcX_mayEndStatement, by decide +kernel⟩
theorem kX_177 : lkV "TokenRow" 177 yX_mayBeginStatement cX_mayBeginStatement 4 (some .boolean) 3 := ⟨wlX_177, wiX_mayBeginStatement, weX_mayBeginStatement, wnX, wcX_mayBeginStatement, by decide +kernel⟩
theorem kX_180 : lkS "TokenRow" 180 yX_isOperand cX_isOperand 1 (some .boolean) 1 := ⟨wlX_180, wsX_isOperand, wnX, wcX_isOperand, by decide +kernel⟩
theorem kL_13 : lkV "TokenRowLaw" 13 yX_feed cX_feed 6 (some .boolean) 5 := ⟨wlL_13, wiX_feed, weX_feed, wnX, wcX_feed, by decide +kernel⟩
theorem kL_17 : lkV "TokenRowLaw" 17 yM_feed cM_feed 6 (some .boolean) 5 := ⟨wlL_17, wiM_feed, weM_feed, wnM, wcM_feed, by decide +kernel⟩
theorem kL_18 : lkV "TokenRowLaw" 18 yX_end cX_end 2 (some .boolean) 1 := ⟨wlL_18, wiX_end, weX_end, wnX, wcX_end, by decide +kernel⟩
theorem kL_22 : lkV "TokenRowLaw" 22 yM_end cM_end 2 (some .boolean) 1 := ⟨wlL_22, wiM_end, weM_end, wnM, wcM_end, by decide +kernel⟩
theorem kL_23 : lkV "TokenRowLaw" 23 yX_read cX_read 3 (some .int) 0 := ⟨wlL_23, wiX_read, weX_read, wnX, wcX_read, by decide +kernel⟩
theorem kL_27 : lkV "TokenRowLaw" 27 yM_read cM_read 2 (some .int) 0 := ⟨wlL_27, wiM_read, weM_read, wnM, wcM_read, by decide +kernel⟩
theorem kL_28 : lkV "TokenRowLaw" 28 yX_kind cX_kind 2 (some .int) 1 := ⟨wlL_28, wiX_kind, weX_kind, wnX, wcX_kind, by decide +kernel⟩
theorem kL_32 : lkV "TokenRowLaw" 32 yM_kind cM_kind 2 (some .int) 1 := ⟨wlL_32, wiM_kind, weM_kind, wnM, wcM_kind, by decide +kernel⟩
theorem kL_33 : lkV "TokenRowLaw" 33 yX_place cX_place 2 (some .int) 1 := ⟨wlL_33, wiX_place, weX_place, wnX, wcX_place, by decide +kernel⟩
theorem kL_36 : lkV "TokenRowLaw" 36 yM_place cM_place 2 (some .int) 1 := ⟨wlL_36, wiM_place, weM_place, wnM, wcM_place, by decide +kernel⟩
theorem kL_37 : lkV "TokenRowLaw" 37 yX_line cX_line 2 (some .int) 1 := ⟨wlL_37, wiX_line, weX_line, wnX, wcX_line, by decide +kernel⟩
theorem kL_40 : lkV "TokenRowLaw" 40 yM_line cM_line 2 (some .int) 1 := ⟨wlL_40, wiM_line, weM_line, wnM, wcM_line, by decide +kernel⟩
theorem kL_41 : lkV "TokenRowLaw" 41 yX_value cX_value 2 (some .int) 1 := ⟨wlL_41, wiX_value, weX_value, wnX, wcX_value, by decide +kernel⟩
theorem kL_44 : lkV "TokenRowLaw" 44 yM_value cM_value 2 (some .int) 1 := ⟨wlL_44, wiM_value, weM_value, wnM, wcM_value, by decide +kernel⟩
theorem kL_45 : lkV "TokenRowLaw" 45 yX_level cX_level 2 (some .int) 1 := ⟨wlL_45, wiX_level, weX_level, wnX, wcX_level, by decide +kernel⟩
theorem kL_48 : lkV "TokenRowLaw" 48 yM_level cM_level 2 (some .int) 1 := ⟨wlL_48, wiM_level, weM_level, wnM, wcM_level, by decide +kernel⟩
theorem kL_49 : lkV "TokenRowLaw" 49 yX_size cX_size 2 (some .int) 1 := ⟨wlL_49, wiX_size, weX_size, wnX, wcX_size, by decide +kernel⟩
theorem kL_52 : lkV "TokenRowLaw" 52 yM_size cM_size 2 (some .int) 1 := ⟨wlL_52, wiM_size, weM_size, wnM, wcM_size, by decide +kernel⟩
theorem kL_53 : lkV "TokenRowLaw" 53 yX_textAt cX_textAt 3 (some .int) 2 := ⟨wlL_53, wiX_textAt, weX_textAt, wnX, wcX_textAt, by decide +kernel⟩
theorem kL_57 : lkV "TokenRowLaw" 57 yM_textAt cM_textAt 3 (some .int) 2 := ⟨wlL_57, wiM_textAt, weM_textAt, wnM, wcM_textAt, by decide +kernel⟩
theorem kM_57 : lkV "TokenRowModel" 57 yM_put cM_put 3 none 1 := ⟨wlM_57, wiM_put, weM_put, wnM, wcM_put, by decide +kernel⟩
theorem kM_61 : lkS "TokenRowModel" 61 yM_isGreat cM_isGreat 1 (some .boolean) 1 := ⟨wlM_61, wsM_isGreat, wnM, wcM_isGreat, by decide +kernel⟩
theorem kM_65 : lkS "TokenRowModel" 65 yM_isLetter cM_isLetter 1 (some .boolean) 1 := ⟨wlM_65, wsM_isLetter, wnM, wcM_isLetter, by decide +kernel⟩
theorem kM_68 : lkS "TokenRowModel" 68 yM_isDigit cM_isDigit 1 (some .boolean) 1 := ⟨wlM_68, wsM_isDigit, wnM, wcM_isDigit, by decide +kernel⟩
theorem kM_74 : lkV "TokenRowModel" 74 yM_see cM_see 2 (some .int) 1 := ⟨wlM_74, wiM_see, weM_see, wnM, wcM_see, by decide +kernel⟩
theorem kM_87 : lkV "TokenRowModel" 87 yS_length cS_length 1 (some .int) 0 := ⟨wlM_87, wiS_length, weS_length, wnS, wcS_length, by decide +kernel⟩
theorem kM_93 : lkV "TokenRowModel" 93 yS_charAt cS_charAt 2 (some .char) 1 := ⟨wlM_93, wiS_charAt, weS_charAt, wnS, wcS_charAt, by decide +kernel⟩
theorem kM_97 : lkV "TokenRowModel" 97 yM_standsAt cM_standsAt 7 (some .boolean) 3 := ⟨wlM_97, wiM_standsAt, weM_standsAt, wnM, wcM_standsAt, by decide +kernel⟩
theorem kM_101 : lkS "TokenRowModel" 101 yM_isPlain cM_isPlain 1 (some .boolean) 1 := ⟨wlM_101, wsM_isPlain, wnM, wcM_isPlain, by decide +kernel⟩
theorem kM_104 : lkV "TokenRowModel" 104 yM_is cM_is 4 (some .boolean) 3 := ⟨wlM_104, wiM_is, weM_is, wnM, wcM_is, by decide +kernel⟩
theorem kM_108 : lkV "TokenRowModel" 108 yM_isIn cM_isIn 4 (some .boolean) 2 := ⟨wlM_108, wiM_isIn, weM_isIn, wnM, wcM_isIn, by decide +kernel⟩
theorem kM_112 : lkV "TokenRowModel" 112 yM_ends cM_ends 2 (some .boolean) 1 := ⟨wlM_112, wiM_ends, weM_ends, wnM, wcM_ends, by decide +kernel⟩
theorem kM_115 : lkV "TokenRowModel" 115 yM_begins cM_begins 2 (some .boolean) 1 := ⟨wlM_115, wiM_begins, weM_begins, wnM, wcM_begins, by decide +kernel⟩
theorem kM_117 : lkS "TokenRowModel" 117 yM_isNamed cM_isNamed 1 (some .boolean) 1 := ⟨wlM_117, wsM_isNamed, wnM, wcM_isNamed, by decide +kernel⟩
theorem kM_126 : lkS "TokenRowModel" 126 yM_digit cM_digit 1 (some .int) 1 := ⟨wlM_126, wsM_digit, wnM, wcM_digit, by decide +kernel⟩
theorem kM_134 : lkV "TokenRowModel" 134 yM_meaning cM_meaning 5 (some .int) 2 := ⟨wlM_134, wiM_meaning, weM_meaning, wnM, wcM_meaning, by decide +kernel⟩
theorem kM_138 : lkV "TokenRowModel" 138 yM_next cM_next 2 (some .int) 1 := ⟨wlM_138, wiM_next, weM_next, wnM, wcM_next, by decide +kernel⟩
theorem kM_141 : lkV "TokenRowModel" 141 yM_readName cM_readName 2 none 0 := ⟨wlM_141, wiM_readName, weM_readName, wnM, wcM_readName, by decide +kernel⟩
theorem kM_144 : lkV "TokenRowModel" 144 yM_readDigits cM_readDigits 7 none 2 := ⟨wlM_144, wiM_readDigits, weM_readDigits, wnM, wcM_readDigits, by decide +kernel⟩
theorem kM_148 : lkV "TokenRowModel" 148 yM_readByte cM_readByte 1 none 0 := ⟨wlM_148, wiM_readByte, weM_readByte, wnM, wcM_readByte, by decide +kernel⟩
theorem kM_151 : lkV "TokenRowModel" 151 yM_readString cM_readString 3 none 0 := ⟨wlM_151, wiM_readString, weM_readString, wnM, wcM_readString, by decide +kernel⟩
theorem kM_154 : lkV "TokenRowModel" 154 yM_readSign cM_readSign 5 none 0 := ⟨wlM_154, wiM_readSign, weM_readSign, wnM, wcM_readSign, by decide +kernel⟩
theorem kM_157 : lkV "TokenRowModel" 157 yM_add cM_add 3 none 2 := ⟨wlM_157, wiM_add, weM_add, wnM, wcM_add, by decide +kernel⟩
theorem kM_160 : lkV "TokenRowModel" 160 yM_say cM_say 2 none 1 := ⟨wlM_160, wiM_say, weM_say, wnM, wcM_say, by decide +kernel⟩
theorem kM_163 : lkV "TokenRowModel" 163 yM_understand cM_understand 2 none 0 := ⟨wlM_163, wiM_understand, weM_understand, wnM, wcM_understand, by decide +kernel⟩
theorem kM_166 : lkV "TokenRowModel" 166 yM_skip cM_skip 4 none 0 := ⟨wlM_166, wiM_skip, weM_skip, wnM, wcM_skip, by decide +kernel⟩
theorem kM_169 : lkV "TokenRowModel" 169 yM_readToken cM_readToken 2 none 0 := ⟨wlM_169, wiM_readToken, weM_readToken, wnM, wcM_readToken, by decide +kernel⟩
theorem kM_172 : lkV "TokenRowModel" 172 yM_keep cM_keep 2 none 0 := ⟨wlM_172, wiM_keep, weM_keep, wnM, wcM_keep, by decide +kernel⟩
theorem kM_175 : lkV "TokenRowModel" 175 yM_isToken cM_isToken 2 (some .boolean) 1 := ⟨wlM_175, wiM_isToken, weM_isToken, wnM, wcM_isToken, by decide +kernel⟩
theorem kS_335 : lkV "java/lang/String" 335 yS_coder cS_coder 1 (some .byte) 0 := ⟨wlS_335, wiS_coder, weS_coder, wnS, wcS_coder, by decide +kernel⟩
theorem kS_492 : lkV "java/lang/String" 492 yS_isLatin1 cS_isLatin1 1 (some .boolean) 0 := ⟨wlS_492, wiS_isLatin1, weS_isLatin1, wnS, wcS_isLatin1, by decide +kernel⟩
theorem kS_495 : lkS "java/lang/String" 495 yL1_charAt cL1_charAt 2 (some .char) 2 := ⟨wlS_495, wsL1_charAt, wnL1, wcL1_charAt, by decide +kernel⟩
theorem kS_1059 : lkS "java/lang/String" 1059 yP_checkIndex cP_checkIndex 3 (some .int) 3 := ⟨wlS_1059, wsP_checkIndex, wnP, wcP_checkIndex, by decide +kernel⟩
theorem kL1_9 : lkS "java/lang/StringLatin1" 9 yS_checkIndex cS_checkIndex 2 none 2 := ⟨wlL1_9, wsS_checkIndex, wnS, wcS_checkIndex, by decide +kernel⟩
end
section
/-! ===== leaves: what a byte is ===== -/
abbrev iGreat (c : Int32) : Prop := ¬ c < 65 ∧ ¬ 90 < c
abbrev iLet (c : Int32) : Prop := (¬ c < 97 ∧ ¬ 122 < c) ∨ iGreat c
abbrev iDig (c : Int32) : Prop := ¬ c < 48 ∧ ¬ 57 < c
abbrev iNam (c : Int32) : Prop := iLet c ∨ iDig c ∨ c = 46 ∨ c = 95
/-- a digit's number, -1 for others (the class), 99 (the reference) -/
def dgX (c : Int32) : Int32 := if iDig c then c - 48 else if ¬ c < 65 ∧ ¬ 70 < c then c - 65 + 10 else -1
def dgM (c : Int32) : Int32 := if iDig c then c - 48 else if ¬ c < 65 ∧ ¬ 70 < c then c - 65 + 10 else 99
/-- what a byte behind a star means -/
def starB (c : Int32) : Int32 := if c = 34 ∨ c = 39 ∨ c = 42 then c else if c = 78 then 10 else if c = 83 then 32 else if c = 84 then 9 else -1
abbrev iOpd (k : Int32) : Prop := k = 0 ∨ k = 1 ∨ k = 2
abbrev iSok (k : Int32) : Prop := k = 3 ∨ k = 4
def elA (f : Nat → Int32) (N : Nat) (i : Int32) : Int32 := if i < 0 then -1 else if nI N ≤ i then -1 else f i.toNatClampNeg
section KSS
variable {p : Program} {l : Launch} {e : Env} {R : Room} {s : State} {m : MethodId} {args : Array Value} {below : List Frame} {meth : Method} {c : Code} {H : Heap} {locs : List Loc} {cells slots : Nat} {Q : State → Prop}
variable {cc : ByteArray} {pc nL : Nat} {ls : Array Slot} {rest : List Value} {D : va_G} {cA : ClassId} {A : Nat → Prop} {z : kz_Z} {w0 : Cond} {own : String}
theorem sS.ar {o : kz_O} (hw : sS z o s H locs) : arS o H.size s H := by
  intro q N f e
  have h1 := hw.2.2.2 q N f e
  exact (h1.kept hw.1.2.1).narrow (fun x hx => Nat.le_trans hw.1.1 hx)
theorem kcSS {ix n k : Nat} {y : MethodName} {cy : ByteArray} {ret : Option FieldType} {rm : Room} {As : List Value} {o o' : kz_O} {posts : Int32 → Prop} (S : CallFix p m c cc nL s args (w0 :: TT) own) (hk : lkS own ix y cy n ret k) (hM : MS l y cy n ret rm As z o (fun v => ∃ r, v = some (.int r) ∧ posts r)) (hw : sS z o' s H locs) (hA : ∀ q, s.heap.size ≤ q → (fun x => s.heap.size ≤ x) q) (ar : arS o H.size s H)
    (hR : rm.frames + 1 ≤ R.frames ∧ 8 + (n + 11) + rm.locals ≤ R.locals) (hrc : rm.cells = 0) (hrs : rm.slots = 0) (hf : cells ≤ R.cells ∧ slots ≤ R.slots) (hn : As.length = k) (hls : ls.size = nL) (hW : (rest.map fun v => v.category).sum ≤ 8) (hdg : decode cc pc = .ok (.invokestatic ix, 3))
    (kk : ∀ (r : Int32) (H1 : Heap) (locs1 : List Loc), posts r → sS z o' s H1 locs1 → W p l e R s m args below meth c H1 locs1 cells slots Q (F0 m (pc + 3) ls (.int r :: rest))) : W p l e R s m args below meth c H locs cells slots Q (F0 m pc ls (As.reverse ++ rest)) := by
  refine kz_cS S hk hM hw.1 hA hw.2.1 hw.2.2.1 ar hR hrc hrs hf hn hls hW hdg (fun v H1 locs1 hp hz hkp hS => ?_)
  obtain ⟨r, rfl, hp⟩ := hp
  exact kk r H1 locs1 hp ⟨hS, hw.2⟩
theorem kcSv {ix n k : Nat} {y : MethodName} {cy : ByteArray} {ret : Option FieldType} {rm : Room} {As : List Value} {o o' : kz_O} (S : CallFix p m c cc nL s args (w0 :: TT) own) (hk : lkS own ix y cy n ret k) (hM : MS l y cy n ret rm As z o (fun v => v = none)) (hw : sS z o' s H locs) (hA : ∀ q, s.heap.size ≤ q → (fun x => s.heap.size ≤ x) q) (ar : arS o H.size s H)
    (hR : rm.frames + 1 ≤ R.frames ∧ 8 + (n + 11) + rm.locals ≤ R.locals) (hrc : rm.cells = 0) (hrs : rm.slots = 0) (hf : cells ≤ R.cells ∧ slots ≤ R.slots) (hn : As.length = k) (hls : ls.size = nL) (hW : (rest.map fun v => v.category).sum ≤ 8) (hdg : decode cc pc = .ok (.invokestatic ix, 3))
    (kk : ∀ (H1 : Heap) (locs1 : List Loc), sS z o' s H1 locs1 → W p l e R s m args below meth c H1 locs1 cells slots Q (F0 m (pc + 3) ls rest)) : W p l e R s m args below meth c H locs cells slots Q (F0 m pc ls (As.reverse ++ rest)) := by
  refine kz_cS S hk hM hw.1 hA hw.2.1 hw.2.2.1 ar hR hrc hrs hf hn hls hW hdg (fun v H1 locs1 hp hz hkp hS => ?_)
  cases hp
  exact kk H1 locs1 ⟨hS, hw.2⟩
theorem kcST {ix n k i : Nat} {y : MethodName} {cy : ByteArray} {ret : Option FieldType} {rm : Room} {As : List Value} {o o' : kz_O} {posts : Int32 → Prop} (S : CallFix p m c cc nL s args (w0 :: TT) own) (hk : lkV own ix y cy n ret k) (hyc : y.cls = "java/lang/String") (hi : i < 12) (hM : MS l y cy n ret rm (.ref (z.2.1 i) :: As) z o (fun v => ∃ r, v = some (.int r) ∧ posts r)) (hw : sS z o' s H locs) (hA : ∀ q, s.heap.size ≤ q → (fun x => s.heap.size ≤ x) q) (ar : arS o H.size s H)
    (hR : rm.frames + 1 ≤ R.frames ∧ 8 + (n + 11) + rm.locals ≤ R.locals) (hrc : rm.cells = 0) (hrs : rm.slots = 0) (hf : cells ≤ R.cells ∧ slots ≤ R.slots) (hn : As.length = k) (hls : ls.size = nL) (hW : (rest.map fun v => v.category).sum ≤ 8) (hdg : decode cc pc = .ok (.invokevirtual ix, 3))
    (kk : ∀ (r : Int32) (H1 : Heap) (locs1 : List Loc), posts r → sS z o' s H1 locs1 → W p l e R s m args below meth c H1 locs1 cells slots Q (F0 m (pc + 3) ls (.int r :: rest))) : W p l e R s m args below meth c H locs cells slots Q (F0 m pc ls (As.reverse ++ .ref (z.2.1 i) :: rest)) := by
  refine kz_cT S hk hyc hi hM hw.1 hA hw.2.1 hw.2.2.1 ar hR hrc hrs hf hn hls hW hdg (fun v H1 locs1 hp hz hkp hS => ?_)
  obtain ⟨r, rfl, hp⟩ := hp
  exact kk r H1 locs1 hp ⟨hS, hw.2⟩
end KSS
set_option maxHeartbeats 4000000 in
set_option maxRecDepth 100000 in
theorem tX_isLetter (l : Launch) (z : kz_Z) (o : kz_O) (x : Int32) : MS l yX_isLetter cX_isLetter 1 (some .boolean) ({ frames := 0, cells := 0, slots := 0, locals := 0 }) [.int x] z o (fun v => ∃ r, v = some (.int r) ∧ r = if iLet x then 1 else 0) := by
  refine MS.mk (by decide) (Nat.le_of_ble_eq_true rfl) ?_
  intro pg en s m below meth c ls S hr hlk hw hl
  have hA : ∀ q, s.heap.size ≤ q → (fun x => s.heap.size ≤ x) q := fun _ h => h
  have hx := S.1
  have hb := S.2.1
  have hl : lv_has ls 1 [(0, .int x)] := hl
  refine lv_iload_n hx hb dX_isLetter_0 rfl (lv_at hl 0 rfl) ?_
  refine lv_bipush (v := 97) hx hb dX_isLetter_1 (by decide) ?_
  refine lv_icmp_lt (tgt := 12) hx hb dX_isLetter_3 (by decide) (fun c3 => ?_) (fun c3 => ?_)
  · skip
    refine lv_iload_n hx hb dX_isLetter_12 rfl (lv_at hl 0 rfl) ?_
    refine lv_bipush (v := 65) hx hb dX_isLetter_13 (by decide) ?_
    refine lv_icmp_lt (tgt := 28) hx hb dX_isLetter_15 (by decide) (fun c15 => ?_) (fun c15 => ?_)
    · skip
      refine lv_iconst (v := 0) hx hb dX_isLetter_28 (by decide) ?_
      exact MS.iret S hr hlk hw dX_isLetter_29 (by first | rfl | decide) ⟨_, rfl, by simp [iLet, iGreat, c3, c15]⟩
    · skip
      refine lv_iload_n hx hb dX_isLetter_18 rfl (lv_at hl 0 rfl) ?_
      refine lv_bipush (v := 90) hx hb dX_isLetter_19 (by decide) ?_
      refine lv_icmp_gt (tgt := 28) hx hb dX_isLetter_21 (by decide) (fun c21 => ?_) (fun c21 => ?_)
      · skip
        refine lv_iconst (v := 0) hx hb dX_isLetter_28 (by decide) ?_
        exact MS.iret S hr hlk hw dX_isLetter_29 (by first | rfl | decide) ⟨_, rfl, by simp [iLet, iGreat, c3, c15, c21]⟩
      · skip
        refine lv_iconst (v := 1) hx hb dX_isLetter_24 (by decide) ?_
        refine lv_goto (tgt := 29) hx hb dX_isLetter_25 (by decide) ?_
        exact MS.iret S hr hlk hw dX_isLetter_29 (by first | rfl | decide) ⟨_, rfl, by simp [iLet, iGreat, c3, c15, c21]⟩
  · skip
    refine lv_iload_n hx hb dX_isLetter_6 rfl (lv_at hl 0 rfl) ?_
    refine lv_bipush (v := 122) hx hb dX_isLetter_7 (by decide) ?_
    refine lv_icmp_le (tgt := 24) hx hb dX_isLetter_9 (by decide) (fun c9 => ?_) (fun c9 => ?_)
    · skip
      refine lv_iconst (v := 1) hx hb dX_isLetter_24 (by decide) ?_
      refine lv_goto (tgt := 29) hx hb dX_isLetter_25 (by decide) ?_
      exact MS.iret S hr hlk hw dX_isLetter_29 (by first | rfl | decide) ⟨_, rfl, by simp [iLet, iGreat, c3, c9]⟩
    · skip
      refine lv_iload_n hx hb dX_isLetter_12 rfl (lv_at hl 0 rfl) ?_
      refine lv_bipush (v := 65) hx hb dX_isLetter_13 (by decide) ?_
      refine lv_icmp_lt (tgt := 28) hx hb dX_isLetter_15 (by decide) (fun c15 => ?_) (fun c15 => ?_)
      · skip
        refine lv_iconst (v := 0) hx hb dX_isLetter_28 (by decide) ?_
        exact MS.iret S hr hlk hw dX_isLetter_29 (by first | rfl | decide) ⟨_, rfl, by simp [iLet, iGreat, c3, c9, c15]⟩
      · skip
        refine lv_iload_n hx hb dX_isLetter_18 rfl (lv_at hl 0 rfl) ?_
        refine lv_bipush (v := 90) hx hb dX_isLetter_19 (by decide) ?_
        refine lv_icmp_gt (tgt := 28) hx hb dX_isLetter_21 (by decide) (fun c21 => ?_) (fun c21 => ?_)
        · skip
          refine lv_iconst (v := 0) hx hb dX_isLetter_28 (by decide) ?_
          exact MS.iret S hr hlk hw dX_isLetter_29 (by first | rfl | decide) ⟨_, rfl, by simp [iLet, iGreat, c3, c9, c15, c21]⟩
        · skip
          refine lv_iconst (v := 1) hx hb dX_isLetter_24 (by decide) ?_
          refine lv_goto (tgt := 29) hx hb dX_isLetter_25 (by decide) ?_
          exact MS.iret S hr hlk hw dX_isLetter_29 (by first | rfl | decide) ⟨_, rfl, by simp [iLet, iGreat, c3, c9, c15, c21]⟩
set_option maxHeartbeats 4000000 in
set_option maxRecDepth 100000 in
theorem tX_isDecimalDigit (l : Launch) (z : kz_Z) (o : kz_O) (x : Int32) : MS l yX_isDecimalDigit cX_isDecimalDigit 1 (some .boolean) ({ frames := 0, cells := 0, slots := 0, locals := 0 }) [.int x] z o (fun v => ∃ r, v = some (.int r) ∧ r = if iDig x then 1 else 0) := by
  refine MS.mk (by decide) (Nat.le_of_ble_eq_true rfl) ?_
  intro pg en s m below meth c ls S hr hlk hw hl
  have hA : ∀ q, s.heap.size ≤ q → (fun x => s.heap.size ≤ x) q := fun _ h => h
  have hx := S.1
  have hb := S.2.1
  have hl : lv_has ls 1 [(0, .int x)] := hl
  refine lv_iload_n hx hb dX_isDecimalDigit_0 rfl (lv_at hl 0 rfl) ?_
  refine lv_bipush (v := 48) hx hb dX_isDecimalDigit_1 (by decide) ?_
  refine lv_icmp_lt (tgt := 16) hx hb dX_isDecimalDigit_3 (by decide) (fun c3 => ?_) (fun c3 => ?_)
  · skip
    refine lv_iconst (v := 0) hx hb dX_isDecimalDigit_16 (by decide) ?_
    exact MS.iret S hr hlk hw dX_isDecimalDigit_17 (by first | rfl | decide) ⟨_, rfl, by simp [iDig, c3]⟩
  · skip
    refine lv_iload_n hx hb dX_isDecimalDigit_6 rfl (lv_at hl 0 rfl) ?_
    refine lv_bipush (v := 57) hx hb dX_isDecimalDigit_7 (by decide) ?_
    refine lv_icmp_gt (tgt := 16) hx hb dX_isDecimalDigit_9 (by decide) (fun c9 => ?_) (fun c9 => ?_)
    · skip
      refine lv_iconst (v := 0) hx hb dX_isDecimalDigit_16 (by decide) ?_
      exact MS.iret S hr hlk hw dX_isDecimalDigit_17 (by first | rfl | decide) ⟨_, rfl, by simp [iDig, c3, c9]⟩
    · skip
      refine lv_iconst (v := 1) hx hb dX_isDecimalDigit_12 (by decide) ?_
      refine lv_goto (tgt := 17) hx hb dX_isDecimalDigit_13 (by decide) ?_
      exact MS.iret S hr hlk hw dX_isDecimalDigit_17 (by first | rfl | decide) ⟨_, rfl, by simp [iDig, c3, c9]⟩
set_option maxHeartbeats 4000000 in
set_option maxRecDepth 100000 in
theorem tX_isOperand (l : Launch) (z : kz_Z) (o : kz_O) (x : Int32) : MS l yX_isOperand cX_isOperand 1 (some .boolean) ({ frames := 0, cells := 0, slots := 0, locals := 0 }) [.int x] z o (fun v => ∃ r, v = some (.int r) ∧ r = if iOpd x then 1 else 0) := by
  refine MS.mk (by decide) (Nat.le_of_ble_eq_true rfl) ?_
  intro pg en s m below meth c ls S hr hlk hw hl
  have hA : ∀ q, s.heap.size ≤ q → (fun x => s.heap.size ≤ x) q := fun _ h => h
  have hx := S.1
  have hb := S.2.1
  have hl : lv_has ls 1 [(0, .int x)] := hl
  refine lv_iload_n hx hb dX_isOperand_0 rfl (lv_at hl 0 rfl) ?_
  refine lv_if_eq (tgt := 14) hx hb dX_isOperand_1 (by decide) (fun c1 => ?_) (fun c1 => ?_)
  · skip
    refine lv_iconst (v := 1) hx hb dX_isOperand_14 (by decide) ?_
    refine lv_goto (tgt := 19) hx hb dX_isOperand_15 (by decide) ?_
    exact MS.iret S hr hlk hw dX_isOperand_19 (by first | rfl | decide) ⟨_, rfl, by simp [iOpd, c1]⟩
  · skip
    refine lv_iload_n hx hb dX_isOperand_4 rfl (lv_at hl 0 rfl) ?_
    refine lv_iconst (v := 1) hx hb dX_isOperand_5 (by decide) ?_
    refine lv_icmp_eq (tgt := 14) hx hb dX_isOperand_6 (by decide) (fun c6 => ?_) (fun c6 => ?_)
    · skip
      refine lv_iconst (v := 1) hx hb dX_isOperand_14 (by decide) ?_
      refine lv_goto (tgt := 19) hx hb dX_isOperand_15 (by decide) ?_
      exact MS.iret S hr hlk hw dX_isOperand_19 (by first | rfl | decide) ⟨_, rfl, by simp [iOpd, c1, c6]⟩
    · skip
      refine lv_iload_n hx hb dX_isOperand_9 rfl (lv_at hl 0 rfl) ?_
      refine lv_iconst (v := 2) hx hb dX_isOperand_10 (by decide) ?_
      refine lv_icmp_ne (tgt := 18) hx hb dX_isOperand_11 (by decide) (fun c11 => ?_) (fun c11 => ?_)
      · skip
        refine lv_iconst (v := 0) hx hb dX_isOperand_18 (by decide) ?_
        exact MS.iret S hr hlk hw dX_isOperand_19 (by first | rfl | decide) ⟨_, rfl, by simp [iOpd, c1, c6, c11]⟩
      · skip
        refine lv_iconst (v := 1) hx hb dX_isOperand_14 (by decide) ?_
        refine lv_goto (tgt := 19) hx hb dX_isOperand_15 (by decide) ?_
        exact MS.iret S hr hlk hw dX_isOperand_19 (by first | rfl | decide) ⟨_, rfl, by simp [iOpd, c1, c6, c11]⟩
set_option maxHeartbeats 4000000 in
set_option maxRecDepth 100000 in
theorem tX_isSignOrKeyword (l : Launch) (z : kz_Z) (o : kz_O) (x : Int32) : MS l yX_isSignOrKeyword cX_isSignOrKeyword 1 (some .boolean) ({ frames := 0, cells := 0, slots := 0, locals := 0 }) [.int x] z o (fun v => ∃ r, v = some (.int r) ∧ r = if iSok x then 1 else 0) := by
  refine MS.mk (by decide) (Nat.le_of_ble_eq_true rfl) ?_
  intro pg en s m below meth c ls S hr hlk hw hl
  have hA : ∀ q, s.heap.size ≤ q → (fun x => s.heap.size ≤ x) q := fun _ h => h
  have hx := S.1
  have hb := S.2.1
  have hl : lv_has ls 1 [(0, .int x)] := hl
  refine lv_iload_n hx hb dX_isSignOrKeyword_0 rfl (lv_at hl 0 rfl) ?_
  refine lv_iconst (v := 3) hx hb dX_isSignOrKeyword_1 (by decide) ?_
  refine lv_icmp_eq (tgt := 10) hx hb dX_isSignOrKeyword_2 (by decide) (fun c2 => ?_) (fun c2 => ?_)
  · skip
    refine lv_iconst (v := 1) hx hb dX_isSignOrKeyword_10 (by decide) ?_
    refine lv_goto (tgt := 15) hx hb dX_isSignOrKeyword_11 (by decide) ?_
    exact MS.iret S hr hlk hw dX_isSignOrKeyword_15 (by first | rfl | decide) ⟨_, rfl, by simp [iSok, c2]⟩
  · skip
    refine lv_iload_n hx hb dX_isSignOrKeyword_5 rfl (lv_at hl 0 rfl) ?_
    refine lv_iconst (v := 4) hx hb dX_isSignOrKeyword_6 (by decide) ?_
    refine lv_icmp_ne (tgt := 14) hx hb dX_isSignOrKeyword_7 (by decide) (fun c7 => ?_) (fun c7 => ?_)
    · skip
      refine lv_iconst (v := 0) hx hb dX_isSignOrKeyword_14 (by decide) ?_
      exact MS.iret S hr hlk hw dX_isSignOrKeyword_15 (by first | rfl | decide) ⟨_, rfl, by simp [iSok, c2, c7]⟩
    · skip
      refine lv_iconst (v := 1) hx hb dX_isSignOrKeyword_10 (by decide) ?_
      refine lv_goto (tgt := 15) hx hb dX_isSignOrKeyword_11 (by decide) ?_
      exact MS.iret S hr hlk hw dX_isSignOrKeyword_15 (by first | rfl | decide) ⟨_, rfl, by simp [iSok, c2, c7]⟩
set_option maxHeartbeats 4000000 in
set_option maxRecDepth 100000 in
theorem tM_isGreat (l : Launch) (z : kz_Z) (o : kz_O) (x : Int32) : MS l yM_isGreat cM_isGreat 1 (some .boolean) ({ frames := 0, cells := 0, slots := 0, locals := 0 }) [.int x] z o (fun v => ∃ r, v = some (.int r) ∧ r = if iGreat x then 1 else 0) := by
  refine MS.mk (by decide) (Nat.le_of_ble_eq_true rfl) ?_
  intro pg en s m below meth c ls S hr hlk hw hl
  have hA : ∀ q, s.heap.size ≤ q → (fun x => s.heap.size ≤ x) q := fun _ h => h
  have hx := S.1
  have hb := S.2.1
  have hl : lv_has ls 1 [(0, .int x)] := hl
  refine lv_iload_n hx hb dM_isGreat_0 rfl (lv_at hl 0 rfl) ?_
  refine lv_bipush (v := 65) hx hb dM_isGreat_1 (by decide) ?_
  refine lv_icmp_lt (tgt := 16) hx hb dM_isGreat_3 (by decide) (fun c3 => ?_) (fun c3 => ?_)
  · skip
    refine lv_iconst (v := 0) hx hb dM_isGreat_16 (by decide) ?_
    exact MS.iret S hr hlk hw dM_isGreat_17 (by first | rfl | decide) ⟨_, rfl, by simp [iGreat, c3]⟩
  · skip
    refine lv_iload_n hx hb dM_isGreat_6 rfl (lv_at hl 0 rfl) ?_
    refine lv_bipush (v := 90) hx hb dM_isGreat_7 (by decide) ?_
    refine lv_icmp_gt (tgt := 16) hx hb dM_isGreat_9 (by decide) (fun c9 => ?_) (fun c9 => ?_)
    · skip
      refine lv_iconst (v := 0) hx hb dM_isGreat_16 (by decide) ?_
      exact MS.iret S hr hlk hw dM_isGreat_17 (by first | rfl | decide) ⟨_, rfl, by simp [iGreat, c3, c9]⟩
    · skip
      refine lv_iconst (v := 1) hx hb dM_isGreat_12 (by decide) ?_
      refine lv_goto (tgt := 17) hx hb dM_isGreat_13 (by decide) ?_
      exact MS.iret S hr hlk hw dM_isGreat_17 (by first | rfl | decide) ⟨_, rfl, by simp [iGreat, c3, c9]⟩
set_option maxHeartbeats 4000000 in
set_option maxRecDepth 100000 in
theorem tM_isDigit (l : Launch) (z : kz_Z) (o : kz_O) (x : Int32) : MS l yM_isDigit cM_isDigit 1 (some .boolean) ({ frames := 0, cells := 0, slots := 0, locals := 0 }) [.int x] z o (fun v => ∃ r, v = some (.int r) ∧ r = if iDig x then 1 else 0) := by
  refine MS.mk (by decide) (Nat.le_of_ble_eq_true rfl) ?_
  intro pg en s m below meth c ls S hr hlk hw hl
  have hA : ∀ q, s.heap.size ≤ q → (fun x => s.heap.size ≤ x) q := fun _ h => h
  have hx := S.1
  have hb := S.2.1
  have hl : lv_has ls 1 [(0, .int x)] := hl
  refine lv_iload_n hx hb dM_isDigit_0 rfl (lv_at hl 0 rfl) ?_
  refine lv_bipush (v := 48) hx hb dM_isDigit_1 (by decide) ?_
  refine lv_icmp_lt (tgt := 16) hx hb dM_isDigit_3 (by decide) (fun c3 => ?_) (fun c3 => ?_)
  · skip
    refine lv_iconst (v := 0) hx hb dM_isDigit_16 (by decide) ?_
    exact MS.iret S hr hlk hw dM_isDigit_17 (by first | rfl | decide) ⟨_, rfl, by simp [iDig, c3]⟩
  · skip
    refine lv_iload_n hx hb dM_isDigit_6 rfl (lv_at hl 0 rfl) ?_
    refine lv_bipush (v := 57) hx hb dM_isDigit_7 (by decide) ?_
    refine lv_icmp_gt (tgt := 16) hx hb dM_isDigit_9 (by decide) (fun c9 => ?_) (fun c9 => ?_)
    · skip
      refine lv_iconst (v := 0) hx hb dM_isDigit_16 (by decide) ?_
      exact MS.iret S hr hlk hw dM_isDigit_17 (by first | rfl | decide) ⟨_, rfl, by simp [iDig, c3, c9]⟩
    · skip
      refine lv_iconst (v := 1) hx hb dM_isDigit_12 (by decide) ?_
      refine lv_goto (tgt := 17) hx hb dM_isDigit_13 (by decide) ?_
      exact MS.iret S hr hlk hw dM_isDigit_17 (by first | rfl | decide) ⟨_, rfl, by simp [iDig, c3, c9]⟩
set_option maxHeartbeats 4000000 in
set_option maxRecDepth 100000 in
theorem tM_isPlain (l : Launch) (z : kz_Z) (o : kz_O) (x : Int32) : MS l yM_isPlain cM_isPlain 1 (some .boolean) ({ frames := 0, cells := 0, slots := 0, locals := 0 }) [.int x] z o (fun v => ∃ r, v = some (.int r) ∧ r = if iOpd x then 1 else 0) := by
  refine MS.mk (by decide) (Nat.le_of_ble_eq_true rfl) ?_
  intro pg en s m below meth c ls S hr hlk hw hl
  have hA : ∀ q, s.heap.size ≤ q → (fun x => s.heap.size ≤ x) q := fun _ h => h
  have hx := S.1
  have hb := S.2.1
  have hl : lv_has ls 1 [(0, .int x)] := hl
  refine lv_iload_n hx hb dM_isPlain_0 rfl (lv_at hl 0 rfl) ?_
  refine lv_if_eq (tgt := 14) hx hb dM_isPlain_1 (by decide) (fun c1 => ?_) (fun c1 => ?_)
  · skip
    refine lv_iconst (v := 1) hx hb dM_isPlain_14 (by decide) ?_
    refine lv_goto (tgt := 19) hx hb dM_isPlain_15 (by decide) ?_
    exact MS.iret S hr hlk hw dM_isPlain_19 (by first | rfl | decide) ⟨_, rfl, by simp [iOpd, c1]⟩
  · skip
    refine lv_iload_n hx hb dM_isPlain_4 rfl (lv_at hl 0 rfl) ?_
    refine lv_iconst (v := 1) hx hb dM_isPlain_5 (by decide) ?_
    refine lv_icmp_eq (tgt := 14) hx hb dM_isPlain_6 (by decide) (fun c6 => ?_) (fun c6 => ?_)
    · skip
      refine lv_iconst (v := 1) hx hb dM_isPlain_14 (by decide) ?_
      refine lv_goto (tgt := 19) hx hb dM_isPlain_15 (by decide) ?_
      exact MS.iret S hr hlk hw dM_isPlain_19 (by first | rfl | decide) ⟨_, rfl, by simp [iOpd, c1, c6]⟩
    · skip
      refine lv_iload_n hx hb dM_isPlain_9 rfl (lv_at hl 0 rfl) ?_
      refine lv_iconst (v := 2) hx hb dM_isPlain_10 (by decide) ?_
      refine lv_icmp_ne (tgt := 18) hx hb dM_isPlain_11 (by decide) (fun c11 => ?_) (fun c11 => ?_)
      · skip
        refine lv_iconst (v := 0) hx hb dM_isPlain_18 (by decide) ?_
        exact MS.iret S hr hlk hw dM_isPlain_19 (by first | rfl | decide) ⟨_, rfl, by simp [iOpd, c1, c6, c11]⟩
      · skip
        refine lv_iconst (v := 1) hx hb dM_isPlain_14 (by decide) ?_
        refine lv_goto (tgt := 19) hx hb dM_isPlain_15 (by decide) ?_
        exact MS.iret S hr hlk hw dM_isPlain_19 (by first | rfl | decide) ⟨_, rfl, by simp [iOpd, c1, c6, c11]⟩
theorem bI {P : Prop} [Decidable P] {r : Int32} (h : r = if P then 1 else 0) : (P ∧ r = 1) ∨ (¬ P ∧ r = 0) := by
  by_cases hp : P
  · rw [if_pos hp] at h; exact Or.inl ⟨hp, h⟩
  · rw [if_neg hp] at h; exact Or.inr ⟨hp, h⟩
theorem vin_of {i : Int32} {N : Nat} (h1 : ¬ i < 0) (h2 : ¬ nI N ≤ i) (hN : N < 2 ^ 31) : vp_in i N := by
  obtain ⟨j, hj, rfl⟩ := nI_of h1
  refine vp_in_nI ?_ hN
  rcases Nat.lt_or_ge j N with q | q
  · exact q
  · exact absurd (nI_le q hj) h2
set_option maxHeartbeats 4000000 in
set_option maxRecDepth 100000 in
theorem tX_isNameByte (l : Launch) (z : kz_Z) (o : kz_O) (x : Int32) : MS l yX_isNameByte cX_isNameByte 1 (some .boolean) ({ frames := 1, cells := 0, slots := 0, locals := 20 }) [.int x] z o (fun v => ∃ r, v = some (.int r) ∧ r = if iNam x then 1 else 0) := by
  refine MS.mk (by decide) (Nat.le_of_ble_eq_true rfl) ?_
  intro pg en s m below meth c ls S hr hlk hw hl
  have hA : ∀ q, s.heap.size ≤ q → (fun x => s.heap.size ≤ x) q := fun _ h => h
  have hx := S.1
  have hb := S.2.1
  have hl : lv_has ls 1 [(0, .int x)] := hl
  refine lv_iload_n hx hb dX_isNameByte_0 rfl (lv_at hl 0 rfl) ?_
  refine kcSS (rest := []) S kX_103 (tX_isLetter l z none x) hw hA arNone ⟨Nat.le_of_ble_eq_true rfl, Nat.le_of_ble_eq_true rfl⟩ rfl rfl ⟨Nat.zero_le _, Nat.zero_le _⟩ rfl hl.1 (Nat.le_of_ble_eq_true rfl) dX_isNameByte_1 (fun r H locs hq hw => ?_)
  rcases bI hq with ⟨hB1, rfl⟩ | ⟨hB1, rfl⟩
  · skip
    refine lv_if_ne (tgt := 26) hx hb dX_isNameByte_4 (by decide) (fun c4 => ?_) (fun c4 => absurd c4 (by decide))
    refine lv_iconst (v := 1) hx hb dX_isNameByte_26 (by decide) ?_
    refine lv_goto (tgt := 31) hx hb dX_isNameByte_27 (by decide) ?_
    exact MS.iret S hr hlk hw dX_isNameByte_31 (by first | rfl | decide) ⟨_, rfl, by simp [iNam, hB1]⟩
  · skip
    refine lv_if_ne (tgt := 26) hx hb dX_isNameByte_4 (by decide) (fun c4 => absurd c4 (by decide)) (fun c4 => ?_)
    refine lv_iload_n hx hb dX_isNameByte_7 rfl (lv_at hl 0 rfl) ?_
    refine kcSS (rest := []) S kX_109 (tX_isDecimalDigit l z none x) hw hA arNone ⟨Nat.le_of_ble_eq_true rfl, Nat.le_of_ble_eq_true rfl⟩ rfl rfl ⟨Nat.zero_le _, Nat.zero_le _⟩ rfl hl.1 (Nat.le_of_ble_eq_true rfl) dX_isNameByte_8 (fun r H locs hq hw => ?_)
    rcases bI hq with ⟨hB2, rfl⟩ | ⟨hB2, rfl⟩
    · skip
      refine lv_if_ne (tgt := 26) hx hb dX_isNameByte_11 (by decide) (fun c11 => ?_) (fun c11 => absurd c11 (by decide))
      refine lv_iconst (v := 1) hx hb dX_isNameByte_26 (by decide) ?_
      refine lv_goto (tgt := 31) hx hb dX_isNameByte_27 (by decide) ?_
      exact MS.iret S hr hlk hw dX_isNameByte_31 (by first | rfl | decide) ⟨_, rfl, by simp [iNam, hB1, hB2]⟩
    · skip
      refine lv_if_ne (tgt := 26) hx hb dX_isNameByte_11 (by decide) (fun c11 => absurd c11 (by decide)) (fun c11 => ?_)
      refine lv_iload_n hx hb dX_isNameByte_14 rfl (lv_at hl 0 rfl) ?_
      refine lv_bipush (v := 46) hx hb dX_isNameByte_15 (by decide) ?_
      refine lv_icmp_eq (tgt := 26) hx hb dX_isNameByte_17 (by decide) (fun c17 => ?_) (fun c17 => ?_)
      · skip
        refine lv_iconst (v := 1) hx hb dX_isNameByte_26 (by decide) ?_
        refine lv_goto (tgt := 31) hx hb dX_isNameByte_27 (by decide) ?_
        exact MS.iret S hr hlk hw dX_isNameByte_31 (by first | rfl | decide) ⟨_, rfl, by simp [iNam, hB1, hB2, c17]⟩
      · skip
        refine lv_iload_n hx hb dX_isNameByte_20 rfl (lv_at hl 0 rfl) ?_
        refine lv_bipush (v := 95) hx hb dX_isNameByte_21 (by decide) ?_
        refine lv_icmp_ne (tgt := 30) hx hb dX_isNameByte_23 (by decide) (fun c23 => ?_) (fun c23 => ?_)
        · skip
          refine lv_iconst (v := 0) hx hb dX_isNameByte_30 (by decide) ?_
          exact MS.iret S hr hlk hw dX_isNameByte_31 (by first | rfl | decide) ⟨_, rfl, by simp [iNam, hB1, hB2, c17, c23]⟩
        · skip
          refine lv_iconst (v := 1) hx hb dX_isNameByte_26 (by decide) ?_
          refine lv_goto (tgt := 31) hx hb dX_isNameByte_27 (by decide) ?_
          exact MS.iret S hr hlk hw dX_isNameByte_31 (by first | rfl | decide) ⟨_, rfl, by simp [iNam, hB1, hB2, c17, c23]⟩
set_option maxHeartbeats 4000000 in
set_option maxRecDepth 100000 in
theorem tM_isLetter (l : Launch) (z : kz_Z) (o : kz_O) (x : Int32) : MS l yM_isLetter cM_isLetter 1 (some .boolean) ({ frames := 1, cells := 0, slots := 0, locals := 20 }) [.int x] z o (fun v => ∃ r, v = some (.int r) ∧ r = if iLet x then 1 else 0) := by
  refine MS.mk (by decide) (Nat.le_of_ble_eq_true rfl) ?_
  intro pg en s m below meth c ls S hr hlk hw hl
  have hA : ∀ q, s.heap.size ≤ q → (fun x => s.heap.size ≤ x) q := fun _ h => h
  have hx := S.1
  have hb := S.2.1
  have hl : lv_has ls 1 [(0, .int x)] := hl
  refine lv_iload_n hx hb dM_isLetter_0 rfl (lv_at hl 0 rfl) ?_
  refine kcSS (rest := []) S kM_61 (tM_isGreat l z none x) hw hA arNone ⟨Nat.le_of_ble_eq_true rfl, Nat.le_of_ble_eq_true rfl⟩ rfl rfl ⟨Nat.zero_le _, Nat.zero_le _⟩ rfl hl.1 (Nat.le_of_ble_eq_true rfl) dM_isLetter_1 (fun r H locs hq hw => ?_)
  rcases bI hq with ⟨hB1, rfl⟩ | ⟨hB1, rfl⟩
  · skip
    refine lv_if_ne (tgt := 19) hx hb dM_isLetter_4 (by decide) (fun c4 => ?_) (fun c4 => absurd c4 (by decide))
    refine lv_iconst (v := 1) hx hb dM_isLetter_19 (by decide) ?_
    refine lv_goto (tgt := 24) hx hb dM_isLetter_20 (by decide) ?_
    exact MS.iret S hr hlk hw dM_isLetter_24 (by first | rfl | decide) ⟨_, rfl, by simp [iLet, hB1]⟩
  · skip
    refine lv_if_ne (tgt := 19) hx hb dM_isLetter_4 (by decide) (fun c4 => absurd c4 (by decide)) (fun c4 => ?_)
    refine lv_iload_n hx hb dM_isLetter_7 rfl (lv_at hl 0 rfl) ?_
    refine lv_bipush (v := 97) hx hb dM_isLetter_8 (by decide) ?_
    refine lv_icmp_lt (tgt := 23) hx hb dM_isLetter_10 (by decide) (fun c10 => ?_) (fun c10 => ?_)
    · skip
      refine lv_iconst (v := 0) hx hb dM_isLetter_23 (by decide) ?_
      exact MS.iret S hr hlk hw dM_isLetter_24 (by first | rfl | decide) ⟨_, rfl, by simp [iLet, hB1, c10]⟩
    · skip
      refine lv_iload_n hx hb dM_isLetter_13 rfl (lv_at hl 0 rfl) ?_
      refine lv_bipush (v := 122) hx hb dM_isLetter_14 (by decide) ?_
      refine lv_icmp_gt (tgt := 23) hx hb dM_isLetter_16 (by decide) (fun c16 => ?_) (fun c16 => ?_)
      · skip
        refine lv_iconst (v := 0) hx hb dM_isLetter_23 (by decide) ?_
        exact MS.iret S hr hlk hw dM_isLetter_24 (by first | rfl | decide) ⟨_, rfl, by simp [iLet, hB1, c10, c16]⟩
      · skip
        refine lv_iconst (v := 1) hx hb dM_isLetter_19 (by decide) ?_
        refine lv_goto (tgt := 24) hx hb dM_isLetter_20 (by decide) ?_
        exact MS.iret S hr hlk hw dM_isLetter_24 (by first | rfl | decide) ⟨_, rfl, by simp [iLet, hB1, c10, c16]⟩
set_option maxHeartbeats 4000000 in
set_option maxRecDepth 100000 in
theorem tM_isNamed (l : Launch) (z : kz_Z) (o : kz_O) (x : Int32) : MS l yM_isNamed cM_isNamed 1 (some .boolean) ({ frames := 2, cells := 0, slots := 0, locals := 40 }) [.int x] z o (fun v => ∃ r, v = some (.int r) ∧ r = if iNam x then 1 else 0) := by
  refine MS.mk (by decide) (Nat.le_of_ble_eq_true rfl) ?_
  intro pg en s m below meth c ls S hr hlk hw hl
  have hA : ∀ q, s.heap.size ≤ q → (fun x => s.heap.size ≤ x) q := fun _ h => h
  have hx := S.1
  have hb := S.2.1
  have hl : lv_has ls 1 [(0, .int x)] := hl
  refine lv_iload_n hx hb dM_isNamed_0 rfl (lv_at hl 0 rfl) ?_
  refine kcSS (rest := []) S kM_65 (tM_isLetter l z none x) hw hA arNone ⟨Nat.le_of_ble_eq_true rfl, Nat.le_of_ble_eq_true rfl⟩ rfl rfl ⟨Nat.zero_le _, Nat.zero_le _⟩ rfl hl.1 (Nat.le_of_ble_eq_true rfl) dM_isNamed_1 (fun r H locs hq hw => ?_)
  rcases bI hq with ⟨hB1, rfl⟩ | ⟨hB1, rfl⟩
  · skip
    refine lv_if_ne (tgt := 26) hx hb dM_isNamed_4 (by decide) (fun c4 => ?_) (fun c4 => absurd c4 (by decide))
    refine lv_iconst (v := 1) hx hb dM_isNamed_26 (by decide) ?_
    refine lv_goto (tgt := 31) hx hb dM_isNamed_27 (by decide) ?_
    exact MS.iret S hr hlk hw dM_isNamed_31 (by first | rfl | decide) ⟨_, rfl, by simp [iNam, hB1]⟩
  · skip
    refine lv_if_ne (tgt := 26) hx hb dM_isNamed_4 (by decide) (fun c4 => absurd c4 (by decide)) (fun c4 => ?_)
    refine lv_iload_n hx hb dM_isNamed_7 rfl (lv_at hl 0 rfl) ?_
    refine kcSS (rest := []) S kM_68 (tM_isDigit l z none x) hw hA arNone ⟨Nat.le_of_ble_eq_true rfl, Nat.le_of_ble_eq_true rfl⟩ rfl rfl ⟨Nat.zero_le _, Nat.zero_le _⟩ rfl hl.1 (Nat.le_of_ble_eq_true rfl) dM_isNamed_8 (fun r H locs hq hw => ?_)
    rcases bI hq with ⟨hB2, rfl⟩ | ⟨hB2, rfl⟩
    · skip
      refine lv_if_ne (tgt := 26) hx hb dM_isNamed_11 (by decide) (fun c11 => ?_) (fun c11 => absurd c11 (by decide))
      refine lv_iconst (v := 1) hx hb dM_isNamed_26 (by decide) ?_
      refine lv_goto (tgt := 31) hx hb dM_isNamed_27 (by decide) ?_
      exact MS.iret S hr hlk hw dM_isNamed_31 (by first | rfl | decide) ⟨_, rfl, by simp [iNam, hB1, hB2]⟩
    · skip
      refine lv_if_ne (tgt := 26) hx hb dM_isNamed_11 (by decide) (fun c11 => absurd c11 (by decide)) (fun c11 => ?_)
      refine lv_iload_n hx hb dM_isNamed_14 rfl (lv_at hl 0 rfl) ?_
      refine lv_bipush (v := 46) hx hb dM_isNamed_15 (by decide) ?_
      refine lv_icmp_eq (tgt := 26) hx hb dM_isNamed_17 (by decide) (fun c17 => ?_) (fun c17 => ?_)
      · skip
        refine lv_iconst (v := 1) hx hb dM_isNamed_26 (by decide) ?_
        refine lv_goto (tgt := 31) hx hb dM_isNamed_27 (by decide) ?_
        exact MS.iret S hr hlk hw dM_isNamed_31 (by first | rfl | decide) ⟨_, rfl, by simp [iNam, hB1, hB2, c17]⟩
      · skip
        refine lv_iload_n hx hb dM_isNamed_20 rfl (lv_at hl 0 rfl) ?_
        refine lv_bipush (v := 95) hx hb dM_isNamed_21 (by decide) ?_
        refine lv_icmp_ne (tgt := 30) hx hb dM_isNamed_23 (by decide) (fun c23 => ?_) (fun c23 => ?_)
        · skip
          refine lv_iconst (v := 0) hx hb dM_isNamed_30 (by decide) ?_
          exact MS.iret S hr hlk hw dM_isNamed_31 (by first | rfl | decide) ⟨_, rfl, by simp [iNam, hB1, hB2, c17, c23]⟩
        · skip
          refine lv_iconst (v := 1) hx hb dM_isNamed_26 (by decide) ?_
          refine lv_goto (tgt := 31) hx hb dM_isNamed_27 (by decide) ?_
          exact MS.iret S hr hlk hw dM_isNamed_31 (by first | rfl | decide) ⟨_, rfl, by simp [iNam, hB1, hB2, c17, c23]⟩
set_option maxHeartbeats 4000000 in
set_option maxRecDepth 100000 in
theorem tX_digitOf (l : Launch) (z : kz_Z) (o : kz_O) (x : Int32) : MS l yX_digitOf cX_digitOf 1 (some .int) ({ frames := 1, cells := 0, slots := 0, locals := 20 }) [.int x] z o (fun v => ∃ r, v = some (.int r) ∧ r = dgX x) := by
  refine MS.mk (by decide) (Nat.le_of_ble_eq_true rfl) ?_
  intro pg en s m below meth c ls S hr hlk hw hl
  have hA : ∀ q, s.heap.size ≤ q → (fun x => s.heap.size ≤ x) q := fun _ h => h
  have hx := S.1
  have hb := S.2.1
  have hl : lv_has ls 1 [(0, .int x)] := hl
  refine lv_iload_n hx hb dX_digitOf_0 rfl (lv_at hl 0 rfl) ?_
  refine kcSS (rest := []) S kX_109 (tX_isDecimalDigit l z none x) hw hA arNone ⟨Nat.le_of_ble_eq_true rfl, Nat.le_of_ble_eq_true rfl⟩ rfl rfl ⟨Nat.zero_le _, Nat.zero_le _⟩ rfl hl.1 (Nat.le_of_ble_eq_true rfl) dX_digitOf_1 (fun r H locs hq hw => ?_)
  rcases bI hq with ⟨hB1, rfl⟩ | ⟨hB1, rfl⟩
  · skip
    refine lv_if_eq (tgt := 12) hx hb dX_digitOf_4 (by decide) (fun c4 => absurd c4 (by decide)) (fun c4 => ?_)
    refine lv_iload_n hx hb dX_digitOf_7 rfl (lv_at hl 0 rfl) ?_
    refine lv_bipush (v := 48) hx hb dX_digitOf_8 (by decide) ?_
    refine lv_isub hx hb dX_digitOf_10 ?_
    exact MS.iret S hr hlk hw dX_digitOf_11 rfl ⟨_, rfl, by simp [dgX, hB1]⟩
  · skip
    refine lv_if_eq (tgt := 12) hx hb dX_digitOf_4 (by decide) (fun c4 => ?_) (fun c4 => absurd c4 (by decide))
    refine lv_iload_n hx hb dX_digitOf_12 rfl (lv_at hl 0 rfl) ?_
    refine lv_bipush (v := 65) hx hb dX_digitOf_13 (by decide) ?_
    refine lv_icmp_lt (tgt := 34) hx hb dX_digitOf_15 (by decide) (fun c15 => ?_) (fun c15 => ?_)
    · skip
      refine lv_iconst (v := (-1)) hx hb dX_digitOf_34 (by decide) ?_
      exact MS.iret S hr hlk hw dX_digitOf_35 rfl ⟨_, rfl, by simp [dgX, hB1, c15]⟩
    · skip
      refine lv_iload_n hx hb dX_digitOf_18 rfl (lv_at hl 0 rfl) ?_
      refine lv_bipush (v := 70) hx hb dX_digitOf_19 (by decide) ?_
      refine lv_icmp_gt (tgt := 34) hx hb dX_digitOf_21 (by decide) (fun c21 => ?_) (fun c21 => ?_)
      · skip
        refine lv_iconst (v := (-1)) hx hb dX_digitOf_34 (by decide) ?_
        exact MS.iret S hr hlk hw dX_digitOf_35 rfl ⟨_, rfl, by simp [dgX, hB1, c15, c21]⟩
      · skip
        refine lv_iload_n hx hb dX_digitOf_24 rfl (lv_at hl 0 rfl) ?_
        refine lv_bipush (v := 65) hx hb dX_digitOf_25 (by decide) ?_
        refine lv_isub hx hb dX_digitOf_27 ?_
        refine lv_bipush (v := 10) hx hb dX_digitOf_28 (by decide) ?_
        refine lv_iadd hx hb dX_digitOf_30 ?_
        refine lv_goto (tgt := 35) hx hb dX_digitOf_31 (by decide) ?_
        exact MS.iret S hr hlk hw dX_digitOf_35 rfl ⟨_, rfl, by simp [dgX, hB1, c15, c21]⟩
set_option maxHeartbeats 4000000 in
set_option maxRecDepth 100000 in
theorem tM_digit (l : Launch) (z : kz_Z) (o : kz_O) (x : Int32) : MS l yM_digit cM_digit 1 (some .int) ({ frames := 1, cells := 0, slots := 0, locals := 20 }) [.int x] z o (fun v => ∃ r, v = some (.int r) ∧ r = dgM x) := by
  refine MS.mk (by decide) (Nat.le_of_ble_eq_true rfl) ?_
  intro pg en s m below meth c ls S hr hlk hw hl
  have hA : ∀ q, s.heap.size ≤ q → (fun x => s.heap.size ≤ x) q := fun _ h => h
  have hx := S.1
  have hb := S.2.1
  have hl : lv_has ls 1 [(0, .int x)] := hl
  refine lv_iload_n hx hb dM_digit_0 rfl (lv_at hl 0 rfl) ?_
  refine kcSS (rest := []) S kM_68 (tM_isDigit l z none x) hw hA arNone ⟨Nat.le_of_ble_eq_true rfl, Nat.le_of_ble_eq_true rfl⟩ rfl rfl ⟨Nat.zero_le _, Nat.zero_le _⟩ rfl hl.1 (Nat.le_of_ble_eq_true rfl) dM_digit_1 (fun r H locs hq hw => ?_)
  rcases bI hq with ⟨hB1, rfl⟩ | ⟨hB1, rfl⟩
  · skip
    refine lv_if_eq (tgt := 14) hx hb dM_digit_4 (by decide) (fun c4 => absurd c4 (by decide)) (fun c4 => ?_)
    refine lv_iload_n hx hb dM_digit_7 rfl (lv_at hl 0 rfl) ?_
    refine lv_bipush (v := 48) hx hb dM_digit_8 (by decide) ?_
    refine lv_isub hx hb dM_digit_10 ?_
    refine lv_goto (tgt := 38) hx hb dM_digit_11 (by decide) ?_
    exact MS.iret S hr hlk hw dM_digit_38 rfl ⟨_, rfl, by simp [dgM, hB1]⟩
  · skip
    refine lv_if_eq (tgt := 14) hx hb dM_digit_4 (by decide) (fun c4 => ?_) (fun c4 => absurd c4 (by decide))
    refine lv_iload_n hx hb dM_digit_14 rfl (lv_at hl 0 rfl) ?_
    refine lv_bipush (v := 65) hx hb dM_digit_15 (by decide) ?_
    refine lv_icmp_lt (tgt := 36) hx hb dM_digit_17 (by decide) (fun c17 => ?_) (fun c17 => ?_)
    · skip
      refine lv_bipush (v := 99) hx hb dM_digit_36 (by decide) ?_
      exact MS.iret S hr hlk hw dM_digit_38 rfl ⟨_, rfl, by simp [dgM, hB1, c17]⟩
    · skip
      refine lv_iload_n hx hb dM_digit_20 rfl (lv_at hl 0 rfl) ?_
      refine lv_bipush (v := 70) hx hb dM_digit_21 (by decide) ?_
      refine lv_icmp_gt (tgt := 36) hx hb dM_digit_23 (by decide) (fun c23 => ?_) (fun c23 => ?_)
      · skip
        refine lv_bipush (v := 99) hx hb dM_digit_36 (by decide) ?_
        exact MS.iret S hr hlk hw dM_digit_38 rfl ⟨_, rfl, by simp [dgM, hB1, c17, c23]⟩
      · skip
        refine lv_iload_n hx hb dM_digit_26 rfl (lv_at hl 0 rfl) ?_
        refine lv_bipush (v := 65) hx hb dM_digit_27 (by decide) ?_
        refine lv_isub hx hb dM_digit_29 ?_
        refine lv_bipush (v := 10) hx hb dM_digit_30 (by decide) ?_
        refine lv_iadd hx hb dM_digit_32 ?_
        refine lv_goto (tgt := 38) hx hb dM_digit_33 (by decide) ?_
        exact MS.iret S hr hlk hw dM_digit_38 rfl ⟨_, rfl, by simp [dgM, hB1, c17, c23]⟩
theorem star_cases (x : Int32) : x = 34 ∨ x = 39 ∨ x = 42 ∨ x = 78 ∨ x = 83 ∨ x = 84 ∨ (Op.lookupswitch.offset [(34, 68), (39, 68), (42, 68), (78, 59), (83, 62), (84, 65)] 70 x.toInt = 70 ∧ starB x = -1) := by
  have q : ∀ n : Int32, x.toInt = n.toInt → x = n := fun n h => Int32.toInt_inj.mp h
  by_cases h1 : x = 34
  · exact Or.inl h1
  by_cases h2 : x = 39
  · exact Or.inr (Or.inl h2)
  by_cases h3 : x = 42
  · exact Or.inr (Or.inr (Or.inl h3))
  by_cases h4 : x = 78
  · exact Or.inr (Or.inr (Or.inr (Or.inl h4)))
  by_cases h5 : x = 83
  · exact Or.inr (Or.inr (Or.inr (Or.inr (Or.inl h5))))
  by_cases h6 : x = 84
  · exact Or.inr (Or.inr (Or.inr (Or.inr (Or.inr (Or.inl h6)))))
  refine Or.inr (Or.inr (Or.inr (Or.inr (Or.inr (Or.inr ⟨?_, by simp [starB, h1, h2, h3, h4, h5, h6]⟩)))))
  have g1 : ¬ x.toInt = 34 := fun h => h1 (q 34 h)
  have g2 : ¬ x.toInt = 39 := fun h => h2 (q 39 h)
  have g3 : ¬ x.toInt = 42 := fun h => h3 (q 42 h)
  have g4 : ¬ x.toInt = 78 := fun h => h4 (q 78 h)
  have g5 : ¬ x.toInt = 83 := fun h => h5 (q 83 h)
  have g6 : ¬ x.toInt = 84 := fun h => h6 (q 84 h)
  simp [Op.lookupswitch.offset, g1, g2, g3, g4, g5, g6]
  try omega
set_option maxHeartbeats 4000000 in
set_option maxRecDepth 100000 in
theorem tX_meaningBehindStar (l : Launch) (z : kz_Z) (o : kz_O) (x : Int32) : MS l yX_meaningBehindStar cX_meaningBehindStar 1 (some .int) ({ frames := 0, cells := 0, slots := 0, locals := 0 }) [.int x] z o (fun v => ∃ r, v = some (.int r) ∧ r = starB x) := by
  refine MS.mk (by decide) (Nat.le_of_ble_eq_true rfl) ?_
  intro pg en s m below meth c ls S hr hlk hw hl
  have hA : ∀ q, s.heap.size ≤ q → (fun x => s.heap.size ≤ x) q := fun _ h => h
  have hx := S.1
  have hb := S.2.1
  have hl : lv_has ls 1 [(0, .int x)] := hl
  refine lv_iload_n hx hb dX_meaningBehindStar_0 rfl (lv_at hl 0 rfl) ?_
  rcases star_cases x with rfl | rfl | rfl | rfl | rfl | rfl | ⟨hs1, hs2⟩
  · skip
    refine lv_lookup (off := 68) (tgt := 69) hx hb dX_meaningBehindStar_1 (by decide) (by decide) (by decide) ?_
    refine lv_iload_n hx hb dX_meaningBehindStar_69 rfl (lv_at hl 0 rfl) ?_
    exact MS.iret S hr hlk hw dX_meaningBehindStar_70 rfl ⟨_, rfl, by simp [starB]⟩
  · skip
    refine lv_lookup (off := 68) (tgt := 69) hx hb dX_meaningBehindStar_1 (by decide) (by decide) (by decide) ?_
    refine lv_iload_n hx hb dX_meaningBehindStar_69 rfl (lv_at hl 0 rfl) ?_
    exact MS.iret S hr hlk hw dX_meaningBehindStar_70 rfl ⟨_, rfl, by simp [starB]⟩
  · skip
    refine lv_lookup (off := 68) (tgt := 69) hx hb dX_meaningBehindStar_1 (by decide) (by decide) (by decide) ?_
    refine lv_iload_n hx hb dX_meaningBehindStar_69 rfl (lv_at hl 0 rfl) ?_
    exact MS.iret S hr hlk hw dX_meaningBehindStar_70 rfl ⟨_, rfl, by simp [starB]⟩
  · skip
    refine lv_lookup (off := 59) (tgt := 60) hx hb dX_meaningBehindStar_1 (by decide) (by decide) (by decide) ?_
    refine lv_bipush (v := 10) hx hb dX_meaningBehindStar_60 (by decide) ?_
    exact MS.iret S hr hlk hw dX_meaningBehindStar_62 rfl ⟨_, rfl, by simp [starB]⟩
  · skip
    refine lv_lookup (off := 62) (tgt := 63) hx hb dX_meaningBehindStar_1 (by decide) (by decide) (by decide) ?_
    refine lv_bipush (v := 32) hx hb dX_meaningBehindStar_63 (by decide) ?_
    exact MS.iret S hr hlk hw dX_meaningBehindStar_65 rfl ⟨_, rfl, by simp [starB]⟩
  · skip
    refine lv_lookup (off := 65) (tgt := 66) hx hb dX_meaningBehindStar_1 (by decide) (by decide) (by decide) ?_
    refine lv_bipush (v := 9) hx hb dX_meaningBehindStar_66 (by decide) ?_
    exact MS.iret S hr hlk hw dX_meaningBehindStar_68 rfl ⟨_, rfl, by simp [starB]⟩
  · skip
    refine lv_lookup (off := 70) (tgt := 71) hx hb dX_meaningBehindStar_1 (by decide) hs1 (by decide) ?_
    refine lv_iconst (v := (-1)) hx hb dX_meaningBehindStar_71 (by decide) ?_
    exact MS.iret S hr hlk hw dX_meaningBehindStar_72 rfl ⟨_, rfl, hs2.symm⟩
set_option maxHeartbeats 4000000 in
set_option maxRecDepth 100000 in
theorem tX_elementAt (l : Launch) (z : kz_Z) (q N : Nat) (f : Nat → Int32) (hN : N < 2 ^ 31) (i : Int32) : MS l yX_elementAt cX_elementAt 2 (some .int) ({ frames := 0, cells := 0, slots := 0, locals := 0 }) [.ref q, .int i] z (some (q, N, f)) (fun v => ∃ r, v = some (.int r) ∧ r = elA f N i) := by
  refine MS.mk (by decide) (Nat.le_of_ble_eq_true rfl) ?_
  intro pg en s m below meth c ls S hr hlk hw hl
  have hA : ∀ q, s.heap.size ≤ q → (fun x => s.heap.size ≤ x) q := fun _ h => h
  have hx := S.1
  have hb := S.2.1
  have hl : lv_has ls 2 [(0, .ref q), (1, .int i)] := hl
  refine lv_iload_n hx hb dX_elementAt_0 rfl (lv_at hl 1 rfl) ?_
  refine lv_if_lt (tgt := 16) hx hb dX_elementAt_1 (by decide) (fun c1 => ?_) (fun c1 => ?_)
  · skip
    refine lv_iconst (v := (-1)) hx hb dX_elementAt_16 (by decide) ?_
    exact MS.iret S hr hlk hw dX_elementAt_17 rfl ⟨_, rfl, by simp [elA, c1]⟩
  · skip
    refine lv_iload_n hx hb dX_elementAt_4 rfl (lv_at hl 1 rfl) ?_
    refine lv_aload_n hx hb dX_elementAt_5 rfl (lv_at hl 0 rfl) ?_
    refine va_tlen hx hb (hw.2.2.2 _ _ _ rfl) hw.1 (v := nI N) rfl dX_elementAt_6 ?_
    refine lv_icmp_ge (tgt := 16) hx hb dX_elementAt_7 (by decide) (fun c7 => ?_) (fun c7 => ?_)
    · skip
      refine lv_iconst (v := (-1)) hx hb dX_elementAt_16 (by decide) ?_
      exact MS.iret S hr hlk hw dX_elementAt_17 rfl ⟨_, rfl, by simp [elA, c1, c7]⟩
    · skip
      refine lv_aload_n hx hb dX_elementAt_10 rfl (lv_at hl 0 rfl) ?_
      refine lv_iload_n hx hb dX_elementAt_11 rfl (lv_at hl 1 rfl) ?_
      refine va_ti hx hb (hw.2.2.2 _ _ _ rfl) hw.1 (vin_of c1 c7 hN) (v := .int (f (i).toNatClampNeg)) rfl dX_elementAt_12 ?_
      refine lv_goto (tgt := 17) hx hb dX_elementAt_13 (by decide) ?_
      exact MS.iret S hr hlk hw dX_elementAt_17 rfl ⟨_, rfl, by simp [elA, c1, c7]⟩
end
section
/-! ===== constant texts: length and charAt ===== -/
def chK (i k : Nat) : Int32 := (bytK.getD i []).getD k 0
theorem chK_ok : ∀ i, i < 12 → ∀ k, k < lenK.getD i 0 → (narrow .char (.int (chK i k)) = .int (chK i k) ∧ ((chK i k &&& 255).toUInt32 % 65536).toInt32 = chK i k) := by decide +kernel
theorem lenK_ok : ∀ i, i < 12 → lenK.getD i 0 < 1000 := by decide +kernel
set_option maxHeartbeats 4000000 in
set_option maxRecDepth 100000 in
theorem tS_coder (l : Launch) (z : kz_Z) (o : kz_O) (i : Nat) (hi : i < 12) : MS l yS_coder cS_coder 1 (some .byte) ({ frames := 0, cells := 0, slots := 0, locals := 0 }) [.ref (z.2.1 i)] z o (fun v => ∃ r, v = some (.int r) ∧ r = 0) := by
  refine MS.mk (by decide) (Nat.le_of_ble_eq_true rfl) ?_
  intro pg en s m below meth c ls S hr hlk hw hl
  have hA : ∀ q, s.heap.size ≤ q → (fun x => s.heap.size ≤ x) q := fun _ h => h
  have hx := S.1
  have hb := S.2.1
  have hl : lv_has ls 1 [(0, .ref (z.2.1 i))] := hl
  refine va_gets hx hb hw.2.1.2.2.1 hw.1 S.2.2.2.1 (S.2.2.2.2 _ (List.mem_cons_of_mem _ wfS_38)) (fun _ h9 => h9) dS_coder_0 ?_
  refine lv_if_eq (tgt := 13) hx hb dS_coder_3 (by decide) (fun c3 => absurd c3 (by decide)) (fun c3 => ?_)
  refine lv_aload_n hx hb dS_coder_6 rfl (lv_at hl 0 rfl) ?_
  refine vk_getf hx hb (hw.2.1.2.2.2.2.1 i hi).2.1 hw.1 S.2.2.2.1 (S.2.2.2.2 _ (List.mem_cons_of_mem _ wfS_15)) (fun _ h9 => h9) dS_coder_7 ?_
  refine lv_goto (tgt := 14) hx hb dS_coder_10 (by decide) ?_
  exact MS.iret S hr hlk hw dS_coder_14 (by first | rfl | decide) ⟨_, rfl, rfl⟩
set_option maxHeartbeats 4000000 in
set_option maxRecDepth 100000 in
theorem tS_isLatin1 (l : Launch) (z : kz_Z) (o : kz_O) (i : Nat) (hi : i < 12) : MS l yS_isLatin1 cS_isLatin1 1 (some .boolean) ({ frames := 0, cells := 0, slots := 0, locals := 0 }) [.ref (z.2.1 i)] z o (fun v => ∃ r, v = some (.int r) ∧ r = 1) := by
  refine MS.mk (by decide) (Nat.le_of_ble_eq_true rfl) ?_
  intro pg en s m below meth c ls S hr hlk hw hl
  have hA : ∀ q, s.heap.size ≤ q → (fun x => s.heap.size ≤ x) q := fun _ h => h
  have hx := S.1
  have hb := S.2.1
  have hl : lv_has ls 1 [(0, .ref (z.2.1 i))] := hl
  refine va_gets hx hb hw.2.1.2.2.1 hw.1 S.2.2.2.1 (S.2.2.2.2 _ (List.mem_cons_of_mem _ wfS_38)) (fun _ h9 => h9) dS_isLatin1_0 ?_
  refine lv_if_eq (tgt := 17) hx hb dS_isLatin1_3 (by decide) (fun c3 => absurd c3 (by decide)) (fun c3 => ?_)
  refine lv_aload_n hx hb dS_isLatin1_6 rfl (lv_at hl 0 rfl) ?_
  refine vk_getf hx hb (hw.2.1.2.2.2.2.1 i hi).2.1 hw.1 S.2.2.2.1 (S.2.2.2.2 _ (List.mem_cons_of_mem _ wfS_15)) (fun _ h9 => h9) dS_isLatin1_7 ?_
  refine lv_if_ne (tgt := 17) hx hb dS_isLatin1_10 (by decide) (fun c10 => absurd c10 (by decide)) (fun c10 => ?_)
  refine lv_iconst (v := 1) hx hb dS_isLatin1_13 (by decide) ?_
  refine lv_goto (tgt := 18) hx hb dS_isLatin1_14 (by decide) ?_
  exact MS.iret S hr hlk hw dS_isLatin1_18 (by first | rfl | decide) ⟨_, rfl, rfl⟩
set_option maxHeartbeats 4000000 in
set_option maxRecDepth 100000 in
theorem tS_length (l : Launch) (z : kz_Z) (o : kz_O) (i : Nat) (hi : i < 12) : MS l yS_length cS_length 1 (some .int) ({ frames := 1, cells := 0, slots := 0, locals := 20 }) [.ref (z.2.1 i)] z o (fun v => ∃ r, v = some (.int r) ∧ r = nI (lenK.getD i 0)) := by
  refine MS.mk (by decide) (Nat.le_of_ble_eq_true rfl) ?_
  intro pg en s m below meth c ls S hr hlk hw hl
  have hA : ∀ q, s.heap.size ≤ q → (fun x => s.heap.size ≤ x) q := fun _ h => h
  have hx := S.1
  have hb := S.2.1
  have hl : lv_has ls 1 [(0, .ref (z.2.1 i))] := hl
  refine lv_aload_n hx hb dS_length_0 rfl (lv_at hl 0 rfl) ?_
  refine vk_getf hx hb (hw.2.1.2.2.2.2.1 i hi).2.2.1 hw.1 S.2.2.2.1 (S.2.2.2.2 _ (List.mem_cons_of_mem _ wfS_9)) (fun _ h9 => h9) dS_length_1 ?_
  refine va_tlen hx hb (hw.2.1.2.2.2.2.1 i hi).2.2.2 hw.1 (v := nI (lenK.getD i 0)) rfl dS_length_4 ?_
  refine lv_aload_n hx hb dS_length_5 rfl (lv_at hl 0 rfl) ?_
  refine kcST (rest := [.int (nI (lenK.getD i 0))]) S kS_335 rfl hi (tS_coder l z none i hi) hw hA arNone ⟨Nat.le_of_ble_eq_true rfl, Nat.le_of_ble_eq_true rfl⟩ rfl rfl ⟨Nat.zero_le _, Nat.zero_le _⟩ rfl hl.1 (Nat.le_of_ble_eq_true rfl) dS_length_6 (fun r H locs hq hw => ?_)
  subst hq
  refine lv_ishr hx hb dS_length_9 ?_
  exact MS.iret S hr hlk hw dS_length_10 rfl ⟨_, rfl, sc_shr0 (by have := lenK_ok i hi; omega)⟩
set_option maxHeartbeats 4000000 in
set_option maxRecDepth 100000 in
theorem tP_checkIndex_n (l : Launch) (z : kz_Z) (o : kz_O) (x y : Int32) (h0 : ¬ x < 0) (h1 : x < y) : MS l yP_checkIndex cP_checkIndex 3 (some .int) ({ frames := 0, cells := 0, slots := 0, locals := 0 }) [.int x, .int y, .null] z o (fun v => ∃ r, v = some (.int r) ∧ r = x) := by
  refine MS.mk (by decide) (Nat.le_of_ble_eq_true rfl) ?_
  intro pg en s m below meth c ls S hr hlk hw hl
  have hA : ∀ q, s.heap.size ≤ q → (fun x => s.heap.size ≤ x) q := fun _ h => h
  have hx := S.1
  have hb := S.2.1
  have hl : lv_has ls 3 [(0, .int x), (1, .int y), (2, .null)] := hl
  refine lv_iload_n hx hb dP_checkIndex_0 rfl (lv_at hl 0 rfl) ?_
  refine lv_if_lt (tgt := 9) hx hb dP_checkIndex_1 (by decide) (fun c1 => absurd c1 h0) (fun c1 => ?_)
  refine lv_iload_n hx hb dP_checkIndex_4 rfl (lv_at hl 0 rfl) ?_
  refine lv_iload_n hx hb dP_checkIndex_5 rfl (lv_at hl 1 rfl) ?_
  refine lv_icmp_lt (tgt := 16) hx hb dP_checkIndex_6 (by decide) (fun c6 => ?_) (fun c6 => absurd h1 c6)
  refine lv_iload_n hx hb dP_checkIndex_16 rfl (lv_at hl 0 rfl) ?_
  exact MS.iret S hr hlk hw dP_checkIndex_17 rfl ⟨_, rfl, rfl⟩
set_option maxHeartbeats 4000000 in
set_option maxRecDepth 100000 in
theorem tP_checkIndex_r (l : Launch) (z : kz_Z) (o : kz_O) (x y : Int32) (h0 : ¬ x < 0) (h1 : x < y) (t : Nat) : MS l yP_checkIndex cP_checkIndex 3 (some .int) ({ frames := 0, cells := 0, slots := 0, locals := 0 }) [.int x, .int y, .ref t] z o (fun v => ∃ r, v = some (.int r) ∧ r = x) := by
  refine MS.mk (by decide) (Nat.le_of_ble_eq_true rfl) ?_
  intro pg en s m below meth c ls S hr hlk hw hl
  have hA : ∀ q, s.heap.size ≤ q → (fun x => s.heap.size ≤ x) q := fun _ h => h
  have hx := S.1
  have hb := S.2.1
  have hl : lv_has ls 3 [(0, .int x), (1, .int y), (2, .ref t)] := hl
  refine lv_iload_n hx hb dP_checkIndex_0 rfl (lv_at hl 0 rfl) ?_
  refine lv_if_lt (tgt := 9) hx hb dP_checkIndex_1 (by decide) (fun c1 => absurd c1 h0) (fun c1 => ?_)
  refine lv_iload_n hx hb dP_checkIndex_4 rfl (lv_at hl 0 rfl) ?_
  refine lv_iload_n hx hb dP_checkIndex_5 rfl (lv_at hl 1 rfl) ?_
  refine lv_icmp_lt (tgt := 16) hx hb dP_checkIndex_6 (by decide) (fun c6 => ?_) (fun c6 => absurd h1 c6)
  refine lv_iload_n hx hb dP_checkIndex_16 rfl (lv_at hl 0 rfl) ?_
  exact MS.iret S hr hlk hw dP_checkIndex_17 rfl ⟨_, rfl, rfl⟩
set_option maxHeartbeats 4000000 in
set_option maxRecDepth 100000 in
theorem tS_checkIndex (l : Launch) (z : kz_Z) (o : kz_O) (x y : Int32) (h0 : ¬ x < 0) (h1 : x < y) : MS l yS_checkIndex cS_checkIndex 2 none ({ frames := 1, cells := 0, slots := 0, locals := 22 }) [.int x, .int y] z o (fun v => v = none) := by
  refine MS.mk (by decide) (Nat.le_of_ble_eq_true rfl) ?_
  intro pg en s m below meth c ls S hr hlk hw hl
  have hA : ∀ q, s.heap.size ≤ q → (fun x => s.heap.size ≤ x) q := fun _ h => h
  have hx := S.1
  have hb := S.2.1
  have hl : lv_has ls 2 [(0, .int x), (1, .int y)] := hl
  refine lv_iload_n hx hb dS_checkIndex_0 rfl (lv_at hl 0 rfl) ?_
  refine lv_iload_n hx hb dS_checkIndex_1 rfl (lv_at hl 1 rfl) ?_
  rcases hw.2.1.2.2.2.1 with hz | ⟨t, hz⟩
  · skip
    refine va_gets hx hb hz hw.1 S.2.2.2.1 (S.2.2.2.2 _ (List.mem_cons_of_mem _ wfS_1053)) (fun _ h9 => h9) dS_checkIndex_2 ?_
    refine kcSS (rest := []) S kS_1059 (tP_checkIndex_n l z none x y h0 h1) hw hA arNone ⟨Nat.le_of_ble_eq_true rfl, Nat.le_of_ble_eq_true rfl⟩ rfl rfl ⟨Nat.zero_le _, Nat.zero_le _⟩ rfl hl.1 (Nat.le_of_ble_eq_true rfl) dS_checkIndex_5 (fun r H locs hq hw => ?_)
    subst hq
    refine lv_pop hx hb dS_checkIndex_8 rfl ?_
    exact MS.vret S hr hlk hw dS_checkIndex_9 rfl
  · skip
    refine va_gets hx hb hz hw.1 S.2.2.2.1 (S.2.2.2.2 _ (List.mem_cons_of_mem _ wfS_1053)) (fun _ h9 => h9) dS_checkIndex_2 ?_
    refine kcSS (rest := []) S kS_1059 (tP_checkIndex_r l z none x y h0 h1 t) hw hA arNone ⟨Nat.le_of_ble_eq_true rfl, Nat.le_of_ble_eq_true rfl⟩ rfl rfl ⟨Nat.zero_le _, Nat.zero_le _⟩ rfl hl.1 (Nat.le_of_ble_eq_true rfl) dS_checkIndex_5 (fun r H locs hq hw => ?_)
    subst hq
    refine lv_pop hx hb dS_checkIndex_8 rfl ?_
    exact MS.vret S hr hlk hw dS_checkIndex_9 rfl
set_option maxHeartbeats 4000000 in
set_option maxRecDepth 100000 in
theorem tL1_charAt (l : Launch) (z : kz_Z) (o : kz_O) (i : Nat) (hi : i < 12) (k : Nat) (hk : k < lenK.getD i 0) : MS l yL1_charAt cL1_charAt 2 (some .char) ({ frames := 2, cells := 0, slots := 0, locals := 43 }) [.ref (z.2.2 i), .int (nI k)] z o (fun v => ∃ r, v = some (.int r) ∧ r = chK i k) := by
  refine MS.mk (by decide) (Nat.le_of_ble_eq_true rfl) ?_
  intro pg en s m below meth c ls S hr hlk hw hl
  have hA : ∀ q, s.heap.size ≤ q → (fun x => s.heap.size ≤ x) q := fun _ h => h
  have hx := S.1
  have hb := S.2.1
  have hl : lv_has ls 2 [(0, .ref (z.2.2 i)), (1, .int (nI k))] := hl
  refine lv_iload_n hx hb dL1_charAt_0 rfl (lv_at hl 1 rfl) ?_
  refine lv_aload_n hx hb dL1_charAt_1 rfl (lv_at hl 0 rfl) ?_
  refine va_tlen hx hb (hw.2.1.2.2.2.2.1 i hi).2.2.2 hw.1 (v := nI (lenK.getD i 0)) rfl dL1_charAt_2 ?_
  refine kcSv (rest := []) S kL1_9 (tS_checkIndex l z none (nI k) (nI (lenK.getD i 0)) (nI_pos (by have := lenK_ok i hi; omega)) (nI_lt hk (by have := lenK_ok i hi; omega))) hw hA arNone ⟨Nat.le_of_ble_eq_true rfl, Nat.le_of_ble_eq_true rfl⟩ rfl rfl ⟨Nat.zero_le _, Nat.zero_le _⟩ rfl hl.1 (Nat.le_of_ble_eq_true rfl) dL1_charAt_3 (fun H locs hw => ?_)
  refine lv_aload_n hx hb dL1_charAt_6 rfl (lv_at hl 0 rfl) ?_
  refine lv_iload_n hx hb dL1_charAt_7 rfl (lv_at hl 1 rfl) ?_
  refine va_tb hx hb (hw.2.1.2.2.2.2.1 i hi).2.2.2 hw.1 (vp_in_nI hk (by have := lenK_ok i hi; omega)) (v := .int (chK i k)) (by rw [nI_clamp (by have := lenK_ok i hi; omega)]; rfl) dL1_charAt_8 ?_
  refine lv_sipush (v := 255) hx hb dL1_charAt_9 (by decide) ?_
  refine lv_iand hx hb dL1_charAt_12 ?_
  refine lv_i2c (v := (((chK i k) &&& 255).toUInt32 % 65536).toInt32) hx hb dL1_charAt_13 rfl ?_
  exact MS.iret S hr hlk hw dL1_charAt_14 (by rw [(chK_ok i hi k hk).2]; exact (chK_ok i hi k hk).1) ⟨_, rfl, (chK_ok i hi k hk).2⟩
set_option maxHeartbeats 4000000 in
set_option maxRecDepth 100000 in
theorem tS_charAt (l : Launch) (z : kz_Z) (o : kz_O) (i : Nat) (hi : i < 12) (k : Nat) (hk : k < lenK.getD i 0) : MS l yS_charAt cS_charAt 2 (some .char) ({ frames := 3, cells := 0, slots := 0, locals := 64 }) [.ref (z.2.1 i), .int (nI k)] z o (fun v => ∃ r, v = some (.int r) ∧ r = chK i k) := by
  refine MS.mk (by decide) (Nat.le_of_ble_eq_true rfl) ?_
  intro pg en s m below meth c ls S hr hlk hw hl
  have hA : ∀ q, s.heap.size ≤ q → (fun x => s.heap.size ≤ x) q := fun _ h => h
  have hx := S.1
  have hb := S.2.1
  have hl : lv_has ls 2 [(0, .ref (z.2.1 i)), (1, .int (nI k))] := hl
  refine lv_aload_n hx hb dS_charAt_0 rfl (lv_at hl 0 rfl) ?_
  refine kcST (rest := []) S kS_492 rfl hi (tS_isLatin1 l z none i hi) hw hA arNone ⟨Nat.le_of_ble_eq_true rfl, Nat.le_of_ble_eq_true rfl⟩ rfl rfl ⟨Nat.zero_le _, Nat.zero_le _⟩ rfl hl.1 (Nat.le_of_ble_eq_true rfl) dS_charAt_1 (fun r H locs hq hw => ?_)
  subst hq
  refine lv_if_eq (tgt := 16) hx hb dS_charAt_4 (by decide) (fun c4 => absurd c4 (by decide)) (fun c4 => ?_)
  refine lv_aload_n hx hb dS_charAt_7 rfl (lv_at hl 0 rfl) ?_
  refine vk_getf hx hb (hw.2.1.2.2.2.2.1 i hi).2.2.1 hw.1 S.2.2.2.1 (S.2.2.2.2 _ (List.mem_cons_of_mem _ wfS_9)) (fun _ h9 => h9) dS_charAt_8 ?_
  refine lv_iload_n hx hb dS_charAt_11 rfl (lv_at hl 1 rfl) ?_
  refine kcSS (rest := []) S kS_495 (tL1_charAt l z none i hi k hk) hw hA arNone ⟨Nat.le_of_ble_eq_true rfl, Nat.le_of_ble_eq_true rfl⟩ rfl rfl ⟨Nat.zero_le _, Nat.zero_le _⟩ rfl hl.1 (Nat.le_of_ble_eq_true rfl) dS_charAt_12 (fun r H locs hq hw => ?_)
  subst hq
  exact MS.iret S hr hlk hw dS_charAt_15 (chK_ok i hi k hk).1 ⟨_, rfl, rfl⟩
end
section
/-! ===== words in a text: numberInList ===== -/
/-- the walk over a text: number is the word's place, same how many bytes are alike so far (none: not) -/
def nilF (b : Nat → Int32) (size : Nat) : List Int32 → Nat → Option Nat → Int32
  | [], _, _ => -1
  | ch :: cs, num, sm =>
    if ch = 32 then (if sm = some size then nI num else nilF b size cs (num + 1) (some 0))
    else match sm with
      | some k => if k < size ∧ b k = ch then nilF b size cs num (some (k + 1)) else nilF b size cs num none
      | none => nilF b size cs num none
theorem nil_sp1 {b : Nat → Int32} {size num : Nat} {ch : Int32} {cs : List Int32} (h : ch = 32) : nilF b size (ch :: cs) num (some size) = nI num := by simp [nilF, h]
theorem nil_sp2 {b : Nat → Int32} {size num : Nat} {ch : Int32} {cs : List Int32} {sm : Option Nat} (h : ch = 32) (hs : ¬ sm = some size) : nilF b size (ch :: cs) num sm = nilF b size cs (num + 1) (some 0) := by simp [nilF, h, hs]
theorem nil_ch1 {b : Nat → Int32} {size num k : Nat} {ch : Int32} {cs : List Int32} (h : ¬ ch = 32) (h1 : k < size) (h2 : b k = ch) : nilF b size (ch :: cs) num (some k) = nilF b size cs num (some (k + 1)) := by simp [nilF, h, h1, h2]
theorem nil_ch2 {b : Nat → Int32} {size num k : Nat} {ch : Int32} {cs : List Int32} (h : ¬ ch = 32) (h1 : ¬ (k < size ∧ b k = ch)) : nilF b size (ch :: cs) num (some k) = nilF b size cs num none := by
  rw [nilF, if_neg h]; simp only [if_neg h1]
theorem nil_ch3 {b : Nat → Int32} {size num : Nat} {ch : Int32} {cs : List Int32} (h : ¬ ch = 32) : nilF b size (ch :: cs) num none = nilF b size cs num none := by simp [nilF, h]
theorem txK_len : ∀ i, i < 12 → (bytK.getD i []).length = lenK.getD i 0 := by decide +kernel
theorem txK_drop {i j : Nat} (hi : i < 12) (hj : j < lenK.getD i 0) : (bytK.getD i []).drop j = chK i j :: (bytK.getD i []).drop (j + 1) := by
  have h : j < (bytK.getD i []).length := by rw [txK_len i hi]; exact hj
  unfold chK
  generalize bytK.getD i [] = L at h ⊢
  rw [List.drop_eq_getElem_cons h, List.getD_eq_getElem?_getD, List.getElem?_eq_getElem h]
  rfl
theorem txK_end {i j : Nat} (hi : i < 12) (hj : lenK.getD i 0 ≤ j) : (bytK.getD i []).drop j = [] := List.drop_eq_nil_of_le (by rw [txK_len i hi]; exact hj)
theorem elA_in {f : Nat → Int32} {N j : Nat} (h : j < N) (hN : N < 2 ^ 31) : elA f N (nI j) = f j := by
  rw [elA, if_neg (nI_pos (by omega)), if_neg (nI_ge h hN), nI_clamp (by omega)]
theorem m1_ne {n : Nat} (h : n < 2 ^ 31) : ¬ (-1 : Int32) = nI n := by
  intro e
  have := nI_toInt h
  rw [← e] at this
  have h2 : (-1 : Int32).toInt = -1 := by decide
  omega
theorem m1_lt : (-1 : Int32) < 0 := by decide
def encS (sm : Option Nat) : Int32 := match sm with
  | some k => nI k
  | none => -1
set_option maxHeartbeats 4000000 in
set_option maxRecDepth 100000 in
theorem tX_numberInList (l : Launch) (z : kz_Z) (i : Nat) (hi : i < 12) (q N : Nat) (f : Nat → Int32) (hN : N < 2 ^ 31) (st size : Nat) (hs : st + size ≤ N) : MS l yX_numberInList cX_numberInList 8 (some .int) ({ frames := 4, cells := 0, slots := 0, locals := 85 }) [.ref (z.2.1 i), .ref q, .int (nI st), .int (nI size)] z (some (q, N, f)) (fun v => ∃ r, v = some (.int r) ∧ r = nilF (fun k => f (st + k)) size (bytK.getD i []) 0 (some 0)) := by
  refine MS.mk (by decide) (Nat.le_of_ble_eq_true rfl) ?_
  intro pg en s m below meth c ls S hr hlk hw hl
  have hA : ∀ q, s.heap.size ≤ q → (fun x => s.heap.size ≤ x) q := fun _ h => h
  have hx := S.1
  have hb := S.2.1
  have hl : lv_has ls 8 [(0, .ref (z.2.1 i)), (1, .ref q), (2, .int (nI st)), (3, .int (nI size))] := hl
  have loop : ∀ (n j num : Nat) (sm : Option Nat) (H : Heap) (locs : List Loc) (ls : Array Slot), j ≤ lenK.getD i 0 → lenK.getD i 0 + 1 ≤ j + n → num ≤ j → (∀ k, sm = some k → k ≤ j) → nilF (fun k => f (st + k)) size ((bytK.getD i []).drop j) num sm = nilF (fun k => f (st + k)) size (bytK.getD i []) 0 (some 0) → sS z (some (q, N, f)) s H locs → lv_has ls 8 [(0, .ref (z.2.1 i)), (1, .ref q), (2, .int (nI st)), (3, .int (nI size)), (4, .int (nI num)), (5, .int (encS sm)), (6, .int (nI j))] → W pg l en ({ frames := 4, cells := 0, slots := 0, locals := 85 }) s m ([.ref (z.2.1 i), .ref q, .int (nI st), .int (nI size)] : List Value).toArray below meth c H locs 0 0 (MQ below (QS s.heap.size (fun v => ∃ r, v = some (.int r) ∧ r = nilF (fun k => f (st + k)) size (bytK.getD i []) 0 (some 0))) ([.ref (z.2.1 i), .ref q, .int (nI st), .int (nI size)] : List Value).toArray s 0 0 (fun x => s.heap.size ≤ x)) (F0 m 9 ls []) := by
    intro n
    induction n with
    | zero => intro j num sm H locs ls h1 h2; omega
    | succ n ih =>
      intro j num sm H locs ls h1 h2 h3 h4 hR hw hl
      have hLK := lenK_ok i hi
      cases sm with
      | none =>
          have hl : lv_has ls 8 [(0, .ref (z.2.1 i)), (1, .ref q), (2, .int (nI st)), (3, .int (nI size)), (4, .int (nI num)), (5, .int (-1)), (6, .int (nI j))] := hl
          refine lv_iload hx hb dX_numberInList_9 (lv_at hl 6 rfl) ?_
          refine lv_aload_n hx hb dX_numberInList_11 rfl (lv_at hl 0 rfl) ?_
          refine kcST (rest := [.int (nI j)]) S kX_165 rfl hi (tS_length l z none i hi) hw hA arNone ⟨Nat.le_of_ble_eq_true rfl, Nat.le_of_ble_eq_true rfl⟩ rfl rfl ⟨Nat.zero_le _, Nat.zero_le _⟩ rfl hl.1 (Nat.le_of_ble_eq_true rfl) dX_numberInList_12 (fun r H locs hq hw => ?_)
          subst hq
          refine lv_icmp_ge (tgt := 90) hx hb dX_numberInList_15 (by decide) (fun c15 => ?_) (fun c15 => ?_)
          · skip
            refine lv_iconst (v := (-1)) hx hb dX_numberInList_90 (by decide) ?_
            exact MS.iret S hr hlk hw dX_numberInList_91 rfl ⟨_, rfl, by rw [← hR, txK_end hi (Nat.le_of_not_lt (fun q => absurd c15 (nI_ge q (by omega))))]; rfl⟩
          · skip
            refine lv_aload_n hx hb dX_numberInList_18 rfl (lv_at hl 0 rfl) ?_
            refine lv_iload hx hb dX_numberInList_19 (lv_at hl 6 rfl) ?_
            have hj : j < lenK.getD i 0 := Nat.lt_of_not_le (fun q => c15 (nI_le q (by omega)))
            have hd := txK_drop hi hj
            refine kcST (rest := []) S kX_170 rfl hi (tS_charAt l z none i hi j hj) hw hA arNone ⟨Nat.le_of_ble_eq_true rfl, Nat.le_of_ble_eq_true rfl⟩ rfl rfl ⟨Nat.zero_le _, Nat.zero_le _⟩ rfl hl.1 (Nat.le_of_ble_eq_true rfl) dX_numberInList_21 (fun r H locs hq hw => ?_)
            subst hq
            refine lv_istore (lv' := [(7, .int (chK i j)), (0, .ref (z.2.1 i)), (1, .ref q), (2, .int (nI st)), (3, .int (nI size)), (4, .int (nI num)), (5, .int (-1)), (6, .int (nI j))]) hx hb dX_numberInList_24 hl (by decide) rfl (fun ls hl => ?_)
            refine lv_iload hx hb dX_numberInList_26 (lv_at hl 0 rfl) ?_
            refine lv_bipush (v := 32) hx hb dX_numberInList_28 (by decide) ?_
            refine lv_icmp_ne (tgt := 51) hx hb dX_numberInList_30 (by decide) (fun c30 => ?_) (fun c30 => ?_)
            · skip
              refine lv_iload hx hb dX_numberInList_51 (lv_at hl 6 rfl) ?_
              refine lv_if_lt (tgt := 81) hx hb dX_numberInList_53 (by decide) (fun c53 => ?_) (fun c53 => absurd c53 (by decide))
              refine lv_iconst (v := (-1)) hx hb dX_numberInList_81 (by decide) ?_
              refine lv_istore (lv' := [(5, .int (-1)), (7, .int (chK i j)), (0, .ref (z.2.1 i)), (1, .ref q), (2, .int (nI st)), (3, .int (nI size)), (4, .int (nI num)), (6, .int (nI j))]) hx hb dX_numberInList_82 hl (by decide) rfl (fun ls hl => ?_)
              refine lv_iinc (v := nI (j + 1)) (lv' := [(6, .int (nI (j + 1))), (5, .int (-1)), (7, .int (chK i j)), (0, .ref (z.2.1 i)), (1, .ref q), (2, .int (nI st)), (3, .int (nI size)), (4, .int (nI num))]) hx hb dX_numberInList_84 hl (k := 7) rfl (nI_1 j) (by decide) rfl (fun ls hl => ?_)
              refine lv_goto (tgt := 9) hx hb dX_numberInList_87 (by decide) ?_
              rw [hd, nil_ch3 c30] at hR
              exact ih (j + 1) (num) none H locs ls (by omega) (by omega) (by omega) (by intro k h; cases h) hR hw (lv_sub hl [3, 4, 5, 6, 7, 1, 0] rfl)
            · skip
              refine lv_iload hx hb dX_numberInList_33 (lv_at hl 6 rfl) ?_
              refine lv_iload_n hx hb dX_numberInList_35 rfl (lv_at hl 4 rfl) ?_
              refine lv_icmp_ne (tgt := 42) hx hb dX_numberInList_36 (by decide) (fun c36 => ?_) (fun c36 => absurd c36 (m1_ne (by omega)))
              refine lv_iinc (v := nI (num + 1)) (lv' := [(4, .int (nI (num + 1))), (7, .int (chK i j)), (0, .ref (z.2.1 i)), (1, .ref q), (2, .int (nI st)), (3, .int (nI size)), (5, .int (-1)), (6, .int (nI j))]) hx hb dX_numberInList_42 hl (k := 5) rfl (nI_1 num) (by decide) rfl (fun ls hl => ?_)
              refine lv_iconst (v := 0) hx hb dX_numberInList_45 (by decide) ?_
              refine lv_istore (lv' := [(5, .int 0), (4, .int (nI (num + 1))), (7, .int (chK i j)), (0, .ref (z.2.1 i)), (1, .ref q), (2, .int (nI st)), (3, .int (nI size)), (6, .int (nI j))]) hx hb dX_numberInList_46 hl (by decide) rfl (fun ls hl => ?_)
              refine lv_goto (tgt := 84) hx hb dX_numberInList_48 (by decide) ?_
              refine lv_iinc (v := nI (j + 1)) (lv' := [(6, .int (nI (j + 1))), (5, .int 0), (4, .int (nI (num + 1))), (7, .int (chK i j)), (0, .ref (z.2.1 i)), (1, .ref q), (2, .int (nI st)), (3, .int (nI size))]) hx hb dX_numberInList_84 hl (k := 7) rfl (nI_1 j) (by decide) rfl (fun ls hl => ?_)
              refine lv_goto (tgt := 9) hx hb dX_numberInList_87 (by decide) ?_
              rw [hd, nil_sp2 c30 (by simp)] at hR
              exact ih (j + 1) (num + 1) (some 0) H locs ls (by omega) (by omega) (by omega) (by intro k h; cases h; exact Nat.zero_le _) hR hw (lv_sub hl [4, 5, 6, 7, 2, 1, 0] rfl)
      | some k =>
          have hk4 := h4 k rfl
          have hl : lv_has ls 8 [(0, .ref (z.2.1 i)), (1, .ref q), (2, .int (nI st)), (3, .int (nI size)), (4, .int (nI num)), (5, .int (nI k)), (6, .int (nI j))] := hl
          refine lv_iload hx hb dX_numberInList_9 (lv_at hl 6 rfl) ?_
          refine lv_aload_n hx hb dX_numberInList_11 rfl (lv_at hl 0 rfl) ?_
          refine kcST (rest := [.int (nI j)]) S kX_165 rfl hi (tS_length l z none i hi) hw hA arNone ⟨Nat.le_of_ble_eq_true rfl, Nat.le_of_ble_eq_true rfl⟩ rfl rfl ⟨Nat.zero_le _, Nat.zero_le _⟩ rfl hl.1 (Nat.le_of_ble_eq_true rfl) dX_numberInList_12 (fun r H locs hq hw => ?_)
          subst hq
          refine lv_icmp_ge (tgt := 90) hx hb dX_numberInList_15 (by decide) (fun c15 => ?_) (fun c15 => ?_)
          · skip
            refine lv_iconst (v := (-1)) hx hb dX_numberInList_90 (by decide) ?_
            exact MS.iret S hr hlk hw dX_numberInList_91 rfl ⟨_, rfl, by rw [← hR, txK_end hi (Nat.le_of_not_lt (fun q => absurd c15 (nI_ge q (by omega))))]; rfl⟩
          · skip
            refine lv_aload_n hx hb dX_numberInList_18 rfl (lv_at hl 0 rfl) ?_
            refine lv_iload hx hb dX_numberInList_19 (lv_at hl 6 rfl) ?_
            have hj : j < lenK.getD i 0 := Nat.lt_of_not_le (fun q => c15 (nI_le q (by omega)))
            have hd := txK_drop hi hj
            refine kcST (rest := []) S kX_170 rfl hi (tS_charAt l z none i hi j hj) hw hA arNone ⟨Nat.le_of_ble_eq_true rfl, Nat.le_of_ble_eq_true rfl⟩ rfl rfl ⟨Nat.zero_le _, Nat.zero_le _⟩ rfl hl.1 (Nat.le_of_ble_eq_true rfl) dX_numberInList_21 (fun r H locs hq hw => ?_)
            subst hq
            refine lv_istore (lv' := [(7, .int (chK i j)), (0, .ref (z.2.1 i)), (1, .ref q), (2, .int (nI st)), (3, .int (nI size)), (4, .int (nI num)), (5, .int (nI k)), (6, .int (nI j))]) hx hb dX_numberInList_24 hl (by decide) rfl (fun ls hl => ?_)
            refine lv_iload hx hb dX_numberInList_26 (lv_at hl 0 rfl) ?_
            refine lv_bipush (v := 32) hx hb dX_numberInList_28 (by decide) ?_
            refine lv_icmp_ne (tgt := 51) hx hb dX_numberInList_30 (by decide) (fun c30 => ?_) (fun c30 => ?_)
            · skip
              refine lv_iload hx hb dX_numberInList_51 (lv_at hl 6 rfl) ?_
              refine lv_if_lt (tgt := 81) hx hb dX_numberInList_53 (by decide) (fun c53 => absurd c53 (nI_pos (by have := h4 k rfl; omega))) (fun c53 => ?_)
              refine lv_iload hx hb dX_numberInList_56 (lv_at hl 6 rfl) ?_
              refine lv_iload_n hx hb dX_numberInList_58 rfl (lv_at hl 4 rfl) ?_
              refine lv_icmp_ge (tgt := 81) hx hb dX_numberInList_59 (by decide) (fun c59 => ?_) (fun c59 => ?_)
              · skip
                refine lv_iconst (v := (-1)) hx hb dX_numberInList_81 (by decide) ?_
                refine lv_istore (lv' := [(5, .int (-1)), (7, .int (chK i j)), (0, .ref (z.2.1 i)), (1, .ref q), (2, .int (nI st)), (3, .int (nI size)), (4, .int (nI num)), (6, .int (nI j))]) hx hb dX_numberInList_82 hl (by decide) rfl (fun ls hl => ?_)
                refine lv_iinc (v := nI (j + 1)) (lv' := [(6, .int (nI (j + 1))), (5, .int (-1)), (7, .int (chK i j)), (0, .ref (z.2.1 i)), (1, .ref q), (2, .int (nI st)), (3, .int (nI size)), (4, .int (nI num))]) hx hb dX_numberInList_84 hl (k := 7) rfl (nI_1 j) (by decide) rfl (fun ls hl => ?_)
                refine lv_goto (tgt := 9) hx hb dX_numberInList_87 (by decide) ?_
                rw [hd, nil_ch2 (b := fun k => f (st + k)) c30 (fun q => absurd c59 (nI_ge q.1 (by omega)))] at hR
                exact ih (j + 1) (num) none H locs ls (by omega) (by omega) (by omega) (by intro k h; cases h) hR hw (lv_sub hl [3, 4, 5, 6, 7, 1, 0] rfl)
              · skip
                refine lv_aload_n hx hb dX_numberInList_62 rfl (lv_at hl 2 rfl) ?_
                refine lv_iload_n hx hb dX_numberInList_63 rfl (lv_at hl 3 rfl) ?_
                refine lv_iload hx hb dX_numberInList_64 (lv_at hl 6 rfl) ?_
                refine lv_iadd hx hb dX_numberInList_66 ?_
                have hks : k < size := Nat.lt_of_not_le (fun q => c59 (nI_le q (by omega)))
                refine kcSS (rest := []) S kX_77 (tX_elementAt l z q N f hN (nI st + nI k)) hw hA hw.ar ⟨Nat.le_of_ble_eq_true rfl, Nat.le_of_ble_eq_true rfl⟩ rfl rfl ⟨Nat.zero_le _, Nat.zero_le _⟩ rfl hl.1 (Nat.le_of_ble_eq_true rfl) dX_numberInList_67 (fun r H locs hq hw => ?_)
                rw [nI_add, elA_in (by omega) hN] at hq
                subst hq
                refine lv_iload hx hb dX_numberInList_70 (lv_at hl 0 rfl) ?_
                refine lv_icmp_ne (tgt := 81) hx hb dX_numberInList_72 (by decide) (fun c72 => ?_) (fun c72 => ?_)
                · skip
                  refine lv_iconst (v := (-1)) hx hb dX_numberInList_81 (by decide) ?_
                  refine lv_istore (lv' := [(5, .int (-1)), (7, .int (chK i j)), (0, .ref (z.2.1 i)), (1, .ref q), (2, .int (nI st)), (3, .int (nI size)), (4, .int (nI num)), (6, .int (nI j))]) hx hb dX_numberInList_82 hl (by decide) rfl (fun ls hl => ?_)
                  refine lv_iinc (v := nI (j + 1)) (lv' := [(6, .int (nI (j + 1))), (5, .int (-1)), (7, .int (chK i j)), (0, .ref (z.2.1 i)), (1, .ref q), (2, .int (nI st)), (3, .int (nI size)), (4, .int (nI num))]) hx hb dX_numberInList_84 hl (k := 7) rfl (nI_1 j) (by decide) rfl (fun ls hl => ?_)
                  refine lv_goto (tgt := 9) hx hb dX_numberInList_87 (by decide) ?_
                  rw [hd, nil_ch2 (b := fun k => f (st + k)) c30 (fun q => c72 q.2)] at hR
                  exact ih (j + 1) (num) none H locs ls (by omega) (by omega) (by omega) (by intro k h; cases h) hR hw (lv_sub hl [3, 4, 5, 6, 7, 1, 0] rfl)
                · skip
                  refine lv_iinc (v := nI (k + 1)) (lv' := [(5, .int (nI (k + 1))), (7, .int (chK i j)), (0, .ref (z.2.1 i)), (1, .ref q), (2, .int (nI st)), (3, .int (nI size)), (4, .int (nI num)), (6, .int (nI j))]) hx hb dX_numberInList_75 hl (k := 6) rfl (nI_1 k) (by decide) rfl (fun ls hl => ?_)
                  refine lv_goto (tgt := 84) hx hb dX_numberInList_78 (by decide) ?_
                  refine lv_iinc (v := nI (j + 1)) (lv' := [(6, .int (nI (j + 1))), (5, .int (nI (k + 1))), (7, .int (chK i j)), (0, .ref (z.2.1 i)), (1, .ref q), (2, .int (nI st)), (3, .int (nI size)), (4, .int (nI num))]) hx hb dX_numberInList_84 hl (k := 7) rfl (nI_1 j) (by decide) rfl (fun ls hl => ?_)
                  refine lv_goto (tgt := 9) hx hb dX_numberInList_87 (by decide) ?_
                  rw [hd, nil_ch1 (b := fun k => f (st + k)) c30 (Nat.lt_of_not_le (fun q => c59 (nI_le q (by omega)))) c72] at hR
                  exact ih (j + 1) (num) (some (k + 1)) H locs ls (by omega) (by omega) (by omega) (by intro k' h; cases h; have := h4 k rfl; omega) hR hw (lv_sub hl [3, 4, 5, 6, 7, 1, 0] rfl)
            · skip
              refine lv_iload hx hb dX_numberInList_33 (lv_at hl 6 rfl) ?_
              refine lv_iload_n hx hb dX_numberInList_35 rfl (lv_at hl 4 rfl) ?_
              refine lv_icmp_ne (tgt := 42) hx hb dX_numberInList_36 (by decide) (fun c36 => ?_) (fun c36 => ?_)
              · skip
                refine lv_iinc (v := nI (num + 1)) (lv' := [(4, .int (nI (num + 1))), (7, .int (chK i j)), (0, .ref (z.2.1 i)), (1, .ref q), (2, .int (nI st)), (3, .int (nI size)), (5, .int (nI k)), (6, .int (nI j))]) hx hb dX_numberInList_42 hl (k := 5) rfl (nI_1 num) (by decide) rfl (fun ls hl => ?_)
                refine lv_iconst (v := 0) hx hb dX_numberInList_45 (by decide) ?_
                refine lv_istore (lv' := [(5, .int 0), (4, .int (nI (num + 1))), (7, .int (chK i j)), (0, .ref (z.2.1 i)), (1, .ref q), (2, .int (nI st)), (3, .int (nI size)), (6, .int (nI j))]) hx hb dX_numberInList_46 hl (by decide) rfl (fun ls hl => ?_)
                refine lv_goto (tgt := 84) hx hb dX_numberInList_48 (by decide) ?_
                refine lv_iinc (v := nI (j + 1)) (lv' := [(6, .int (nI (j + 1))), (5, .int 0), (4, .int (nI (num + 1))), (7, .int (chK i j)), (0, .ref (z.2.1 i)), (1, .ref q), (2, .int (nI st)), (3, .int (nI size))]) hx hb dX_numberInList_84 hl (k := 7) rfl (nI_1 j) (by decide) rfl (fun ls hl => ?_)
                refine lv_goto (tgt := 9) hx hb dX_numberInList_87 (by decide) ?_
                rw [hd, nil_sp2 c30 (fun q => c36 (by rw [Option.some.inj q]))] at hR
                exact ih (j + 1) (num + 1) (some 0) H locs ls (by omega) (by omega) (by omega) (by intro k h; cases h; exact Nat.zero_le _) hR hw (lv_sub hl [4, 5, 6, 7, 2, 1, 0] rfl)
              · skip
                refine lv_iload hx hb dX_numberInList_39 (lv_at hl 5 rfl) ?_
                exact MS.iret S hr hlk hw dX_numberInList_41 rfl ⟨_, rfl, by rw [hd] at hR; have e := (nI_eq (by have := h4 k rfl; omega) (by omega)).mp c36; subst e; rw [nil_sp1 c30] at hR; exact hR⟩
  refine lv_iconst (v := 0) hx hb dX_numberInList_0 (by decide) ?_
  refine lv_istore (lv' := [(4, .int 0), (0, .ref (z.2.1 i)), (1, .ref q), (2, .int (nI st)), (3, .int (nI size))]) hx hb dX_numberInList_1 hl (by decide) rfl (fun ls hl => ?_)
  refine lv_iconst (v := 0) hx hb dX_numberInList_3 (by decide) ?_
  refine lv_istore (lv' := [(5, .int 0), (4, .int 0), (0, .ref (z.2.1 i)), (1, .ref q), (2, .int (nI st)), (3, .int (nI size))]) hx hb dX_numberInList_4 hl (by decide) rfl (fun ls hl => ?_)
  refine lv_iconst (v := 0) hx hb dX_numberInList_6 (by decide) ?_
  refine lv_istore (lv' := [(6, .int 0), (5, .int 0), (4, .int 0), (0, .ref (z.2.1 i)), (1, .ref q), (2, .int (nI st)), (3, .int (nI size))]) hx hb dX_numberInList_7 hl (by decide) rfl (fun ls hl => ?_)
  exact loop (lenK.getD i 0 + 1) 0 0 (some 0) s.heap [] ls (Nat.zero_le _) (by omega) (Nat.le_refl _) (by intro k h; cases h; exact Nat.le_refl _) rfl hw (lv_sub hl [3, 4, 5, 6, 2, 1, 0] rfl)
end
section
/-! ===== THE DOCUMENT'S WORDS, as functions of a tape: T its bytes, n its length ===== -/
def seeT (T : Nat → Int32) (n p : Nat) : Int32 := if p < n then T p else -1
def WK : List (List (List Int32)) := [[[84, 82, 85, 69], [70, 65, 76, 83, 69], [66, 82, 69, 65, 75], [76, 79, 79, 80], [69, 78, 68, 67, 65, 83, 69], [82, 69, 84, 85, 82, 78], [70, 73, 78, 73, 83, 72]],
  [[86, 65, 76, 79, 70], [84, 65, 66, 76, 69], [73, 70], [85, 78, 76, 69, 83, 83], [84, 69, 83, 84], [87, 72, 73, 76, 69], [85, 78, 84, 73, 76], [70, 79, 82], [83, 87, 73, 84, 67, 72, 79, 78], [67, 65, 83, 69], [68, 69, 70, 65, 85, 76, 84], [82, 69, 83, 85, 76, 84, 73, 83], [76, 69, 84], [71, 76, 79, 66, 65, 76], [77, 65, 78, 73, 70, 69, 83, 84], [83, 84, 65, 84, 73, 67]],
  [[82, 69, 77], [69, 81, 86], [78, 69, 81, 86], [78, 79, 84], [65, 78, 68], [66, 69], [86, 69, 67], [68, 79], [84, 72, 69, 78], [79, 82], [69, 76, 83, 69], [84, 79], [66, 89], [73, 78, 84, 79], [82, 69, 80, 69, 65, 84], [82, 69, 80, 69, 65, 84, 87, 72, 73, 76, 69], [82, 69, 80, 69, 65, 84, 85, 78, 84, 73, 76]],
  [[36, 40], [36, 41], [40], [41], [44], [59], [58, 61], [58], [33], [64], [43], [45], [42], [47], [61], [126, 61], [60], [60, 61], [62], [62, 61], [60, 60], [62, 62], [126], [38], [124], [45, 62]],
  [[36, 41], [41]],
  [[40], [33], [64], [36, 40]],
  [[69, 81, 86], [78, 69, 81, 86], [124], [38], [60, 60], [62, 62], [61], [126, 61], [60], [60, 61], [62], [62, 61], [43], [45], [42], [47], [82, 69, 77]],
  [[84, 82, 85, 69], [70, 65, 76, 83, 69], [82, 69, 77], [69, 81, 86], [78, 69, 81, 86], [78, 79, 84], [86, 65, 76, 79, 70], [84, 65, 66, 76, 69], [73, 70], [85, 78, 76, 69, 83, 83], [84, 69, 83, 84], [87, 72, 73, 76, 69], [85, 78, 84, 73, 76], [70, 79, 82], [83, 87, 73, 84, 67, 72, 79, 78], [67, 65, 83, 69], [68, 69, 70, 65, 85, 76, 84], [66, 82, 69, 65, 75], [76, 79, 79, 80], [69, 78, 68, 67, 65, 83, 69], [82, 69, 84, 85, 82, 78], [82, 69, 83, 85, 76, 84, 73, 83], [70, 73, 78, 73, 83, 72], [76, 69, 84], [65, 78, 68], [66, 69], [71, 76, 79, 66, 65, 76], [77, 65, 78, 73, 70, 69, 83, 84], [83, 84, 65, 84, 73, 67], [86, 69, 67], [68, 79], [84, 72, 69, 78], [79, 82], [69, 76, 83, 69], [84, 79], [66, 89], [73, 78, 84, 79], [82, 69, 80, 69, 65, 84], [82, 69, 80, 69, 65, 84, 87, 72, 73, 76, 69], [82, 69, 80, 69, 65, 84, 85, 78, 84, 73, 76]],
  [[84, 82, 85, 69], [70, 65, 76, 83, 69], [66, 82, 69, 65, 75], [76, 79, 79, 80], [69, 78, 68, 67, 65, 83, 69], [82, 69, 84, 85, 82, 78], [70, 73, 78, 73, 83, 72]],
  [[84, 82, 85, 69], [70, 65, 76, 83, 69], [86, 65, 76, 79, 70], [84, 65, 66, 76, 69], [73, 70], [85, 78, 76, 69, 83, 83], [84, 69, 83, 84], [87, 72, 73, 76, 69], [85, 78, 84, 73, 76], [70, 79, 82], [83, 87, 73, 84, 67, 72, 79, 78], [67, 65, 83, 69], [68, 69, 70, 65, 85, 76, 84], [66, 82, 69, 65, 75], [76, 79, 79, 80], [69, 78, 68, 67, 65, 83, 69], [82, 69, 84, 85, 82, 78], [82, 69, 83, 85, 76, 84, 73, 83], [70, 73, 78, 73, 83, 72], [76, 69, 84], [71, 76, 79, 66, 65, 76], [77, 65, 78, 73, 70, 69, 83, 84], [83, 84, 65, 84, 73, 67]],
  [[69, 81, 86], [78, 69, 81, 86]],
  [[82, 69, 77]]]
def wK (i : Nat) : List (List Int32) := WK.getD i []
def joinW (ws : List (List Int32)) : List Int32 := ws.flatMap (fun w => w ++ [32])
theorem txK_words : ∀ i, i < 7 → bytK.getD i [] = joinW (wK i) := by decide +kernel
theorem txK_words2 : ∀ i, 7 ≤ i → i < 12 → bytK.getD i [] = 32 :: joinW (wK i) := by
  intro i h1 h2
  have h : ∀ j, j < 5 → bytK.getD (7 + j) [] = 32 :: joinW (wK (7 + j)) := by decide +kernel
  have := h (i - 7) (by omega)
  rwa [show 7 + (i - 7) = i by omega] at this
theorem wK_no : ∀ i, i < 12 → ∀ w ∈ wK i, (32 : Int32) ∉ w ∧ w ≠ [] := by decide +kernel
def keyL (b : Nat → Int32) (size : Nat) : List Int32 := (List.range size).map b
def wixF : List (List Int32) → List Int32 → Nat → Int32
  | [], _, _ => -1
  | w :: ws, key, num => if w = key then nI num else wixF ws key (num + 1)
theorem nil_none (b : Nat → Int32) (size : Nat) : ∀ (w : List Int32) (rest : List Int32) (num : Nat), (32 : Int32) ∉ w → nilF b size (w ++ 32 :: rest) num none = nilF b size rest (num + 1) (some 0) := by
  intro w
  induction w with
  | nil => intro rest num _; exact nil_sp2 rfl (by simp)
  | cons c w ih =>
    intro rest num h
    rw [List.cons_append, nil_ch3 (fun e => h (by rw [e]; exact List.mem_cons_self))]
    exact ih rest num (fun q => h (List.mem_cons_of_mem _ q))
theorem nil_word (b : Nat → Int32) (size : Nat) : ∀ (w : List Int32) (rest : List Int32) (num k : Nat), (32 : Int32) ∉ w → ((k + w.length = size ∧ ∀ j x, w[j]? = some x → b (k + j) = x) → nilF b size (w ++ 32 :: rest) num (some k) = nI num) ∧ (¬ (k + w.length = size ∧ ∀ j x, w[j]? = some x → b (k + j) = x) → nilF b size (w ++ 32 :: rest) num (some k) = nilF b size rest (num + 1) (some 0)) := by
  intro w
  induction w with
  | nil =>
    intro rest num k _
    refine ⟨fun q => ?_, fun q => ?_⟩
    · have h : k = size := q.1
      subst h
      exact nil_sp1 rfl
    · exact nil_sp2 rfl (fun z => q ⟨Option.some.inj z, by intro j x h; simp at h⟩)
  | cons c w ih =>
    intro rest num k hn
    have hc : ¬ c = 32 := fun e => hn (by rw [e]; exact List.mem_cons_self)
    have hw : (32 : Int32) ∉ w := fun q => hn (List.mem_cons_of_mem _ q)
    rw [List.cons_append]
    by_cases h : k < size ∧ b k = c
    · rw [nil_ch1 hc h.1 h.2]
      have e : (k + 1 + w.length = size ∧ ∀ j x, w[j]? = some x → b (k + 1 + j) = x) ↔ (k + (c :: w).length = size ∧ ∀ j x, (c :: w)[j]? = some x → b (k + j) = x) := by
        constructor
        · rintro ⟨e1, e2⟩
          refine ⟨by simp only [List.length_cons]; omega, fun j x hj => ?_⟩
          cases j with
          | zero => simp at hj; rw [← hj]; exact h.2
          | succ j => rw [List.getElem?_cons_succ] at hj; rw [← e2 j x hj]; congr 1; omega
        · rintro ⟨e1, e2⟩
          refine ⟨by simp only [List.length_cons] at e1; omega, fun j x hj => ?_⟩
          have := e2 (j + 1) x (by rw [List.getElem?_cons_succ]; exact hj)
          rw [← this]; congr 1; omega
      have hi := ih rest num (k + 1) hw
      exact ⟨fun q => hi.1 (e.mpr q), fun q => hi.2 (fun z => q (e.mp z))⟩
    · rw [nil_ch2 hc h, nil_none b size w rest num hw]
      refine ⟨fun q => ?_, fun _ => rfl⟩
      obtain ⟨e1, e2⟩ := q
      exact absurd ⟨by simp only [List.length_cons] at e1; omega, e2 0 c rfl⟩ h
theorem key_iff (b : Nat → Int32) (size : Nat) (w : List Int32) : (0 + w.length = size ∧ ∀ j x, w[j]? = some x → b (0 + j) = x) ↔ w = keyL b size := by
  constructor
  · rintro ⟨e1, e2⟩
    apply List.ext_getElem?
    intro j
    unfold keyL
    rw [List.getElem?_map]
    by_cases h : j < w.length
    · have := e2 j _ (List.getElem?_eq_getElem h)
      rw [List.getElem?_eq_getElem h, List.getElem?_range (by omega), ← this]
      simp
    · rw [List.getElem?_eq_none (by omega), List.getElem?_eq_none (by simp; omega)]
      rfl
  · intro e
    subst e
    refine ⟨by simp [keyL], fun j x hj => ?_⟩
    unfold keyL at hj
    rw [List.getElem?_map] at hj
    by_cases h : j < size
    · rw [List.getElem?_range h] at hj
      simp at hj
      rw [Nat.zero_add]; exact hj
    · rw [List.getElem?_eq_none (by simp; omega)] at hj
      cases hj
theorem nil_words (b : Nat → Int32) (size : Nat) : ∀ (ws : List (List Int32)) (num : Nat), (∀ w ∈ ws, (32 : Int32) ∉ w) → nilF b size (joinW ws) num (some 0) = wixF ws (keyL b size) num := by
  intro ws
  induction ws with
  | nil => intro num _; rfl
  | cons w ws ih =>
    intro num h
    have e : joinW (w :: ws) = w ++ 32 :: joinW ws := by simp [joinW]
    have hw := nil_word b size w (joinW ws) num 0 (h w List.mem_cons_self)
    rw [e, wixF]
    by_cases q : w = keyL b size
    · rw [if_pos q]
      exact hw.1 ((key_iff b size w).mpr q)
    · rw [if_neg q, hw.2 (fun z => q ((key_iff b size w).mp z))]
      exact ih (num + 1) (fun w hw => h w (List.mem_cons_of_mem _ hw))
theorem nil_wK {b : Nat → Int32} {size i : Nat} (hi : i < 7) : nilF b size (bytK.getD i []) 0 (some 0) = wixF (wK i) (keyL b size) 0 := by
  rw [txK_words i hi]
  exact nil_words b size _ 0 (fun w hw => (wK_no i (by omega) w hw).1)
theorem wix_mem : ∀ (ws : List (List Int32)) (key : List Int32) (num : Nat), num + ws.length < 2 ^ 31 → (¬ wixF ws key num = -1 ↔ key ∈ ws) := by
  intro ws key
  induction ws with
  | nil => intro num _; simp [wixF]
  | cons w ws ih =>
    intro num hn
    simp only [List.length_cons] at hn
    rw [wixF]
    by_cases q : w = key
    · rw [if_pos q]
      subst q
      exact ⟨fun _ => List.mem_cons_self, fun _ e => m1_ne (by omega) e.symm⟩
    · rw [if_neg q, ih (num + 1) (by omega)]
      exact ⟨fun h => List.mem_cons_of_mem _ h, fun h => (List.mem_cons.mp h).elim (fun e => absurd e.symm q) id⟩
theorem wixK_mem {i : Nat} (hi : i < 7) (key : List Int32) : ¬ wixF (wK i) key 0 = -1 ↔ key ∈ wK i := wix_mem _ _ _ (by
  have : ∀ i, i < 7 → 0 + (wK i).length < 2 ^ 31 := by decide +kernel
  exact this i hi)
/-! the gap -/
def skp (T : Nat → Int32) (n : Nat) : Nat → Bool → Nat → Nat → Nat × Nat
  | 0, _, p, L => (p, L)
  | m + 1, r, p, L => if T p = 10 then skp T n m false (p + 1) (L + 1) else if T p = 47 ∧ seeT T n (p + 1) = 47 then skp T n m true (p + 1) L else if r = false ∧ ¬ T p = 9 ∧ ¬ T p = 13 ∧ ¬ T p = 32 then (p, L) else skp T n m r (p + 1) L
theorem skp_le (T : Nat → Int32) (n : Nat) : ∀ (m : Nat) (r : Bool) (p L : Nat), p ≤ (skp T n m r p L).1 ∧ (skp T n m r p L).1 ≤ p + m ∧ L ≤ (skp T n m r p L).2 ∧ (skp T n m r p L).2 - L ≤ (skp T n m r p L).1 - p := by
  intro m
  induction m with
  | zero => intro r p L; simp [skp]
  | succ m ih =>
    intro r p L
    rw [skp]
    split
    · have := ih false (p + 1) (L + 1); omega
    · split
      · have := ih true (p + 1) L; omega
      · split
        · simp
        · have := ih r (p + 1) L; omega
/-! what stands at a place -/
def nEnd (T : Nat → Int32) : Nat → Nat → Nat
  | 0, k => k
  | m + 1, k => if iNam (T k) then nEnd T m (k + 1) else k
def sliceT (T : Nat → Int32) (p k : Nat) : List Int32 := (List.range k).map (fun j => T (p + j))
def dgN (c : Int32) : Nat := (dgM c).toNatClampNeg
/-- digits: where they end, their number, never above 2^32 -/
def dSc (T : Nat → Int32) (base : Nat) : Nat → Nat → Nat → Nat × Nat
  | 0, k, a => (k, a)
  | m + 1, k, a => if dgN (T k) < base then dSc T base m (k + 1) (min (a * base + dgN (T k)) 4294967296) else (k, a)
def meanT (T : Nat → Int32) (n k : Nat) (mark : Int32) : Int32 := if seeT T n k = 42 then starB (seeT T n (k + 1)) else if ¬ seeT T n k < 32 ∧ ¬ 126 < seeT T n k ∧ ¬ seeT T n k = mark then seeT T n k else -1
def nextT (T : Nat → Int32) (n k : Nat) : Nat := if seeT T n k = 42 then k + 2 else k + 1
/-- a string's bytes from k on, and where they end -/
def sSc (T : Nat → Int32) (n : Nat) : Nat → Nat → List Int32 × Nat
  | 0, k => ([], k)
  | m + 1, k => if seeT T n k = 34 then ([], k) else if meanT T n k 34 = -1 then ([], k) else ((meanT T n k 34) :: (sSc T n m (nextT T n k)).1, (sSc T n m (nextT T n k)).2)
abbrev kz_S : Type := Int32 × Int32 × Nat × List Int32
def badS : kz_S := (6, 0, 0, [])
def scN (T : Nat → Int32) (n p : Nat) : kz_S := if 40 < nEnd T (n - p) p - p then badS else (if sliceT T p (nEnd T (n - p) p - p) ∈ wK 7 then 4 else 0, 0, nEnd T (n - p) p, sliceT T p (nEnd T (n - p) p - p))
def scD (T : Nat → Int32) (n k base : Nat) : kz_S := if (dSc T base (n - k) k 0).1 = k ∨ 4294967296 ≤ (dSc T base (n - k) k 0).2 then badS else (1, (lN (dSc T base (n - k) k 0).2).toInt32, (dSc T base (n - k) k 0).1, [])
def scC (T : Nat → Int32) (n p : Nat) : kz_S := if ¬ meanT T n (p + 1) 39 = -1 ∧ seeT T n (nextT T n (p + 1)) = 39 then (1, meanT T n (p + 1) 39, nextT T n (p + 1) + 1, []) else badS
def scS (T : Nat → Int32) (n p : Nat) : kz_S := if seeT T n (sSc T n (n - p) (p + 1)).2 = 34 ∧ (sSc T n (n - p) (p + 1)).1.length ≤ 200 then (2, 0, (sSc T n (n - p) (p + 1)).2 + 1, (sSc T n (n - p) (p + 1)).1) else badS
def scG (T : Nat → Int32) (n p : Nat) : kz_S := if [T p, seeT T n (p + 1)] ∈ wK 3 then (3, 0, p + 2, [T p, seeT T n (p + 1)]) else if [T p] ∈ wK 3 then (3, 0, p + 1, [T p]) else badS
def scT (T : Nat → Int32) (n p : Nat) : kz_S := if iLet (T p) then scN T n p else if iDig (T p) then scD T n p 10 else if T p = 35 then (if seeT T n (p + 1) = 88 then scD T n (p + 2) 16 else scD T n (p + 1) 8) else if T p = 39 then scC T n p else if T p = 34 then scS T n p else scG T n p
/-! tokens: kind, place, line, value, text -/
abbrev kz_T : Type := Int32 × Nat × Nat × Int32 × List Int32
abbrev endT (k : Int32) (tx : List Int32) : Prop := iOpd k ∨ (k = 3 ∧ (tx = [36, 41] ∨ tx = [41])) ∨ (k = 4 ∧ tx ∈ wK 8)
abbrev begT (k : Int32) (tx : List Int32) : Prop := iOpd k ∨ (k = 3 ∧ (tx = [40] ∨ tx = [33] ∨ tx = [64] ∨ tx = [36, 40])) ∨ (k = 4 ∧ tx ∈ wK 9)
/-- a ; is understood ahead of a token of kind k and text tx in line L -/
def semT (ts : List kz_T) (L : Nat) (k : Int32) (tx : List Int32) : Bool := match ts.getLast? with
  | none => false
  | some t => decide (t.2.2.1 < L ∧ endT t.1 t.2.2.2.2 ∧ begT k tx)
def addT (ts : List kz_T) (p L : Nat) (q : kz_S) : List kz_T := ts ++ (if semT ts L q.1 q.2.2.2 = true then [(3, p, L, 0, [59])] else []) ++ [(q.1, p, L, q.2.1, q.2.2.2)]
def tokF (T : Nat → Int32) (n : Nat) : Nat → Nat → Nat → List kz_T → List kz_T
  | 0, _, _, ts => ts
  | m + 1, p, L, ts => if (skp T n (n - p) false p L).1 < n then (if (scT T n (skp T n (n - p) false p L).1).1 = 6 then ts ++ [(6, (skp T n (n - p) false p L).1, (skp T n (n - p) false p L).2, 0, [])] else tokF T n m (scT T n (skp T n (n - p) false p L).1).2.2.1 (skp T n (n - p) false p L).2 (addT ts (skp T n (n - p) false p L).1 (skp T n (n - p) false p L).2 (scT T n (skp T n (n - p) false p L).1))) else ts ++ [(5, (skp T n (n - p) false p L).1, (skp T n (n - p) false p L).2, 0, [])]
end
section
/-! ===== the class: its small methods ===== -/
/-- the tape: n bytes, T -/
def tpX (T : Nat → Int32) (n : Nat) (I : Nat → Int32) (F : Nat → Nat → Int32) : Prop := I 1 = nI n ∧ n ≤ 1000 ∧ (∀ j, j < n → F 0 j = T j) ∧ ∀ j, j < n → ¬ T j < 0
theorem tpX.of {T : Nat → Int32} {n : Nat} {I I' : Nat → Int32} {F F' : Nat → Nat → Int32} (h : tpX T n I F) (e1 : I' 1 = I 1) (e2 : F' 0 = F 0) : tpX T n I' F' := ⟨e1.trans h.1, h.2.1, fun j hj => by rw [e2]; exact h.2.2.1 j hj, h.2.2.2⟩
theorem see_in {T : Nat → Int32} {n p : Nat} (h : p < n) : seeT T n p = T p := if_pos h
theorem see_out {T : Nat → Int32} {n p : Nat} (h : n ≤ p) : seeT T n p = -1 := if_neg (Nat.not_lt.mpr h)
set_option maxHeartbeats 4000000 in
set_option maxRecDepth 100000 in
theorem tX_tapeByte (l : Launch) (I : Nat → Int32) (F : Nat → Nat → Int32) (T : Nat → Int32) (n : Nat) (hT : tpX T n I F) (p : Nat) (hp : p < 2 ^ 30) : MX l yX_tapeByte cX_tapeByte 2 (some .int) ({ frames := 1, cells := 0, slots := 0, locals := 21 }) [.int (nI p)] I F (iR (fun r I' F' => r = seeT T n p ∧ I' = I ∧ F' = F)) := by
  refine MX.mk (by decide) (fun _ => Nat.le_of_ble_eq_true rfl) ?_
  intro z D cA h a pg en s m below meth c ls S hr hlk hA hw hl
  have hx := S.1
  have hb := S.2.1
  have hl : lv_has ls 2 [(0, .ref h), (1, .int (nI p))] := hl
  refine lv_iload_n hx hb dX_tapeByte_0 rfl (lv_at hl 1 rfl) ?_
  refine lv_aload_n hx hb dX_tapeByte_1 rfl (lv_at hl 0 rfl) ?_
  refine gX1 S hw dX_tapeByte_2 ?_
  refine kz_top (y := nI n) hT.1 ?_
  refine lv_icmp_ge (tgt := 19) hx hb dX_tapeByte_5 (by decide) (fun c5 => ?_) (fun c5 => ?_)
  · skip
    refine lv_iconst (v := (-1)) hx hb dX_tapeByte_19 (by decide) ?_
    exact MX.iret S hr hlk hw dX_tapeByte_20 rfl ⟨_, rfl, by rw [see_out ((nI_leI (by have := hT.2.1; omega) (by omega)).mp c5)], rfl, rfl⟩
  · skip
    refine lv_aload_n hx hb dX_tapeByte_8 rfl (lv_at hl 0 rfl) ?_
    refine gX0 S hw dX_tapeByte_9 ?_
    refine lv_iload_n hx hb dX_tapeByte_12 rfl (lv_at hl 1 rfl) ?_
    refine kcXS (rest := []) S kX_77 (tX_elementAt l z (a 0) 1000 (F 0) (by decide) (nI p)) hw hA (arX0 hw) ⟨Nat.le_of_ble_eq_true rfl, Nat.le_of_ble_eq_true rfl⟩ rfl rfl ⟨Nat.zero_le _, Nat.zero_le _⟩ rfl hl.1 (Nat.le_of_ble_eq_true rfl) dX_tapeByte_13 (fun r H locs hq hw => ?_)
    subst hq
    refine lv_goto (tgt := 20) hx hb dX_tapeByte_16 (by decide) ?_
    exact MX.iret S hr hlk hw dX_tapeByte_20 rfl ⟨_, rfl, by have hlt : p < n := Nat.lt_of_not_le (fun q => c5 (nI_le q (by omega))); have := hT.2.1; rw [see_in hlt, elA_in (by omega) (by decide)]; exact hT.2.2.1 p hlt, rfl, rfl⟩
set_option maxHeartbeats 4000000 in
set_option maxRecDepth 100000 in
theorem tX_appendText (l : Launch) (I : Nat → Int32) (F : Nat → Nat → Int32) (e : Nat) (h10 : I 10 = nI e) (he : e < 1000) (x : Int32) : MX l yX_appendText cX_appendText 2 none ({ frames := 0, cells := 0, slots := 0, locals := 0 }) [.int x] I F (vR (fun I' F' => I' = upd I 10 (nI (e + 1)) ∧ F' = va_up F 9 (upd (F 9) e x))) := by
  refine MX.mk (by decide) (fun _ => Nat.le_of_ble_eq_true rfl) ?_
  intro z D cA h a pg en s m below meth c ls S hr hlk hA hw hl
  have hx := S.1
  have hb := S.2.1
  have hl : lv_has ls 2 [(0, .ref h), (1, .int x)] := hl
  refine lv_aload_n hx hb dX_appendText_0 rfl (lv_at hl 0 rfl) ?_
  refine gX10 S hw dX_appendText_1 ?_
  refine kz_top (y := nI e) h10 ?_
  refine lv_if_lt (tgt := 39) hx hb dX_appendText_4 (by decide) (fun c4 => absurd c4 (nI_pos (by omega))) (fun c4 => ?_)
  refine lv_aload_n hx hb dX_appendText_7 rfl (lv_at hl 0 rfl) ?_
  refine gX10 S hw dX_appendText_8 ?_
  refine kz_top (y := nI e) h10 ?_
  refine lv_aload_n hx hb dX_appendText_11 rfl (lv_at hl 0 rfl) ?_
  refine gX9 S hw dX_appendText_12 ?_
  refine lnX9 S hw dX_appendText_15 ?_
  refine lv_icmp_ge (tgt := 39) hx hb dX_appendText_16 (by decide) (fun c16 => absurd c16 (nI_ge he (by omega))) (fun c16 => ?_)
  refine lv_aload_n hx hb dX_appendText_19 rfl (lv_at hl 0 rfl) ?_
  refine gX9 S hw dX_appendText_20 ?_
  refine lv_aload_n hx hb dX_appendText_23 rfl (lv_at hl 0 rfl) ?_
  refine gX10 S hw dX_appendText_24 ?_
  refine kz_top (y := nI e) h10 ?_
  refine lv_iload_n hx hb dX_appendText_27 rfl (lv_at hl 1 rfl) ?_
  refine stX9 S hw (vp_in_nI he (by decide)) dX_appendText_28 (fun H locs hw => ?_)
  refine lv_aload_n hx hb dX_appendText_29 rfl (lv_at hl 0 rfl) ?_
  refine lv_dup hx hb dX_appendText_30 rfl ?_
  refine gX10 S hw dX_appendText_31 ?_
  refine kz_top (y := nI e) h10 ?_
  refine lv_iconst (v := 1) hx hb dX_appendText_34 (by decide) ?_
  refine lv_iadd hx hb dX_appendText_35 ?_
  refine kz_top (y := nI (e + 1)) (nI_add e 1) ?_
  refine pX10 S hw dX_appendText_36 (fun H locs hw => ?_)
  exact MX.vret S hr hlk hw dX_appendText_39 ⟨rfl, rfl, by rw [nI_clamp (by omega)]⟩
end
section
theorem skp_nl {T : Nat → Int32} {n p L : Nat} {r : Bool} (h : p < n) (h1 : T p = 10) : skp T n (n - p) r p L = skp T n (n - (p + 1)) false (p + 1) (L + 1) := by
  rw [show n - p = (n - (p + 1)) + 1 by omega, skp, if_pos h1]
theorem skp_rm {T : Nat → Int32} {n p L : Nat} {r : Bool} (h : p < n) (h1 : ¬ T p = 10) (h2 : T p = 47) (h3 : seeT T n (p + 1) = 47) : skp T n (n - p) r p L = skp T n (n - (p + 1)) true (p + 1) L := by
  rw [show n - p = (n - (p + 1)) + 1 by omega, skp, if_neg h1, if_pos ⟨h2, h3⟩]
theorem skp_go {T : Nat → Int32} {n p L : Nat} {r : Bool} (h : p < n) (h1 : ¬ T p = 10) (h2 : ¬ (T p = 47 ∧ seeT T n (p + 1) = 47)) (h3 : r = true ∨ T p = 9 ∨ T p = 13 ∨ T p = 32) : skp T n (n - p) r p L = skp T n (n - (p + 1)) r (p + 1) L := by
  rw [show n - p = (n - (p + 1)) + 1 by omega, skp, if_neg h1, if_neg h2, if_neg]
  rintro ⟨e1, e2, e3, e4⟩
  rcases h3 with h | h | h | h
  · rw [e1] at h; cases h
  · exact e2 h
  · exact e3 h
  · exact e4 h
theorem skp_st {T : Nat → Int32} {n p L : Nat} (h : p < n) (h1 : ¬ T p = 10) (h2 : ¬ (T p = 47 ∧ seeT T n (p + 1) = 47)) (h3 : ¬ T p = 9) (h4 : ¬ T p = 13) (h5 : ¬ T p = 32) : skp T n (n - p) false p L = (p, L) := by
  rw [show n - p = (n - (p + 1)) + 1 by omega, skp, if_neg h1, if_neg h2, if_pos ⟨rfl, h3, h4, h5⟩]
theorem skp_end {T : Nat → Int32} {n p L : Nat} {r : Bool} (h : n ≤ p) : skp T n (n - p) r p L = (p, L) := by
  rw [show n - p = 0 by omega, skp]
set_option maxHeartbeats 4000000 in
set_option maxRecDepth 100000 in
theorem tX_takeText (l : Launch) (I : Nat → Int32) (F : Nat → Nat → Int32) (T : Nat → Int32) (n : Nat) (hT : tpX T n I F) (p e size : Nat) (h11 : I 11 = nI p) (h10 : I 10 = nI e) (hp : p + size ≤ n) (he : e + size ≤ 1000) : MX l yX_takeText cX_takeText 3 none ({ frames := 2, cells := 0, slots := 0, locals := 42 }) [.int (nI size)] I F (vR (fun I' F' => I' 10 = nI (e + size) ∧ I' 11 = nI (p + size) ∧ (∀ k, k ≠ 10 → k ≠ 11 → I' k = I k) ∧ (∀ k, k ≠ 9 → F' k = F k) ∧ (∀ j, j < size → F' 9 (e + j) = T (p + j)) ∧ ∀ j, j < e → F' 9 j = F 9 j)) := by
  refine MX.mk (by decide) (fun _ => Nat.le_of_ble_eq_true rfl) ?_
  intro z D cA h a pg en s m below meth c ls S hr hlk hA hw hl
  have hx := S.1
  have hb := S.2.1
  have hl : lv_has ls 3 [(0, .ref h), (1, .int (nI size))] := hl
  have hn := hT.2.1
  have loop2 : ∀ (fu : Nat) (j : Nat) (I1 : Nat → Int32) (F1 : Nat → Nat → Int32) (H : Heap) (locs : List Loc) (ls : Array Slot), j ≤ size → size + 1 ≤ j + fu → I1 10 = nI (e + j) → I1 11 = nI (p + j) → (∀ k, k ≠ 10 → k ≠ 11 → I1 k = I k) → (∀ k, k ≠ 9 → F1 k = F k) → (∀ i, i < j → F1 9 (e + i) = T (p + i)) → (∀ i, i < e → F1 9 i = F 9 i) → sX z D cA h a (AX h a s.heap.size) s H locs I1 F1 → lv_has ls 3 [(0, .ref h), (1, .int (nI size)), (2, .int (nI j))] → W pg l en ({ frames := 2, cells := 0, slots := 0, locals := 42 }) s m ([.ref h, .int (nI size)] : List Value).toArray below meth c H locs 0 0 (MQ below (QX z D cA h a s.heap.size (vR (fun I' F' => I' 10 = nI (e + size) ∧ I' 11 = nI (p + size) ∧ (∀ k, k ≠ 10 → k ≠ 11 → I' k = I k) ∧ (∀ k, k ≠ 9 → F' k = F k) ∧ (∀ j, j < size → F' 9 (e + j) = T (p + j)) ∧ ∀ j, j < e → F' 9 j = F 9 j))) ([.ref h, .int (nI size)] : List Value).toArray s 0 0 (AX h a s.heap.size)) (F0 m 2 ls []) := by
    intro fu
    induction fu with
    | zero => intro j  I1  F1  H locs ls hj hf g10 g11 gI gF gA gB hw hl; omega
    | succ fu ih =>
      intro j  I1  F1  H locs ls hj hf g10 g11 gI gF gA gB hw hl
      have hT1 : tpX T n I1 F1 := hT.of (gI 1 (by decide) (by decide)) (gF 0 (by decide))
      refine lv_iload_n hx hb dX_takeText_2 rfl (lv_at hl 2 rfl) ?_
      refine lv_iload_n hx hb dX_takeText_3 rfl (lv_at hl 1 rfl) ?_
      refine lv_icmp_ge (tgt := 35) hx hb dX_takeText_4 (by decide) (fun c4 => ?_) (fun c4 => ?_)
      · skip
        exact MX.vret S hr hlk hw dX_takeText_35 (by
          have e1 : j = size := Nat.le_antisymm hj ((nI_leI (by omega) (by omega)).mp c4)
          subst e1
          exact ⟨rfl, g10, g11, gI, gF, gA, gB⟩)
      · skip
        refine lv_aload_n hx hb dX_takeText_7 rfl (lv_at hl 0 rfl) ?_
        refine lv_aload_n hx hb dX_takeText_8 rfl (lv_at hl 0 rfl) ?_
        refine lv_aload_n hx hb dX_takeText_9 rfl (lv_at hl 0 rfl) ?_
        refine gX11 S hw dX_takeText_10 ?_
        refine kz_top (y := nI (p + j)) g11 ?_
        refine kcXi (rest := [.ref h]) S kX_81 rfl (tX_tapeByte l _ _ T n hT1 (p + j) (by omega)) hw hA ⟨Nat.le_of_ble_eq_true rfl, Nat.le_of_ble_eq_true rfl⟩ rfl rfl ⟨Nat.zero_le _, Nat.zero_le _⟩ rfl hl.1 (Nat.le_of_ble_eq_true rfl) dX_takeText_13 (fun r I' F' H locs hq hw => ?_)
        obtain ⟨hr1, hr2, hr3⟩ := hq
        rw [hr2, hr3] at hw
        subst hr1
        have hlt : j < size := Nat.lt_of_not_le (fun q => c4 (nI_le q (by omega)))
        refine kcXv (rest := []) S kX_153 rfl (tX_appendText l _ _ (e + j) g10 (by omega) (seeT T n (p + j))) hw hA ⟨Nat.le_of_ble_eq_true rfl, Nat.le_of_ble_eq_true rfl⟩ rfl rfl ⟨Nat.zero_le _, Nat.zero_le _⟩ rfl hl.1 (Nat.le_of_ble_eq_true rfl) dX_takeText_16 (fun I' F' H locs hq hw => ?_)
        obtain ⟨rfl, rfl⟩ := hq
        refine lv_aload_n hx hb dX_takeText_19 rfl (lv_at hl 0 rfl) ?_
        refine lv_dup hx hb dX_takeText_20 rfl ?_
        refine gX11 S hw dX_takeText_21 ?_
        refine kz_top (y := nI (p + j)) g11 ?_
        refine lv_iconst (v := 1) hx hb dX_takeText_24 (by decide) ?_
        refine lv_iadd hx hb dX_takeText_25 ?_
        refine kz_top (y := nI (p + j + 1)) (nI_add (p + j) 1) ?_
        refine pX11 S hw dX_takeText_26 (fun H locs hw => ?_)
        refine lv_iinc (v := nI (j + 1)) (lv' := [(2, .int (nI (j + 1))), (0, .ref h), (1, .int (nI size))]) hx hb dX_takeText_29 hl (k := 2) rfl (nI_1 j) (by decide) rfl (fun ls hl => ?_)
        refine lv_goto (tgt := 2) hx hb dX_takeText_32 (by decide) ?_
        exact ih (j + 1) _ _ H locs ls (by omega) (by omega) rfl rfl (fun k h1 h2 => (pk_un h2).trans ((pk_un h1).trans (gI k h1 h2))) (fun k h1 => (va_up_ne _ _ h1).trans (gF k h1)) (fun i hi => by
          show upd (F1 9) (e + j) _ (e + i) = _
          by_cases q : i = j
          · subst q
            rw [pk_us]
            exact see_in (by omega)
          · rw [pk_un (by omega)]
            exact gA i (by omega)) (fun i hi => by
          show upd (F1 9) (e + j) _ i = _
          rw [pk_un (by omega)]
          exact gB i hi) hw (lv_sub hl [1, 2, 0] rfl)
  refine lv_iconst (v := 0) hx hb dX_takeText_0 (by decide) ?_
  refine lv_istore_n (lv' := [(2, .int 0), (0, .ref h), (1, .int (nI size))]) hx hb dX_takeText_1 rfl hl (by decide) rfl (fun ls hl => ?_)
  exact loop2 (size + 1) 0 I F s.heap [] ls (Nat.zero_le _) (by omega) h10 h11 (fun _ _ _ => rfl) (fun _ _ => rfl) (fun _ hi => absurd hi (Nat.not_lt_zero _)) (fun _ _ => rfl) hw (lv_sub hl [1, 2, 0] rfl)
set_option maxHeartbeats 4000000 in
set_option maxRecDepth 100000 in
theorem tX_skipGap (l : Launch) (I : Nat → Int32) (F : Nat → Nat → Int32) (T : Nat → Int32) (n : Nat) (hT : tpX T n I F) (p L : Nat) (h11 : I 11 = nI p) (h12 : I 12 = nI L) (hp : p ≤ n) : MX l yX_skipGap cX_skipGap 3 none ({ frames := 2, cells := 0, slots := 0, locals := 42 }) [] I F (vR (fun I' F' => I' 11 = nI (skp T n (n - p) false p L).1 ∧ I' 12 = nI (skp T n (n - p) false p L).2 ∧ (∀ k, k ≠ 11 → k ≠ 12 → I' k = I k) ∧ F' = F)) := by
  refine MX.mk (by decide) (fun _ => Nat.le_of_ble_eq_true rfl) ?_
  intro z D cA h a pg en s m below meth c ls S hr hlk hA hw hl
  have hx := S.1
  have hb := S.2.1
  have hl : lv_has ls 3 [(0, .ref h)] := hl
  have hn := hT.2.1
  have loop2 : ∀ (fu : Nat) (q M : Nat) (rm : Bool) (I1 : Nat → Int32) (H : Heap) (locs : List Loc) (ls : Array Slot), q ≤ n → n + 1 ≤ q + fu → I1 11 = nI q → I1 12 = nI M → (∀ k, k ≠ 11 → k ≠ 12 → I1 k = I k) → skp T n (n - q) rm q M = skp T n (n - p) false p L → sX z D cA h a (AX h a s.heap.size) s H locs I1 F → lv_has ls 3 [(0, .ref h), (1, .int (if rm = true then 1 else 0))] → W pg l en ({ frames := 2, cells := 0, slots := 0, locals := 42 }) s m ([.ref h] : List Value).toArray below meth c H locs 0 0 (MQ below (QX z D cA h a s.heap.size (vR (fun I' F' => I' 11 = nI (skp T n (n - p) false p L).1 ∧ I' 12 = nI (skp T n (n - p) false p L).2 ∧ (∀ k, k ≠ 11 → k ≠ 12 → I' k = I k) ∧ F' = F))) ([.ref h] : List Value).toArray s 0 0 (AX h a s.heap.size)) (F0 m 2 ls []) := by
    intro fu
    induction fu with
    | zero => intro q M  rm  I1  H locs ls hq0 hf g11 g12 gI hR hw hl; omega
    | succ fu ih =>
      intro q M  rm  I1  H locs ls hq0 hf g11 g12 gI hR hw hl
      cases rm with
      | false =>
        have hT1 : tpX T n I1 F := hT.of (gI 1 (by decide) (by decide)) rfl
        have hl : lv_has ls 3 [(0, .ref h), (1, .int 0)] := hl
        refine lv_aload_n hx hb dX_skipGap_2 rfl (lv_at hl 0 rfl) ?_
        refine gX11 S hw dX_skipGap_3 ?_
        refine kz_top (y := nI q) g11 ?_
        refine lv_aload_n hx hb dX_skipGap_6 rfl (lv_at hl 0 rfl) ?_
        refine gX1 S hw dX_skipGap_7 ?_
        refine kz_top (y := nI n) hT1.1 ?_
        refine lv_icmp_ge (tgt := 105) hx hb dX_skipGap_10 (by decide) (fun c10 => ?_) (fun c10 => ?_)
        · skip
          exact MX.vret S hr hlk hw dX_skipGap_105 ⟨rfl, by rw [← hR, skp_end ((nI_leI (by omega) (by omega)).mp c10)]; exact g11, by rw [← hR, skp_end ((nI_leI (by omega) (by omega)).mp c10)]; exact g12, gI, rfl⟩
        · skip
          refine lv_aload_n hx hb dX_skipGap_13 rfl (lv_at hl 0 rfl) ?_
          refine lv_aload_n hx hb dX_skipGap_14 rfl (lv_at hl 0 rfl) ?_
          refine gX11 S hw dX_skipGap_15 ?_
          refine kz_top (y := nI q) g11 ?_
          have hlt : q < n := Nat.lt_of_not_le (fun x => c10 (nI_le x (by omega)))
          refine kcXi (rest := []) S kX_81 rfl (tX_tapeByte l _ _ T n hT1 q (by omega)) hw hA ⟨Nat.le_of_ble_eq_true rfl, Nat.le_of_ble_eq_true rfl⟩ rfl rfl ⟨Nat.zero_le _, Nat.zero_le _⟩ rfl hl.1 (Nat.le_of_ble_eq_true rfl) dX_skipGap_18 (fun r I' F' H locs hq hw => ?_)
          obtain ⟨hr1, hr2, hr3⟩ := hq
          rw [hr2, hr3] at hw
          subst hr1
          refine kz_top (see_in hlt) ?_
          refine lv_istore_n (lv' := [(2, .int (T q)), (0, .ref h), (1, .int 0)]) hx hb dX_skipGap_21 rfl hl (by decide) rfl (fun ls hl => ?_)
          refine lv_iload_n hx hb dX_skipGap_22 rfl (lv_at hl 0 rfl) ?_
          refine lv_bipush (v := 10) hx hb dX_skipGap_23 (by decide) ?_
          refine lv_icmp_ne (tgt := 43) hx hb dX_skipGap_25 (by decide) (fun c25 => ?_) (fun c25 => ?_)
          · skip
            refine lv_iload_n hx hb dX_skipGap_43 rfl (lv_at hl 0 rfl) ?_
            refine lv_bipush (v := 47) hx hb dX_skipGap_44 (by decide) ?_
            refine lv_icmp_ne (tgt := 69) hx hb dX_skipGap_46 (by decide) (fun c46 => ?_) (fun c46 => ?_)
            · skip
              refine lv_iload_n hx hb dX_skipGap_69 rfl (lv_at hl 2 rfl) ?_
              refine lv_if_ne (tgt := 92) hx hb dX_skipGap_70 (by decide) (fun c70 => absurd c70 (by decide)) (fun c70 => ?_)
              refine lv_iload_n hx hb dX_skipGap_73 rfl (lv_at hl 0 rfl) ?_
              refine lv_bipush (v := 9) hx hb dX_skipGap_74 (by decide) ?_
              refine lv_icmp_eq (tgt := 92) hx hb dX_skipGap_76 (by decide) (fun c76 => ?_) (fun c76 => ?_)
              · skip
                refine lv_aload_n hx hb dX_skipGap_92 rfl (lv_at hl 1 rfl) ?_
                refine lv_dup hx hb dX_skipGap_93 rfl ?_
                refine gX11 S hw dX_skipGap_94 ?_
                refine kz_top (y := nI q) g11 ?_
                refine lv_iconst (v := 1) hx hb dX_skipGap_97 (by decide) ?_
                refine lv_iadd hx hb dX_skipGap_98 ?_
                refine kz_top (y := nI (q + 1)) (nI_add q 1) ?_
                refine pX11 S hw dX_skipGap_99 (fun H locs hw => ?_)
                refine lv_goto (tgt := 2) hx hb dX_skipGap_102 (by decide) ?_
                rw [skp_go hlt c25 (fun q => c46 q.1) (Or.inr (Or.inl c76))] at hR
                exact ih (q + 1) (M) false (upd I1 11 (nI (q + 1))) H locs ls (by omega) (by omega) rfl g12 (fun k h1 h2 => (pk_un h1).trans (gI k h1 h2)) hR hw (lv_sub hl [1, 2] rfl)
              · skip
                refine lv_iload_n hx hb dX_skipGap_79 rfl (lv_at hl 0 rfl) ?_
                refine lv_bipush (v := 13) hx hb dX_skipGap_80 (by decide) ?_
                refine lv_icmp_eq (tgt := 92) hx hb dX_skipGap_82 (by decide) (fun c82 => ?_) (fun c82 => ?_)
                · skip
                  refine lv_aload_n hx hb dX_skipGap_92 rfl (lv_at hl 1 rfl) ?_
                  refine lv_dup hx hb dX_skipGap_93 rfl ?_
                  refine gX11 S hw dX_skipGap_94 ?_
                  refine kz_top (y := nI q) g11 ?_
                  refine lv_iconst (v := 1) hx hb dX_skipGap_97 (by decide) ?_
                  refine lv_iadd hx hb dX_skipGap_98 ?_
                  refine kz_top (y := nI (q + 1)) (nI_add q 1) ?_
                  refine pX11 S hw dX_skipGap_99 (fun H locs hw => ?_)
                  refine lv_goto (tgt := 2) hx hb dX_skipGap_102 (by decide) ?_
                  rw [skp_go hlt c25 (fun q => c46 q.1) (Or.inr (Or.inr (Or.inl c82)))] at hR
                  exact ih (q + 1) (M) false (upd I1 11 (nI (q + 1))) H locs ls (by omega) (by omega) rfl g12 (fun k h1 h2 => (pk_un h1).trans (gI k h1 h2)) hR hw (lv_sub hl [1, 2] rfl)
                · skip
                  refine lv_iload_n hx hb dX_skipGap_85 rfl (lv_at hl 0 rfl) ?_
                  refine lv_bipush (v := 32) hx hb dX_skipGap_86 (by decide) ?_
                  refine lv_icmp_eq (tgt := 92) hx hb dX_skipGap_88 (by decide) (fun c88 => ?_) (fun c88 => ?_)
                  · skip
                    refine lv_aload_n hx hb dX_skipGap_92 rfl (lv_at hl 1 rfl) ?_
                    refine lv_dup hx hb dX_skipGap_93 rfl ?_
                    refine gX11 S hw dX_skipGap_94 ?_
                    refine kz_top (y := nI q) g11 ?_
                    refine lv_iconst (v := 1) hx hb dX_skipGap_97 (by decide) ?_
                    refine lv_iadd hx hb dX_skipGap_98 ?_
                    refine kz_top (y := nI (q + 1)) (nI_add q 1) ?_
                    refine pX11 S hw dX_skipGap_99 (fun H locs hw => ?_)
                    refine lv_goto (tgt := 2) hx hb dX_skipGap_102 (by decide) ?_
                    rw [skp_go hlt c25 (fun q => c46 q.1) (Or.inr (Or.inr (Or.inr c88)))] at hR
                    exact ih (q + 1) (M) false (upd I1 11 (nI (q + 1))) H locs ls (by omega) (by omega) rfl g12 (fun k h1 h2 => (pk_un h1).trans (gI k h1 h2)) hR hw (lv_sub hl [1, 2] rfl)
                  · skip
                    exact MX.vret S hr hlk hw dX_skipGap_91 ⟨rfl, by rw [← hR, skp_st hlt c25 (fun q => c46 q.1) c76 c82 c88]; exact g11, by rw [← hR, skp_st hlt c25 (fun q => c46 q.1) c76 c82 c88]; exact g12, gI, rfl⟩
            · skip
              refine lv_aload_n hx hb dX_skipGap_49 rfl (lv_at hl 1 rfl) ?_
              refine lv_aload_n hx hb dX_skipGap_50 rfl (lv_at hl 1 rfl) ?_
              refine gX11 S hw dX_skipGap_51 ?_
              refine kz_top (y := nI q) g11 ?_
              refine lv_iconst (v := 1) hx hb dX_skipGap_54 (by decide) ?_
              refine lv_iadd hx hb dX_skipGap_55 ?_
              refine kz_top (y := nI (q + 1)) (nI_add q 1) ?_
              refine kcXi (rest := []) S kX_81 rfl (tX_tapeByte l _ _ T n hT1 (q + 1) (by omega)) hw hA ⟨Nat.le_of_ble_eq_true rfl, Nat.le_of_ble_eq_true rfl⟩ rfl rfl ⟨Nat.zero_le _, Nat.zero_le _⟩ rfl hl.1 (Nat.le_of_ble_eq_true rfl) dX_skipGap_56 (fun r I' F' H locs hq hw => ?_)
              obtain ⟨hr1, hr2, hr3⟩ := hq
              rw [hr2, hr3] at hw
              subst hr1
              refine lv_bipush (v := 47) hx hb dX_skipGap_59 (by decide) ?_
              refine lv_icmp_ne (tgt := 69) hx hb dX_skipGap_61 (by decide) (fun c61 => ?_) (fun c61 => ?_)
              · skip
                refine lv_iload_n hx hb dX_skipGap_69 rfl (lv_at hl 2 rfl) ?_
                refine lv_if_ne (tgt := 92) hx hb dX_skipGap_70 (by decide) (fun c70 => absurd c70 (by decide)) (fun c70 => ?_)
                refine lv_iload_n hx hb dX_skipGap_73 rfl (lv_at hl 0 rfl) ?_
                refine lv_bipush (v := 9) hx hb dX_skipGap_74 (by decide) ?_
                refine lv_icmp_eq (tgt := 92) hx hb dX_skipGap_76 (by decide) (fun c76 => ?_) (fun c76 => ?_)
                · skip
                  refine lv_aload_n hx hb dX_skipGap_92 rfl (lv_at hl 1 rfl) ?_
                  refine lv_dup hx hb dX_skipGap_93 rfl ?_
                  refine gX11 S hw dX_skipGap_94 ?_
                  refine kz_top (y := nI q) g11 ?_
                  refine lv_iconst (v := 1) hx hb dX_skipGap_97 (by decide) ?_
                  refine lv_iadd hx hb dX_skipGap_98 ?_
                  refine kz_top (y := nI (q + 1)) (nI_add q 1) ?_
                  refine pX11 S hw dX_skipGap_99 (fun H locs hw => ?_)
                  refine lv_goto (tgt := 2) hx hb dX_skipGap_102 (by decide) ?_
                  rw [skp_go hlt c25 (fun q => c61 q.2) (Or.inr (Or.inl c76))] at hR
                  exact ih (q + 1) (M) false (upd I1 11 (nI (q + 1))) H locs ls (by omega) (by omega) rfl g12 (fun k h1 h2 => (pk_un h1).trans (gI k h1 h2)) hR hw (lv_sub hl [1, 2] rfl)
                · skip
                  refine lv_iload_n hx hb dX_skipGap_79 rfl (lv_at hl 0 rfl) ?_
                  refine lv_bipush (v := 13) hx hb dX_skipGap_80 (by decide) ?_
                  refine lv_icmp_eq (tgt := 92) hx hb dX_skipGap_82 (by decide) (fun c82 => ?_) (fun c82 => ?_)
                  · skip
                    refine lv_aload_n hx hb dX_skipGap_92 rfl (lv_at hl 1 rfl) ?_
                    refine lv_dup hx hb dX_skipGap_93 rfl ?_
                    refine gX11 S hw dX_skipGap_94 ?_
                    refine kz_top (y := nI q) g11 ?_
                    refine lv_iconst (v := 1) hx hb dX_skipGap_97 (by decide) ?_
                    refine lv_iadd hx hb dX_skipGap_98 ?_
                    refine kz_top (y := nI (q + 1)) (nI_add q 1) ?_
                    refine pX11 S hw dX_skipGap_99 (fun H locs hw => ?_)
                    refine lv_goto (tgt := 2) hx hb dX_skipGap_102 (by decide) ?_
                    rw [skp_go hlt c25 (fun q => c61 q.2) (Or.inr (Or.inr (Or.inl c82)))] at hR
                    exact ih (q + 1) (M) false (upd I1 11 (nI (q + 1))) H locs ls (by omega) (by omega) rfl g12 (fun k h1 h2 => (pk_un h1).trans (gI k h1 h2)) hR hw (lv_sub hl [1, 2] rfl)
                  · skip
                    refine lv_iload_n hx hb dX_skipGap_85 rfl (lv_at hl 0 rfl) ?_
                    refine lv_bipush (v := 32) hx hb dX_skipGap_86 (by decide) ?_
                    refine lv_icmp_eq (tgt := 92) hx hb dX_skipGap_88 (by decide) (fun c88 => ?_) (fun c88 => ?_)
                    · skip
                      refine lv_aload_n hx hb dX_skipGap_92 rfl (lv_at hl 1 rfl) ?_
                      refine lv_dup hx hb dX_skipGap_93 rfl ?_
                      refine gX11 S hw dX_skipGap_94 ?_
                      refine kz_top (y := nI q) g11 ?_
                      refine lv_iconst (v := 1) hx hb dX_skipGap_97 (by decide) ?_
                      refine lv_iadd hx hb dX_skipGap_98 ?_
                      refine kz_top (y := nI (q + 1)) (nI_add q 1) ?_
                      refine pX11 S hw dX_skipGap_99 (fun H locs hw => ?_)
                      refine lv_goto (tgt := 2) hx hb dX_skipGap_102 (by decide) ?_
                      rw [skp_go hlt c25 (fun q => c61 q.2) (Or.inr (Or.inr (Or.inr c88)))] at hR
                      exact ih (q + 1) (M) false (upd I1 11 (nI (q + 1))) H locs ls (by omega) (by omega) rfl g12 (fun k h1 h2 => (pk_un h1).trans (gI k h1 h2)) hR hw (lv_sub hl [1, 2] rfl)
                    · skip
                      exact MX.vret S hr hlk hw dX_skipGap_91 ⟨rfl, by rw [← hR, skp_st hlt c25 (fun q => c61 q.2) c76 c82 c88]; exact g11, by rw [← hR, skp_st hlt c25 (fun q => c61 q.2) c76 c82 c88]; exact g12, gI, rfl⟩
              · skip
                refine lv_iconst (v := 1) hx hb dX_skipGap_64 (by decide) ?_
                refine lv_istore_n (lv' := [(1, .int 1), (2, .int (T q)), (0, .ref h)]) hx hb dX_skipGap_65 rfl hl (by decide) rfl (fun ls hl => ?_)
                refine lv_goto (tgt := 92) hx hb dX_skipGap_66 (by decide) ?_
                refine lv_aload_n hx hb dX_skipGap_92 rfl (lv_at hl 2 rfl) ?_
                refine lv_dup hx hb dX_skipGap_93 rfl ?_
                refine gX11 S hw dX_skipGap_94 ?_
                refine kz_top (y := nI q) g11 ?_
                refine lv_iconst (v := 1) hx hb dX_skipGap_97 (by decide) ?_
                refine lv_iadd hx hb dX_skipGap_98 ?_
                refine kz_top (y := nI (q + 1)) (nI_add q 1) ?_
                refine pX11 S hw dX_skipGap_99 (fun H locs hw => ?_)
                refine lv_goto (tgt := 2) hx hb dX_skipGap_102 (by decide) ?_
                rw [skp_rm hlt c25 c46 c61] at hR
                exact ih (q + 1) (M) true (upd I1 11 (nI (q + 1))) H locs ls (by omega) (by omega) rfl g12 (fun k h1 h2 => (pk_un h1).trans (gI k h1 h2)) hR hw (lv_sub hl [2, 0] rfl)
          · skip
            refine lv_aload_n hx hb dX_skipGap_28 rfl (lv_at hl 1 rfl) ?_
            refine lv_dup hx hb dX_skipGap_29 rfl ?_
            refine gX12 S hw dX_skipGap_30 ?_
            refine kz_top (y := nI M) g12 ?_
            refine lv_iconst (v := 1) hx hb dX_skipGap_33 (by decide) ?_
            refine lv_iadd hx hb dX_skipGap_34 ?_
            refine kz_top (y := nI (M + 1)) (nI_add M 1) ?_
            refine pX12 S hw dX_skipGap_35 (fun H locs hw => ?_)
            refine lv_iconst (v := 0) hx hb dX_skipGap_38 (by decide) ?_
            refine lv_istore_n (lv' := [(1, .int 0), (2, .int (T q)), (0, .ref h)]) hx hb dX_skipGap_39 rfl hl (by decide) rfl (fun ls hl => ?_)
            refine lv_goto (tgt := 92) hx hb dX_skipGap_40 (by decide) ?_
            refine lv_aload_n hx hb dX_skipGap_92 rfl (lv_at hl 2 rfl) ?_
            refine lv_dup hx hb dX_skipGap_93 rfl ?_
            refine gX11 S hw dX_skipGap_94 ?_
            refine kz_top (y := nI q) g11 ?_
            refine lv_iconst (v := 1) hx hb dX_skipGap_97 (by decide) ?_
            refine lv_iadd hx hb dX_skipGap_98 ?_
            refine kz_top (y := nI (q + 1)) (nI_add q 1) ?_
            refine pX11 S hw dX_skipGap_99 (fun H locs hw => ?_)
            refine lv_goto (tgt := 2) hx hb dX_skipGap_102 (by decide) ?_
            rw [skp_nl hlt c25] at hR
            exact ih (q + 1) (M + 1) false (upd (upd I1 12 (nI (M + 1))) 11 (nI (q + 1))) H locs ls (by omega) (by omega) rfl rfl (fun k h1 h2 => (pk_un h1).trans ((pk_un h2).trans (gI k h1 h2))) hR hw (lv_sub hl [2, 0] rfl)
      | true =>
        have hT1 : tpX T n I1 F := hT.of (gI 1 (by decide) (by decide)) rfl
        have hl : lv_has ls 3 [(0, .ref h), (1, .int 1)] := hl
        refine lv_aload_n hx hb dX_skipGap_2 rfl (lv_at hl 0 rfl) ?_
        refine gX11 S hw dX_skipGap_3 ?_
        refine kz_top (y := nI q) g11 ?_
        refine lv_aload_n hx hb dX_skipGap_6 rfl (lv_at hl 0 rfl) ?_
        refine gX1 S hw dX_skipGap_7 ?_
        refine kz_top (y := nI n) hT1.1 ?_
        refine lv_icmp_ge (tgt := 105) hx hb dX_skipGap_10 (by decide) (fun c10 => ?_) (fun c10 => ?_)
        · skip
          exact MX.vret S hr hlk hw dX_skipGap_105 ⟨rfl, by rw [← hR, skp_end ((nI_leI (by omega) (by omega)).mp c10)]; exact g11, by rw [← hR, skp_end ((nI_leI (by omega) (by omega)).mp c10)]; exact g12, gI, rfl⟩
        · skip
          refine lv_aload_n hx hb dX_skipGap_13 rfl (lv_at hl 0 rfl) ?_
          refine lv_aload_n hx hb dX_skipGap_14 rfl (lv_at hl 0 rfl) ?_
          refine gX11 S hw dX_skipGap_15 ?_
          refine kz_top (y := nI q) g11 ?_
          have hlt : q < n := Nat.lt_of_not_le (fun x => c10 (nI_le x (by omega)))
          refine kcXi (rest := []) S kX_81 rfl (tX_tapeByte l _ _ T n hT1 q (by omega)) hw hA ⟨Nat.le_of_ble_eq_true rfl, Nat.le_of_ble_eq_true rfl⟩ rfl rfl ⟨Nat.zero_le _, Nat.zero_le _⟩ rfl hl.1 (Nat.le_of_ble_eq_true rfl) dX_skipGap_18 (fun r I' F' H locs hq hw => ?_)
          obtain ⟨hr1, hr2, hr3⟩ := hq
          rw [hr2, hr3] at hw
          subst hr1
          refine kz_top (see_in hlt) ?_
          refine lv_istore_n (lv' := [(2, .int (T q)), (0, .ref h), (1, .int 1)]) hx hb dX_skipGap_21 rfl hl (by decide) rfl (fun ls hl => ?_)
          refine lv_iload_n hx hb dX_skipGap_22 rfl (lv_at hl 0 rfl) ?_
          refine lv_bipush (v := 10) hx hb dX_skipGap_23 (by decide) ?_
          refine lv_icmp_ne (tgt := 43) hx hb dX_skipGap_25 (by decide) (fun c25 => ?_) (fun c25 => ?_)
          · skip
            refine lv_iload_n hx hb dX_skipGap_43 rfl (lv_at hl 0 rfl) ?_
            refine lv_bipush (v := 47) hx hb dX_skipGap_44 (by decide) ?_
            refine lv_icmp_ne (tgt := 69) hx hb dX_skipGap_46 (by decide) (fun c46 => ?_) (fun c46 => ?_)
            · skip
              refine lv_iload_n hx hb dX_skipGap_69 rfl (lv_at hl 2 rfl) ?_
              refine lv_if_ne (tgt := 92) hx hb dX_skipGap_70 (by decide) (fun c70 => ?_) (fun c70 => absurd c70 (by decide))
              refine lv_aload_n hx hb dX_skipGap_92 rfl (lv_at hl 1 rfl) ?_
              refine lv_dup hx hb dX_skipGap_93 rfl ?_
              refine gX11 S hw dX_skipGap_94 ?_
              refine kz_top (y := nI q) g11 ?_
              refine lv_iconst (v := 1) hx hb dX_skipGap_97 (by decide) ?_
              refine lv_iadd hx hb dX_skipGap_98 ?_
              refine kz_top (y := nI (q + 1)) (nI_add q 1) ?_
              refine pX11 S hw dX_skipGap_99 (fun H locs hw => ?_)
              refine lv_goto (tgt := 2) hx hb dX_skipGap_102 (by decide) ?_
              rw [skp_go hlt c25 (fun q => c46 q.1) (Or.inl rfl)] at hR
              exact ih (q + 1) (M) true (upd I1 11 (nI (q + 1))) H locs ls (by omega) (by omega) rfl g12 (fun k h1 h2 => (pk_un h1).trans (gI k h1 h2)) hR hw (lv_sub hl [1, 2] rfl)
            · skip
              refine lv_aload_n hx hb dX_skipGap_49 rfl (lv_at hl 1 rfl) ?_
              refine lv_aload_n hx hb dX_skipGap_50 rfl (lv_at hl 1 rfl) ?_
              refine gX11 S hw dX_skipGap_51 ?_
              refine kz_top (y := nI q) g11 ?_
              refine lv_iconst (v := 1) hx hb dX_skipGap_54 (by decide) ?_
              refine lv_iadd hx hb dX_skipGap_55 ?_
              refine kz_top (y := nI (q + 1)) (nI_add q 1) ?_
              refine kcXi (rest := []) S kX_81 rfl (tX_tapeByte l _ _ T n hT1 (q + 1) (by omega)) hw hA ⟨Nat.le_of_ble_eq_true rfl, Nat.le_of_ble_eq_true rfl⟩ rfl rfl ⟨Nat.zero_le _, Nat.zero_le _⟩ rfl hl.1 (Nat.le_of_ble_eq_true rfl) dX_skipGap_56 (fun r I' F' H locs hq hw => ?_)
              obtain ⟨hr1, hr2, hr3⟩ := hq
              rw [hr2, hr3] at hw
              subst hr1
              refine lv_bipush (v := 47) hx hb dX_skipGap_59 (by decide) ?_
              refine lv_icmp_ne (tgt := 69) hx hb dX_skipGap_61 (by decide) (fun c61 => ?_) (fun c61 => ?_)
              · skip
                refine lv_iload_n hx hb dX_skipGap_69 rfl (lv_at hl 2 rfl) ?_
                refine lv_if_ne (tgt := 92) hx hb dX_skipGap_70 (by decide) (fun c70 => ?_) (fun c70 => absurd c70 (by decide))
                refine lv_aload_n hx hb dX_skipGap_92 rfl (lv_at hl 1 rfl) ?_
                refine lv_dup hx hb dX_skipGap_93 rfl ?_
                refine gX11 S hw dX_skipGap_94 ?_
                refine kz_top (y := nI q) g11 ?_
                refine lv_iconst (v := 1) hx hb dX_skipGap_97 (by decide) ?_
                refine lv_iadd hx hb dX_skipGap_98 ?_
                refine kz_top (y := nI (q + 1)) (nI_add q 1) ?_
                refine pX11 S hw dX_skipGap_99 (fun H locs hw => ?_)
                refine lv_goto (tgt := 2) hx hb dX_skipGap_102 (by decide) ?_
                rw [skp_go hlt c25 (fun q => c61 q.2) (Or.inl rfl)] at hR
                exact ih (q + 1) (M) true (upd I1 11 (nI (q + 1))) H locs ls (by omega) (by omega) rfl g12 (fun k h1 h2 => (pk_un h1).trans (gI k h1 h2)) hR hw (lv_sub hl [1, 2] rfl)
              · skip
                refine lv_iconst (v := 1) hx hb dX_skipGap_64 (by decide) ?_
                refine lv_istore_n (lv' := [(1, .int 1), (2, .int (T q)), (0, .ref h)]) hx hb dX_skipGap_65 rfl hl (by decide) rfl (fun ls hl => ?_)
                refine lv_goto (tgt := 92) hx hb dX_skipGap_66 (by decide) ?_
                refine lv_aload_n hx hb dX_skipGap_92 rfl (lv_at hl 2 rfl) ?_
                refine lv_dup hx hb dX_skipGap_93 rfl ?_
                refine gX11 S hw dX_skipGap_94 ?_
                refine kz_top (y := nI q) g11 ?_
                refine lv_iconst (v := 1) hx hb dX_skipGap_97 (by decide) ?_
                refine lv_iadd hx hb dX_skipGap_98 ?_
                refine kz_top (y := nI (q + 1)) (nI_add q 1) ?_
                refine pX11 S hw dX_skipGap_99 (fun H locs hw => ?_)
                refine lv_goto (tgt := 2) hx hb dX_skipGap_102 (by decide) ?_
                rw [skp_rm hlt c25 c46 c61] at hR
                exact ih (q + 1) (M) true (upd I1 11 (nI (q + 1))) H locs ls (by omega) (by omega) rfl g12 (fun k h1 h2 => (pk_un h1).trans (gI k h1 h2)) hR hw (lv_sub hl [2, 0] rfl)
          · skip
            refine lv_aload_n hx hb dX_skipGap_28 rfl (lv_at hl 1 rfl) ?_
            refine lv_dup hx hb dX_skipGap_29 rfl ?_
            refine gX12 S hw dX_skipGap_30 ?_
            refine kz_top (y := nI M) g12 ?_
            refine lv_iconst (v := 1) hx hb dX_skipGap_33 (by decide) ?_
            refine lv_iadd hx hb dX_skipGap_34 ?_
            refine kz_top (y := nI (M + 1)) (nI_add M 1) ?_
            refine pX12 S hw dX_skipGap_35 (fun H locs hw => ?_)
            refine lv_iconst (v := 0) hx hb dX_skipGap_38 (by decide) ?_
            refine lv_istore_n (lv' := [(1, .int 0), (2, .int (T q)), (0, .ref h)]) hx hb dX_skipGap_39 rfl hl (by decide) rfl (fun ls hl => ?_)
            refine lv_goto (tgt := 92) hx hb dX_skipGap_40 (by decide) ?_
            refine lv_aload_n hx hb dX_skipGap_92 rfl (lv_at hl 2 rfl) ?_
            refine lv_dup hx hb dX_skipGap_93 rfl ?_
            refine gX11 S hw dX_skipGap_94 ?_
            refine kz_top (y := nI q) g11 ?_
            refine lv_iconst (v := 1) hx hb dX_skipGap_97 (by decide) ?_
            refine lv_iadd hx hb dX_skipGap_98 ?_
            refine kz_top (y := nI (q + 1)) (nI_add q 1) ?_
            refine pX11 S hw dX_skipGap_99 (fun H locs hw => ?_)
            refine lv_goto (tgt := 2) hx hb dX_skipGap_102 (by decide) ?_
            rw [skp_nl hlt c25] at hR
            exact ih (q + 1) (M + 1) false (upd (upd I1 12 (nI (M + 1))) 11 (nI (q + 1))) H locs ls (by omega) (by omega) rfl rfl (fun k h1 h2 => (pk_un h1).trans ((pk_un h2).trans (gI k h1 h2))) hR hw (lv_sub hl [2, 0] rfl)
  refine lv_iconst (v := 0) hx hb dX_skipGap_0 (by decide) ?_
  refine lv_istore_n (lv' := [(1, .int 0), (0, .ref h)]) hx hb dX_skipGap_1 rfl hl (by decide) rfl (fun ls hl => ?_)
  exact loop2 (n - p + 1) p L false I s.heap [] ls hp (by omega) h11 h12 (fun _ _ _ => rfl) rfl hw (lv_sub hl [1, 0] rfl)
end
section
theorem rK_0 {z : kz_Z} {U : State} (h : tkR z U) : vk_R "TokenRow" 159 "TRUE FALSE BREAK LOOP ENDCASE RETURN FINISH " (z.2.1 0) U := h 0 ("TokenRow", 159, "TRUE FALSE BREAK LOOP ENDCASE RETURN FINISH ") rfl
theorem rK_1 {z : kz_Z} {U : State} (h : tkR z U) : vk_R "TokenRow" 161 "VALOF TABLE IF UNLESS TEST WHILE UNTIL FOR SWITCHON CASE DEFAULT RESULTIS LET GLOBAL MANIFEST STATIC " (z.2.1 1) U := h 1 ("TokenRow", 161, "VALOF TABLE IF UNLESS TEST WHILE UNTIL FOR SWITCHON CASE DEFAULT RESULTIS LET GLOBAL MANIFEST STATIC ") rfl
theorem rK_2 {z : kz_Z} {U : State} (h : tkR z U) : vk_R "TokenRow" 163 "REM EQV NEQV NOT AND BE VEC DO THEN OR ELSE TO BY INTO REPEAT REPEATWHILE REPEATUNTIL " (z.2.1 2) U := h 2 ("TokenRow", 163, "REM EQV NEQV NOT AND BE VEC DO THEN OR ELSE TO BY INTO REPEAT REPEATWHILE REPEATUNTIL ") rfl
theorem rK_3 {z : kz_Z} {U : State} (h : tkR z U) : vk_R "TokenRow" 137 "$( $) ( ) , ; := : ! @ + - * / = ~= < <= > >= << >> ~ & | -> " (z.2.1 3) U := h 3 ("TokenRow", 137, "$( $) ( ) , ; := : ! @ + - * / = ~= < <= > >= << >> ~ & | -> ") rfl
theorem rK_4 {z : kz_Z} {U : State} (h : tkR z U) : vk_R "TokenRow" 183 "$) ) " (z.2.1 4) U := h 4 ("TokenRow", 183, "$) ) ") rfl
theorem rK_5 {z : kz_Z} {U : State} (h : tkR z U) : vk_R "TokenRow" 185 "( ! @ $( " (z.2.1 5) U := h 5 ("TokenRow", 185, "( ! @ $( ") rfl
theorem rK_6 {z : kz_Z} {U : State} (h : tkR z U) : vk_R "TokenRow" 71 "EQV NEQV | & << >> = ~= < <= > >= + - * / REM " (z.2.1 6) U := h 6 ("TokenRow", 71, "EQV NEQV | & << >> = ~= < <= > >= + - * / REM ") rfl
theorem rK_7 {z : kz_Z} {U : State} (h : tkR z U) : vk_R "TokenRowModel" 34 " TRUE FALSE REM EQV NEQV NOT VALOF TABLE IF UNLESS TEST WHILE UNTIL FOR SWITCHON CASE DEFAULT BREAK LOOP ENDCASE RETURN RESULTIS FINISH LET AND BE GLOBAL MANIFEST STATIC VEC DO THEN OR ELSE TO BY INTO REPEAT REPEATWHILE REPEATUNTIL " (z.2.1 7) U := h 7 ("TokenRowModel", 34, " TRUE FALSE REM EQV NEQV NOT VALOF TABLE IF UNLESS TEST WHILE UNTIL FOR SWITCHON CASE DEFAULT BREAK LOOP ENDCASE RETURN RESULTIS FINISH LET AND BE GLOBAL MANIFEST STATIC VEC DO THEN OR ELSE TO BY INTO REPEAT REPEATWHILE REPEATUNTIL ") rfl
theorem rK_8 {z : kz_Z} {U : State} (h : tkR z U) : vk_R "TokenRowModel" 40 " TRUE FALSE BREAK LOOP ENDCASE RETURN FINISH " (z.2.1 8) U := h 8 ("TokenRowModel", 40, " TRUE FALSE BREAK LOOP ENDCASE RETURN FINISH ") rfl
theorem rK_9 {z : kz_Z} {U : State} (h : tkR z U) : vk_R "TokenRowModel" 45 " TRUE FALSE VALOF TABLE IF UNLESS TEST WHILE UNTIL FOR SWITCHON CASE DEFAULT BREAK LOOP ENDCASE RETURN RESULTIS FINISH LET GLOBAL MANIFEST STATIC " (z.2.1 9) U := h 9 ("TokenRowModel", 45, " TRUE FALSE VALOF TABLE IF UNLESS TEST WHILE UNTIL FOR SWITCHON CASE DEFAULT BREAK LOOP ENDCASE RETURN RESULTIS FINISH LET GLOBAL MANIFEST STATIC ") rfl
theorem rK_10 {z : kz_Z} {U : State} (h : tkR z U) : vk_R "TokenRowModel" 178 " EQV NEQV " (z.2.1 10) U := h 10 ("TokenRowModel", 178, " EQV NEQV ") rfl
theorem rK_11 {z : kz_Z} {U : State} (h : tkR z U) : vk_R "TokenRowModel" 180 " REM " (z.2.1 11) U := h 11 ("TokenRowModel", 180, " REM ") rfl
end
section
/-! ===== the class: a token is taken ===== -/
theorem key_tape {T : Nat → Int32} {n p size : Nat} {I : Nat → Int32} {F : Nat → Nat → Int32} (hT : tpX T n I F) (h : p + size ≤ n) : keyL (fun k => F 0 (p + k)) size = sliceT T p size := by
  unfold keyL sliceT
  refine List.map_congr_left (fun k hk => ?_)
  exact hT.2.2.1 _ (by have := List.mem_range.mp hk; omega)
theorem kwU (w : List Int32) : w ∈ wK 7 ↔ (w ∈ wK 0 ∨ w ∈ wK 1 ∨ w ∈ wK 2) := by
  constructor
  · intro h
    exact (by decide +kernel : ∀ w ∈ wK 7, w ∈ wK 0 ∨ w ∈ wK 1 ∨ w ∈ wK 2) w h
  · intro h
    rcases h with h | h | h
    · exact (by decide +kernel : ∀ w ∈ wK 0, w ∈ wK 7) w h
    · exact (by decide +kernel : ∀ w ∈ wK 1, w ∈ wK 7) w h
    · exact (by decide +kernel : ∀ w ∈ wK 2, w ∈ wK 7) w h
theorem slice_len (T : Nat → Int32) (p k : Nat) : (sliceT T p k).length = k := by simp [sliceT]
theorem slice_at {T : Nat → Int32} {p k j : Nat} {x : Int32} (h : (sliceT T p k)[j]? = some x) : j < k ∧ x = T (p + j) := by
  have hj : j < k := by
    have := (List.getElem?_eq_some_iff.mp h).1
    rwa [slice_len] at this
  refine ⟨hj, ?_⟩
  unfold sliceT at h
  rw [List.getElem?_map, List.getElem?_range hj] at h
  exact (Option.some.inj h).symm
theorem nEnd_le (T : Nat → Int32) : ∀ (m k : Nat), k ≤ nEnd T m k ∧ nEnd T m k ≤ k + m := by
  intro m
  induction m with
  | zero => intro k; simp [nEnd]
  | succ m ih =>
    intro k
    rw [nEnd]
    split
    · have := ih (k + 1); omega
    · omega
theorem nEnd_go {T : Nat → Int32} {n k : Nat} (h : k < n) (h1 : iNam (T k)) : nEnd T (n - k) k = nEnd T (n - (k + 1)) (k + 1) := by
  rw [show n - k = (n - (k + 1)) + 1 by omega, nEnd, if_pos h1]
theorem nEnd_st {T : Nat → Int32} {n k : Nat} (h : k < n) (h1 : ¬ iNam (T k)) : nEnd T (n - k) k = k := by
  rw [show n - k = (n - (k + 1)) + 1 by omega, nEnd, if_neg h1]
theorem nEnd_end {T : Nat → Int32} {n k : Nat} (h : n ≤ k) : nEnd T (n - k) k = k := by
  rw [show n - k = 0 by omega, nEnd]
/-- what a token that was taken leaves: q what stands there, e where the texts ended -/
def tkP (I : Nat → Int32) (F : Nat → Nat → Int32) (e : Nat) (q : kz_S) (r : Int32) (I' : Nat → Int32) (F' : Nat → Nat → Int32) : Prop :=
  r = q.1 ∧ (∀ k, k ≠ 10 → k ≠ 11 → k ≠ 13 → I' k = I k) ∧ (∀ k, k ≠ 9 → F' k = F k) ∧ (∀ j, j < e → F' 9 j = F 9 j) ∧ (q.1 = 6 → I' 13 = 0) ∧ (¬ q.1 = 6 → I' 11 = nI q.2.2.1 ∧ I' 13 = q.2.1 ∧ I' 10 = nI (e + q.2.2.2.length) ∧ ∀ j x, q.2.2.2[j]? = some x → F' 9 (e + j) = x)
theorem tkP.bad {I I' : Nat → Int32} {F F' : Nat → Nat → Int32} {e : Nat} {q : kz_S} (hq : q = badS) (h1 : ∀ k, k ≠ 10 → k ≠ 11 → k ≠ 13 → I' k = I k) (h2 : ∀ k, k ≠ 9 → F' k = F k) (h3 : ∀ j, j < e → F' 9 j = F 9 j) (h4 : I' 13 = 0) : tkP I F e q 6 I' F' := by
  subst hq
  exact ⟨rfl, h1, h2, h3, fun _ => h4, fun h => absurd rfl h⟩
theorem tkP.num {I I' : Nat → Int32} {F : Nat → Nat → Int32} {e b : Nat} {q : kz_S} {v : Int32} (hq : q = (1, v, b, [])) (h1 : ∀ k, k ≠ 10 → k ≠ 11 → k ≠ 13 → I' k = I k) (h10 : I' 10 = nI e) (h11 : I' 11 = nI b) (h13 : I' 13 = v) : tkP I F e q 1 I' F := by
  subst hq
  exact ⟨rfl, h1, fun _ _ => rfl, fun _ _ => rfl, fun h => absurd (show (1 : Int32) = 6 from h) (by decide), fun _ => ⟨h11, h13, h10, fun j x h => by simp at h⟩⟩
theorem tkP.txt {I I' : Nat → Int32} {F F' : Nat → Nat → Int32} {T : Nat → Int32} {e p size b : Nat} {k v : Int32} {q : kz_S} (hq : q = (k, v, b, sliceT T p size)) (hk : ¬ k = 6) (h13 : I 13 = v) (hb : p + size = b)
    (h : I' 10 = nI (e + size) ∧ I' 11 = nI (p + size) ∧ (∀ k, k ≠ 10 → k ≠ 11 → I' k = I k) ∧ (∀ k, k ≠ 9 → F' k = F k) ∧ (∀ j, j < size → F' 9 (e + j) = T (p + j)) ∧ ∀ j, j < e → F' 9 j = F 9 j) : tkP I F e q k I' F' := by
  subst hq
  obtain ⟨q10, q11, qI, qF, qA, qB⟩ := h
  refine ⟨rfl, fun k a b _ => qI k a b, qF, qB, fun h => absurd h hk, fun _ => ⟨by rw [q11, hb], (qI 13 (by decide) (by decide)).trans h13, by rw [q10, slice_len], fun j x hj => ?_⟩⟩
  obtain ⟨e1, e2⟩ := slice_at hj
  rw [e2]
  exact qA j e1
set_option maxHeartbeats 4000000 in
set_option maxRecDepth 100000 in
theorem tX_isKeyword (l : Launch) (I : Nat → Int32) (F : Nat → Nat → Int32) (T : Nat → Int32) (n : Nat) (hT : tpX T n I F) (p size : Nat) (hp : p + size ≤ n) : MX l yX_isKeyword cX_isKeyword 3 (some .boolean) ({ frames := 5, cells := 0, slots := 0, locals := 112 }) [.int (nI p), .int (nI size)] I F (iR (fun r I' F' => r = (if sliceT T p size ∈ wK 7 then 1 else 0) ∧ I' = I ∧ F' = F)) := by
  refine MX.mk (by decide) (fun _ => Nat.le_of_ble_eq_true rfl) ?_
  intro z D cA h a pg en s m below meth c ls S hr hlk hA hw hl
  have hx := S.1
  have hb := S.2.1
  have hl : lv_has ls 3 [(0, .ref h), (1, .int (nI p)), (2, .int (nI size))] := hl
  have hn := hT.2.1
  refine va_ldcS hx hb S.2.2.2.1 (rK_0 hw.2.2.2.2.2) dX_isKeyword_0 ?_
  refine lv_aload_n hx hb dX_isKeyword_2 rfl (lv_at hl 0 rfl) ?_
  refine gX0 S hw dX_isKeyword_3 ?_
  refine lv_iload_n hx hb dX_isKeyword_6 rfl (lv_at hl 1 rfl) ?_
  refine lv_iload_n hx hb dX_isKeyword_7 rfl (lv_at hl 2 rfl) ?_
  refine kcXS (rest := []) S kX_73 (tX_numberInList l z 0 (by decide) (a 0) 1000 (F 0) (by decide) p size (by omega)) hw hA (arX0 hw) ⟨Nat.le_of_ble_eq_true rfl, Nat.le_of_ble_eq_true rfl⟩ rfl rfl ⟨Nat.zero_le _, Nat.zero_le _⟩ rfl hl.1 (Nat.le_of_ble_eq_true rfl) dX_isKeyword_8 (fun r H locs hq hw => ?_)
  rw [nil_wK (by decide), key_tape hT (by omega)] at hq
  subst hq
  refine lv_iconst (v := (-1)) hx hb dX_isKeyword_11 (by decide) ?_
  refine lv_icmp_ne (tgt := 45) hx hb dX_isKeyword_12 (by decide) (fun c12 => ?_) (fun c12 => ?_)
  · skip
    refine lv_iconst (v := 1) hx hb dX_isKeyword_45 (by decide) ?_
    refine lv_goto (tgt := 50) hx hb dX_isKeyword_46 (by decide) ?_
    exact MX.iret S hr hlk hw dX_isKeyword_50 (by first | rfl | decide) ⟨_, rfl, by rw [if_pos ((kwU _).mpr (Or.inl ((wixK_mem (by decide) _).mp c12)))], rfl, rfl⟩
  · skip
    refine va_ldcS hx hb S.2.2.2.1 (rK_1 hw.2.2.2.2.2) dX_isKeyword_15 ?_
    refine lv_aload_n hx hb dX_isKeyword_17 rfl (lv_at hl 0 rfl) ?_
    refine gX0 S hw dX_isKeyword_18 ?_
    refine lv_iload_n hx hb dX_isKeyword_21 rfl (lv_at hl 1 rfl) ?_
    refine lv_iload_n hx hb dX_isKeyword_22 rfl (lv_at hl 2 rfl) ?_
    refine kcXS (rest := []) S kX_73 (tX_numberInList l z 1 (by decide) (a 0) 1000 (F 0) (by decide) p size (by omega)) hw hA (arX0 hw) ⟨Nat.le_of_ble_eq_true rfl, Nat.le_of_ble_eq_true rfl⟩ rfl rfl ⟨Nat.zero_le _, Nat.zero_le _⟩ rfl hl.1 (Nat.le_of_ble_eq_true rfl) dX_isKeyword_23 (fun r H locs hq hw => ?_)
    rw [nil_wK (by decide), key_tape hT (by omega)] at hq
    subst hq
    refine lv_iconst (v := (-1)) hx hb dX_isKeyword_26 (by decide) ?_
    refine lv_icmp_ne (tgt := 45) hx hb dX_isKeyword_27 (by decide) (fun c27 => ?_) (fun c27 => ?_)
    · skip
      refine lv_iconst (v := 1) hx hb dX_isKeyword_45 (by decide) ?_
      refine lv_goto (tgt := 50) hx hb dX_isKeyword_46 (by decide) ?_
      exact MX.iret S hr hlk hw dX_isKeyword_50 (by first | rfl | decide) ⟨_, rfl, by rw [if_pos ((kwU _).mpr (Or.inr (Or.inl ((wixK_mem (by decide) _).mp c27))))], rfl, rfl⟩
    · skip
      refine va_ldcS hx hb S.2.2.2.1 (rK_2 hw.2.2.2.2.2) dX_isKeyword_30 ?_
      refine lv_aload_n hx hb dX_isKeyword_32 rfl (lv_at hl 0 rfl) ?_
      refine gX0 S hw dX_isKeyword_33 ?_
      refine lv_iload_n hx hb dX_isKeyword_36 rfl (lv_at hl 1 rfl) ?_
      refine lv_iload_n hx hb dX_isKeyword_37 rfl (lv_at hl 2 rfl) ?_
      refine kcXS (rest := []) S kX_73 (tX_numberInList l z 2 (by decide) (a 0) 1000 (F 0) (by decide) p size (by omega)) hw hA (arX0 hw) ⟨Nat.le_of_ble_eq_true rfl, Nat.le_of_ble_eq_true rfl⟩ rfl rfl ⟨Nat.zero_le _, Nat.zero_le _⟩ rfl hl.1 (Nat.le_of_ble_eq_true rfl) dX_isKeyword_38 (fun r H locs hq hw => ?_)
      rw [nil_wK (by decide), key_tape hT (by omega)] at hq
      subst hq
      refine lv_iconst (v := (-1)) hx hb dX_isKeyword_41 (by decide) ?_
      refine lv_icmp_eq (tgt := 49) hx hb dX_isKeyword_42 (by decide) (fun c42 => ?_) (fun c42 => ?_)
      · skip
        refine lv_iconst (v := 0) hx hb dX_isKeyword_49 (by decide) ?_
        exact MX.iret S hr hlk hw dX_isKeyword_50 (by first | rfl | decide) ⟨_, rfl, by rw [if_neg (fun q => ((kwU _).mp q).elim (fun q => (wixK_mem (by decide) _).mpr q c12) (fun q => q.elim (fun q => (wixK_mem (by decide) _).mpr q c27) (fun q => (wixK_mem (by decide) _).mpr q c42)))], rfl, rfl⟩
      · skip
        refine lv_iconst (v := 1) hx hb dX_isKeyword_45 (by decide) ?_
        refine lv_goto (tgt := 50) hx hb dX_isKeyword_46 (by decide) ?_
        exact MX.iret S hr hlk hw dX_isKeyword_50 (by first | rfl | decide) ⟨_, rfl, by rw [if_pos ((kwU _).mpr (Or.inr (Or.inr ((wixK_mem (by decide) _).mp c42))))], rfl, rfl⟩
end
section
set_option maxHeartbeats 4000000 in
set_option maxRecDepth 100000 in
theorem tX_takeWord (l : Launch) (I : Nat → Int32) (F : Nat → Nat → Int32) (T : Nat → Int32) (n : Nat) (hT : tpX T n I F) (p e : Nat) (h11 : I 11 = nI p) (hp : p < n) (h10 : I 10 = nI e) (he : e ≤ p) (h13 : I 13 = 0) : MX l yX_takeWord cX_takeWord 4 (some .int) ({ frames := 6, cells := 0, slots := 0, locals := 134 }) [] I F (iR (fun r I' F' => tkP I F e (scN T n p) r I' F')) := by
  refine MX.mk (by decide) (fun _ => Nat.le_of_ble_eq_true rfl) ?_
  intro z D cA h a pg en s m below meth c ls S hr hlk hA hw hl
  have hx := S.1
  have hb := S.2.1
  have hl : lv_has ls 4 [(0, .ref h)] := hl
  have hn := hT.2.1
  obtain ⟨hK1, hK2⟩ := nEnd_le T (n - p) p
  have cont : ∀ (H : Heap) (locs : List Loc) (ls : Array Slot), sX z D cA h a (AX h a s.heap.size) s H locs I F → lv_has ls 4 [(0, .ref h), (1, .int (nI (nEnd T (n - p) p)))] → W pg l en ({ frames := 6, cells := 0, slots := 0, locals := 134 }) s m ([.ref h] : List Value).toArray below meth c H locs 0 0 (MQ below (QX z D cA h a s.heap.size (iR (fun r I' F' => tkP I F e (scN T n p) r I' F'))) ([.ref h] : List Value).toArray s 0 0 (AX h a s.heap.size)) (F0 m 30 ls []) := by
    intro H locs ls hw hl
    refine lv_iload_n hx hb dX_takeWord_30 rfl (lv_at hl 1 rfl) ?_
    refine lv_aload_n hx hb dX_takeWord_31 rfl (lv_at hl 0 rfl) ?_
    refine gX11 S hw dX_takeWord_32 ?_
    refine kz_top (y := nI p) h11 ?_
    refine lv_isub hx hb dX_takeWord_35 ?_
    refine kz_top (pk_sub hK1) ?_
    refine lv_istore_n (lv' := [(2, .int (nI (nEnd T (n - p) p - p))), (0, .ref h), (1, .int (nI (nEnd T (n - p) p)))]) hx hb dX_takeWord_36 rfl hl (by decide) rfl (fun ls hl => ?_)
    refine lv_iload_n hx hb dX_takeWord_37 rfl (lv_at hl 0 rfl) ?_
    refine lv_bipush (v := 40) hx hb dX_takeWord_38 (by decide) ?_
    refine lv_icmp_le (tgt := 46) hx hb dX_takeWord_40 (by decide) (fun c40 => ?_) (fun c40 => ?_)
    · skip
      refine lv_aload_n hx hb dX_takeWord_46 rfl (lv_at hl 1 rfl) ?_
      refine lv_aload_n hx hb dX_takeWord_47 rfl (lv_at hl 1 rfl) ?_
      refine gX11 S hw dX_takeWord_48 ?_
      refine kz_top (y := nI p) h11 ?_
      refine lv_iload_n hx hb dX_takeWord_51 rfl (lv_at hl 0 rfl) ?_
      refine kcXi (rest := []) S kX_130 rfl (tX_isKeyword l _ _ T n hT p (nEnd T (n - p) p - p) (by omega)) hw hA ⟨Nat.le_of_ble_eq_true rfl, Nat.le_of_ble_eq_true rfl⟩ rfl rfl ⟨Nat.zero_le _, Nat.zero_le _⟩ rfl hl.1 (Nat.le_of_ble_eq_true rfl) dX_takeWord_52 (fun r I' F' H locs hq hw => ?_)
      obtain ⟨hr1, hr2, hr3⟩ := hq
      rw [hr2, hr3] at hw
      rcases bI hr1 with ⟨hB1, rfl⟩ | ⟨hB1, rfl⟩
      · skip
        refine lv_if_eq (tgt := 62) hx hb dX_takeWord_55 (by decide) (fun c55 => absurd c55 (by decide)) (fun c55 => ?_)
        refine lv_iconst (v := 4) hx hb dX_takeWord_58 (by decide) ?_
        refine lv_goto (tgt := 63) hx hb dX_takeWord_59 (by decide) ?_
        refine lv_istore_n (lv' := [(3, .int 4), (2, .int (nI (nEnd T (n - p) p - p))), (0, .ref h), (1, .int (nI (nEnd T (n - p) p)))]) hx hb dX_takeWord_63 rfl hl (by decide) rfl (fun ls hl => ?_)
        refine lv_aload_n hx hb dX_takeWord_64 rfl (lv_at hl 2 rfl) ?_
        refine lv_iload_n hx hb dX_takeWord_65 rfl (lv_at hl 1 rfl) ?_
        have hK3 : nEnd T (n - p) p - p ≤ 40 := (nI_leI (by omega) (by decide)).mp c40
        refine kcXv (rest := []) S kX_134 rfl (tX_takeText l _ _ T n hT p e (nEnd T (n - p) p - p) h11 h10 (by omega) (by omega)) hw hA ⟨Nat.le_of_ble_eq_true rfl, Nat.le_of_ble_eq_true rfl⟩ rfl rfl ⟨Nat.zero_le _, Nat.zero_le _⟩ rfl hl.1 (Nat.le_of_ble_eq_true rfl) dX_takeWord_66 (fun I' F' H locs hq hw => ?_)
        refine lv_iload_n hx hb dX_takeWord_69 rfl (lv_at hl 0 rfl) ?_
        exact MX.iret S hr hlk hw dX_takeWord_70 rfl ⟨_, rfl, tkP.txt (by unfold scN; rw [if_neg (by omega), if_pos hB1]) (by decide) h13 (by omega) hq⟩
      · skip
        refine lv_if_eq (tgt := 62) hx hb dX_takeWord_55 (by decide) (fun c55 => ?_) (fun c55 => absurd c55 (by decide))
        refine lv_iconst (v := 0) hx hb dX_takeWord_62 (by decide) ?_
        refine lv_istore_n (lv' := [(3, .int 0), (2, .int (nI (nEnd T (n - p) p - p))), (0, .ref h), (1, .int (nI (nEnd T (n - p) p)))]) hx hb dX_takeWord_63 rfl hl (by decide) rfl (fun ls hl => ?_)
        refine lv_aload_n hx hb dX_takeWord_64 rfl (lv_at hl 2 rfl) ?_
        refine lv_iload_n hx hb dX_takeWord_65 rfl (lv_at hl 1 rfl) ?_
        have hK3 : nEnd T (n - p) p - p ≤ 40 := (nI_leI (by omega) (by decide)).mp c40
        refine kcXv (rest := []) S kX_134 rfl (tX_takeText l _ _ T n hT p e (nEnd T (n - p) p - p) h11 h10 (by omega) (by omega)) hw hA ⟨Nat.le_of_ble_eq_true rfl, Nat.le_of_ble_eq_true rfl⟩ rfl rfl ⟨Nat.zero_le _, Nat.zero_le _⟩ rfl hl.1 (Nat.le_of_ble_eq_true rfl) dX_takeWord_66 (fun I' F' H locs hq hw => ?_)
        refine lv_iload_n hx hb dX_takeWord_69 rfl (lv_at hl 0 rfl) ?_
        exact MX.iret S hr hlk hw dX_takeWord_70 rfl ⟨_, rfl, tkP.txt (by unfold scN; rw [if_neg (by omega), if_neg hB1]) (by decide) h13 (by omega) hq⟩
    · skip
      refine lv_bipush (v := 6) hx hb dX_takeWord_43 (by decide) ?_
      exact MX.iret S hr hlk hw dX_takeWord_45 rfl ⟨_, rfl, tkP.bad (by unfold scN; rw [if_pos]; exact Nat.lt_of_not_le (fun q => c40 (nI_le q (by decide)))) (fun _ _ _ _ => rfl) (fun _ _ => rfl) (fun _ _ => rfl) h13⟩
  have loop5 : ∀ (fu : Nat) (k : Nat) (H : Heap) (locs : List Loc) (ls : Array Slot), p ≤ k → k ≤ n → n + 1 ≤ k + fu → nEnd T (n - k) k = nEnd T (n - p) p → sX z D cA h a (AX h a s.heap.size) s H locs I F → lv_has ls 4 [(0, .ref h), (1, .int (nI k))] → W pg l en ({ frames := 6, cells := 0, slots := 0, locals := 134 }) s m ([.ref h] : List Value).toArray below meth c H locs 0 0 (MQ below (QX z D cA h a s.heap.size (iR (fun r I' F' => tkP I F e (scN T n p) r I' F'))) ([.ref h] : List Value).toArray s 0 0 (AX h a s.heap.size)) (F0 m 5 ls []) := by
    intro fu
    induction fu with
    | zero => intro k  H locs ls hk1 hk2 hf hR hw hl; omega
    | succ fu ih =>
      intro k  H locs ls hk1 hk2 hf hR hw hl
      refine lv_iload_n hx hb dX_takeWord_5 rfl (lv_at hl 1 rfl) ?_
      refine lv_aload_n hx hb dX_takeWord_6 rfl (lv_at hl 0 rfl) ?_
      refine gX1 S hw dX_takeWord_7 ?_
      refine kz_top (y := nI n) hT.1 ?_
      refine lv_icmp_ge (tgt := 30) hx hb dX_takeWord_10 (by decide) (fun c10 => ?_) (fun c10 => ?_)
      · skip
        rw [nEnd_end ((nI_leI (by omega) (by omega)).mp c10)] at hR
        exact cont H locs ls hw (by rw [← hR]; exact lv_sub hl [0, 1] rfl)
      · skip
        refine lv_aload_n hx hb dX_takeWord_13 rfl (lv_at hl 0 rfl) ?_
        refine lv_iload_n hx hb dX_takeWord_14 rfl (lv_at hl 1 rfl) ?_
        have hlt : k < n := Nat.lt_of_not_le (fun x => c10 (nI_le x (by omega)))
        refine kcXi (rest := []) S kX_81 rfl (tX_tapeByte l I F T n hT k (by omega)) hw hA ⟨Nat.le_of_ble_eq_true rfl, Nat.le_of_ble_eq_true rfl⟩ rfl rfl ⟨Nat.zero_le _, Nat.zero_le _⟩ rfl hl.1 (Nat.le_of_ble_eq_true rfl) dX_takeWord_15 (fun r I' F' H locs hq hw => ?_)
        obtain ⟨hr1, hr2, hr3⟩ := hq
        rw [hr2, hr3] at hw
        subst hr1
        refine kz_top (see_in hlt) ?_
        refine kcXS (rest := []) S kX_127 (tX_isNameByte l z none (T k)) hw hA arNone ⟨Nat.le_of_ble_eq_true rfl, Nat.le_of_ble_eq_true rfl⟩ rfl rfl ⟨Nat.zero_le _, Nat.zero_le _⟩ rfl hl.1 (Nat.le_of_ble_eq_true rfl) dX_takeWord_18 (fun r H locs hq hw => ?_)
        rcases bI hq with ⟨hB1, rfl⟩ | ⟨hB1, rfl⟩
        · skip
          refine lv_if_eq (tgt := 30) hx hb dX_takeWord_21 (by decide) (fun c21 => absurd c21 (by decide)) (fun c21 => ?_)
          refine lv_iinc (v := nI (k + 1)) (lv' := [(1, .int (nI (k + 1))), (0, .ref h)]) hx hb dX_takeWord_24 hl (k := 1) rfl (nI_1 k) (by decide) rfl (fun ls hl => ?_)
          refine lv_goto (tgt := 5) hx hb dX_takeWord_27 (by decide) ?_
          rw [nEnd_go hlt hB1] at hR
          exact ih (k + 1) H locs ls (by omega) (by omega) (by omega) hR hw (lv_sub hl [1, 0] rfl)
        · skip
          refine lv_if_eq (tgt := 30) hx hb dX_takeWord_21 (by decide) (fun c21 => ?_) (fun c21 => absurd c21 (by decide))
          rw [nEnd_st hlt hB1] at hR
          exact cont H locs ls hw (by rw [← hR]; exact lv_sub hl [0, 1] rfl)
  refine lv_aload_n hx hb dX_takeWord_0 rfl (lv_at hl 0 rfl) ?_
  refine gX11 S hw dX_takeWord_1 ?_
  refine kz_top (y := nI p) h11 ?_
  refine lv_istore_n (lv' := [(1, .int (nI p)), (0, .ref h)]) hx hb dX_takeWord_4 rfl hl (by decide) rfl (fun ls hl => ?_)
  exact loop5 (n - p + 1) p s.heap [] ls (Nat.le_refl _) (by omega) (by omega) rfl hw (lv_sub hl [1, 0] rfl)
end
section
theorem slice2 (T : Nat → Int32) (p : Nat) : sliceT T p 2 = [T p, T (p + 1)] := rfl
theorem slice1 (T : Nat → Int32) (p : Nat) : sliceT T p 1 = [T p] := rfl
theorem sgn_m1 (c : Int32) : [c, -1] ∉ wK 3 := fun h => (by decide +kernel : ∀ w ∈ wK 3, ∀ x ∈ w, ¬ x = -1) _ h (-1) (by simp) rfl
set_option maxHeartbeats 4000000 in
set_option maxRecDepth 100000 in
theorem tX_takeSign (l : Launch) (I : Nat → Int32) (F : Nat → Nat → Int32) (T : Nat → Int32) (n : Nat) (hT : tpX T n I F) (p e : Nat) (h11 : I 11 = nI p) (hp : p < n) (h10 : I 10 = nI e) (he : e ≤ p) (h13 : I 13 = 0) : MX l yX_takeSign cX_takeSign 2 (some .int) ({ frames := 5, cells := 0, slots := 0, locals := 112 }) [] I F (iR (fun r I' F' => tkP I F e (scG T n p) r I' F')) := by
  refine MX.mk (by decide) (fun _ => Nat.le_of_ble_eq_true rfl) ?_
  intro z D cA h a pg en s m below meth c ls S hr hlk hA hw hl
  have hx := S.1
  have hb := S.2.1
  have hl : lv_has ls 2 [(0, .ref h)] := hl
  have hn := hT.2.1
  refine lv_iconst (v := 2) hx hb dX_takeSign_0 (by decide) ?_
  refine lv_istore_n (lv' := [(1, .int 2), (0, .ref h)]) hx hb dX_takeSign_1 rfl hl (by decide) rfl (fun ls hl => ?_)
  refine lv_iload_n hx hb dX_takeSign_2 rfl (lv_at hl 0 rfl) ?_
  refine lv_if_le (tgt := 50) hx hb dX_takeSign_3 (by decide) (fun c3 => absurd c3 (by decide)) (fun c3 => ?_)
  refine lv_iload_n hx hb dX_takeSign_6 rfl (lv_at hl 0 rfl) ?_
  refine lv_aload_n hx hb dX_takeSign_7 rfl (lv_at hl 1 rfl) ?_
  refine gX1 S hw dX_takeSign_8 ?_
  refine kz_top (y := nI n) hT.1 ?_
  refine lv_aload_n hx hb dX_takeSign_11 rfl (lv_at hl 1 rfl) ?_
  refine gX11 S hw dX_takeSign_12 ?_
  refine kz_top (y := nI p) h11 ?_
  refine lv_isub hx hb dX_takeSign_15 ?_
  refine kz_top (pk_sub (Nat.le_of_lt hp)) ?_
  refine lv_icmp_gt (tgt := 44) hx hb dX_takeSign_16 (by decide) (fun c16 => ?_) (fun c16 => ?_)
  · skip
    refine lv_iinc (v := 1) (lv' := [(1, .int 1), (0, .ref h)]) hx hb dX_takeSign_44 hl (k := 0) rfl (by decide) (by decide) rfl (fun ls hl => ?_)
    refine lv_goto (tgt := 2) hx hb dX_takeSign_47 (by decide) ?_
    refine lv_iload_n hx hb dX_takeSign_2 rfl (lv_at hl 0 rfl) ?_
    refine lv_if_le (tgt := 50) hx hb dX_takeSign_3 (by decide) (fun c3 => absurd c3 (by decide)) (fun c3 => ?_)
    refine lv_iload_n hx hb dX_takeSign_6 rfl (lv_at hl 0 rfl) ?_
    refine lv_aload_n hx hb dX_takeSign_7 rfl (lv_at hl 1 rfl) ?_
    refine gX1 S hw dX_takeSign_8 ?_
    refine kz_top (y := nI n) hT.1 ?_
    refine lv_aload_n hx hb dX_takeSign_11 rfl (lv_at hl 1 rfl) ?_
    refine gX11 S hw dX_takeSign_12 ?_
    refine kz_top (y := nI p) h11 ?_
    refine lv_isub hx hb dX_takeSign_15 ?_
    refine kz_top (pk_sub (Nat.le_of_lt hp)) ?_
    refine lv_icmp_gt (tgt := 44) hx hb dX_takeSign_16 (by decide) (fun c16x => absurd c16x (fun q => absurd ((nI_ltI (a := n - p) (b := 1) (by omega) (by decide)).mp q) (by omega))) (fun c16x => ?_)
    refine va_ldcS hx hb S.2.2.2.1 (rK_3 hw.2.2.2.2.2) dX_takeSign_19 ?_
    refine lv_aload_n hx hb dX_takeSign_21 rfl (lv_at hl 1 rfl) ?_
    refine gX0 S hw dX_takeSign_22 ?_
    refine lv_aload_n hx hb dX_takeSign_25 rfl (lv_at hl 1 rfl) ?_
    refine gX11 S hw dX_takeSign_26 ?_
    refine kz_top (y := nI p) h11 ?_
    refine lv_iload_n hx hb dX_takeSign_29 rfl (lv_at hl 0 rfl) ?_
    refine kcXS (rest := []) S kX_73 (tX_numberInList l z 3 (by decide) (a 0) 1000 (F 0) (by decide) p 1 (by omega)) hw hA (arX0 hw) ⟨Nat.le_of_ble_eq_true rfl, Nat.le_of_ble_eq_true rfl⟩ rfl rfl ⟨Nat.zero_le _, Nat.zero_le _⟩ rfl hl.1 (Nat.le_of_ble_eq_true rfl) dX_takeSign_30 (fun r H locs hq hw => ?_)
    rw [nil_wK (by decide), key_tape hT (by omega), slice1] at hq
    subst hq
    refine lv_iconst (v := (-1)) hx hb dX_takeSign_33 (by decide) ?_
    refine lv_icmp_eq (tgt := 44) hx hb dX_takeSign_34 (by decide) (fun c34 => ?_) (fun c34 => ?_)
    · skip
      refine lv_iinc (v := 0) (lv' := [(1, .int 0), (0, .ref h)]) hx hb dX_takeSign_44 hl (k := 0) rfl (by decide) (by decide) rfl (fun ls hl => ?_)
      refine lv_goto (tgt := 2) hx hb dX_takeSign_47 (by decide) ?_
      refine lv_iload_n hx hb dX_takeSign_2 rfl (lv_at hl 0 rfl) ?_
      refine lv_if_le (tgt := 50) hx hb dX_takeSign_3 (by decide) (fun c3 => ?_) (fun c3 => absurd c3 (by decide))
      refine lv_bipush (v := 6) hx hb dX_takeSign_50 (by decide) ?_
      exact MX.iret S hr hlk hw dX_takeSign_52 rfl ⟨_, rfl, tkP.bad (by unfold scG; rw [see_out (by have := (nI_ltI (a := n - p) (b := 2) (by omega) (by decide)).mp c16; omega)]; rw [if_neg (fun q => sgn_m1 _ q), if_neg (fun q => (wixK_mem (by decide) _).mpr q c34)]) (fun _ _ _ _ => rfl) (fun _ _ => rfl) (fun _ _ => rfl) h13⟩
    · skip
      refine lv_aload_n hx hb dX_takeSign_37 rfl (lv_at hl 1 rfl) ?_
      refine lv_iload_n hx hb dX_takeSign_38 rfl (lv_at hl 0 rfl) ?_
      refine kcXv (rest := []) S kX_134 rfl (tX_takeText l _ _ T n hT p e 1 h11 h10 (by omega) (by omega)) hw hA ⟨Nat.le_of_ble_eq_true rfl, Nat.le_of_ble_eq_true rfl⟩ rfl rfl ⟨Nat.zero_le _, Nat.zero_le _⟩ rfl hl.1 (Nat.le_of_ble_eq_true rfl) dX_takeSign_39 (fun I' F' H locs hq hw => ?_)
      refine lv_iconst (v := 3) hx hb dX_takeSign_42 (by decide) ?_
      exact MX.iret S hr hlk hw dX_takeSign_43 rfl ⟨_, rfl, tkP.txt (by unfold scG; rw [see_out (by have := (nI_ltI (a := n - p) (b := 2) (by omega) (by decide)).mp c16; omega), if_neg (sgn_m1 _), if_pos ((wixK_mem (by decide) _).mp c34)]; rfl) (by decide) h13 rfl hq⟩
  · skip
    refine va_ldcS hx hb S.2.2.2.1 (rK_3 hw.2.2.2.2.2) dX_takeSign_19 ?_
    refine lv_aload_n hx hb dX_takeSign_21 rfl (lv_at hl 1 rfl) ?_
    refine gX0 S hw dX_takeSign_22 ?_
    refine lv_aload_n hx hb dX_takeSign_25 rfl (lv_at hl 1 rfl) ?_
    refine gX11 S hw dX_takeSign_26 ?_
    refine kz_top (y := nI p) h11 ?_
    refine lv_iload_n hx hb dX_takeSign_29 rfl (lv_at hl 0 rfl) ?_
    have hn2 : 2 ≤ n - p := Nat.le_of_not_lt (fun q => c16 (nI_lt q (by decide)))
    refine kcXS (rest := []) S kX_73 (tX_numberInList l z 3 (by decide) (a 0) 1000 (F 0) (by decide) p 2 (by omega)) hw hA (arX0 hw) ⟨Nat.le_of_ble_eq_true rfl, Nat.le_of_ble_eq_true rfl⟩ rfl rfl ⟨Nat.zero_le _, Nat.zero_le _⟩ rfl hl.1 (Nat.le_of_ble_eq_true rfl) dX_takeSign_30 (fun r H locs hq hw => ?_)
    rw [nil_wK (by decide), key_tape hT (by omega), slice2] at hq
    subst hq
    refine lv_iconst (v := (-1)) hx hb dX_takeSign_33 (by decide) ?_
    refine lv_icmp_eq (tgt := 44) hx hb dX_takeSign_34 (by decide) (fun c34 => ?_) (fun c34 => ?_)
    · skip
      refine lv_iinc (v := 1) (lv' := [(1, .int 1), (0, .ref h)]) hx hb dX_takeSign_44 hl (k := 0) rfl (by decide) (by decide) rfl (fun ls hl => ?_)
      refine lv_goto (tgt := 2) hx hb dX_takeSign_47 (by decide) ?_
      refine lv_iload_n hx hb dX_takeSign_2 rfl (lv_at hl 0 rfl) ?_
      refine lv_if_le (tgt := 50) hx hb dX_takeSign_3 (by decide) (fun c3 => absurd c3 (by decide)) (fun c3 => ?_)
      refine lv_iload_n hx hb dX_takeSign_6 rfl (lv_at hl 0 rfl) ?_
      refine lv_aload_n hx hb dX_takeSign_7 rfl (lv_at hl 1 rfl) ?_
      refine gX1 S hw dX_takeSign_8 ?_
      refine kz_top (y := nI n) hT.1 ?_
      refine lv_aload_n hx hb dX_takeSign_11 rfl (lv_at hl 1 rfl) ?_
      refine gX11 S hw dX_takeSign_12 ?_
      refine kz_top (y := nI p) h11 ?_
      refine lv_isub hx hb dX_takeSign_15 ?_
      refine kz_top (pk_sub (Nat.le_of_lt hp)) ?_
      refine lv_icmp_gt (tgt := 44) hx hb dX_takeSign_16 (by decide) (fun c16x => absurd c16x (fun q => absurd ((nI_ltI (a := n - p) (b := 1) (by omega) (by decide)).mp q) (by omega))) (fun c16x => ?_)
      refine va_ldcS hx hb S.2.2.2.1 (rK_3 hw.2.2.2.2.2) dX_takeSign_19 ?_
      refine lv_aload_n hx hb dX_takeSign_21 rfl (lv_at hl 1 rfl) ?_
      refine gX0 S hw dX_takeSign_22 ?_
      refine lv_aload_n hx hb dX_takeSign_25 rfl (lv_at hl 1 rfl) ?_
      refine gX11 S hw dX_takeSign_26 ?_
      refine kz_top (y := nI p) h11 ?_
      refine lv_iload_n hx hb dX_takeSign_29 rfl (lv_at hl 0 rfl) ?_
      refine kcXS (rest := []) S kX_73 (tX_numberInList l z 3 (by decide) (a 0) 1000 (F 0) (by decide) p 1 (by omega)) hw hA (arX0 hw) ⟨Nat.le_of_ble_eq_true rfl, Nat.le_of_ble_eq_true rfl⟩ rfl rfl ⟨Nat.zero_le _, Nat.zero_le _⟩ rfl hl.1 (Nat.le_of_ble_eq_true rfl) dX_takeSign_30 (fun r H locs hq hw => ?_)
      rw [nil_wK (by decide), key_tape hT (by omega), slice1] at hq
      subst hq
      refine lv_iconst (v := (-1)) hx hb dX_takeSign_33 (by decide) ?_
      refine lv_icmp_eq (tgt := 44) hx hb dX_takeSign_34 (by decide) (fun c34x => ?_) (fun c34x => ?_)
      · skip
        refine lv_iinc (v := 0) (lv' := [(1, .int 0), (0, .ref h)]) hx hb dX_takeSign_44 hl (k := 0) rfl (by decide) (by decide) rfl (fun ls hl => ?_)
        refine lv_goto (tgt := 2) hx hb dX_takeSign_47 (by decide) ?_
        refine lv_iload_n hx hb dX_takeSign_2 rfl (lv_at hl 0 rfl) ?_
        refine lv_if_le (tgt := 50) hx hb dX_takeSign_3 (by decide) (fun c3 => ?_) (fun c3 => absurd c3 (by decide))
        refine lv_bipush (v := 6) hx hb dX_takeSign_50 (by decide) ?_
        exact MX.iret S hr hlk hw dX_takeSign_52 rfl ⟨_, rfl, tkP.bad (by unfold scG; rw [see_in (show p + 1 < n by omega)]; rw [if_neg (fun q => (wixK_mem (by decide) _).mpr q c34), if_neg (fun q => (wixK_mem (by decide) _).mpr q c34x)]) (fun _ _ _ _ => rfl) (fun _ _ => rfl) (fun _ _ => rfl) h13⟩
      · skip
        refine lv_aload_n hx hb dX_takeSign_37 rfl (lv_at hl 1 rfl) ?_
        refine lv_iload_n hx hb dX_takeSign_38 rfl (lv_at hl 0 rfl) ?_
        refine kcXv (rest := []) S kX_134 rfl (tX_takeText l _ _ T n hT p e 1 h11 h10 (by omega) (by omega)) hw hA ⟨Nat.le_of_ble_eq_true rfl, Nat.le_of_ble_eq_true rfl⟩ rfl rfl ⟨Nat.zero_le _, Nat.zero_le _⟩ rfl hl.1 (Nat.le_of_ble_eq_true rfl) dX_takeSign_39 (fun I' F' H locs hq hw => ?_)
        refine lv_iconst (v := 3) hx hb dX_takeSign_42 (by decide) ?_
        exact MX.iret S hr hlk hw dX_takeSign_43 rfl ⟨_, rfl, tkP.txt (by unfold scG; rw [see_in (show p + 1 < n by omega), if_neg (fun q => (wixK_mem (by decide) _).mpr q c34), if_pos ((wixK_mem (by decide) _).mp c34x)]; rfl) (by decide) h13 rfl hq⟩
    · skip
      refine lv_aload_n hx hb dX_takeSign_37 rfl (lv_at hl 1 rfl) ?_
      refine lv_iload_n hx hb dX_takeSign_38 rfl (lv_at hl 0 rfl) ?_
      refine kcXv (rest := []) S kX_134 rfl (tX_takeText l _ _ T n hT p e 2 h11 h10 (by omega) (by omega)) hw hA ⟨Nat.le_of_ble_eq_true rfl, Nat.le_of_ble_eq_true rfl⟩ rfl rfl ⟨Nat.zero_le _, Nat.zero_le _⟩ rfl hl.1 (Nat.le_of_ble_eq_true rfl) dX_takeSign_39 (fun I' F' H locs hq hw => ?_)
      refine lv_iconst (v := 3) hx hb dX_takeSign_42 (by decide) ?_
      exact MX.iret S hr hlk hw dX_takeSign_43 rfl ⟨_, rfl, tkP.txt (by unfold scG; rw [see_in (show p + 1 < n by omega), if_pos ((wixK_mem (by decide) _).mp c34)]; rfl) (by decide) h13 rfl hq⟩
end
section
theorem mean_star {T : Nat → Int32} {n k : Nat} {mark : Int32} (h : seeT T n k = 42) : meanT T n k mark = starB (seeT T n (k + 1)) ∧ nextT T n k = k + 2 := by
  unfold meanT nextT
  rw [if_pos h, if_pos h]; exact ⟨rfl, rfl⟩
theorem mean_no {T : Nat → Int32} {n k : Nat} {mark : Int32} (h : ¬ seeT T n k = 42) : meanT T n k mark = (if ¬ seeT T n k < 32 ∧ ¬ 126 < seeT T n k ∧ ¬ seeT T n k = mark then seeT T n k else -1) ∧ nextT T n k = k + 1 := by
  unfold meanT nextT
  rw [if_neg h, if_neg h]; exact ⟨rfl, rfl⟩
set_option maxHeartbeats 4000000 in
set_option maxRecDepth 100000 in
theorem tX_takeMeantByte (l : Launch) (I : Nat → Int32) (F : Nat → Nat → Int32) (T : Nat → Int32) (n : Nat) (hT : tpX T n I F) (p : Nat) (h11 : I 11 = nI p) (hp : p < 2000) (x : Int32) : MX l yX_takeMeantByte cX_takeMeantByte 4 (some .int) ({ frames := 2, cells := 0, slots := 0, locals := 42 }) [.int x] I F (iR (fun r I' F' => r = meanT T n p x ∧ I' = upd I 11 (nI (nextT T n p)) ∧ F' = F)) := by
  refine MX.mk (by decide) (fun _ => Nat.le_of_ble_eq_true rfl) ?_
  intro z D cA h a pg en s m below meth c ls S hr hlk hA hw hl
  have hx := S.1
  have hb := S.2.1
  have hl : lv_has ls 4 [(0, .ref h), (1, .int x)] := hl
  refine lv_aload_n hx hb dX_takeMeantByte_0 rfl (lv_at hl 0 rfl) ?_
  refine lv_aload_n hx hb dX_takeMeantByte_1 rfl (lv_at hl 0 rfl) ?_
  refine gX11 S hw dX_takeMeantByte_2 ?_
  refine kz_top (y := nI p) h11 ?_
  refine kcXi (rest := []) S kX_81 rfl (tX_tapeByte l I F T n hT p (by omega)) hw hA ⟨Nat.le_of_ble_eq_true rfl, Nat.le_of_ble_eq_true rfl⟩ rfl rfl ⟨Nat.zero_le _, Nat.zero_le _⟩ rfl hl.1 (Nat.le_of_ble_eq_true rfl) dX_takeMeantByte_5 (fun r I' F' H locs hq hw => ?_)
  obtain ⟨hr1, hr2, hr3⟩ := hq
  rw [hr2, hr3] at hw
  subst hr1
  refine lv_istore_n (lv' := [(2, .int (seeT T n p)), (0, .ref h), (1, .int x)]) hx hb dX_takeMeantByte_8 rfl hl (by decide) rfl (fun ls hl => ?_)
  refine lv_iload_n hx hb dX_takeMeantByte_9 rfl (lv_at hl 0 rfl) ?_
  refine lv_bipush (v := 42) hx hb dX_takeMeantByte_10 (by decide) ?_
  refine lv_icmp_ne (tgt := 41) hx hb dX_takeMeantByte_12 (by decide) (fun c12 => ?_) (fun c12 => ?_)
  · skip
    refine lv_aload_n hx hb dX_takeMeantByte_41 rfl (lv_at hl 1 rfl) ?_
    refine lv_dup hx hb dX_takeMeantByte_42 rfl ?_
    refine gX11 S hw dX_takeMeantByte_43 ?_
    refine kz_top (y := nI p) h11 ?_
    refine lv_iconst (v := 1) hx hb dX_takeMeantByte_46 (by decide) ?_
    refine lv_iadd hx hb dX_takeMeantByte_47 ?_
    refine kz_top (y := nI (p + 1)) (nI_add p 1) ?_
    refine pX11 S hw dX_takeMeantByte_48 (fun H locs hw => ?_)
    refine lv_iload_n hx hb dX_takeMeantByte_51 rfl (lv_at hl 0 rfl) ?_
    refine lv_bipush (v := 32) hx hb dX_takeMeantByte_52 (by decide) ?_
    refine lv_icmp_lt (tgt := 72) hx hb dX_takeMeantByte_54 (by decide) (fun c54 => ?_) (fun c54 => ?_)
    · skip
      refine lv_iconst (v := (-1)) hx hb dX_takeMeantByte_72 (by decide) ?_
      exact MX.iret S hr hlk hw dX_takeMeantByte_73 rfl ⟨_, rfl, by rw [(mean_no c12).1]; simp [c54], by rw [(mean_no (mark := x) c12).2], rfl⟩
    · skip
      refine lv_iload_n hx hb dX_takeMeantByte_57 rfl (lv_at hl 0 rfl) ?_
      refine lv_bipush (v := 126) hx hb dX_takeMeantByte_58 (by decide) ?_
      refine lv_icmp_gt (tgt := 72) hx hb dX_takeMeantByte_60 (by decide) (fun c60 => ?_) (fun c60 => ?_)
      · skip
        refine lv_iconst (v := (-1)) hx hb dX_takeMeantByte_72 (by decide) ?_
        exact MX.iret S hr hlk hw dX_takeMeantByte_73 rfl ⟨_, rfl, by rw [(mean_no c12).1]; simp [c54, c60], by rw [(mean_no (mark := x) c12).2], rfl⟩
      · skip
        refine lv_iload_n hx hb dX_takeMeantByte_63 rfl (lv_at hl 0 rfl) ?_
        refine lv_iload_n hx hb dX_takeMeantByte_64 rfl (lv_at hl 2 rfl) ?_
        refine lv_icmp_eq (tgt := 72) hx hb dX_takeMeantByte_65 (by decide) (fun c65 => ?_) (fun c65 => ?_)
        · skip
          refine lv_iconst (v := (-1)) hx hb dX_takeMeantByte_72 (by decide) ?_
          exact MX.iret S hr hlk hw dX_takeMeantByte_73 rfl ⟨_, rfl, by rw [(mean_no c12).1]; simp [c54, c60, c65], by rw [(mean_no (mark := x) c12).2], rfl⟩
        · skip
          refine lv_iload_n hx hb dX_takeMeantByte_68 rfl (lv_at hl 0 rfl) ?_
          refine lv_goto (tgt := 73) hx hb dX_takeMeantByte_69 (by decide) ?_
          exact MX.iret S hr hlk hw dX_takeMeantByte_73 rfl ⟨_, rfl, by rw [(mean_no c12).1]; simp [c54, c60, c65], by rw [(mean_no (mark := x) c12).2], rfl⟩
  · skip
    refine lv_aload_n hx hb dX_takeMeantByte_15 rfl (lv_at hl 1 rfl) ?_
    refine lv_aload_n hx hb dX_takeMeantByte_16 rfl (lv_at hl 1 rfl) ?_
    refine gX11 S hw dX_takeMeantByte_17 ?_
    refine kz_top (y := nI p) h11 ?_
    refine lv_iconst (v := 1) hx hb dX_takeMeantByte_20 (by decide) ?_
    refine lv_iadd hx hb dX_takeMeantByte_21 ?_
    refine kz_top (y := nI (p + 1)) (nI_add p 1) ?_
    refine kcXi (rest := []) S kX_81 rfl (tX_tapeByte l I F T n hT (p + 1) (by omega)) hw hA ⟨Nat.le_of_ble_eq_true rfl, Nat.le_of_ble_eq_true rfl⟩ rfl rfl ⟨Nat.zero_le _, Nat.zero_le _⟩ rfl hl.1 (Nat.le_of_ble_eq_true rfl) dX_takeMeantByte_22 (fun r I' F' H locs hq hw => ?_)
    obtain ⟨hr1, hr2, hr3⟩ := hq
    rw [hr2, hr3] at hw
    subst hr1
    refine kcXS (rest := []) S kX_156 (tX_meaningBehindStar l z none (seeT T n (p + 1))) hw hA arNone ⟨Nat.le_of_ble_eq_true rfl, Nat.le_of_ble_eq_true rfl⟩ rfl rfl ⟨Nat.zero_le _, Nat.zero_le _⟩ rfl hl.1 (Nat.le_of_ble_eq_true rfl) dX_takeMeantByte_25 (fun r H locs hq hw => ?_)
    subst hq
    refine lv_istore_n (lv' := [(3, .int (starB (seeT T n (p + 1)))), (2, .int (seeT T n p)), (0, .ref h), (1, .int x)]) hx hb dX_takeMeantByte_28 rfl hl (by decide) rfl (fun ls hl => ?_)
    refine lv_aload_n hx hb dX_takeMeantByte_29 rfl (lv_at hl 2 rfl) ?_
    refine lv_dup hx hb dX_takeMeantByte_30 rfl ?_
    refine gX11 S hw dX_takeMeantByte_31 ?_
    refine kz_top (y := nI p) h11 ?_
    refine lv_iconst (v := 2) hx hb dX_takeMeantByte_34 (by decide) ?_
    refine lv_iadd hx hb dX_takeMeantByte_35 ?_
    refine kz_top (y := nI (p + 2)) (nI_add p 2) ?_
    refine pX11 S hw dX_takeMeantByte_36 (fun H locs hw => ?_)
    refine lv_iload_n hx hb dX_takeMeantByte_39 rfl (lv_at hl 0 rfl) ?_
    exact MX.iret S hr hlk hw dX_takeMeantByte_40 rfl ⟨_, rfl, (mean_star c12).1.symm, by rw [(mean_star (mark := x) c12).2], rfl⟩
set_option maxHeartbeats 4000000 in
set_option maxRecDepth 100000 in
theorem tX_takeCharacter (l : Launch) (I : Nat → Int32) (F : Nat → Nat → Int32) (T : Nat → Int32) (n : Nat) (hT : tpX T n I F) (p e : Nat) (h11 : I 11 = nI p) (hp : p < n) (h10 : I 10 = nI e) (he : e ≤ p) (h13 : I 13 = 0) : MX l yX_takeCharacter cX_takeCharacter 2 (some .int) ({ frames := 3, cells := 0, slots := 0, locals := 65 }) [] I F (iR (fun r I' F' => tkP I F e (scC T n p) r I' F')) := by
  refine MX.mk (by decide) (fun _ => Nat.le_of_ble_eq_true rfl) ?_
  intro z D cA h a pg en s m below meth c ls S hr hlk hA hw hl
  have hx := S.1
  have hb := S.2.1
  have hl : lv_has ls 2 [(0, .ref h)] := hl
  have hn := hT.2.1
  have hnx : nextT T n (p + 1) ≤ p + 3 := by unfold nextT; split <;> omega
  refine lv_aload_n hx hb dX_takeCharacter_0 rfl (lv_at hl 0 rfl) ?_
  refine lv_dup hx hb dX_takeCharacter_1 rfl ?_
  refine gX11 S hw dX_takeCharacter_2 ?_
  refine kz_top (y := nI p) h11 ?_
  refine lv_iconst (v := 1) hx hb dX_takeCharacter_5 (by decide) ?_
  refine lv_iadd hx hb dX_takeCharacter_6 ?_
  refine kz_top (y := nI (p + 1)) (nI_add p 1) ?_
  refine pX11 S hw dX_takeCharacter_7 (fun H locs hw => ?_)
  refine lv_aload_n hx hb dX_takeCharacter_10 rfl (lv_at hl 0 rfl) ?_
  refine lv_bipush (v := 39) hx hb dX_takeCharacter_11 (by decide) ?_
  refine kcXi (rest := []) S kX_150 rfl (tX_takeMeantByte l (upd I 11 (nI (p + 1))) F T n hT (p + 1) rfl (by omega) 39) hw hA ⟨Nat.le_of_ble_eq_true rfl, Nat.le_of_ble_eq_true rfl⟩ rfl rfl ⟨Nat.zero_le _, Nat.zero_le _⟩ rfl hl.1 (Nat.le_of_ble_eq_true rfl) dX_takeCharacter_13 (fun r I' F' H locs hq hw => ?_)
  obtain ⟨hr1, hr2, hr3⟩ := hq
  rw [hr2, hr3] at hw
  subst hr1
  refine lv_istore_n (lv' := [(1, .int (meanT T n (p + 1) 39)), (0, .ref h)]) hx hb dX_takeCharacter_16 rfl hl (by decide) rfl (fun ls hl => ?_)
  refine lv_iload_n hx hb dX_takeCharacter_17 rfl (lv_at hl 0 rfl) ?_
  refine lv_iconst (v := (-1)) hx hb dX_takeCharacter_18 (by decide) ?_
  refine lv_icmp_eq (tgt := 35) hx hb dX_takeCharacter_19 (by decide) (fun c19 => ?_) (fun c19 => ?_)
  · skip
    refine lv_bipush (v := 6) hx hb dX_takeCharacter_35 (by decide) ?_
    exact MX.iret S hr hlk hw dX_takeCharacter_37 rfl ⟨_, rfl, tkP.bad (by unfold scC; rw [if_neg (fun q => q.1 c19)]) (fun k a b c => by simp [upd, a, b, c]) (fun _ _ => rfl) (fun _ _ => rfl) h13⟩
  · skip
    refine lv_aload_n hx hb dX_takeCharacter_22 rfl (lv_at hl 1 rfl) ?_
    refine lv_aload_n hx hb dX_takeCharacter_23 rfl (lv_at hl 1 rfl) ?_
    refine gX11 S hw dX_takeCharacter_24 ?_
    refine kz_top (y := nI (nextT T n (p + 1))) rfl ?_
    refine kcXi (rest := []) S kX_81 rfl (tX_tapeByte l (upd (upd I 11 (nI (p + 1))) 11 (nI (nextT T n (p + 1)))) F T n hT (nextT T n (p + 1)) (by omega)) hw hA ⟨Nat.le_of_ble_eq_true rfl, Nat.le_of_ble_eq_true rfl⟩ rfl rfl ⟨Nat.zero_le _, Nat.zero_le _⟩ rfl hl.1 (Nat.le_of_ble_eq_true rfl) dX_takeCharacter_27 (fun r I' F' H locs hq hw => ?_)
    obtain ⟨hr1, hr2, hr3⟩ := hq
    rw [hr2, hr3] at hw
    subst hr1
    refine lv_bipush (v := 39) hx hb dX_takeCharacter_30 (by decide) ?_
    refine lv_icmp_eq (tgt := 38) hx hb dX_takeCharacter_32 (by decide) (fun c32 => ?_) (fun c32 => ?_)
    · skip
      refine lv_aload_n hx hb dX_takeCharacter_38 rfl (lv_at hl 1 rfl) ?_
      refine lv_dup hx hb dX_takeCharacter_39 rfl ?_
      refine gX11 S hw dX_takeCharacter_40 ?_
      refine kz_top (y := nI (nextT T n (p + 1))) rfl ?_
      refine lv_iconst (v := 1) hx hb dX_takeCharacter_43 (by decide) ?_
      refine lv_iadd hx hb dX_takeCharacter_44 ?_
      refine kz_top (y := nI (nextT T n (p + 1) + 1)) (nI_add (nextT T n (p + 1)) 1) ?_
      refine pX11 S hw dX_takeCharacter_45 (fun H locs hw => ?_)
      refine lv_aload_n hx hb dX_takeCharacter_48 rfl (lv_at hl 1 rfl) ?_
      refine lv_iload_n hx hb dX_takeCharacter_49 rfl (lv_at hl 0 rfl) ?_
      refine pX13 S hw dX_takeCharacter_50 (fun H locs hw => ?_)
      refine lv_iconst (v := 1) hx hb dX_takeCharacter_53 (by decide) ?_
      exact MX.iret S hr hlk hw dX_takeCharacter_54 rfl ⟨_, rfl, tkP.num (v := meanT T n (p + 1) 39) (b := nextT T n (p + 1) + 1) (by unfold scC; rw [if_pos ⟨c19, c32⟩]) (fun k a b c => by simp [upd, a, b, c]) h10 rfl rfl⟩
    · skip
      refine lv_bipush (v := 6) hx hb dX_takeCharacter_35 (by decide) ?_
      exact MX.iret S hr hlk hw dX_takeCharacter_37 rfl ⟨_, rfl, tkP.bad (by unfold scC; rw [if_neg (fun q => c32 q.2)]) (fun k a b c => by simp [upd, a, b, c]) (fun _ _ => rfl) (fun _ _ => rfl) h13⟩
end
section
/-! ===== digits ===== -/
theorem dg_cases (c : Int32) : (dgN c < 16 ∧ dgX c = nI (dgN c) ∧ dgM c = nI (dgN c)) ∨ (dgN c = 99 ∧ dgX c = -1 ∧ dgM c = 99) := by
  unfold dgN dgX dgM
  by_cases h : iDig c
  · left
    rw [if_pos h, if_pos h]
    obtain ⟨h1, h2⟩ := h
    obtain ⟨j, hj, rfl⟩ := nI_of (x := c) (fun q => h1 (Int32.lt_of_lt_of_le q (by decide)))
    have a1 : 48 ≤ j := Nat.le_of_not_lt (fun q => h1 (nI_lt (a := j) (b := 48) q (by decide)))
    have a2 : j ≤ 57 := Nat.le_of_not_lt (fun q => h2 (nI_lt (a := 57) (b := j) q hj))
    have e : nI j - 48 = nI (j - 48) := pk_sub (a := j) (b := 48) a1
    rw [e, nI_clamp (by omega)]
    exact ⟨by omega, rfl, rfl⟩
  · rw [if_neg h, if_neg h]
    by_cases g : ¬ c < 65 ∧ ¬ 70 < c
    · left
      rw [if_pos g, if_pos g]
      obtain ⟨h1, h2⟩ := g
      obtain ⟨j, hj, rfl⟩ := nI_of (x := c) (fun q => h1 (Int32.lt_of_lt_of_le q (by decide)))
      have a1 : 65 ≤ j := Nat.le_of_not_lt (fun q => h1 (nI_lt (a := j) (b := 65) q (by decide)))
      have a2 : j ≤ 70 := Nat.le_of_not_lt (fun q => h2 (nI_lt (a := 70) (b := j) q hj))
      have e : nI j - 65 + 10 = nI (j - 65 + 10) := by
        rw [show nI j - 65 = nI (j - 65) from pk_sub (a := j) (b := 65) a1]
        exact nI_add (j - 65) 10
      rw [e, nI_clamp (by omega)]
      exact ⟨by omega, rfl, rfl⟩
    · right
      rw [if_neg g, if_neg g]
      exact ⟨by decide, rfl, rfl⟩
theorem dSc_go {T : Nat → Int32} {base n k a : Nat} (h : k < n) (h1 : dgN (T k) < base) : dSc T base (n - k) k a = dSc T base (n - (k + 1)) (k + 1) (min (a * base + dgN (T k)) 4294967296) := by
  rw [show n - k = (n - (k + 1)) + 1 by omega, dSc, if_pos h1]
theorem dSc_st {T : Nat → Int32} {base n k a : Nat} (h : k < n) (h1 : ¬ dgN (T k) < base) : dSc T base (n - k) k a = (k, a) := by
  rw [show n - k = (n - (k + 1)) + 1 by omega, dSc, if_neg h1]
theorem dSc_end {T : Nat → Int32} {base n k a : Nat} (h : n ≤ k) : dSc T base (n - k) k a = (k, a) := by
  rw [show n - k = 0 by omega, dSc]
theorem dSc_le (T : Nat → Int32) (base : Nat) : ∀ (m k a : Nat), a ≤ 4294967296 → k ≤ (dSc T base m k a).1 ∧ (dSc T base m k a).1 ≤ k + m ∧ (dSc T base m k a).2 ≤ 4294967296 := by
  intro m
  induction m with
  | zero => intro k a h; simp [dSc, h]
  | succ m ih =>
    intro k a h
    rw [dSc]
    split
    · have := ih (k + 1) (min (a * base + dgN (T k)) 4294967296) (Nat.min_le_right _ _); omega
    · exact ⟨Nat.le_refl _, by omega, h⟩
theorem dSc_min {a base d : Nat} (ha : a ≤ 4294967296) (hb : base ≤ 16) (hd : d < 16) : (if (4294967296 : Int64) < lN a * (nI base).toInt64 + (nI d).toInt64 then (4294967296 : Int64) else lN a * (nI base).toInt64 + (nI d).toInt64) = lN (min (a * base + d) 4294967296) := by
  rw [nI_l (by omega), nI_l (by omega), lN_mul, lN_add]
  have hm : a * base ≤ 4294967296 * 16 := Nat.mul_le_mul ha hb
  have e : (4294967296 : Int64) < lN (a * base + d) ↔ 4294967296 < a * base + d := pk_lLT (a := 4294967296) (b := a * base + d) (by decide) (by omega)
  by_cases h : 4294967296 < a * base + d
  · rw [if_pos (e.mpr h), Nat.min_eq_right (by omega)]; rfl
  · rw [if_neg (fun q => h (e.mp q)), Nat.min_eq_left (by omega)]
theorem cmp_lt0 {a : Nat} (ha : a ≤ 4294967296) : lg_cmp (lN a) 4294967296 < 0 ↔ a < 4294967296 := by
  unfold lg_cmp
  have e : lN a > (4294967296 : Int64) ↔ 4294967296 < a := pk_lLT (a := 4294967296) (b := a) (by decide) (by omega)
  have e2 : lN a = (4294967296 : Int64) ↔ a = 4294967296 := pk_lEQ (a := a) (b := 4294967296) (by omega) (by decide)
  rw [if_neg (by rw [e]; omega)]
  by_cases h : a = 4294967296
  · rw [if_pos (e2.mpr h)]; constructor
    · intro q; exact absurd q (by decide)
    · intro q; omega
  · rw [if_neg (fun q => h (e2.mp q))]; constructor
    · intro _; omega
    · intro _; decide
theorem wclX : Cond.constantLong "TokenRow" 142 4294967296 ∈ TT := tt_k 181 rfl rfl
theorem wclM : Cond.constantLong "TokenRowModel" 129 4294967296 ∈ TT := tt_k 393 rfl rfl
theorem wmin_l : Cond.methodLink "TokenRow" 144 Lib.MathLoose.min_long.x ∈ TT := tt_k 182 rfl rfl
theorem wmin_s : Cond.static Lib.MathLoose.min_long.x ∈ TT := tt_k 183 rfl rfl
theorem wmin_c : Cond.code Lib.MathLoose.min_long.x Lib.MathLoose.min_long.code 4 (some .long) ∈ TT := tt_k 184 rfl rfl
set_option maxHeartbeats 4000000 in
set_option maxRecDepth 100000 in
theorem tX_takeDigits (l : Launch) (I : Nat → Int32) (F : Nat → Nat → Int32) (T : Nat → Int32) (n : Nat) (hT : tpX T n I F) (k0 e base : Nat) (h11 : I 11 = nI k0) (hk : k0 ≤ 1002) (h10 : I 10 = nI e) (h13 : I 13 = 0) (hb0 : base ≤ 16) : MX l yX_takeDigits cX_takeDigits 6 (some .int) ({ frames := 2, cells := 0, slots := 0, locals := 42 }) [.int (nI base)] I F (iR (fun r I' F' => tkP I F e (scD T n k0 base) r I' F')) := by
  refine MX.mk (by decide) (fun _ => Nat.le_of_ble_eq_true rfl) ?_
  intro z D cA h a pg en s m below meth c ls S hr hlk hA hw hl
  have hx := S.1
  have hb := S.2.1
  have hl : lv_has ls 6 [(0, .ref h), (1, .int (nI base))] := hl
  have hn := hT.2.1
  obtain ⟨hd1, hd2, hd3⟩ := dSc_le T base (n - k0) k0 0 (by omega)
  have cont : ∀ (I1 : Nat → Int32) (H : Heap) (locs : List Loc) (ls : Array Slot), I1 11 = nI (dSc T base (n - k0) k0 0).1 → (∀ k, k ≠ 11 → I1 k = I k) → sX z D cA h a (AX h a s.heap.size) s H locs I1 F → lv_has ls 6 [(0, .ref h), (2, .int (nI k0)), (3, .long (lN (dSc T base (n - k0) k0 0).2))] → W pg l en ({ frames := 2, cells := 0, slots := 0, locals := 42 }) s m ([.ref h, .int (nI base)] : List Value).toArray below meth c H locs 0 0 (MQ below (QX z D cA h a s.heap.size (iR (fun r I' F' => tkP I F e (scD T n k0 base) r I' F'))) ([.ref h, .int (nI base)] : List Value).toArray s 0 0 (AX h a s.heap.size)) (F0 m 74 ls []) := by
    intro I1 H locs ls g11 gI hw hl
    refine lv_aload_n hx hb dX_takeDigits_74 rfl (lv_at hl 0 rfl) ?_
    refine gX11 S hw dX_takeDigits_75 ?_
    refine kz_top (y := nI (dSc T base (n - k0) k0 0).1) g11 ?_
    refine lv_iload_n hx hb dX_takeDigits_78 rfl (lv_at hl 1 rfl) ?_
    refine lv_icmp_eq (tgt := 90) hx hb dX_takeDigits_79 (by decide) (fun c79 => ?_) (fun c79 => ?_)
    · skip
      refine lv_bipush (v := 6) hx hb dX_takeDigits_90 (by decide) ?_
      exact MX.iret S hr hlk hw dX_takeDigits_92 rfl ⟨_, rfl, tkP.bad (by unfold scD; rw [if_pos (Or.inl ((nI_eq (by omega) (by omega)).mp c79))]) (fun k a b c => gI k b) (fun _ _ => rfl) (fun _ _ => rfl) ((gI 13 (by decide)).trans h13)⟩
    · skip
      refine lv_lload_n hx hb dX_takeDigits_82 rfl (lv_at hl 2 rfl) ?_
      refine lv_ldc2 (v := 4294967296) hx hb S.2.2.2.1 (S.2.2.2.2 _ (List.mem_cons_of_mem _ wclX)) dX_takeDigits_83 ?_
      refine W.lcmp hx hb dX_takeDigits_86 ?_
      refine lv_if_lt (tgt := 93) hx hb dX_takeDigits_87 (by decide) (fun c87 => ?_) (fun c87 => ?_)
      · skip
        refine lv_aload_n hx hb dX_takeDigits_93 rfl (lv_at hl 0 rfl) ?_
        refine lv_lload_n hx hb dX_takeDigits_94 rfl (lv_at hl 2 rfl) ?_
        refine lv_l2i (v := (lN (dSc T base (n - k0) k0 0).2).toInt32) hx hb dX_takeDigits_95 rfl ?_
        refine pX13 S hw dX_takeDigits_96 (fun H locs hw => ?_)
        refine lv_iconst (v := 1) hx hb dX_takeDigits_99 (by decide) ?_
        exact MX.iret S hr hlk hw dX_takeDigits_100 rfl ⟨_, rfl, tkP.num (v := (lN (dSc T base (n - k0) k0 0).2).toInt32) (b := (dSc T base (n - k0) k0 0).1) (by unfold scD; rw [if_neg]; exact fun q => q.elim (fun q => c79 (by rw [q])) (fun q => absurd ((cmp_lt0 hd3).mp c87) (by omega))) (fun k a b c => by simp [upd, c, gI k b]) ((gI 10 (by decide)).trans h10) g11 rfl⟩
      · skip
        refine lv_bipush (v := 6) hx hb dX_takeDigits_90 (by decide) ?_
        exact MX.iret S hr hlk hw dX_takeDigits_92 rfl ⟨_, rfl, tkP.bad (by unfold scD; rw [if_pos (Or.inr (Nat.le_of_not_lt (fun q => c87 ((cmp_lt0 hd3).mpr q))))]) (fun k a b c => gI k b) (fun _ _ => rfl) (fun _ _ => rfl) ((gI 13 (by decide)).trans h13)⟩
  have loop7 : ∀ (fu : Nat) (k ac : Nat) (I1 : Nat → Int32) (H : Heap) (locs : List Loc) (ls : Array Slot), k0 ≤ k → k ≤ n ∨ k = k0 → n + 1003 ≤ k + fu → ac ≤ 4294967296 → I1 11 = nI k → (∀ k, k ≠ 11 → I1 k = I k) → dSc T base (n - k) k ac = dSc T base (n - k0) k0 0 → sX z D cA h a (AX h a s.heap.size) s H locs I1 F → lv_has ls 6 [(0, .ref h), (1, .int (nI base)), (2, .int (nI k0)), (3, .long (lN ac))] → W pg l en ({ frames := 2, cells := 0, slots := 0, locals := 42 }) s m ([.ref h, .int (nI base)] : List Value).toArray below meth c H locs 0 0 (MQ below (QX z D cA h a s.heap.size (iR (fun r I' F' => tkP I F e (scD T n k0 base) r I' F'))) ([.ref h, .int (nI base)] : List Value).toArray s 0 0 (AX h a s.heap.size)) (F0 m 7 ls []) := by
    intro fu
    induction fu with
    | zero => intro k ac  I1  H locs ls hk1 hk2 hf ha g11 gI hR hw hl; omega
    | succ fu ih =>
      intro k ac  I1  H locs ls hk1 hk2 hf ha g11 gI hR hw hl
      have hT1 : tpX T n I1 F := hT.of (gI 1 (by decide)) rfl
      refine lv_aload_n hx hb dX_takeDigits_7 rfl (lv_at hl 0 rfl) ?_
      refine gX11 S hw dX_takeDigits_8 ?_
      refine kz_top (y := nI k) g11 ?_
      refine lv_aload_n hx hb dX_takeDigits_11 rfl (lv_at hl 0 rfl) ?_
      refine gX1 S hw dX_takeDigits_12 ?_
      refine kz_top (y := nI n) hT1.1 ?_
      refine lv_icmp_ge (tgt := 74) hx hb dX_takeDigits_15 (by decide) (fun c15 => ?_) (fun c15 => ?_)
      · skip
        rw [dSc_end ((nI_leI (by omega) (by omega)).mp c15)] at hR
        exact cont I1 H locs ls (by rw [← hR]; exact g11) gI hw (by rw [← hR]; exact lv_sub hl [0, 2, 3] rfl)
      · skip
        refine lv_aload_n hx hb dX_takeDigits_18 rfl (lv_at hl 0 rfl) ?_
        refine lv_aload_n hx hb dX_takeDigits_19 rfl (lv_at hl 0 rfl) ?_
        refine gX11 S hw dX_takeDigits_20 ?_
        refine kz_top (y := nI k) g11 ?_
        have hlt : k < n := Nat.lt_of_not_le (fun x => c15 (nI_le x (by omega)))
        refine kcXi (rest := []) S kX_81 rfl (tX_tapeByte l I1 F T n hT1 k (by omega)) hw hA ⟨Nat.le_of_ble_eq_true rfl, Nat.le_of_ble_eq_true rfl⟩ rfl rfl ⟨Nat.zero_le _, Nat.zero_le _⟩ rfl hl.1 (Nat.le_of_ble_eq_true rfl) dX_takeDigits_23 (fun r I' F' H locs hq hw => ?_)
        obtain ⟨hr1, hr2, hr3⟩ := hq
        rw [hr2, hr3] at hw
        subst hr1
        refine kz_top (see_in hlt) ?_
        refine kcXS (rest := []) S kX_139 (tX_digitOf l z none (T k)) hw hA arNone ⟨Nat.le_of_ble_eq_true rfl, Nat.le_of_ble_eq_true rfl⟩ rfl rfl ⟨Nat.zero_le _, Nat.zero_le _⟩ rfl hl.1 (Nat.le_of_ble_eq_true rfl) dX_takeDigits_26 (fun r H locs hq hw => ?_)
        subst hq
        rcases dg_cases (T k) with ⟨hd, hdx, hdm⟩ | ⟨hd, hdx, hdm⟩
        · skip
          refine kz_top hdx ?_
          refine lv_istore (lv' := [(5, .int (nI (dgN (T k)))), (0, .ref h), (1, .int (nI base)), (2, .int (nI k0)), (3, .long (lN ac))]) hx hb dX_takeDigits_29 hl (by decide) rfl (fun ls hl => ?_)
          refine lv_iload hx hb dX_takeDigits_31 (lv_at hl 0 rfl) ?_
          refine lv_iconst (v := (-1)) hx hb dX_takeDigits_33 (by decide) ?_
          refine lv_icmp_eq (tgt := 74) hx hb dX_takeDigits_34 (by decide) (fun c34 => absurd c34.symm (m1_ne (by omega))) (fun c34 => ?_)
          refine lv_iload hx hb dX_takeDigits_37 (lv_at hl 0 rfl) ?_
          refine lv_iload_n hx hb dX_takeDigits_39 rfl (lv_at hl 2 rfl) ?_
          refine lv_icmp_lt (tgt := 46) hx hb dX_takeDigits_40 (by decide) (fun c40 => ?_) (fun c40 => ?_)
          · skip
            refine lv_lload_n hx hb dX_takeDigits_46 rfl (lv_at hl 4 rfl) ?_
            refine lv_iload_n hx hb dX_takeDigits_47 rfl (lv_at hl 2 rfl) ?_
            refine lv_i2l (v := (nI base).toInt64) hx hb dX_takeDigits_48 rfl ?_
            refine lv_lmul hx hb dX_takeDigits_49 ?_
            refine lv_iload hx hb dX_takeDigits_50 (lv_at hl 0 rfl) ?_
            refine lv_i2l (v := (nI (dgN (T k))).toInt64) hx hb dX_takeDigits_52 rfl ?_
            refine lv_ladd hx hb dX_takeDigits_53 ?_
            refine lv_ldc2 (v := 4294967296) hx hb S.2.2.2.1 (S.2.2.2.2 _ (List.mem_cons_of_mem _ wclX)) dX_takeDigits_54 ?_
            have hdb : dgN (T k) < base := Nat.lt_of_not_le (fun q => absurd c40 (nI_nlt q (by omega)))
            refine va_mmin_long hx hb (S.2.2.1.trans hl.1.symm) S.2.2.2.1 (S.2.2.2.2 _ (List.mem_cons_of_mem _ wmin_l)) (S.2.2.2.2 _ (List.mem_cons_of_mem _ wmin_s)) (S.2.2.2.2 _ (List.mem_cons_of_mem _ wnMath)) (S.2.2.2.2 _ (List.mem_cons_of_mem _ wmin_c)) (Nat.le_of_ble_eq_true rfl) (Nat.le_of_ble_eq_true rfl) (Nat.zero_le _) (Nat.zero_le _) dX_takeDigits_57 ?_
            refine kz_topl (dSc_min ha hb0 hd) ?_
            refine lv_lstore_n (lv' := [(3, .long (lN (min (ac * base + dgN (T k)) 4294967296))), (5, .int (nI (dgN (T k)))), (0, .ref h), (1, .int (nI base)), (2, .int (nI k0))]) hx hb dX_takeDigits_60 rfl hl (by decide) rfl (fun ls hl => ?_)
            refine lv_aload_n hx hb dX_takeDigits_61 rfl (lv_at hl 2 rfl) ?_
            refine lv_dup hx hb dX_takeDigits_62 rfl ?_
            refine gX11 S hw dX_takeDigits_63 ?_
            refine kz_top (y := nI k) g11 ?_
            refine lv_iconst (v := 1) hx hb dX_takeDigits_66 (by decide) ?_
            refine lv_iadd hx hb dX_takeDigits_67 ?_
            refine kz_top (y := nI (k + 1)) (nI_add k 1) ?_
            refine pX11 S hw dX_takeDigits_68 (fun H locs hw => ?_)
            refine lv_goto (tgt := 7) hx hb dX_takeDigits_71 (by decide) ?_
            rw [dSc_go hlt hdb] at hR
            exact ih (k + 1) _ (upd I1 11 (nI (k + 1))) H locs ls (by omega) (by omega) (by omega) (Nat.min_le_right _ _) rfl (fun k h1 => (pk_un h1).trans (gI k h1)) hR hw (lv_sub hl [2, 3, 4, 0] rfl)
          · skip
            refine lv_goto (tgt := 74) hx hb dX_takeDigits_43 (by decide) ?_
            rw [dSc_st hlt (fun q => c40 (nI_lt q (by omega)))] at hR
            exact cont I1 H locs ls (by rw [← hR]; exact g11) gI hw (by rw [← hR]; exact lv_sub hl [1, 3, 4] rfl)
        · skip
          refine kz_top hdx ?_
          refine lv_istore (lv' := [(5, .int (-1)), (0, .ref h), (1, .int (nI base)), (2, .int (nI k0)), (3, .long (lN ac))]) hx hb dX_takeDigits_29 hl (by decide) rfl (fun ls hl => ?_)
          refine lv_iload hx hb dX_takeDigits_31 (lv_at hl 0 rfl) ?_
          refine lv_iconst (v := (-1)) hx hb dX_takeDigits_33 (by decide) ?_
          refine lv_icmp_eq (tgt := 74) hx hb dX_takeDigits_34 (by decide) (fun c34 => ?_) (fun c34 => absurd c34 (by decide))
          rw [dSc_st hlt (by rw [hd]; omega)] at hR
          exact cont I1 H locs ls (by rw [← hR]; exact g11) gI hw (by rw [← hR]; exact lv_sub hl [1, 3, 4] rfl)
  refine lv_aload_n hx hb dX_takeDigits_0 rfl (lv_at hl 0 rfl) ?_
  refine gX11 S hw dX_takeDigits_1 ?_
  refine kz_top (y := nI k0) h11 ?_
  refine lv_istore_n (lv' := [(2, .int (nI k0)), (0, .ref h), (1, .int (nI base))]) hx hb dX_takeDigits_4 rfl hl (by decide) rfl (fun ls hl => ?_)
  refine lv_lconst (v := 0) hx hb dX_takeDigits_5 (by decide) ?_
  refine lv_lstore_n (lv' := [(3, .long 0), (2, .int (nI k0)), (0, .ref h), (1, .int (nI base))]) hx hb dX_takeDigits_6 rfl hl (by decide) rfl (fun ls hl => ?_)
  exact loop7 (n + 1003) k0 0 I s.heap [] ls (Nat.le_refl _) (Or.inr rfl) (by omega) (Nat.zero_le _) h11 (fun _ _ => rfl) rfl hw (lv_sub hl [2, 3, 1, 0] rfl)
theorem tkP.base {I I1 I' : Nat → Int32} {F F' : Nat → Nat → Int32} {e : Nat} {q q' : kz_S} {r : Int32} (h : tkP I1 F e q r I' F') (hI : ∀ k, k ≠ 10 → k ≠ 11 → k ≠ 13 → I1 k = I k) (hq : q' = q) : tkP I F e q' r I' F' := by
  subst hq
  exact ⟨h.1, fun k a b c => (h.2.1 k a b c).trans (hI k a b c), h.2.2⟩
set_option maxHeartbeats 4000000 in
set_option maxRecDepth 100000 in
theorem tX_takeNumberInBase (l : Launch) (I : Nat → Int32) (F : Nat → Nat → Int32) (T : Nat → Int32) (n : Nat) (hT : tpX T n I F) (p e : Nat) (h11 : I 11 = nI p) (hp : p < n) (h10 : I 10 = nI e) (he : e ≤ p) (h13 : I 13 = 0) : MX l yX_takeNumberInBase cX_takeNumberInBase 1 (some .int) ({ frames := 3, cells := 0, slots := 0, locals := 67 }) [] I F (iR (fun r I' F' => tkP I F e (if seeT T n (p + 1) = 88 then scD T n (p + 2) 16 else scD T n (p + 1) 8) r I' F')) := by
  refine MX.mk (by decide) (fun _ => Nat.le_of_ble_eq_true rfl) ?_
  intro z D cA h a pg en s m below meth c ls S hr hlk hA hw hl
  have hx := S.1
  have hb := S.2.1
  have hl : lv_has ls 1 [(0, .ref h)] := hl
  have hn := hT.2.1
  refine lv_aload_n hx hb dX_takeNumberInBase_0 rfl (lv_at hl 0 rfl) ?_
  refine lv_dup hx hb dX_takeNumberInBase_1 rfl ?_
  refine gX11 S hw dX_takeNumberInBase_2 ?_
  refine kz_top (y := nI p) h11 ?_
  refine lv_iconst (v := 1) hx hb dX_takeNumberInBase_5 (by decide) ?_
  refine lv_iadd hx hb dX_takeNumberInBase_6 ?_
  refine kz_top (y := nI (p + 1)) (nI_add p 1) ?_
  refine pX11 S hw dX_takeNumberInBase_7 (fun H locs hw => ?_)
  refine lv_aload_n hx hb dX_takeNumberInBase_10 rfl (lv_at hl 0 rfl) ?_
  refine lv_aload_n hx hb dX_takeNumberInBase_11 rfl (lv_at hl 0 rfl) ?_
  refine gX11 S hw dX_takeNumberInBase_12 ?_
  refine kz_top (y := nI (p + 1)) rfl ?_
  refine kcXi (rest := []) S kX_81 rfl (tX_tapeByte l (upd I 11 (nI (p + 1))) F T n hT (p + 1) (by omega)) hw hA ⟨Nat.le_of_ble_eq_true rfl, Nat.le_of_ble_eq_true rfl⟩ rfl rfl ⟨Nat.zero_le _, Nat.zero_le _⟩ rfl hl.1 (Nat.le_of_ble_eq_true rfl) dX_takeNumberInBase_15 (fun r I' F' H locs hq hw => ?_)
  obtain ⟨hr1, hr2, hr3⟩ := hq
  rw [hr2, hr3] at hw
  subst hr1
  refine lv_bipush (v := 88) hx hb dX_takeNumberInBase_18 (by decide) ?_
  refine lv_icmp_eq (tgt := 30) hx hb dX_takeNumberInBase_20 (by decide) (fun c20 => ?_) (fun c20 => ?_)
  · skip
    refine lv_aload_n hx hb dX_takeNumberInBase_30 rfl (lv_at hl 0 rfl) ?_
    refine lv_dup hx hb dX_takeNumberInBase_31 rfl ?_
    refine gX11 S hw dX_takeNumberInBase_32 ?_
    refine kz_top (y := nI (p + 1)) rfl ?_
    refine lv_iconst (v := 1) hx hb dX_takeNumberInBase_35 (by decide) ?_
    refine lv_iadd hx hb dX_takeNumberInBase_36 ?_
    refine kz_top (y := nI (p + 1 + 1)) (nI_add (p + 1) 1) ?_
    refine pX11 S hw dX_takeNumberInBase_37 (fun H locs hw => ?_)
    refine lv_aload_n hx hb dX_takeNumberInBase_40 rfl (lv_at hl 0 rfl) ?_
    refine lv_bipush (v := 16) hx hb dX_takeNumberInBase_41 (by decide) ?_
    refine kcXi (rest := []) S kX_112 rfl (tX_takeDigits l (upd (upd I 11 (nI (p + 1))) 11 (nI (p + 1 + 1))) F T n hT (p + 1 + 1) e 16 rfl (by omega) h10 h13 (by decide)) hw hA ⟨Nat.le_of_ble_eq_true rfl, Nat.le_of_ble_eq_true rfl⟩ rfl rfl ⟨Nat.zero_le _, Nat.zero_le _⟩ rfl hl.1 (Nat.le_of_ble_eq_true rfl) dX_takeNumberInBase_43 (fun r I' F' H locs hq hw => ?_)
    exact MX.iret S hr hlk hw dX_takeNumberInBase_46 rfl ⟨_, rfl, hq.base (fun k a b c => by simp [upd, a, b, c]) (if_pos c20)⟩
  · skip
    refine lv_aload_n hx hb dX_takeNumberInBase_23 rfl (lv_at hl 0 rfl) ?_
    refine lv_bipush (v := 8) hx hb dX_takeNumberInBase_24 (by decide) ?_
    refine kcXi (rest := []) S kX_112 rfl (tX_takeDigits l (upd I 11 (nI (p + 1))) F T n hT (p + 1) e 8 rfl (by omega) h10 h13 (by decide)) hw hA ⟨Nat.le_of_ble_eq_true rfl, Nat.le_of_ble_eq_true rfl⟩ rfl rfl ⟨Nat.zero_le _, Nat.zero_le _⟩ rfl hl.1 (Nat.le_of_ble_eq_true rfl) dX_takeNumberInBase_26 (fun r I' F' H locs hq hw => ?_)
    exact MX.iret S hr hlk hw dX_takeNumberInBase_29 rfl ⟨_, rfl, hq.base (fun k a b c => by simp [upd, a, b, c]) (if_neg c20)⟩
end
section
/-! ===== strings; a token ===== -/
theorem mean_in {T : Nat → Int32} {n k : Nat} {mark : Int32} (h : ¬ meanT T n k mark = -1) : k < n ∧ nextT T n k ≤ n ∧ k < nextT T n k := by
  have hk : k < n := by
    rcases Nat.lt_or_ge k n with q | q
    · exact q
    · refine absurd ?_ h
      unfold meanT
      rw [see_out q, if_neg (by decide), if_neg (fun q => q.1 (by decide))]
  by_cases h1 : seeT T n k = 42
  · have e := mean_star (mark := mark) h1
    rw [e.2]
    refine ⟨hk, ?_, by omega⟩
    rcases Nat.lt_or_ge (k + 1) n with q | q
    · omega
    · refine absurd ?_ h
      rw [e.1, see_out q]
      decide
  · have e := mean_no (mark := mark) h1
    rw [e.2]
    omega
theorem sSc_q {T : Nat → Int32} {n m k : Nat} (h : seeT T n k = 34) : sSc T n (m + 1) k = ([], k) := by rw [sSc, if_pos h]
theorem sSc_b {T : Nat → Int32} {n m k : Nat} (h : ¬ seeT T n k = 34) (h1 : meanT T n k 34 = -1) : sSc T n (m + 1) k = ([], k) := by rw [sSc, if_neg h, if_pos h1]
theorem sSc_go {T : Nat → Int32} {n m k : Nat} (h : ¬ seeT T n k = 34) (h1 : ¬ meanT T n k 34 = -1) : sSc T n (m + 1) k = (meanT T n k 34 :: (sSc T n m (nextT T n k)).1, (sSc T n m (nextT T n k)).2) := by rw [sSc, if_neg h, if_neg h1]
set_option maxHeartbeats 4000000 in
set_option maxRecDepth 100000 in
theorem tX_takeString (l : Launch) (I : Nat → Int32) (F : Nat → Nat → Int32) (T : Nat → Int32) (n : Nat) (hT : tpX T n I F) (p e : Nat) (h11 : I 11 = nI p) (hp : p < n) (h10 : I 10 = nI e) (he : e ≤ p) (h13 : I 13 = 0) : MX l yX_takeString cX_takeString 3 (some .int) ({ frames := 3, cells := 0, slots := 0, locals := 65 }) [] I F (iR (fun r I' F' => tkP I F e (scS T n p) r I' F')) := by
  refine MX.mk (by decide) (fun _ => Nat.le_of_ble_eq_true rfl) ?_
  intro z D cA h a pg en s m below meth c ls S hr hlk hA hw hl
  have hx := S.1
  have hb := S.2.1
  have hl : lv_has ls 3 [(0, .ref h)] := hl
  have hn := hT.2.1
  have loop12 : ∀ (fu : Nat) (j k mm : Nat) (dn : List Int32) (I1 : Nat → Int32) (F1 : Nat → Nat → Int32) (H : Heap) (locs : List Loc) (ls : Array Slot), dn.length = j → j ≤ 201 → p + 1 + j ≤ k → k ≤ n → n + 1 ≤ k + mm → 202 ≤ j + fu → (sSc T n (n - p) (p + 1)).1 = dn ++ (sSc T n mm k).1 → (sSc T n (n - p) (p + 1)).2 = (sSc T n mm k).2 → I1 11 = nI k → I1 10 = nI (e + j) → (∀ k, k ≠ 10 → k ≠ 11 → I1 k = I k) → (∀ k, k ≠ 9 → F1 k = F k) → (∀ i x, dn[i]? = some x → F1 9 (e + i) = x) → (∀ i, i < e → F1 9 i = F 9 i) → sX z D cA h a (AX h a s.heap.size) s H locs I1 F1 → lv_has ls 3 [(0, .ref h), (1, .int (nI j))] → W pg l en ({ frames := 3, cells := 0, slots := 0, locals := 65 }) s m ([.ref h] : List Value).toArray below meth c H locs 0 0 (MQ below (QX z D cA h a s.heap.size (iR (fun r I' F' => tkP I F e (scS T n p) r I' F'))) ([.ref h] : List Value).toArray s 0 0 (AX h a s.heap.size)) (F0 m 12 ls []) := by
    intro fu
    induction fu with
    | zero => intro j k mm  dn  I1  F1  H locs ls hj hj2 hk1 hk2 hm hf hL hE g11 g10 gI gF gA gB hw hl; omega
    | succ fu ih =>
      intro j k mm  dn  I1  F1  H locs ls hj hj2 hk1 hk2 hm hf hL hE g11 g10 gI gF gA gB hw hl
      have hT1 : tpX T n I1 F1 := hT.of (gI 1 (by decide) (by decide)) (gF 0 (by decide))
      obtain ⟨m1, rfl⟩ : ∃ m1, mm = m1 + 1 := ⟨mm - 1, by omega⟩
      refine lv_iload_n hx hb dX_takeString_12 rfl (lv_at hl 1 rfl) ?_
      refine lv_sipush (v := 200) hx hb dX_takeString_13 (by decide) ?_
      refine lv_icmp_gt (tgt := 70) hx hb dX_takeString_16 (by decide) (fun c16 => ?_) (fun c16 => ?_)
      · skip
        refine lv_bipush (v := 6) hx hb dX_takeString_70 (by decide) ?_
        exact MX.iret S hr hlk hw dX_takeString_72 rfl ⟨_, rfl, tkP.bad (by
          unfold scS
          have hj3 : 200 < j := (nI_ltI (a := 200) (b := j) (by omega) (by omega)).mp c16
          rw [if_neg]
          intro q
          have := q.2
          rw [hL, List.length_append] at this
          omega) (fun k a b c => gI k a b) gF gB ((gI 13 (by decide) (by decide)).trans h13)⟩
      · skip
        refine lv_aload_n hx hb dX_takeString_19 rfl (lv_at hl 0 rfl) ?_
        refine lv_aload_n hx hb dX_takeString_20 rfl (lv_at hl 0 rfl) ?_
        refine gX11 S hw dX_takeString_21 ?_
        refine kz_top (y := nI k) g11 ?_
        refine kcXi (rest := []) S kX_81 rfl (tX_tapeByte l I1 F1 T n hT1 k (by omega)) hw hA ⟨Nat.le_of_ble_eq_true rfl, Nat.le_of_ble_eq_true rfl⟩ rfl rfl ⟨Nat.zero_le _, Nat.zero_le _⟩ rfl hl.1 (Nat.le_of_ble_eq_true rfl) dX_takeString_24 (fun r I' F' H locs hq hw => ?_)
        obtain ⟨hr1, hr2, hr3⟩ := hq
        rw [hr2, hr3] at hw
        subst hr1
        refine lv_bipush (v := 34) hx hb dX_takeString_27 (by decide) ?_
        refine lv_icmp_ne (tgt := 44) hx hb dX_takeString_29 (by decide) (fun c29 => ?_) (fun c29 => ?_)
        · skip
          refine lv_aload_n hx hb dX_takeString_44 rfl (lv_at hl 0 rfl) ?_
          refine lv_bipush (v := 34) hx hb dX_takeString_45 (by decide) ?_
          refine kcXi (rest := []) S kX_150 rfl (tX_takeMeantByte l I1 F1 T n hT1 k g11 (by omega) 34) hw hA ⟨Nat.le_of_ble_eq_true rfl, Nat.le_of_ble_eq_true rfl⟩ rfl rfl ⟨Nat.zero_le _, Nat.zero_le _⟩ rfl hl.1 (Nat.le_of_ble_eq_true rfl) dX_takeString_47 (fun r I' F' H locs hq hw => ?_)
          obtain ⟨hr1, hr2, hr3⟩ := hq
          rw [hr2, hr3] at hw
          subst hr1
          refine lv_istore_n (lv' := [(2, .int (meanT T n k 34)), (0, .ref h), (1, .int (nI j))]) hx hb dX_takeString_50 rfl hl (by decide) rfl (fun ls hl => ?_)
          refine lv_iload_n hx hb dX_takeString_51 rfl (lv_at hl 0 rfl) ?_
          refine lv_iconst (v := (-1)) hx hb dX_takeString_52 (by decide) ?_
          refine lv_icmp_ne (tgt := 59) hx hb dX_takeString_53 (by decide) (fun c53 => ?_) (fun c53 => ?_)
          · skip
            refine lv_aload_n hx hb dX_takeString_59 rfl (lv_at hl 1 rfl) ?_
            refine lv_iload_n hx hb dX_takeString_60 rfl (lv_at hl 0 rfl) ?_
            have hmi := mean_in c53
            have hj3 : j ≤ 200 := Nat.le_of_not_lt (fun q => c16 (nI_lt q (by omega)))
            refine kcXv (rest := []) S kX_153 rfl (tX_appendText l (upd I1 11 (nI (nextT T n k))) F1 (e + j) g10 (by omega) (meanT T n k 34)) hw hA ⟨Nat.le_of_ble_eq_true rfl, Nat.le_of_ble_eq_true rfl⟩ rfl rfl ⟨Nat.zero_le _, Nat.zero_le _⟩ rfl hl.1 (Nat.le_of_ble_eq_true rfl) dX_takeString_61 (fun I' F' H locs hq hw => ?_)
            obtain ⟨hr2, hr3⟩ := hq
            rw [hr2, hr3] at hw
            refine lv_iinc (v := nI (j + 1)) (lv' := [(1, .int (nI (j + 1))), (2, .int (meanT T n k 34)), (0, .ref h)]) hx hb dX_takeString_64 hl (k := 2) rfl (nI_1 j) (by decide) rfl (fun ls hl => ?_)
            refine lv_goto (tgt := 12) hx hb dX_takeString_67 (by decide) ?_
            exact ih (j + 1) (nextT T n k) m1 (dn ++ [meanT T n k 34]) _ _ H locs ls (by rw [List.length_append, hj]; rfl) (by omega) (by omega) hmi.2.1 (by omega) (by omega) (by rw [hL, sSc_go c29 c53, List.append_assoc]; rfl) (by rw [hE, sSc_go c29 c53]) rfl rfl (fun k a b => by simp [upd, a, b, gI k a b]) (fun k a => (va_up_ne _ _ a).trans (gF k a)) (fun i x hx => by
              show upd (F1 9) (e + j) _ (e + i) = x
              rcases Nat.lt_or_ge i j with q | q
              · rw [pk_un (by omega)]
                exact gA i x (by rwa [List.getElem?_append_left (by omega)] at hx)
              · rw [List.getElem?_append_right (by omega)] at hx
                have hz := (List.getElem?_eq_some_iff.mp hx).1
                simp only [List.length_singleton] at hz
                have e1 : i = j := by omega
                subst e1
                rw [hj, Nat.sub_self] at hx
                rw [pk_us]
                exact Option.some.inj hx) (fun i hi => by
              show upd (F1 9) (e + j) _ i = _
              rw [pk_un (by omega)]
              exact gB i hi) hw (lv_sub hl [2, 0] rfl)
          · skip
            refine lv_bipush (v := 6) hx hb dX_takeString_56 (by decide) ?_
            exact MX.iret S hr hlk hw dX_takeString_58 rfl ⟨_, rfl, tkP.bad (by
              unfold scS
              rw [hE, sSc_b c29 c53, if_neg (fun q => c29 q.1)]) (fun k a b c => by simp [upd, b, gI k a b]) gF gB ((gI 13 (by decide) (by decide)).trans h13)⟩
        · skip
          refine lv_aload_n hx hb dX_takeString_32 rfl (lv_at hl 0 rfl) ?_
          refine lv_dup hx hb dX_takeString_33 rfl ?_
          refine gX11 S hw dX_takeString_34 ?_
          refine kz_top (y := nI k) g11 ?_
          refine lv_iconst (v := 1) hx hb dX_takeString_37 (by decide) ?_
          refine lv_iadd hx hb dX_takeString_38 ?_
          refine kz_top (y := nI (k + 1)) (nI_add k 1) ?_
          refine pX11 S hw dX_takeString_39 (fun H locs hw => ?_)
          refine lv_iconst (v := 2) hx hb dX_takeString_42 (by decide) ?_
          exact MX.iret S hr hlk hw dX_takeString_43 rfl ⟨_, rfl, by
            rw [sSc_q c29] at hL hE
            rw [List.append_nil] at hL
            have hj3 : j ≤ 200 := Nat.le_of_not_lt (fun q => c16 (nI_lt q (by omega)))
            have eq : scS T n p = (2, 0, k + 1, dn) := by
              unfold scS
              rw [hL, hE, if_pos ⟨c29, by omega⟩]
            rw [eq]
            exact ⟨rfl, fun k a b c => by simp [upd, b, gI k a b], gF, gB, fun q => absurd (show (2 : Int32) = 6 from q) (by decide), fun _ => ⟨rfl, (gI 13 (by decide) (by decide)).trans h13, by rw [hj]; exact g10, gA⟩⟩⟩
  refine lv_aload_n hx hb dX_takeString_0 rfl (lv_at hl 0 rfl) ?_
  refine lv_dup hx hb dX_takeString_1 rfl ?_
  refine gX11 S hw dX_takeString_2 ?_
  refine kz_top (y := nI p) h11 ?_
  refine lv_iconst (v := 1) hx hb dX_takeString_5 (by decide) ?_
  refine lv_iadd hx hb dX_takeString_6 ?_
  refine kz_top (y := nI (p + 1)) (nI_add p 1) ?_
  refine pX11 S hw dX_takeString_7 (fun H locs hw => ?_)
  refine lv_iconst (v := 0) hx hb dX_takeString_10 (by decide) ?_
  refine lv_istore_n (lv' := [(1, .int 0), (0, .ref h)]) hx hb dX_takeString_11 rfl hl (by decide) rfl (fun ls hl => ?_)
  exact loop12 202 0 (p + 1) (n - p) [] (upd I 11 (nI (p + 1))) F H locs ls rfl (by omega) (by omega) (by omega) (by omega) (by omega) rfl rfl rfl h10 (fun k a b => by simp [upd, b]) (fun _ _ => rfl) (fun i x hx => by simp at hx) (fun _ _ => rfl) hw (lv_sub hl [1, 0] rfl)
set_option maxHeartbeats 4000000 in
set_option maxRecDepth 100000 in
theorem tX_takeToken (l : Launch) (I : Nat → Int32) (F : Nat → Nat → Int32) (T : Nat → Int32) (n : Nat) (hT : tpX T n I F) (p e : Nat) (h11 : I 11 = nI p) (hp : p ≤ n) (h10 : I 10 = nI e) (he : e ≤ p) (h13 : I 13 = 0) : MX l yX_takeToken cX_takeToken 2 (some .int) ({ frames := 7, cells := 0, slots := 0, locals := 157 }) [] I F (iR (fun r I' F' => (p = n → r = 5 ∧ I' = I ∧ F' = F) ∧ (p < n → tkP I F e (scT T n p) r I' F'))) := by
  refine MX.mk (by decide) (fun _ => Nat.le_of_ble_eq_true rfl) ?_
  intro z D cA h a pg en s m below meth c ls S hr hlk hA hw hl
  have hx := S.1
  have hb := S.2.1
  have hl : lv_has ls 2 [(0, .ref h)] := hl
  have hn := hT.2.1
  rcases Nat.lt_or_eq_of_le hp with hp | hp
  · skip
    refine lv_aload_n hx hb dX_takeToken_0 rfl (lv_at hl 0 rfl) ?_
    refine lv_aload_n hx hb dX_takeToken_1 rfl (lv_at hl 0 rfl) ?_
    refine gX11 S hw dX_takeToken_2 ?_
    refine kz_top (y := nI p) h11 ?_
    refine kcXi (rest := []) S kX_81 rfl (tX_tapeByte l I F T n hT p (by omega)) hw hA ⟨Nat.le_of_ble_eq_true rfl, Nat.le_of_ble_eq_true rfl⟩ rfl rfl ⟨Nat.zero_le _, Nat.zero_le _⟩ rfl hl.1 (Nat.le_of_ble_eq_true rfl) dX_takeToken_5 (fun r I' F' H locs hq hw => ?_)
    obtain ⟨hr1, hr2, hr3⟩ := hq
    rw [hr2, hr3] at hw
    subst hr1
    refine kz_top (see_in hp) ?_
    refine lv_istore_n (lv' := [(1, .int (T p)), (0, .ref h)]) hx hb dX_takeToken_8 rfl hl (by decide) rfl (fun ls hl => ?_)
    refine lv_iload_n hx hb dX_takeToken_9 rfl (lv_at hl 0 rfl) ?_
    refine lv_iconst (v := (-1)) hx hb dX_takeToken_10 (by decide) ?_
    refine lv_icmp_ne (tgt := 16) hx hb dX_takeToken_11 (by decide) (fun c11 => ?_) (fun c11 => absurd (show T p < 0 by rw [c11]; decide) (hT.2.2.2 p hp))
    refine lv_iload_n hx hb dX_takeToken_16 rfl (lv_at hl 0 rfl) ?_
    refine kcXS (rest := []) S kX_103 (tX_isLetter l z none (T p)) hw hA arNone ⟨Nat.le_of_ble_eq_true rfl, Nat.le_of_ble_eq_true rfl⟩ rfl rfl ⟨Nat.zero_le _, Nat.zero_le _⟩ rfl hl.1 (Nat.le_of_ble_eq_true rfl) dX_takeToken_17 (fun r H locs hq hw => ?_)
    rcases bI hq with ⟨hB1, rfl⟩ | ⟨hB1, rfl⟩
    · skip
      refine lv_if_eq (tgt := 28) hx hb dX_takeToken_20 (by decide) (fun c20 => absurd c20 (by decide)) (fun c20 => ?_)
      refine lv_aload_n hx hb dX_takeToken_23 rfl (lv_at hl 1 rfl) ?_
      refine kcXi (rest := []) S kX_106 rfl (tX_takeWord l I F T n hT p e h11 hp h10 he h13) hw hA ⟨Nat.le_of_ble_eq_true rfl, Nat.le_of_ble_eq_true rfl⟩ rfl rfl ⟨Nat.zero_le _, Nat.zero_le _⟩ rfl hl.1 (Nat.le_of_ble_eq_true rfl) dX_takeToken_24 (fun r I' F' H locs hq hw => ?_)
      exact MX.iret S hr hlk hw dX_takeToken_27 rfl ⟨_, rfl, fun q => absurd q (by omega), fun _ => by unfold scT; rw [if_pos hB1]; exact hq⟩
    · skip
      refine lv_if_eq (tgt := 28) hx hb dX_takeToken_20 (by decide) (fun c20 => ?_) (fun c20 => absurd c20 (by decide))
      refine lv_iload_n hx hb dX_takeToken_28 rfl (lv_at hl 0 rfl) ?_
      refine kcXS (rest := []) S kX_109 (tX_isDecimalDigit l z none (T p)) hw hA arNone ⟨Nat.le_of_ble_eq_true rfl, Nat.le_of_ble_eq_true rfl⟩ rfl rfl ⟨Nat.zero_le _, Nat.zero_le _⟩ rfl hl.1 (Nat.le_of_ble_eq_true rfl) dX_takeToken_29 (fun r H locs hq hw => ?_)
      rcases bI hq with ⟨hB2, rfl⟩ | ⟨hB2, rfl⟩
      · skip
        refine lv_if_eq (tgt := 42) hx hb dX_takeToken_32 (by decide) (fun c32 => absurd c32 (by decide)) (fun c32 => ?_)
        refine lv_aload_n hx hb dX_takeToken_35 rfl (lv_at hl 1 rfl) ?_
        refine lv_bipush (v := 10) hx hb dX_takeToken_36 (by decide) ?_
        refine kcXi (rest := []) S kX_112 rfl (tX_takeDigits l I F T n hT p e 10 h11 (by omega) h10 h13 (by decide)) hw hA ⟨Nat.le_of_ble_eq_true rfl, Nat.le_of_ble_eq_true rfl⟩ rfl rfl ⟨Nat.zero_le _, Nat.zero_le _⟩ rfl hl.1 (Nat.le_of_ble_eq_true rfl) dX_takeToken_38 (fun r I' F' H locs hq hw => ?_)
        exact MX.iret S hr hlk hw dX_takeToken_41 rfl ⟨_, rfl, fun q => absurd q (by omega), fun _ => by unfold scT; rw [if_neg hB1, if_pos hB2]; exact hq⟩
      · skip
        refine lv_if_eq (tgt := 42) hx hb dX_takeToken_32 (by decide) (fun c32 => ?_) (fun c32 => absurd c32 (by decide))
        refine lv_iload_n hx hb dX_takeToken_42 rfl (lv_at hl 0 rfl) ?_
        refine lv_bipush (v := 35) hx hb dX_takeToken_43 (by decide) ?_
        refine lv_icmp_ne (tgt := 53) hx hb dX_takeToken_45 (by decide) (fun c45 => ?_) (fun c45 => ?_)
        · skip
          refine lv_iload_n hx hb dX_takeToken_53 rfl (lv_at hl 0 rfl) ?_
          refine lv_bipush (v := 39) hx hb dX_takeToken_54 (by decide) ?_
          refine lv_icmp_ne (tgt := 64) hx hb dX_takeToken_56 (by decide) (fun c56 => ?_) (fun c56 => ?_)
          · skip
            refine lv_iload_n hx hb dX_takeToken_64 rfl (lv_at hl 0 rfl) ?_
            refine lv_bipush (v := 34) hx hb dX_takeToken_65 (by decide) ?_
            refine lv_icmp_ne (tgt := 77) hx hb dX_takeToken_67 (by decide) (fun c67 => ?_) (fun c67 => ?_)
            · skip
              refine lv_aload_n hx hb dX_takeToken_77 rfl (lv_at hl 1 rfl) ?_
              refine kcXi (rest := []) S kX_124 rfl (tX_takeSign l I F T n hT p e h11 hp h10 he h13) hw hA ⟨Nat.le_of_ble_eq_true rfl, Nat.le_of_ble_eq_true rfl⟩ rfl rfl ⟨Nat.zero_le _, Nat.zero_le _⟩ rfl hl.1 (Nat.le_of_ble_eq_true rfl) dX_takeToken_78 (fun r I' F' H locs hq hw => ?_)
              exact MX.iret S hr hlk hw dX_takeToken_81 rfl ⟨_, rfl, fun q => absurd q (by omega), fun _ => by unfold scT; rw [if_neg hB1, if_neg hB2, if_neg c45, if_neg c56, if_neg c67]; exact hq⟩
            · skip
              refine lv_aload_n hx hb dX_takeToken_70 rfl (lv_at hl 1 rfl) ?_
              refine kcXi (rest := []) S kX_121 rfl (tX_takeString l I F T n hT p e h11 hp h10 he h13) hw hA ⟨Nat.le_of_ble_eq_true rfl, Nat.le_of_ble_eq_true rfl⟩ rfl rfl ⟨Nat.zero_le _, Nat.zero_le _⟩ rfl hl.1 (Nat.le_of_ble_eq_true rfl) dX_takeToken_71 (fun r I' F' H locs hq hw => ?_)
              refine lv_goto (tgt := 81) hx hb dX_takeToken_74 (by decide) ?_
              exact MX.iret S hr hlk hw dX_takeToken_81 rfl ⟨_, rfl, fun q => absurd q (by omega), fun _ => by unfold scT; rw [if_neg hB1, if_neg hB2, if_neg c45, if_neg c56, if_pos c67]; exact hq⟩
          · skip
            refine lv_aload_n hx hb dX_takeToken_59 rfl (lv_at hl 1 rfl) ?_
            refine kcXi (rest := []) S kX_118 rfl (tX_takeCharacter l I F T n hT p e h11 hp h10 he h13) hw hA ⟨Nat.le_of_ble_eq_true rfl, Nat.le_of_ble_eq_true rfl⟩ rfl rfl ⟨Nat.zero_le _, Nat.zero_le _⟩ rfl hl.1 (Nat.le_of_ble_eq_true rfl) dX_takeToken_60 (fun r I' F' H locs hq hw => ?_)
            exact MX.iret S hr hlk hw dX_takeToken_63 rfl ⟨_, rfl, fun q => absurd q (by omega), fun _ => by unfold scT; rw [if_neg hB1, if_neg hB2, if_neg c45, if_pos c56]; exact hq⟩
        · skip
          refine lv_aload_n hx hb dX_takeToken_48 rfl (lv_at hl 1 rfl) ?_
          refine kcXi (rest := []) S kX_115 rfl (tX_takeNumberInBase l I F T n hT p e h11 hp h10 he h13) hw hA ⟨Nat.le_of_ble_eq_true rfl, Nat.le_of_ble_eq_true rfl⟩ rfl rfl ⟨Nat.zero_le _, Nat.zero_le _⟩ rfl hl.1 (Nat.le_of_ble_eq_true rfl) dX_takeToken_49 (fun r I' F' H locs hq hw => ?_)
          exact MX.iret S hr hlk hw dX_takeToken_52 rfl ⟨_, rfl, fun q => absurd q (by omega), fun _ => by unfold scT; rw [if_neg hB1, if_neg hB2, if_pos c45]; exact hq⟩
  · skip
    refine lv_aload_n hx hb dX_takeToken_0 rfl (lv_at hl 0 rfl) ?_
    refine lv_aload_n hx hb dX_takeToken_1 rfl (lv_at hl 0 rfl) ?_
    refine gX11 S hw dX_takeToken_2 ?_
    refine kz_top (y := nI p) h11 ?_
    refine kcXi (rest := []) S kX_81 rfl (tX_tapeByte l I F T n hT p (by omega)) hw hA ⟨Nat.le_of_ble_eq_true rfl, Nat.le_of_ble_eq_true rfl⟩ rfl rfl ⟨Nat.zero_le _, Nat.zero_le _⟩ rfl hl.1 (Nat.le_of_ble_eq_true rfl) dX_takeToken_5 (fun r I' F' H locs hq hw => ?_)
    obtain ⟨hr1, hr2, hr3⟩ := hq
    rw [hr2, hr3] at hw
    subst hr1
    refine kz_top (y := -1) (see_out (Nat.le_of_eq hp.symm)) ?_
    refine lv_istore_n (lv' := [(1, .int (-1)), (0, .ref h)]) hx hb dX_takeToken_8 rfl hl (by decide) rfl (fun ls hl => ?_)
    refine lv_iload_n hx hb dX_takeToken_9 rfl (lv_at hl 0 rfl) ?_
    refine lv_iconst (v := (-1)) hx hb dX_takeToken_10 (by decide) ?_
    refine lv_icmp_ne (tgt := 16) hx hb dX_takeToken_11 (by decide) (fun c11 => absurd c11 (by decide)) (fun c11 => ?_)
    refine lv_iconst (v := 5) hx hb dX_takeToken_14 (by decide) ?_
    exact MX.iret S hr hlk hw dX_takeToken_15 rfl ⟨_, rfl, fun _ => ⟨rfl, rfl, rfl⟩, fun q => absurd q (by omega)⟩
end
section
/-! ===== the row of tokens ===== -/
/-- the tokens ts lie in the class's arrays, their texts below e -/
def repX (ts : List kz_T) (e : Nat) (I : Nat → Int32) (F : Nat → Nat → Int32) : Prop := I 8 = nI ts.length ∧ ts.length ≤ 1001 ∧ ∀ (k : Nat) (t : kz_T), ts[k]? = some t → F 2 k = t.1 ∧ F 3 k = nI t.2.1 ∧ F 4 k = nI t.2.2.1 ∧ F 5 k = t.2.2.2.1 ∧ t.2.2.1 ≤ 1000 ∧ ∃ b : Nat, F 6 k = nI b ∧ F 7 k = nI t.2.2.2.2.length ∧ b + t.2.2.2.2.length ≤ e ∧ ∀ j x, t.2.2.2.2[j]? = some x → F 9 (b + j) = x
abbrev tokI (x : Int32) (c : Nat) : Prop := ¬ x < 0 ∧ ¬ nI c ≤ x
abbrev endX (k : Int32) (tx : List Int32) : Prop := (¬ iSok k ∧ iOpd k) ∨ (iSok k ∧ (tx ∈ wK 4 ∨ tx ∈ wK 0))
abbrev begX (k : Int32) (tx : List Int32) : Prop := (¬ iSok k ∧ iOpd k) ∨ (iSok k ∧ (tx ∈ wK 5 ∨ tx ∈ wK 0 ∨ tx ∈ wK 1))
def semX (ts : List kz_T) (L : Nat) (k : Int32) (tx : List Int32) : Bool := match ts.getLast? with
  | none => false
  | some t => decide (t.2.2.1 < L ∧ endX t.1 t.2.2.2.2 ∧ begX k tx)
theorem semX_c (ts0 : List kz_T) (t : kz_T) (L : Nat) (k : Int32) (tx : List Int32) : semX (ts0.concat t) L k tx = true ↔ (t.2.2.1 < L ∧ endX t.1 t.2.2.2.2 ∧ begX k tx) := by
  unfold semX
  rw [List.concat_eq_append, List.getLast?_concat]
  exact decide_eq_true_iff
theorem key_text {f : Nat → Int32} {b : Nat} {tx : List Int32} (h : ∀ j x, tx[j]? = some x → f (b + j) = x) : keyL (fun k => f (b + k)) tx.length = tx := by
  unfold keyL
  apply List.ext_getElem?
  intro j
  rw [List.getElem?_map]
  by_cases hj : j < tx.length
  · rw [List.getElem?_range hj, List.getElem?_eq_getElem hj]
    exact congrArg some (h j _ (List.getElem?_eq_getElem hj))
  · rw [List.getElem?_eq_none (by simp; omega), List.getElem?_eq_none (by omega)]
    rfl
set_option maxHeartbeats 4000000 in
set_option maxRecDepth 100000 in
theorem tX_isToken (l : Launch) (I : Nat → Int32) (F : Nat → Nat → Int32) (c0 : Nat) (h8 : I 8 = nI c0) (hc0 : c0 ≤ 1001) (x : Int32) : MX l yX_isToken cX_isToken 2 (some .boolean) ({ frames := 0, cells := 0, slots := 0, locals := 0 }) [.int x] I F (iR (fun r I' F' => r = (if tokI x c0 then 1 else 0) ∧ I' = I ∧ F' = F)) := by
  refine MX.mk (by decide) (fun _ => Nat.le_of_ble_eq_true rfl) ?_
  intro z D cA h a pg en s m below meth c ls S hr hlk hA hw hl
  have hx := S.1
  have hb := S.2.1
  have hl : lv_has ls 2 [(0, .ref h), (1, .int x)] := hl
  refine lv_iload_n hx hb dX_isToken_0 rfl (lv_at hl 1 rfl) ?_
  refine lv_if_lt (tgt := 23) hx hb dX_isToken_1 (by decide) (fun c1 => ?_) (fun c1 => ?_)
  · skip
    refine lv_iconst (v := 0) hx hb dX_isToken_23 (by decide) ?_
    exact MX.iret S hr hlk hw dX_isToken_24 (by first | rfl | decide) ⟨_, rfl, by simp [tokI, c1], rfl, rfl⟩
  · skip
    refine lv_iload_n hx hb dX_isToken_4 rfl (lv_at hl 1 rfl) ?_
    refine lv_aload_n hx hb dX_isToken_5 rfl (lv_at hl 0 rfl) ?_
    refine gX8 S hw dX_isToken_6 ?_
    refine kz_top (y := nI c0) h8 ?_
    refine lv_icmp_ge (tgt := 23) hx hb dX_isToken_9 (by decide) (fun c9 => ?_) (fun c9 => ?_)
    · skip
      refine lv_iconst (v := 0) hx hb dX_isToken_23 (by decide) ?_
      exact MX.iret S hr hlk hw dX_isToken_24 (by first | rfl | decide) ⟨_, rfl, by simp [tokI, c1, c9], rfl, rfl⟩
    · skip
      refine lv_iload_n hx hb dX_isToken_12 rfl (lv_at hl 1 rfl) ?_
      refine lv_sipush (v := 1001) hx hb dX_isToken_13 (by decide) ?_
      refine lv_icmp_ge (tgt := 23) hx hb dX_isToken_16 (by decide) (fun c16 => absurd c16 (fun q => c9 (Int32.le_trans (nI_le hc0 (by decide)) q))) (fun c16 => ?_)
      refine lv_iconst (v := 1) hx hb dX_isToken_19 (by decide) ?_
      refine lv_goto (tgt := 24) hx hb dX_isToken_20 (by decide) ?_
      exact MX.iret S hr hlk hw dX_isToken_24 (by first | rfl | decide) ⟨_, rfl, by simp [tokI, c1, c9], rfl, rfl⟩
set_option maxHeartbeats 4000000 in
set_option maxRecDepth 100000 in
theorem tX_mayEndStatement (l : Launch) (I : Nat → Int32) (F : Nat → Nat → Int32) (k : Int32) (b : Nat) (tx : List Int32) (hb1 : b + tx.length ≤ 1000) (hb2 : ∀ j x, tx[j]? = some x → F 9 (b + j) = x) : MX l yX_mayEndStatement cX_mayEndStatement 4 (some .boolean) ({ frames := 5, cells := 0, slots := 0, locals := 112 }) [.int k, .int (nI b), .int (nI tx.length)] I F (iR (fun r I' F' => r = (if endX k tx then 1 else 0) ∧ I' = I ∧ F' = F)) := by
  refine MX.mk (by decide) (fun _ => Nat.le_of_ble_eq_true rfl) ?_
  intro z D cA h a pg en s m below meth c ls S hr hlk hA hw hl
  have hx := S.1
  have hb := S.2.1
  have hl : lv_has ls 4 [(0, .ref h), (1, .int k), (2, .int (nI b)), (3, .int (nI tx.length))] := hl
  refine lv_iload_n hx hb dX_mayEndStatement_0 rfl (lv_at hl 1 rfl) ?_
  refine kcXS (rest := []) S kX_65 (tX_isSignOrKeyword l z none k) hw hA arNone ⟨Nat.le_of_ble_eq_true rfl, Nat.le_of_ble_eq_true rfl⟩ rfl rfl ⟨Nat.zero_le _, Nat.zero_le _⟩ rfl hl.1 (Nat.le_of_ble_eq_true rfl) dX_mayEndStatement_1 (fun r H locs hq hw => ?_)
  rcases bI hq with ⟨hB1, rfl⟩ | ⟨hB1, rfl⟩
  · skip
    refine lv_if_ne (tgt := 12) hx hb dX_mayEndStatement_4 (by decide) (fun c4 => ?_) (fun c4 => absurd c4 (by decide))
    refine va_ldcS hx hb S.2.2.2.1 (rK_4 hw.2.2.2.2.2) dX_mayEndStatement_12 ?_
    refine lv_aload_n hx hb dX_mayEndStatement_14 rfl (lv_at hl 0 rfl) ?_
    refine gX9 S hw dX_mayEndStatement_15 ?_
    refine lv_iload_n hx hb dX_mayEndStatement_18 rfl (lv_at hl 2 rfl) ?_
    refine lv_iload_n hx hb dX_mayEndStatement_19 rfl (lv_at hl 3 rfl) ?_
    refine kcXS (rest := []) S kX_73 (tX_numberInList l z 4 (by decide) (a 9) 1000 (F 9) (by decide) b tx.length hb1) hw hA (arX9 hw) ⟨Nat.le_of_ble_eq_true rfl, Nat.le_of_ble_eq_true rfl⟩ rfl rfl ⟨Nat.zero_le _, Nat.zero_le _⟩ rfl hl.1 (Nat.le_of_ble_eq_true rfl) dX_mayEndStatement_20 (fun r H locs hq hw => ?_)
    rw [nil_wK (by decide), key_text hb2] at hq
    subst hq
    refine lv_iconst (v := (-1)) hx hb dX_mayEndStatement_23 (by decide) ?_
    refine lv_icmp_ne (tgt := 42) hx hb dX_mayEndStatement_24 (by decide) (fun c24 => ?_) (fun c24 => ?_)
    · skip
      refine lv_iconst (v := 1) hx hb dX_mayEndStatement_42 (by decide) ?_
      refine lv_goto (tgt := 47) hx hb dX_mayEndStatement_43 (by decide) ?_
      exact MX.iret S hr hlk hw dX_mayEndStatement_47 (by first | rfl | decide | (rw [hq]; split <;> rfl)) ⟨_, rfl, by have hmc24 := (wixK_mem (i := 4) (by decide) tx).mp c24; simp [endX, hB1, hmc24], rfl, rfl⟩
    · skip
      refine va_ldcS hx hb S.2.2.2.1 (rK_0 hw.2.2.2.2.2) dX_mayEndStatement_27 ?_
      refine lv_aload_n hx hb dX_mayEndStatement_29 rfl (lv_at hl 0 rfl) ?_
      refine gX9 S hw dX_mayEndStatement_30 ?_
      refine lv_iload_n hx hb dX_mayEndStatement_33 rfl (lv_at hl 2 rfl) ?_
      refine lv_iload_n hx hb dX_mayEndStatement_34 rfl (lv_at hl 3 rfl) ?_
      refine kcXS (rest := []) S kX_73 (tX_numberInList l z 0 (by decide) (a 9) 1000 (F 9) (by decide) b tx.length hb1) hw hA (arX9 hw) ⟨Nat.le_of_ble_eq_true rfl, Nat.le_of_ble_eq_true rfl⟩ rfl rfl ⟨Nat.zero_le _, Nat.zero_le _⟩ rfl hl.1 (Nat.le_of_ble_eq_true rfl) dX_mayEndStatement_35 (fun r H locs hq hw => ?_)
      rw [nil_wK (by decide), key_text hb2] at hq
      subst hq
      refine lv_iconst (v := (-1)) hx hb dX_mayEndStatement_38 (by decide) ?_
      refine lv_icmp_eq (tgt := 46) hx hb dX_mayEndStatement_39 (by decide) (fun c39 => ?_) (fun c39 => ?_)
      · skip
        refine lv_iconst (v := 0) hx hb dX_mayEndStatement_46 (by decide) ?_
        exact MX.iret S hr hlk hw dX_mayEndStatement_47 (by first | rfl | decide | (rw [hq]; split <;> rfl)) ⟨_, rfl, by have hmc24 := (show ¬ tx ∈ wK 4 from fun q => (wixK_mem (by decide) tx).mpr q c24); have hmc39 := (show ¬ tx ∈ wK 0 from fun q => (wixK_mem (by decide) tx).mpr q c39); simp [endX, hB1, hmc24, hmc39], rfl, rfl⟩
      · skip
        refine lv_iconst (v := 1) hx hb dX_mayEndStatement_42 (by decide) ?_
        refine lv_goto (tgt := 47) hx hb dX_mayEndStatement_43 (by decide) ?_
        exact MX.iret S hr hlk hw dX_mayEndStatement_47 (by first | rfl | decide | (rw [hq]; split <;> rfl)) ⟨_, rfl, by have hmc24 := (show ¬ tx ∈ wK 4 from fun q => (wixK_mem (by decide) tx).mpr q c24); have hmc39 := (wixK_mem (i := 0) (by decide) tx).mp c39; simp [endX, hB1, hmc24, hmc39], rfl, rfl⟩
  · skip
    refine lv_if_ne (tgt := 12) hx hb dX_mayEndStatement_4 (by decide) (fun c4 => absurd c4 (by decide)) (fun c4 => ?_)
    refine lv_iload_n hx hb dX_mayEndStatement_7 rfl (lv_at hl 1 rfl) ?_
    refine kcXS (rest := []) S kX_180 (tX_isOperand l z none k) hw hA arNone ⟨Nat.le_of_ble_eq_true rfl, Nat.le_of_ble_eq_true rfl⟩ rfl rfl ⟨Nat.zero_le _, Nat.zero_le _⟩ rfl hl.1 (Nat.le_of_ble_eq_true rfl) dX_mayEndStatement_8 (fun r H locs hq hw => ?_)
    exact MX.iret S hr hlk hw dX_mayEndStatement_11 (by first | rfl | decide | (rw [hq]; split <;> rfl)) ⟨_, rfl, by rw [hq]; simp [endX, hB1], rfl, rfl⟩
set_option maxHeartbeats 4000000 in
set_option maxRecDepth 100000 in
theorem tX_mayBeginStatement (l : Launch) (I : Nat → Int32) (F : Nat → Nat → Int32) (k : Int32) (b : Nat) (tx : List Int32) (hb1 : b + tx.length ≤ 1000) (hb2 : ∀ j x, tx[j]? = some x → F 9 (b + j) = x) : MX l yX_mayBeginStatement cX_mayBeginStatement 4 (some .boolean) ({ frames := 5, cells := 0, slots := 0, locals := 112 }) [.int k, .int (nI b), .int (nI tx.length)] I F (iR (fun r I' F' => r = (if begX k tx then 1 else 0) ∧ I' = I ∧ F' = F)) := by
  refine MX.mk (by decide) (fun _ => Nat.le_of_ble_eq_true rfl) ?_
  intro z D cA h a pg en s m below meth c ls S hr hlk hA hw hl
  have hx := S.1
  have hb := S.2.1
  have hl : lv_has ls 4 [(0, .ref h), (1, .int k), (2, .int (nI b)), (3, .int (nI tx.length))] := hl
  refine lv_iload_n hx hb dX_mayBeginStatement_0 rfl (lv_at hl 1 rfl) ?_
  refine kcXS (rest := []) S kX_65 (tX_isSignOrKeyword l z none k) hw hA arNone ⟨Nat.le_of_ble_eq_true rfl, Nat.le_of_ble_eq_true rfl⟩ rfl rfl ⟨Nat.zero_le _, Nat.zero_le _⟩ rfl hl.1 (Nat.le_of_ble_eq_true rfl) dX_mayBeginStatement_1 (fun r H locs hq hw => ?_)
  rcases bI hq with ⟨hB1, rfl⟩ | ⟨hB1, rfl⟩
  · skip
    refine lv_if_ne (tgt := 12) hx hb dX_mayBeginStatement_4 (by decide) (fun c4 => ?_) (fun c4 => absurd c4 (by decide))
    refine va_ldcS hx hb S.2.2.2.1 (rK_5 hw.2.2.2.2.2) dX_mayBeginStatement_12 ?_
    refine lv_aload_n hx hb dX_mayBeginStatement_14 rfl (lv_at hl 0 rfl) ?_
    refine gX9 S hw dX_mayBeginStatement_15 ?_
    refine lv_iload_n hx hb dX_mayBeginStatement_18 rfl (lv_at hl 2 rfl) ?_
    refine lv_iload_n hx hb dX_mayBeginStatement_19 rfl (lv_at hl 3 rfl) ?_
    refine kcXS (rest := []) S kX_73 (tX_numberInList l z 5 (by decide) (a 9) 1000 (F 9) (by decide) b tx.length hb1) hw hA (arX9 hw) ⟨Nat.le_of_ble_eq_true rfl, Nat.le_of_ble_eq_true rfl⟩ rfl rfl ⟨Nat.zero_le _, Nat.zero_le _⟩ rfl hl.1 (Nat.le_of_ble_eq_true rfl) dX_mayBeginStatement_20 (fun r H locs hq hw => ?_)
    rw [nil_wK (by decide), key_text hb2] at hq
    subst hq
    refine lv_iconst (v := (-1)) hx hb dX_mayBeginStatement_23 (by decide) ?_
    refine lv_icmp_ne (tgt := 57) hx hb dX_mayBeginStatement_24 (by decide) (fun c24 => ?_) (fun c24 => ?_)
    · skip
      refine lv_iconst (v := 1) hx hb dX_mayBeginStatement_57 (by decide) ?_
      refine lv_goto (tgt := 62) hx hb dX_mayBeginStatement_58 (by decide) ?_
      exact MX.iret S hr hlk hw dX_mayBeginStatement_62 (by first | rfl | decide | (rw [hq]; split <;> rfl)) ⟨_, rfl, by have hmc24 := (wixK_mem (i := 5) (by decide) tx).mp c24; simp [begX, hB1, hmc24], rfl, rfl⟩
    · skip
      refine va_ldcS hx hb S.2.2.2.1 (rK_0 hw.2.2.2.2.2) dX_mayBeginStatement_27 ?_
      refine lv_aload_n hx hb dX_mayBeginStatement_29 rfl (lv_at hl 0 rfl) ?_
      refine gX9 S hw dX_mayBeginStatement_30 ?_
      refine lv_iload_n hx hb dX_mayBeginStatement_33 rfl (lv_at hl 2 rfl) ?_
      refine lv_iload_n hx hb dX_mayBeginStatement_34 rfl (lv_at hl 3 rfl) ?_
      refine kcXS (rest := []) S kX_73 (tX_numberInList l z 0 (by decide) (a 9) 1000 (F 9) (by decide) b tx.length hb1) hw hA (arX9 hw) ⟨Nat.le_of_ble_eq_true rfl, Nat.le_of_ble_eq_true rfl⟩ rfl rfl ⟨Nat.zero_le _, Nat.zero_le _⟩ rfl hl.1 (Nat.le_of_ble_eq_true rfl) dX_mayBeginStatement_35 (fun r H locs hq hw => ?_)
      rw [nil_wK (by decide), key_text hb2] at hq
      subst hq
      refine lv_iconst (v := (-1)) hx hb dX_mayBeginStatement_38 (by decide) ?_
      refine lv_icmp_ne (tgt := 57) hx hb dX_mayBeginStatement_39 (by decide) (fun c39 => ?_) (fun c39 => ?_)
      · skip
        refine lv_iconst (v := 1) hx hb dX_mayBeginStatement_57 (by decide) ?_
        refine lv_goto (tgt := 62) hx hb dX_mayBeginStatement_58 (by decide) ?_
        exact MX.iret S hr hlk hw dX_mayBeginStatement_62 (by first | rfl | decide | (rw [hq]; split <;> rfl)) ⟨_, rfl, by have hmc24 := (show ¬ tx ∈ wK 5 from fun q => (wixK_mem (by decide) tx).mpr q c24); have hmc39 := (wixK_mem (i := 0) (by decide) tx).mp c39; simp [begX, hB1, hmc24, hmc39], rfl, rfl⟩
      · skip
        refine va_ldcS hx hb S.2.2.2.1 (rK_1 hw.2.2.2.2.2) dX_mayBeginStatement_42 ?_
        refine lv_aload_n hx hb dX_mayBeginStatement_44 rfl (lv_at hl 0 rfl) ?_
        refine gX9 S hw dX_mayBeginStatement_45 ?_
        refine lv_iload_n hx hb dX_mayBeginStatement_48 rfl (lv_at hl 2 rfl) ?_
        refine lv_iload_n hx hb dX_mayBeginStatement_49 rfl (lv_at hl 3 rfl) ?_
        refine kcXS (rest := []) S kX_73 (tX_numberInList l z 1 (by decide) (a 9) 1000 (F 9) (by decide) b tx.length hb1) hw hA (arX9 hw) ⟨Nat.le_of_ble_eq_true rfl, Nat.le_of_ble_eq_true rfl⟩ rfl rfl ⟨Nat.zero_le _, Nat.zero_le _⟩ rfl hl.1 (Nat.le_of_ble_eq_true rfl) dX_mayBeginStatement_50 (fun r H locs hq hw => ?_)
        rw [nil_wK (by decide), key_text hb2] at hq
        subst hq
        refine lv_iconst (v := (-1)) hx hb dX_mayBeginStatement_53 (by decide) ?_
        refine lv_icmp_eq (tgt := 61) hx hb dX_mayBeginStatement_54 (by decide) (fun c54 => ?_) (fun c54 => ?_)
        · skip
          refine lv_iconst (v := 0) hx hb dX_mayBeginStatement_61 (by decide) ?_
          exact MX.iret S hr hlk hw dX_mayBeginStatement_62 (by first | rfl | decide | (rw [hq]; split <;> rfl)) ⟨_, rfl, by have hmc24 := (show ¬ tx ∈ wK 5 from fun q => (wixK_mem (by decide) tx).mpr q c24); have hmc39 := (show ¬ tx ∈ wK 0 from fun q => (wixK_mem (by decide) tx).mpr q c39); have hmc54 := (show ¬ tx ∈ wK 1 from fun q => (wixK_mem (by decide) tx).mpr q c54); simp [begX, hB1, hmc24, hmc39, hmc54], rfl, rfl⟩
        · skip
          refine lv_iconst (v := 1) hx hb dX_mayBeginStatement_57 (by decide) ?_
          refine lv_goto (tgt := 62) hx hb dX_mayBeginStatement_58 (by decide) ?_
          exact MX.iret S hr hlk hw dX_mayBeginStatement_62 (by first | rfl | decide | (rw [hq]; split <;> rfl)) ⟨_, rfl, by have hmc24 := (show ¬ tx ∈ wK 5 from fun q => (wixK_mem (by decide) tx).mpr q c24); have hmc39 := (show ¬ tx ∈ wK 0 from fun q => (wixK_mem (by decide) tx).mpr q c39); have hmc54 := (wixK_mem (i := 1) (by decide) tx).mp c54; simp [begX, hB1, hmc24, hmc39, hmc54], rfl, rfl⟩
  · skip
    refine lv_if_ne (tgt := 12) hx hb dX_mayBeginStatement_4 (by decide) (fun c4 => absurd c4 (by decide)) (fun c4 => ?_)
    refine lv_iload_n hx hb dX_mayBeginStatement_7 rfl (lv_at hl 1 rfl) ?_
    refine kcXS (rest := []) S kX_180 (tX_isOperand l z none k) hw hA arNone ⟨Nat.le_of_ble_eq_true rfl, Nat.le_of_ble_eq_true rfl⟩ rfl rfl ⟨Nat.zero_le _, Nat.zero_le _⟩ rfl hl.1 (Nat.le_of_ble_eq_true rfl) dX_mayBeginStatement_8 (fun r H locs hq hw => ?_)
    exact MX.iret S hr hlk hw dX_mayBeginStatement_11 (by first | rfl | decide | (rw [hq]; split <;> rfl)) ⟨_, rfl, by rw [hq]; simp [begX, hB1], rfl, rfl⟩
set_option maxHeartbeats 4000000 in
set_option maxRecDepth 100000 in
theorem tX_isSemicolonDue (l : Launch) (I : Nat → Int32) (F : Nat → Nat → Int32) (ts : List kz_T) (e0 L : Nat) (hrp : repX ts e0 I F) (he0 : e0 ≤ 1000) (h12 : I 12 = nI L) (hL : L ≤ 1000) (k : Int32) (b : Nat) (tx : List Int32) (hb1 : b + tx.length ≤ 1000) (hb2 : ∀ j x, tx[j]? = some x → F 9 (b + j) = x) : MX l yX_isSemicolonDue cX_isSemicolonDue 5 (some .boolean) ({ frames := 6, cells := 0, slots := 0, locals := 135 }) [.int k, .int (nI b), .int (nI tx.length)] I F (iR (fun r I' F' => r = (if semX ts L k tx = true then 1 else 0) ∧ I' = I ∧ F' = F)) := by
  refine MX.mk (by decide) (fun _ => Nat.le_of_ble_eq_true rfl) ?_
  intro z D cA h a pg en s m below meth c ls S hr hlk hA hw hl
  have hx := S.1
  have hb := S.2.1
  have hl : lv_has ls 5 [(0, .ref h), (1, .int k), (2, .int (nI b)), (3, .int (nI tx.length))] := hl
  rcases List.eq_nil_or_concat ts with rfl | ⟨ts0, t, rfl⟩
  · skip
    refine lv_aload_n hx hb dX_isSemicolonDue_0 rfl (lv_at hl 0 rfl) ?_
    refine gX8 S hw dX_isSemicolonDue_1 ?_
    refine kz_top (y := nI 0) hrp.1 ?_
    refine lv_iconst (v := 1) hx hb dX_isSemicolonDue_4 (by decide) ?_
    refine lv_isub hx hb dX_isSemicolonDue_5 ?_
    refine kz_top (y := -1) (by decide) ?_
    refine lv_istore (lv' := [(4, .int (-1)), (0, .ref h), (1, .int k), (2, .int (nI b)), (3, .int (nI tx.length))]) hx hb dX_isSemicolonDue_6 hl (by decide) rfl (fun ls hl => ?_)
    refine lv_aload_n hx hb dX_isSemicolonDue_8 rfl (lv_at hl 1 rfl) ?_
    refine lv_iload hx hb dX_isSemicolonDue_9 (lv_at hl 0 rfl) ?_
    refine kcXi (rest := []) S kX_61 rfl (tX_isToken l I F ([] : List kz_T).length hrp.1 hrp.2.1  (-1)) hw hA ⟨Nat.le_of_ble_eq_true rfl, Nat.le_of_ble_eq_true rfl⟩ rfl rfl ⟨Nat.zero_le _, Nat.zero_le _⟩ rfl hl.1 (Nat.le_of_ble_eq_true rfl) dX_isSemicolonDue_11 (fun r I' F' H locs hq hw => ?_)
    obtain ⟨hr1, hr2, hr3⟩ := hq
    rw [hr2, hr3] at hw
    rw [if_neg (fun q => q.1 (by decide))] at hr1
    subst hr1
    refine lv_if_eq (tgt := 73) hx hb dX_isSemicolonDue_14 (by decide) (fun c14 => ?_) (fun c14 => absurd c14 (by decide))
    refine lv_iconst (v := 0) hx hb dX_isSemicolonDue_73 (by decide) ?_
    exact MX.iret S hr hlk hw dX_isSemicolonDue_74 (by first | rfl | decide) ⟨_, rfl, by simp [semX], rfl, rfl⟩
  · skip
    obtain ⟨h8, hlen, hall⟩ := id hrp
    have hlen1 : (ts0.concat t).length = ts0.length + 1 := by simp
    rw [hlen1] at hlen
    obtain ⟨f2, f3, f4, f5, fl, b0, f6, f7, f8, f9⟩ := hall ts0.length t (by simp)
    have hcl : (nI ts0.length).toNatClampNeg = ts0.length := nI_clamp (by omega)
    refine lv_aload_n hx hb dX_isSemicolonDue_0 rfl (lv_at hl 0 rfl) ?_
    refine gX8 S hw dX_isSemicolonDue_1 ?_
    refine kz_top (y := nI (ts0.concat t).length) hrp.1 ?_
    refine lv_iconst (v := 1) hx hb dX_isSemicolonDue_4 (by decide) ?_
    refine lv_isub hx hb dX_isSemicolonDue_5 ?_
    refine kz_top (y := nI ts0.length) (by rw [hlen1]; exact nI_pred _) ?_
    refine lv_istore (lv' := [(4, .int (nI ts0.length)), (0, .ref h), (1, .int k), (2, .int (nI b)), (3, .int (nI tx.length))]) hx hb dX_isSemicolonDue_6 hl (by decide) rfl (fun ls hl => ?_)
    refine lv_aload_n hx hb dX_isSemicolonDue_8 rfl (lv_at hl 1 rfl) ?_
    refine lv_iload hx hb dX_isSemicolonDue_9 (lv_at hl 0 rfl) ?_
    refine kcXi (rest := []) S kX_61 rfl (tX_isToken l I F (ts0.concat t).length hrp.1 hrp.2.1  (nI ts0.length)) hw hA ⟨Nat.le_of_ble_eq_true rfl, Nat.le_of_ble_eq_true rfl⟩ rfl rfl ⟨Nat.zero_le _, Nat.zero_le _⟩ rfl hl.1 (Nat.le_of_ble_eq_true rfl) dX_isSemicolonDue_11 (fun r I' F' H locs hq hw => ?_)
    obtain ⟨hr1, hr2, hr3⟩ := hq
    rw [hr2, hr3] at hw
    rw [if_pos ⟨nI_pos (by omega), by rw [hlen1]; exact nI_ge (Nat.lt_succ_self _) (by omega)⟩] at hr1
    subst hr1
    refine lv_if_eq (tgt := 73) hx hb dX_isSemicolonDue_14 (by decide) (fun c14 => absurd c14 (by decide)) (fun c14 => ?_)
    refine lv_aload_n hx hb dX_isSemicolonDue_17 rfl (lv_at hl 1 rfl) ?_
    refine gX4 S hw dX_isSemicolonDue_18 ?_
    refine lv_iload hx hb dX_isSemicolonDue_21 (lv_at hl 0 rfl) ?_
    refine ldX4 S hw (vp_in_nI (by omega) (by decide)) dX_isSemicolonDue_23 ?_
    refine kz_top (y := nI t.2.2.1) (by rw [hcl]; exact f4) ?_
    refine lv_aload_n hx hb dX_isSemicolonDue_24 rfl (lv_at hl 1 rfl) ?_
    refine gX12 S hw dX_isSemicolonDue_25 ?_
    refine kz_top (y := nI L) h12 ?_
    refine lv_icmp_ge (tgt := 73) hx hb dX_isSemicolonDue_28 (by decide) (fun c28 => ?_) (fun c28 => ?_)
    · skip
      refine lv_iconst (v := 0) hx hb dX_isSemicolonDue_73 (by decide) ?_
      exact MX.iret S hr hlk hw dX_isSemicolonDue_74 (by first | rfl | decide) ⟨_, rfl, by rw [if_neg (fun q0 => by have q := (semX_c _ _ _ _ _).mp q0; exact absurd ((nI_leI (by omega) (by omega)).mp c28) (by have := q.1; omega))], rfl, rfl⟩
    · skip
      refine lv_aload_n hx hb dX_isSemicolonDue_31 rfl (lv_at hl 1 rfl) ?_
      refine lv_aload_n hx hb dX_isSemicolonDue_32 rfl (lv_at hl 1 rfl) ?_
      refine gX2 S hw dX_isSemicolonDue_33 ?_
      refine lv_iload hx hb dX_isSemicolonDue_36 (lv_at hl 0 rfl) ?_
      refine ldX2 S hw (vp_in_nI (by omega) (by decide)) dX_isSemicolonDue_38 ?_
      refine kz_top (y := t.1) (by rw [hcl]; exact f2) ?_
      refine lv_aload_n hx hb dX_isSemicolonDue_39 rfl (lv_at hl 1 rfl) ?_
      refine gX6 S hw dX_isSemicolonDue_40 ?_
      refine lv_iload hx hb dX_isSemicolonDue_43 (lv_at hl 0 rfl) ?_
      refine ldX6 S hw (vp_in_nI (by omega) (by decide)) dX_isSemicolonDue_45 ?_
      refine kz_top (y := nI b0) (by rw [hcl]; exact f6) ?_
      refine lv_aload_n hx hb dX_isSemicolonDue_46 rfl (lv_at hl 1 rfl) ?_
      refine gX7 S hw dX_isSemicolonDue_47 ?_
      refine lv_iload hx hb dX_isSemicolonDue_50 (lv_at hl 0 rfl) ?_
      refine ldX7 S hw (vp_in_nI (by omega) (by decide)) dX_isSemicolonDue_52 ?_
      refine kz_top (y := nI t.2.2.2.2.length) (by rw [hcl]; exact f7) ?_
      refine kcXi (rest := []) S kX_174 rfl (tX_mayEndStatement l I F t.1 b0 t.2.2.2.2 (by omega) f9) hw hA ⟨Nat.le_of_ble_eq_true rfl, Nat.le_of_ble_eq_true rfl⟩ rfl rfl ⟨Nat.zero_le _, Nat.zero_le _⟩ rfl hl.1 (Nat.le_of_ble_eq_true rfl) dX_isSemicolonDue_53 (fun r I' F' H locs hq hw => ?_)
      obtain ⟨hr1, hr2, hr3⟩ := hq
      rw [hr2, hr3] at hw
      rcases bI hr1 with ⟨hB1, rfl⟩ | ⟨hB1, rfl⟩
      · skip
        refine lv_if_eq (tgt := 73) hx hb dX_isSemicolonDue_56 (by decide) (fun c56 => absurd c56 (by decide)) (fun c56 => ?_)
        refine lv_aload_n hx hb dX_isSemicolonDue_59 rfl (lv_at hl 1 rfl) ?_
        refine lv_iload_n hx hb dX_isSemicolonDue_60 rfl (lv_at hl 2 rfl) ?_
        refine lv_iload_n hx hb dX_isSemicolonDue_61 rfl (lv_at hl 3 rfl) ?_
        refine lv_iload_n hx hb dX_isSemicolonDue_62 rfl (lv_at hl 4 rfl) ?_
        refine kcXi (rest := []) S kX_177 rfl (tX_mayBeginStatement l I F k b tx hb1 hb2) hw hA ⟨Nat.le_of_ble_eq_true rfl, Nat.le_of_ble_eq_true rfl⟩ rfl rfl ⟨Nat.zero_le _, Nat.zero_le _⟩ rfl hl.1 (Nat.le_of_ble_eq_true rfl) dX_isSemicolonDue_63 (fun r I' F' H locs hq hw => ?_)
        obtain ⟨hr1, hr2, hr3⟩ := hq
        rw [hr2, hr3] at hw
        rcases bI hr1 with ⟨hB2, rfl⟩ | ⟨hB2, rfl⟩
        · skip
          refine lv_if_eq (tgt := 73) hx hb dX_isSemicolonDue_66 (by decide) (fun c66 => absurd c66 (by decide)) (fun c66 => ?_)
          refine lv_iconst (v := 1) hx hb dX_isSemicolonDue_69 (by decide) ?_
          refine lv_goto (tgt := 74) hx hb dX_isSemicolonDue_70 (by decide) ?_
          exact MX.iret S hr hlk hw dX_isSemicolonDue_74 (by first | rfl | decide) ⟨_, rfl, by rw [if_pos ((semX_c _ _ _ _ _).mpr ⟨Nat.lt_of_not_le (fun q => c28 (nI_le q (by omega))), hB1, hB2⟩)], rfl, rfl⟩
        · skip
          refine lv_if_eq (tgt := 73) hx hb dX_isSemicolonDue_66 (by decide) (fun c66 => ?_) (fun c66 => absurd c66 (by decide))
          refine lv_iconst (v := 0) hx hb dX_isSemicolonDue_73 (by decide) ?_
          exact MX.iret S hr hlk hw dX_isSemicolonDue_74 (by first | rfl | decide) ⟨_, rfl, by rw [if_neg (fun q0 => by have q := (semX_c _ _ _ _ _).mp q0; exact hB2 q.2.2)], rfl, rfl⟩
      · skip
        refine lv_if_eq (tgt := 73) hx hb dX_isSemicolonDue_56 (by decide) (fun c56 => ?_) (fun c56 => absurd c56 (by decide))
        refine lv_iconst (v := 0) hx hb dX_isSemicolonDue_73 (by decide) ?_
        exact MX.iret S hr hlk hw dX_isSemicolonDue_74 (by first | rfl | decide) ⟨_, rfl, by rw [if_neg (fun q0 => by have q := (semX_c _ _ _ _ _).mp q0; exact hB1 q.2.1)], rfl, rfl⟩
/-- a token is laid at place c of the arrays -/
def addXP (F : Nat → Nat → Int32) (c : Nat) (k p L v b z : Int32) (F' : Nat → Nat → Int32) : Prop := F' 2 = upd (F 2) c k ∧ F' 3 = upd (F 3) c p ∧ F' 4 = upd (F 4) c L ∧ F' 5 = upd (F 5) c v ∧ F' 6 = upd (F 6) c b ∧ F' 7 = upd (F 7) c z ∧ F' 0 = F 0 ∧ F' 9 = F 9
set_option maxHeartbeats 4000000 in
set_option maxRecDepth 100000 in
theorem tX_addToken (l : Launch) (I : Nat → Int32) (F : Nat → Nat → Int32) (c0 : Nat) (h8 : I 8 = nI c0) (hc0 : c0 < 1001) (L : Int32) (h12 : I 12 = L) (k p v b z0 : Int32) : MX l yX_addToken cX_addToken 6 none ({ frames := 0, cells := 0, slots := 0, locals := 0 }) [.int k, .int p, .int v, .int b, .int z0] I F (vR (fun I' F' => I' = upd I 8 (nI (c0 + 1)) ∧ addXP F c0 k p L v b z0 F')) := by
  refine MX.mk (by decide) (fun _ => Nat.le_of_ble_eq_true rfl) ?_
  intro z D cA h a pg en s m below meth c ls S hr hlk hA hw hl
  have hx := S.1
  have hb := S.2.1
  have hl : lv_has ls 6 [(0, .ref h), (1, .int k), (2, .int p), (3, .int v), (4, .int b), (5, .int z0)] := hl
  have hcl : (nI c0).toNatClampNeg = c0 := nI_clamp (by omega)
  refine lv_aload_n hx hb dX_addToken_0 rfl (lv_at hl 0 rfl) ?_
  refine gX8 S hw dX_addToken_1 ?_
  refine kz_top (y := nI c0) h8 ?_
  refine lv_if_lt (tgt := 17) hx hb dX_addToken_4 (by decide) (fun c4 => absurd c4 (nI_pos (by omega))) (fun c4 => ?_)
  refine lv_aload_n hx hb dX_addToken_7 rfl (lv_at hl 0 rfl) ?_
  refine gX8 S hw dX_addToken_8 ?_
  refine kz_top (y := nI c0) h8 ?_
  refine lv_sipush (v := 1001) hx hb dX_addToken_11 (by decide) ?_
  refine lv_icmp_lt (tgt := 18) hx hb dX_addToken_14 (by decide) (fun c14 => ?_) (fun c14 => absurd (nI_lt (b := 1001) hc0 (by decide)) c14)
  refine lv_aload_n hx hb dX_addToken_18 rfl (lv_at hl 0 rfl) ?_
  refine gX2 S hw dX_addToken_19 ?_
  refine lv_aload_n hx hb dX_addToken_22 rfl (lv_at hl 0 rfl) ?_
  refine gX8 S hw dX_addToken_23 ?_
  refine kz_top (y := nI c0) h8 ?_
  refine lv_iload_n hx hb dX_addToken_26 rfl (lv_at hl 1 rfl) ?_
  refine stX2 S hw (vp_in_nI hc0 (by decide)) dX_addToken_27 (fun H locs hw => ?_)
  refine lv_aload_n hx hb dX_addToken_28 rfl (lv_at hl 0 rfl) ?_
  refine gX3 S hw dX_addToken_29 ?_
  refine lv_aload_n hx hb dX_addToken_32 rfl (lv_at hl 0 rfl) ?_
  refine gX8 S hw dX_addToken_33 ?_
  refine kz_top (y := nI c0) h8 ?_
  refine lv_iload_n hx hb dX_addToken_36 rfl (lv_at hl 2 rfl) ?_
  refine stX3 S hw (vp_in_nI hc0 (by decide)) dX_addToken_37 (fun H locs hw => ?_)
  refine lv_aload_n hx hb dX_addToken_38 rfl (lv_at hl 0 rfl) ?_
  refine gX4 S hw dX_addToken_39 ?_
  refine lv_aload_n hx hb dX_addToken_42 rfl (lv_at hl 0 rfl) ?_
  refine gX8 S hw dX_addToken_43 ?_
  refine kz_top (y := nI c0) h8 ?_
  refine lv_aload_n hx hb dX_addToken_46 rfl (lv_at hl 0 rfl) ?_
  refine gX12 S hw dX_addToken_47 ?_
  refine kz_top (y := L) h12 ?_
  refine stX4 S hw (vp_in_nI hc0 (by decide)) dX_addToken_50 (fun H locs hw => ?_)
  refine lv_aload_n hx hb dX_addToken_51 rfl (lv_at hl 0 rfl) ?_
  refine gX5 S hw dX_addToken_52 ?_
  refine lv_aload_n hx hb dX_addToken_55 rfl (lv_at hl 0 rfl) ?_
  refine gX8 S hw dX_addToken_56 ?_
  refine kz_top (y := nI c0) h8 ?_
  refine lv_iload_n hx hb dX_addToken_59 rfl (lv_at hl 3 rfl) ?_
  refine stX5 S hw (vp_in_nI hc0 (by decide)) dX_addToken_60 (fun H locs hw => ?_)
  refine lv_aload_n hx hb dX_addToken_61 rfl (lv_at hl 0 rfl) ?_
  refine gX6 S hw dX_addToken_62 ?_
  refine lv_aload_n hx hb dX_addToken_65 rfl (lv_at hl 0 rfl) ?_
  refine gX8 S hw dX_addToken_66 ?_
  refine kz_top (y := nI c0) h8 ?_
  refine lv_iload hx hb dX_addToken_69 (lv_at hl 4 rfl) ?_
  refine stX6 S hw (vp_in_nI hc0 (by decide)) dX_addToken_71 (fun H locs hw => ?_)
  refine lv_aload_n hx hb dX_addToken_72 rfl (lv_at hl 0 rfl) ?_
  refine gX7 S hw dX_addToken_73 ?_
  refine lv_aload_n hx hb dX_addToken_76 rfl (lv_at hl 0 rfl) ?_
  refine gX8 S hw dX_addToken_77 ?_
  refine kz_top (y := nI c0) h8 ?_
  refine lv_iload hx hb dX_addToken_80 (lv_at hl 5 rfl) ?_
  refine stX7 S hw (vp_in_nI hc0 (by decide)) dX_addToken_82 (fun H locs hw => ?_)
  refine lv_aload_n hx hb dX_addToken_83 rfl (lv_at hl 0 rfl) ?_
  refine lv_dup hx hb dX_addToken_84 rfl ?_
  refine gX8 S hw dX_addToken_85 ?_
  refine kz_top (y := nI c0) h8 ?_
  refine lv_iconst (v := 1) hx hb dX_addToken_88 (by decide) ?_
  refine lv_iadd hx hb dX_addToken_89 ?_
  refine kz_top (y := nI (c0 + 1)) (nI_add c0 1) ?_
  refine pX8 S hw dX_addToken_90 (fun H locs hw => ?_)
  exact MX.vret S hr hlk hw dX_addToken_93 ⟨rfl, rfl, by rw [hcl]; exact ⟨rfl, rfl, rfl, rfl, rfl, rfl, rfl, rfl⟩⟩
set_option maxHeartbeats 4000000 in
set_option maxRecDepth 100000 in
theorem tX_addSemicolon (l : Launch) (I : Nat → Int32) (F : Nat → Nat → Int32) (c0 e : Nat) (h8 : I 8 = nI c0) (hc0 : c0 < 1001) (h10 : I 10 = nI e) (he : e < 1000) (L : Int32) (h12 : I 12 = L) (p : Int32) : MX l yX_addSemicolon cX_addSemicolon 3 none ({ frames := 1, cells := 0, slots := 0, locals := 25 }) [.int p] I F (vR (fun I' F' => I' = upd (upd I 10 (nI (e + 1))) 8 (nI (c0 + 1)) ∧ addXP (va_up F 9 (upd (F 9) e 59)) c0 3 p L 0 (nI e) 1 F')) := by
  refine MX.mk (by decide) (fun _ => Nat.le_of_ble_eq_true rfl) ?_
  intro z D cA h a pg en s m below meth c ls S hr hlk hA hw hl
  have hx := S.1
  have hb := S.2.1
  have hl : lv_has ls 3 [(0, .ref h), (1, .int p)] := hl
  refine lv_aload_n hx hb dX_addSemicolon_0 rfl (lv_at hl 0 rfl) ?_
  refine gX10 S hw dX_addSemicolon_1 ?_
  refine kz_top (y := nI e) h10 ?_
  refine lv_istore_n (lv' := [(2, .int (nI e)), (0, .ref h), (1, .int p)]) hx hb dX_addSemicolon_4 rfl hl (by decide) rfl (fun ls hl => ?_)
  refine lv_aload_n hx hb dX_addSemicolon_5 rfl (lv_at hl 1 rfl) ?_
  refine lv_bipush (v := 59) hx hb dX_addSemicolon_6 (by decide) ?_
  refine kcXv (rest := []) S kX_153 rfl (tX_appendText l I F e h10 he 59) hw hA ⟨Nat.le_of_ble_eq_true rfl, Nat.le_of_ble_eq_true rfl⟩ rfl rfl ⟨Nat.zero_le _, Nat.zero_le _⟩ rfl hl.1 (Nat.le_of_ble_eq_true rfl) dX_addSemicolon_8 (fun I' F' H locs hq hw => ?_)
  obtain ⟨hr2, hr3⟩ := hq
  rw [hr2, hr3] at hw
  refine lv_aload_n hx hb dX_addSemicolon_11 rfl (lv_at hl 1 rfl) ?_
  refine lv_iconst (v := 3) hx hb dX_addSemicolon_12 (by decide) ?_
  refine lv_iload_n hx hb dX_addSemicolon_13 rfl (lv_at hl 2 rfl) ?_
  refine lv_iconst (v := 0) hx hb dX_addSemicolon_14 (by decide) ?_
  refine lv_iload_n hx hb dX_addSemicolon_15 rfl (lv_at hl 0 rfl) ?_
  refine lv_aload_n hx hb dX_addSemicolon_16 rfl (lv_at hl 1 rfl) ?_
  refine gX10 S hw dX_addSemicolon_17 ?_
  refine kz_top (y := nI (e + 1)) rfl ?_
  refine lv_iload_n hx hb dX_addSemicolon_20 rfl (lv_at hl 0 rfl) ?_
  refine lv_isub hx hb dX_addSemicolon_21 ?_
  refine kz_top (y := 1) ((pk_sub (a := e + 1) (b := e) (by omega)).trans (by rw [Nat.add_sub_cancel_left]; rfl)) ?_
  refine kcXv (rest := []) S kX_99 rfl (tX_addToken l (upd I 10 (nI (e + 1))) (va_up F 9 (upd (F 9) e 59)) c0 h8 hc0 L h12 3 p 0 (nI e) 1) hw hA ⟨Nat.le_of_ble_eq_true rfl, Nat.le_of_ble_eq_true rfl⟩ rfl rfl ⟨Nat.zero_le _, Nat.zero_le _⟩ rfl hl.1 (Nat.le_of_ble_eq_true rfl) dX_addSemicolon_22 (fun I' F' H locs hq hw => ?_)
  exact MX.vret S hr hlk hw dX_addSemicolon_25 ⟨rfl, hq⟩
end
section
/-! ===== what is scanned, where it ends ===== -/
abbrev tokOK (k : Int32) (tx : List Int32) : Prop := (k = 3 → tx ∈ wK 3) ∧ (k = 4 → tx ∈ wK 7)
theorem sSc_len (T : Nat → Int32) (n : Nat) : ∀ (m k : Nat), (sSc T n m k).1.length + k ≤ (sSc T n m k).2 := by
  intro m
  induction m with
  | zero => intro k; simp [sSc]
  | succ m ih =>
    intro k
    rw [sSc]
    split
    · simp
    · split
      · simp
      · have h1 := ih (nextT T n k)
        have h2 : k + 1 ≤ nextT T n k := by unfold nextT; split <;> omega
        simp only [List.length_cons]
        omega
theorem see_lt {T : Nat → Int32} {n p : Nat} (h : ¬ seeT T n p = -1) : p < n := by
  rcases Nat.lt_or_ge p n with q | q
  · exact q
  · exact absurd (see_out q) h
def okS (n p : Nat) (q : kz_S) : Prop := ¬ q.1 = 6 → p < q.2.2.1 ∧ q.2.2.1 ≤ n ∧ p + q.2.2.2.length ≤ q.2.2.1 ∧ tokOK q.1 q.2.2.2 ∧ ¬ q.1 = 5
theorem okS_bad (n p : Nat) : okS n p badS := fun h => absurd rfl h
theorem okS_D {T : Nat → Int32} {n p k base : Nat} (h : p ≤ k) : okS n p (scD T n k base) := by
  unfold scD
  split
  · exact okS_bad n p
  · rename_i h1
    intro _
    have h2 := dSc_le T base (n - k) k 0 (by omega)
    have h3 : ¬ (dSc T base (n - k) k 0).1 = k := fun q => h1 (Or.inl q)
    refine ⟨by show p < (dSc T base (n - k) k 0).1; omega, by show (dSc T base (n - k) k 0).1 ≤ n; omega, by show p + 0 ≤ (dSc T base (n - k) k 0).1; omega, ⟨fun q => absurd (show (1 : Int32) = 3 from q) (by decide), fun q => absurd (show (1 : Int32) = 4 from q) (by decide)⟩, fun q => absurd (show (1 : Int32) = 5 from q) (by decide)⟩
theorem scT_ok {T : Nat → Int32} {n p : Nat} (hp : p < n) : okS n p (scT T n p) := by
  unfold scT
  split
  · rename_i hl
    unfold scN
    split
    · exact okS_bad n p
    · intro _
      have h1 := nEnd_le T (n - (p + 1)) (p + 1)
      have h2 : nEnd T (n - p) p = nEnd T (n - (p + 1)) (p + 1) := nEnd_go hp (Or.inl hl)
      refine ⟨by show p < nEnd T (n - p) p; omega, by show nEnd T (n - p) p ≤ n; omega, by show p + (sliceT T p _).length ≤ nEnd T (n - p) p; rw [slice_len]; omega, ⟨fun q => ?_, fun q => ?_⟩, fun q => ?_⟩
      · exfalso
        revert q
        show (if _ then (4 : Int32) else 0) = 3 → False
        split <;> decide
      · show sliceT T p _ ∈ wK 7
        revert q
        show (if sliceT T p _ ∈ wK 7 then (4 : Int32) else 0) = 4 → _
        split
        · rename_i hm; intro _; exact hm
        · intro q; exact absurd q (by decide)
      · revert q
        show (if _ then (4 : Int32) else 0) = 5 → False
        split <;> decide
  · split
    · exact okS_D (Nat.le_refl _)
    · split
      · split
        · exact okS_D (by omega)
        · exact okS_D (by omega)
      · split
        · unfold scC
          split
          · rename_i h
            intro _
            have h1 := see_lt (show ¬ seeT T n (nextT T n (p + 1)) = -1 by rw [h.2]; decide)
            have h2 : p + 1 + 1 ≤ nextT T n (p + 1) := by unfold nextT; split <;> omega
            refine ⟨by show p < nextT T n (p + 1) + 1; omega, by show nextT T n (p + 1) + 1 ≤ n; omega, by show p + 0 ≤ nextT T n (p + 1) + 1; omega, ⟨fun q => absurd (show (1 : Int32) = 3 from q) (by decide), fun q => absurd (show (1 : Int32) = 4 from q) (by decide)⟩, fun q => absurd (show (1 : Int32) = 5 from q) (by decide)⟩
          · exact okS_bad n p
        · split
          · unfold scS
            split
            · rename_i h
              intro _
              have h1 := see_lt (show ¬ seeT T n (sSc T n (n - p) (p + 1)).2 = -1 by rw [h.1]; decide)
              have h2 := sSc_len T n (n - p) (p + 1)
              refine ⟨by show p < (sSc T n (n - p) (p + 1)).2 + 1; omega, by show (sSc T n (n - p) (p + 1)).2 + 1 ≤ n; omega, by show p + (sSc T n (n - p) (p + 1)).1.length ≤ (sSc T n (n - p) (p + 1)).2 + 1; omega, ⟨fun q => absurd (show (2 : Int32) = 3 from q) (by decide), fun q => absurd (show (2 : Int32) = 4 from q) (by decide)⟩, fun q => absurd (show (2 : Int32) = 5 from q) (by decide)⟩
            · exact okS_bad n p
          · unfold scG
            split
            · rename_i h
              intro _
              have h1 : p + 1 < n := by
                rcases Nat.lt_or_ge (p + 1) n with q | q
                · exact q
                · rw [see_out q] at h; exact absurd h (sgn_m1 _)
              exact ⟨by show p < p + 2; omega, by show p + 2 ≤ n; omega, Nat.le_refl _, ⟨fun _ => h, fun q => absurd (show (3 : Int32) = 4 from q) (by decide)⟩, fun q => absurd (show (3 : Int32) = 5 from q) (by decide)⟩
            · split
              · rename_i h
                intro _
                exact ⟨by show p < p + 1; omega, by show p + 1 ≤ n; omega, Nat.le_refl _, ⟨fun _ => h, fun q => absurd (show (3 : Int32) = 4 from q) (by decide)⟩, fun q => absurd (show (3 : Int32) = 5 from q) (by decide)⟩
              · exact okS_bad n p
theorem no_30 : ∀ w ∈ wK 3, w ∉ wK 0 ∧ w ∉ wK 1 := by decide +kernel
theorem no_74 : ∀ w ∈ wK 7, w ∉ wK 4 ∧ w ∉ wK 5 := by decide +kernel
theorem wK_08 : wK 8 = wK 0 := by decide +kernel
theorem wK_019 (w : List Int32) : w ∈ wK 9 ↔ (w ∈ wK 0 ∨ w ∈ wK 1) := by
  constructor
  · intro h
    exact (by decide +kernel : ∀ w ∈ wK 9, w ∈ wK 0 ∨ w ∈ wK 1) w h
  · intro h
    rcases h with h | h
    · exact (by decide +kernel : ∀ w ∈ wK 0, w ∈ wK 9) w h
    · exact (by decide +kernel : ∀ w ∈ wK 1, w ∈ wK 9) w h
theorem end_iff {k : Int32} {tx : List Int32} (h : tokOK k tx) : endX k tx ↔ endT k tx := by
  have e4 : tx ∈ wK 4 ↔ (tx = [36, 41] ∨ tx = [41]) := by
    show tx ∈ ([[36, 41], [41]] : List (List Int32)) ↔ _
    simp
  by_cases h3 : k = 3
  · subst h3
    have h0 := no_30 tx (h.1 rfl)
    simp [endX, endT, iSok, iOpd, e4, h0.1]
  · by_cases h4 : k = 4
    · subst h4
      have h0 := no_74 tx (h.2 rfl)
      simp [endX, endT, iSok, iOpd, h0.1, wK_08]
    · simp [endX, endT, iSok, h3, h4]
theorem beg_iff {k : Int32} {tx : List Int32} (h : tokOK k tx) : begX k tx ↔ begT k tx := by
  have e5 : tx ∈ wK 5 ↔ (tx = [40] ∨ tx = [33] ∨ tx = [64] ∨ tx = [36, 40]) := by
    show tx ∈ ([[40], [33], [64], [36, 40]] : List (List Int32)) ↔ _
    simp
  by_cases h3 : k = 3
  · subst h3
    have h0 := no_30 tx (h.1 rfl)
    simp [begX, begT, iSok, iOpd, e5, h0.1, h0.2]
  · by_cases h4 : k = 4
    · subst h4
      have h0 := no_74 tx (h.2 rfl)
      simp [begX, begT, iSok, iOpd, h0.2, wK_019]
    · simp [begX, begT, iSok, h3, h4]
def allOK (ts : List kz_T) : Prop := ∀ t ∈ ts, tokOK t.1 t.2.2.2.2
theorem sem_iff {ts : List kz_T} {L : Nat} {k : Int32} {tx : List Int32} (ha : allOK ts) (h : tokOK k tx) : semX ts L k tx = semT ts L k tx := by
  unfold semX semT
  cases hg : ts.getLast? with
  | none => rfl
  | some t =>
    have ht : t ∈ ts := List.mem_of_getLast? hg
    simp only [end_iff (ha t ht), beg_iff h]
theorem sem_line {ts : List kz_T} {L : Nat} {k : Int32} {tx : List Int32} (h : semT ts L k tx = true) : ∃ t, ts.getLast? = some t ∧ t.2.2.1 < L := by
  unfold semT at h
  cases hg : ts.getLast? with
  | none => rw [hg] at h; cases h
  | some t => rw [hg] at h; exact ⟨t, rfl, (decide_eq_true_iff.mp h).1⟩
theorem sem_56 {ts : List kz_T} {L : Nat} {k : Int32} (hk : k = 5 ∨ k = 6) : ¬ semX ts L k [] = true := by
  intro h
  unfold semX at h
  cases hg : ts.getLast? with
  | none => rw [hg] at h; cases h
  | some t =>
    rw [hg] at h
    have := (decide_eq_true_iff.mp h).2.2
    rcases hk with rfl | rfl
    · exact absurd this (by decide)
    · exact absurd this (by decide)
theorem addT_ok {ts : List kz_T} {p L : Nat} {q : kz_S} (ha : allOK ts) (h : tokOK q.1 q.2.2.2) : allOK (addT ts p L q) := by
  intro t ht
  unfold addT at ht
  rcases List.mem_append.mp ht with ht | ht
  · rcases List.mem_append.mp ht with ht | ht
    · exact ha t ht
    · split at ht
      · rw [List.mem_singleton.mp ht]
        exact ⟨fun _ => (by decide +kernel : ([59] : List Int32) ∈ wK 3), fun q => absurd (show (3 : Int32) = 4 from q) (by decide)⟩
      · cases ht
  · rw [List.mem_singleton.mp ht]; exact h
/-! the class's row under a change elsewhere, and with a token more -/
theorem repX.frame {ts : List kz_T} {e : Nat} {I I' : Nat → Int32} {F F' : Nat → Nat → Int32} (h : repX ts e I F) (h8 : I' 8 = I 8) (hF : ∀ k, k ≠ 9 → F' k = F k) (h9 : ∀ j, j < e → F' 9 j = F 9 j) : repX ts e I' F' := by
  refine ⟨h8.trans h.1, h.2.1, fun k t ht => ?_⟩
  obtain ⟨a2, a3, a4, a5, al, b, a6, a7, a8, a9⟩ := h.2.2 k t ht
  rw [hF 2 (by decide), hF 3 (by decide), hF 4 (by decide), hF 5 (by decide), hF 6 (by decide), hF 7 (by decide)]
  refine ⟨a2, a3, a4, a5, al, b, a6, a7, a8, fun j x hj => ?_⟩
  have := (List.getElem?_eq_some_iff.mp hj).1
  rw [h9 _ (by omega)]
  exact a9 j x hj
theorem repX.add {ts : List kz_T} {e e' p L b0 : Nat} {k v : Int32} {tx : List Int32} {I I' : Nat → Int32} {F F' : Nat → Nat → Int32} (h : repX ts e I F) (hc : ts.length < 1001) (hA : addXP F ts.length k (nI p) (nI L) v (nI b0) (nI tx.length) F') (h8 : I' 8 = nI (ts.length + 1)) (ht : ∀ j x, tx[j]? = some x → F 9 (b0 + j) = x) (he : e ≤ e') (hb : b0 + tx.length ≤ e') (hL : L ≤ 1000) : repX (ts ++ [(k, p, L, v, tx)]) e' I' F' := by
  obtain ⟨c2, c3, c4, c5, c6, c7, c0, c9⟩ := hA
  refine ⟨by rw [h8, List.length_append]; rfl, by rw [List.length_append]; exact hc, fun i t hi => ?_⟩
  rw [c2, c3, c4, c5, c6, c7, c9]
  rcases Nat.lt_or_ge i ts.length with q | q
  · rw [List.getElem?_append_left q] at hi
    obtain ⟨a2, a3, a4, a5, al, b, a6, a7, a8, a9⟩ := h.2.2 i t hi
    rw [pk_un (by omega), pk_un (by omega), pk_un (by omega), pk_un (by omega), pk_un (by omega), pk_un (by omega)]
    exact ⟨a2, a3, a4, a5, al, b, a6, a7, by omega, a9⟩
  · rw [List.getElem?_append_right q] at hi
    have hz := (List.getElem?_eq_some_iff.mp hi).1
    simp only [List.length_singleton] at hz
    have e1 : i = ts.length := by omega
    subst e1
    rw [Nat.sub_self] at hi
    cases hi
    rw [pk_us, pk_us, pk_us, pk_us, pk_us, pk_us]
    exact ⟨rfl, rfl, rfl, rfl, hL, b0, rfl, rfl, hb, ht⟩
end
section
/-! ===== the class: a token is read, the tape is read ===== -/
def midX (T : Nat → Int32) (n : Nat) (ts : List kz_T) (p e L : Nat) (I : Nat → Int32) (F : Nat → Nat → Int32) : Prop := tpX T n I F ∧ repX ts e I F ∧ I 11 = nI p ∧ p ≤ n ∧ I 10 = nI e ∧ e ≤ p ∧ ts.length ≤ p ∧ I 12 = nI L ∧ L ≤ p
def rdX (T : Nat → Int32) (n : Nat) (ts : List kz_T) (p L : Nat) (r : Int32) (I' : Nat → Int32) (F' : Nat → Nat → Int32) : Prop := tpX T n I' F' ∧ I' 12 = nI L ∧ (p = n → r = 0 ∧ ∃ e', e' ≤ 1000 ∧ repX (ts ++ [(5, p, L, 0, [])]) e' I' F') ∧ (p < n → (scT T n p).1 = 6 → r = 0 ∧ ∃ e', e' ≤ 1000 ∧ repX (ts ++ [(6, p, L, 0, [])]) e' I' F') ∧ (p < n → ¬ (scT T n p).1 = 6 → r = 1 ∧ ∃ e', repX (addT ts p L (scT T n p)) e' I' F' ∧ I' 10 = nI e' ∧ I' 11 = nI (scT T n p).2.2.1 ∧ e' ≤ (scT T n p).2.2.1 ∧ (addT ts p L (scT T n p)).length ≤ (scT T n p).2.2.1)
theorem addT_y {ts : List kz_T} {p L : Nat} {q : kz_S} (h : semT ts L q.1 q.2.2.2 = true) : addT ts p L q = (ts ++ [(3, p, L, 0, [59])]) ++ [(q.1, p, L, q.2.1, q.2.2.2)] := by unfold addT; rw [if_pos h]
theorem addT_n {ts : List kz_T} {p L : Nat} {q : kz_S} (h : ¬ semT ts L q.1 q.2.2.2 = true) : addT ts p L q = ts ++ [(q.1, p, L, q.2.1, q.2.2.2)] := by unfold addT; rw [if_neg h, List.append_nil]
set_option maxHeartbeats 4000000 in
set_option maxRecDepth 100000 in
theorem tX_readToken (l : Launch) (I : Nat → Int32) (F : Nat → Nat → Int32) (T : Nat → Int32) (n : Nat) (ts : List kz_T) (p e L : Nat) (hi : midX T n ts p e L I F) (hok : allOK ts) (hs : ∀ t, ts.getLast? = some t → t.2.2.1 < L → ts.length + 1 ≤ p ∧ e + 1 ≤ p) : MX l yX_readToken cX_readToken 5 (some .boolean) ({ frames := 8, cells := 0, slots := 0, locals := 178 }) [] I F (iR (fun r I' F' => rdX T n ts p L r I' F')) := by
  refine MX.mk (by decide) (fun _ => Nat.le_of_ble_eq_true rfl) ?_
  intro z D cA h a pg en s m below meth c ls S hr hlk hA hw hl
  have hx := S.1
  have hb := S.2.1
  have hl : lv_has ls 5 [(0, .ref h)] := hl
  obtain ⟨hT, hrp, h11, hp, h10, he, hc, h12, hL⟩ := hi
  have hn := hT.2.1
  refine lv_aload_n hx hb dX_readToken_0 rfl (lv_at hl 0 rfl) ?_
  refine gX11 S hw dX_readToken_1 ?_
  refine kz_top (y := nI p) h11 ?_
  refine lv_istore_n (lv' := [(1, .int (nI p)), (0, .ref h)]) hx hb dX_readToken_4 rfl hl (by decide) rfl (fun ls hl => ?_)
  refine lv_aload_n hx hb dX_readToken_5 rfl (lv_at hl 1 rfl) ?_
  refine gX10 S hw dX_readToken_6 ?_
  refine kz_top (y := nI e) h10 ?_
  refine lv_istore_n (lv' := [(2, .int (nI e)), (1, .int (nI p)), (0, .ref h)]) hx hb dX_readToken_9 rfl hl (by decide) rfl (fun ls hl => ?_)
  refine lv_aload_n hx hb dX_readToken_10 rfl (lv_at hl 2 rfl) ?_
  refine lv_iconst (v := 0) hx hb dX_readToken_11 (by decide) ?_
  refine pX13 S hw dX_readToken_12 (fun H locs hw => ?_)
  refine lv_aload_n hx hb dX_readToken_15 rfl (lv_at hl 2 rfl) ?_
  refine kcXi (rest := []) S kX_88 rfl (tX_takeToken l (upd I 13 0) F T n hT p e h11 hp h10 he rfl) hw hA ⟨Nat.le_of_ble_eq_true rfl, Nat.le_of_ble_eq_true rfl⟩ rfl rfl ⟨Nat.zero_le _, Nat.zero_le _⟩ rfl hl.1 (Nat.le_of_ble_eq_true rfl) dX_readToken_16 (fun r I1 F1 H locs hq hw => ?_)
  rcases Nat.lt_or_eq_of_le hp with hp | hp
  · skip
    have hq := hq.2 hp
    have hkk := scT_ok (T := T) hp
    rcases hse : scT T n p with ⟨k, v, b, tx⟩
    rw [hse] at hq hkk
    obtain ⟨hrk, qI, qF, qB, q6, qn⟩ := hq
    have hrk : k = r := hrk.symm
    subst hrk
    have hrp1 : repX ts e I1 F1 := hrp.frame (qI 8 (by decide) (by decide) (by decide)) qF qB
    have hT1 : tpX T n I1 F1 := hT.of (qI 1 (by decide) (by decide) (by decide)) (qF 0 (by decide))
    have g12 : I1 12 = nI L := (qI 12 (by decide) (by decide) (by decide)).trans h12
    by_cases hk6 : k = 6
    · skip
      subst hk6
      have g13 : I1 13 = 0 := q6 rfl
      refine lv_istore_n (lv' := [(3, .int 6), (2, .int (nI e)), (1, .int (nI p)), (0, .ref h)]) hx hb dX_readToken_19 rfl hl (by decide) rfl (fun ls hl => ?_)
      refine lv_iload_n hx hb dX_readToken_20 rfl (lv_at hl 0 rfl) ?_
      refine lv_bipush (v := 6) hx hb dX_readToken_21 (by decide) ?_
      refine lv_icmp_ne (tgt := 31) hx hb dX_readToken_23 (by decide) (fun c23 => absurd c23 (by decide)) (fun c23 => ?_)
      refine lv_aload_n hx hb dX_readToken_26 rfl (lv_at hl 3 rfl) ?_
      refine lv_iload_n hx hb dX_readToken_27 rfl (lv_at hl 1 rfl) ?_
      refine pX10 S hw dX_readToken_28 (fun H locs hw => ?_)
      refine lv_aload_n hx hb dX_readToken_31 rfl (lv_at hl 3 rfl) ?_
      refine gX10 S hw dX_readToken_32 ?_
      refine kz_top (y := nI e) rfl ?_
      refine lv_iload_n hx hb dX_readToken_35 rfl (lv_at hl 1 rfl) ?_
      refine lv_isub hx hb dX_readToken_36 ?_
      refine kz_top (y := nI ([] : List Int32).length) ((pk_sub (Nat.le_refl _)).trans (by rw [Nat.sub_self]; rfl)) ?_
      refine lv_istore (lv' := [(4, .int (nI ([] : List Int32).length)), (3, .int 6), (2, .int (nI e)), (1, .int (nI p)), (0, .ref h)]) hx hb dX_readToken_37 hl (by decide) rfl (fun ls hl => ?_)
      refine lv_aload_n hx hb dX_readToken_39 rfl (lv_at hl 4 rfl) ?_
      refine lv_iload_n hx hb dX_readToken_40 rfl (lv_at hl 1 rfl) ?_
      refine lv_iload_n hx hb dX_readToken_41 rfl (lv_at hl 2 rfl) ?_
      refine lv_iload hx hb dX_readToken_42 (lv_at hl 0 rfl) ?_
      refine kcXi (rest := []) S kX_92 rfl (tX_isSemicolonDue l (upd I1 10 (nI e)) F1 ts e L (hrp1.frame rfl (fun _ _ => rfl) (fun _ _ => rfl)) (by omega) g12 (by omega) 6 e [] (by simp only [List.length_nil]; omega) (fun j x hj => by simp at hj)) hw hA ⟨Nat.le_of_ble_eq_true rfl, Nat.le_of_ble_eq_true rfl⟩ rfl rfl ⟨Nat.zero_le _, Nat.zero_le _⟩ rfl hl.1 (Nat.le_of_ble_eq_true rfl) dX_readToken_44 (fun r I' F' H locs hq hw => ?_)
      obtain ⟨hr1, hr2, hr3⟩ := hq
      rw [hr2, hr3] at hw
      rw [if_neg (sem_56 (Or.inr rfl))] at hr1
      subst hr1
      refine lv_if_eq (tgt := 55) hx hb dX_readToken_47 (by decide) (fun c47 => ?_) (fun c47 => absurd c47 (by decide))
      refine lv_aload_n hx hb dX_readToken_55 rfl (lv_at hl 4 rfl) ?_
      refine lv_iload_n hx hb dX_readToken_56 rfl (lv_at hl 1 rfl) ?_
      refine lv_iload_n hx hb dX_readToken_57 rfl (lv_at hl 3 rfl) ?_
      refine lv_aload_n hx hb dX_readToken_58 rfl (lv_at hl 4 rfl) ?_
      refine gX13 S hw dX_readToken_59 ?_
      refine kz_top (y := 0) g13 ?_
      refine lv_iload_n hx hb dX_readToken_62 rfl (lv_at hl 2 rfl) ?_
      refine lv_iload hx hb dX_readToken_63 (lv_at hl 0 rfl) ?_
      refine kcXv (rest := []) S kX_99 rfl (tX_addToken l (upd I1 10 (nI e)) F1 ts.length hrp1.1 (by omega) (nI L) g12 6 (nI p) 0 (nI e) (nI ([] : List Int32).length)) hw hA ⟨Nat.le_of_ble_eq_true rfl, Nat.le_of_ble_eq_true rfl⟩ rfl rfl ⟨Nat.zero_le _, Nat.zero_le _⟩ rfl hl.1 (Nat.le_of_ble_eq_true rfl) dX_readToken_65 (fun I3 F3 H locs hs4 hw => ?_)
      obtain ⟨rfl, hA3⟩ := hs4
      refine lv_iload_n hx hb dX_readToken_68 rfl (lv_at hl 1 rfl) ?_
      refine lv_iconst (v := 5) hx hb dX_readToken_69 (by decide) ?_
      refine lv_icmp_eq (tgt := 83) hx hb dX_readToken_70 (by decide) (fun c70 => absurd c70 (by decide)) (fun c70 => ?_)
      refine lv_iload_n hx hb dX_readToken_73 rfl (lv_at hl 1 rfl) ?_
      refine lv_bipush (v := 6) hx hb dX_readToken_74 (by decide) ?_
      refine lv_icmp_eq (tgt := 83) hx hb dX_readToken_76 (by decide) (fun c76 => ?_) (fun c76 => absurd c76 (by decide))
      refine lv_iconst (v := 0) hx hb dX_readToken_83 (by decide) ?_
      exact MX.iret S hr hlk hw dX_readToken_84 (by first | rfl | decide) ⟨_, rfl, hT1.of rfl hA3.2.2.2.2.2.2.1, g12, fun q => absurd q (by omega), fun _ _ => ⟨rfl, e, by omega, (hrp1.frame rfl (fun _ _ => rfl) (fun _ _ => rfl)).add (by omega) hA3 rfl (fun j x hj => by simp at hj) (Nat.le_refl _) (by simp) (by omega)⟩, fun _ q => absurd (by rw [hse]) q⟩
    · skip
      obtain ⟨g11, g13, g10, gt⟩ := qn hk6
      obtain ⟨o1, o2, o3, o4, o5⟩ := hkk hk6
      have o1 : p < b := o1
      have o2 : b ≤ n := o2
      have o3 : p + tx.length ≤ b := o3
      refine lv_istore_n (lv' := [(3, .int k), (2, .int (nI e)), (1, .int (nI p)), (0, .ref h)]) hx hb dX_readToken_19 rfl hl (by decide) rfl (fun ls hl => ?_)
      refine lv_iload_n hx hb dX_readToken_20 rfl (lv_at hl 0 rfl) ?_
      refine lv_bipush (v := 6) hx hb dX_readToken_21 (by decide) ?_
      refine lv_icmp_ne (tgt := 31) hx hb dX_readToken_23 (by decide) (fun c23 => ?_) (fun c23 => absurd c23 hk6)
      refine lv_aload_n hx hb dX_readToken_31 rfl (lv_at hl 3 rfl) ?_
      refine gX10 S hw dX_readToken_32 ?_
      refine kz_top (y := nI (e + tx.length)) g10 ?_
      refine lv_iload_n hx hb dX_readToken_35 rfl (lv_at hl 1 rfl) ?_
      refine lv_isub hx hb dX_readToken_36 ?_
      refine kz_top (y := nI tx.length) ((pk_sub (Nat.le_add_right _ _)).trans (by rw [Nat.add_sub_cancel_left])) ?_
      refine lv_istore (lv' := [(4, .int (nI tx.length)), (3, .int k), (2, .int (nI e)), (1, .int (nI p)), (0, .ref h)]) hx hb dX_readToken_37 hl (by decide) rfl (fun ls hl => ?_)
      refine lv_aload_n hx hb dX_readToken_39 rfl (lv_at hl 4 rfl) ?_
      refine lv_iload_n hx hb dX_readToken_40 rfl (lv_at hl 1 rfl) ?_
      refine lv_iload_n hx hb dX_readToken_41 rfl (lv_at hl 2 rfl) ?_
      refine lv_iload hx hb dX_readToken_42 (lv_at hl 0 rfl) ?_
      refine kcXi (rest := []) S kX_92 rfl (tX_isSemicolonDue l I1 F1 ts e L (hrp1.frame rfl (fun _ _ => rfl) (fun _ _ => rfl)) (by omega) g12 (by omega) k e tx (by omega) gt) hw hA ⟨Nat.le_of_ble_eq_true rfl, Nat.le_of_ble_eq_true rfl⟩ rfl rfl ⟨Nat.zero_le _, Nat.zero_le _⟩ rfl hl.1 (Nat.le_of_ble_eq_true rfl) dX_readToken_44 (fun r I' F' H locs hq hw => ?_)
      obtain ⟨hr1, hr2, hr3⟩ := hq
      rw [hr2, hr3] at hw
      rw [sem_iff hok o4] at hr1
      rcases bI hr1 with ⟨hS, rfl⟩ | ⟨hS, rfl⟩
      · skip
        obtain ⟨tl, htl, hll⟩ := sem_line hS
        obtain ⟨hs1, hs2⟩ := hs tl htl hll
        refine lv_if_eq (tgt := 55) hx hb dX_readToken_47 (by decide) (fun c47 => absurd c47 (by decide)) (fun c47 => ?_)
        refine lv_aload_n hx hb dX_readToken_50 rfl (lv_at hl 4 rfl) ?_
        refine lv_iload_n hx hb dX_readToken_51 rfl (lv_at hl 3 rfl) ?_
        refine kcXv (rest := []) S kX_96 rfl (tX_addSemicolon l I1 F1 ts.length (e + tx.length) hrp1.1 (by omega) g10 (by omega) (nI L) g12 (nI p)) hw hA ⟨Nat.le_of_ble_eq_true rfl, Nat.le_of_ble_eq_true rfl⟩ rfl rfl ⟨Nat.zero_le _, Nat.zero_le _⟩ rfl hl.1 (Nat.le_of_ble_eq_true rfl) dX_readToken_52 (fun I2 F2 H locs hs3 hw => ?_)
        obtain ⟨rfl, hA2⟩ := hs3
        refine lv_aload_n hx hb dX_readToken_55 rfl (lv_at hl 4 rfl) ?_
        refine lv_iload_n hx hb dX_readToken_56 rfl (lv_at hl 1 rfl) ?_
        refine lv_iload_n hx hb dX_readToken_57 rfl (lv_at hl 3 rfl) ?_
        refine lv_aload_n hx hb dX_readToken_58 rfl (lv_at hl 4 rfl) ?_
        refine gX13 S hw dX_readToken_59 ?_
        refine kz_top (y := v) g13 ?_
        refine lv_iload_n hx hb dX_readToken_62 rfl (lv_at hl 2 rfl) ?_
        refine lv_iload hx hb dX_readToken_63 (lv_at hl 0 rfl) ?_
        refine kcXv (rest := []) S kX_99 rfl (tX_addToken l (upd (upd I1 10 (nI (e + tx.length + 1))) 8 (nI (ts.length + 1))) F2 (ts.length + 1) rfl (by omega) (nI L) g12 k (nI p) v (nI e) (nI tx.length)) hw hA ⟨Nat.le_of_ble_eq_true rfl, Nat.le_of_ble_eq_true rfl⟩ rfl rfl ⟨Nat.zero_le _, Nat.zero_le _⟩ rfl hl.1 (Nat.le_of_ble_eq_true rfl) dX_readToken_65 (fun I3 F3 H locs hs4 hw => ?_)
        obtain ⟨rfl, hA3⟩ := hs4
        refine lv_iload_n hx hb dX_readToken_68 rfl (lv_at hl 1 rfl) ?_
        refine lv_iconst (v := 5) hx hb dX_readToken_69 (by decide) ?_
        refine lv_icmp_eq (tgt := 83) hx hb dX_readToken_70 (by decide) (fun c70 => absurd c70 o5) (fun c70 => ?_)
        refine lv_iload_n hx hb dX_readToken_73 rfl (lv_at hl 1 rfl) ?_
        refine lv_bipush (v := 6) hx hb dX_readToken_74 (by decide) ?_
        refine lv_icmp_eq (tgt := 83) hx hb dX_readToken_76 (by decide) (fun c76 => absurd c76 hk6) (fun c76 => ?_)
        refine lv_iconst (v := 1) hx hb dX_readToken_79 (by decide) ?_
        refine lv_goto (tgt := 84) hx hb dX_readToken_80 (by decide) ?_
        exact MX.iret S hr hlk hw dX_readToken_84 (by first | rfl | decide) ⟨_, rfl, (hT1.of rfl (hA3.2.2.2.2.2.2.1.trans hA2.2.2.2.2.2.2.1)), g12, fun q => absurd q (by omega), fun _ q => absurd (show k = 6 by rw [hse] at q; exact q) hk6, fun _ _ => by
          rw [hse, addT_y hS]
          have hrpm : repX ts e I1 (va_up F1 9 (upd (F1 9) (e + tx.length) 59)) := hrp1.frame rfl (fun k hk => va_up_ne _ _ hk) (fun j hj => pk_un (by omega))
          have hrp2 := hrpm.add (e' := e + tx.length + 1) (p := p) (L := L) (b0 := e + tx.length) (k := 3) (v := 0) (tx := [59]) (I' := upd (upd I1 10 (nI (e + tx.length + 1))) 8 (nI (ts.length + 1))) (F' := F2) (by omega) hA2 rfl (fun j x hj => by
            have hz := (List.getElem?_eq_some_iff.mp hj).1
            simp only [List.length_singleton] at hz
            have e1 : j = 0 := by omega
            subst e1
            cases hj
            exact pk_us) (by omega) (by simp) (by omega)
          have hl2 : (ts ++ [((3 : Int32), p, L, (0 : Int32), [(59 : Int32)])]).length = ts.length + 1 := by rw [List.length_append]; rfl
          have hrp3 := hrp2.add (e' := e + tx.length + 1) (p := p) (L := L) (b0 := e) (k := k) (v := v) (tx := tx) (I' := upd (upd (upd I1 10 (nI (e + tx.length + 1))) 8 (nI (ts.length + 1))) 8 (nI (ts.length + 1 + 1))) (F' := F3) (by rw [hl2]; omega) (by rw [hl2]; exact hA3) (by rw [hl2]; rfl) (fun j x hj => by
            have hz := (List.getElem?_eq_some_iff.mp hj).1
            rw [hA2.2.2.2.2.2.2.2]
            show upd (F1 9) (e + tx.length) 59 (e + j) = x
            rw [pk_un (by omega)]
            exact gt j x hj) (Nat.le_refl _) (by omega) (by omega)
          refine ⟨rfl, e + tx.length + 1, hrp3, rfl, g11, ?_, ?_⟩
          · show e + tx.length + 1 ≤ b; omega
          · show ((ts ++ [_]) ++ [_]).length ≤ b
            rw [List.length_append, hl2]
            simp only [List.length_singleton]
            omega⟩
      · skip
        refine lv_if_eq (tgt := 55) hx hb dX_readToken_47 (by decide) (fun c47 => ?_) (fun c47 => absurd c47 (by decide))
        refine lv_aload_n hx hb dX_readToken_55 rfl (lv_at hl 4 rfl) ?_
        refine lv_iload_n hx hb dX_readToken_56 rfl (lv_at hl 1 rfl) ?_
        refine lv_iload_n hx hb dX_readToken_57 rfl (lv_at hl 3 rfl) ?_
        refine lv_aload_n hx hb dX_readToken_58 rfl (lv_at hl 4 rfl) ?_
        refine gX13 S hw dX_readToken_59 ?_
        refine kz_top (y := v) g13 ?_
        refine lv_iload_n hx hb dX_readToken_62 rfl (lv_at hl 2 rfl) ?_
        refine lv_iload hx hb dX_readToken_63 (lv_at hl 0 rfl) ?_
        refine kcXv (rest := []) S kX_99 rfl (tX_addToken l I1 F1 ts.length hrp1.1 (by omega) (nI L) g12 k (nI p) v (nI e) (nI tx.length)) hw hA ⟨Nat.le_of_ble_eq_true rfl, Nat.le_of_ble_eq_true rfl⟩ rfl rfl ⟨Nat.zero_le _, Nat.zero_le _⟩ rfl hl.1 (Nat.le_of_ble_eq_true rfl) dX_readToken_65 (fun I3 F3 H locs hs4 hw => ?_)
        obtain ⟨rfl, hA3⟩ := hs4
        refine lv_iload_n hx hb dX_readToken_68 rfl (lv_at hl 1 rfl) ?_
        refine lv_iconst (v := 5) hx hb dX_readToken_69 (by decide) ?_
        refine lv_icmp_eq (tgt := 83) hx hb dX_readToken_70 (by decide) (fun c70 => absurd c70 o5) (fun c70 => ?_)
        refine lv_iload_n hx hb dX_readToken_73 rfl (lv_at hl 1 rfl) ?_
        refine lv_bipush (v := 6) hx hb dX_readToken_74 (by decide) ?_
        refine lv_icmp_eq (tgt := 83) hx hb dX_readToken_76 (by decide) (fun c76 => absurd c76 hk6) (fun c76 => ?_)
        refine lv_iconst (v := 1) hx hb dX_readToken_79 (by decide) ?_
        refine lv_goto (tgt := 84) hx hb dX_readToken_80 (by decide) ?_
        exact MX.iret S hr hlk hw dX_readToken_84 (by first | rfl | decide) ⟨_, rfl, hT1.of rfl hA3.2.2.2.2.2.2.1, g12, fun q => absurd q (by omega), fun _ q => absurd (show k = 6 by rw [hse] at q; exact q) hk6, fun _ _ => by
          rw [hse, addT_n hS]
          refine ⟨rfl, e + tx.length, (hrp1.frame rfl (fun _ _ => rfl) (fun _ _ => rfl)).add (by omega) hA3 rfl gt (by omega) (Nat.le_refl _) (by omega), g10, g11, ?_, ?_⟩
          · show e + tx.length ≤ b; omega
          · show (ts ++ [_]).length ≤ b
            rw [List.length_append]
            simp only [List.length_singleton]
            omega⟩
  · skip
    obtain ⟨rfl, hI1, hF1⟩ := hq.1 hp
    rw [hI1, hF1] at hw
    refine lv_istore_n (lv' := [(3, .int 5), (2, .int (nI e)), (1, .int (nI p)), (0, .ref h)]) hx hb dX_readToken_19 rfl hl (by decide) rfl (fun ls hl => ?_)
    refine lv_iload_n hx hb dX_readToken_20 rfl (lv_at hl 0 rfl) ?_
    refine lv_bipush (v := 6) hx hb dX_readToken_21 (by decide) ?_
    refine lv_icmp_ne (tgt := 31) hx hb dX_readToken_23 (by decide) (fun c23 => ?_) (fun c23 => absurd c23 (by decide))
    refine lv_aload_n hx hb dX_readToken_31 rfl (lv_at hl 3 rfl) ?_
    refine gX10 S hw dX_readToken_32 ?_
    refine kz_top (y := nI e) h10 ?_
    refine lv_iload_n hx hb dX_readToken_35 rfl (lv_at hl 1 rfl) ?_
    refine lv_isub hx hb dX_readToken_36 ?_
    refine kz_top (y := nI ([] : List Int32).length) ((pk_sub (Nat.le_refl _)).trans (by rw [Nat.sub_self]; rfl)) ?_
    refine lv_istore (lv' := [(4, .int (nI ([] : List Int32).length)), (3, .int 5), (2, .int (nI e)), (1, .int (nI p)), (0, .ref h)]) hx hb dX_readToken_37 hl (by decide) rfl (fun ls hl => ?_)
    refine lv_aload_n hx hb dX_readToken_39 rfl (lv_at hl 4 rfl) ?_
    refine lv_iload_n hx hb dX_readToken_40 rfl (lv_at hl 1 rfl) ?_
    refine lv_iload_n hx hb dX_readToken_41 rfl (lv_at hl 2 rfl) ?_
    refine lv_iload hx hb dX_readToken_42 (lv_at hl 0 rfl) ?_
    refine kcXi (rest := []) S kX_92 rfl (tX_isSemicolonDue l (upd I 13 0) F ts e L (hrp.frame rfl (fun _ _ => rfl) (fun _ _ => rfl)) (by omega) h12 (by omega) 5 e [] (by simp only [List.length_nil]; omega) (fun j x hj => by simp at hj)) hw hA ⟨Nat.le_of_ble_eq_true rfl, Nat.le_of_ble_eq_true rfl⟩ rfl rfl ⟨Nat.zero_le _, Nat.zero_le _⟩ rfl hl.1 (Nat.le_of_ble_eq_true rfl) dX_readToken_44 (fun r I' F' H locs hq hw => ?_)
    obtain ⟨hr1, hr2, hr3⟩ := hq
    rw [hr2, hr3] at hw
    rw [if_neg (sem_56 (Or.inl rfl))] at hr1
    subst hr1
    refine lv_if_eq (tgt := 55) hx hb dX_readToken_47 (by decide) (fun c47 => ?_) (fun c47 => absurd c47 (by decide))
    refine lv_aload_n hx hb dX_readToken_55 rfl (lv_at hl 4 rfl) ?_
    refine lv_iload_n hx hb dX_readToken_56 rfl (lv_at hl 1 rfl) ?_
    refine lv_iload_n hx hb dX_readToken_57 rfl (lv_at hl 3 rfl) ?_
    refine lv_aload_n hx hb dX_readToken_58 rfl (lv_at hl 4 rfl) ?_
    refine gX13 S hw dX_readToken_59 ?_
    refine kz_top (y := 0) rfl ?_
    refine lv_iload_n hx hb dX_readToken_62 rfl (lv_at hl 2 rfl) ?_
    refine lv_iload hx hb dX_readToken_63 (lv_at hl 0 rfl) ?_
    refine kcXv (rest := []) S kX_99 rfl (tX_addToken l (upd I 13 0) F ts.length hrp.1 (by omega) (nI L) h12 5 (nI p) 0 (nI e) (nI ([] : List Int32).length)) hw hA ⟨Nat.le_of_ble_eq_true rfl, Nat.le_of_ble_eq_true rfl⟩ rfl rfl ⟨Nat.zero_le _, Nat.zero_le _⟩ rfl hl.1 (Nat.le_of_ble_eq_true rfl) dX_readToken_65 (fun I3 F3 H locs hs4 hw => ?_)
    obtain ⟨rfl, hA3⟩ := hs4
    refine lv_iload_n hx hb dX_readToken_68 rfl (lv_at hl 1 rfl) ?_
    refine lv_iconst (v := 5) hx hb dX_readToken_69 (by decide) ?_
    refine lv_icmp_eq (tgt := 83) hx hb dX_readToken_70 (by decide) (fun c70 => ?_) (fun c70 => absurd c70 (by decide))
    refine lv_iconst (v := 0) hx hb dX_readToken_83 (by decide) ?_
    exact MX.iret S hr hlk hw dX_readToken_84 (by first | rfl | decide) ⟨_, rfl, hT.of rfl hA3.2.2.2.2.2.2.1, h12, fun _ => ⟨rfl, e, by omega, (hrp.frame rfl (fun _ _ => rfl) (fun _ _ => rfl)).add (by omega) hA3 rfl (fun j x hj => by simp at hj) (Nat.le_refl _) (by simp) (by omega)⟩, fun q => absurd q (by omega), fun q => absurd q (by omega)⟩
end
section
/-! ===== Int32 by its bits: bt x i ===== -/
def bt (x : Int32) (i : Nat) : Bool := x.toBitVec.getLsbD i
theorem b_ext {x y : Int32} (h : ∀ i, i < 32 → bt x i = bt y i) : x = y := Int32.toBitVec_inj.mp (BitVec.eq_of_getLsbD_eq (fun i hi => h i hi))
theorem b_or (x y : Int32) (i : Nat) : bt (x ||| y) i = (bt x i || bt y i) := by unfold bt; rw [Int32.toBitVec_or, BitVec.getLsbD_or]
theorem b_and (x y : Int32) (i : Nat) : bt (x &&& y) i = (bt x i && bt y i) := by unfold bt; rw [Int32.toBitVec_and, BitVec.getLsbD_and]
theorem b_xor (x y : Int32) (i : Nat) : bt (x ^^^ y) i = (bt x i ^^ bt y i) := by unfold bt; rw [Int32.toBitVec_xor, BitVec.getLsbD_xor]
theorem b_big {x : Int32} {i : Nat} (h : 32 ≤ i) : bt x i = false := BitVec.getLsbD_of_ge _ _ h
theorem b_255 (i : Nat) : bt 255 i = decide (i < 8) := by
  rcases Nat.lt_or_ge i 32 with h | h
  · exact (by decide +kernel : ∀ i, i < 32 → bt 255 i = decide (i < 8)) i h
  · rw [b_big h, decide_eq_false (by omega)]
theorem b_65535 (i : Nat) : bt 65535 i = decide (i < 16) := by
  rcases Nat.lt_or_ge i 32 with h | h
  · exact (by decide +kernel : ∀ i, i < 32 → bt 65535 i = decide (i < 16)) i h
  · rw [b_big h, decide_eq_false (by omega)]
theorem b_m1 : ∀ i, i < 32 → bt (-1) i = true := by decide +kernel
theorem b_0 (i : Nat) : bt 0 i = false := BitVec.getLsbD_zero
theorem s_l : ∀ n, n < 32 → ((nI n &&& 31).toBitVec.smod 32).toNat = n := by decide +kernel
theorem s_u : ∀ n, n < 32 → (((nI n).toUInt32 &&& Int32.toUInt32 31).toBitVec % 32).toNat = n := by decide +kernel
theorem b_shl (n : Nat) (hn : n < 32) (x : Int32) {i : Nat} (hi : i < 32) : bt (x <<< (nI n &&& 31)) i = (decide (n ≤ i) && bt x (i - n)) := by
  unfold bt
  rw [Int32.toBitVec_shiftLeft]
  show (x.toBitVec <<< ((nI n &&& 31).toBitVec.smod 32).toNat).getLsbD i = _
  rw [s_l n hn, BitVec.getLsbD_shiftLeft]
  rcases Nat.lt_or_ge i n with h | h
  · simp [h, Nat.not_le.mpr h]
  · simp [hi, h, Nat.not_lt.mpr h]
theorem b_ushr (n : Nat) (hn : n < 32) (x : Int32) (i : Nat) : bt ((x.toUInt32 >>> ((nI n).toUInt32 &&& Int32.toUInt32 31)).toInt32) i = bt x (n + i) := by
  show (x.toUInt32 >>> ((nI n).toUInt32 &&& Int32.toUInt32 31)).toBitVec.getLsbD i = x.toUInt32.toBitVec.getLsbD (n + i)
  rw [UInt32.toBitVec_shiftRight]
  show (x.toUInt32.toBitVec >>> (((nI n).toUInt32 &&& Int32.toUInt32 31).toBitVec % 32).toNat).getLsbD i = _
  rw [s_u n hn, BitVec.getLsbD_ushiftRight]
theorem b_sshr (n : Nat) (hn : n < 32) (x : Int32) {i : Nat} (hi : i < 32) : bt (x >>> (nI n &&& 31)) i = if n + i < 32 then bt x (n + i) else bt x 31 := by
  unfold bt
  rw [Int32.toBitVec_shiftRight]
  show (x.toBitVec.sshiftRight ((nI n &&& 31).toBitVec.smod 32).toNat).getLsbD i = _
  rw [s_l n hn, BitVec.getLsbD_sshiftRight, BitVec.msb_eq_getLsbD_last]
  simp [hi]

/-! ===== the class: its public methods ===== -/
def stX (T : Nat → Int32) (n : Nat) (ts : List kz_T) (I : Nat → Int32) (F : Nat → Nat → Int32) : Prop := tpX T n I F ∧ ∃ e, e ≤ 1000 ∧ repX ts e I F
def byteI (x : Int32) (s : Nat) : Int32 := (x.toUInt32 >>> ((nI s).toUInt32 &&& Int32.toUInt32 31)).toInt32 &&& 255
theorem byte_eq (x : Int32) {s : Nat} (hs : s ≤ 24) : (x >>> (nI s &&& 31)) &&& 255 = byteI x s := by
  apply b_ext
  intro i hi
  unfold byteI
  rw [b_and, b_and, b_255, b_ushr s (by omega), b_sshr s (by omega) x hi]
  by_cases h : i < 8
  · rw [if_pos (by omega)]
  · simp [h]
theorem byte_nn (x : Int32) (s : Nat) : ¬ byteI x s < 0 := by
  obtain ⟨j, hj, e⟩ := pk_andE (x.toUInt32 >>> ((nI s).toUInt32 &&& Int32.toUInt32 31)).toInt32 (m := 255) 8 (by decide)
  unfold byteI
  rw [e]
  exact nI_pos (by omega)
def putT (T : Nat → Int32) (n : Nat) (x : Int32) : Nat → Int32 := upd (upd (upd (upd T n (byteI x 24)) (n + 1) (byteI x 16)) (n + 2) (byteI x 8)) (n + 3) (byteI x 0)
theorem putT_at {T f : Nat → Int32} {n : Nat} {x : Int32} (h : ∀ j, j < n → f j = T j) : ∀ j, j < n + 4 → putT f n x j = putT T n x j := by
  intro j hj
  simp only [putT, upd]
  by_cases h1 : j = n + 3
  · simp [h1]
  · by_cases h2 : j = n + 2
    · simp [h2]
    · by_cases h3 : j = n + 1
      · simp [h3]
      · by_cases h4 : j = n
        · simp [h4]
        · simp [h1, h2, h3, h4, h j (by omega)]
theorem putT_nn {T : Nat → Int32} {n : Nat} {x : Int32} (h : ∀ j, j < n → ¬ T j < 0) : ∀ j, j < n + 4 → ¬ putT T n x j < 0 := by
  intro j hj
  simp only [putT, upd]
  split
  · exact byte_nn x 0
  · split
    · exact byte_nn x 8
    · split
      · exact byte_nn x 16
      · split
        · exact byte_nn x 24
        · exact h j (by omega)
theorem nI_ile {n : Nat} (h : n < 2 ^ 31) {x : Int32} (h0 : ¬ x < 0) (h1 : ¬ nI n < x) : ∃ j, j ≤ n ∧ x = nI j := by
  obtain ⟨j, hj, rfl⟩ := nI_of h0
  exact ⟨j, Nat.le_of_not_lt (fun q => h1 (nI_lt q hj)), rfl⟩
set_option maxHeartbeats 4000000 in
set_option maxRecDepth 100000 in
theorem tX_appendBytes (l : Launch) (I : Nat → Int32) (F : Nat → Nat → Int32) (T : Nat → Int32) (n : Nat) (hT : tpX T n I F) (hn4 : n + 4 ≤ 1000) (x : Int32) : MX l yX_appendBytes cX_appendBytes 3 none ({ frames := 0, cells := 0, slots := 0, locals := 0 }) [.int x] I F (vR (fun I' F' => tpX (putT T n x) (n + 4) I' F' ∧ (∀ k, k ≠ 1 → I' k = I k) ∧ ∀ k, k ≠ 0 → F' k = F k)) := by
  refine MX.mk (by decide) (fun _ => Nat.le_of_ble_eq_true rfl) ?_
  intro z D cA h a pg en s m below meth c ls S hr hlk hA hw hl
  have hx := S.1
  have hb := S.2.1
  have hl : lv_has ls 3 [(0, .ref h), (1, .int x)] := hl
  refine lv_bipush (v := 24) hx hb dX_appendBytes_0 (by decide) ?_
  refine lv_istore_n (lv' := [(2, .int 24), (0, .ref h), (1, .int x)]) hx hb dX_appendBytes_2 rfl hl (by decide) rfl (fun ls hl => ?_)
  refine lv_iload_n hx hb dX_appendBytes_3 rfl (lv_at hl 0 rfl) ?_
  refine lv_if_lt (tgt := 49) hx hb dX_appendBytes_4 (by decide) (fun c4 => absurd c4 (by decide)) (fun c4 => ?_)
  refine lv_aload_n hx hb dX_appendBytes_7 rfl (lv_at hl 1 rfl) ?_
  refine gX1 S hw dX_appendBytes_8 ?_
  refine kz_top (y := nI n) hT.1 ?_
  refine lv_sipush (v := 1000) hx hb dX_appendBytes_11 (by decide) ?_
  refine lv_icmp_ge (tgt := 49) hx hb dX_appendBytes_14 (by decide) (fun c14 => absurd c14 (nI_ge (a := n) (b := 1000) (by omega) (by decide))) (fun c14 => ?_)
  refine lv_aload_n hx hb dX_appendBytes_17 rfl (lv_at hl 1 rfl) ?_
  refine gX0 S hw dX_appendBytes_18 ?_
  refine lv_aload_n hx hb dX_appendBytes_21 rfl (lv_at hl 1 rfl) ?_
  refine gX1 S hw dX_appendBytes_22 ?_
  refine kz_top (y := nI n) hT.1 ?_
  refine lv_iload_n hx hb dX_appendBytes_25 rfl (lv_at hl 2 rfl) ?_
  refine lv_iload_n hx hb dX_appendBytes_26 rfl (lv_at hl 0 rfl) ?_
  refine lv_iushr (v := (x.toUInt32 >>> ((24 : Int32).toUInt32 &&& Int32.toUInt32 31)).toInt32) hx hb dX_appendBytes_27 rfl ?_
  refine lv_sipush (v := 255) hx hb dX_appendBytes_28 (by decide) ?_
  refine lv_iand hx hb dX_appendBytes_31 ?_
  refine stX0 S hw (vp_in_nI (by omega) (by decide)) dX_appendBytes_32 (fun H locs hw => ?_)
  refine lv_aload_n hx hb dX_appendBytes_33 rfl (lv_at hl 1 rfl) ?_
  refine lv_dup hx hb dX_appendBytes_34 rfl ?_
  refine gX1 S hw dX_appendBytes_35 ?_
  refine kz_top (y := nI n) hT.1 ?_
  refine lv_iconst (v := 1) hx hb dX_appendBytes_38 (by decide) ?_
  refine lv_iadd hx hb dX_appendBytes_39 ?_
  refine kz_top (y := nI (n + 1)) (nI_add n 1) ?_
  refine pX1 S hw dX_appendBytes_40 (fun H locs hw => ?_)
  refine lv_iinc (v := 16) (lv' := [(2, .int 16), (0, .ref h), (1, .int x)]) hx hb dX_appendBytes_43 hl (k := 0) rfl (by decide) (by decide) rfl (fun ls hl => ?_)
  refine lv_goto (tgt := 3) hx hb dX_appendBytes_46 (by decide) ?_
  refine lv_iload_n hx hb dX_appendBytes_3 rfl (lv_at hl 0 rfl) ?_
  refine lv_if_lt (tgt := 49) hx hb dX_appendBytes_4 (by decide) (fun c4 => absurd c4 (by decide)) (fun c4 => ?_)
  refine lv_aload_n hx hb dX_appendBytes_7 rfl (lv_at hl 1 rfl) ?_
  refine gX1 S hw dX_appendBytes_8 ?_
  refine kz_top (y := nI (n + 1)) rfl ?_
  refine lv_sipush (v := 1000) hx hb dX_appendBytes_11 (by decide) ?_
  refine lv_icmp_ge (tgt := 49) hx hb dX_appendBytes_14 (by decide) (fun c14 => absurd c14 (nI_ge (a := n + 1) (b := 1000) (by omega) (by decide))) (fun c14 => ?_)
  refine lv_aload_n hx hb dX_appendBytes_17 rfl (lv_at hl 1 rfl) ?_
  refine gX0 S hw dX_appendBytes_18 ?_
  refine lv_aload_n hx hb dX_appendBytes_21 rfl (lv_at hl 1 rfl) ?_
  refine gX1 S hw dX_appendBytes_22 ?_
  refine kz_top (y := nI (n + 1)) rfl ?_
  refine lv_iload_n hx hb dX_appendBytes_25 rfl (lv_at hl 2 rfl) ?_
  refine lv_iload_n hx hb dX_appendBytes_26 rfl (lv_at hl 0 rfl) ?_
  refine lv_iushr (v := (x.toUInt32 >>> ((16 : Int32).toUInt32 &&& Int32.toUInt32 31)).toInt32) hx hb dX_appendBytes_27 rfl ?_
  refine lv_sipush (v := 255) hx hb dX_appendBytes_28 (by decide) ?_
  refine lv_iand hx hb dX_appendBytes_31 ?_
  refine stX0 S hw (vp_in_nI (by omega) (by decide)) dX_appendBytes_32 (fun H locs hw => ?_)
  refine lv_aload_n hx hb dX_appendBytes_33 rfl (lv_at hl 1 rfl) ?_
  refine lv_dup hx hb dX_appendBytes_34 rfl ?_
  refine gX1 S hw dX_appendBytes_35 ?_
  refine kz_top (y := nI (n + 1)) rfl ?_
  refine lv_iconst (v := 1) hx hb dX_appendBytes_38 (by decide) ?_
  refine lv_iadd hx hb dX_appendBytes_39 ?_
  refine kz_top (y := nI (n + 1 + 1)) (nI_add (n + 1) 1) ?_
  refine pX1 S hw dX_appendBytes_40 (fun H locs hw => ?_)
  refine lv_iinc (v := 8) (lv' := [(2, .int 8), (0, .ref h), (1, .int x)]) hx hb dX_appendBytes_43 hl (k := 0) rfl (by decide) (by decide) rfl (fun ls hl => ?_)
  refine lv_goto (tgt := 3) hx hb dX_appendBytes_46 (by decide) ?_
  refine lv_iload_n hx hb dX_appendBytes_3 rfl (lv_at hl 0 rfl) ?_
  refine lv_if_lt (tgt := 49) hx hb dX_appendBytes_4 (by decide) (fun c4 => absurd c4 (by decide)) (fun c4 => ?_)
  refine lv_aload_n hx hb dX_appendBytes_7 rfl (lv_at hl 1 rfl) ?_
  refine gX1 S hw dX_appendBytes_8 ?_
  refine kz_top (y := nI (n + 1 + 1)) rfl ?_
  refine lv_sipush (v := 1000) hx hb dX_appendBytes_11 (by decide) ?_
  refine lv_icmp_ge (tgt := 49) hx hb dX_appendBytes_14 (by decide) (fun c14 => absurd c14 (nI_ge (a := n + 1 + 1) (b := 1000) (by omega) (by decide))) (fun c14 => ?_)
  refine lv_aload_n hx hb dX_appendBytes_17 rfl (lv_at hl 1 rfl) ?_
  refine gX0 S hw dX_appendBytes_18 ?_
  refine lv_aload_n hx hb dX_appendBytes_21 rfl (lv_at hl 1 rfl) ?_
  refine gX1 S hw dX_appendBytes_22 ?_
  refine kz_top (y := nI (n + 1 + 1)) rfl ?_
  refine lv_iload_n hx hb dX_appendBytes_25 rfl (lv_at hl 2 rfl) ?_
  refine lv_iload_n hx hb dX_appendBytes_26 rfl (lv_at hl 0 rfl) ?_
  refine lv_iushr (v := (x.toUInt32 >>> ((8 : Int32).toUInt32 &&& Int32.toUInt32 31)).toInt32) hx hb dX_appendBytes_27 rfl ?_
  refine lv_sipush (v := 255) hx hb dX_appendBytes_28 (by decide) ?_
  refine lv_iand hx hb dX_appendBytes_31 ?_
  refine stX0 S hw (vp_in_nI (by omega) (by decide)) dX_appendBytes_32 (fun H locs hw => ?_)
  refine lv_aload_n hx hb dX_appendBytes_33 rfl (lv_at hl 1 rfl) ?_
  refine lv_dup hx hb dX_appendBytes_34 rfl ?_
  refine gX1 S hw dX_appendBytes_35 ?_
  refine kz_top (y := nI (n + 1 + 1)) rfl ?_
  refine lv_iconst (v := 1) hx hb dX_appendBytes_38 (by decide) ?_
  refine lv_iadd hx hb dX_appendBytes_39 ?_
  refine kz_top (y := nI (n + 1 + 1 + 1)) (nI_add (n + 1 + 1) 1) ?_
  refine pX1 S hw dX_appendBytes_40 (fun H locs hw => ?_)
  refine lv_iinc (v := 0) (lv' := [(2, .int 0), (0, .ref h), (1, .int x)]) hx hb dX_appendBytes_43 hl (k := 0) rfl (by decide) (by decide) rfl (fun ls hl => ?_)
  refine lv_goto (tgt := 3) hx hb dX_appendBytes_46 (by decide) ?_
  refine lv_iload_n hx hb dX_appendBytes_3 rfl (lv_at hl 0 rfl) ?_
  refine lv_if_lt (tgt := 49) hx hb dX_appendBytes_4 (by decide) (fun c4 => absurd c4 (by decide)) (fun c4 => ?_)
  refine lv_aload_n hx hb dX_appendBytes_7 rfl (lv_at hl 1 rfl) ?_
  refine gX1 S hw dX_appendBytes_8 ?_
  refine kz_top (y := nI (n + 1 + 1 + 1)) rfl ?_
  refine lv_sipush (v := 1000) hx hb dX_appendBytes_11 (by decide) ?_
  refine lv_icmp_ge (tgt := 49) hx hb dX_appendBytes_14 (by decide) (fun c14 => absurd c14 (nI_ge (a := n + 1 + 1 + 1) (b := 1000) (by omega) (by decide))) (fun c14 => ?_)
  refine lv_aload_n hx hb dX_appendBytes_17 rfl (lv_at hl 1 rfl) ?_
  refine gX0 S hw dX_appendBytes_18 ?_
  refine lv_aload_n hx hb dX_appendBytes_21 rfl (lv_at hl 1 rfl) ?_
  refine gX1 S hw dX_appendBytes_22 ?_
  refine kz_top (y := nI (n + 1 + 1 + 1)) rfl ?_
  refine lv_iload_n hx hb dX_appendBytes_25 rfl (lv_at hl 2 rfl) ?_
  refine lv_iload_n hx hb dX_appendBytes_26 rfl (lv_at hl 0 rfl) ?_
  refine lv_iushr (v := (x.toUInt32 >>> ((0 : Int32).toUInt32 &&& Int32.toUInt32 31)).toInt32) hx hb dX_appendBytes_27 rfl ?_
  refine lv_sipush (v := 255) hx hb dX_appendBytes_28 (by decide) ?_
  refine lv_iand hx hb dX_appendBytes_31 ?_
  refine stX0 S hw (vp_in_nI (by omega) (by decide)) dX_appendBytes_32 (fun H locs hw => ?_)
  refine lv_aload_n hx hb dX_appendBytes_33 rfl (lv_at hl 1 rfl) ?_
  refine lv_dup hx hb dX_appendBytes_34 rfl ?_
  refine gX1 S hw dX_appendBytes_35 ?_
  refine kz_top (y := nI (n + 1 + 1 + 1)) rfl ?_
  refine lv_iconst (v := 1) hx hb dX_appendBytes_38 (by decide) ?_
  refine lv_iadd hx hb dX_appendBytes_39 ?_
  refine kz_top (y := nI (n + 1 + 1 + 1 + 1)) (nI_add (n + 1 + 1 + 1) 1) ?_
  refine pX1 S hw dX_appendBytes_40 (fun H locs hw => ?_)
  refine lv_iinc (v := (-8)) (lv' := [(2, .int (-8)), (0, .ref h), (1, .int x)]) hx hb dX_appendBytes_43 hl (k := 0) rfl (by decide) (by decide) rfl (fun ls hl => ?_)
  refine lv_goto (tgt := 3) hx hb dX_appendBytes_46 (by decide) ?_
  refine lv_iload_n hx hb dX_appendBytes_3 rfl (lv_at hl 0 rfl) ?_
  refine lv_if_lt (tgt := 49) hx hb dX_appendBytes_4 (by decide) (fun c4 => ?_) (fun c4 => absurd c4 (by decide))
  exact MX.vret S hr hlk hw dX_appendBytes_49 ⟨rfl, by
    refine ⟨⟨rfl, hn4, fun j hj => ?_, putT_nn hT.2.2.2⟩, fun k hk => ?_, fun k hk => ?_⟩
    · have e : putT (F 0) n x j = putT T n x j := putT_at hT.2.2.1 j hj
      rw [← e]
      show upd (upd (upd (upd (F 0) (nI n).toNatClampNeg _) (nI (n + 1)).toNatClampNeg _) (nI (n + 1 + 1)).toNatClampNeg _) (nI (n + 1 + 1 + 1)).toNatClampNeg _ j = _
      rw [nI_clamp (by omega), nI_clamp (by omega), nI_clamp (by omega), nI_clamp (by omega)]
      rfl
    · simp [upd, hk]
    · simp [va_up, hk]⟩
theorem repX.tape {ts : List kz_T} {e : Nat} {I I' : Nat → Int32} {F F' : Nat → Nat → Int32} (h : repX ts e I F) (h8 : I' 8 = I 8) (hF : ∀ k, k ≠ 0 → F' k = F k) : repX ts e I' F' := by
  refine ⟨h8.trans h.1, h.2.1, fun k t ht => ?_⟩
  rw [hF 2 (by decide), hF 3 (by decide), hF 4 (by decide), hF 5 (by decide), hF 6 (by decide), hF 7 (by decide), hF 9 (by decide)]
  exact h.2.2 k t ht
def fedT (T : Nat → Int32) (n : Nat) (x1 x2 x3 x4 x5 : Int32) : Nat → Int32 := putT (putT (putT (putT (putT T n x1) (n + 4) x2) (n + 4 + 4) x3) (n + 4 + 4 + 4) x4) (n + 4 + 4 + 4 + 4) x5
set_option maxHeartbeats 4000000 in
set_option maxRecDepth 100000 in
theorem tX_feed (l : Launch) (I : Nat → Int32) (F : Nat → Nat → Int32) (T : Nat → Int32) (n : Nat) (ts : List kz_T) (hst : stX T n ts I F) (x1 x2 x3 x4 x5 : Int32) : MX l yX_feed cX_feed 6 (some .boolean) ({ frames := 1, cells := 0, slots := 0, locals := 22 }) [.int x1, .int x2, .int x3, .int x4, .int x5] I F (iR (fun r I' F' => (n + 20 ≤ 1000 → r = 1 ∧ stX (fedT T n x1 x2 x3 x4 x5) (n + 4 + 4 + 4 + 4 + 4) ts I' F') ∧ (¬ n + 20 ≤ 1000 → r = 0 ∧ I' = I ∧ F' = F))) := by
  refine MX.mk (by decide) (fun _ => Nat.le_of_ble_eq_true rfl) ?_
  intro z D cA h a pg en s m below meth c ls S hr hlk hA hw hl
  have hx := S.1
  have hb := S.2.1
  have hl : lv_has ls 6 [(0, .ref h), (1, .int x1), (2, .int x2), (3, .int x3), (4, .int x4), (5, .int x5)] := hl
  obtain ⟨hT, e0, he0, hrp⟩ := hst
  have hn := hT.2.1
  refine lv_aload_n hx hb dX_feed_0 rfl (lv_at hl 0 rfl) ?_
  refine gX1 S hw dX_feed_1 ?_
  refine kz_top (y := nI n) hT.1 ?_
  refine lv_bipush (v := 20) hx hb dX_feed_4 (by decide) ?_
  refine lv_iadd hx hb dX_feed_6 ?_
  refine kz_top (y := nI (n + 20)) (nI_add n 20) ?_
  refine lv_sipush (v := 1000) hx hb dX_feed_7 (by decide) ?_
  refine lv_icmp_le (tgt := 15) hx hb dX_feed_10 (by decide) (fun c10 => ?_) (fun c10 => ?_)
  · skip
    have hn20 : n + 20 ≤ 1000 := (nI_leI (a := n + 20) (b := 1000) (by omega) (by decide)).mp c10
    refine lv_aload_n hx hb dX_feed_15 rfl (lv_at hl 0 rfl) ?_
    refine lv_iload_n hx hb dX_feed_16 rfl (lv_at hl 1 rfl) ?_
    refine kcXv (rest := []) S kX_38 rfl (tX_appendBytes l I F _ _ hT (by omega) x1) hw hA ⟨Nat.le_of_ble_eq_true rfl, Nat.le_of_ble_eq_true rfl⟩ rfl rfl ⟨Nat.zero_le _, Nat.zero_le _⟩ rfl hl.1 (Nat.le_of_ble_eq_true rfl) dX_feed_17 (fun I1 F1 H locs hq1 hw => ?_)
    refine lv_aload_n hx hb dX_feed_20 rfl (lv_at hl 0 rfl) ?_
    refine lv_iload_n hx hb dX_feed_21 rfl (lv_at hl 2 rfl) ?_
    refine kcXv (rest := []) S kX_38 rfl (tX_appendBytes l I1 F1 _ _ hq1.1 (by omega) x2) hw hA ⟨Nat.le_of_ble_eq_true rfl, Nat.le_of_ble_eq_true rfl⟩ rfl rfl ⟨Nat.zero_le _, Nat.zero_le _⟩ rfl hl.1 (Nat.le_of_ble_eq_true rfl) dX_feed_22 (fun I2 F2 H locs hq2 hw => ?_)
    refine lv_aload_n hx hb dX_feed_25 rfl (lv_at hl 0 rfl) ?_
    refine lv_iload_n hx hb dX_feed_26 rfl (lv_at hl 3 rfl) ?_
    refine kcXv (rest := []) S kX_38 rfl (tX_appendBytes l I2 F2 _ _ hq2.1 (by omega) x3) hw hA ⟨Nat.le_of_ble_eq_true rfl, Nat.le_of_ble_eq_true rfl⟩ rfl rfl ⟨Nat.zero_le _, Nat.zero_le _⟩ rfl hl.1 (Nat.le_of_ble_eq_true rfl) dX_feed_27 (fun I3 F3 H locs hq3 hw => ?_)
    refine lv_aload_n hx hb dX_feed_30 rfl (lv_at hl 0 rfl) ?_
    refine lv_iload hx hb dX_feed_31 (lv_at hl 4 rfl) ?_
    refine kcXv (rest := []) S kX_38 rfl (tX_appendBytes l I3 F3 _ _ hq3.1 (by omega) x4) hw hA ⟨Nat.le_of_ble_eq_true rfl, Nat.le_of_ble_eq_true rfl⟩ rfl rfl ⟨Nat.zero_le _, Nat.zero_le _⟩ rfl hl.1 (Nat.le_of_ble_eq_true rfl) dX_feed_33 (fun I4 F4 H locs hq4 hw => ?_)
    refine lv_aload_n hx hb dX_feed_36 rfl (lv_at hl 0 rfl) ?_
    refine lv_iload hx hb dX_feed_37 (lv_at hl 5 rfl) ?_
    refine kcXv (rest := []) S kX_38 rfl (tX_appendBytes l I4 F4 _ _ hq4.1 (by omega) x5) hw hA ⟨Nat.le_of_ble_eq_true rfl, Nat.le_of_ble_eq_true rfl⟩ rfl rfl ⟨Nat.zero_le _, Nat.zero_le _⟩ rfl hl.1 (Nat.le_of_ble_eq_true rfl) dX_feed_39 (fun I5 F5 H locs hq5 hw => ?_)
    refine lv_iconst (v := 1) hx hb dX_feed_42 (by decide) ?_
    exact MX.iret S hr hlk hw dX_feed_43 (by first | rfl | decide) ⟨_, rfl, fun _ => ⟨rfl, hq5.1, e0, he0, ((((hrp.tape (hq1.2.1 8 (by decide)) hq1.2.2).tape (hq2.2.1 8 (by decide)) hq2.2.2).tape (hq3.2.1 8 (by decide)) hq3.2.2).tape (hq4.2.1 8 (by decide)) hq4.2.2).tape (hq5.2.1 8 (by decide)) hq5.2.2⟩, fun q => absurd hn20 q⟩
  · skip
    refine lv_iconst (v := 0) hx hb dX_feed_13 (by decide) ?_
    exact MX.iret S hr hlk hw dX_feed_14 (by first | rfl | decide) ⟨_, rfl, fun q => absurd (show nI (n + 20) ≤ 1000 from nI_le (b := 1000) q (by decide)) c10, fun _ => ⟨rfl, rfl, rfl⟩⟩
set_option maxHeartbeats 4000000 in
set_option maxRecDepth 100000 in
theorem tX_end (l : Launch) (I : Nat → Int32) (F : Nat → Nat → Int32) (T : Nat → Int32) (n : Nat) (ts : List kz_T) (hst : stX T n ts I F) (x : Int32) : MX l yX_end cX_end 2 (some .boolean) ({ frames := 0, cells := 0, slots := 0, locals := 0 }) [.int x] I F (iR (fun r I' F' => (∀ j, j ≤ n → x = nI j → r = 1 ∧ stX T j ts I' F') ∧ (¬ (¬ x < 0 ∧ ¬ nI n < x) → r = 0 ∧ I' = I ∧ F' = F))) := by
  refine MX.mk (by decide) (fun _ => Nat.le_of_ble_eq_true rfl) ?_
  intro z D cA h a pg en s m below meth c ls S hr hlk hA hw hl
  have hx := S.1
  have hb := S.2.1
  have hl : lv_has ls 2 [(0, .ref h), (1, .int x)] := hl
  obtain ⟨hT, e0, he0, hrp⟩ := hst
  have hn := hT.2.1
  refine lv_iload_n hx hb dX_end_0 rfl (lv_at hl 1 rfl) ?_
  refine lv_if_lt (tgt := 12) hx hb dX_end_1 (by decide) (fun c1 => ?_) (fun c1 => ?_)
  · skip
    refine lv_iconst (v := 0) hx hb dX_end_12 (by decide) ?_
    exact MX.iret S hr hlk hw dX_end_13 (by first | rfl | decide) ⟨_, rfl, fun j hj e1 => absurd c1 (by rw [e1]; exact nI_pos (by omega)), fun _ => ⟨rfl, rfl, rfl⟩⟩
  · skip
    refine lv_iload_n hx hb dX_end_4 rfl (lv_at hl 1 rfl) ?_
    refine lv_aload_n hx hb dX_end_5 rfl (lv_at hl 0 rfl) ?_
    refine gX1 S hw dX_end_6 ?_
    refine kz_top (y := nI n) hT.1 ?_
    refine lv_icmp_le (tgt := 14) hx hb dX_end_9 (by decide) (fun c9 => ?_) (fun c9 => ?_)
    · skip
      refine lv_aload_n hx hb dX_end_14 rfl (lv_at hl 0 rfl) ?_
      refine lv_iload_n hx hb dX_end_15 rfl (lv_at hl 1 rfl) ?_
      refine pX1 S hw dX_end_16 (fun H locs hw => ?_)
      refine lv_iconst (v := 1) hx hb dX_end_19 (by decide) ?_
      exact MX.iret S hr hlk hw dX_end_20 (by first | rfl | decide) ⟨_, rfl, fun j _ e1 => by subst e1; exact ⟨rfl, ⟨rfl, by omega, fun i hi => hT.2.2.1 i (by omega), fun i hi => hT.2.2.2 i (by omega)⟩, e0, he0, hrp.tape rfl (fun _ _ => rfl)⟩, fun q => absurd ⟨c1, fun z => Int32.not_lt.mpr c9 z⟩ q⟩
    · skip
      refine lv_iconst (v := 0) hx hb dX_end_12 (by decide) ?_
      exact MX.iret S hr hlk hw dX_end_13 (by first | rfl | decide) ⟨_, rfl, fun j hj e1 => absurd (by rw [e1]; exact nI_le hj (by omega)) c9, fun _ => ⟨rfl, rfl, rfl⟩⟩
theorem tokF_end {T : Nat → Int32} {n m p L : Nat} {ts : List kz_T} (h : ¬ (skp T n (n - p) false p L).1 < n) : tokF T n (m + 1) p L ts = ts ++ [(5, (skp T n (n - p) false p L).1, (skp T n (n - p) false p L).2, 0, [])] := by
  rw [tokF, if_neg h]
theorem tokF_bad {T : Nat → Int32} {n m p L : Nat} {ts : List kz_T} (h : (skp T n (n - p) false p L).1 < n) (h6 : (scT T n (skp T n (n - p) false p L).1).1 = 6) : tokF T n (m + 1) p L ts = ts ++ [(6, (skp T n (n - p) false p L).1, (skp T n (n - p) false p L).2, 0, [])] := by
  rw [tokF, if_pos h, if_pos h6]
theorem tokF_go {T : Nat → Int32} {n m p L : Nat} {ts : List kz_T} (h : (skp T n (n - p) false p L).1 < n) (h6 : ¬ (scT T n (skp T n (n - p) false p L).1).1 = 6) : tokF T n (m + 1) p L ts = tokF T n m (scT T n (skp T n (n - p) false p L).1).2.2.1 (skp T n (n - p) false p L).2 (addT ts (skp T n (n - p) false p L).1 (skp T n (n - p) false p L).2 (scT T n (skp T n (n - p) false p L).1)) := by
  rw [tokF, if_pos h, if_neg h6]
theorem addT_last (ts : List kz_T) (p L : Nat) (q : kz_S) : ∀ t, (addT ts p L q).getLast? = some t → t.2.2.1 = L := by
  intro t h
  unfold addT at h
  rw [List.getLast?_concat] at h
  cases h
  rfl
def allT (T : Nat → Int32) (n : Nat) : List kz_T := tokF T n (n + 1) 0 0 []
set_option maxHeartbeats 4000000 in
set_option maxRecDepth 100000 in
theorem tX_read (l : Launch) (I : Nat → Int32) (F : Nat → Nat → Int32) (T : Nat → Int32) (n : Nat) (ts : List kz_T) (hst : stX T n ts I F) : MX l yX_read cX_read 3 (some .int) ({ frames := 9, cells := 0, slots := 0, locals := 202 }) [] I F (iR (fun r I' F' => r = nI (allT T n).length ∧ stX T 0 (allT T n) I' F')) := by
  refine MX.mk (by decide) (fun _ => Nat.le_of_ble_eq_true rfl) ?_
  intro z D cA h a pg en s m below meth c ls S hr hlk hA hw hl
  have hx := S.1
  have hb := S.2.1
  have hl : lv_has ls 3 [(0, .ref h)] := hl
  obtain ⟨hT, e0, he0, hrp⟩ := hst
  have hn := hT.2.1
  have loop24 : ∀ (fu : Nat) (p e L u mm : Nat) (tk : List kz_T) (I1 : Nat → Int32) (F1 : Nat → Nat → Int32) (H : Heap) (locs : List Loc) (ls : Array Slot), midX T n tk p e L I1 F1 → allOK tk → (∀ t, tk.getLast? = some t → t.2.2.1 = L) → u ≤ p → n + 1 ≤ p + mm → n + 1 ≤ p + fu → tokF T n mm p L tk = allT T n → sX z D cA h a (AX h a s.heap.size) s H locs I1 F1 → lv_has ls 3 [(0, .ref h), (1, .int 1), (2, .int (nI u))] → W pg l en ({ frames := 9, cells := 0, slots := 0, locals := 202 }) s m ([.ref h] : List Value).toArray below meth c H locs 0 0 (MQ below (QX z D cA h a s.heap.size (iR (fun r I' F' => r = nI (allT T n).length ∧ stX T 0 (allT T n) I' F'))) ([.ref h] : List Value).toArray s 0 0 (AX h a s.heap.size)) (F0 m 24 ls []) := by
    intro fu
    induction fu with
    | zero => intro p e L u mm  tk  I1  F1  H locs ls hi hok hla hu hm hf hR hw hl; have := hi.2.2.2.1; omega
    | succ fu ih =>
      intro p e L u mm  tk  I1  F1  H locs ls hi hok hla hu hm hf hR hw hl
      obtain ⟨hT1, hrp1, h11, hp, h10, he, hc, h12, hL⟩ := hi
      obtain ⟨m1, rfl⟩ : ∃ m1, mm = m1 + 1 := ⟨mm - 1, by omega⟩
      obtain ⟨k1, k2, k3, k4⟩ := skp_le T n (n - p) false p L
      refine lv_iload_n hx hb dX_read_24 rfl (lv_at hl 2 rfl) ?_
      refine lv_sipush (v := 1001) hx hb dX_read_25 (by decide) ?_
      refine lv_icmp_ge (tgt := 50) hx hb dX_read_28 (by decide) (fun c28 => absurd c28 (nI_ge (a := u) (b := 1001) (by omega) (by decide))) (fun c28 => ?_)
      refine lv_iload_n hx hb dX_read_31 rfl (lv_at hl 1 rfl) ?_
      refine lv_if_eq (tgt := 50) hx hb dX_read_32 (by decide) (fun c32 => absurd c32 (by decide)) (fun c32 => ?_)
      refine lv_aload_n hx hb dX_read_35 rfl (lv_at hl 0 rfl) ?_
      refine kcXv (rest := []) S kX_54 rfl (tX_skipGap l I1 F1 T n hT1 p L h11 h12 hp) hw hA ⟨Nat.le_of_ble_eq_true rfl, Nat.le_of_ble_eq_true rfl⟩ rfl rfl ⟨Nat.zero_le _, Nat.zero_le _⟩ rfl hl.1 (Nat.le_of_ble_eq_true rfl) dX_read_36 (fun I2 F2 H locs hq hw => ?_)
      obtain ⟨s11, s12, sI, hF2⟩ := hq
      rw [hF2] at hw
      have hi2 : midX T n tk (skp T n (n - p) false p L).1 e (skp T n (n - p) false p L).2 I2 F1 := ⟨hT1.of (sI 1 (by decide) (by decide)) rfl, hrp1.frame (sI 8 (by decide) (by decide)) (fun _ _ => rfl) (fun _ _ => rfl), s11, by omega, (sI 10 (by decide) (by decide)).trans h10, by omega, by omega, s12, by omega⟩
      refine lv_aload_n hx hb dX_read_39 rfl (lv_at hl 0 rfl) ?_
      refine kcXi (rest := []) S kX_57 rfl (tX_readToken l I2 F1 T n tk _ e _ hi2 hok (fun t a b => by have := hla t a; omega)) hw hA ⟨Nat.le_of_ble_eq_true rfl, Nat.le_of_ble_eq_true rfl⟩ rfl rfl ⟨Nat.zero_le _, Nat.zero_le _⟩ rfl hl.1 (Nat.le_of_ble_eq_true rfl) dX_read_40 (fun r I3 F3 H locs hq hw => ?_)
      obtain ⟨hT3, g12, qe, qb, qt⟩ := hq
      by_cases hlt : (skp T n (n - p) false p L).1 < n
      · skip
        by_cases h6 : (scT T n (skp T n (n - p) false p L).1).1 = 6
        · skip
          obtain ⟨rfl, e1, he1, hrp3⟩ := qb hlt h6
          rw [← tokF_bad (m := m1) hlt h6, hR] at hrp3
          refine lv_istore_n (lv' := [(1, .int 0), (0, .ref h), (2, .int (nI u))]) hx hb dX_read_43 rfl hl (by decide) rfl (fun ls hl => ?_)
          refine lv_iinc (v := nI (u + 1)) (lv' := [(2, .int (nI (u + 1))), (1, .int 0), (0, .ref h)]) hx hb dX_read_44 hl (k := 2) rfl (nI_1 u) (by decide) rfl (fun ls hl => ?_)
          refine lv_goto (tgt := 24) hx hb dX_read_47 (by decide) ?_
          refine lv_iload_n hx hb dX_read_24 rfl (lv_at hl 0 rfl) ?_
          refine lv_sipush (v := 1001) hx hb dX_read_25 (by decide) ?_
          refine lv_icmp_ge (tgt := 50) hx hb dX_read_28 (by decide) (fun c28 => ?_) (fun c28 => ?_)
          · skip
            refine lv_aload_n hx hb dX_read_50 rfl (lv_at hl 2 rfl) ?_
            refine lv_iconst (v := 0) hx hb dX_read_51 (by decide) ?_
            refine pX1 S hw dX_read_52 (fun H locs hw => ?_)
            refine lv_aload_n hx hb dX_read_55 rfl (lv_at hl 2 rfl) ?_
            refine gX8 S hw dX_read_56 ?_
            refine kz_top (y := nI (allT T n).length) hrp3.1 ?_
            exact MX.iret S hr hlk hw dX_read_59 rfl ⟨_, rfl, rfl, ⟨rfl, by omega, fun j hj => absurd hj (Nat.not_lt_zero _), fun j hj => absurd hj (Nat.not_lt_zero _)⟩, e1, he1, hrp3.frame rfl (fun _ _ => rfl) (fun _ _ => rfl)⟩
          · skip
            refine lv_iload_n hx hb dX_read_31 rfl (lv_at hl 1 rfl) ?_
            refine lv_if_eq (tgt := 50) hx hb dX_read_32 (by decide) (fun c32 => ?_) (fun c32 => absurd c32 (by decide))
            refine lv_aload_n hx hb dX_read_50 rfl (lv_at hl 2 rfl) ?_
            refine lv_iconst (v := 0) hx hb dX_read_51 (by decide) ?_
            refine pX1 S hw dX_read_52 (fun H locs hw => ?_)
            refine lv_aload_n hx hb dX_read_55 rfl (lv_at hl 2 rfl) ?_
            refine gX8 S hw dX_read_56 ?_
            refine kz_top (y := nI (allT T n).length) hrp3.1 ?_
            exact MX.iret S hr hlk hw dX_read_59 rfl ⟨_, rfl, rfl, ⟨rfl, by omega, fun j hj => absurd hj (Nat.not_lt_zero _), fun j hj => absurd hj (Nat.not_lt_zero _)⟩, e1, he1, hrp3.frame rfl (fun _ _ => rfl) (fun _ _ => rfl)⟩
        · skip
          obtain ⟨rfl, e1, hrp3, g10, g11, ge, gl⟩ := qt hlt h6
          obtain ⟨o1, o2, o3, o4, o5⟩ := scT_ok (T := T) hlt h6
          refine lv_istore_n (lv' := [(1, .int 1), (0, .ref h), (2, .int (nI u))]) hx hb dX_read_43 rfl hl (by decide) rfl (fun ls hl => ?_)
          refine lv_iinc (v := nI (u + 1)) (lv' := [(2, .int (nI (u + 1))), (1, .int 1), (0, .ref h)]) hx hb dX_read_44 hl (k := 2) rfl (nI_1 u) (by decide) rfl (fun ls hl => ?_)
          refine lv_goto (tgt := 24) hx hb dX_read_47 (by decide) ?_
          exact ih _ e1 _ (u + 1) m1 _ _ _ H locs ls ⟨hT3, hrp3, g11, o2, g10, ge, gl, g12, by omega⟩ (addT_ok hok o4) (addT_last _ _ _ _) (by omega) (by omega) (by omega) (by rw [← hR, tokF_go hlt h6]) hw (lv_sub hl [2, 1, 0] rfl)
      · skip
        obtain ⟨rfl, e1, he1, hrp3⟩ := qe (Nat.le_antisymm (Nat.le_trans k2 (Nat.le_of_eq (Nat.add_sub_cancel' hp))) (Nat.le_of_not_lt hlt))
        rw [← tokF_end (m := m1) hlt, hR] at hrp3
        refine lv_istore_n (lv' := [(1, .int 0), (0, .ref h), (2, .int (nI u))]) hx hb dX_read_43 rfl hl (by decide) rfl (fun ls hl => ?_)
        refine lv_iinc (v := nI (u + 1)) (lv' := [(2, .int (nI (u + 1))), (1, .int 0), (0, .ref h)]) hx hb dX_read_44 hl (k := 2) rfl (nI_1 u) (by decide) rfl (fun ls hl => ?_)
        refine lv_goto (tgt := 24) hx hb dX_read_47 (by decide) ?_
        refine lv_iload_n hx hb dX_read_24 rfl (lv_at hl 0 rfl) ?_
        refine lv_sipush (v := 1001) hx hb dX_read_25 (by decide) ?_
        refine lv_icmp_ge (tgt := 50) hx hb dX_read_28 (by decide) (fun c28 => ?_) (fun c28 => ?_)
        · skip
          refine lv_aload_n hx hb dX_read_50 rfl (lv_at hl 2 rfl) ?_
          refine lv_iconst (v := 0) hx hb dX_read_51 (by decide) ?_
          refine pX1 S hw dX_read_52 (fun H locs hw => ?_)
          refine lv_aload_n hx hb dX_read_55 rfl (lv_at hl 2 rfl) ?_
          refine gX8 S hw dX_read_56 ?_
          refine kz_top (y := nI (allT T n).length) hrp3.1 ?_
          exact MX.iret S hr hlk hw dX_read_59 rfl ⟨_, rfl, rfl, ⟨rfl, by omega, fun j hj => absurd hj (Nat.not_lt_zero _), fun j hj => absurd hj (Nat.not_lt_zero _)⟩, e1, he1, hrp3.frame rfl (fun _ _ => rfl) (fun _ _ => rfl)⟩
        · skip
          refine lv_iload_n hx hb dX_read_31 rfl (lv_at hl 1 rfl) ?_
          refine lv_if_eq (tgt := 50) hx hb dX_read_32 (by decide) (fun c32 => ?_) (fun c32 => absurd c32 (by decide))
          refine lv_aload_n hx hb dX_read_50 rfl (lv_at hl 2 rfl) ?_
          refine lv_iconst (v := 0) hx hb dX_read_51 (by decide) ?_
          refine pX1 S hw dX_read_52 (fun H locs hw => ?_)
          refine lv_aload_n hx hb dX_read_55 rfl (lv_at hl 2 rfl) ?_
          refine gX8 S hw dX_read_56 ?_
          refine kz_top (y := nI (allT T n).length) hrp3.1 ?_
          exact MX.iret S hr hlk hw dX_read_59 rfl ⟨_, rfl, rfl, ⟨rfl, by omega, fun j hj => absurd hj (Nat.not_lt_zero _), fun j hj => absurd hj (Nat.not_lt_zero _)⟩, e1, he1, hrp3.frame rfl (fun _ _ => rfl) (fun _ _ => rfl)⟩
  refine lv_aload_n hx hb dX_read_0 rfl (lv_at hl 0 rfl) ?_
  refine lv_iconst (v := 0) hx hb dX_read_1 (by decide) ?_
  refine pX8 S hw dX_read_2 (fun H locs hw => ?_)
  refine lv_aload_n hx hb dX_read_5 rfl (lv_at hl 0 rfl) ?_
  refine lv_iconst (v := 0) hx hb dX_read_6 (by decide) ?_
  refine pX10 S hw dX_read_7 (fun H locs hw => ?_)
  refine lv_aload_n hx hb dX_read_10 rfl (lv_at hl 0 rfl) ?_
  refine lv_iconst (v := 0) hx hb dX_read_11 (by decide) ?_
  refine pX11 S hw dX_read_12 (fun H locs hw => ?_)
  refine lv_aload_n hx hb dX_read_15 rfl (lv_at hl 0 rfl) ?_
  refine lv_iconst (v := 0) hx hb dX_read_16 (by decide) ?_
  refine pX12 S hw dX_read_17 (fun H locs hw => ?_)
  refine lv_iconst (v := 1) hx hb dX_read_20 (by decide) ?_
  refine lv_istore_n (lv' := [(1, .int 1), (0, .ref h)]) hx hb dX_read_21 rfl hl (by decide) rfl (fun ls hl => ?_)
  refine lv_iconst (v := 0) hx hb dX_read_22 (by decide) ?_
  refine lv_istore_n (lv' := [(2, .int 0), (1, .int 1), (0, .ref h)]) hx hb dX_read_23 rfl hl (by decide) rfl (fun ls hl => ?_)
  exact loop24 (n + 1) 0 0 0 0 (n + 1) [] (upd (upd (upd (upd I 8 0) 10 0) 11 0) 12 0) F H locs ls ⟨hT.of rfl rfl, ⟨rfl, by simp, fun k t ht => by simp at ht⟩, rfl, by omega, rfl, Nat.le_refl _, Nat.le_refl _, rfl, Nat.le_refl _⟩ (fun t ht => by cases ht) (fun t ht => by simp at ht) (Nat.le_refl _) (by omega) (by omega) rfl hw (lv_sub hl [2, 1, 0] rfl)
end
section
/-! ===== the class: what it tells of its tokens ===== -/
def accT (x : Int32) (ts : List kz_T) (g : kz_T → Int32) (d : Int32) : Int32 := if x < 0 then d else if nI ts.length ≤ x then d else (ts[x.toNatClampNeg]?.map g).getD d
theorem vin_le {x : Int32} {c N : Nat} (h : vp_in x c) (hN : c ≤ N) : vp_in x N := fun q => h (q.elim Or.inl (fun q => Or.inr (Nat.le_trans hN q)))
theorem acc_in {x : Int32} {ts : List kz_T} (g : kz_T → Int32) (d : Int32) (h : tokI x ts.length) (hl : ts.length < 2 ^ 31) : ∃ t, ts[x.toNatClampNeg]? = some t ∧ accT x ts g d = g t := by
  have hv := vin_of h.1 h.2 hl
  have hlt : x.toNatClampNeg < ts.length := Nat.lt_of_not_le (fun q => hv (Or.inr q))
  refine ⟨_, List.getElem?_eq_getElem hlt, ?_⟩
  unfold accT
  rw [if_neg h.1, if_neg h.2, List.getElem?_eq_getElem hlt]
  rfl
theorem acc_out {x : Int32} {ts : List kz_T} (g : kz_T → Int32) (d : Int32) (h : ¬ tokI x ts.length) : accT x ts g d = d := by
  unfold accT
  by_cases h1 : x < 0
  · rw [if_pos h1]
  · rw [if_neg h1]
    by_cases h2 : nI ts.length ≤ x
    · rw [if_pos h2]
    · exact absurd ⟨h1, h2⟩ h
def levX (t : kz_T) : Int32 := if iSok t.1 then elA (fun j => levK.getD j 0) 17 (wixF (wK 6) t.2.2.2.2 0) else -1
def txtT (y : Int32) (t : kz_T) : Int32 := if y < 0 then -1 else if nI t.2.2.2.2.length ≤ y then -1 else t.2.2.2.2.getD y.toNatClampNeg 0
theorem arLev {z : kz_Z} {D : va_G} {cA : ClassId} {h : Nat} {a : Nat → Nat} {A : Nat → Prop} {s : State} {H : Heap} {locs : List Loc} {I : Nat → Int32} {F : Nat → Nat → Int32} (hw : sX z D cA h a A s H locs I F) (hA : ∀ q, s.heap.size ≤ q → A q) : arS (some (z.1, 17, fun j => levK.getD j 0)) H.size s H := by
  intro q N f e
  cases e
  exact (hw.2.2.2.2.1.2.1.kept hw.2.2.2.1.2.1).narrow (fun q hq => hA q (Nat.le_trans hw.2.2.2.1.1 hq))
set_option maxHeartbeats 4000000 in
set_option maxRecDepth 100000 in
theorem tX_kind (l : Launch) (I : Nat → Int32) (F : Nat → Nat → Int32) (ts : List kz_T) (e0 : Nat) (he0 : e0 ≤ 1000) (hrp : repX ts e0 I F) (x : Int32) : MX l yX_kind cX_kind 2 (some .int) ({ frames := 1, cells := 0, slots := 0, locals := 21 }) [.int x] I F (iR (fun r I' F' => r = accT x ts (fun t => t.1) (-1) ∧ I' = I ∧ F' = F)) := by
  refine MX.mk (by decide) (fun _ => Nat.le_of_ble_eq_true rfl) ?_
  intro z D cA h a pg en s m below meth c ls S hr hlk hA hw hl
  have hx := S.1
  have hb := S.2.1
  have hl : lv_has ls 2 [(0, .ref h), (1, .int x)] := hl
  refine lv_aload_n hx hb dX_kind_0 rfl (lv_at hl 0 rfl) ?_
  refine lv_iload_n hx hb dX_kind_1 rfl (lv_at hl 1 rfl) ?_
  refine kcXi (rest := []) S kX_61 rfl (tX_isToken l I F ts.length hrp.1 hrp.2.1 x) hw hA ⟨Nat.le_of_ble_eq_true rfl, Nat.le_of_ble_eq_true rfl⟩ rfl rfl ⟨Nat.zero_le _, Nat.zero_le _⟩ rfl hl.1 (Nat.le_of_ble_eq_true rfl) dX_kind_2 (fun r I' F' H locs hq hw => ?_)
  obtain ⟨hr1, hr2, hr3⟩ := hq
  rw [hr2, hr3] at hw
  rcases bI hr1 with ⟨hB1, rfl⟩ | ⟨hB1, rfl⟩
  · skip
    refine lv_if_eq (tgt := 17) hx hb dX_kind_5 (by decide) (fun c5 => absurd c5 (by decide)) (fun c5 => ?_)
    refine lv_aload_n hx hb dX_kind_8 rfl (lv_at hl 0 rfl) ?_
    refine gX2 S hw dX_kind_9 ?_
    refine lv_iload_n hx hb dX_kind_12 rfl (lv_at hl 1 rfl) ?_
    refine ldX2 S hw (vin_le (vin_of hB1.1 hB1.2 (by have := hrp.2.1; omega)) hrp.2.1) dX_kind_13 ?_
    refine lv_goto (tgt := 18) hx hb dX_kind_14 (by decide) ?_
    exact MX.iret S hr hlk hw dX_kind_18 rfl ⟨_, rfl, by obtain ⟨t, ht, e⟩ := acc_in (fun t => t.1) (-1) hB1 (by have := hrp.2.1; omega); rw [e]; exact (hrp.2.2 _ t ht).1, rfl, rfl⟩
  · skip
    refine lv_if_eq (tgt := 17) hx hb dX_kind_5 (by decide) (fun c5 => ?_) (fun c5 => absurd c5 (by decide))
    refine lv_iconst (v := (-1)) hx hb dX_kind_17 (by decide) ?_
    exact MX.iret S hr hlk hw dX_kind_18 rfl ⟨_, rfl, (acc_out _ _ hB1).symm, rfl, rfl⟩
set_option maxHeartbeats 4000000 in
set_option maxRecDepth 100000 in
theorem tX_place (l : Launch) (I : Nat → Int32) (F : Nat → Nat → Int32) (ts : List kz_T) (e0 : Nat) (he0 : e0 ≤ 1000) (hrp : repX ts e0 I F) (x : Int32) : MX l yX_place cX_place 2 (some .int) ({ frames := 1, cells := 0, slots := 0, locals := 21 }) [.int x] I F (iR (fun r I' F' => r = accT x ts (fun t => nI t.2.1) (-1) ∧ I' = I ∧ F' = F)) := by
  refine MX.mk (by decide) (fun _ => Nat.le_of_ble_eq_true rfl) ?_
  intro z D cA h a pg en s m below meth c ls S hr hlk hA hw hl
  have hx := S.1
  have hb := S.2.1
  have hl : lv_has ls 2 [(0, .ref h), (1, .int x)] := hl
  refine lv_aload_n hx hb dX_place_0 rfl (lv_at hl 0 rfl) ?_
  refine lv_iload_n hx hb dX_place_1 rfl (lv_at hl 1 rfl) ?_
  refine kcXi (rest := []) S kX_61 rfl (tX_isToken l I F ts.length hrp.1 hrp.2.1 x) hw hA ⟨Nat.le_of_ble_eq_true rfl, Nat.le_of_ble_eq_true rfl⟩ rfl rfl ⟨Nat.zero_le _, Nat.zero_le _⟩ rfl hl.1 (Nat.le_of_ble_eq_true rfl) dX_place_2 (fun r I' F' H locs hq hw => ?_)
  obtain ⟨hr1, hr2, hr3⟩ := hq
  rw [hr2, hr3] at hw
  rcases bI hr1 with ⟨hB1, rfl⟩ | ⟨hB1, rfl⟩
  · skip
    refine lv_if_eq (tgt := 17) hx hb dX_place_5 (by decide) (fun c5 => absurd c5 (by decide)) (fun c5 => ?_)
    refine lv_aload_n hx hb dX_place_8 rfl (lv_at hl 0 rfl) ?_
    refine gX3 S hw dX_place_9 ?_
    refine lv_iload_n hx hb dX_place_12 rfl (lv_at hl 1 rfl) ?_
    refine ldX3 S hw (vin_le (vin_of hB1.1 hB1.2 (by have := hrp.2.1; omega)) hrp.2.1) dX_place_13 ?_
    refine lv_goto (tgt := 18) hx hb dX_place_14 (by decide) ?_
    exact MX.iret S hr hlk hw dX_place_18 rfl ⟨_, rfl, by obtain ⟨t, ht, e⟩ := acc_in (fun t => nI t.2.1) (-1) hB1 (by have := hrp.2.1; omega); rw [e]; exact (hrp.2.2 _ t ht).2.1, rfl, rfl⟩
  · skip
    refine lv_if_eq (tgt := 17) hx hb dX_place_5 (by decide) (fun c5 => ?_) (fun c5 => absurd c5 (by decide))
    refine lv_iconst (v := (-1)) hx hb dX_place_17 (by decide) ?_
    exact MX.iret S hr hlk hw dX_place_18 rfl ⟨_, rfl, (acc_out _ _ hB1).symm, rfl, rfl⟩
set_option maxHeartbeats 4000000 in
set_option maxRecDepth 100000 in
theorem tX_line (l : Launch) (I : Nat → Int32) (F : Nat → Nat → Int32) (ts : List kz_T) (e0 : Nat) (he0 : e0 ≤ 1000) (hrp : repX ts e0 I F) (x : Int32) : MX l yX_line cX_line 2 (some .int) ({ frames := 1, cells := 0, slots := 0, locals := 21 }) [.int x] I F (iR (fun r I' F' => r = accT x ts (fun t => nI t.2.2.1) (-1) ∧ I' = I ∧ F' = F)) := by
  refine MX.mk (by decide) (fun _ => Nat.le_of_ble_eq_true rfl) ?_
  intro z D cA h a pg en s m below meth c ls S hr hlk hA hw hl
  have hx := S.1
  have hb := S.2.1
  have hl : lv_has ls 2 [(0, .ref h), (1, .int x)] := hl
  refine lv_aload_n hx hb dX_line_0 rfl (lv_at hl 0 rfl) ?_
  refine lv_iload_n hx hb dX_line_1 rfl (lv_at hl 1 rfl) ?_
  refine kcXi (rest := []) S kX_61 rfl (tX_isToken l I F ts.length hrp.1 hrp.2.1 x) hw hA ⟨Nat.le_of_ble_eq_true rfl, Nat.le_of_ble_eq_true rfl⟩ rfl rfl ⟨Nat.zero_le _, Nat.zero_le _⟩ rfl hl.1 (Nat.le_of_ble_eq_true rfl) dX_line_2 (fun r I' F' H locs hq hw => ?_)
  obtain ⟨hr1, hr2, hr3⟩ := hq
  rw [hr2, hr3] at hw
  rcases bI hr1 with ⟨hB1, rfl⟩ | ⟨hB1, rfl⟩
  · skip
    refine lv_if_eq (tgt := 17) hx hb dX_line_5 (by decide) (fun c5 => absurd c5 (by decide)) (fun c5 => ?_)
    refine lv_aload_n hx hb dX_line_8 rfl (lv_at hl 0 rfl) ?_
    refine gX4 S hw dX_line_9 ?_
    refine lv_iload_n hx hb dX_line_12 rfl (lv_at hl 1 rfl) ?_
    refine ldX4 S hw (vin_le (vin_of hB1.1 hB1.2 (by have := hrp.2.1; omega)) hrp.2.1) dX_line_13 ?_
    refine lv_goto (tgt := 18) hx hb dX_line_14 (by decide) ?_
    exact MX.iret S hr hlk hw dX_line_18 rfl ⟨_, rfl, by obtain ⟨t, ht, e⟩ := acc_in (fun t => nI t.2.2.1) (-1) hB1 (by have := hrp.2.1; omega); rw [e]; exact (hrp.2.2 _ t ht).2.2.1, rfl, rfl⟩
  · skip
    refine lv_if_eq (tgt := 17) hx hb dX_line_5 (by decide) (fun c5 => ?_) (fun c5 => absurd c5 (by decide))
    refine lv_iconst (v := (-1)) hx hb dX_line_17 (by decide) ?_
    exact MX.iret S hr hlk hw dX_line_18 rfl ⟨_, rfl, (acc_out _ _ hB1).symm, rfl, rfl⟩
set_option maxHeartbeats 4000000 in
set_option maxRecDepth 100000 in
theorem tX_value (l : Launch) (I : Nat → Int32) (F : Nat → Nat → Int32) (ts : List kz_T) (e0 : Nat) (he0 : e0 ≤ 1000) (hrp : repX ts e0 I F) (x : Int32) : MX l yX_value cX_value 2 (some .int) ({ frames := 1, cells := 0, slots := 0, locals := 21 }) [.int x] I F (iR (fun r I' F' => r = accT x ts (fun t => t.2.2.2.1) (0) ∧ I' = I ∧ F' = F)) := by
  refine MX.mk (by decide) (fun _ => Nat.le_of_ble_eq_true rfl) ?_
  intro z D cA h a pg en s m below meth c ls S hr hlk hA hw hl
  have hx := S.1
  have hb := S.2.1
  have hl : lv_has ls 2 [(0, .ref h), (1, .int x)] := hl
  refine lv_aload_n hx hb dX_value_0 rfl (lv_at hl 0 rfl) ?_
  refine lv_iload_n hx hb dX_value_1 rfl (lv_at hl 1 rfl) ?_
  refine kcXi (rest := []) S kX_61 rfl (tX_isToken l I F ts.length hrp.1 hrp.2.1 x) hw hA ⟨Nat.le_of_ble_eq_true rfl, Nat.le_of_ble_eq_true rfl⟩ rfl rfl ⟨Nat.zero_le _, Nat.zero_le _⟩ rfl hl.1 (Nat.le_of_ble_eq_true rfl) dX_value_2 (fun r I' F' H locs hq hw => ?_)
  obtain ⟨hr1, hr2, hr3⟩ := hq
  rw [hr2, hr3] at hw
  rcases bI hr1 with ⟨hB1, rfl⟩ | ⟨hB1, rfl⟩
  · skip
    refine lv_if_eq (tgt := 17) hx hb dX_value_5 (by decide) (fun c5 => absurd c5 (by decide)) (fun c5 => ?_)
    refine lv_aload_n hx hb dX_value_8 rfl (lv_at hl 0 rfl) ?_
    refine gX5 S hw dX_value_9 ?_
    refine lv_iload_n hx hb dX_value_12 rfl (lv_at hl 1 rfl) ?_
    refine ldX5 S hw (vin_le (vin_of hB1.1 hB1.2 (by have := hrp.2.1; omega)) hrp.2.1) dX_value_13 ?_
    refine lv_goto (tgt := 18) hx hb dX_value_14 (by decide) ?_
    exact MX.iret S hr hlk hw dX_value_18 rfl ⟨_, rfl, by obtain ⟨t, ht, e⟩ := acc_in (fun t => t.2.2.2.1) (0) hB1 (by have := hrp.2.1; omega); rw [e]; exact (hrp.2.2 _ t ht).2.2.2.1, rfl, rfl⟩
  · skip
    refine lv_if_eq (tgt := 17) hx hb dX_value_5 (by decide) (fun c5 => ?_) (fun c5 => absurd c5 (by decide))
    refine lv_iconst (v := 0) hx hb dX_value_17 (by decide) ?_
    exact MX.iret S hr hlk hw dX_value_18 rfl ⟨_, rfl, (acc_out _ _ hB1).symm, rfl, rfl⟩
set_option maxHeartbeats 4000000 in
set_option maxRecDepth 100000 in
theorem tX_size (l : Launch) (I : Nat → Int32) (F : Nat → Nat → Int32) (ts : List kz_T) (e0 : Nat) (he0 : e0 ≤ 1000) (hrp : repX ts e0 I F) (x : Int32) : MX l yX_size cX_size 2 (some .int) ({ frames := 1, cells := 0, slots := 0, locals := 21 }) [.int x] I F (iR (fun r I' F' => r = accT x ts (fun t => nI t.2.2.2.2.length) (-1) ∧ I' = I ∧ F' = F)) := by
  refine MX.mk (by decide) (fun _ => Nat.le_of_ble_eq_true rfl) ?_
  intro z D cA h a pg en s m below meth c ls S hr hlk hA hw hl
  have hx := S.1
  have hb := S.2.1
  have hl : lv_has ls 2 [(0, .ref h), (1, .int x)] := hl
  refine lv_aload_n hx hb dX_size_0 rfl (lv_at hl 0 rfl) ?_
  refine lv_iload_n hx hb dX_size_1 rfl (lv_at hl 1 rfl) ?_
  refine kcXi (rest := []) S kX_61 rfl (tX_isToken l I F ts.length hrp.1 hrp.2.1 x) hw hA ⟨Nat.le_of_ble_eq_true rfl, Nat.le_of_ble_eq_true rfl⟩ rfl rfl ⟨Nat.zero_le _, Nat.zero_le _⟩ rfl hl.1 (Nat.le_of_ble_eq_true rfl) dX_size_2 (fun r I' F' H locs hq hw => ?_)
  obtain ⟨hr1, hr2, hr3⟩ := hq
  rw [hr2, hr3] at hw
  rcases bI hr1 with ⟨hB1, rfl⟩ | ⟨hB1, rfl⟩
  · skip
    refine lv_if_eq (tgt := 17) hx hb dX_size_5 (by decide) (fun c5 => absurd c5 (by decide)) (fun c5 => ?_)
    refine lv_aload_n hx hb dX_size_8 rfl (lv_at hl 0 rfl) ?_
    refine gX7 S hw dX_size_9 ?_
    refine lv_iload_n hx hb dX_size_12 rfl (lv_at hl 1 rfl) ?_
    refine ldX7 S hw (vin_le (vin_of hB1.1 hB1.2 (by have := hrp.2.1; omega)) hrp.2.1) dX_size_13 ?_
    refine lv_goto (tgt := 18) hx hb dX_size_14 (by decide) ?_
    exact MX.iret S hr hlk hw dX_size_18 rfl ⟨_, rfl, by obtain ⟨t, ht, e⟩ := acc_in (fun t => nI t.2.2.2.2.length) (-1) hB1 (by have := hrp.2.1; omega); rw [e]; obtain ⟨b, _, f7, _⟩ := (hrp.2.2 _ t ht).2.2.2.2.2; exact f7, rfl, rfl⟩
  · skip
    refine lv_if_eq (tgt := 17) hx hb dX_size_5 (by decide) (fun c5 => ?_) (fun c5 => absurd c5 (by decide))
    refine lv_iconst (v := (-1)) hx hb dX_size_17 (by decide) ?_
    exact MX.iret S hr hlk hw dX_size_18 rfl ⟨_, rfl, (acc_out _ _ hB1).symm, rfl, rfl⟩
set_option maxHeartbeats 4000000 in
set_option maxRecDepth 100000 in
theorem tX_level (l : Launch) (I : Nat → Int32) (F : Nat → Nat → Int32) (ts : List kz_T) (e0 : Nat) (he0 : e0 ≤ 1000) (hrp : repX ts e0 I F) (x : Int32) : MX l yX_level cX_level 2 (some .int) ({ frames := 5, cells := 0, slots := 0, locals := 112 }) [.int x] I F (iR (fun r I' F' => r = accT x ts levX (-1) ∧ I' = I ∧ F' = F)) := by
  refine MX.mk (by decide) (fun _ => Nat.le_of_ble_eq_true rfl) ?_
  intro z D cA h a pg en s m below meth c ls S hr hlk hA hw hl
  have hx := S.1
  have hb := S.2.1
  have hl : lv_has ls 2 [(0, .ref h), (1, .int x)] := hl
  refine lv_aload_n hx hb dX_level_0 rfl (lv_at hl 0 rfl) ?_
  refine lv_iload_n hx hb dX_level_1 rfl (lv_at hl 1 rfl) ?_
  refine kcXi (rest := []) S kX_61 rfl (tX_isToken l I F ts.length hrp.1 hrp.2.1 x) hw hA ⟨Nat.le_of_ble_eq_true rfl, Nat.le_of_ble_eq_true rfl⟩ rfl rfl ⟨Nat.zero_le _, Nat.zero_le _⟩ rfl hl.1 (Nat.le_of_ble_eq_true rfl) dX_level_2 (fun r I' F' H locs hq hw => ?_)
  obtain ⟨hr1, hr2, hr3⟩ := hq
  rw [hr2, hr3] at hw
  rcases bI hr1 with ⟨hB1, rfl⟩ | ⟨hB1, rfl⟩
  · skip
    have hlen := hrp.2.1
    obtain ⟨t, ht, ea⟩ := acc_in levX (-1) hB1 (by omega)
    obtain ⟨f2, f3, f4, f5, fl, b0, f6, f7, f8, f9⟩ := hrp.2.2 _ t ht
    refine lv_if_eq (tgt := 20) hx hb dX_level_5 (by decide) (fun c5 => absurd c5 (by decide)) (fun c5 => ?_)
    refine lv_aload_n hx hb dX_level_8 rfl (lv_at hl 0 rfl) ?_
    refine gX2 S hw dX_level_9 ?_
    refine lv_iload_n hx hb dX_level_12 rfl (lv_at hl 1 rfl) ?_
    refine ldX2 S hw (vin_le (vin_of hB1.1 hB1.2 (by have := hrp.2.1; omega)) hrp.2.1) dX_level_13 ?_
    refine kz_top (y := t.1) f2 ?_
    refine kcXS (rest := []) S kX_65 (tX_isSignOrKeyword l z none t.1) hw hA arNone ⟨Nat.le_of_ble_eq_true rfl, Nat.le_of_ble_eq_true rfl⟩ rfl rfl ⟨Nat.zero_le _, Nat.zero_le _⟩ rfl hl.1 (Nat.le_of_ble_eq_true rfl) dX_level_14 (fun r H locs hq hw => ?_)
    rcases bI hq with ⟨hB2, rfl⟩ | ⟨hB2, rfl⟩
    · skip
      refine lv_if_ne (tgt := 22) hx hb dX_level_17 (by decide) (fun c17 => ?_) (fun c17 => absurd c17 (by decide))
      refine va_gets hx hb hw.2.2.2.2.1.1 hw.2.2.2.1 S.2.2.2.1 (S.2.2.2.2 _ (List.mem_cons_of_mem _ wfX_68)) (fun _ h9 => h9) dX_level_22 ?_
      refine va_ldcS hx hb S.2.2.2.1 (rK_6 hw.2.2.2.2.2) dX_level_25 ?_
      refine lv_aload_n hx hb dX_level_27 rfl (lv_at hl 0 rfl) ?_
      refine gX9 S hw dX_level_28 ?_
      refine lv_aload_n hx hb dX_level_31 rfl (lv_at hl 0 rfl) ?_
      refine gX6 S hw dX_level_32 ?_
      refine lv_iload_n hx hb dX_level_35 rfl (lv_at hl 1 rfl) ?_
      refine ldX6 S hw (vin_le (vin_of hB1.1 hB1.2 (by have := hrp.2.1; omega)) hrp.2.1) dX_level_36 ?_
      refine kz_top (y := nI b0) f6 ?_
      refine lv_aload_n hx hb dX_level_37 rfl (lv_at hl 0 rfl) ?_
      refine gX7 S hw dX_level_38 ?_
      refine lv_iload_n hx hb dX_level_41 rfl (lv_at hl 1 rfl) ?_
      refine ldX7 S hw (vin_le (vin_of hB1.1 hB1.2 (by have := hrp.2.1; omega)) hrp.2.1) dX_level_42 ?_
      refine kz_top (y := nI t.2.2.2.2.length) f7 ?_
      refine kcXS (rest := [.ref z.1]) S kX_73 (tX_numberInList l z 6 (by decide) (a 9) 1000 (F 9) (by decide) b0 t.2.2.2.2.length (by omega)) hw hA (arX9 hw) ⟨Nat.le_of_ble_eq_true rfl, Nat.le_of_ble_eq_true rfl⟩ rfl rfl ⟨Nat.zero_le _, Nat.zero_le _⟩ rfl hl.1 (Nat.le_of_ble_eq_true rfl) dX_level_43 (fun r H locs hq hw => ?_)
      rw [nil_wK (by decide), key_text f9] at hq
      subst hq
      refine kcXS (rest := []) S kX_77 (tX_elementAt l z z.1 17 (fun j => levK.getD j 0) (by decide) (wixF (wK 6) t.2.2.2.2 0)) hw hA (arLev hw hA) ⟨Nat.le_of_ble_eq_true rfl, Nat.le_of_ble_eq_true rfl⟩ rfl rfl ⟨Nat.zero_le _, Nat.zero_le _⟩ rfl hl.1 (Nat.le_of_ble_eq_true rfl) dX_level_46 (fun r H locs hq hw => ?_)
      subst hq
      exact MX.iret S hr hlk hw dX_level_49 rfl ⟨_, rfl, by rw [ea]; unfold levX; rw [if_pos hB2], rfl, rfl⟩
    · skip
      refine lv_if_ne (tgt := 22) hx hb dX_level_17 (by decide) (fun c17 => absurd c17 (by decide)) (fun c17 => ?_)
      refine lv_iconst (v := (-1)) hx hb dX_level_20 (by decide) ?_
      exact MX.iret S hr hlk hw dX_level_21 rfl ⟨_, rfl, by rw [ea]; unfold levX; rw [if_neg hB2], rfl, rfl⟩
  · skip
    refine lv_if_eq (tgt := 20) hx hb dX_level_5 (by decide) (fun c5 => ?_) (fun c5 => absurd c5 (by decide))
    refine lv_iconst (v := (-1)) hx hb dX_level_20 (by decide) ?_
    exact MX.iret S hr hlk hw dX_level_21 rfl ⟨_, rfl, (acc_out _ _ hB1).symm, rfl, rfl⟩
set_option maxHeartbeats 4000000 in
set_option maxRecDepth 100000 in
theorem tX_textAt (l : Launch) (I : Nat → Int32) (F : Nat → Nat → Int32) (ts : List kz_T) (e0 : Nat) (he0 : e0 ≤ 1000) (hrp : repX ts e0 I F) (x y : Int32) : MX l yX_textAt cX_textAt 3 (some .int) ({ frames := 1, cells := 0, slots := 0, locals := 21 }) [.int x, .int y] I F (iR (fun r I' F' => r = accT x ts (txtT y) (-1) ∧ I' = I ∧ F' = F)) := by
  refine MX.mk (by decide) (fun _ => Nat.le_of_ble_eq_true rfl) ?_
  intro z D cA h a pg en s m below meth c ls S hr hlk hA hw hl
  have hx := S.1
  have hb := S.2.1
  have hl : lv_has ls 3 [(0, .ref h), (1, .int x), (2, .int y)] := hl
  refine lv_aload_n hx hb dX_textAt_0 rfl (lv_at hl 0 rfl) ?_
  refine lv_iload_n hx hb dX_textAt_1 rfl (lv_at hl 1 rfl) ?_
  refine kcXi (rest := []) S kX_61 rfl (tX_isToken l I F ts.length hrp.1 hrp.2.1 x) hw hA ⟨Nat.le_of_ble_eq_true rfl, Nat.le_of_ble_eq_true rfl⟩ rfl rfl ⟨Nat.zero_le _, Nat.zero_le _⟩ rfl hl.1 (Nat.le_of_ble_eq_true rfl) dX_textAt_2 (fun r I' F' H locs hq hw => ?_)
  obtain ⟨hr1, hr2, hr3⟩ := hq
  rw [hr2, hr3] at hw
  rcases bI hr1 with ⟨hB1, rfl⟩ | ⟨hB1, rfl⟩
  · skip
    have hlen := hrp.2.1
    obtain ⟨t, ht, ea⟩ := acc_in (txtT y) (-1) hB1 (by omega)
    obtain ⟨f2, f3, f4, f5, fl, b0, f6, f7, f8, f9⟩ := hrp.2.2 _ t ht
    refine lv_if_eq (tgt := 22) hx hb dX_textAt_5 (by decide) (fun c5 => absurd c5 (by decide)) (fun c5 => ?_)
    refine lv_iload_n hx hb dX_textAt_8 rfl (lv_at hl 2 rfl) ?_
    refine lv_if_lt (tgt := 22) hx hb dX_textAt_9 (by decide) (fun c9 => ?_) (fun c9 => ?_)
    · skip
      refine lv_iconst (v := (-1)) hx hb dX_textAt_22 (by decide) ?_
      exact MX.iret S hr hlk hw dX_textAt_23 rfl ⟨_, rfl, by rw [ea]; unfold txtT; rw [if_pos c9], rfl, rfl⟩
    · skip
      refine lv_iload_n hx hb dX_textAt_12 rfl (lv_at hl 2 rfl) ?_
      refine lv_aload_n hx hb dX_textAt_13 rfl (lv_at hl 0 rfl) ?_
      refine gX7 S hw dX_textAt_14 ?_
      refine lv_iload_n hx hb dX_textAt_17 rfl (lv_at hl 1 rfl) ?_
      refine ldX7 S hw (vin_le (vin_of hB1.1 hB1.2 (by have := hrp.2.1; omega)) hrp.2.1) dX_textAt_18 ?_
      refine kz_top (y := nI t.2.2.2.2.length) f7 ?_
      refine lv_icmp_lt (tgt := 24) hx hb dX_textAt_19 (by decide) (fun c19 => ?_) (fun c19 => ?_)
      · skip
        refine lv_aload_n hx hb dX_textAt_24 rfl (lv_at hl 0 rfl) ?_
        refine gX9 S hw dX_textAt_25 ?_
        refine lv_aload_n hx hb dX_textAt_28 rfl (lv_at hl 0 rfl) ?_
        refine gX6 S hw dX_textAt_29 ?_
        refine lv_iload_n hx hb dX_textAt_32 rfl (lv_at hl 1 rfl) ?_
        refine ldX6 S hw (vin_le (vin_of hB1.1 hB1.2 (by have := hrp.2.1; omega)) hrp.2.1) dX_textAt_33 ?_
        refine kz_top (y := nI b0) f6 ?_
        refine lv_iload_n hx hb dX_textAt_34 rfl (lv_at hl 2 rfl) ?_
        have hy : vp_in y t.2.2.2.2.length := vin_of c9 (fun q => Int32.not_lt.mpr q c19) (by omega)
        obtain ⟨jj, hjj, rfl⟩ := vp_in_of hy (by omega)
        refine lv_iadd hx hb dX_textAt_35 ?_
        refine kz_top (nI_add b0 jj) ?_
        refine kcXS (rest := []) S kX_77 (tX_elementAt l z (a 9) 1000 (F 9) (by decide) (nI (b0 + jj))) hw hA (arX9 hw) ⟨Nat.le_of_ble_eq_true rfl, Nat.le_of_ble_eq_true rfl⟩ rfl rfl ⟨Nat.zero_le _, Nat.zero_le _⟩ rfl hl.1 (Nat.le_of_ble_eq_true rfl) dX_textAt_36 (fun r H locs hq hw => ?_)
        rw [elA_in (by omega) (by decide)] at hq
        subst hq
        exact MX.iret S hr hlk hw dX_textAt_39 rfl ⟨_, rfl, by rw [ea]; unfold txtT; rw [if_neg c9, if_neg (fun q => Int32.not_lt.mpr q c19), nI_clamp (by omega), List.getD_eq_getElem?_getD, List.getElem?_eq_getElem hjj]; exact f9 jj _ (List.getElem?_eq_getElem hjj), rfl, rfl⟩
      · skip
        refine lv_iconst (v := (-1)) hx hb dX_textAt_22 (by decide) ?_
        exact MX.iret S hr hlk hw dX_textAt_23 rfl ⟨_, rfl, by rw [ea]; unfold txtT; rw [if_neg c9, if_pos (Int32.not_lt.mp c19)], rfl, rfl⟩
  · skip
    refine lv_if_eq (tgt := 22) hx hb dX_textAt_5 (by decide) (fun c5 => ?_) (fun c5 => absurd c5 (by decide))
    refine lv_iconst (v := (-1)) hx hb dX_textAt_22 (by decide) ?_
    exact MX.iret S hr hlk hw dX_textAt_23 rfl ⟨_, rfl, (acc_out _ _ hB1).symm, rfl, rfl⟩
end
section
/-! ===== the reference: its tape ===== -/
def tpM (T : Nat → Int32) (n : Nat) (I : Nat → Int32) (F : Nat → Nat → Int32) : Prop := I 2 = nI n ∧ n ≤ 1000 ∧ (∀ j, j < n → F 1 j = T j) ∧ ∀ j, j < n → ¬ T j < 0
theorem tpM.of {T : Nat → Int32} {n : Nat} {I I' : Nat → Int32} {F F' : Nat → Nat → Int32} (h : tpM T n I F) (e1 : I' 2 = I 2) (e2 : F' 1 = F 1) : tpM T n I' F' := ⟨e1.trans h.1, h.2.1, fun j hj => by rw [e2]; exact h.2.2.1 j hj, h.2.2.2⟩
theorem starB_nn {c : Int32} (h : ¬ starB c = -1) : ¬ starB c < 0 := by
  unfold starB at h ⊢
  split
  · rename_i q; rcases q with q | q | q <;> (rw [q]; decide)
  · split
    · decide
    · split
      · decide
      · split
        · decide
        · rename_i h1 h2 h3 h4
          rw [if_neg h1, if_neg h2, if_neg h3, if_neg h4] at h
          exact absurd rfl h
theorem mean_nn {T : Nat → Int32} {n k : Nat} {mark : Int32} (h : ¬ meanT T n k mark = -1) : ¬ meanT T n k mark < 0 := by
  unfold meanT at h ⊢
  split
  · rename_i q; rw [if_pos q] at h; exact starB_nn h
  · rename_i q
    rw [if_neg q] at h
    split
    · rename_i g
      exact fun z => g.1 (Int32.lt_of_lt_of_le z (by decide))
    · rename_i g; rw [if_neg g] at h; exact absurd rfl h
set_option maxHeartbeats 4000000 in
set_option maxRecDepth 100000 in
theorem tM_see (l : Launch) (I : Nat → Int32) (F : Nat → Nat → Int32) (T : Nat → Int32) (n : Nat) (hT : tpM T n I F) (p : Nat) (hp : p < 2 ^ 30) : MM l yM_see cM_see 2 (some .int) ({ frames := 0, cells := 0, slots := 0, locals := 0 }) [.int (nI p)] I F (iR (fun r I' F' => r = seeT T n p ∧ I' = I ∧ F' = F)) := by
  refine MM.mk (by decide) (fun _ => Nat.le_of_ble_eq_true rfl) ?_
  intro z D cA h a pg en s m below meth c ls S hr hlk hA hw hl
  have hx := S.1
  have hb := S.2.1
  have hl : lv_has ls 2 [(0, .ref h), (1, .int (nI p))] := hl
  refine lv_iload_n hx hb dM_see_0 rfl (lv_at hl 1 rfl) ?_
  refine lv_aload_n hx hb dM_see_1 rfl (lv_at hl 0 rfl) ?_
  refine gM2 S hw dM_see_2 ?_
  refine kz_top (y := nI n) hT.1 ?_
  refine lv_icmp_ge (tgt := 17) hx hb dM_see_5 (by decide) (fun c5 => ?_) (fun c5 => ?_)
  · skip
    refine lv_iconst (v := (-1)) hx hb dM_see_17 (by decide) ?_
    exact MM.iret S hr hlk hw dM_see_18 rfl ⟨_, rfl, by rw [see_out ((nI_leI (by have := hT.2.1; omega) (by omega)).mp c5)], rfl, rfl⟩
  · skip
    refine lv_aload_n hx hb dM_see_8 rfl (lv_at hl 0 rfl) ?_
    refine gM1 S hw dM_see_9 ?_
    refine lv_iload_n hx hb dM_see_12 rfl (lv_at hl 1 rfl) ?_
    refine ldM1 S hw (vp_in_nI (by have hlt : p < n := Nat.lt_of_not_le (fun q => c5 (nI_le q (by omega))); have := hT.2.1; omega) (by decide)) dM_see_13 ?_
    refine lv_goto (tgt := 18) hx hb dM_see_14 (by decide) ?_
    exact MM.iret S hr hlk hw dM_see_18 rfl ⟨_, rfl, by have hlt : p < n := Nat.lt_of_not_le (fun q => c5 (nI_le q (by omega))); rw [see_in hlt, nI_clamp (by omega)]; exact hT.2.2.1 p hlt, rfl, rfl⟩
set_option maxHeartbeats 4000000 in
set_option maxRecDepth 100000 in
theorem tM_meaning (l : Launch) (I : Nat → Int32) (F : Nat → Nat → Int32) (T : Nat → Int32) (n : Nat) (hT : tpM T n I F) (p : Nat) (hp : p < 2000) (x : Int32) : MM l yM_meaning cM_meaning 5 (some .int) ({ frames := 1, cells := 0, slots := 0, locals := 21 }) [.int (nI p), .int x] I F (iR (fun r I' F' => r = meanT T n p x ∧ I' = I ∧ F' = F)) := by
  refine MM.mk (by decide) (fun _ => Nat.le_of_ble_eq_true rfl) ?_
  intro z D cA h a pg en s m below meth c ls S hr hlk hA hw hl
  have hx := S.1
  have hb := S.2.1
  have hl : lv_has ls 5 [(0, .ref h), (1, .int (nI p)), (2, .int x)] := hl
  refine lv_aload_n hx hb dM_meaning_0 rfl (lv_at hl 0 rfl) ?_
  refine lv_iload_n hx hb dM_meaning_1 rfl (lv_at hl 1 rfl) ?_
  refine kcMi (rest := []) S kM_74 rfl (tM_see l I F T n hT p (by omega)) hw hA ⟨Nat.le_of_ble_eq_true rfl, Nat.le_of_ble_eq_true rfl⟩ rfl rfl ⟨Nat.zero_le _, Nat.zero_le _⟩ rfl hl.1 (Nat.le_of_ble_eq_true rfl) dM_meaning_2 (fun r I' F' H locs hq hw => ?_)
  obtain ⟨hr1, hr2, hr3⟩ := hq
  rw [hr2, hr3] at hw
  subst hr1
  refine lv_istore_n (lv' := [(3, .int (seeT T n p)), (0, .ref h), (1, .int (nI p)), (2, .int x)]) hx hb dM_meaning_5 rfl hl (by decide) rfl (fun ls hl => ?_)
  refine lv_iload_n hx hb dM_meaning_6 rfl (lv_at hl 0 rfl) ?_
  refine lv_bipush (v := 42) hx hb dM_meaning_7 (by decide) ?_
  refine lv_icmp_ne (tgt := 85) hx hb dM_meaning_9 (by decide) (fun c9 => ?_) (fun c9 => ?_)
  · skip
    refine lv_iload_n hx hb dM_meaning_85 rfl (lv_at hl 0 rfl) ?_
    refine lv_bipush (v := 32) hx hb dM_meaning_86 (by decide) ?_
    refine lv_icmp_lt (tgt := 106) hx hb dM_meaning_88 (by decide) (fun c88 => ?_) (fun c88 => ?_)
    · skip
      refine lv_iconst (v := (-1)) hx hb dM_meaning_106 (by decide) ?_
      exact MM.iret S hr hlk hw dM_meaning_107 rfl ⟨_, rfl, by rw [(mean_no c9).1]; simp [c88], rfl, rfl⟩
    · skip
      refine lv_iload_n hx hb dM_meaning_91 rfl (lv_at hl 0 rfl) ?_
      refine lv_bipush (v := 126) hx hb dM_meaning_92 (by decide) ?_
      refine lv_icmp_gt (tgt := 106) hx hb dM_meaning_94 (by decide) (fun c94 => ?_) (fun c94 => ?_)
      · skip
        refine lv_iconst (v := (-1)) hx hb dM_meaning_106 (by decide) ?_
        exact MM.iret S hr hlk hw dM_meaning_107 rfl ⟨_, rfl, by rw [(mean_no c9).1]; simp [c88, c94], rfl, rfl⟩
      · skip
        refine lv_iload_n hx hb dM_meaning_97 rfl (lv_at hl 0 rfl) ?_
        refine lv_iload_n hx hb dM_meaning_98 rfl (lv_at hl 3 rfl) ?_
        refine lv_icmp_eq (tgt := 106) hx hb dM_meaning_99 (by decide) (fun c99 => ?_) (fun c99 => ?_)
        · skip
          refine lv_iconst (v := (-1)) hx hb dM_meaning_106 (by decide) ?_
          exact MM.iret S hr hlk hw dM_meaning_107 rfl ⟨_, rfl, by rw [(mean_no c9).1]; simp [c88, c94, c99], rfl, rfl⟩
        · skip
          refine lv_iload_n hx hb dM_meaning_102 rfl (lv_at hl 0 rfl) ?_
          refine lv_goto (tgt := 107) hx hb dM_meaning_103 (by decide) ?_
          exact MM.iret S hr hlk hw dM_meaning_107 rfl ⟨_, rfl, by rw [(mean_no c9).1]; simp [c88, c94, c99], rfl, rfl⟩
  · skip
    refine lv_aload_n hx hb dM_meaning_12 rfl (lv_at hl 1 rfl) ?_
    refine lv_iload_n hx hb dM_meaning_13 rfl (lv_at hl 2 rfl) ?_
    refine lv_iconst (v := 1) hx hb dM_meaning_14 (by decide) ?_
    refine lv_iadd hx hb dM_meaning_15 ?_
    refine kz_top (y := nI (p + 1)) (nI_add p 1) ?_
    refine kcMi (rest := []) S kM_74 rfl (tM_see l I F T n hT (p + 1) (by omega)) hw hA ⟨Nat.le_of_ble_eq_true rfl, Nat.le_of_ble_eq_true rfl⟩ rfl rfl ⟨Nat.zero_le _, Nat.zero_le _⟩ rfl hl.1 (Nat.le_of_ble_eq_true rfl) dM_meaning_16 (fun r I' F' H locs hq hw => ?_)
    obtain ⟨hr1, hr2, hr3⟩ := hq
    rw [hr2, hr3] at hw
    subst hr1
    refine lv_istore (lv' := [(4, .int (seeT T n (p + 1))), (3, .int (seeT T n p)), (0, .ref h), (1, .int (nI p)), (2, .int x)]) hx hb dM_meaning_19 hl (by decide) rfl (fun ls hl => ?_)
    refine lv_iload hx hb dM_meaning_21 (lv_at hl 0 rfl) ?_
    refine lv_bipush (v := 78) hx hb dM_meaning_23 (by decide) ?_
    refine lv_icmp_ne (tgt := 33) hx hb dM_meaning_25 (by decide) (fun c25 => ?_) (fun c25 => ?_)
    · skip
      refine lv_iload hx hb dM_meaning_33 (lv_at hl 0 rfl) ?_
      refine lv_bipush (v := 83) hx hb dM_meaning_35 (by decide) ?_
      refine lv_icmp_ne (tgt := 45) hx hb dM_meaning_37 (by decide) (fun c37 => ?_) (fun c37 => ?_)
      · skip
        refine lv_iload hx hb dM_meaning_45 (lv_at hl 0 rfl) ?_
        refine lv_bipush (v := 84) hx hb dM_meaning_47 (by decide) ?_
        refine lv_icmp_ne (tgt := 57) hx hb dM_meaning_49 (by decide) (fun c49 => ?_) (fun c49 => ?_)
        · skip
          refine lv_iload hx hb dM_meaning_57 (lv_at hl 0 rfl) ?_
          refine lv_bipush (v := 39) hx hb dM_meaning_59 (by decide) ?_
          refine lv_icmp_eq (tgt := 78) hx hb dM_meaning_61 (by decide) (fun c61 => ?_) (fun c61 => ?_)
          · skip
            refine lv_iload hx hb dM_meaning_78 (lv_at hl 0 rfl) ?_
            refine lv_goto (tgt := 84) hx hb dM_meaning_80 (by decide) ?_
            exact MM.iret S hr hlk hw dM_meaning_84 rfl ⟨_, rfl, by rw [(mean_star c9).1]; simp [starB, c25, c37, c49, c61], rfl, rfl⟩
          · skip
            refine lv_iload hx hb dM_meaning_64 (lv_at hl 0 rfl) ?_
            refine lv_bipush (v := 34) hx hb dM_meaning_66 (by decide) ?_
            refine lv_icmp_eq (tgt := 78) hx hb dM_meaning_68 (by decide) (fun c68 => ?_) (fun c68 => ?_)
            · skip
              refine lv_iload hx hb dM_meaning_78 (lv_at hl 0 rfl) ?_
              refine lv_goto (tgt := 84) hx hb dM_meaning_80 (by decide) ?_
              exact MM.iret S hr hlk hw dM_meaning_84 rfl ⟨_, rfl, by rw [(mean_star c9).1]; simp [starB, c25, c37, c49, c61, c68], rfl, rfl⟩
            · skip
              refine lv_iload hx hb dM_meaning_71 (lv_at hl 0 rfl) ?_
              refine lv_bipush (v := 42) hx hb dM_meaning_73 (by decide) ?_
              refine lv_icmp_ne (tgt := 83) hx hb dM_meaning_75 (by decide) (fun c75 => ?_) (fun c75 => ?_)
              · skip
                refine lv_iconst (v := (-1)) hx hb dM_meaning_83 (by decide) ?_
                exact MM.iret S hr hlk hw dM_meaning_84 rfl ⟨_, rfl, by rw [(mean_star c9).1]; simp [starB, c25, c37, c49, c61, c68, c75], rfl, rfl⟩
              · skip
                refine lv_iload hx hb dM_meaning_78 (lv_at hl 0 rfl) ?_
                refine lv_goto (tgt := 84) hx hb dM_meaning_80 (by decide) ?_
                exact MM.iret S hr hlk hw dM_meaning_84 rfl ⟨_, rfl, by rw [(mean_star c9).1]; simp [starB, c25, c37, c49, c61, c68, c75], rfl, rfl⟩
        · skip
          refine lv_bipush (v := 9) hx hb dM_meaning_52 (by decide) ?_
          refine lv_goto (tgt := 84) hx hb dM_meaning_54 (by decide) ?_
          exact MM.iret S hr hlk hw dM_meaning_84 rfl ⟨_, rfl, by rw [(mean_star c9).1]; simp [starB, c25, c37, c49], rfl, rfl⟩
      · skip
        refine lv_bipush (v := 32) hx hb dM_meaning_40 (by decide) ?_
        refine lv_goto (tgt := 84) hx hb dM_meaning_42 (by decide) ?_
        exact MM.iret S hr hlk hw dM_meaning_84 rfl ⟨_, rfl, by rw [(mean_star c9).1]; simp [starB, c25, c37], rfl, rfl⟩
    · skip
      refine lv_bipush (v := 10) hx hb dM_meaning_28 (by decide) ?_
      refine lv_goto (tgt := 84) hx hb dM_meaning_30 (by decide) ?_
      exact MM.iret S hr hlk hw dM_meaning_84 rfl ⟨_, rfl, by rw [(mean_star c9).1]; simp [starB, c25], rfl, rfl⟩
set_option maxHeartbeats 4000000 in
set_option maxRecDepth 100000 in
theorem tM_next (l : Launch) (I : Nat → Int32) (F : Nat → Nat → Int32) (T : Nat → Int32) (n : Nat) (hT : tpM T n I F) (p : Nat) (hp : p < 2000) : MM l yM_next cM_next 2 (some .int) ({ frames := 1, cells := 0, slots := 0, locals := 21 }) [.int (nI p)] I F (iR (fun r I' F' => r = nI (nextT T n p) ∧ I' = I ∧ F' = F)) := by
  refine MM.mk (by decide) (fun _ => Nat.le_of_ble_eq_true rfl) ?_
  intro z D cA h a pg en s m below meth c ls S hr hlk hA hw hl
  have hx := S.1
  have hb := S.2.1
  have hl : lv_has ls 2 [(0, .ref h), (1, .int (nI p))] := hl
  refine lv_aload_n hx hb dM_next_0 rfl (lv_at hl 0 rfl) ?_
  refine lv_iload_n hx hb dM_next_1 rfl (lv_at hl 1 rfl) ?_
  refine kcMi (rest := []) S kM_74 rfl (tM_see l I F T n hT p (by omega)) hw hA ⟨Nat.le_of_ble_eq_true rfl, Nat.le_of_ble_eq_true rfl⟩ rfl rfl ⟨Nat.zero_le _, Nat.zero_le _⟩ rfl hl.1 (Nat.le_of_ble_eq_true rfl) dM_next_2 (fun r I' F' H locs hq hw => ?_)
  obtain ⟨hr1, hr2, hr3⟩ := hq
  rw [hr2, hr3] at hw
  subst hr1
  refine lv_bipush (v := 42) hx hb dM_next_5 (by decide) ?_
  refine lv_icmp_ne (tgt := 16) hx hb dM_next_7 (by decide) (fun c7 => ?_) (fun c7 => ?_)
  · skip
    refine lv_iload_n hx hb dM_next_16 rfl (lv_at hl 1 rfl) ?_
    refine lv_iconst (v := 1) hx hb dM_next_17 (by decide) ?_
    refine lv_iadd hx hb dM_next_18 ?_
    refine kz_top (y := nI (p + 1)) (nI_add p 1) ?_
    exact MM.iret S hr hlk hw dM_next_19 rfl ⟨_, rfl, by unfold nextT; rw [if_neg c7], rfl, rfl⟩
  · skip
    refine lv_iload_n hx hb dM_next_10 rfl (lv_at hl 1 rfl) ?_
    refine lv_iconst (v := 2) hx hb dM_next_11 (by decide) ?_
    refine lv_iadd hx hb dM_next_12 ?_
    refine kz_top (y := nI (p + 2)) (nI_add p 2) ?_
    refine lv_goto (tgt := 19) hx hb dM_next_13 (by decide) ?_
    exact MM.iret S hr hlk hw dM_next_19 rfl ⟨_, rfl, by unfold nextT; rw [if_pos c7], rfl, rfl⟩
set_option maxHeartbeats 4000000 in
set_option maxRecDepth 100000 in
theorem tM_put (l : Launch) (I : Nat → Int32) (F : Nat → Nat → Int32) (T : Nat → Int32) (n : Nat) (hT : tpM T n I F) (hn4 : n + 4 ≤ 1000) (x : Int32) : MM l yM_put cM_put 3 none ({ frames := 0, cells := 0, slots := 0, locals := 0 }) [.int x] I F (vR (fun I' F' => tpM (putT T n x) (n + 4) I' F' ∧ (∀ k, k ≠ 2 → I' k = I k) ∧ ∀ k, k ≠ 1 → F' k = F k)) := by
  refine MM.mk (by decide) (fun _ => Nat.le_of_ble_eq_true rfl) ?_
  intro z D cA h a pg en s m below meth c ls S hr hlk hA hw hl
  have hx := S.1
  have hb := S.2.1
  have hl : lv_has ls 3 [(0, .ref h), (1, .int x)] := hl
  refine lv_bipush (v := 24) hx hb dM_put_0 (by decide) ?_
  refine lv_istore_n (lv' := [(2, .int 24), (0, .ref h), (1, .int x)]) hx hb dM_put_2 rfl hl (by decide) rfl (fun ls hl => ?_)
  refine lv_iload_n hx hb dM_put_3 rfl (lv_at hl 0 rfl) ?_
  refine lv_if_lt (tgt := 39) hx hb dM_put_4 (by decide) (fun c4 => absurd c4 (by decide)) (fun c4 => ?_)
  refine lv_aload_n hx hb dM_put_7 rfl (lv_at hl 1 rfl) ?_
  refine gM1 S hw dM_put_8 ?_
  refine lv_aload_n hx hb dM_put_11 rfl (lv_at hl 1 rfl) ?_
  refine gM2 S hw dM_put_12 ?_
  refine kz_top (y := nI n) hT.1 ?_
  refine lv_iload_n hx hb dM_put_15 rfl (lv_at hl 2 rfl) ?_
  refine lv_iload_n hx hb dM_put_16 rfl (lv_at hl 0 rfl) ?_
  refine lv_ishr hx hb dM_put_17 ?_
  refine lv_sipush (v := 255) hx hb dM_put_18 (by decide) ?_
  refine lv_iand hx hb dM_put_21 ?_
  refine stM1 S hw (vp_in_nI (by omega) (by decide)) dM_put_22 (fun H locs hw => ?_)
  refine lv_aload_n hx hb dM_put_23 rfl (lv_at hl 1 rfl) ?_
  refine lv_dup hx hb dM_put_24 rfl ?_
  refine gM2 S hw dM_put_25 ?_
  refine kz_top (y := nI n) hT.1 ?_
  refine lv_iconst (v := 1) hx hb dM_put_28 (by decide) ?_
  refine lv_iadd hx hb dM_put_29 ?_
  refine kz_top (y := nI (n + 1)) (nI_add n 1) ?_
  refine pM2 S hw dM_put_30 (fun H locs hw => ?_)
  refine lv_iinc (v := 16) (lv' := [(2, .int 16), (0, .ref h), (1, .int x)]) hx hb dM_put_33 hl (k := 0) rfl (by decide) (by decide) rfl (fun ls hl => ?_)
  refine lv_goto (tgt := 3) hx hb dM_put_36 (by decide) ?_
  refine lv_iload_n hx hb dM_put_3 rfl (lv_at hl 0 rfl) ?_
  refine lv_if_lt (tgt := 39) hx hb dM_put_4 (by decide) (fun c4 => absurd c4 (by decide)) (fun c4 => ?_)
  refine lv_aload_n hx hb dM_put_7 rfl (lv_at hl 1 rfl) ?_
  refine gM1 S hw dM_put_8 ?_
  refine lv_aload_n hx hb dM_put_11 rfl (lv_at hl 1 rfl) ?_
  refine gM2 S hw dM_put_12 ?_
  refine kz_top (y := nI (n + 1)) rfl ?_
  refine lv_iload_n hx hb dM_put_15 rfl (lv_at hl 2 rfl) ?_
  refine lv_iload_n hx hb dM_put_16 rfl (lv_at hl 0 rfl) ?_
  refine lv_ishr hx hb dM_put_17 ?_
  refine lv_sipush (v := 255) hx hb dM_put_18 (by decide) ?_
  refine lv_iand hx hb dM_put_21 ?_
  refine stM1 S hw (vp_in_nI (by omega) (by decide)) dM_put_22 (fun H locs hw => ?_)
  refine lv_aload_n hx hb dM_put_23 rfl (lv_at hl 1 rfl) ?_
  refine lv_dup hx hb dM_put_24 rfl ?_
  refine gM2 S hw dM_put_25 ?_
  refine kz_top (y := nI (n + 1)) rfl ?_
  refine lv_iconst (v := 1) hx hb dM_put_28 (by decide) ?_
  refine lv_iadd hx hb dM_put_29 ?_
  refine kz_top (y := nI (n + 1 + 1)) (nI_add (n + 1) 1) ?_
  refine pM2 S hw dM_put_30 (fun H locs hw => ?_)
  refine lv_iinc (v := 8) (lv' := [(2, .int 8), (0, .ref h), (1, .int x)]) hx hb dM_put_33 hl (k := 0) rfl (by decide) (by decide) rfl (fun ls hl => ?_)
  refine lv_goto (tgt := 3) hx hb dM_put_36 (by decide) ?_
  refine lv_iload_n hx hb dM_put_3 rfl (lv_at hl 0 rfl) ?_
  refine lv_if_lt (tgt := 39) hx hb dM_put_4 (by decide) (fun c4 => absurd c4 (by decide)) (fun c4 => ?_)
  refine lv_aload_n hx hb dM_put_7 rfl (lv_at hl 1 rfl) ?_
  refine gM1 S hw dM_put_8 ?_
  refine lv_aload_n hx hb dM_put_11 rfl (lv_at hl 1 rfl) ?_
  refine gM2 S hw dM_put_12 ?_
  refine kz_top (y := nI (n + 1 + 1)) rfl ?_
  refine lv_iload_n hx hb dM_put_15 rfl (lv_at hl 2 rfl) ?_
  refine lv_iload_n hx hb dM_put_16 rfl (lv_at hl 0 rfl) ?_
  refine lv_ishr hx hb dM_put_17 ?_
  refine lv_sipush (v := 255) hx hb dM_put_18 (by decide) ?_
  refine lv_iand hx hb dM_put_21 ?_
  refine stM1 S hw (vp_in_nI (by omega) (by decide)) dM_put_22 (fun H locs hw => ?_)
  refine lv_aload_n hx hb dM_put_23 rfl (lv_at hl 1 rfl) ?_
  refine lv_dup hx hb dM_put_24 rfl ?_
  refine gM2 S hw dM_put_25 ?_
  refine kz_top (y := nI (n + 1 + 1)) rfl ?_
  refine lv_iconst (v := 1) hx hb dM_put_28 (by decide) ?_
  refine lv_iadd hx hb dM_put_29 ?_
  refine kz_top (y := nI (n + 1 + 1 + 1)) (nI_add (n + 1 + 1) 1) ?_
  refine pM2 S hw dM_put_30 (fun H locs hw => ?_)
  refine lv_iinc (v := 0) (lv' := [(2, .int 0), (0, .ref h), (1, .int x)]) hx hb dM_put_33 hl (k := 0) rfl (by decide) (by decide) rfl (fun ls hl => ?_)
  refine lv_goto (tgt := 3) hx hb dM_put_36 (by decide) ?_
  refine lv_iload_n hx hb dM_put_3 rfl (lv_at hl 0 rfl) ?_
  refine lv_if_lt (tgt := 39) hx hb dM_put_4 (by decide) (fun c4 => absurd c4 (by decide)) (fun c4 => ?_)
  refine lv_aload_n hx hb dM_put_7 rfl (lv_at hl 1 rfl) ?_
  refine gM1 S hw dM_put_8 ?_
  refine lv_aload_n hx hb dM_put_11 rfl (lv_at hl 1 rfl) ?_
  refine gM2 S hw dM_put_12 ?_
  refine kz_top (y := nI (n + 1 + 1 + 1)) rfl ?_
  refine lv_iload_n hx hb dM_put_15 rfl (lv_at hl 2 rfl) ?_
  refine lv_iload_n hx hb dM_put_16 rfl (lv_at hl 0 rfl) ?_
  refine lv_ishr hx hb dM_put_17 ?_
  refine lv_sipush (v := 255) hx hb dM_put_18 (by decide) ?_
  refine lv_iand hx hb dM_put_21 ?_
  refine stM1 S hw (vp_in_nI (by omega) (by decide)) dM_put_22 (fun H locs hw => ?_)
  refine lv_aload_n hx hb dM_put_23 rfl (lv_at hl 1 rfl) ?_
  refine lv_dup hx hb dM_put_24 rfl ?_
  refine gM2 S hw dM_put_25 ?_
  refine kz_top (y := nI (n + 1 + 1 + 1)) rfl ?_
  refine lv_iconst (v := 1) hx hb dM_put_28 (by decide) ?_
  refine lv_iadd hx hb dM_put_29 ?_
  refine kz_top (y := nI (n + 1 + 1 + 1 + 1)) (nI_add (n + 1 + 1 + 1) 1) ?_
  refine pM2 S hw dM_put_30 (fun H locs hw => ?_)
  refine lv_iinc (v := (-8)) (lv' := [(2, .int (-8)), (0, .ref h), (1, .int x)]) hx hb dM_put_33 hl (k := 0) rfl (by decide) (by decide) rfl (fun ls hl => ?_)
  refine lv_goto (tgt := 3) hx hb dM_put_36 (by decide) ?_
  refine lv_iload_n hx hb dM_put_3 rfl (lv_at hl 0 rfl) ?_
  refine lv_if_lt (tgt := 39) hx hb dM_put_4 (by decide) (fun c4 => ?_) (fun c4 => absurd c4 (by decide))
  exact MM.vret S hr hlk hw dM_put_39 ⟨rfl, by
    refine ⟨⟨rfl, hn4, fun j hj => ?_, putT_nn hT.2.2.2⟩, fun k hk => ?_, fun k hk => ?_⟩
    · have e : putT (F 1) n x j = putT T n x j := putT_at hT.2.2.1 j hj
      rw [← e]
      show upd (upd (upd (upd (F 1) (nI n).toNatClampNeg ((x >>> (nI 24 &&& 31)) &&& 255)) (nI (n + 1)).toNatClampNeg ((x >>> (nI 16 &&& 31)) &&& 255)) (nI (n + 1 + 1)).toNatClampNeg ((x >>> (nI 8 &&& 31)) &&& 255)) (nI (n + 1 + 1 + 1)).toNatClampNeg ((x >>> (nI 0 &&& 31)) &&& 255) j = _
      rw [nI_clamp (by omega), nI_clamp (by omega), nI_clamp (by omega), nI_clamp (by omega), byte_eq x (by omega), byte_eq x (by omega), byte_eq x (by omega), byte_eq x (by omega)]
      rfl
    · simp [upd, hk]
    · simp [va_up, hk]⟩
set_option maxHeartbeats 4000000 in
set_option maxRecDepth 100000 in
theorem tM_skip (l : Launch) (I : Nat → Int32) (F : Nat → Nat → Int32) (T : Nat → Int32) (n : Nat) (hT : tpM T n I F) (p L : Nat) (h15 : I 15 = nI p) (h16 : I 16 = nI L) (hp : p ≤ n) : MM l yM_skip cM_skip 4 none ({ frames := 1, cells := 0, slots := 0, locals := 21 }) [] I F (vR (fun I' F' => I' 15 = nI (skp T n (n - p) false p L).1 ∧ I' 16 = nI (skp T n (n - p) false p L).2 ∧ (∀ k, k ≠ 15 → k ≠ 16 → I' k = I k) ∧ F' = F)) := by
  refine MM.mk (by decide) (fun _ => Nat.le_of_ble_eq_true rfl) ?_
  intro z D cA h a pg en s m below meth c ls S hr hlk hA hw hl
  have hx := S.1
  have hb := S.2.1
  have hl : lv_has ls 4 [(0, .ref h)] := hl
  have hn := hT.2.1
  have loop2 : ∀ (fu : Nat) (q M : Nat) (I1 : Nat → Int32) (H : Heap) (locs : List Loc) (ls : Array Slot), q ≤ n → n + 1 ≤ q + fu → I1 15 = nI q → I1 16 = nI M → (∀ k, k ≠ 15 → k ≠ 16 → I1 k = I k) → skp T n (n - q) false q M = skp T n (n - p) false p L → sM z D cA h a (AM h a s.heap.size) s H locs I1 F → lv_has ls 4 [(0, .ref h), (1, .int 1)] → W pg l en ({ frames := 1, cells := 0, slots := 0, locals := 21 }) s m ([.ref h] : List Value).toArray below meth c H locs 0 0 (MQ below (QM z D cA h a s.heap.size (vR (fun I' F' => I' 15 = nI (skp T n (n - p) false p L).1 ∧ I' 16 = nI (skp T n (n - p) false p L).2 ∧ (∀ k, k ≠ 15 → k ≠ 16 → I' k = I k) ∧ F' = F))) ([.ref h] : List Value).toArray s 0 0 (AM h a s.heap.size)) (F0 m 2 ls []) := by
    intro fu
    induction fu with
    | zero => intro q M  I1  H locs ls hq0 hf g15 g16 gI hR hw hl; omega
    | succ fu ih =>
      intro q M  I1  H locs ls hq0 hf g15 g16 gI hR hw hl
      have hT1 : tpM T n I1 F := hT.of (gI 2 (by decide) (by decide)) rfl
      rcases Nat.lt_or_eq_of_le hq0 with hlt | hqe
      · skip
        refine lv_iload_n hx hb dM_skip_2 rfl (lv_at hl 1 rfl) ?_
        refine lv_if_eq (tgt := 161) hx hb dM_skip_3 (by decide) (fun c3 => absurd c3 (by decide)) (fun c3 => ?_)
        refine lv_aload_n hx hb dM_skip_6 rfl (lv_at hl 0 rfl) ?_
        refine lv_aload_n hx hb dM_skip_7 rfl (lv_at hl 0 rfl) ?_
        refine gM15 S hw dM_skip_8 ?_
        refine kz_top (y := nI q) g15 ?_
        refine kcMi (rest := []) S kM_74 rfl (tM_see l I1 F T n hT1 q (by omega)) hw hA ⟨Nat.le_of_ble_eq_true rfl, Nat.le_of_ble_eq_true rfl⟩ rfl rfl ⟨Nat.zero_le _, Nat.zero_le _⟩ rfl hl.1 (Nat.le_of_ble_eq_true rfl) dM_skip_11 (fun r I' F' H locs hq hw => ?_)
        obtain ⟨hr1, hr2, hr3⟩ := hq
        rw [hr2, hr3] at hw
        subst hr1
        refine kz_top (see_in hlt) ?_
        refine lv_istore_n (lv' := [(2, .int (T q)), (0, .ref h), (1, .int 1)]) hx hb dM_skip_14 rfl hl (by decide) rfl (fun ls hl => ?_)
        refine lv_iload_n hx hb dM_skip_15 rfl (lv_at hl 0 rfl) ?_
        refine lv_bipush (v := 47) hx hb dM_skip_16 (by decide) ?_
        refine lv_icmp_ne (tgt := 40) hx hb dM_skip_18 (by decide) (fun c18 => ?_) (fun c18 => ?_)
        · skip
          refine lv_iconst (v := 0) hx hb dM_skip_40 (by decide) ?_
          refine lv_istore_n (lv' := [(3, .int 0), (2, .int (T q)), (0, .ref h), (1, .int 1)]) hx hb dM_skip_41 rfl hl (by decide) rfl (fun ls hl => ?_)
          refine lv_iload_n hx hb dM_skip_42 rfl (lv_at hl 0 rfl) ?_
          refine lv_if_eq (tgt := 83) hx hb dM_skip_43 (by decide) (fun c43 => ?_) (fun c43 => absurd c43 (by decide))
          refine lv_iload_n hx hb dM_skip_83 rfl (lv_at hl 0 rfl) ?_
          refine lv_if_ne (tgt := 111) hx hb dM_skip_84 (by decide) (fun c84 => absurd c84 (by decide)) (fun c84 => ?_)
          refine lv_iload_n hx hb dM_skip_87 rfl (lv_at hl 1 rfl) ?_
          refine lv_bipush (v := 9) hx hb dM_skip_88 (by decide) ?_
          refine lv_icmp_eq (tgt := 111) hx hb dM_skip_90 (by decide) (fun c90 => ?_) (fun c90 => ?_)
          · skip
            refine lv_iconst (v := 1) hx hb dM_skip_111 (by decide) ?_
            refine lv_goto (tgt := 116) hx hb dM_skip_112 (by decide) ?_
            refine lv_istore_n (lv' := [(1, .int 1), (3, .int 0), (2, .int (T q)), (0, .ref h)]) hx hb dM_skip_116 rfl hl (by decide) rfl (fun ls hl => ?_)
            refine lv_iload_n hx hb dM_skip_117 rfl (lv_at hl 0 rfl) ?_
            refine lv_if_eq (tgt := 2) hx hb dM_skip_118 (by decide) (fun c118 => absurd c118 (by decide)) (fun c118 => ?_)
            refine lv_iload_n hx hb dM_skip_121 rfl (lv_at hl 1 rfl) ?_
            refine lv_if_eq (tgt := 128) hx hb dM_skip_122 (by decide) (fun c122 => ?_) (fun c122 => absurd c122 (by decide))
            refine lv_aload_n hx hb dM_skip_128 rfl (lv_at hl 3 rfl) ?_
            refine lv_dup hx hb dM_skip_129 rfl ?_
            refine gM16 S hw dM_skip_130 ?_
            refine kz_top (y := nI M) g16 ?_
            refine lv_iload_n hx hb dM_skip_133 rfl (lv_at hl 2 rfl) ?_
            refine lv_bipush (v := 10) hx hb dM_skip_134 (by decide) ?_
            refine lv_icmp_ne (tgt := 143) hx hb dM_skip_136 (by decide) (fun c136 => ?_) (fun c136 => absurd (c90.symm.trans c136) (by decide))
            refine lv_iconst (v := 0) hx hb dM_skip_143 (by decide) ?_
            refine lv_iadd hx hb dM_skip_144 ?_
            refine kz_top (y := nI M) (nI_add M 0) ?_
            refine pM16 S hw dM_skip_145 (fun H locs hw => ?_)
            refine lv_aload_n hx hb dM_skip_148 rfl (lv_at hl 3 rfl) ?_
            refine lv_dup hx hb dM_skip_149 rfl ?_
            refine gM15 S hw dM_skip_150 ?_
            refine kz_top (y := nI q) g15 ?_
            refine lv_iconst (v := 1) hx hb dM_skip_153 (by decide) ?_
            refine lv_iadd hx hb dM_skip_154 ?_
            refine kz_top (y := nI (q + 1)) (nI_add q 1) ?_
            refine pM15 S hw dM_skip_155 (fun H locs hw => ?_)
            refine lv_goto (tgt := 2) hx hb dM_skip_158 (by decide) ?_
            rw [skp_go hlt (by rw [c90]; decide) (fun q => c18 q.1) (Or.inr (Or.inl c90))] at hR
            exact ih (q + 1) (M) (upd (upd I1 16 (nI M)) 15 (nI (q + 1))) H locs ls (by omega) (by omega) rfl rfl (fun k h1 h2 => by simp [upd, h1, h2, gI k h1 h2]) hR hw (lv_sub hl [3, 0] rfl)
          · skip
            refine lv_iload_n hx hb dM_skip_93 rfl (lv_at hl 1 rfl) ?_
            refine lv_bipush (v := 10) hx hb dM_skip_94 (by decide) ?_
            refine lv_icmp_eq (tgt := 111) hx hb dM_skip_96 (by decide) (fun c96 => ?_) (fun c96 => ?_)
            · skip
              refine lv_iconst (v := 1) hx hb dM_skip_111 (by decide) ?_
              refine lv_goto (tgt := 116) hx hb dM_skip_112 (by decide) ?_
              refine lv_istore_n (lv' := [(1, .int 1), (3, .int 0), (2, .int (T q)), (0, .ref h)]) hx hb dM_skip_116 rfl hl (by decide) rfl (fun ls hl => ?_)
              refine lv_iload_n hx hb dM_skip_117 rfl (lv_at hl 0 rfl) ?_
              refine lv_if_eq (tgt := 2) hx hb dM_skip_118 (by decide) (fun c118 => absurd c118 (by decide)) (fun c118 => ?_)
              refine lv_iload_n hx hb dM_skip_121 rfl (lv_at hl 1 rfl) ?_
              refine lv_if_eq (tgt := 128) hx hb dM_skip_122 (by decide) (fun c122 => ?_) (fun c122 => absurd c122 (by decide))
              refine lv_aload_n hx hb dM_skip_128 rfl (lv_at hl 3 rfl) ?_
              refine lv_dup hx hb dM_skip_129 rfl ?_
              refine gM16 S hw dM_skip_130 ?_
              refine kz_top (y := nI M) g16 ?_
              refine lv_iload_n hx hb dM_skip_133 rfl (lv_at hl 2 rfl) ?_
              refine lv_bipush (v := 10) hx hb dM_skip_134 (by decide) ?_
              refine lv_icmp_ne (tgt := 143) hx hb dM_skip_136 (by decide) (fun c136 => absurd c96 c136) (fun c136 => ?_)
              refine lv_iconst (v := 1) hx hb dM_skip_139 (by decide) ?_
              refine lv_goto (tgt := 144) hx hb dM_skip_140 (by decide) ?_
              refine lv_iadd hx hb dM_skip_144 ?_
              refine kz_top (nI_1 M) ?_
              refine pM16 S hw dM_skip_145 (fun H locs hw => ?_)
              refine lv_aload_n hx hb dM_skip_148 rfl (lv_at hl 3 rfl) ?_
              refine lv_dup hx hb dM_skip_149 rfl ?_
              refine gM15 S hw dM_skip_150 ?_
              refine kz_top (y := nI q) g15 ?_
              refine lv_iconst (v := 1) hx hb dM_skip_153 (by decide) ?_
              refine lv_iadd hx hb dM_skip_154 ?_
              refine kz_top (y := nI (q + 1)) (nI_add q 1) ?_
              refine pM15 S hw dM_skip_155 (fun H locs hw => ?_)
              refine lv_goto (tgt := 2) hx hb dM_skip_158 (by decide) ?_
              rw [skp_nl hlt c96] at hR
              exact ih (q + 1) (M + 1) (upd (upd I1 16 (nI (M + 1))) 15 (nI (q + 1))) H locs ls (by omega) (by omega) rfl rfl (fun k h1 h2 => by simp [upd, h1, h2, gI k h1 h2]) hR hw (lv_sub hl [3, 0] rfl)
            · skip
              refine lv_iload_n hx hb dM_skip_99 rfl (lv_at hl 1 rfl) ?_
              refine lv_bipush (v := 13) hx hb dM_skip_100 (by decide) ?_
              refine lv_icmp_eq (tgt := 111) hx hb dM_skip_102 (by decide) (fun c102 => ?_) (fun c102 => ?_)
              · skip
                refine lv_iconst (v := 1) hx hb dM_skip_111 (by decide) ?_
                refine lv_goto (tgt := 116) hx hb dM_skip_112 (by decide) ?_
                refine lv_istore_n (lv' := [(1, .int 1), (3, .int 0), (2, .int (T q)), (0, .ref h)]) hx hb dM_skip_116 rfl hl (by decide) rfl (fun ls hl => ?_)
                refine lv_iload_n hx hb dM_skip_117 rfl (lv_at hl 0 rfl) ?_
                refine lv_if_eq (tgt := 2) hx hb dM_skip_118 (by decide) (fun c118 => absurd c118 (by decide)) (fun c118 => ?_)
                refine lv_iload_n hx hb dM_skip_121 rfl (lv_at hl 1 rfl) ?_
                refine lv_if_eq (tgt := 128) hx hb dM_skip_122 (by decide) (fun c122 => ?_) (fun c122 => absurd c122 (by decide))
                refine lv_aload_n hx hb dM_skip_128 rfl (lv_at hl 3 rfl) ?_
                refine lv_dup hx hb dM_skip_129 rfl ?_
                refine gM16 S hw dM_skip_130 ?_
                refine kz_top (y := nI M) g16 ?_
                refine lv_iload_n hx hb dM_skip_133 rfl (lv_at hl 2 rfl) ?_
                refine lv_bipush (v := 10) hx hb dM_skip_134 (by decide) ?_
                refine lv_icmp_ne (tgt := 143) hx hb dM_skip_136 (by decide) (fun c136 => ?_) (fun c136 => absurd c136 c96)
                refine lv_iconst (v := 0) hx hb dM_skip_143 (by decide) ?_
                refine lv_iadd hx hb dM_skip_144 ?_
                refine kz_top (y := nI M) (nI_add M 0) ?_
                refine pM16 S hw dM_skip_145 (fun H locs hw => ?_)
                refine lv_aload_n hx hb dM_skip_148 rfl (lv_at hl 3 rfl) ?_
                refine lv_dup hx hb dM_skip_149 rfl ?_
                refine gM15 S hw dM_skip_150 ?_
                refine kz_top (y := nI q) g15 ?_
                refine lv_iconst (v := 1) hx hb dM_skip_153 (by decide) ?_
                refine lv_iadd hx hb dM_skip_154 ?_
                refine kz_top (y := nI (q + 1)) (nI_add q 1) ?_
                refine pM15 S hw dM_skip_155 (fun H locs hw => ?_)
                refine lv_goto (tgt := 2) hx hb dM_skip_158 (by decide) ?_
                rw [skp_go hlt c96 (fun q => c18 q.1) (Or.inr (Or.inr (Or.inl c102)))] at hR
                exact ih (q + 1) (M) (upd (upd I1 16 (nI M)) 15 (nI (q + 1))) H locs ls (by omega) (by omega) rfl rfl (fun k h1 h2 => by simp [upd, h1, h2, gI k h1 h2]) hR hw (lv_sub hl [3, 0] rfl)
              · skip
                refine lv_iload_n hx hb dM_skip_105 rfl (lv_at hl 1 rfl) ?_
                refine lv_bipush (v := 32) hx hb dM_skip_106 (by decide) ?_
                refine lv_icmp_ne (tgt := 115) hx hb dM_skip_108 (by decide) (fun c108 => ?_) (fun c108 => ?_)
                · skip
                  refine lv_iconst (v := 0) hx hb dM_skip_115 (by decide) ?_
                  refine lv_istore_n (lv' := [(1, .int 0), (3, .int 0), (2, .int (T q)), (0, .ref h)]) hx hb dM_skip_116 rfl hl (by decide) rfl (fun ls hl => ?_)
                  refine lv_iload_n hx hb dM_skip_117 rfl (lv_at hl 0 rfl) ?_
                  refine lv_if_eq (tgt := 2) hx hb dM_skip_118 (by decide) (fun c118 => ?_) (fun c118 => absurd c118 (by decide))
                  refine lv_iload_n hx hb dM_skip_2 rfl (lv_at hl 0 rfl) ?_
                  refine lv_if_eq (tgt := 161) hx hb dM_skip_3 (by decide) (fun c3 => ?_) (fun c3 => absurd c3 (by decide))
                  exact MM.vret S hr hlk hw dM_skip_161 ⟨rfl, by rw [← hR, skp_st hlt c96 (fun q => c18 q.1) c90 c102 c108]; exact g15, by rw [← hR, skp_st hlt c96 (fun q => c18 q.1) c90 c102 c108]; exact g16, gI, rfl⟩
                · skip
                  refine lv_iconst (v := 1) hx hb dM_skip_111 (by decide) ?_
                  refine lv_goto (tgt := 116) hx hb dM_skip_112 (by decide) ?_
                  refine lv_istore_n (lv' := [(1, .int 1), (3, .int 0), (2, .int (T q)), (0, .ref h)]) hx hb dM_skip_116 rfl hl (by decide) rfl (fun ls hl => ?_)
                  refine lv_iload_n hx hb dM_skip_117 rfl (lv_at hl 0 rfl) ?_
                  refine lv_if_eq (tgt := 2) hx hb dM_skip_118 (by decide) (fun c118 => absurd c118 (by decide)) (fun c118 => ?_)
                  refine lv_iload_n hx hb dM_skip_121 rfl (lv_at hl 1 rfl) ?_
                  refine lv_if_eq (tgt := 128) hx hb dM_skip_122 (by decide) (fun c122 => ?_) (fun c122 => absurd c122 (by decide))
                  refine lv_aload_n hx hb dM_skip_128 rfl (lv_at hl 3 rfl) ?_
                  refine lv_dup hx hb dM_skip_129 rfl ?_
                  refine gM16 S hw dM_skip_130 ?_
                  refine kz_top (y := nI M) g16 ?_
                  refine lv_iload_n hx hb dM_skip_133 rfl (lv_at hl 2 rfl) ?_
                  refine lv_bipush (v := 10) hx hb dM_skip_134 (by decide) ?_
                  refine lv_icmp_ne (tgt := 143) hx hb dM_skip_136 (by decide) (fun c136 => ?_) (fun c136 => absurd c136 c96)
                  refine lv_iconst (v := 0) hx hb dM_skip_143 (by decide) ?_
                  refine lv_iadd hx hb dM_skip_144 ?_
                  refine kz_top (y := nI M) (nI_add M 0) ?_
                  refine pM16 S hw dM_skip_145 (fun H locs hw => ?_)
                  refine lv_aload_n hx hb dM_skip_148 rfl (lv_at hl 3 rfl) ?_
                  refine lv_dup hx hb dM_skip_149 rfl ?_
                  refine gM15 S hw dM_skip_150 ?_
                  refine kz_top (y := nI q) g15 ?_
                  refine lv_iconst (v := 1) hx hb dM_skip_153 (by decide) ?_
                  refine lv_iadd hx hb dM_skip_154 ?_
                  refine kz_top (y := nI (q + 1)) (nI_add q 1) ?_
                  refine pM15 S hw dM_skip_155 (fun H locs hw => ?_)
                  refine lv_goto (tgt := 2) hx hb dM_skip_158 (by decide) ?_
                  rw [skp_go hlt c96 (fun q => c18 q.1) (Or.inr (Or.inr (Or.inr c108)))] at hR
                  exact ih (q + 1) (M) (upd (upd I1 16 (nI M)) 15 (nI (q + 1))) H locs ls (by omega) (by omega) rfl rfl (fun k h1 h2 => by simp [upd, h1, h2, gI k h1 h2]) hR hw (lv_sub hl [3, 0] rfl)
        · skip
          refine lv_aload_n hx hb dM_skip_21 rfl (lv_at hl 1 rfl) ?_
          refine lv_aload_n hx hb dM_skip_22 rfl (lv_at hl 1 rfl) ?_
          refine gM15 S hw dM_skip_23 ?_
          refine kz_top (y := nI q) g15 ?_
          refine lv_iconst (v := 1) hx hb dM_skip_26 (by decide) ?_
          refine lv_iadd hx hb dM_skip_27 ?_
          refine kz_top (y := nI (q + 1)) (nI_add q 1) ?_
          refine kcMi (rest := []) S kM_74 rfl (tM_see l I1 F T n hT1 (q + 1) (by omega)) hw hA ⟨Nat.le_of_ble_eq_true rfl, Nat.le_of_ble_eq_true rfl⟩ rfl rfl ⟨Nat.zero_le _, Nat.zero_le _⟩ rfl hl.1 (Nat.le_of_ble_eq_true rfl) dM_skip_28 (fun r I' F' H locs hq hw => ?_)
          obtain ⟨hr1, hr2, hr3⟩ := hq
          rw [hr2, hr3] at hw
          subst hr1
          refine lv_bipush (v := 47) hx hb dM_skip_31 (by decide) ?_
          refine lv_icmp_ne (tgt := 40) hx hb dM_skip_33 (by decide) (fun c33 => ?_) (fun c33 => ?_)
          · skip
            refine lv_iconst (v := 0) hx hb dM_skip_40 (by decide) ?_
            refine lv_istore_n (lv' := [(3, .int 0), (2, .int (T q)), (0, .ref h), (1, .int 1)]) hx hb dM_skip_41 rfl hl (by decide) rfl (fun ls hl => ?_)
            refine lv_iload_n hx hb dM_skip_42 rfl (lv_at hl 0 rfl) ?_
            refine lv_if_eq (tgt := 83) hx hb dM_skip_43 (by decide) (fun c43 => ?_) (fun c43 => absurd c43 (by decide))
            refine lv_iload_n hx hb dM_skip_83 rfl (lv_at hl 0 rfl) ?_
            refine lv_if_ne (tgt := 111) hx hb dM_skip_84 (by decide) (fun c84 => absurd c84 (by decide)) (fun c84 => ?_)
            refine lv_iload_n hx hb dM_skip_87 rfl (lv_at hl 1 rfl) ?_
            refine lv_bipush (v := 9) hx hb dM_skip_88 (by decide) ?_
            refine lv_icmp_eq (tgt := 111) hx hb dM_skip_90 (by decide) (fun c90 => ?_) (fun c90 => ?_)
            · skip
              refine lv_iconst (v := 1) hx hb dM_skip_111 (by decide) ?_
              refine lv_goto (tgt := 116) hx hb dM_skip_112 (by decide) ?_
              refine lv_istore_n (lv' := [(1, .int 1), (3, .int 0), (2, .int (T q)), (0, .ref h)]) hx hb dM_skip_116 rfl hl (by decide) rfl (fun ls hl => ?_)
              refine lv_iload_n hx hb dM_skip_117 rfl (lv_at hl 0 rfl) ?_
              refine lv_if_eq (tgt := 2) hx hb dM_skip_118 (by decide) (fun c118 => absurd c118 (by decide)) (fun c118 => ?_)
              refine lv_iload_n hx hb dM_skip_121 rfl (lv_at hl 1 rfl) ?_
              refine lv_if_eq (tgt := 128) hx hb dM_skip_122 (by decide) (fun c122 => ?_) (fun c122 => absurd c122 (by decide))
              refine lv_aload_n hx hb dM_skip_128 rfl (lv_at hl 3 rfl) ?_
              refine lv_dup hx hb dM_skip_129 rfl ?_
              refine gM16 S hw dM_skip_130 ?_
              refine kz_top (y := nI M) g16 ?_
              refine lv_iload_n hx hb dM_skip_133 rfl (lv_at hl 2 rfl) ?_
              refine lv_bipush (v := 10) hx hb dM_skip_134 (by decide) ?_
              refine lv_icmp_ne (tgt := 143) hx hb dM_skip_136 (by decide) (fun c136 => ?_) (fun c136 => absurd (c90.symm.trans c136) (by decide))
              refine lv_iconst (v := 0) hx hb dM_skip_143 (by decide) ?_
              refine lv_iadd hx hb dM_skip_144 ?_
              refine kz_top (y := nI M) (nI_add M 0) ?_
              refine pM16 S hw dM_skip_145 (fun H locs hw => ?_)
              refine lv_aload_n hx hb dM_skip_148 rfl (lv_at hl 3 rfl) ?_
              refine lv_dup hx hb dM_skip_149 rfl ?_
              refine gM15 S hw dM_skip_150 ?_
              refine kz_top (y := nI q) g15 ?_
              refine lv_iconst (v := 1) hx hb dM_skip_153 (by decide) ?_
              refine lv_iadd hx hb dM_skip_154 ?_
              refine kz_top (y := nI (q + 1)) (nI_add q 1) ?_
              refine pM15 S hw dM_skip_155 (fun H locs hw => ?_)
              refine lv_goto (tgt := 2) hx hb dM_skip_158 (by decide) ?_
              rw [skp_go hlt (by rw [c90]; decide) (fun q => c33 q.2) (Or.inr (Or.inl c90))] at hR
              exact ih (q + 1) (M) (upd (upd I1 16 (nI M)) 15 (nI (q + 1))) H locs ls (by omega) (by omega) rfl rfl (fun k h1 h2 => by simp [upd, h1, h2, gI k h1 h2]) hR hw (lv_sub hl [3, 0] rfl)
            · skip
              refine lv_iload_n hx hb dM_skip_93 rfl (lv_at hl 1 rfl) ?_
              refine lv_bipush (v := 10) hx hb dM_skip_94 (by decide) ?_
              refine lv_icmp_eq (tgt := 111) hx hb dM_skip_96 (by decide) (fun c96 => ?_) (fun c96 => ?_)
              · skip
                refine lv_iconst (v := 1) hx hb dM_skip_111 (by decide) ?_
                refine lv_goto (tgt := 116) hx hb dM_skip_112 (by decide) ?_
                refine lv_istore_n (lv' := [(1, .int 1), (3, .int 0), (2, .int (T q)), (0, .ref h)]) hx hb dM_skip_116 rfl hl (by decide) rfl (fun ls hl => ?_)
                refine lv_iload_n hx hb dM_skip_117 rfl (lv_at hl 0 rfl) ?_
                refine lv_if_eq (tgt := 2) hx hb dM_skip_118 (by decide) (fun c118 => absurd c118 (by decide)) (fun c118 => ?_)
                refine lv_iload_n hx hb dM_skip_121 rfl (lv_at hl 1 rfl) ?_
                refine lv_if_eq (tgt := 128) hx hb dM_skip_122 (by decide) (fun c122 => ?_) (fun c122 => absurd c122 (by decide))
                refine lv_aload_n hx hb dM_skip_128 rfl (lv_at hl 3 rfl) ?_
                refine lv_dup hx hb dM_skip_129 rfl ?_
                refine gM16 S hw dM_skip_130 ?_
                refine kz_top (y := nI M) g16 ?_
                refine lv_iload_n hx hb dM_skip_133 rfl (lv_at hl 2 rfl) ?_
                refine lv_bipush (v := 10) hx hb dM_skip_134 (by decide) ?_
                refine lv_icmp_ne (tgt := 143) hx hb dM_skip_136 (by decide) (fun c136 => absurd c96 c136) (fun c136 => ?_)
                refine lv_iconst (v := 1) hx hb dM_skip_139 (by decide) ?_
                refine lv_goto (tgt := 144) hx hb dM_skip_140 (by decide) ?_
                refine lv_iadd hx hb dM_skip_144 ?_
                refine kz_top (nI_1 M) ?_
                refine pM16 S hw dM_skip_145 (fun H locs hw => ?_)
                refine lv_aload_n hx hb dM_skip_148 rfl (lv_at hl 3 rfl) ?_
                refine lv_dup hx hb dM_skip_149 rfl ?_
                refine gM15 S hw dM_skip_150 ?_
                refine kz_top (y := nI q) g15 ?_
                refine lv_iconst (v := 1) hx hb dM_skip_153 (by decide) ?_
                refine lv_iadd hx hb dM_skip_154 ?_
                refine kz_top (y := nI (q + 1)) (nI_add q 1) ?_
                refine pM15 S hw dM_skip_155 (fun H locs hw => ?_)
                refine lv_goto (tgt := 2) hx hb dM_skip_158 (by decide) ?_
                rw [skp_nl hlt c96] at hR
                exact ih (q + 1) (M + 1) (upd (upd I1 16 (nI (M + 1))) 15 (nI (q + 1))) H locs ls (by omega) (by omega) rfl rfl (fun k h1 h2 => by simp [upd, h1, h2, gI k h1 h2]) hR hw (lv_sub hl [3, 0] rfl)
              · skip
                refine lv_iload_n hx hb dM_skip_99 rfl (lv_at hl 1 rfl) ?_
                refine lv_bipush (v := 13) hx hb dM_skip_100 (by decide) ?_
                refine lv_icmp_eq (tgt := 111) hx hb dM_skip_102 (by decide) (fun c102 => ?_) (fun c102 => ?_)
                · skip
                  refine lv_iconst (v := 1) hx hb dM_skip_111 (by decide) ?_
                  refine lv_goto (tgt := 116) hx hb dM_skip_112 (by decide) ?_
                  refine lv_istore_n (lv' := [(1, .int 1), (3, .int 0), (2, .int (T q)), (0, .ref h)]) hx hb dM_skip_116 rfl hl (by decide) rfl (fun ls hl => ?_)
                  refine lv_iload_n hx hb dM_skip_117 rfl (lv_at hl 0 rfl) ?_
                  refine lv_if_eq (tgt := 2) hx hb dM_skip_118 (by decide) (fun c118 => absurd c118 (by decide)) (fun c118 => ?_)
                  refine lv_iload_n hx hb dM_skip_121 rfl (lv_at hl 1 rfl) ?_
                  refine lv_if_eq (tgt := 128) hx hb dM_skip_122 (by decide) (fun c122 => ?_) (fun c122 => absurd c122 (by decide))
                  refine lv_aload_n hx hb dM_skip_128 rfl (lv_at hl 3 rfl) ?_
                  refine lv_dup hx hb dM_skip_129 rfl ?_
                  refine gM16 S hw dM_skip_130 ?_
                  refine kz_top (y := nI M) g16 ?_
                  refine lv_iload_n hx hb dM_skip_133 rfl (lv_at hl 2 rfl) ?_
                  refine lv_bipush (v := 10) hx hb dM_skip_134 (by decide) ?_
                  refine lv_icmp_ne (tgt := 143) hx hb dM_skip_136 (by decide) (fun c136 => ?_) (fun c136 => absurd c136 c96)
                  refine lv_iconst (v := 0) hx hb dM_skip_143 (by decide) ?_
                  refine lv_iadd hx hb dM_skip_144 ?_
                  refine kz_top (y := nI M) (nI_add M 0) ?_
                  refine pM16 S hw dM_skip_145 (fun H locs hw => ?_)
                  refine lv_aload_n hx hb dM_skip_148 rfl (lv_at hl 3 rfl) ?_
                  refine lv_dup hx hb dM_skip_149 rfl ?_
                  refine gM15 S hw dM_skip_150 ?_
                  refine kz_top (y := nI q) g15 ?_
                  refine lv_iconst (v := 1) hx hb dM_skip_153 (by decide) ?_
                  refine lv_iadd hx hb dM_skip_154 ?_
                  refine kz_top (y := nI (q + 1)) (nI_add q 1) ?_
                  refine pM15 S hw dM_skip_155 (fun H locs hw => ?_)
                  refine lv_goto (tgt := 2) hx hb dM_skip_158 (by decide) ?_
                  rw [skp_go hlt c96 (fun q => c33 q.2) (Or.inr (Or.inr (Or.inl c102)))] at hR
                  exact ih (q + 1) (M) (upd (upd I1 16 (nI M)) 15 (nI (q + 1))) H locs ls (by omega) (by omega) rfl rfl (fun k h1 h2 => by simp [upd, h1, h2, gI k h1 h2]) hR hw (lv_sub hl [3, 0] rfl)
                · skip
                  refine lv_iload_n hx hb dM_skip_105 rfl (lv_at hl 1 rfl) ?_
                  refine lv_bipush (v := 32) hx hb dM_skip_106 (by decide) ?_
                  refine lv_icmp_ne (tgt := 115) hx hb dM_skip_108 (by decide) (fun c108 => ?_) (fun c108 => ?_)
                  · skip
                    refine lv_iconst (v := 0) hx hb dM_skip_115 (by decide) ?_
                    refine lv_istore_n (lv' := [(1, .int 0), (3, .int 0), (2, .int (T q)), (0, .ref h)]) hx hb dM_skip_116 rfl hl (by decide) rfl (fun ls hl => ?_)
                    refine lv_iload_n hx hb dM_skip_117 rfl (lv_at hl 0 rfl) ?_
                    refine lv_if_eq (tgt := 2) hx hb dM_skip_118 (by decide) (fun c118 => ?_) (fun c118 => absurd c118 (by decide))
                    refine lv_iload_n hx hb dM_skip_2 rfl (lv_at hl 0 rfl) ?_
                    refine lv_if_eq (tgt := 161) hx hb dM_skip_3 (by decide) (fun c3 => ?_) (fun c3 => absurd c3 (by decide))
                    exact MM.vret S hr hlk hw dM_skip_161 ⟨rfl, by rw [← hR, skp_st hlt c96 (fun q => c33 q.2) c90 c102 c108]; exact g15, by rw [← hR, skp_st hlt c96 (fun q => c33 q.2) c90 c102 c108]; exact g16, gI, rfl⟩
                  · skip
                    refine lv_iconst (v := 1) hx hb dM_skip_111 (by decide) ?_
                    refine lv_goto (tgt := 116) hx hb dM_skip_112 (by decide) ?_
                    refine lv_istore_n (lv' := [(1, .int 1), (3, .int 0), (2, .int (T q)), (0, .ref h)]) hx hb dM_skip_116 rfl hl (by decide) rfl (fun ls hl => ?_)
                    refine lv_iload_n hx hb dM_skip_117 rfl (lv_at hl 0 rfl) ?_
                    refine lv_if_eq (tgt := 2) hx hb dM_skip_118 (by decide) (fun c118 => absurd c118 (by decide)) (fun c118 => ?_)
                    refine lv_iload_n hx hb dM_skip_121 rfl (lv_at hl 1 rfl) ?_
                    refine lv_if_eq (tgt := 128) hx hb dM_skip_122 (by decide) (fun c122 => ?_) (fun c122 => absurd c122 (by decide))
                    refine lv_aload_n hx hb dM_skip_128 rfl (lv_at hl 3 rfl) ?_
                    refine lv_dup hx hb dM_skip_129 rfl ?_
                    refine gM16 S hw dM_skip_130 ?_
                    refine kz_top (y := nI M) g16 ?_
                    refine lv_iload_n hx hb dM_skip_133 rfl (lv_at hl 2 rfl) ?_
                    refine lv_bipush (v := 10) hx hb dM_skip_134 (by decide) ?_
                    refine lv_icmp_ne (tgt := 143) hx hb dM_skip_136 (by decide) (fun c136 => ?_) (fun c136 => absurd c136 c96)
                    refine lv_iconst (v := 0) hx hb dM_skip_143 (by decide) ?_
                    refine lv_iadd hx hb dM_skip_144 ?_
                    refine kz_top (y := nI M) (nI_add M 0) ?_
                    refine pM16 S hw dM_skip_145 (fun H locs hw => ?_)
                    refine lv_aload_n hx hb dM_skip_148 rfl (lv_at hl 3 rfl) ?_
                    refine lv_dup hx hb dM_skip_149 rfl ?_
                    refine gM15 S hw dM_skip_150 ?_
                    refine kz_top (y := nI q) g15 ?_
                    refine lv_iconst (v := 1) hx hb dM_skip_153 (by decide) ?_
                    refine lv_iadd hx hb dM_skip_154 ?_
                    refine kz_top (y := nI (q + 1)) (nI_add q 1) ?_
                    refine pM15 S hw dM_skip_155 (fun H locs hw => ?_)
                    refine lv_goto (tgt := 2) hx hb dM_skip_158 (by decide) ?_
                    rw [skp_go hlt c96 (fun q => c33 q.2) (Or.inr (Or.inr (Or.inr c108)))] at hR
                    exact ih (q + 1) (M) (upd (upd I1 16 (nI M)) 15 (nI (q + 1))) H locs ls (by omega) (by omega) rfl rfl (fun k h1 h2 => by simp [upd, h1, h2, gI k h1 h2]) hR hw (lv_sub hl [3, 0] rfl)
          · skip
            refine lv_iconst (v := 1) hx hb dM_skip_36 (by decide) ?_
            refine lv_goto (tgt := 41) hx hb dM_skip_37 (by decide) ?_
            refine lv_istore_n (lv' := [(3, .int 1), (2, .int (T q)), (0, .ref h), (1, .int 1)]) hx hb dM_skip_41 rfl hl (by decide) rfl (fun ls hl => ?_)
            have loop42 : ∀ (fv x : Nat) (I2 : Nat → Int32) (H : Heap) (locs : List Loc) (ls : Array Slot), q ≤ x → x ≤ n → n + 1 ≤ x + fv → I2 15 = nI x → I2 16 = nI M → (∀ k, k ≠ 15 → k ≠ 16 → I2 k = I k) → skp T n (n - x) true x M = skp T n (n - p) false p L → sM z D cA h a (AM h a s.heap.size) s H locs I2 F → lv_has ls 4 [(0, .ref h), (1, .int 1), (2, .int (T q)), (3, .int 1)] → W pg l en ({ frames := 1, cells := 0, slots := 0, locals := 21 }) s m ([.ref h] : List Value).toArray below meth c H locs 0 0 (MQ below (QM z D cA h a s.heap.size (vR (fun I' F' => I' 15 = nI (skp T n (n - p) false p L).1 ∧ I' 16 = nI (skp T n (n - p) false p L).2 ∧ (∀ k, k ≠ 15 → k ≠ 16 → I' k = I k) ∧ F' = F))) ([.ref h] : List Value).toArray s 0 0 (AM h a s.heap.size)) (F0 m 42 ls []) := by
              intro fv
              induction fv with
              | zero => intro x I2 H locs ls hx1 hx2 hf2 y15 y16 yI hRx hw hl; omega
              | succ fv ih2 =>
                intro x I2 H locs ls hx1 hx2 hf2 y15 y16 yI hRx hw hl
                have hT2 : tpM T n I2 F := hT.of (yI 2 (by decide) (by decide)) rfl
                refine lv_iload_n hx hb dM_skip_42 rfl (lv_at hl 3 rfl) ?_
                refine lv_if_eq (tgt := 83) hx hb dM_skip_43 (by decide) (fun c43 => absurd c43 (by decide)) (fun c43 => ?_)
                refine lv_aload_n hx hb dM_skip_46 rfl (lv_at hl 0 rfl) ?_
                refine gM15 S hw dM_skip_47 ?_
                refine kz_top (y := nI x) y15 ?_
                refine lv_aload_n hx hb dM_skip_50 rfl (lv_at hl 0 rfl) ?_
                refine gM2 S hw dM_skip_51 ?_
                refine kz_top (y := nI n) hT2.1 ?_
                refine lv_icmp_ge (tgt := 83) hx hb dM_skip_54 (by decide) (fun c54 => ?_) (fun c54 => ?_)
                · skip
                  have hRx : skp T n (n - x) false x M = skp T n (n - p) false p L := by rw [← hRx, skp_end ((nI_leI (by omega) (by omega)).mp c54), skp_end ((nI_leI (by omega) (by omega)).mp c54)]
                  have hxq : q < x := Nat.lt_of_lt_of_le hlt ((nI_leI (by omega) (by omega)).mp c54)
                  refine lv_iload_n hx hb dM_skip_83 rfl (lv_at hl 3 rfl) ?_
                  refine lv_if_ne (tgt := 111) hx hb dM_skip_84 (by decide) (fun c84 => ?_) (fun c84 => absurd c84 (by decide))
                  refine lv_iconst (v := 1) hx hb dM_skip_111 (by decide) ?_
                  refine lv_goto (tgt := 116) hx hb dM_skip_112 (by decide) ?_
                  refine lv_istore_n (lv' := [(1, .int 1), (0, .ref h), (2, .int (T q)), (3, .int 1)]) hx hb dM_skip_116 rfl hl (by decide) rfl (fun ls hl => ?_)
                  refine lv_iload_n hx hb dM_skip_117 rfl (lv_at hl 0 rfl) ?_
                  refine lv_if_eq (tgt := 2) hx hb dM_skip_118 (by decide) (fun c118 => absurd c118 (by decide)) (fun c118 => ?_)
                  refine lv_iload_n hx hb dM_skip_121 rfl (lv_at hl 3 rfl) ?_
                  refine lv_if_eq (tgt := 128) hx hb dM_skip_122 (by decide) (fun c122 => absurd c122 (by decide)) (fun c122 => ?_)
                  refine lv_goto (tgt := 2) hx hb dM_skip_125 (by decide) ?_
                  exact ih x M I2 H locs ls hx2 (by omega) y15 y16 (fun k a b => yI k a b) hRx hw (lv_sub hl [1, 0] rfl)
                · skip
                  refine lv_aload_n hx hb dM_skip_57 rfl (lv_at hl 0 rfl) ?_
                  refine lv_aload_n hx hb dM_skip_58 rfl (lv_at hl 0 rfl) ?_
                  refine gM15 S hw dM_skip_59 ?_
                  refine kz_top (y := nI x) y15 ?_
                  have hlx : x < n := Nat.lt_of_not_le (fun z => c54 (nI_le z (by omega)))
                  refine kcMi (rest := []) S kM_74 rfl (tM_see l I2 F T n hT2 x (by omega)) hw hA ⟨Nat.le_of_ble_eq_true rfl, Nat.le_of_ble_eq_true rfl⟩ rfl rfl ⟨Nat.zero_le _, Nat.zero_le _⟩ rfl hl.1 (Nat.le_of_ble_eq_true rfl) dM_skip_62 (fun r I' F' H locs hq hw => ?_)
                  obtain ⟨hr1, hr2, hr3⟩ := hq
                  rw [hr2, hr3] at hw
                  subst hr1
                  refine kz_top (see_in hlx) ?_
                  refine lv_bipush (v := 10) hx hb dM_skip_65 (by decide) ?_
                  refine lv_icmp_eq (tgt := 83) hx hb dM_skip_67 (by decide) (fun c67 => ?_) (fun c67 => ?_)
                  · skip
                    have hRx : skp T n (n - x) false x M = skp T n (n - p) false p L := by rw [← hRx, skp_nl hlx c67, skp_nl hlx c67]
                    have hxq : q < x := Nat.lt_of_le_of_ne hx1 (fun z => by rw [← z, c18] at c67; exact absurd c67 (by decide))
                    refine lv_iload_n hx hb dM_skip_83 rfl (lv_at hl 3 rfl) ?_
                    refine lv_if_ne (tgt := 111) hx hb dM_skip_84 (by decide) (fun c84 => ?_) (fun c84 => absurd c84 (by decide))
                    refine lv_iconst (v := 1) hx hb dM_skip_111 (by decide) ?_
                    refine lv_goto (tgt := 116) hx hb dM_skip_112 (by decide) ?_
                    refine lv_istore_n (lv' := [(1, .int 1), (0, .ref h), (2, .int (T q)), (3, .int 1)]) hx hb dM_skip_116 rfl hl (by decide) rfl (fun ls hl => ?_)
                    refine lv_iload_n hx hb dM_skip_117 rfl (lv_at hl 0 rfl) ?_
                    refine lv_if_eq (tgt := 2) hx hb dM_skip_118 (by decide) (fun c118 => absurd c118 (by decide)) (fun c118 => ?_)
                    refine lv_iload_n hx hb dM_skip_121 rfl (lv_at hl 3 rfl) ?_
                    refine lv_if_eq (tgt := 128) hx hb dM_skip_122 (by decide) (fun c122 => absurd c122 (by decide)) (fun c122 => ?_)
                    refine lv_goto (tgt := 2) hx hb dM_skip_125 (by decide) ?_
                    exact ih x M I2 H locs ls hx2 (by omega) y15 y16 (fun k a b => yI k a b) hRx hw (lv_sub hl [1, 0] rfl)
                  · skip
                    have hRx : skp T n (n - (x + 1)) true (x + 1) M = skp T n (n - p) false p L := by
                      by_cases z : T x = 47 ∧ seeT T n (x + 1) = 47
                      · rw [← hRx, skp_rm hlx c67 z.1 z.2]
                      · rw [← hRx, skp_go hlx c67 z (Or.inl rfl)]
                    refine lv_aload_n hx hb dM_skip_70 rfl (lv_at hl 0 rfl) ?_
                    refine lv_dup hx hb dM_skip_71 rfl ?_
                    refine gM15 S hw dM_skip_72 ?_
                    refine kz_top (y := nI x) y15 ?_
                    refine lv_iconst (v := 1) hx hb dM_skip_75 (by decide) ?_
                    refine lv_iadd hx hb dM_skip_76 ?_
                    refine kz_top (y := nI (x + 1)) (nI_add x 1) ?_
                    refine pM15 S hw dM_skip_77 (fun H locs hw => ?_)
                    refine lv_goto (tgt := 42) hx hb dM_skip_80 (by decide) ?_
                    exact ih2 (x + 1) (upd I2 15 (nI (x + 1))) H locs ls (by omega) (by omega) (by omega) rfl y16 (fun k a b => by simp [upd, a, yI k a b]) hRx hw (lv_sub hl [0, 1, 2, 3] rfl)
            exact loop42 (n - q + 1) q I1 H locs ls (Nat.le_refl _) hq0 (by omega) g15 g16 gI ((skp_rm hlt (by rw [c18]; decide) c18 c33).trans ((skp_rm hlt (by rw [c18]; decide) c18 c33).symm.trans hR)) hw (lv_sub hl [2, 3, 1, 0] rfl)
      · skip
        refine lv_iload_n hx hb dM_skip_2 rfl (lv_at hl 1 rfl) ?_
        refine lv_if_eq (tgt := 161) hx hb dM_skip_3 (by decide) (fun c3 => absurd c3 (by decide)) (fun c3 => ?_)
        refine lv_aload_n hx hb dM_skip_6 rfl (lv_at hl 0 rfl) ?_
        refine lv_aload_n hx hb dM_skip_7 rfl (lv_at hl 0 rfl) ?_
        refine gM15 S hw dM_skip_8 ?_
        refine kz_top (y := nI q) g15 ?_
        refine kcMi (rest := []) S kM_74 rfl (tM_see l I1 F T n hT1 q (by omega)) hw hA ⟨Nat.le_of_ble_eq_true rfl, Nat.le_of_ble_eq_true rfl⟩ rfl rfl ⟨Nat.zero_le _, Nat.zero_le _⟩ rfl hl.1 (Nat.le_of_ble_eq_true rfl) dM_skip_11 (fun r I' F' H locs hq hw => ?_)
        obtain ⟨hr1, hr2, hr3⟩ := hq
        rw [hr2, hr3] at hw
        subst hr1
        refine kz_top (y := -1) (see_out (Nat.le_of_eq hqe.symm)) ?_
        refine lv_istore_n (lv' := [(2, .int (-1)), (0, .ref h), (1, .int 1)]) hx hb dM_skip_14 rfl hl (by decide) rfl (fun ls hl => ?_)
        refine lv_iload_n hx hb dM_skip_15 rfl (lv_at hl 0 rfl) ?_
        refine lv_bipush (v := 47) hx hb dM_skip_16 (by decide) ?_
        refine lv_icmp_ne (tgt := 40) hx hb dM_skip_18 (by decide) (fun c18 => ?_) (fun c18 => absurd c18 (by decide))
        refine lv_iconst (v := 0) hx hb dM_skip_40 (by decide) ?_
        refine lv_istore_n (lv' := [(3, .int 0), (2, .int (-1)), (0, .ref h), (1, .int 1)]) hx hb dM_skip_41 rfl hl (by decide) rfl (fun ls hl => ?_)
        refine lv_iload_n hx hb dM_skip_42 rfl (lv_at hl 0 rfl) ?_
        refine lv_if_eq (tgt := 83) hx hb dM_skip_43 (by decide) (fun c43 => ?_) (fun c43 => absurd c43 (by decide))
        refine lv_iload_n hx hb dM_skip_83 rfl (lv_at hl 0 rfl) ?_
        refine lv_if_ne (tgt := 111) hx hb dM_skip_84 (by decide) (fun c84 => absurd c84 (by decide)) (fun c84 => ?_)
        refine lv_iload_n hx hb dM_skip_87 rfl (lv_at hl 1 rfl) ?_
        refine lv_bipush (v := 9) hx hb dM_skip_88 (by decide) ?_
        refine lv_icmp_eq (tgt := 111) hx hb dM_skip_90 (by decide) (fun c90 => absurd c90 (by decide)) (fun c90 => ?_)
        refine lv_iload_n hx hb dM_skip_93 rfl (lv_at hl 1 rfl) ?_
        refine lv_bipush (v := 10) hx hb dM_skip_94 (by decide) ?_
        refine lv_icmp_eq (tgt := 111) hx hb dM_skip_96 (by decide) (fun c96 => absurd c96 (by decide)) (fun c96 => ?_)
        refine lv_iload_n hx hb dM_skip_99 rfl (lv_at hl 1 rfl) ?_
        refine lv_bipush (v := 13) hx hb dM_skip_100 (by decide) ?_
        refine lv_icmp_eq (tgt := 111) hx hb dM_skip_102 (by decide) (fun c102 => absurd c102 (by decide)) (fun c102 => ?_)
        refine lv_iload_n hx hb dM_skip_105 rfl (lv_at hl 1 rfl) ?_
        refine lv_bipush (v := 32) hx hb dM_skip_106 (by decide) ?_
        refine lv_icmp_ne (tgt := 115) hx hb dM_skip_108 (by decide) (fun c108 => ?_) (fun c108 => absurd c108 (by decide))
        refine lv_iconst (v := 0) hx hb dM_skip_115 (by decide) ?_
        refine lv_istore_n (lv' := [(1, .int 0), (3, .int 0), (2, .int (-1)), (0, .ref h)]) hx hb dM_skip_116 rfl hl (by decide) rfl (fun ls hl => ?_)
        refine lv_iload_n hx hb dM_skip_117 rfl (lv_at hl 0 rfl) ?_
        refine lv_if_eq (tgt := 2) hx hb dM_skip_118 (by decide) (fun c118 => ?_) (fun c118 => absurd c118 (by decide))
        refine lv_iload_n hx hb dM_skip_2 rfl (lv_at hl 0 rfl) ?_
        refine lv_if_eq (tgt := 161) hx hb dM_skip_3 (by decide) (fun c3 => ?_) (fun c3 => absurd c3 (by decide))
        exact MM.vret S hr hlk hw dM_skip_161 ⟨rfl, by rw [← hR, skp_end (Nat.le_of_eq hqe.symm)]; exact g15, by rw [← hR, skp_end (Nat.le_of_eq hqe.symm)]; exact g16, gI, rfl⟩
  refine lv_iconst (v := 1) hx hb dM_skip_0 (by decide) ?_
  refine lv_istore_n (lv' := [(1, .int 1), (0, .ref h)]) hx hb dM_skip_1 rfl hl (by decide) rfl (fun ls hl => ?_)
  exact loop2 (n - p + 1) p L I s.heap [] ls hp (by omega) h15 h16 (fun _ _ _ => rfl) rfl hw (lv_sub hl [1, 0] rfl)
end
section
/-! ===== the reference: what stands at a place ===== -/
def rkP (I : Nat → Int32) (F : Nat → Nat → Int32) (q : kz_S) (I' : Nat → Int32) (F' : Nat → Nat → Int32) : Prop := F' = F ∧ (∀ k, k ≠ 17 → k ≠ 18 → k ≠ 19 → I' k = I k) ∧ (q.1 = 6 → I' 17 = 6) ∧ (¬ q.1 = 6 → I' 17 = (if q.1 = 4 then 0 else q.1) ∧ I' 19 = nI q.2.2.1 ∧ (q.1 = 1 → I' 18 = q.2.1))
theorem rkP.bad {I I' : Nat → Int32} {F : Nat → Nat → Int32} {q : kz_S} (hq : q = badS) (h1 : ∀ k, k ≠ 17 → k ≠ 18 → k ≠ 19 → I' k = I k) (h2 : I' 17 = 6) : rkP I F q I' F := by
  subst hq; exact ⟨rfl, h1, fun _ => h2, fun h => absurd rfl h⟩
theorem rkP.ok {I I' : Nat → Int32} {F : Nat → Nat → Int32} {q : kz_S} {k v : Int32} {b : Nat} {tx : List Int32} (hq : q = (k, v, b, tx)) (hk : ¬ k = 6) (h1 : ∀ k, k ≠ 17 → k ≠ 18 → k ≠ 19 → I' k = I k) (h2 : I' 17 = if k = 4 then 0 else k) (h3 : I' 19 = nI b) (h4 : k = 1 → I' 18 = v) : rkP I F q I' F := by
  subst hq; exact ⟨rfl, h1, fun h => absurd h hk, fun _ => ⟨h2, h3, h4⟩⟩
theorem rkP.base {I I1 I' : Nat → Int32} {F F' : Nat → Nat → Int32} {q q' : kz_S} (h : rkP I1 F q I' F') (hI : ∀ k, k ≠ 17 → k ≠ 18 → k ≠ 19 → I1 k = I k) (hq : q' = q) : rkP I F q' I' F' := by
  subst hq; exact ⟨h.1, fun k a b c => (h.2.1 k a b c).trans (hI k a b c), h.2.2⟩
theorem two_iff (c d : Int32) : [c, d] ∈ wK 3 ↔ ((c = 36 ∧ d = 40) ∨ (c = 36 ∧ d = 41) ∨ (c = 58 ∧ d = 61) ∨ (c = 126 ∧ d = 61) ∨ (c = 60 ∧ d = 61) ∨ (c = 62 ∧ d = 61) ∨ (c = 60 ∧ d = 60) ∨ (c = 62 ∧ d = 62) ∨ (c = 45 ∧ d = 62)) := by
  show [c, d] ∈ ([[36, 40], [36, 41], [40], [41], [44], [59], [58, 61], [58], [33], [64], [43], [45], [42], [47], [61], [126, 61], [60], [60, 61], [62], [62, 61], [60, 60], [62, 62], [126], [38], [124], [45, 62]] : List (List Int32)) ↔ _
  simp
theorem one_iff (c : Int32) : [c] ∈ wK 3 ↔ (c = 40 ∨ c = 41 ∨ c = 44 ∨ c = 59 ∨ c = 58 ∨ c = 33 ∨ c = 64 ∨ c = 43 ∨ c = 45 ∨ c = 42 ∨ c = 47 ∨ c = 61 ∨ c = 60 ∨ c = 62 ∨ c = 126 ∨ c = 38 ∨ c = 124) := by
  show [c] ∈ ([[36, 40], [36, 41], [40], [41], [44], [59], [58, 61], [58], [33], [64], [43], [45], [42], [47], [61], [126, 61], [60], [60, 61], [62], [62, 61], [60, 60], [62, 62], [126], [38], [124], [45, 62]] : List (List Int32)) ↔ _
  simp
set_option maxHeartbeats 4000000 in
set_option maxRecDepth 100000 in
theorem tM_readName (l : Launch) (I : Nat → Int32) (F : Nat → Nat → Int32) (T : Nat → Int32) (n : Nat) (hT : tpM T n I F) (p : Nat) (h15 : I 15 = nI p) (hp : p < n) : MM l yM_readName cM_readName 2 none ({ frames := 3, cells := 0, slots := 0, locals := 60 }) [] I F (vR (fun I' F' => rkP I F (scN T n p) I' F')) := by
  refine MM.mk (by decide) (fun _ => Nat.le_of_ble_eq_true rfl) ?_
  intro z D cA h a pg en s m below meth c ls S hr hlk hA hw hl
  have hx := S.1
  have hb := S.2.1
  have hl : lv_has ls 2 [(0, .ref h)] := hl
  have hn := hT.2.1
  obtain ⟨hK1, hK2⟩ := nEnd_le T (n - p) p
  have cont : ∀ (H : Heap) (locs : List Loc) (ls : Array Slot), sM z D cA h a (AM h a s.heap.size) s H locs I F → lv_has ls 2 [(0, .ref h), (1, .int (nI (nEnd T (n - p) p)))] → W pg l en ({ frames := 3, cells := 0, slots := 0, locals := 60 }) s m ([.ref h] : List Value).toArray below meth c H locs 0 0 (MQ below (QM z D cA h a s.heap.size (vR (fun I' F' => rkP I F (scN T n p) I' F'))) ([.ref h] : List Value).toArray s 0 0 (AM h a s.heap.size)) (F0 m 22 ls []) := by
    intro H locs ls hw hl
    refine lv_aload_n hx hb dM_readName_22 rfl (lv_at hl 0 rfl) ?_
    refine lv_iload_n hx hb dM_readName_23 rfl (lv_at hl 1 rfl) ?_
    refine pM19 S hw dM_readName_24 (fun H locs hw => ?_)
    refine lv_aload_n hx hb dM_readName_27 rfl (lv_at hl 0 rfl) ?_
    refine lv_iload_n hx hb dM_readName_28 rfl (lv_at hl 1 rfl) ?_
    refine lv_aload_n hx hb dM_readName_29 rfl (lv_at hl 0 rfl) ?_
    refine gM15 S hw dM_readName_30 ?_
    refine kz_top (y := nI p) h15 ?_
    refine lv_isub hx hb dM_readName_33 ?_
    refine kz_top (pk_sub hK1) ?_
    refine lv_bipush (v := 40) hx hb dM_readName_34 (by decide) ?_
    refine lv_icmp_le (tgt := 44) hx hb dM_readName_36 (by decide) (fun c36 => ?_) (fun c36 => ?_)
    · skip
      refine lv_iconst (v := 0) hx hb dM_readName_44 (by decide) ?_
      refine pM17 S hw dM_readName_45 (fun H locs hw => ?_)
      exact MM.vret S hr hlk hw dM_readName_48 ⟨rfl, by
        have h40 : ¬ 40 < nEnd T (n - p) p - p := Nat.not_lt.mpr ((nI_leI (a := nEnd T (n - p) p - p) (b := 40) (by omega) (by decide)).mp c36)
        by_cases hm : sliceT T p (nEnd T (n - p) p - p) ∈ wK 7
        · exact rkP.ok (k := 4) (by unfold scN; rw [if_neg h40, if_pos hm]) (by decide) (fun k a b c => by simp [upd, a, b, c]) rfl rfl (fun q => absurd q (by decide))
        · exact rkP.ok (k := 0) (by unfold scN; rw [if_neg h40, if_neg hm]) (by decide) (fun k a b c => by simp [upd, a, b, c]) rfl rfl (fun q => absurd q (by decide))⟩
    · skip
      refine lv_bipush (v := 6) hx hb dM_readName_39 (by decide) ?_
      refine lv_goto (tgt := 45) hx hb dM_readName_41 (by decide) ?_
      refine pM17 S hw dM_readName_45 (fun H locs hw => ?_)
      exact MM.vret S hr hlk hw dM_readName_48 ⟨rfl, rkP.bad (by unfold scN; rw [if_pos]; exact Nat.lt_of_not_le (fun q => c36 (nI_le q (by decide)))) (fun k a b c => by simp [upd, a, b, c]) rfl⟩
  have loop5 : ∀ (fu : Nat) (k : Nat) (H : Heap) (locs : List Loc) (ls : Array Slot), p ≤ k → k ≤ n → n + 1 ≤ k + fu → nEnd T (n - k) k = nEnd T (n - p) p → sM z D cA h a (AM h a s.heap.size) s H locs I F → lv_has ls 2 [(0, .ref h), (1, .int (nI k))] → W pg l en ({ frames := 3, cells := 0, slots := 0, locals := 60 }) s m ([.ref h] : List Value).toArray below meth c H locs 0 0 (MQ below (QM z D cA h a s.heap.size (vR (fun I' F' => rkP I F (scN T n p) I' F'))) ([.ref h] : List Value).toArray s 0 0 (AM h a s.heap.size)) (F0 m 5 ls []) := by
    intro fu
    induction fu with
    | zero => intro k  H locs ls hk1 hk2 hf hR hw hl; omega
    | succ fu ih =>
      intro k  H locs ls hk1 hk2 hf hR hw hl
      rcases Nat.lt_or_eq_of_le hk2 with hlt | hke
      · skip
        refine lv_aload_n hx hb dM_readName_5 rfl (lv_at hl 0 rfl) ?_
        refine lv_iload_n hx hb dM_readName_6 rfl (lv_at hl 1 rfl) ?_
        refine kcMi (rest := []) S kM_74 rfl (tM_see l I F T n hT k (by omega)) hw hA ⟨Nat.le_of_ble_eq_true rfl, Nat.le_of_ble_eq_true rfl⟩ rfl rfl ⟨Nat.zero_le _, Nat.zero_le _⟩ rfl hl.1 (Nat.le_of_ble_eq_true rfl) dM_readName_7 (fun r I' F' H locs hq hw => ?_)
        obtain ⟨hr1, hr2, hr3⟩ := hq
        rw [hr2, hr3] at hw
        subst hr1
        refine kz_top (see_in hlt) ?_
        refine kcMS (rest := []) S kM_117 (tM_isNamed l z none (T k)) hw hA arNone ⟨Nat.le_of_ble_eq_true rfl, Nat.le_of_ble_eq_true rfl⟩ rfl rfl ⟨Nat.zero_le _, Nat.zero_le _⟩ rfl hl.1 (Nat.le_of_ble_eq_true rfl) dM_readName_10 (fun r H locs hq hw => ?_)
        rcases bI hq with ⟨hB1, rfl⟩ | ⟨hB1, rfl⟩
        · skip
          refine lv_if_eq (tgt := 22) hx hb dM_readName_13 (by decide) (fun c13 => absurd c13 (by decide)) (fun c13 => ?_)
          refine lv_iinc (v := nI (k + 1)) (lv' := [(1, .int (nI (k + 1))), (0, .ref h)]) hx hb dM_readName_16 hl (k := 1) rfl (nI_1 k) (by decide) rfl (fun ls hl => ?_)
          refine lv_goto (tgt := 5) hx hb dM_readName_19 (by decide) ?_
          rw [nEnd_go hlt hB1] at hR
          exact ih (k + 1) H locs ls (by omega) (by omega) (by omega) hR hw (lv_sub hl [1, 0] rfl)
        · skip
          refine lv_if_eq (tgt := 22) hx hb dM_readName_13 (by decide) (fun c13 => ?_) (fun c13 => absurd c13 (by decide))
          rw [nEnd_st hlt hB1] at hR
          exact cont H locs ls hw (by rw [← hR]; exact lv_sub hl [0, 1] rfl)
      · skip
        refine lv_aload_n hx hb dM_readName_5 rfl (lv_at hl 0 rfl) ?_
        refine lv_iload_n hx hb dM_readName_6 rfl (lv_at hl 1 rfl) ?_
        refine kcMi (rest := []) S kM_74 rfl (tM_see l I F T n hT k (by omega)) hw hA ⟨Nat.le_of_ble_eq_true rfl, Nat.le_of_ble_eq_true rfl⟩ rfl rfl ⟨Nat.zero_le _, Nat.zero_le _⟩ rfl hl.1 (Nat.le_of_ble_eq_true rfl) dM_readName_7 (fun r I' F' H locs hq hw => ?_)
        obtain ⟨hr1, hr2, hr3⟩ := hq
        rw [hr2, hr3] at hw
        subst hr1
        refine kz_top (y := -1) (see_out (Nat.le_of_eq hke.symm)) ?_
        refine kcMS (rest := []) S kM_117 (tM_isNamed l z none (-1)) hw hA arNone ⟨Nat.le_of_ble_eq_true rfl, Nat.le_of_ble_eq_true rfl⟩ rfl rfl ⟨Nat.zero_le _, Nat.zero_le _⟩ rfl hl.1 (Nat.le_of_ble_eq_true rfl) dM_readName_10 (fun r H locs hq hw => ?_)
        rw [if_neg (by decide)] at hq
        subst hq
        refine lv_if_eq (tgt := 22) hx hb dM_readName_13 (by decide) (fun c13 => ?_) (fun c13 => absurd c13 (by decide))
        rw [nEnd_end (Nat.le_of_eq hke.symm)] at hR
        exact cont H locs ls hw (by rw [← hR]; exact lv_sub hl [0, 1] rfl)
  refine lv_aload_n hx hb dM_readName_0 rfl (lv_at hl 0 rfl) ?_
  refine gM15 S hw dM_readName_1 ?_
  refine kz_top (y := nI p) h15 ?_
  refine lv_istore_n (lv' := [(1, .int (nI p)), (0, .ref h)]) hx hb dM_readName_4 rfl hl (by decide) rfl (fun ls hl => ?_)
  exact loop5 (n - p + 1) p s.heap [] ls (Nat.le_refl _) (by omega) (by omega) rfl hw (lv_sub hl [1, 0] rfl)
set_option maxHeartbeats 4000000 in
set_option maxRecDepth 100000 in
theorem tM_readSign (l : Launch) (I : Nat → Int32) (F : Nat → Nat → Int32) (T : Nat → Int32) (n : Nat) (hT : tpM T n I F) (p : Nat) (h15 : I 15 = nI p) (hp : p < n) : MM l yM_readSign cM_readSign 5 none ({ frames := 1, cells := 0, slots := 0, locals := 21 }) [] I F (vR (fun I' F' => rkP I F (scG T n p) I' F')) := by
  refine MM.mk (by decide) (fun _ => Nat.le_of_ble_eq_true rfl) ?_
  intro z D cA h a pg en s m below meth c ls S hr hlk hA hw hl
  have hx := S.1
  have hb := S.2.1
  have hl : lv_has ls 5 [(0, .ref h)] := hl
  have hn := hT.2.1
  have cont1 : ∀ (H : Heap) (locs : List Loc) (ls : Array Slot), [T p, seeT T n (p + 1)] ∈ wK 3 → sM z D cA h a (AM h a s.heap.size) s H locs I F → lv_has ls 5 [(0, .ref h), (1, .int (T p)), (3, .int 1)] → W pg l en ({ frames := 1, cells := 0, slots := 0, locals := 21 }) s m ([.ref h] : List Value).toArray below meth c H locs 0 0 (MQ below (QM z D cA h a s.heap.size (vR (fun I' F' => rkP I F (scG T n p) I' F'))) ([.ref h] : List Value).toArray s 0 0 (AM h a s.heap.size)) (F0 m 116 ls []) := by
    intro H locs ls h2 hw hl
    refine lv_iload_n hx hb dM_readSign_116 rfl (lv_at hl 1 rfl) ?_
    refine lv_bipush (v := 40) hx hb dM_readSign_117 (by decide) ?_
    refine lv_icmp_eq (tgt := 218) hx hb dM_readSign_119 (by decide) (fun c119 => ?_) (fun c119 => ?_)
    · skip
      refine lv_iconst (v := 1) hx hb dM_readSign_218 (by decide) ?_
      refine lv_goto (tgt := 223) hx hb dM_readSign_219 (by decide) ?_
      refine lv_istore (lv' := [(4, .int 1), (0, .ref h), (1, .int (T p)), (3, .int 1)]) hx hb dM_readSign_223 hl (by decide) rfl (fun ls hl => ?_)
      refine lv_aload_n hx hb dM_readSign_225 rfl (lv_at hl 1 rfl) ?_
      refine lv_iload hx hb dM_readSign_226 (lv_at hl 0 rfl) ?_
      refine lv_if_ne (tgt := 235) hx hb dM_readSign_228 (by decide) (fun c228 => ?_) (fun c228 => absurd c228 (by decide))
      refine lv_iconst (v := 3) hx hb dM_readSign_235 (by decide) ?_
      refine lv_goto (tgt := 241) hx hb dM_readSign_236 (by decide) ?_
      refine pM17 S hw dM_readSign_241 (fun H locs hw => ?_)
      refine lv_aload_n hx hb dM_readSign_244 rfl (lv_at hl 1 rfl) ?_
      refine lv_iload_n hx hb dM_readSign_245 rfl (lv_at hl 3 rfl) ?_
      refine lv_if_eq (tgt := 258) hx hb dM_readSign_246 (by decide) (fun c246 => absurd c246 (by decide)) (fun c246 => ?_)
      refine lv_aload_n hx hb dM_readSign_249 rfl (lv_at hl 1 rfl) ?_
      refine gM15 S hw dM_readSign_250 ?_
      refine kz_top (y := nI p) h15 ?_
      refine lv_iconst (v := 2) hx hb dM_readSign_253 (by decide) ?_
      refine lv_iadd hx hb dM_readSign_254 ?_
      refine kz_top (y := nI (p + 2)) (nI_add p 2) ?_
      refine lv_goto (tgt := 264) hx hb dM_readSign_255 (by decide) ?_
      refine pM19 S hw dM_readSign_264 (fun H locs hw => ?_)
      exact MM.vret S hr hlk hw dM_readSign_267 ⟨rfl, rkP.ok (k := 3) (by unfold scG; rw [if_pos h2]) (by decide) (fun k a b c => by simp [upd, a, b, c]) rfl rfl (fun q => absurd q (by decide))⟩
    · skip
      refine lv_iload_n hx hb dM_readSign_122 rfl (lv_at hl 1 rfl) ?_
      refine lv_bipush (v := 41) hx hb dM_readSign_123 (by decide) ?_
      refine lv_icmp_eq (tgt := 218) hx hb dM_readSign_125 (by decide) (fun c125 => ?_) (fun c125 => ?_)
      · skip
        refine lv_iconst (v := 1) hx hb dM_readSign_218 (by decide) ?_
        refine lv_goto (tgt := 223) hx hb dM_readSign_219 (by decide) ?_
        refine lv_istore (lv' := [(4, .int 1), (0, .ref h), (1, .int (T p)), (3, .int 1)]) hx hb dM_readSign_223 hl (by decide) rfl (fun ls hl => ?_)
        refine lv_aload_n hx hb dM_readSign_225 rfl (lv_at hl 1 rfl) ?_
        refine lv_iload hx hb dM_readSign_226 (lv_at hl 0 rfl) ?_
        refine lv_if_ne (tgt := 235) hx hb dM_readSign_228 (by decide) (fun c228 => ?_) (fun c228 => absurd c228 (by decide))
        refine lv_iconst (v := 3) hx hb dM_readSign_235 (by decide) ?_
        refine lv_goto (tgt := 241) hx hb dM_readSign_236 (by decide) ?_
        refine pM17 S hw dM_readSign_241 (fun H locs hw => ?_)
        refine lv_aload_n hx hb dM_readSign_244 rfl (lv_at hl 1 rfl) ?_
        refine lv_iload_n hx hb dM_readSign_245 rfl (lv_at hl 3 rfl) ?_
        refine lv_if_eq (tgt := 258) hx hb dM_readSign_246 (by decide) (fun c246 => absurd c246 (by decide)) (fun c246 => ?_)
        refine lv_aload_n hx hb dM_readSign_249 rfl (lv_at hl 1 rfl) ?_
        refine gM15 S hw dM_readSign_250 ?_
        refine kz_top (y := nI p) h15 ?_
        refine lv_iconst (v := 2) hx hb dM_readSign_253 (by decide) ?_
        refine lv_iadd hx hb dM_readSign_254 ?_
        refine kz_top (y := nI (p + 2)) (nI_add p 2) ?_
        refine lv_goto (tgt := 264) hx hb dM_readSign_255 (by decide) ?_
        refine pM19 S hw dM_readSign_264 (fun H locs hw => ?_)
        exact MM.vret S hr hlk hw dM_readSign_267 ⟨rfl, rkP.ok (k := 3) (by unfold scG; rw [if_pos h2]) (by decide) (fun k a b c => by simp [upd, a, b, c]) rfl rfl (fun q => absurd q (by decide))⟩
      · skip
        refine lv_iload_n hx hb dM_readSign_128 rfl (lv_at hl 1 rfl) ?_
        refine lv_bipush (v := 44) hx hb dM_readSign_129 (by decide) ?_
        refine lv_icmp_eq (tgt := 218) hx hb dM_readSign_131 (by decide) (fun c131 => ?_) (fun c131 => ?_)
        · skip
          refine lv_iconst (v := 1) hx hb dM_readSign_218 (by decide) ?_
          refine lv_goto (tgt := 223) hx hb dM_readSign_219 (by decide) ?_
          refine lv_istore (lv' := [(4, .int 1), (0, .ref h), (1, .int (T p)), (3, .int 1)]) hx hb dM_readSign_223 hl (by decide) rfl (fun ls hl => ?_)
          refine lv_aload_n hx hb dM_readSign_225 rfl (lv_at hl 1 rfl) ?_
          refine lv_iload hx hb dM_readSign_226 (lv_at hl 0 rfl) ?_
          refine lv_if_ne (tgt := 235) hx hb dM_readSign_228 (by decide) (fun c228 => ?_) (fun c228 => absurd c228 (by decide))
          refine lv_iconst (v := 3) hx hb dM_readSign_235 (by decide) ?_
          refine lv_goto (tgt := 241) hx hb dM_readSign_236 (by decide) ?_
          refine pM17 S hw dM_readSign_241 (fun H locs hw => ?_)
          refine lv_aload_n hx hb dM_readSign_244 rfl (lv_at hl 1 rfl) ?_
          refine lv_iload_n hx hb dM_readSign_245 rfl (lv_at hl 3 rfl) ?_
          refine lv_if_eq (tgt := 258) hx hb dM_readSign_246 (by decide) (fun c246 => absurd c246 (by decide)) (fun c246 => ?_)
          refine lv_aload_n hx hb dM_readSign_249 rfl (lv_at hl 1 rfl) ?_
          refine gM15 S hw dM_readSign_250 ?_
          refine kz_top (y := nI p) h15 ?_
          refine lv_iconst (v := 2) hx hb dM_readSign_253 (by decide) ?_
          refine lv_iadd hx hb dM_readSign_254 ?_
          refine kz_top (y := nI (p + 2)) (nI_add p 2) ?_
          refine lv_goto (tgt := 264) hx hb dM_readSign_255 (by decide) ?_
          refine pM19 S hw dM_readSign_264 (fun H locs hw => ?_)
          exact MM.vret S hr hlk hw dM_readSign_267 ⟨rfl, rkP.ok (k := 3) (by unfold scG; rw [if_pos h2]) (by decide) (fun k a b c => by simp [upd, a, b, c]) rfl rfl (fun q => absurd q (by decide))⟩
        · skip
          refine lv_iload_n hx hb dM_readSign_134 rfl (lv_at hl 1 rfl) ?_
          refine lv_bipush (v := 59) hx hb dM_readSign_135 (by decide) ?_
          refine lv_icmp_eq (tgt := 218) hx hb dM_readSign_137 (by decide) (fun c137 => ?_) (fun c137 => ?_)
          · skip
            refine lv_iconst (v := 1) hx hb dM_readSign_218 (by decide) ?_
            refine lv_goto (tgt := 223) hx hb dM_readSign_219 (by decide) ?_
            refine lv_istore (lv' := [(4, .int 1), (0, .ref h), (1, .int (T p)), (3, .int 1)]) hx hb dM_readSign_223 hl (by decide) rfl (fun ls hl => ?_)
            refine lv_aload_n hx hb dM_readSign_225 rfl (lv_at hl 1 rfl) ?_
            refine lv_iload hx hb dM_readSign_226 (lv_at hl 0 rfl) ?_
            refine lv_if_ne (tgt := 235) hx hb dM_readSign_228 (by decide) (fun c228 => ?_) (fun c228 => absurd c228 (by decide))
            refine lv_iconst (v := 3) hx hb dM_readSign_235 (by decide) ?_
            refine lv_goto (tgt := 241) hx hb dM_readSign_236 (by decide) ?_
            refine pM17 S hw dM_readSign_241 (fun H locs hw => ?_)
            refine lv_aload_n hx hb dM_readSign_244 rfl (lv_at hl 1 rfl) ?_
            refine lv_iload_n hx hb dM_readSign_245 rfl (lv_at hl 3 rfl) ?_
            refine lv_if_eq (tgt := 258) hx hb dM_readSign_246 (by decide) (fun c246 => absurd c246 (by decide)) (fun c246 => ?_)
            refine lv_aload_n hx hb dM_readSign_249 rfl (lv_at hl 1 rfl) ?_
            refine gM15 S hw dM_readSign_250 ?_
            refine kz_top (y := nI p) h15 ?_
            refine lv_iconst (v := 2) hx hb dM_readSign_253 (by decide) ?_
            refine lv_iadd hx hb dM_readSign_254 ?_
            refine kz_top (y := nI (p + 2)) (nI_add p 2) ?_
            refine lv_goto (tgt := 264) hx hb dM_readSign_255 (by decide) ?_
            refine pM19 S hw dM_readSign_264 (fun H locs hw => ?_)
            exact MM.vret S hr hlk hw dM_readSign_267 ⟨rfl, rkP.ok (k := 3) (by unfold scG; rw [if_pos h2]) (by decide) (fun k a b c => by simp [upd, a, b, c]) rfl rfl (fun q => absurd q (by decide))⟩
          · skip
            refine lv_iload_n hx hb dM_readSign_140 rfl (lv_at hl 1 rfl) ?_
            refine lv_bipush (v := 58) hx hb dM_readSign_141 (by decide) ?_
            refine lv_icmp_eq (tgt := 218) hx hb dM_readSign_143 (by decide) (fun c143 => ?_) (fun c143 => ?_)
            · skip
              refine lv_iconst (v := 1) hx hb dM_readSign_218 (by decide) ?_
              refine lv_goto (tgt := 223) hx hb dM_readSign_219 (by decide) ?_
              refine lv_istore (lv' := [(4, .int 1), (0, .ref h), (1, .int (T p)), (3, .int 1)]) hx hb dM_readSign_223 hl (by decide) rfl (fun ls hl => ?_)
              refine lv_aload_n hx hb dM_readSign_225 rfl (lv_at hl 1 rfl) ?_
              refine lv_iload hx hb dM_readSign_226 (lv_at hl 0 rfl) ?_
              refine lv_if_ne (tgt := 235) hx hb dM_readSign_228 (by decide) (fun c228 => ?_) (fun c228 => absurd c228 (by decide))
              refine lv_iconst (v := 3) hx hb dM_readSign_235 (by decide) ?_
              refine lv_goto (tgt := 241) hx hb dM_readSign_236 (by decide) ?_
              refine pM17 S hw dM_readSign_241 (fun H locs hw => ?_)
              refine lv_aload_n hx hb dM_readSign_244 rfl (lv_at hl 1 rfl) ?_
              refine lv_iload_n hx hb dM_readSign_245 rfl (lv_at hl 3 rfl) ?_
              refine lv_if_eq (tgt := 258) hx hb dM_readSign_246 (by decide) (fun c246 => absurd c246 (by decide)) (fun c246 => ?_)
              refine lv_aload_n hx hb dM_readSign_249 rfl (lv_at hl 1 rfl) ?_
              refine gM15 S hw dM_readSign_250 ?_
              refine kz_top (y := nI p) h15 ?_
              refine lv_iconst (v := 2) hx hb dM_readSign_253 (by decide) ?_
              refine lv_iadd hx hb dM_readSign_254 ?_
              refine kz_top (y := nI (p + 2)) (nI_add p 2) ?_
              refine lv_goto (tgt := 264) hx hb dM_readSign_255 (by decide) ?_
              refine pM19 S hw dM_readSign_264 (fun H locs hw => ?_)
              exact MM.vret S hr hlk hw dM_readSign_267 ⟨rfl, rkP.ok (k := 3) (by unfold scG; rw [if_pos h2]) (by decide) (fun k a b c => by simp [upd, a, b, c]) rfl rfl (fun q => absurd q (by decide))⟩
            · skip
              refine lv_iload_n hx hb dM_readSign_146 rfl (lv_at hl 1 rfl) ?_
              refine lv_bipush (v := 33) hx hb dM_readSign_147 (by decide) ?_
              refine lv_icmp_eq (tgt := 218) hx hb dM_readSign_149 (by decide) (fun c149 => ?_) (fun c149 => ?_)
              · skip
                refine lv_iconst (v := 1) hx hb dM_readSign_218 (by decide) ?_
                refine lv_goto (tgt := 223) hx hb dM_readSign_219 (by decide) ?_
                refine lv_istore (lv' := [(4, .int 1), (0, .ref h), (1, .int (T p)), (3, .int 1)]) hx hb dM_readSign_223 hl (by decide) rfl (fun ls hl => ?_)
                refine lv_aload_n hx hb dM_readSign_225 rfl (lv_at hl 1 rfl) ?_
                refine lv_iload hx hb dM_readSign_226 (lv_at hl 0 rfl) ?_
                refine lv_if_ne (tgt := 235) hx hb dM_readSign_228 (by decide) (fun c228 => ?_) (fun c228 => absurd c228 (by decide))
                refine lv_iconst (v := 3) hx hb dM_readSign_235 (by decide) ?_
                refine lv_goto (tgt := 241) hx hb dM_readSign_236 (by decide) ?_
                refine pM17 S hw dM_readSign_241 (fun H locs hw => ?_)
                refine lv_aload_n hx hb dM_readSign_244 rfl (lv_at hl 1 rfl) ?_
                refine lv_iload_n hx hb dM_readSign_245 rfl (lv_at hl 3 rfl) ?_
                refine lv_if_eq (tgt := 258) hx hb dM_readSign_246 (by decide) (fun c246 => absurd c246 (by decide)) (fun c246 => ?_)
                refine lv_aload_n hx hb dM_readSign_249 rfl (lv_at hl 1 rfl) ?_
                refine gM15 S hw dM_readSign_250 ?_
                refine kz_top (y := nI p) h15 ?_
                refine lv_iconst (v := 2) hx hb dM_readSign_253 (by decide) ?_
                refine lv_iadd hx hb dM_readSign_254 ?_
                refine kz_top (y := nI (p + 2)) (nI_add p 2) ?_
                refine lv_goto (tgt := 264) hx hb dM_readSign_255 (by decide) ?_
                refine pM19 S hw dM_readSign_264 (fun H locs hw => ?_)
                exact MM.vret S hr hlk hw dM_readSign_267 ⟨rfl, rkP.ok (k := 3) (by unfold scG; rw [if_pos h2]) (by decide) (fun k a b c => by simp [upd, a, b, c]) rfl rfl (fun q => absurd q (by decide))⟩
              · skip
                refine lv_iload_n hx hb dM_readSign_152 rfl (lv_at hl 1 rfl) ?_
                refine lv_bipush (v := 64) hx hb dM_readSign_153 (by decide) ?_
                refine lv_icmp_eq (tgt := 218) hx hb dM_readSign_155 (by decide) (fun c155 => ?_) (fun c155 => ?_)
                · skip
                  refine lv_iconst (v := 1) hx hb dM_readSign_218 (by decide) ?_
                  refine lv_goto (tgt := 223) hx hb dM_readSign_219 (by decide) ?_
                  refine lv_istore (lv' := [(4, .int 1), (0, .ref h), (1, .int (T p)), (3, .int 1)]) hx hb dM_readSign_223 hl (by decide) rfl (fun ls hl => ?_)
                  refine lv_aload_n hx hb dM_readSign_225 rfl (lv_at hl 1 rfl) ?_
                  refine lv_iload hx hb dM_readSign_226 (lv_at hl 0 rfl) ?_
                  refine lv_if_ne (tgt := 235) hx hb dM_readSign_228 (by decide) (fun c228 => ?_) (fun c228 => absurd c228 (by decide))
                  refine lv_iconst (v := 3) hx hb dM_readSign_235 (by decide) ?_
                  refine lv_goto (tgt := 241) hx hb dM_readSign_236 (by decide) ?_
                  refine pM17 S hw dM_readSign_241 (fun H locs hw => ?_)
                  refine lv_aload_n hx hb dM_readSign_244 rfl (lv_at hl 1 rfl) ?_
                  refine lv_iload_n hx hb dM_readSign_245 rfl (lv_at hl 3 rfl) ?_
                  refine lv_if_eq (tgt := 258) hx hb dM_readSign_246 (by decide) (fun c246 => absurd c246 (by decide)) (fun c246 => ?_)
                  refine lv_aload_n hx hb dM_readSign_249 rfl (lv_at hl 1 rfl) ?_
                  refine gM15 S hw dM_readSign_250 ?_
                  refine kz_top (y := nI p) h15 ?_
                  refine lv_iconst (v := 2) hx hb dM_readSign_253 (by decide) ?_
                  refine lv_iadd hx hb dM_readSign_254 ?_
                  refine kz_top (y := nI (p + 2)) (nI_add p 2) ?_
                  refine lv_goto (tgt := 264) hx hb dM_readSign_255 (by decide) ?_
                  refine pM19 S hw dM_readSign_264 (fun H locs hw => ?_)
                  exact MM.vret S hr hlk hw dM_readSign_267 ⟨rfl, rkP.ok (k := 3) (by unfold scG; rw [if_pos h2]) (by decide) (fun k a b c => by simp [upd, a, b, c]) rfl rfl (fun q => absurd q (by decide))⟩
                · skip
                  refine lv_iload_n hx hb dM_readSign_158 rfl (lv_at hl 1 rfl) ?_
                  refine lv_bipush (v := 43) hx hb dM_readSign_159 (by decide) ?_
                  refine lv_icmp_eq (tgt := 218) hx hb dM_readSign_161 (by decide) (fun c161 => ?_) (fun c161 => ?_)
                  · skip
                    refine lv_iconst (v := 1) hx hb dM_readSign_218 (by decide) ?_
                    refine lv_goto (tgt := 223) hx hb dM_readSign_219 (by decide) ?_
                    refine lv_istore (lv' := [(4, .int 1), (0, .ref h), (1, .int (T p)), (3, .int 1)]) hx hb dM_readSign_223 hl (by decide) rfl (fun ls hl => ?_)
                    refine lv_aload_n hx hb dM_readSign_225 rfl (lv_at hl 1 rfl) ?_
                    refine lv_iload hx hb dM_readSign_226 (lv_at hl 0 rfl) ?_
                    refine lv_if_ne (tgt := 235) hx hb dM_readSign_228 (by decide) (fun c228 => ?_) (fun c228 => absurd c228 (by decide))
                    refine lv_iconst (v := 3) hx hb dM_readSign_235 (by decide) ?_
                    refine lv_goto (tgt := 241) hx hb dM_readSign_236 (by decide) ?_
                    refine pM17 S hw dM_readSign_241 (fun H locs hw => ?_)
                    refine lv_aload_n hx hb dM_readSign_244 rfl (lv_at hl 1 rfl) ?_
                    refine lv_iload_n hx hb dM_readSign_245 rfl (lv_at hl 3 rfl) ?_
                    refine lv_if_eq (tgt := 258) hx hb dM_readSign_246 (by decide) (fun c246 => absurd c246 (by decide)) (fun c246 => ?_)
                    refine lv_aload_n hx hb dM_readSign_249 rfl (lv_at hl 1 rfl) ?_
                    refine gM15 S hw dM_readSign_250 ?_
                    refine kz_top (y := nI p) h15 ?_
                    refine lv_iconst (v := 2) hx hb dM_readSign_253 (by decide) ?_
                    refine lv_iadd hx hb dM_readSign_254 ?_
                    refine kz_top (y := nI (p + 2)) (nI_add p 2) ?_
                    refine lv_goto (tgt := 264) hx hb dM_readSign_255 (by decide) ?_
                    refine pM19 S hw dM_readSign_264 (fun H locs hw => ?_)
                    exact MM.vret S hr hlk hw dM_readSign_267 ⟨rfl, rkP.ok (k := 3) (by unfold scG; rw [if_pos h2]) (by decide) (fun k a b c => by simp [upd, a, b, c]) rfl rfl (fun q => absurd q (by decide))⟩
                  · skip
                    refine lv_iload_n hx hb dM_readSign_164 rfl (lv_at hl 1 rfl) ?_
                    refine lv_bipush (v := 45) hx hb dM_readSign_165 (by decide) ?_
                    refine lv_icmp_eq (tgt := 218) hx hb dM_readSign_167 (by decide) (fun c167 => ?_) (fun c167 => ?_)
                    · skip
                      refine lv_iconst (v := 1) hx hb dM_readSign_218 (by decide) ?_
                      refine lv_goto (tgt := 223) hx hb dM_readSign_219 (by decide) ?_
                      refine lv_istore (lv' := [(4, .int 1), (0, .ref h), (1, .int (T p)), (3, .int 1)]) hx hb dM_readSign_223 hl (by decide) rfl (fun ls hl => ?_)
                      refine lv_aload_n hx hb dM_readSign_225 rfl (lv_at hl 1 rfl) ?_
                      refine lv_iload hx hb dM_readSign_226 (lv_at hl 0 rfl) ?_
                      refine lv_if_ne (tgt := 235) hx hb dM_readSign_228 (by decide) (fun c228 => ?_) (fun c228 => absurd c228 (by decide))
                      refine lv_iconst (v := 3) hx hb dM_readSign_235 (by decide) ?_
                      refine lv_goto (tgt := 241) hx hb dM_readSign_236 (by decide) ?_
                      refine pM17 S hw dM_readSign_241 (fun H locs hw => ?_)
                      refine lv_aload_n hx hb dM_readSign_244 rfl (lv_at hl 1 rfl) ?_
                      refine lv_iload_n hx hb dM_readSign_245 rfl (lv_at hl 3 rfl) ?_
                      refine lv_if_eq (tgt := 258) hx hb dM_readSign_246 (by decide) (fun c246 => absurd c246 (by decide)) (fun c246 => ?_)
                      refine lv_aload_n hx hb dM_readSign_249 rfl (lv_at hl 1 rfl) ?_
                      refine gM15 S hw dM_readSign_250 ?_
                      refine kz_top (y := nI p) h15 ?_
                      refine lv_iconst (v := 2) hx hb dM_readSign_253 (by decide) ?_
                      refine lv_iadd hx hb dM_readSign_254 ?_
                      refine kz_top (y := nI (p + 2)) (nI_add p 2) ?_
                      refine lv_goto (tgt := 264) hx hb dM_readSign_255 (by decide) ?_
                      refine pM19 S hw dM_readSign_264 (fun H locs hw => ?_)
                      exact MM.vret S hr hlk hw dM_readSign_267 ⟨rfl, rkP.ok (k := 3) (by unfold scG; rw [if_pos h2]) (by decide) (fun k a b c => by simp [upd, a, b, c]) rfl rfl (fun q => absurd q (by decide))⟩
                    · skip
                      refine lv_iload_n hx hb dM_readSign_170 rfl (lv_at hl 1 rfl) ?_
                      refine lv_bipush (v := 42) hx hb dM_readSign_171 (by decide) ?_
                      refine lv_icmp_eq (tgt := 218) hx hb dM_readSign_173 (by decide) (fun c173 => ?_) (fun c173 => ?_)
                      · skip
                        refine lv_iconst (v := 1) hx hb dM_readSign_218 (by decide) ?_
                        refine lv_goto (tgt := 223) hx hb dM_readSign_219 (by decide) ?_
                        refine lv_istore (lv' := [(4, .int 1), (0, .ref h), (1, .int (T p)), (3, .int 1)]) hx hb dM_readSign_223 hl (by decide) rfl (fun ls hl => ?_)
                        refine lv_aload_n hx hb dM_readSign_225 rfl (lv_at hl 1 rfl) ?_
                        refine lv_iload hx hb dM_readSign_226 (lv_at hl 0 rfl) ?_
                        refine lv_if_ne (tgt := 235) hx hb dM_readSign_228 (by decide) (fun c228 => ?_) (fun c228 => absurd c228 (by decide))
                        refine lv_iconst (v := 3) hx hb dM_readSign_235 (by decide) ?_
                        refine lv_goto (tgt := 241) hx hb dM_readSign_236 (by decide) ?_
                        refine pM17 S hw dM_readSign_241 (fun H locs hw => ?_)
                        refine lv_aload_n hx hb dM_readSign_244 rfl (lv_at hl 1 rfl) ?_
                        refine lv_iload_n hx hb dM_readSign_245 rfl (lv_at hl 3 rfl) ?_
                        refine lv_if_eq (tgt := 258) hx hb dM_readSign_246 (by decide) (fun c246 => absurd c246 (by decide)) (fun c246 => ?_)
                        refine lv_aload_n hx hb dM_readSign_249 rfl (lv_at hl 1 rfl) ?_
                        refine gM15 S hw dM_readSign_250 ?_
                        refine kz_top (y := nI p) h15 ?_
                        refine lv_iconst (v := 2) hx hb dM_readSign_253 (by decide) ?_
                        refine lv_iadd hx hb dM_readSign_254 ?_
                        refine kz_top (y := nI (p + 2)) (nI_add p 2) ?_
                        refine lv_goto (tgt := 264) hx hb dM_readSign_255 (by decide) ?_
                        refine pM19 S hw dM_readSign_264 (fun H locs hw => ?_)
                        exact MM.vret S hr hlk hw dM_readSign_267 ⟨rfl, rkP.ok (k := 3) (by unfold scG; rw [if_pos h2]) (by decide) (fun k a b c => by simp [upd, a, b, c]) rfl rfl (fun q => absurd q (by decide))⟩
                      · skip
                        refine lv_iload_n hx hb dM_readSign_176 rfl (lv_at hl 1 rfl) ?_
                        refine lv_bipush (v := 47) hx hb dM_readSign_177 (by decide) ?_
                        refine lv_icmp_eq (tgt := 218) hx hb dM_readSign_179 (by decide) (fun c179 => ?_) (fun c179 => ?_)
                        · skip
                          refine lv_iconst (v := 1) hx hb dM_readSign_218 (by decide) ?_
                          refine lv_goto (tgt := 223) hx hb dM_readSign_219 (by decide) ?_
                          refine lv_istore (lv' := [(4, .int 1), (0, .ref h), (1, .int (T p)), (3, .int 1)]) hx hb dM_readSign_223 hl (by decide) rfl (fun ls hl => ?_)
                          refine lv_aload_n hx hb dM_readSign_225 rfl (lv_at hl 1 rfl) ?_
                          refine lv_iload hx hb dM_readSign_226 (lv_at hl 0 rfl) ?_
                          refine lv_if_ne (tgt := 235) hx hb dM_readSign_228 (by decide) (fun c228 => ?_) (fun c228 => absurd c228 (by decide))
                          refine lv_iconst (v := 3) hx hb dM_readSign_235 (by decide) ?_
                          refine lv_goto (tgt := 241) hx hb dM_readSign_236 (by decide) ?_
                          refine pM17 S hw dM_readSign_241 (fun H locs hw => ?_)
                          refine lv_aload_n hx hb dM_readSign_244 rfl (lv_at hl 1 rfl) ?_
                          refine lv_iload_n hx hb dM_readSign_245 rfl (lv_at hl 3 rfl) ?_
                          refine lv_if_eq (tgt := 258) hx hb dM_readSign_246 (by decide) (fun c246 => absurd c246 (by decide)) (fun c246 => ?_)
                          refine lv_aload_n hx hb dM_readSign_249 rfl (lv_at hl 1 rfl) ?_
                          refine gM15 S hw dM_readSign_250 ?_
                          refine kz_top (y := nI p) h15 ?_
                          refine lv_iconst (v := 2) hx hb dM_readSign_253 (by decide) ?_
                          refine lv_iadd hx hb dM_readSign_254 ?_
                          refine kz_top (y := nI (p + 2)) (nI_add p 2) ?_
                          refine lv_goto (tgt := 264) hx hb dM_readSign_255 (by decide) ?_
                          refine pM19 S hw dM_readSign_264 (fun H locs hw => ?_)
                          exact MM.vret S hr hlk hw dM_readSign_267 ⟨rfl, rkP.ok (k := 3) (by unfold scG; rw [if_pos h2]) (by decide) (fun k a b c => by simp [upd, a, b, c]) rfl rfl (fun q => absurd q (by decide))⟩
                        · skip
                          refine lv_iload_n hx hb dM_readSign_182 rfl (lv_at hl 1 rfl) ?_
                          refine lv_bipush (v := 61) hx hb dM_readSign_183 (by decide) ?_
                          refine lv_icmp_eq (tgt := 218) hx hb dM_readSign_185 (by decide) (fun c185 => ?_) (fun c185 => ?_)
                          · skip
                            refine lv_iconst (v := 1) hx hb dM_readSign_218 (by decide) ?_
                            refine lv_goto (tgt := 223) hx hb dM_readSign_219 (by decide) ?_
                            refine lv_istore (lv' := [(4, .int 1), (0, .ref h), (1, .int (T p)), (3, .int 1)]) hx hb dM_readSign_223 hl (by decide) rfl (fun ls hl => ?_)
                            refine lv_aload_n hx hb dM_readSign_225 rfl (lv_at hl 1 rfl) ?_
                            refine lv_iload hx hb dM_readSign_226 (lv_at hl 0 rfl) ?_
                            refine lv_if_ne (tgt := 235) hx hb dM_readSign_228 (by decide) (fun c228 => ?_) (fun c228 => absurd c228 (by decide))
                            refine lv_iconst (v := 3) hx hb dM_readSign_235 (by decide) ?_
                            refine lv_goto (tgt := 241) hx hb dM_readSign_236 (by decide) ?_
                            refine pM17 S hw dM_readSign_241 (fun H locs hw => ?_)
                            refine lv_aload_n hx hb dM_readSign_244 rfl (lv_at hl 1 rfl) ?_
                            refine lv_iload_n hx hb dM_readSign_245 rfl (lv_at hl 3 rfl) ?_
                            refine lv_if_eq (tgt := 258) hx hb dM_readSign_246 (by decide) (fun c246 => absurd c246 (by decide)) (fun c246 => ?_)
                            refine lv_aload_n hx hb dM_readSign_249 rfl (lv_at hl 1 rfl) ?_
                            refine gM15 S hw dM_readSign_250 ?_
                            refine kz_top (y := nI p) h15 ?_
                            refine lv_iconst (v := 2) hx hb dM_readSign_253 (by decide) ?_
                            refine lv_iadd hx hb dM_readSign_254 ?_
                            refine kz_top (y := nI (p + 2)) (nI_add p 2) ?_
                            refine lv_goto (tgt := 264) hx hb dM_readSign_255 (by decide) ?_
                            refine pM19 S hw dM_readSign_264 (fun H locs hw => ?_)
                            exact MM.vret S hr hlk hw dM_readSign_267 ⟨rfl, rkP.ok (k := 3) (by unfold scG; rw [if_pos h2]) (by decide) (fun k a b c => by simp [upd, a, b, c]) rfl rfl (fun q => absurd q (by decide))⟩
                          · skip
                            refine lv_iload_n hx hb dM_readSign_188 rfl (lv_at hl 1 rfl) ?_
                            refine lv_bipush (v := 60) hx hb dM_readSign_189 (by decide) ?_
                            refine lv_icmp_eq (tgt := 218) hx hb dM_readSign_191 (by decide) (fun c191 => ?_) (fun c191 => ?_)
                            · skip
                              refine lv_iconst (v := 1) hx hb dM_readSign_218 (by decide) ?_
                              refine lv_goto (tgt := 223) hx hb dM_readSign_219 (by decide) ?_
                              refine lv_istore (lv' := [(4, .int 1), (0, .ref h), (1, .int (T p)), (3, .int 1)]) hx hb dM_readSign_223 hl (by decide) rfl (fun ls hl => ?_)
                              refine lv_aload_n hx hb dM_readSign_225 rfl (lv_at hl 1 rfl) ?_
                              refine lv_iload hx hb dM_readSign_226 (lv_at hl 0 rfl) ?_
                              refine lv_if_ne (tgt := 235) hx hb dM_readSign_228 (by decide) (fun c228 => ?_) (fun c228 => absurd c228 (by decide))
                              refine lv_iconst (v := 3) hx hb dM_readSign_235 (by decide) ?_
                              refine lv_goto (tgt := 241) hx hb dM_readSign_236 (by decide) ?_
                              refine pM17 S hw dM_readSign_241 (fun H locs hw => ?_)
                              refine lv_aload_n hx hb dM_readSign_244 rfl (lv_at hl 1 rfl) ?_
                              refine lv_iload_n hx hb dM_readSign_245 rfl (lv_at hl 3 rfl) ?_
                              refine lv_if_eq (tgt := 258) hx hb dM_readSign_246 (by decide) (fun c246 => absurd c246 (by decide)) (fun c246 => ?_)
                              refine lv_aload_n hx hb dM_readSign_249 rfl (lv_at hl 1 rfl) ?_
                              refine gM15 S hw dM_readSign_250 ?_
                              refine kz_top (y := nI p) h15 ?_
                              refine lv_iconst (v := 2) hx hb dM_readSign_253 (by decide) ?_
                              refine lv_iadd hx hb dM_readSign_254 ?_
                              refine kz_top (y := nI (p + 2)) (nI_add p 2) ?_
                              refine lv_goto (tgt := 264) hx hb dM_readSign_255 (by decide) ?_
                              refine pM19 S hw dM_readSign_264 (fun H locs hw => ?_)
                              exact MM.vret S hr hlk hw dM_readSign_267 ⟨rfl, rkP.ok (k := 3) (by unfold scG; rw [if_pos h2]) (by decide) (fun k a b c => by simp [upd, a, b, c]) rfl rfl (fun q => absurd q (by decide))⟩
                            · skip
                              refine lv_iload_n hx hb dM_readSign_194 rfl (lv_at hl 1 rfl) ?_
                              refine lv_bipush (v := 62) hx hb dM_readSign_195 (by decide) ?_
                              refine lv_icmp_eq (tgt := 218) hx hb dM_readSign_197 (by decide) (fun c197 => ?_) (fun c197 => ?_)
                              · skip
                                refine lv_iconst (v := 1) hx hb dM_readSign_218 (by decide) ?_
                                refine lv_goto (tgt := 223) hx hb dM_readSign_219 (by decide) ?_
                                refine lv_istore (lv' := [(4, .int 1), (0, .ref h), (1, .int (T p)), (3, .int 1)]) hx hb dM_readSign_223 hl (by decide) rfl (fun ls hl => ?_)
                                refine lv_aload_n hx hb dM_readSign_225 rfl (lv_at hl 1 rfl) ?_
                                refine lv_iload hx hb dM_readSign_226 (lv_at hl 0 rfl) ?_
                                refine lv_if_ne (tgt := 235) hx hb dM_readSign_228 (by decide) (fun c228 => ?_) (fun c228 => absurd c228 (by decide))
                                refine lv_iconst (v := 3) hx hb dM_readSign_235 (by decide) ?_
                                refine lv_goto (tgt := 241) hx hb dM_readSign_236 (by decide) ?_
                                refine pM17 S hw dM_readSign_241 (fun H locs hw => ?_)
                                refine lv_aload_n hx hb dM_readSign_244 rfl (lv_at hl 1 rfl) ?_
                                refine lv_iload_n hx hb dM_readSign_245 rfl (lv_at hl 3 rfl) ?_
                                refine lv_if_eq (tgt := 258) hx hb dM_readSign_246 (by decide) (fun c246 => absurd c246 (by decide)) (fun c246 => ?_)
                                refine lv_aload_n hx hb dM_readSign_249 rfl (lv_at hl 1 rfl) ?_
                                refine gM15 S hw dM_readSign_250 ?_
                                refine kz_top (y := nI p) h15 ?_
                                refine lv_iconst (v := 2) hx hb dM_readSign_253 (by decide) ?_
                                refine lv_iadd hx hb dM_readSign_254 ?_
                                refine kz_top (y := nI (p + 2)) (nI_add p 2) ?_
                                refine lv_goto (tgt := 264) hx hb dM_readSign_255 (by decide) ?_
                                refine pM19 S hw dM_readSign_264 (fun H locs hw => ?_)
                                exact MM.vret S hr hlk hw dM_readSign_267 ⟨rfl, rkP.ok (k := 3) (by unfold scG; rw [if_pos h2]) (by decide) (fun k a b c => by simp [upd, a, b, c]) rfl rfl (fun q => absurd q (by decide))⟩
                              · skip
                                refine lv_iload_n hx hb dM_readSign_200 rfl (lv_at hl 1 rfl) ?_
                                refine lv_bipush (v := 126) hx hb dM_readSign_201 (by decide) ?_
                                refine lv_icmp_eq (tgt := 218) hx hb dM_readSign_203 (by decide) (fun c203 => ?_) (fun c203 => ?_)
                                · skip
                                  refine lv_iconst (v := 1) hx hb dM_readSign_218 (by decide) ?_
                                  refine lv_goto (tgt := 223) hx hb dM_readSign_219 (by decide) ?_
                                  refine lv_istore (lv' := [(4, .int 1), (0, .ref h), (1, .int (T p)), (3, .int 1)]) hx hb dM_readSign_223 hl (by decide) rfl (fun ls hl => ?_)
                                  refine lv_aload_n hx hb dM_readSign_225 rfl (lv_at hl 1 rfl) ?_
                                  refine lv_iload hx hb dM_readSign_226 (lv_at hl 0 rfl) ?_
                                  refine lv_if_ne (tgt := 235) hx hb dM_readSign_228 (by decide) (fun c228 => ?_) (fun c228 => absurd c228 (by decide))
                                  refine lv_iconst (v := 3) hx hb dM_readSign_235 (by decide) ?_
                                  refine lv_goto (tgt := 241) hx hb dM_readSign_236 (by decide) ?_
                                  refine pM17 S hw dM_readSign_241 (fun H locs hw => ?_)
                                  refine lv_aload_n hx hb dM_readSign_244 rfl (lv_at hl 1 rfl) ?_
                                  refine lv_iload_n hx hb dM_readSign_245 rfl (lv_at hl 3 rfl) ?_
                                  refine lv_if_eq (tgt := 258) hx hb dM_readSign_246 (by decide) (fun c246 => absurd c246 (by decide)) (fun c246 => ?_)
                                  refine lv_aload_n hx hb dM_readSign_249 rfl (lv_at hl 1 rfl) ?_
                                  refine gM15 S hw dM_readSign_250 ?_
                                  refine kz_top (y := nI p) h15 ?_
                                  refine lv_iconst (v := 2) hx hb dM_readSign_253 (by decide) ?_
                                  refine lv_iadd hx hb dM_readSign_254 ?_
                                  refine kz_top (y := nI (p + 2)) (nI_add p 2) ?_
                                  refine lv_goto (tgt := 264) hx hb dM_readSign_255 (by decide) ?_
                                  refine pM19 S hw dM_readSign_264 (fun H locs hw => ?_)
                                  exact MM.vret S hr hlk hw dM_readSign_267 ⟨rfl, rkP.ok (k := 3) (by unfold scG; rw [if_pos h2]) (by decide) (fun k a b c => by simp [upd, a, b, c]) rfl rfl (fun q => absurd q (by decide))⟩
                                · skip
                                  refine lv_iload_n hx hb dM_readSign_206 rfl (lv_at hl 1 rfl) ?_
                                  refine lv_bipush (v := 38) hx hb dM_readSign_207 (by decide) ?_
                                  refine lv_icmp_eq (tgt := 218) hx hb dM_readSign_209 (by decide) (fun c209 => ?_) (fun c209 => ?_)
                                  · skip
                                    refine lv_iconst (v := 1) hx hb dM_readSign_218 (by decide) ?_
                                    refine lv_goto (tgt := 223) hx hb dM_readSign_219 (by decide) ?_
                                    refine lv_istore (lv' := [(4, .int 1), (0, .ref h), (1, .int (T p)), (3, .int 1)]) hx hb dM_readSign_223 hl (by decide) rfl (fun ls hl => ?_)
                                    refine lv_aload_n hx hb dM_readSign_225 rfl (lv_at hl 1 rfl) ?_
                                    refine lv_iload hx hb dM_readSign_226 (lv_at hl 0 rfl) ?_
                                    refine lv_if_ne (tgt := 235) hx hb dM_readSign_228 (by decide) (fun c228 => ?_) (fun c228 => absurd c228 (by decide))
                                    refine lv_iconst (v := 3) hx hb dM_readSign_235 (by decide) ?_
                                    refine lv_goto (tgt := 241) hx hb dM_readSign_236 (by decide) ?_
                                    refine pM17 S hw dM_readSign_241 (fun H locs hw => ?_)
                                    refine lv_aload_n hx hb dM_readSign_244 rfl (lv_at hl 1 rfl) ?_
                                    refine lv_iload_n hx hb dM_readSign_245 rfl (lv_at hl 3 rfl) ?_
                                    refine lv_if_eq (tgt := 258) hx hb dM_readSign_246 (by decide) (fun c246 => absurd c246 (by decide)) (fun c246 => ?_)
                                    refine lv_aload_n hx hb dM_readSign_249 rfl (lv_at hl 1 rfl) ?_
                                    refine gM15 S hw dM_readSign_250 ?_
                                    refine kz_top (y := nI p) h15 ?_
                                    refine lv_iconst (v := 2) hx hb dM_readSign_253 (by decide) ?_
                                    refine lv_iadd hx hb dM_readSign_254 ?_
                                    refine kz_top (y := nI (p + 2)) (nI_add p 2) ?_
                                    refine lv_goto (tgt := 264) hx hb dM_readSign_255 (by decide) ?_
                                    refine pM19 S hw dM_readSign_264 (fun H locs hw => ?_)
                                    exact MM.vret S hr hlk hw dM_readSign_267 ⟨rfl, rkP.ok (k := 3) (by unfold scG; rw [if_pos h2]) (by decide) (fun k a b c => by simp [upd, a, b, c]) rfl rfl (fun q => absurd q (by decide))⟩
                                  · skip
                                    refine lv_iload_n hx hb dM_readSign_212 rfl (lv_at hl 1 rfl) ?_
                                    refine lv_bipush (v := 124) hx hb dM_readSign_213 (by decide) ?_
                                    refine lv_icmp_ne (tgt := 222) hx hb dM_readSign_215 (by decide) (fun c215 => ?_) (fun c215 => ?_)
                                    · skip
                                      refine lv_iconst (v := 0) hx hb dM_readSign_222 (by decide) ?_
                                      refine lv_istore (lv' := [(4, .int 0), (0, .ref h), (1, .int (T p)), (3, .int 1)]) hx hb dM_readSign_223 hl (by decide) rfl (fun ls hl => ?_)
                                      refine lv_aload_n hx hb dM_readSign_225 rfl (lv_at hl 1 rfl) ?_
                                      refine lv_iload hx hb dM_readSign_226 (lv_at hl 0 rfl) ?_
                                      refine lv_if_ne (tgt := 235) hx hb dM_readSign_228 (by decide) (fun c228 => absurd c228 (by decide)) (fun c228 => ?_)
                                      refine lv_iload_n hx hb dM_readSign_231 rfl (lv_at hl 3 rfl) ?_
                                      refine lv_if_eq (tgt := 239) hx hb dM_readSign_232 (by decide) (fun c232 => absurd c232 (by decide)) (fun c232 => ?_)
                                      refine lv_iconst (v := 3) hx hb dM_readSign_235 (by decide) ?_
                                      refine lv_goto (tgt := 241) hx hb dM_readSign_236 (by decide) ?_
                                      refine pM17 S hw dM_readSign_241 (fun H locs hw => ?_)
                                      refine lv_aload_n hx hb dM_readSign_244 rfl (lv_at hl 1 rfl) ?_
                                      refine lv_iload_n hx hb dM_readSign_245 rfl (lv_at hl 3 rfl) ?_
                                      refine lv_if_eq (tgt := 258) hx hb dM_readSign_246 (by decide) (fun c246 => absurd c246 (by decide)) (fun c246 => ?_)
                                      refine lv_aload_n hx hb dM_readSign_249 rfl (lv_at hl 1 rfl) ?_
                                      refine gM15 S hw dM_readSign_250 ?_
                                      refine kz_top (y := nI p) h15 ?_
                                      refine lv_iconst (v := 2) hx hb dM_readSign_253 (by decide) ?_
                                      refine lv_iadd hx hb dM_readSign_254 ?_
                                      refine kz_top (y := nI (p + 2)) (nI_add p 2) ?_
                                      refine lv_goto (tgt := 264) hx hb dM_readSign_255 (by decide) ?_
                                      refine pM19 S hw dM_readSign_264 (fun H locs hw => ?_)
                                      exact MM.vret S hr hlk hw dM_readSign_267 ⟨rfl, rkP.ok (k := 3) (by unfold scG; rw [if_pos h2]) (by decide) (fun k a b c => by simp [upd, a, b, c]) rfl rfl (fun q => absurd q (by decide))⟩
                                    · skip
                                      refine lv_iconst (v := 1) hx hb dM_readSign_218 (by decide) ?_
                                      refine lv_goto (tgt := 223) hx hb dM_readSign_219 (by decide) ?_
                                      refine lv_istore (lv' := [(4, .int 1), (0, .ref h), (1, .int (T p)), (3, .int 1)]) hx hb dM_readSign_223 hl (by decide) rfl (fun ls hl => ?_)
                                      refine lv_aload_n hx hb dM_readSign_225 rfl (lv_at hl 1 rfl) ?_
                                      refine lv_iload hx hb dM_readSign_226 (lv_at hl 0 rfl) ?_
                                      refine lv_if_ne (tgt := 235) hx hb dM_readSign_228 (by decide) (fun c228 => ?_) (fun c228 => absurd c228 (by decide))
                                      refine lv_iconst (v := 3) hx hb dM_readSign_235 (by decide) ?_
                                      refine lv_goto (tgt := 241) hx hb dM_readSign_236 (by decide) ?_
                                      refine pM17 S hw dM_readSign_241 (fun H locs hw => ?_)
                                      refine lv_aload_n hx hb dM_readSign_244 rfl (lv_at hl 1 rfl) ?_
                                      refine lv_iload_n hx hb dM_readSign_245 rfl (lv_at hl 3 rfl) ?_
                                      refine lv_if_eq (tgt := 258) hx hb dM_readSign_246 (by decide) (fun c246 => absurd c246 (by decide)) (fun c246 => ?_)
                                      refine lv_aload_n hx hb dM_readSign_249 rfl (lv_at hl 1 rfl) ?_
                                      refine gM15 S hw dM_readSign_250 ?_
                                      refine kz_top (y := nI p) h15 ?_
                                      refine lv_iconst (v := 2) hx hb dM_readSign_253 (by decide) ?_
                                      refine lv_iadd hx hb dM_readSign_254 ?_
                                      refine kz_top (y := nI (p + 2)) (nI_add p 2) ?_
                                      refine lv_goto (tgt := 264) hx hb dM_readSign_255 (by decide) ?_
                                      refine pM19 S hw dM_readSign_264 (fun H locs hw => ?_)
                                      exact MM.vret S hr hlk hw dM_readSign_267 ⟨rfl, rkP.ok (k := 3) (by unfold scG; rw [if_pos h2]) (by decide) (fun k a b c => by simp [upd, a, b, c]) rfl rfl (fun q => absurd q (by decide))⟩
  have cont0 : ∀ (H : Heap) (locs : List Loc) (ls : Array Slot), ¬ [T p, seeT T n (p + 1)] ∈ wK 3 → sM z D cA h a (AM h a s.heap.size) s H locs I F → lv_has ls 5 [(0, .ref h), (1, .int (T p)), (3, .int 0)] → W pg l en ({ frames := 1, cells := 0, slots := 0, locals := 21 }) s m ([.ref h] : List Value).toArray below meth c H locs 0 0 (MQ below (QM z D cA h a s.heap.size (vR (fun I' F' => rkP I F (scG T n p) I' F'))) ([.ref h] : List Value).toArray s 0 0 (AM h a s.heap.size)) (F0 m 116 ls []) := by
    intro H locs ls h2 hw hl
    refine lv_iload_n hx hb dM_readSign_116 rfl (lv_at hl 1 rfl) ?_
    refine lv_bipush (v := 40) hx hb dM_readSign_117 (by decide) ?_
    refine lv_icmp_eq (tgt := 218) hx hb dM_readSign_119 (by decide) (fun c119 => ?_) (fun c119 => ?_)
    · skip
      refine lv_iconst (v := 1) hx hb dM_readSign_218 (by decide) ?_
      refine lv_goto (tgt := 223) hx hb dM_readSign_219 (by decide) ?_
      refine lv_istore (lv' := [(4, .int 1), (0, .ref h), (1, .int (T p)), (3, .int 0)]) hx hb dM_readSign_223 hl (by decide) rfl (fun ls hl => ?_)
      refine lv_aload_n hx hb dM_readSign_225 rfl (lv_at hl 1 rfl) ?_
      refine lv_iload hx hb dM_readSign_226 (lv_at hl 0 rfl) ?_
      refine lv_if_ne (tgt := 235) hx hb dM_readSign_228 (by decide) (fun c228 => ?_) (fun c228 => absurd c228 (by decide))
      refine lv_iconst (v := 3) hx hb dM_readSign_235 (by decide) ?_
      refine lv_goto (tgt := 241) hx hb dM_readSign_236 (by decide) ?_
      refine pM17 S hw dM_readSign_241 (fun H locs hw => ?_)
      refine lv_aload_n hx hb dM_readSign_244 rfl (lv_at hl 1 rfl) ?_
      refine lv_iload_n hx hb dM_readSign_245 rfl (lv_at hl 3 rfl) ?_
      refine lv_if_eq (tgt := 258) hx hb dM_readSign_246 (by decide) (fun c246 => ?_) (fun c246 => absurd c246 (by decide))
      refine lv_aload_n hx hb dM_readSign_258 rfl (lv_at hl 1 rfl) ?_
      refine gM15 S hw dM_readSign_259 ?_
      refine kz_top (y := nI p) h15 ?_
      refine lv_iconst (v := 1) hx hb dM_readSign_262 (by decide) ?_
      refine lv_iadd hx hb dM_readSign_263 ?_
      refine kz_top (y := nI (p + 1)) (nI_add p 1) ?_
      refine pM19 S hw dM_readSign_264 (fun H locs hw => ?_)
      exact MM.vret S hr hlk hw dM_readSign_267 ⟨rfl, rkP.ok (k := 3) (by unfold scG; rw [if_neg h2, if_pos ((one_iff _).mpr (by simp [c119]))]) (by decide) (fun k a b c => by simp [upd, a, b, c]) rfl rfl (fun q => absurd q (by decide))⟩
    · skip
      refine lv_iload_n hx hb dM_readSign_122 rfl (lv_at hl 1 rfl) ?_
      refine lv_bipush (v := 41) hx hb dM_readSign_123 (by decide) ?_
      refine lv_icmp_eq (tgt := 218) hx hb dM_readSign_125 (by decide) (fun c125 => ?_) (fun c125 => ?_)
      · skip
        refine lv_iconst (v := 1) hx hb dM_readSign_218 (by decide) ?_
        refine lv_goto (tgt := 223) hx hb dM_readSign_219 (by decide) ?_
        refine lv_istore (lv' := [(4, .int 1), (0, .ref h), (1, .int (T p)), (3, .int 0)]) hx hb dM_readSign_223 hl (by decide) rfl (fun ls hl => ?_)
        refine lv_aload_n hx hb dM_readSign_225 rfl (lv_at hl 1 rfl) ?_
        refine lv_iload hx hb dM_readSign_226 (lv_at hl 0 rfl) ?_
        refine lv_if_ne (tgt := 235) hx hb dM_readSign_228 (by decide) (fun c228 => ?_) (fun c228 => absurd c228 (by decide))
        refine lv_iconst (v := 3) hx hb dM_readSign_235 (by decide) ?_
        refine lv_goto (tgt := 241) hx hb dM_readSign_236 (by decide) ?_
        refine pM17 S hw dM_readSign_241 (fun H locs hw => ?_)
        refine lv_aload_n hx hb dM_readSign_244 rfl (lv_at hl 1 rfl) ?_
        refine lv_iload_n hx hb dM_readSign_245 rfl (lv_at hl 3 rfl) ?_
        refine lv_if_eq (tgt := 258) hx hb dM_readSign_246 (by decide) (fun c246 => ?_) (fun c246 => absurd c246 (by decide))
        refine lv_aload_n hx hb dM_readSign_258 rfl (lv_at hl 1 rfl) ?_
        refine gM15 S hw dM_readSign_259 ?_
        refine kz_top (y := nI p) h15 ?_
        refine lv_iconst (v := 1) hx hb dM_readSign_262 (by decide) ?_
        refine lv_iadd hx hb dM_readSign_263 ?_
        refine kz_top (y := nI (p + 1)) (nI_add p 1) ?_
        refine pM19 S hw dM_readSign_264 (fun H locs hw => ?_)
        exact MM.vret S hr hlk hw dM_readSign_267 ⟨rfl, rkP.ok (k := 3) (by unfold scG; rw [if_neg h2, if_pos ((one_iff _).mpr (by simp [c125]))]) (by decide) (fun k a b c => by simp [upd, a, b, c]) rfl rfl (fun q => absurd q (by decide))⟩
      · skip
        refine lv_iload_n hx hb dM_readSign_128 rfl (lv_at hl 1 rfl) ?_
        refine lv_bipush (v := 44) hx hb dM_readSign_129 (by decide) ?_
        refine lv_icmp_eq (tgt := 218) hx hb dM_readSign_131 (by decide) (fun c131 => ?_) (fun c131 => ?_)
        · skip
          refine lv_iconst (v := 1) hx hb dM_readSign_218 (by decide) ?_
          refine lv_goto (tgt := 223) hx hb dM_readSign_219 (by decide) ?_
          refine lv_istore (lv' := [(4, .int 1), (0, .ref h), (1, .int (T p)), (3, .int 0)]) hx hb dM_readSign_223 hl (by decide) rfl (fun ls hl => ?_)
          refine lv_aload_n hx hb dM_readSign_225 rfl (lv_at hl 1 rfl) ?_
          refine lv_iload hx hb dM_readSign_226 (lv_at hl 0 rfl) ?_
          refine lv_if_ne (tgt := 235) hx hb dM_readSign_228 (by decide) (fun c228 => ?_) (fun c228 => absurd c228 (by decide))
          refine lv_iconst (v := 3) hx hb dM_readSign_235 (by decide) ?_
          refine lv_goto (tgt := 241) hx hb dM_readSign_236 (by decide) ?_
          refine pM17 S hw dM_readSign_241 (fun H locs hw => ?_)
          refine lv_aload_n hx hb dM_readSign_244 rfl (lv_at hl 1 rfl) ?_
          refine lv_iload_n hx hb dM_readSign_245 rfl (lv_at hl 3 rfl) ?_
          refine lv_if_eq (tgt := 258) hx hb dM_readSign_246 (by decide) (fun c246 => ?_) (fun c246 => absurd c246 (by decide))
          refine lv_aload_n hx hb dM_readSign_258 rfl (lv_at hl 1 rfl) ?_
          refine gM15 S hw dM_readSign_259 ?_
          refine kz_top (y := nI p) h15 ?_
          refine lv_iconst (v := 1) hx hb dM_readSign_262 (by decide) ?_
          refine lv_iadd hx hb dM_readSign_263 ?_
          refine kz_top (y := nI (p + 1)) (nI_add p 1) ?_
          refine pM19 S hw dM_readSign_264 (fun H locs hw => ?_)
          exact MM.vret S hr hlk hw dM_readSign_267 ⟨rfl, rkP.ok (k := 3) (by unfold scG; rw [if_neg h2, if_pos ((one_iff _).mpr (by simp [c131]))]) (by decide) (fun k a b c => by simp [upd, a, b, c]) rfl rfl (fun q => absurd q (by decide))⟩
        · skip
          refine lv_iload_n hx hb dM_readSign_134 rfl (lv_at hl 1 rfl) ?_
          refine lv_bipush (v := 59) hx hb dM_readSign_135 (by decide) ?_
          refine lv_icmp_eq (tgt := 218) hx hb dM_readSign_137 (by decide) (fun c137 => ?_) (fun c137 => ?_)
          · skip
            refine lv_iconst (v := 1) hx hb dM_readSign_218 (by decide) ?_
            refine lv_goto (tgt := 223) hx hb dM_readSign_219 (by decide) ?_
            refine lv_istore (lv' := [(4, .int 1), (0, .ref h), (1, .int (T p)), (3, .int 0)]) hx hb dM_readSign_223 hl (by decide) rfl (fun ls hl => ?_)
            refine lv_aload_n hx hb dM_readSign_225 rfl (lv_at hl 1 rfl) ?_
            refine lv_iload hx hb dM_readSign_226 (lv_at hl 0 rfl) ?_
            refine lv_if_ne (tgt := 235) hx hb dM_readSign_228 (by decide) (fun c228 => ?_) (fun c228 => absurd c228 (by decide))
            refine lv_iconst (v := 3) hx hb dM_readSign_235 (by decide) ?_
            refine lv_goto (tgt := 241) hx hb dM_readSign_236 (by decide) ?_
            refine pM17 S hw dM_readSign_241 (fun H locs hw => ?_)
            refine lv_aload_n hx hb dM_readSign_244 rfl (lv_at hl 1 rfl) ?_
            refine lv_iload_n hx hb dM_readSign_245 rfl (lv_at hl 3 rfl) ?_
            refine lv_if_eq (tgt := 258) hx hb dM_readSign_246 (by decide) (fun c246 => ?_) (fun c246 => absurd c246 (by decide))
            refine lv_aload_n hx hb dM_readSign_258 rfl (lv_at hl 1 rfl) ?_
            refine gM15 S hw dM_readSign_259 ?_
            refine kz_top (y := nI p) h15 ?_
            refine lv_iconst (v := 1) hx hb dM_readSign_262 (by decide) ?_
            refine lv_iadd hx hb dM_readSign_263 ?_
            refine kz_top (y := nI (p + 1)) (nI_add p 1) ?_
            refine pM19 S hw dM_readSign_264 (fun H locs hw => ?_)
            exact MM.vret S hr hlk hw dM_readSign_267 ⟨rfl, rkP.ok (k := 3) (by unfold scG; rw [if_neg h2, if_pos ((one_iff _).mpr (by simp [c137]))]) (by decide) (fun k a b c => by simp [upd, a, b, c]) rfl rfl (fun q => absurd q (by decide))⟩
          · skip
            refine lv_iload_n hx hb dM_readSign_140 rfl (lv_at hl 1 rfl) ?_
            refine lv_bipush (v := 58) hx hb dM_readSign_141 (by decide) ?_
            refine lv_icmp_eq (tgt := 218) hx hb dM_readSign_143 (by decide) (fun c143 => ?_) (fun c143 => ?_)
            · skip
              refine lv_iconst (v := 1) hx hb dM_readSign_218 (by decide) ?_
              refine lv_goto (tgt := 223) hx hb dM_readSign_219 (by decide) ?_
              refine lv_istore (lv' := [(4, .int 1), (0, .ref h), (1, .int (T p)), (3, .int 0)]) hx hb dM_readSign_223 hl (by decide) rfl (fun ls hl => ?_)
              refine lv_aload_n hx hb dM_readSign_225 rfl (lv_at hl 1 rfl) ?_
              refine lv_iload hx hb dM_readSign_226 (lv_at hl 0 rfl) ?_
              refine lv_if_ne (tgt := 235) hx hb dM_readSign_228 (by decide) (fun c228 => ?_) (fun c228 => absurd c228 (by decide))
              refine lv_iconst (v := 3) hx hb dM_readSign_235 (by decide) ?_
              refine lv_goto (tgt := 241) hx hb dM_readSign_236 (by decide) ?_
              refine pM17 S hw dM_readSign_241 (fun H locs hw => ?_)
              refine lv_aload_n hx hb dM_readSign_244 rfl (lv_at hl 1 rfl) ?_
              refine lv_iload_n hx hb dM_readSign_245 rfl (lv_at hl 3 rfl) ?_
              refine lv_if_eq (tgt := 258) hx hb dM_readSign_246 (by decide) (fun c246 => ?_) (fun c246 => absurd c246 (by decide))
              refine lv_aload_n hx hb dM_readSign_258 rfl (lv_at hl 1 rfl) ?_
              refine gM15 S hw dM_readSign_259 ?_
              refine kz_top (y := nI p) h15 ?_
              refine lv_iconst (v := 1) hx hb dM_readSign_262 (by decide) ?_
              refine lv_iadd hx hb dM_readSign_263 ?_
              refine kz_top (y := nI (p + 1)) (nI_add p 1) ?_
              refine pM19 S hw dM_readSign_264 (fun H locs hw => ?_)
              exact MM.vret S hr hlk hw dM_readSign_267 ⟨rfl, rkP.ok (k := 3) (by unfold scG; rw [if_neg h2, if_pos ((one_iff _).mpr (by simp [c143]))]) (by decide) (fun k a b c => by simp [upd, a, b, c]) rfl rfl (fun q => absurd q (by decide))⟩
            · skip
              refine lv_iload_n hx hb dM_readSign_146 rfl (lv_at hl 1 rfl) ?_
              refine lv_bipush (v := 33) hx hb dM_readSign_147 (by decide) ?_
              refine lv_icmp_eq (tgt := 218) hx hb dM_readSign_149 (by decide) (fun c149 => ?_) (fun c149 => ?_)
              · skip
                refine lv_iconst (v := 1) hx hb dM_readSign_218 (by decide) ?_
                refine lv_goto (tgt := 223) hx hb dM_readSign_219 (by decide) ?_
                refine lv_istore (lv' := [(4, .int 1), (0, .ref h), (1, .int (T p)), (3, .int 0)]) hx hb dM_readSign_223 hl (by decide) rfl (fun ls hl => ?_)
                refine lv_aload_n hx hb dM_readSign_225 rfl (lv_at hl 1 rfl) ?_
                refine lv_iload hx hb dM_readSign_226 (lv_at hl 0 rfl) ?_
                refine lv_if_ne (tgt := 235) hx hb dM_readSign_228 (by decide) (fun c228 => ?_) (fun c228 => absurd c228 (by decide))
                refine lv_iconst (v := 3) hx hb dM_readSign_235 (by decide) ?_
                refine lv_goto (tgt := 241) hx hb dM_readSign_236 (by decide) ?_
                refine pM17 S hw dM_readSign_241 (fun H locs hw => ?_)
                refine lv_aload_n hx hb dM_readSign_244 rfl (lv_at hl 1 rfl) ?_
                refine lv_iload_n hx hb dM_readSign_245 rfl (lv_at hl 3 rfl) ?_
                refine lv_if_eq (tgt := 258) hx hb dM_readSign_246 (by decide) (fun c246 => ?_) (fun c246 => absurd c246 (by decide))
                refine lv_aload_n hx hb dM_readSign_258 rfl (lv_at hl 1 rfl) ?_
                refine gM15 S hw dM_readSign_259 ?_
                refine kz_top (y := nI p) h15 ?_
                refine lv_iconst (v := 1) hx hb dM_readSign_262 (by decide) ?_
                refine lv_iadd hx hb dM_readSign_263 ?_
                refine kz_top (y := nI (p + 1)) (nI_add p 1) ?_
                refine pM19 S hw dM_readSign_264 (fun H locs hw => ?_)
                exact MM.vret S hr hlk hw dM_readSign_267 ⟨rfl, rkP.ok (k := 3) (by unfold scG; rw [if_neg h2, if_pos ((one_iff _).mpr (by simp [c149]))]) (by decide) (fun k a b c => by simp [upd, a, b, c]) rfl rfl (fun q => absurd q (by decide))⟩
              · skip
                refine lv_iload_n hx hb dM_readSign_152 rfl (lv_at hl 1 rfl) ?_
                refine lv_bipush (v := 64) hx hb dM_readSign_153 (by decide) ?_
                refine lv_icmp_eq (tgt := 218) hx hb dM_readSign_155 (by decide) (fun c155 => ?_) (fun c155 => ?_)
                · skip
                  refine lv_iconst (v := 1) hx hb dM_readSign_218 (by decide) ?_
                  refine lv_goto (tgt := 223) hx hb dM_readSign_219 (by decide) ?_
                  refine lv_istore (lv' := [(4, .int 1), (0, .ref h), (1, .int (T p)), (3, .int 0)]) hx hb dM_readSign_223 hl (by decide) rfl (fun ls hl => ?_)
                  refine lv_aload_n hx hb dM_readSign_225 rfl (lv_at hl 1 rfl) ?_
                  refine lv_iload hx hb dM_readSign_226 (lv_at hl 0 rfl) ?_
                  refine lv_if_ne (tgt := 235) hx hb dM_readSign_228 (by decide) (fun c228 => ?_) (fun c228 => absurd c228 (by decide))
                  refine lv_iconst (v := 3) hx hb dM_readSign_235 (by decide) ?_
                  refine lv_goto (tgt := 241) hx hb dM_readSign_236 (by decide) ?_
                  refine pM17 S hw dM_readSign_241 (fun H locs hw => ?_)
                  refine lv_aload_n hx hb dM_readSign_244 rfl (lv_at hl 1 rfl) ?_
                  refine lv_iload_n hx hb dM_readSign_245 rfl (lv_at hl 3 rfl) ?_
                  refine lv_if_eq (tgt := 258) hx hb dM_readSign_246 (by decide) (fun c246 => ?_) (fun c246 => absurd c246 (by decide))
                  refine lv_aload_n hx hb dM_readSign_258 rfl (lv_at hl 1 rfl) ?_
                  refine gM15 S hw dM_readSign_259 ?_
                  refine kz_top (y := nI p) h15 ?_
                  refine lv_iconst (v := 1) hx hb dM_readSign_262 (by decide) ?_
                  refine lv_iadd hx hb dM_readSign_263 ?_
                  refine kz_top (y := nI (p + 1)) (nI_add p 1) ?_
                  refine pM19 S hw dM_readSign_264 (fun H locs hw => ?_)
                  exact MM.vret S hr hlk hw dM_readSign_267 ⟨rfl, rkP.ok (k := 3) (by unfold scG; rw [if_neg h2, if_pos ((one_iff _).mpr (by simp [c155]))]) (by decide) (fun k a b c => by simp [upd, a, b, c]) rfl rfl (fun q => absurd q (by decide))⟩
                · skip
                  refine lv_iload_n hx hb dM_readSign_158 rfl (lv_at hl 1 rfl) ?_
                  refine lv_bipush (v := 43) hx hb dM_readSign_159 (by decide) ?_
                  refine lv_icmp_eq (tgt := 218) hx hb dM_readSign_161 (by decide) (fun c161 => ?_) (fun c161 => ?_)
                  · skip
                    refine lv_iconst (v := 1) hx hb dM_readSign_218 (by decide) ?_
                    refine lv_goto (tgt := 223) hx hb dM_readSign_219 (by decide) ?_
                    refine lv_istore (lv' := [(4, .int 1), (0, .ref h), (1, .int (T p)), (3, .int 0)]) hx hb dM_readSign_223 hl (by decide) rfl (fun ls hl => ?_)
                    refine lv_aload_n hx hb dM_readSign_225 rfl (lv_at hl 1 rfl) ?_
                    refine lv_iload hx hb dM_readSign_226 (lv_at hl 0 rfl) ?_
                    refine lv_if_ne (tgt := 235) hx hb dM_readSign_228 (by decide) (fun c228 => ?_) (fun c228 => absurd c228 (by decide))
                    refine lv_iconst (v := 3) hx hb dM_readSign_235 (by decide) ?_
                    refine lv_goto (tgt := 241) hx hb dM_readSign_236 (by decide) ?_
                    refine pM17 S hw dM_readSign_241 (fun H locs hw => ?_)
                    refine lv_aload_n hx hb dM_readSign_244 rfl (lv_at hl 1 rfl) ?_
                    refine lv_iload_n hx hb dM_readSign_245 rfl (lv_at hl 3 rfl) ?_
                    refine lv_if_eq (tgt := 258) hx hb dM_readSign_246 (by decide) (fun c246 => ?_) (fun c246 => absurd c246 (by decide))
                    refine lv_aload_n hx hb dM_readSign_258 rfl (lv_at hl 1 rfl) ?_
                    refine gM15 S hw dM_readSign_259 ?_
                    refine kz_top (y := nI p) h15 ?_
                    refine lv_iconst (v := 1) hx hb dM_readSign_262 (by decide) ?_
                    refine lv_iadd hx hb dM_readSign_263 ?_
                    refine kz_top (y := nI (p + 1)) (nI_add p 1) ?_
                    refine pM19 S hw dM_readSign_264 (fun H locs hw => ?_)
                    exact MM.vret S hr hlk hw dM_readSign_267 ⟨rfl, rkP.ok (k := 3) (by unfold scG; rw [if_neg h2, if_pos ((one_iff _).mpr (by simp [c161]))]) (by decide) (fun k a b c => by simp [upd, a, b, c]) rfl rfl (fun q => absurd q (by decide))⟩
                  · skip
                    refine lv_iload_n hx hb dM_readSign_164 rfl (lv_at hl 1 rfl) ?_
                    refine lv_bipush (v := 45) hx hb dM_readSign_165 (by decide) ?_
                    refine lv_icmp_eq (tgt := 218) hx hb dM_readSign_167 (by decide) (fun c167 => ?_) (fun c167 => ?_)
                    · skip
                      refine lv_iconst (v := 1) hx hb dM_readSign_218 (by decide) ?_
                      refine lv_goto (tgt := 223) hx hb dM_readSign_219 (by decide) ?_
                      refine lv_istore (lv' := [(4, .int 1), (0, .ref h), (1, .int (T p)), (3, .int 0)]) hx hb dM_readSign_223 hl (by decide) rfl (fun ls hl => ?_)
                      refine lv_aload_n hx hb dM_readSign_225 rfl (lv_at hl 1 rfl) ?_
                      refine lv_iload hx hb dM_readSign_226 (lv_at hl 0 rfl) ?_
                      refine lv_if_ne (tgt := 235) hx hb dM_readSign_228 (by decide) (fun c228 => ?_) (fun c228 => absurd c228 (by decide))
                      refine lv_iconst (v := 3) hx hb dM_readSign_235 (by decide) ?_
                      refine lv_goto (tgt := 241) hx hb dM_readSign_236 (by decide) ?_
                      refine pM17 S hw dM_readSign_241 (fun H locs hw => ?_)
                      refine lv_aload_n hx hb dM_readSign_244 rfl (lv_at hl 1 rfl) ?_
                      refine lv_iload_n hx hb dM_readSign_245 rfl (lv_at hl 3 rfl) ?_
                      refine lv_if_eq (tgt := 258) hx hb dM_readSign_246 (by decide) (fun c246 => ?_) (fun c246 => absurd c246 (by decide))
                      refine lv_aload_n hx hb dM_readSign_258 rfl (lv_at hl 1 rfl) ?_
                      refine gM15 S hw dM_readSign_259 ?_
                      refine kz_top (y := nI p) h15 ?_
                      refine lv_iconst (v := 1) hx hb dM_readSign_262 (by decide) ?_
                      refine lv_iadd hx hb dM_readSign_263 ?_
                      refine kz_top (y := nI (p + 1)) (nI_add p 1) ?_
                      refine pM19 S hw dM_readSign_264 (fun H locs hw => ?_)
                      exact MM.vret S hr hlk hw dM_readSign_267 ⟨rfl, rkP.ok (k := 3) (by unfold scG; rw [if_neg h2, if_pos ((one_iff _).mpr (by simp [c167]))]) (by decide) (fun k a b c => by simp [upd, a, b, c]) rfl rfl (fun q => absurd q (by decide))⟩
                    · skip
                      refine lv_iload_n hx hb dM_readSign_170 rfl (lv_at hl 1 rfl) ?_
                      refine lv_bipush (v := 42) hx hb dM_readSign_171 (by decide) ?_
                      refine lv_icmp_eq (tgt := 218) hx hb dM_readSign_173 (by decide) (fun c173 => ?_) (fun c173 => ?_)
                      · skip
                        refine lv_iconst (v := 1) hx hb dM_readSign_218 (by decide) ?_
                        refine lv_goto (tgt := 223) hx hb dM_readSign_219 (by decide) ?_
                        refine lv_istore (lv' := [(4, .int 1), (0, .ref h), (1, .int (T p)), (3, .int 0)]) hx hb dM_readSign_223 hl (by decide) rfl (fun ls hl => ?_)
                        refine lv_aload_n hx hb dM_readSign_225 rfl (lv_at hl 1 rfl) ?_
                        refine lv_iload hx hb dM_readSign_226 (lv_at hl 0 rfl) ?_
                        refine lv_if_ne (tgt := 235) hx hb dM_readSign_228 (by decide) (fun c228 => ?_) (fun c228 => absurd c228 (by decide))
                        refine lv_iconst (v := 3) hx hb dM_readSign_235 (by decide) ?_
                        refine lv_goto (tgt := 241) hx hb dM_readSign_236 (by decide) ?_
                        refine pM17 S hw dM_readSign_241 (fun H locs hw => ?_)
                        refine lv_aload_n hx hb dM_readSign_244 rfl (lv_at hl 1 rfl) ?_
                        refine lv_iload_n hx hb dM_readSign_245 rfl (lv_at hl 3 rfl) ?_
                        refine lv_if_eq (tgt := 258) hx hb dM_readSign_246 (by decide) (fun c246 => ?_) (fun c246 => absurd c246 (by decide))
                        refine lv_aload_n hx hb dM_readSign_258 rfl (lv_at hl 1 rfl) ?_
                        refine gM15 S hw dM_readSign_259 ?_
                        refine kz_top (y := nI p) h15 ?_
                        refine lv_iconst (v := 1) hx hb dM_readSign_262 (by decide) ?_
                        refine lv_iadd hx hb dM_readSign_263 ?_
                        refine kz_top (y := nI (p + 1)) (nI_add p 1) ?_
                        refine pM19 S hw dM_readSign_264 (fun H locs hw => ?_)
                        exact MM.vret S hr hlk hw dM_readSign_267 ⟨rfl, rkP.ok (k := 3) (by unfold scG; rw [if_neg h2, if_pos ((one_iff _).mpr (by simp [c173]))]) (by decide) (fun k a b c => by simp [upd, a, b, c]) rfl rfl (fun q => absurd q (by decide))⟩
                      · skip
                        refine lv_iload_n hx hb dM_readSign_176 rfl (lv_at hl 1 rfl) ?_
                        refine lv_bipush (v := 47) hx hb dM_readSign_177 (by decide) ?_
                        refine lv_icmp_eq (tgt := 218) hx hb dM_readSign_179 (by decide) (fun c179 => ?_) (fun c179 => ?_)
                        · skip
                          refine lv_iconst (v := 1) hx hb dM_readSign_218 (by decide) ?_
                          refine lv_goto (tgt := 223) hx hb dM_readSign_219 (by decide) ?_
                          refine lv_istore (lv' := [(4, .int 1), (0, .ref h), (1, .int (T p)), (3, .int 0)]) hx hb dM_readSign_223 hl (by decide) rfl (fun ls hl => ?_)
                          refine lv_aload_n hx hb dM_readSign_225 rfl (lv_at hl 1 rfl) ?_
                          refine lv_iload hx hb dM_readSign_226 (lv_at hl 0 rfl) ?_
                          refine lv_if_ne (tgt := 235) hx hb dM_readSign_228 (by decide) (fun c228 => ?_) (fun c228 => absurd c228 (by decide))
                          refine lv_iconst (v := 3) hx hb dM_readSign_235 (by decide) ?_
                          refine lv_goto (tgt := 241) hx hb dM_readSign_236 (by decide) ?_
                          refine pM17 S hw dM_readSign_241 (fun H locs hw => ?_)
                          refine lv_aload_n hx hb dM_readSign_244 rfl (lv_at hl 1 rfl) ?_
                          refine lv_iload_n hx hb dM_readSign_245 rfl (lv_at hl 3 rfl) ?_
                          refine lv_if_eq (tgt := 258) hx hb dM_readSign_246 (by decide) (fun c246 => ?_) (fun c246 => absurd c246 (by decide))
                          refine lv_aload_n hx hb dM_readSign_258 rfl (lv_at hl 1 rfl) ?_
                          refine gM15 S hw dM_readSign_259 ?_
                          refine kz_top (y := nI p) h15 ?_
                          refine lv_iconst (v := 1) hx hb dM_readSign_262 (by decide) ?_
                          refine lv_iadd hx hb dM_readSign_263 ?_
                          refine kz_top (y := nI (p + 1)) (nI_add p 1) ?_
                          refine pM19 S hw dM_readSign_264 (fun H locs hw => ?_)
                          exact MM.vret S hr hlk hw dM_readSign_267 ⟨rfl, rkP.ok (k := 3) (by unfold scG; rw [if_neg h2, if_pos ((one_iff _).mpr (by simp [c179]))]) (by decide) (fun k a b c => by simp [upd, a, b, c]) rfl rfl (fun q => absurd q (by decide))⟩
                        · skip
                          refine lv_iload_n hx hb dM_readSign_182 rfl (lv_at hl 1 rfl) ?_
                          refine lv_bipush (v := 61) hx hb dM_readSign_183 (by decide) ?_
                          refine lv_icmp_eq (tgt := 218) hx hb dM_readSign_185 (by decide) (fun c185 => ?_) (fun c185 => ?_)
                          · skip
                            refine lv_iconst (v := 1) hx hb dM_readSign_218 (by decide) ?_
                            refine lv_goto (tgt := 223) hx hb dM_readSign_219 (by decide) ?_
                            refine lv_istore (lv' := [(4, .int 1), (0, .ref h), (1, .int (T p)), (3, .int 0)]) hx hb dM_readSign_223 hl (by decide) rfl (fun ls hl => ?_)
                            refine lv_aload_n hx hb dM_readSign_225 rfl (lv_at hl 1 rfl) ?_
                            refine lv_iload hx hb dM_readSign_226 (lv_at hl 0 rfl) ?_
                            refine lv_if_ne (tgt := 235) hx hb dM_readSign_228 (by decide) (fun c228 => ?_) (fun c228 => absurd c228 (by decide))
                            refine lv_iconst (v := 3) hx hb dM_readSign_235 (by decide) ?_
                            refine lv_goto (tgt := 241) hx hb dM_readSign_236 (by decide) ?_
                            refine pM17 S hw dM_readSign_241 (fun H locs hw => ?_)
                            refine lv_aload_n hx hb dM_readSign_244 rfl (lv_at hl 1 rfl) ?_
                            refine lv_iload_n hx hb dM_readSign_245 rfl (lv_at hl 3 rfl) ?_
                            refine lv_if_eq (tgt := 258) hx hb dM_readSign_246 (by decide) (fun c246 => ?_) (fun c246 => absurd c246 (by decide))
                            refine lv_aload_n hx hb dM_readSign_258 rfl (lv_at hl 1 rfl) ?_
                            refine gM15 S hw dM_readSign_259 ?_
                            refine kz_top (y := nI p) h15 ?_
                            refine lv_iconst (v := 1) hx hb dM_readSign_262 (by decide) ?_
                            refine lv_iadd hx hb dM_readSign_263 ?_
                            refine kz_top (y := nI (p + 1)) (nI_add p 1) ?_
                            refine pM19 S hw dM_readSign_264 (fun H locs hw => ?_)
                            exact MM.vret S hr hlk hw dM_readSign_267 ⟨rfl, rkP.ok (k := 3) (by unfold scG; rw [if_neg h2, if_pos ((one_iff _).mpr (by simp [c185]))]) (by decide) (fun k a b c => by simp [upd, a, b, c]) rfl rfl (fun q => absurd q (by decide))⟩
                          · skip
                            refine lv_iload_n hx hb dM_readSign_188 rfl (lv_at hl 1 rfl) ?_
                            refine lv_bipush (v := 60) hx hb dM_readSign_189 (by decide) ?_
                            refine lv_icmp_eq (tgt := 218) hx hb dM_readSign_191 (by decide) (fun c191 => ?_) (fun c191 => ?_)
                            · skip
                              refine lv_iconst (v := 1) hx hb dM_readSign_218 (by decide) ?_
                              refine lv_goto (tgt := 223) hx hb dM_readSign_219 (by decide) ?_
                              refine lv_istore (lv' := [(4, .int 1), (0, .ref h), (1, .int (T p)), (3, .int 0)]) hx hb dM_readSign_223 hl (by decide) rfl (fun ls hl => ?_)
                              refine lv_aload_n hx hb dM_readSign_225 rfl (lv_at hl 1 rfl) ?_
                              refine lv_iload hx hb dM_readSign_226 (lv_at hl 0 rfl) ?_
                              refine lv_if_ne (tgt := 235) hx hb dM_readSign_228 (by decide) (fun c228 => ?_) (fun c228 => absurd c228 (by decide))
                              refine lv_iconst (v := 3) hx hb dM_readSign_235 (by decide) ?_
                              refine lv_goto (tgt := 241) hx hb dM_readSign_236 (by decide) ?_
                              refine pM17 S hw dM_readSign_241 (fun H locs hw => ?_)
                              refine lv_aload_n hx hb dM_readSign_244 rfl (lv_at hl 1 rfl) ?_
                              refine lv_iload_n hx hb dM_readSign_245 rfl (lv_at hl 3 rfl) ?_
                              refine lv_if_eq (tgt := 258) hx hb dM_readSign_246 (by decide) (fun c246 => ?_) (fun c246 => absurd c246 (by decide))
                              refine lv_aload_n hx hb dM_readSign_258 rfl (lv_at hl 1 rfl) ?_
                              refine gM15 S hw dM_readSign_259 ?_
                              refine kz_top (y := nI p) h15 ?_
                              refine lv_iconst (v := 1) hx hb dM_readSign_262 (by decide) ?_
                              refine lv_iadd hx hb dM_readSign_263 ?_
                              refine kz_top (y := nI (p + 1)) (nI_add p 1) ?_
                              refine pM19 S hw dM_readSign_264 (fun H locs hw => ?_)
                              exact MM.vret S hr hlk hw dM_readSign_267 ⟨rfl, rkP.ok (k := 3) (by unfold scG; rw [if_neg h2, if_pos ((one_iff _).mpr (by simp [c191]))]) (by decide) (fun k a b c => by simp [upd, a, b, c]) rfl rfl (fun q => absurd q (by decide))⟩
                            · skip
                              refine lv_iload_n hx hb dM_readSign_194 rfl (lv_at hl 1 rfl) ?_
                              refine lv_bipush (v := 62) hx hb dM_readSign_195 (by decide) ?_
                              refine lv_icmp_eq (tgt := 218) hx hb dM_readSign_197 (by decide) (fun c197 => ?_) (fun c197 => ?_)
                              · skip
                                refine lv_iconst (v := 1) hx hb dM_readSign_218 (by decide) ?_
                                refine lv_goto (tgt := 223) hx hb dM_readSign_219 (by decide) ?_
                                refine lv_istore (lv' := [(4, .int 1), (0, .ref h), (1, .int (T p)), (3, .int 0)]) hx hb dM_readSign_223 hl (by decide) rfl (fun ls hl => ?_)
                                refine lv_aload_n hx hb dM_readSign_225 rfl (lv_at hl 1 rfl) ?_
                                refine lv_iload hx hb dM_readSign_226 (lv_at hl 0 rfl) ?_
                                refine lv_if_ne (tgt := 235) hx hb dM_readSign_228 (by decide) (fun c228 => ?_) (fun c228 => absurd c228 (by decide))
                                refine lv_iconst (v := 3) hx hb dM_readSign_235 (by decide) ?_
                                refine lv_goto (tgt := 241) hx hb dM_readSign_236 (by decide) ?_
                                refine pM17 S hw dM_readSign_241 (fun H locs hw => ?_)
                                refine lv_aload_n hx hb dM_readSign_244 rfl (lv_at hl 1 rfl) ?_
                                refine lv_iload_n hx hb dM_readSign_245 rfl (lv_at hl 3 rfl) ?_
                                refine lv_if_eq (tgt := 258) hx hb dM_readSign_246 (by decide) (fun c246 => ?_) (fun c246 => absurd c246 (by decide))
                                refine lv_aload_n hx hb dM_readSign_258 rfl (lv_at hl 1 rfl) ?_
                                refine gM15 S hw dM_readSign_259 ?_
                                refine kz_top (y := nI p) h15 ?_
                                refine lv_iconst (v := 1) hx hb dM_readSign_262 (by decide) ?_
                                refine lv_iadd hx hb dM_readSign_263 ?_
                                refine kz_top (y := nI (p + 1)) (nI_add p 1) ?_
                                refine pM19 S hw dM_readSign_264 (fun H locs hw => ?_)
                                exact MM.vret S hr hlk hw dM_readSign_267 ⟨rfl, rkP.ok (k := 3) (by unfold scG; rw [if_neg h2, if_pos ((one_iff _).mpr (by simp [c197]))]) (by decide) (fun k a b c => by simp [upd, a, b, c]) rfl rfl (fun q => absurd q (by decide))⟩
                              · skip
                                refine lv_iload_n hx hb dM_readSign_200 rfl (lv_at hl 1 rfl) ?_
                                refine lv_bipush (v := 126) hx hb dM_readSign_201 (by decide) ?_
                                refine lv_icmp_eq (tgt := 218) hx hb dM_readSign_203 (by decide) (fun c203 => ?_) (fun c203 => ?_)
                                · skip
                                  refine lv_iconst (v := 1) hx hb dM_readSign_218 (by decide) ?_
                                  refine lv_goto (tgt := 223) hx hb dM_readSign_219 (by decide) ?_
                                  refine lv_istore (lv' := [(4, .int 1), (0, .ref h), (1, .int (T p)), (3, .int 0)]) hx hb dM_readSign_223 hl (by decide) rfl (fun ls hl => ?_)
                                  refine lv_aload_n hx hb dM_readSign_225 rfl (lv_at hl 1 rfl) ?_
                                  refine lv_iload hx hb dM_readSign_226 (lv_at hl 0 rfl) ?_
                                  refine lv_if_ne (tgt := 235) hx hb dM_readSign_228 (by decide) (fun c228 => ?_) (fun c228 => absurd c228 (by decide))
                                  refine lv_iconst (v := 3) hx hb dM_readSign_235 (by decide) ?_
                                  refine lv_goto (tgt := 241) hx hb dM_readSign_236 (by decide) ?_
                                  refine pM17 S hw dM_readSign_241 (fun H locs hw => ?_)
                                  refine lv_aload_n hx hb dM_readSign_244 rfl (lv_at hl 1 rfl) ?_
                                  refine lv_iload_n hx hb dM_readSign_245 rfl (lv_at hl 3 rfl) ?_
                                  refine lv_if_eq (tgt := 258) hx hb dM_readSign_246 (by decide) (fun c246 => ?_) (fun c246 => absurd c246 (by decide))
                                  refine lv_aload_n hx hb dM_readSign_258 rfl (lv_at hl 1 rfl) ?_
                                  refine gM15 S hw dM_readSign_259 ?_
                                  refine kz_top (y := nI p) h15 ?_
                                  refine lv_iconst (v := 1) hx hb dM_readSign_262 (by decide) ?_
                                  refine lv_iadd hx hb dM_readSign_263 ?_
                                  refine kz_top (y := nI (p + 1)) (nI_add p 1) ?_
                                  refine pM19 S hw dM_readSign_264 (fun H locs hw => ?_)
                                  exact MM.vret S hr hlk hw dM_readSign_267 ⟨rfl, rkP.ok (k := 3) (by unfold scG; rw [if_neg h2, if_pos ((one_iff _).mpr (by simp [c203]))]) (by decide) (fun k a b c => by simp [upd, a, b, c]) rfl rfl (fun q => absurd q (by decide))⟩
                                · skip
                                  refine lv_iload_n hx hb dM_readSign_206 rfl (lv_at hl 1 rfl) ?_
                                  refine lv_bipush (v := 38) hx hb dM_readSign_207 (by decide) ?_
                                  refine lv_icmp_eq (tgt := 218) hx hb dM_readSign_209 (by decide) (fun c209 => ?_) (fun c209 => ?_)
                                  · skip
                                    refine lv_iconst (v := 1) hx hb dM_readSign_218 (by decide) ?_
                                    refine lv_goto (tgt := 223) hx hb dM_readSign_219 (by decide) ?_
                                    refine lv_istore (lv' := [(4, .int 1), (0, .ref h), (1, .int (T p)), (3, .int 0)]) hx hb dM_readSign_223 hl (by decide) rfl (fun ls hl => ?_)
                                    refine lv_aload_n hx hb dM_readSign_225 rfl (lv_at hl 1 rfl) ?_
                                    refine lv_iload hx hb dM_readSign_226 (lv_at hl 0 rfl) ?_
                                    refine lv_if_ne (tgt := 235) hx hb dM_readSign_228 (by decide) (fun c228 => ?_) (fun c228 => absurd c228 (by decide))
                                    refine lv_iconst (v := 3) hx hb dM_readSign_235 (by decide) ?_
                                    refine lv_goto (tgt := 241) hx hb dM_readSign_236 (by decide) ?_
                                    refine pM17 S hw dM_readSign_241 (fun H locs hw => ?_)
                                    refine lv_aload_n hx hb dM_readSign_244 rfl (lv_at hl 1 rfl) ?_
                                    refine lv_iload_n hx hb dM_readSign_245 rfl (lv_at hl 3 rfl) ?_
                                    refine lv_if_eq (tgt := 258) hx hb dM_readSign_246 (by decide) (fun c246 => ?_) (fun c246 => absurd c246 (by decide))
                                    refine lv_aload_n hx hb dM_readSign_258 rfl (lv_at hl 1 rfl) ?_
                                    refine gM15 S hw dM_readSign_259 ?_
                                    refine kz_top (y := nI p) h15 ?_
                                    refine lv_iconst (v := 1) hx hb dM_readSign_262 (by decide) ?_
                                    refine lv_iadd hx hb dM_readSign_263 ?_
                                    refine kz_top (y := nI (p + 1)) (nI_add p 1) ?_
                                    refine pM19 S hw dM_readSign_264 (fun H locs hw => ?_)
                                    exact MM.vret S hr hlk hw dM_readSign_267 ⟨rfl, rkP.ok (k := 3) (by unfold scG; rw [if_neg h2, if_pos ((one_iff _).mpr (by simp [c209]))]) (by decide) (fun k a b c => by simp [upd, a, b, c]) rfl rfl (fun q => absurd q (by decide))⟩
                                  · skip
                                    refine lv_iload_n hx hb dM_readSign_212 rfl (lv_at hl 1 rfl) ?_
                                    refine lv_bipush (v := 124) hx hb dM_readSign_213 (by decide) ?_
                                    refine lv_icmp_ne (tgt := 222) hx hb dM_readSign_215 (by decide) (fun c215 => ?_) (fun c215 => ?_)
                                    · skip
                                      refine lv_iconst (v := 0) hx hb dM_readSign_222 (by decide) ?_
                                      refine lv_istore (lv' := [(4, .int 0), (0, .ref h), (1, .int (T p)), (3, .int 0)]) hx hb dM_readSign_223 hl (by decide) rfl (fun ls hl => ?_)
                                      refine lv_aload_n hx hb dM_readSign_225 rfl (lv_at hl 1 rfl) ?_
                                      refine lv_iload hx hb dM_readSign_226 (lv_at hl 0 rfl) ?_
                                      refine lv_if_ne (tgt := 235) hx hb dM_readSign_228 (by decide) (fun c228 => absurd c228 (by decide)) (fun c228 => ?_)
                                      refine lv_iload_n hx hb dM_readSign_231 rfl (lv_at hl 3 rfl) ?_
                                      refine lv_if_eq (tgt := 239) hx hb dM_readSign_232 (by decide) (fun c232 => ?_) (fun c232 => absurd c232 (by decide))
                                      refine lv_bipush (v := 6) hx hb dM_readSign_239 (by decide) ?_
                                      refine pM17 S hw dM_readSign_241 (fun H locs hw => ?_)
                                      refine lv_aload_n hx hb dM_readSign_244 rfl (lv_at hl 1 rfl) ?_
                                      refine lv_iload_n hx hb dM_readSign_245 rfl (lv_at hl 3 rfl) ?_
                                      refine lv_if_eq (tgt := 258) hx hb dM_readSign_246 (by decide) (fun c246 => ?_) (fun c246 => absurd c246 (by decide))
                                      refine lv_aload_n hx hb dM_readSign_258 rfl (lv_at hl 1 rfl) ?_
                                      refine gM15 S hw dM_readSign_259 ?_
                                      refine kz_top (y := nI p) h15 ?_
                                      refine lv_iconst (v := 1) hx hb dM_readSign_262 (by decide) ?_
                                      refine lv_iadd hx hb dM_readSign_263 ?_
                                      refine kz_top (y := nI (p + 1)) (nI_add p 1) ?_
                                      refine pM19 S hw dM_readSign_264 (fun H locs hw => ?_)
                                      exact MM.vret S hr hlk hw dM_readSign_267 ⟨rfl, rkP.bad (by unfold scG; rw [if_neg h2, if_neg (fun q => by have q := (one_iff _).mp q; simp [c119, c125, c131, c137, c143, c149, c155, c161, c167, c173, c179, c185, c191, c197, c203, c209, c215] at q)]) (fun k a b c => by simp [upd, a, b, c]) rfl⟩
                                    · skip
                                      refine lv_iconst (v := 1) hx hb dM_readSign_218 (by decide) ?_
                                      refine lv_goto (tgt := 223) hx hb dM_readSign_219 (by decide) ?_
                                      refine lv_istore (lv' := [(4, .int 1), (0, .ref h), (1, .int (T p)), (3, .int 0)]) hx hb dM_readSign_223 hl (by decide) rfl (fun ls hl => ?_)
                                      refine lv_aload_n hx hb dM_readSign_225 rfl (lv_at hl 1 rfl) ?_
                                      refine lv_iload hx hb dM_readSign_226 (lv_at hl 0 rfl) ?_
                                      refine lv_if_ne (tgt := 235) hx hb dM_readSign_228 (by decide) (fun c228 => ?_) (fun c228 => absurd c228 (by decide))
                                      refine lv_iconst (v := 3) hx hb dM_readSign_235 (by decide) ?_
                                      refine lv_goto (tgt := 241) hx hb dM_readSign_236 (by decide) ?_
                                      refine pM17 S hw dM_readSign_241 (fun H locs hw => ?_)
                                      refine lv_aload_n hx hb dM_readSign_244 rfl (lv_at hl 1 rfl) ?_
                                      refine lv_iload_n hx hb dM_readSign_245 rfl (lv_at hl 3 rfl) ?_
                                      refine lv_if_eq (tgt := 258) hx hb dM_readSign_246 (by decide) (fun c246 => ?_) (fun c246 => absurd c246 (by decide))
                                      refine lv_aload_n hx hb dM_readSign_258 rfl (lv_at hl 1 rfl) ?_
                                      refine gM15 S hw dM_readSign_259 ?_
                                      refine kz_top (y := nI p) h15 ?_
                                      refine lv_iconst (v := 1) hx hb dM_readSign_262 (by decide) ?_
                                      refine lv_iadd hx hb dM_readSign_263 ?_
                                      refine kz_top (y := nI (p + 1)) (nI_add p 1) ?_
                                      refine pM19 S hw dM_readSign_264 (fun H locs hw => ?_)
                                      exact MM.vret S hr hlk hw dM_readSign_267 ⟨rfl, rkP.ok (k := 3) (by unfold scG; rw [if_neg h2, if_pos ((one_iff _).mpr (by simp [c215]))]) (by decide) (fun k a b c => by simp [upd, a, b, c]) rfl rfl (fun q => absurd q (by decide))⟩
  refine lv_aload_n hx hb dM_readSign_0 rfl (lv_at hl 0 rfl) ?_
  refine lv_aload_n hx hb dM_readSign_1 rfl (lv_at hl 0 rfl) ?_
  refine gM15 S hw dM_readSign_2 ?_
  refine kz_top (y := nI p) h15 ?_
  refine kcMi (rest := []) S kM_74 rfl (tM_see l I F T n hT p (by omega)) hw hA ⟨Nat.le_of_ble_eq_true rfl, Nat.le_of_ble_eq_true rfl⟩ rfl rfl ⟨Nat.zero_le _, Nat.zero_le _⟩ rfl hl.1 (Nat.le_of_ble_eq_true rfl) dM_readSign_5 (fun r I' F' H locs hq hw => ?_)
  obtain ⟨hr1, hr2, hr3⟩ := hq
  rw [hr2, hr3] at hw
  subst hr1
  refine kz_top (see_in hp) ?_
  refine lv_istore_n (lv' := [(1, .int (T p)), (0, .ref h)]) hx hb dM_readSign_8 rfl hl (by decide) rfl (fun ls hl => ?_)
  refine lv_aload_n hx hb dM_readSign_9 rfl (lv_at hl 1 rfl) ?_
  refine lv_aload_n hx hb dM_readSign_10 rfl (lv_at hl 1 rfl) ?_
  refine gM15 S hw dM_readSign_11 ?_
  refine kz_top (y := nI p) h15 ?_
  refine lv_iconst (v := 1) hx hb dM_readSign_14 (by decide) ?_
  refine lv_iadd hx hb dM_readSign_15 ?_
  refine kz_top (y := nI (p + 1)) (nI_add p 1) ?_
  refine kcMi (rest := []) S kM_74 rfl (tM_see l I F T n hT (p + 1) (by omega)) hw hA ⟨Nat.le_of_ble_eq_true rfl, Nat.le_of_ble_eq_true rfl⟩ rfl rfl ⟨Nat.zero_le _, Nat.zero_le _⟩ rfl hl.1 (Nat.le_of_ble_eq_true rfl) dM_readSign_16 (fun r I' F' H locs hq hw => ?_)
  obtain ⟨hr1, hr2, hr3⟩ := hq
  rw [hr2, hr3] at hw
  subst hr1
  refine lv_istore_n (lv' := [(2, .int (seeT T n (p + 1))), (1, .int (T p)), (0, .ref h)]) hx hb dM_readSign_19 rfl hl (by decide) rfl (fun ls hl => ?_)
  refine lv_iload_n hx hb dM_readSign_20 rfl (lv_at hl 1 rfl) ?_
  refine lv_bipush (v := 36) hx hb dM_readSign_21 (by decide) ?_
  refine lv_icmp_ne (tgt := 38) hx hb dM_readSign_23 (by decide) (fun c23 => ?_) (fun c23 => ?_)
  · skip
    refine lv_iload_n hx hb dM_readSign_38 rfl (lv_at hl 1 rfl) ?_
    refine lv_bipush (v := 58) hx hb dM_readSign_39 (by decide) ?_
    refine lv_icmp_ne (tgt := 50) hx hb dM_readSign_41 (by decide) (fun c41 => ?_) (fun c41 => ?_)
    · skip
      refine lv_iload_n hx hb dM_readSign_50 rfl (lv_at hl 1 rfl) ?_
      refine lv_bipush (v := 126) hx hb dM_readSign_51 (by decide) ?_
      refine lv_icmp_ne (tgt := 62) hx hb dM_readSign_53 (by decide) (fun c53 => ?_) (fun c53 => ?_)
      · skip
        refine lv_iload_n hx hb dM_readSign_62 rfl (lv_at hl 1 rfl) ?_
        refine lv_bipush (v := 60) hx hb dM_readSign_63 (by decide) ?_
        refine lv_icmp_ne (tgt := 80) hx hb dM_readSign_65 (by decide) (fun c65 => ?_) (fun c65 => ?_)
        · skip
          refine lv_iload_n hx hb dM_readSign_80 rfl (lv_at hl 1 rfl) ?_
          refine lv_bipush (v := 62) hx hb dM_readSign_81 (by decide) ?_
          refine lv_icmp_ne (tgt := 98) hx hb dM_readSign_83 (by decide) (fun c83 => ?_) (fun c83 => ?_)
          · skip
            refine lv_iload_n hx hb dM_readSign_98 rfl (lv_at hl 1 rfl) ?_
            refine lv_bipush (v := 45) hx hb dM_readSign_99 (by decide) ?_
            refine lv_icmp_ne (tgt := 114) hx hb dM_readSign_101 (by decide) (fun c101 => ?_) (fun c101 => ?_)
            · skip
              refine lv_iconst (v := 0) hx hb dM_readSign_114 (by decide) ?_
              refine lv_istore_n (lv' := [(3, .int 0), (2, .int (seeT T n (p + 1))), (1, .int (T p)), (0, .ref h)]) hx hb dM_readSign_115 rfl hl (by decide) rfl (fun ls hl => ?_)
              exact cont0 H locs ls (fun q => by have q := (two_iff _ _).mp q; simp [c23, c41, c53, c65, c83, c101] at q) hw (lv_sub hl [3, 2, 0] rfl)
            · skip
              refine lv_iload_n hx hb dM_readSign_104 rfl (lv_at hl 0 rfl) ?_
              refine lv_bipush (v := 62) hx hb dM_readSign_105 (by decide) ?_
              refine lv_icmp_ne (tgt := 114) hx hb dM_readSign_107 (by decide) (fun c107 => ?_) (fun c107 => ?_)
              · skip
                refine lv_iconst (v := 0) hx hb dM_readSign_114 (by decide) ?_
                refine lv_istore_n (lv' := [(3, .int 0), (2, .int (seeT T n (p + 1))), (1, .int (T p)), (0, .ref h)]) hx hb dM_readSign_115 rfl hl (by decide) rfl (fun ls hl => ?_)
                exact cont0 H locs ls (fun q => by have q := (two_iff _ _).mp q; simp [c23, c41, c53, c65, c83, c101, c107] at q) hw (lv_sub hl [3, 2, 0] rfl)
              · skip
                refine lv_iconst (v := 1) hx hb dM_readSign_110 (by decide) ?_
                refine lv_goto (tgt := 115) hx hb dM_readSign_111 (by decide) ?_
                refine lv_istore_n (lv' := [(3, .int 1), (2, .int (seeT T n (p + 1))), (1, .int (T p)), (0, .ref h)]) hx hb dM_readSign_115 rfl hl (by decide) rfl (fun ls hl => ?_)
                exact cont1 H locs ls ((two_iff _ _).mpr (by simp [c23, c41, c53, c65, c83, c101, c107])) hw (lv_sub hl [3, 2, 0] rfl)
          · skip
            refine lv_iload_n hx hb dM_readSign_86 rfl (lv_at hl 0 rfl) ?_
            refine lv_bipush (v := 61) hx hb dM_readSign_87 (by decide) ?_
            refine lv_icmp_eq (tgt := 110) hx hb dM_readSign_89 (by decide) (fun c89 => ?_) (fun c89 => ?_)
            · skip
              refine lv_iconst (v := 1) hx hb dM_readSign_110 (by decide) ?_
              refine lv_goto (tgt := 115) hx hb dM_readSign_111 (by decide) ?_
              refine lv_istore_n (lv' := [(3, .int 1), (2, .int (seeT T n (p + 1))), (1, .int (T p)), (0, .ref h)]) hx hb dM_readSign_115 rfl hl (by decide) rfl (fun ls hl => ?_)
              exact cont1 H locs ls ((two_iff _ _).mpr (by simp [c23, c41, c53, c65, c83, c89])) hw (lv_sub hl [3, 2, 0] rfl)
            · skip
              refine lv_iload_n hx hb dM_readSign_92 rfl (lv_at hl 0 rfl) ?_
              refine lv_bipush (v := 62) hx hb dM_readSign_93 (by decide) ?_
              refine lv_icmp_eq (tgt := 110) hx hb dM_readSign_95 (by decide) (fun c95 => ?_) (fun c95 => ?_)
              · skip
                refine lv_iconst (v := 1) hx hb dM_readSign_110 (by decide) ?_
                refine lv_goto (tgt := 115) hx hb dM_readSign_111 (by decide) ?_
                refine lv_istore_n (lv' := [(3, .int 1), (2, .int (seeT T n (p + 1))), (1, .int (T p)), (0, .ref h)]) hx hb dM_readSign_115 rfl hl (by decide) rfl (fun ls hl => ?_)
                exact cont1 H locs ls ((two_iff _ _).mpr (by simp [c23, c41, c53, c65, c83, c89, c95])) hw (lv_sub hl [3, 2, 0] rfl)
              · skip
                refine lv_iload_n hx hb dM_readSign_98 rfl (lv_at hl 1 rfl) ?_
                refine lv_bipush (v := 45) hx hb dM_readSign_99 (by decide) ?_
                refine lv_icmp_ne (tgt := 114) hx hb dM_readSign_101 (by decide) (fun c101 => ?_) (fun c101 => absurd (c83.symm.trans c101) (by decide))
                refine lv_iconst (v := 0) hx hb dM_readSign_114 (by decide) ?_
                refine lv_istore_n (lv' := [(3, .int 0), (2, .int (seeT T n (p + 1))), (1, .int (T p)), (0, .ref h)]) hx hb dM_readSign_115 rfl hl (by decide) rfl (fun ls hl => ?_)
                exact cont0 H locs ls (fun q => by have q := (two_iff _ _).mp q; simp [c23, c41, c53, c65, c83, c89, c95] at q) hw (lv_sub hl [3, 2, 0] rfl)
        · skip
          refine lv_iload_n hx hb dM_readSign_68 rfl (lv_at hl 0 rfl) ?_
          refine lv_bipush (v := 61) hx hb dM_readSign_69 (by decide) ?_
          refine lv_icmp_eq (tgt := 110) hx hb dM_readSign_71 (by decide) (fun c71 => ?_) (fun c71 => ?_)
          · skip
            refine lv_iconst (v := 1) hx hb dM_readSign_110 (by decide) ?_
            refine lv_goto (tgt := 115) hx hb dM_readSign_111 (by decide) ?_
            refine lv_istore_n (lv' := [(3, .int 1), (2, .int (seeT T n (p + 1))), (1, .int (T p)), (0, .ref h)]) hx hb dM_readSign_115 rfl hl (by decide) rfl (fun ls hl => ?_)
            exact cont1 H locs ls ((two_iff _ _).mpr (by simp [c23, c41, c53, c65, c71])) hw (lv_sub hl [3, 2, 0] rfl)
          · skip
            refine lv_iload_n hx hb dM_readSign_74 rfl (lv_at hl 0 rfl) ?_
            refine lv_bipush (v := 60) hx hb dM_readSign_75 (by decide) ?_
            refine lv_icmp_eq (tgt := 110) hx hb dM_readSign_77 (by decide) (fun c77 => ?_) (fun c77 => ?_)
            · skip
              refine lv_iconst (v := 1) hx hb dM_readSign_110 (by decide) ?_
              refine lv_goto (tgt := 115) hx hb dM_readSign_111 (by decide) ?_
              refine lv_istore_n (lv' := [(3, .int 1), (2, .int (seeT T n (p + 1))), (1, .int (T p)), (0, .ref h)]) hx hb dM_readSign_115 rfl hl (by decide) rfl (fun ls hl => ?_)
              exact cont1 H locs ls ((two_iff _ _).mpr (by simp [c23, c41, c53, c65, c71, c77])) hw (lv_sub hl [3, 2, 0] rfl)
            · skip
              refine lv_iload_n hx hb dM_readSign_80 rfl (lv_at hl 1 rfl) ?_
              refine lv_bipush (v := 62) hx hb dM_readSign_81 (by decide) ?_
              refine lv_icmp_ne (tgt := 98) hx hb dM_readSign_83 (by decide) (fun c83 => ?_) (fun c83 => absurd (c65.symm.trans c83) (by decide))
              refine lv_iload_n hx hb dM_readSign_98 rfl (lv_at hl 1 rfl) ?_
              refine lv_bipush (v := 45) hx hb dM_readSign_99 (by decide) ?_
              refine lv_icmp_ne (tgt := 114) hx hb dM_readSign_101 (by decide) (fun c101 => ?_) (fun c101 => absurd (c65.symm.trans c101) (by decide))
              refine lv_iconst (v := 0) hx hb dM_readSign_114 (by decide) ?_
              refine lv_istore_n (lv' := [(3, .int 0), (2, .int (seeT T n (p + 1))), (1, .int (T p)), (0, .ref h)]) hx hb dM_readSign_115 rfl hl (by decide) rfl (fun ls hl => ?_)
              exact cont0 H locs ls (fun q => by have q := (two_iff _ _).mp q; simp [c23, c41, c53, c65, c71, c77] at q) hw (lv_sub hl [3, 2, 0] rfl)
      · skip
        refine lv_iload_n hx hb dM_readSign_56 rfl (lv_at hl 0 rfl) ?_
        refine lv_bipush (v := 61) hx hb dM_readSign_57 (by decide) ?_
        refine lv_icmp_eq (tgt := 110) hx hb dM_readSign_59 (by decide) (fun c59 => ?_) (fun c59 => ?_)
        · skip
          refine lv_iconst (v := 1) hx hb dM_readSign_110 (by decide) ?_
          refine lv_goto (tgt := 115) hx hb dM_readSign_111 (by decide) ?_
          refine lv_istore_n (lv' := [(3, .int 1), (2, .int (seeT T n (p + 1))), (1, .int (T p)), (0, .ref h)]) hx hb dM_readSign_115 rfl hl (by decide) rfl (fun ls hl => ?_)
          exact cont1 H locs ls ((two_iff _ _).mpr (by simp [c23, c41, c53, c59])) hw (lv_sub hl [3, 2, 0] rfl)
        · skip
          refine lv_iload_n hx hb dM_readSign_62 rfl (lv_at hl 1 rfl) ?_
          refine lv_bipush (v := 60) hx hb dM_readSign_63 (by decide) ?_
          refine lv_icmp_ne (tgt := 80) hx hb dM_readSign_65 (by decide) (fun c65 => ?_) (fun c65 => absurd (c53.symm.trans c65) (by decide))
          refine lv_iload_n hx hb dM_readSign_80 rfl (lv_at hl 1 rfl) ?_
          refine lv_bipush (v := 62) hx hb dM_readSign_81 (by decide) ?_
          refine lv_icmp_ne (tgt := 98) hx hb dM_readSign_83 (by decide) (fun c83 => ?_) (fun c83 => absurd (c53.symm.trans c83) (by decide))
          refine lv_iload_n hx hb dM_readSign_98 rfl (lv_at hl 1 rfl) ?_
          refine lv_bipush (v := 45) hx hb dM_readSign_99 (by decide) ?_
          refine lv_icmp_ne (tgt := 114) hx hb dM_readSign_101 (by decide) (fun c101 => ?_) (fun c101 => absurd (c53.symm.trans c101) (by decide))
          refine lv_iconst (v := 0) hx hb dM_readSign_114 (by decide) ?_
          refine lv_istore_n (lv' := [(3, .int 0), (2, .int (seeT T n (p + 1))), (1, .int (T p)), (0, .ref h)]) hx hb dM_readSign_115 rfl hl (by decide) rfl (fun ls hl => ?_)
          exact cont0 H locs ls (fun q => by have q := (two_iff _ _).mp q; simp [c23, c41, c53, c59] at q) hw (lv_sub hl [3, 2, 0] rfl)
    · skip
      refine lv_iload_n hx hb dM_readSign_44 rfl (lv_at hl 0 rfl) ?_
      refine lv_bipush (v := 61) hx hb dM_readSign_45 (by decide) ?_
      refine lv_icmp_eq (tgt := 110) hx hb dM_readSign_47 (by decide) (fun c47 => ?_) (fun c47 => ?_)
      · skip
        refine lv_iconst (v := 1) hx hb dM_readSign_110 (by decide) ?_
        refine lv_goto (tgt := 115) hx hb dM_readSign_111 (by decide) ?_
        refine lv_istore_n (lv' := [(3, .int 1), (2, .int (seeT T n (p + 1))), (1, .int (T p)), (0, .ref h)]) hx hb dM_readSign_115 rfl hl (by decide) rfl (fun ls hl => ?_)
        exact cont1 H locs ls ((two_iff _ _).mpr (by simp [c23, c41, c47])) hw (lv_sub hl [3, 2, 0] rfl)
      · skip
        refine lv_iload_n hx hb dM_readSign_50 rfl (lv_at hl 1 rfl) ?_
        refine lv_bipush (v := 126) hx hb dM_readSign_51 (by decide) ?_
        refine lv_icmp_ne (tgt := 62) hx hb dM_readSign_53 (by decide) (fun c53 => ?_) (fun c53 => absurd (c41.symm.trans c53) (by decide))
        refine lv_iload_n hx hb dM_readSign_62 rfl (lv_at hl 1 rfl) ?_
        refine lv_bipush (v := 60) hx hb dM_readSign_63 (by decide) ?_
        refine lv_icmp_ne (tgt := 80) hx hb dM_readSign_65 (by decide) (fun c65 => ?_) (fun c65 => absurd (c41.symm.trans c65) (by decide))
        refine lv_iload_n hx hb dM_readSign_80 rfl (lv_at hl 1 rfl) ?_
        refine lv_bipush (v := 62) hx hb dM_readSign_81 (by decide) ?_
        refine lv_icmp_ne (tgt := 98) hx hb dM_readSign_83 (by decide) (fun c83 => ?_) (fun c83 => absurd (c41.symm.trans c83) (by decide))
        refine lv_iload_n hx hb dM_readSign_98 rfl (lv_at hl 1 rfl) ?_
        refine lv_bipush (v := 45) hx hb dM_readSign_99 (by decide) ?_
        refine lv_icmp_ne (tgt := 114) hx hb dM_readSign_101 (by decide) (fun c101 => ?_) (fun c101 => absurd (c41.symm.trans c101) (by decide))
        refine lv_iconst (v := 0) hx hb dM_readSign_114 (by decide) ?_
        refine lv_istore_n (lv' := [(3, .int 0), (2, .int (seeT T n (p + 1))), (1, .int (T p)), (0, .ref h)]) hx hb dM_readSign_115 rfl hl (by decide) rfl (fun ls hl => ?_)
        exact cont0 H locs ls (fun q => by have q := (two_iff _ _).mp q; simp [c23, c41, c47] at q) hw (lv_sub hl [3, 2, 0] rfl)
  · skip
    refine lv_iload_n hx hb dM_readSign_26 rfl (lv_at hl 0 rfl) ?_
    refine lv_bipush (v := 40) hx hb dM_readSign_27 (by decide) ?_
    refine lv_icmp_eq (tgt := 110) hx hb dM_readSign_29 (by decide) (fun c29 => ?_) (fun c29 => ?_)
    · skip
      refine lv_iconst (v := 1) hx hb dM_readSign_110 (by decide) ?_
      refine lv_goto (tgt := 115) hx hb dM_readSign_111 (by decide) ?_
      refine lv_istore_n (lv' := [(3, .int 1), (2, .int (seeT T n (p + 1))), (1, .int (T p)), (0, .ref h)]) hx hb dM_readSign_115 rfl hl (by decide) rfl (fun ls hl => ?_)
      exact cont1 H locs ls ((two_iff _ _).mpr (by simp [c23, c29])) hw (lv_sub hl [3, 2, 0] rfl)
    · skip
      refine lv_iload_n hx hb dM_readSign_32 rfl (lv_at hl 0 rfl) ?_
      refine lv_bipush (v := 41) hx hb dM_readSign_33 (by decide) ?_
      refine lv_icmp_eq (tgt := 110) hx hb dM_readSign_35 (by decide) (fun c35 => ?_) (fun c35 => ?_)
      · skip
        refine lv_iconst (v := 1) hx hb dM_readSign_110 (by decide) ?_
        refine lv_goto (tgt := 115) hx hb dM_readSign_111 (by decide) ?_
        refine lv_istore_n (lv' := [(3, .int 1), (2, .int (seeT T n (p + 1))), (1, .int (T p)), (0, .ref h)]) hx hb dM_readSign_115 rfl hl (by decide) rfl (fun ls hl => ?_)
        exact cont1 H locs ls ((two_iff _ _).mpr (by simp [c23, c29, c35])) hw (lv_sub hl [3, 2, 0] rfl)
      · skip
        refine lv_iload_n hx hb dM_readSign_38 rfl (lv_at hl 1 rfl) ?_
        refine lv_bipush (v := 58) hx hb dM_readSign_39 (by decide) ?_
        refine lv_icmp_ne (tgt := 50) hx hb dM_readSign_41 (by decide) (fun c41 => ?_) (fun c41 => absurd (c23.symm.trans c41) (by decide))
        refine lv_iload_n hx hb dM_readSign_50 rfl (lv_at hl 1 rfl) ?_
        refine lv_bipush (v := 126) hx hb dM_readSign_51 (by decide) ?_
        refine lv_icmp_ne (tgt := 62) hx hb dM_readSign_53 (by decide) (fun c53 => ?_) (fun c53 => absurd (c23.symm.trans c53) (by decide))
        refine lv_iload_n hx hb dM_readSign_62 rfl (lv_at hl 1 rfl) ?_
        refine lv_bipush (v := 60) hx hb dM_readSign_63 (by decide) ?_
        refine lv_icmp_ne (tgt := 80) hx hb dM_readSign_65 (by decide) (fun c65 => ?_) (fun c65 => absurd (c23.symm.trans c65) (by decide))
        refine lv_iload_n hx hb dM_readSign_80 rfl (lv_at hl 1 rfl) ?_
        refine lv_bipush (v := 62) hx hb dM_readSign_81 (by decide) ?_
        refine lv_icmp_ne (tgt := 98) hx hb dM_readSign_83 (by decide) (fun c83 => ?_) (fun c83 => absurd (c23.symm.trans c83) (by decide))
        refine lv_iload_n hx hb dM_readSign_98 rfl (lv_at hl 1 rfl) ?_
        refine lv_bipush (v := 45) hx hb dM_readSign_99 (by decide) ?_
        refine lv_icmp_ne (tgt := 114) hx hb dM_readSign_101 (by decide) (fun c101 => ?_) (fun c101 => absurd (c23.symm.trans c101) (by decide))
        refine lv_iconst (v := 0) hx hb dM_readSign_114 (by decide) ?_
        refine lv_istore_n (lv' := [(3, .int 0), (2, .int (seeT T n (p + 1))), (1, .int (T p)), (0, .ref h)]) hx hb dM_readSign_115 rfl hl (by decide) rfl (fun ls hl => ?_)
        exact cont0 H locs ls (fun q => by have q := (two_iff _ _).mp q; simp [c23, c29, c35] at q) hw (lv_sub hl [3, 2, 0] rfl)
end
section
theorem dgM_out : dgM (-1) = 99 ∧ dgN (-1) = 99 := by decide
theorem cmp_lt0' {a : Nat} (ha : a < 2 ^ 62) : lg_cmp (lN a) 4294967296 < 0 ↔ a < 4294967296 := by
  unfold lg_cmp
  have e : lN a > (4294967296 : Int64) ↔ 4294967296 < a := pk_lLT (a := 4294967296) (b := a) (by decide) (by omega)
  have e2 : lN a = (4294967296 : Int64) ↔ a = 4294967296 := pk_lEQ (a := a) (b := 4294967296) (by omega) (by decide)
  by_cases h0 : 4294967296 < a
  · rw [if_pos (e.mpr h0)]
    exact ⟨fun q => absurd q (by decide), fun q => by omega⟩
  · rw [if_neg (fun q => h0 (e.mp q))]
    by_cases h : a = 4294967296
    · rw [if_pos (e2.mpr h)]; exact ⟨fun q => absurd q (by decide), fun q => by omega⟩
    · rw [if_neg (fun q => h (e2.mp q))]; exact ⟨fun _ => by omega, fun _ => by decide⟩
theorem acc_step {a ac base d : Nat} (h : min a 4294967296 = ac) (hb : 1 ≤ base) : min (if a < 4294967296 then a * base + d else a) 4294967296 = min (ac * base + d) 4294967296 := by
  by_cases q : a < 4294967296
  · rw [if_pos q]
    have : ac = a := by omega
    rw [this]
  · rw [if_neg q]
    have e : ac = 4294967296 := by omega
    rw [e]
    have : 4294967296 ≤ 4294967296 * base := Nat.le_mul_of_pos_right _ hb
    omega
set_option maxHeartbeats 4000000 in
set_option maxRecDepth 100000 in
theorem tM_readDigits (l : Launch) (I : Nat → Int32) (F : Nat → Nat → Int32) (T : Nat → Int32) (n : Nat) (hT : tpM T n I F) (k0 base : Nat) (hk : k0 ≤ 1002) (hb0 : base ≤ 16) (hb1 : 1 ≤ base) : MM l yM_readDigits cM_readDigits 7 none ({ frames := 2, cells := 0, slots := 0, locals := 40 }) [.int (nI k0), .int (nI base)] I F (vR (fun I' F' => rkP I F (scD T n k0 base) I' F')) := by
  refine MM.mk (by decide) (fun _ => Nat.le_of_ble_eq_true rfl) ?_
  intro z D cA h a pg en s m below meth c ls S hr hlk hA hw hl
  have hx := S.1
  have hb := S.2.1
  have hl : lv_has ls 7 [(0, .ref h), (1, .int (nI k0)), (2, .int (nI base))] := hl
  have hn := hT.2.1
  have loop16 : ∀ (fu : Nat) (k aa ac : Nat) (dd : Int32) (H : Heap) (locs : List Loc) (ls : Array Slot), k0 ≤ k → k ≤ n ∨ k = k0 → n + 1003 ≤ k + fu → min aa 4294967296 = ac → aa ≤ 4294967296 * 16 + 16 → dd = dgM (seeT T n k) → dSc T base (n - k) k ac = dSc T base (n - k0) k0 0 → sM z D cA h a (AM h a s.heap.size) s H locs I F → lv_has ls 7 [(0, .ref h), (1, .int (nI k0)), (2, .int (nI base)), (3, .long (lN aa)), (5, .int (nI k)), (6, .int dd)] → W pg l en ({ frames := 2, cells := 0, slots := 0, locals := 40 }) s m ([.ref h, .int (nI k0), .int (nI base)] : List Value).toArray below meth c H locs 0 0 (MQ below (QM z D cA h a s.heap.size (vR (fun I' F' => rkP I F (scD T n k0 base) I' F'))) ([.ref h, .int (nI k0), .int (nI base)] : List Value).toArray s 0 0 (AM h a s.heap.size)) (F0 m 16 ls []) := by
    intro fu
    induction fu with
    | zero => intro k aa ac  dd  H locs ls hk1 hk2 hf ha ha2 hd hR hw hl; omega
    | succ fu ih =>
      intro k aa ac  dd  H locs ls hk1 hk2 hf ha ha2 hd hR hw hl
      refine lv_iload hx hb dM_readDigits_16 (lv_at hl 5 rfl) ?_
      refine lv_iload_n hx hb dM_readDigits_18 rfl (lv_at hl 2 rfl) ?_
      refine lv_icmp_ge (tgt := 60) hx hb dM_readDigits_19 (by decide) (fun c19 => ?_) (fun c19 => ?_)
      · skip
        have hend : dSc T base (n - k) k ac = (k, ac) := by
          rcases Nat.lt_or_ge k n with q | q
          · refine dSc_st q (fun z => ?_)
            rw [hd, see_in q] at c19
            rcases dg_cases (T k) with ⟨e1, _, e3⟩ | ⟨e1, _, e3⟩
            · rw [e3] at c19
              exact absurd c19 (nI_ge z (by omega))
            · omega
          · exact dSc_end q
        rw [hend] at hR
        refine lv_aload_n hx hb dM_readDigits_60 rfl (lv_at hl 0 rfl) ?_
        refine lv_iload hx hb dM_readDigits_61 (lv_at hl 4 rfl) ?_
        refine lv_iload_n hx hb dM_readDigits_63 rfl (lv_at hl 1 rfl) ?_
        refine lv_icmp_eq (tgt := 75) hx hb dM_readDigits_64 (by decide) (fun c64 => ?_) (fun c64 => ?_)
        · skip
          refine lv_bipush (v := 6) hx hb dM_readDigits_75 (by decide) ?_
          refine lv_goto (tgt := 81) hx hb dM_readDigits_77 (by decide) ?_
          refine pM17 S hw dM_readDigits_81 (fun H locs hw => ?_)
          refine lv_aload_n hx hb dM_readDigits_84 rfl (lv_at hl 0 rfl) ?_
          refine lv_lload_n hx hb dM_readDigits_85 rfl (lv_at hl 3 rfl) ?_
          refine lv_l2i (v := (lN aa).toInt32) hx hb dM_readDigits_86 rfl ?_
          refine pM18 S hw dM_readDigits_87 (fun H locs hw => ?_)
          refine lv_aload_n hx hb dM_readDigits_90 rfl (lv_at hl 0 rfl) ?_
          refine lv_iload hx hb dM_readDigits_91 (lv_at hl 4 rfl) ?_
          refine pM19 S hw dM_readDigits_93 (fun H locs hw => ?_)
          exact MM.vret S hr hlk hw dM_readDigits_96 ⟨rfl, rkP.bad (by unfold scD; rw [← hR, if_pos (Or.inl ((nI_eq (by omega) (by omega)).mp c64))]) (fun k a b c => by simp [upd, a, b, c]) rfl⟩
        · skip
          refine lv_lload_n hx hb dM_readDigits_67 rfl (lv_at hl 3 rfl) ?_
          refine lv_ldc2 (v := 4294967296) hx hb S.2.2.2.1 (S.2.2.2.2 _ (List.mem_cons_of_mem _ wclM)) dM_readDigits_68 ?_
          refine W.lcmp hx hb dM_readDigits_71 ?_
          refine lv_if_lt (tgt := 80) hx hb dM_readDigits_72 (by decide) (fun c72 => ?_) (fun c72 => ?_)
          · skip
            refine lv_iconst (v := 1) hx hb dM_readDigits_80 (by decide) ?_
            refine pM17 S hw dM_readDigits_81 (fun H locs hw => ?_)
            refine lv_aload_n hx hb dM_readDigits_84 rfl (lv_at hl 0 rfl) ?_
            refine lv_lload_n hx hb dM_readDigits_85 rfl (lv_at hl 3 rfl) ?_
            refine lv_l2i (v := (lN aa).toInt32) hx hb dM_readDigits_86 rfl ?_
            refine pM18 S hw dM_readDigits_87 (fun H locs hw => ?_)
            refine lv_aload_n hx hb dM_readDigits_90 rfl (lv_at hl 0 rfl) ?_
            refine lv_iload hx hb dM_readDigits_91 (lv_at hl 4 rfl) ?_
            refine pM19 S hw dM_readDigits_93 (fun H locs hw => ?_)
            exact MM.vret S hr hlk hw dM_readDigits_96 ⟨rfl, by
              have hlt := (cmp_lt0' (by omega)).mp c72
              have e1 : ac = aa := by omega
              exact rkP.ok (k := 1) (v := (lN aa).toInt32) (b := k) (tx := []) (by unfold scD; rw [← hR, e1, if_neg]; exact fun q => q.elim (fun q => c64 (congrArg nI q)) (fun q => absurd hlt (by omega))) (by decide) (fun k a b c => by simp [upd, a, b, c]) rfl rfl (fun _ => rfl)⟩
          · skip
            refine lv_bipush (v := 6) hx hb dM_readDigits_75 (by decide) ?_
            refine lv_goto (tgt := 81) hx hb dM_readDigits_77 (by decide) ?_
            refine pM17 S hw dM_readDigits_81 (fun H locs hw => ?_)
            refine lv_aload_n hx hb dM_readDigits_84 rfl (lv_at hl 0 rfl) ?_
            refine lv_lload_n hx hb dM_readDigits_85 rfl (lv_at hl 3 rfl) ?_
            refine lv_l2i (v := (lN aa).toInt32) hx hb dM_readDigits_86 rfl ?_
            refine pM18 S hw dM_readDigits_87 (fun H locs hw => ?_)
            refine lv_aload_n hx hb dM_readDigits_90 rfl (lv_at hl 0 rfl) ?_
            refine lv_iload hx hb dM_readDigits_91 (lv_at hl 4 rfl) ?_
            refine pM19 S hw dM_readDigits_93 (fun H locs hw => ?_)
            exact MM.vret S hr hlk hw dM_readDigits_96 ⟨rfl, rkP.bad (by unfold scD; rw [← hR, if_pos (Or.inr (by have := c72; rw [cmp_lt0' (by omega)] at this; omega))]) (fun k a b c => by simp [upd, a, b, c]) rfl⟩
      · skip
        have hlt : k < n := by
          rcases Nat.lt_or_ge k n with q | q
          · exact q
          · rw [hd, see_out q, dgM_out.1] at c19
            exact absurd (nI_le (a := base) (b := 99) (by omega) (by decide)) c19
        rw [see_in hlt] at hd
        have hdg : dgN (T k) < 16 ∧ dgM (T k) = nI (dgN (T k)) := by
          rcases dg_cases (T k) with ⟨e1, _, e3⟩ | ⟨e1, _, e3⟩
          · exact ⟨e1, e3⟩
          · rw [hd, e3] at c19
            exact absurd (nI_le (a := base) (b := 99) (by omega) (by decide)) c19
        rw [hdg.2] at hd
        subst hd
        have hl : lv_has ls 7 [(0, .ref h), (1, .int (nI k0)), (2, .int (nI base)), (3, .long (lN aa)), (5, .int (nI k)), (6, .int (nI (dgN (T k))))] := hl
        have hdb : dgN (T k) < base := Nat.lt_of_not_le (fun q => c19 (nI_le q (by omega)))
        refine lv_lload_n hx hb dM_readDigits_22 rfl (lv_at hl 3 rfl) ?_
        refine lv_ldc2 (v := 4294967296) hx hb S.2.2.2.1 (S.2.2.2.2 _ (List.mem_cons_of_mem _ wclM)) dM_readDigits_23 ?_
        refine W.lcmp hx hb dM_readDigits_26 ?_
        refine lv_if_lt (tgt := 34) hx hb dM_readDigits_27 (by decide) (fun c27 => ?_) (fun c27 => ?_)
        · skip
          refine lv_lload_n hx hb dM_readDigits_34 rfl (lv_at hl 3 rfl) ?_
          refine lv_iload_n hx hb dM_readDigits_35 rfl (lv_at hl 2 rfl) ?_
          refine lv_i2l (v := (nI base).toInt64) hx hb dM_readDigits_36 rfl ?_
          refine lv_lmul hx hb dM_readDigits_37 ?_
          refine lv_iload hx hb dM_readDigits_38 (lv_at hl 5 rfl) ?_
          refine lv_i2l (v := (nI (dgN (T k))).toInt64) hx hb dM_readDigits_40 rfl ?_
          refine lv_ladd hx hb dM_readDigits_41 ?_
          refine kz_topl (y := lN (aa * base + dgN (T k))) (by rw [nI_l (by omega), nI_l (by omega), lN_mul, lN_add]) ?_
          refine lv_lstore_n (lv' := [(3, .long (lN (aa * base + dgN (T k)))), (0, .ref h), (1, .int (nI k0)), (2, .int (nI base)), (5, .int (nI k)), (6, .int (nI (dgN (T k))))]) hx hb dM_readDigits_42 rfl hl (by decide) rfl (fun ls hl => ?_)
          refine lv_iinc (v := nI (k + 1)) (lv' := [(5, .int (nI (k + 1))), (3, .long (lN (aa * base + dgN (T k)))), (0, .ref h), (1, .int (nI k0)), (2, .int (nI base)), (6, .int (nI (dgN (T k))))]) hx hb dM_readDigits_43 hl (k := 4) rfl (nI_1 k) (by decide) rfl (fun ls hl => ?_)
          refine lv_aload_n hx hb dM_readDigits_46 rfl (lv_at hl 2 rfl) ?_
          refine lv_iload hx hb dM_readDigits_47 (lv_at hl 0 rfl) ?_
          refine kcMi (rest := []) S kM_74 rfl (tM_see l I F T n hT (k + 1) (by omega)) hw hA ⟨Nat.le_of_ble_eq_true rfl, Nat.le_of_ble_eq_true rfl⟩ rfl rfl ⟨Nat.zero_le _, Nat.zero_le _⟩ rfl hl.1 (Nat.le_of_ble_eq_true rfl) dM_readDigits_49 (fun r I' F' H locs hq hw => ?_)
          obtain ⟨hr1, hr2, hr3⟩ := hq
          rw [hr2, hr3] at hw
          subst hr1
          refine kcMS (rest := []) S kM_126 (tM_digit l z none (seeT T n (k + 1))) hw hA arNone ⟨Nat.le_of_ble_eq_true rfl, Nat.le_of_ble_eq_true rfl⟩ rfl rfl ⟨Nat.zero_le _, Nat.zero_le _⟩ rfl hl.1 (Nat.le_of_ble_eq_true rfl) dM_readDigits_52 (fun r H locs hq hw => ?_)
          subst hq
          refine lv_istore (lv' := [(6, .int (dgM (seeT T n (k + 1)))), (5, .int (nI (k + 1))), (3, .long (lN (aa * base + dgN (T k)))), (0, .ref h), (1, .int (nI k0)), (2, .int (nI base))]) hx hb dM_readDigits_55 hl (by decide) rfl (fun ls hl => ?_)
          refine lv_goto (tgt := 16) hx hb dM_readDigits_57 (by decide) ?_
          rw [dSc_go hlt hdb, ← acc_step (d := dgN (T k)) ha hb1, if_pos ((cmp_lt0' (by omega)).mp c27)] at hR
          exact ih (k + 1) (aa * base + dgN (T k)) _ _ H locs ls (by omega) (by omega) (by omega) rfl (by have h1 := (cmp_lt0' (by omega)).mp c27; have h2 : aa * base ≤ 4294967296 * 16 := Nat.mul_le_mul (Nat.le_of_lt h1) hb0; omega) rfl hR hw (lv_sub hl [3, 4, 5, 2, 1, 0] rfl)
        · skip
          refine lv_lload_n hx hb dM_readDigits_30 rfl (lv_at hl 3 rfl) ?_
          refine lv_goto (tgt := 42) hx hb dM_readDigits_31 (by decide) ?_
          refine lv_lstore_n (lv' := [(3, .long (lN aa)), (0, .ref h), (1, .int (nI k0)), (2, .int (nI base)), (5, .int (nI k)), (6, .int (nI (dgN (T k))))]) hx hb dM_readDigits_42 rfl hl (by decide) rfl (fun ls hl => ?_)
          refine lv_iinc (v := nI (k + 1)) (lv' := [(5, .int (nI (k + 1))), (3, .long (lN aa)), (0, .ref h), (1, .int (nI k0)), (2, .int (nI base)), (6, .int (nI (dgN (T k))))]) hx hb dM_readDigits_43 hl (k := 4) rfl (nI_1 k) (by decide) rfl (fun ls hl => ?_)
          refine lv_aload_n hx hb dM_readDigits_46 rfl (lv_at hl 2 rfl) ?_
          refine lv_iload hx hb dM_readDigits_47 (lv_at hl 0 rfl) ?_
          refine kcMi (rest := []) S kM_74 rfl (tM_see l I F T n hT (k + 1) (by omega)) hw hA ⟨Nat.le_of_ble_eq_true rfl, Nat.le_of_ble_eq_true rfl⟩ rfl rfl ⟨Nat.zero_le _, Nat.zero_le _⟩ rfl hl.1 (Nat.le_of_ble_eq_true rfl) dM_readDigits_49 (fun r I' F' H locs hq hw => ?_)
          obtain ⟨hr1, hr2, hr3⟩ := hq
          rw [hr2, hr3] at hw
          subst hr1
          refine kcMS (rest := []) S kM_126 (tM_digit l z none (seeT T n (k + 1))) hw hA arNone ⟨Nat.le_of_ble_eq_true rfl, Nat.le_of_ble_eq_true rfl⟩ rfl rfl ⟨Nat.zero_le _, Nat.zero_le _⟩ rfl hl.1 (Nat.le_of_ble_eq_true rfl) dM_readDigits_52 (fun r H locs hq hw => ?_)
          subst hq
          refine lv_istore (lv' := [(6, .int (dgM (seeT T n (k + 1)))), (5, .int (nI (k + 1))), (3, .long (lN aa)), (0, .ref h), (1, .int (nI k0)), (2, .int (nI base))]) hx hb dM_readDigits_55 hl (by decide) rfl (fun ls hl => ?_)
          refine lv_goto (tgt := 16) hx hb dM_readDigits_57 (by decide) ?_
          rw [dSc_go hlt hdb, ← acc_step (d := dgN (T k)) ha hb1, if_neg (by have := c27; rw [cmp_lt0' (by omega)] at this; exact this)] at hR
          exact ih (k + 1) aa _ _ H locs ls (by omega) (by omega) (by omega) rfl (by omega) rfl hR hw (lv_sub hl [3, 4, 5, 2, 1, 0] rfl)
  refine lv_lconst (v := 0) hx hb dM_readDigits_0 (by decide) ?_
  refine lv_lstore_n (lv' := [(3, .long 0), (0, .ref h), (1, .int (nI k0)), (2, .int (nI base))]) hx hb dM_readDigits_1 rfl hl (by decide) rfl (fun ls hl => ?_)
  refine lv_iload_n hx hb dM_readDigits_2 rfl (lv_at hl 2 rfl) ?_
  refine lv_istore (lv' := [(5, .int (nI k0)), (3, .long 0), (0, .ref h), (1, .int (nI k0)), (2, .int (nI base))]) hx hb dM_readDigits_3 hl (by decide) rfl (fun ls hl => ?_)
  refine lv_aload_n hx hb dM_readDigits_5 rfl (lv_at hl 2 rfl) ?_
  refine lv_iload hx hb dM_readDigits_6 (lv_at hl 0 rfl) ?_
  refine kcMi (rest := []) S kM_74 rfl (tM_see l I F T n hT k0 (by omega)) hw hA ⟨Nat.le_of_ble_eq_true rfl, Nat.le_of_ble_eq_true rfl⟩ rfl rfl ⟨Nat.zero_le _, Nat.zero_le _⟩ rfl hl.1 (Nat.le_of_ble_eq_true rfl) dM_readDigits_8 (fun r I' F' H locs hq hw => ?_)
  obtain ⟨hr1, hr2, hr3⟩ := hq
  rw [hr2, hr3] at hw
  subst hr1
  refine kcMS (rest := []) S kM_126 (tM_digit l z none (seeT T n k0)) hw hA arNone ⟨Nat.le_of_ble_eq_true rfl, Nat.le_of_ble_eq_true rfl⟩ rfl rfl ⟨Nat.zero_le _, Nat.zero_le _⟩ rfl hl.1 (Nat.le_of_ble_eq_true rfl) dM_readDigits_11 (fun r H locs hq hw => ?_)
  subst hq
  refine lv_istore (lv' := [(6, .int (dgM (seeT T n k0))), (5, .int (nI k0)), (3, .long 0), (0, .ref h), (1, .int (nI k0)), (2, .int (nI base))]) hx hb dM_readDigits_14 hl (by decide) rfl (fun ls hl => ?_)
  exact loop16 (n + 1003) k0 0 0 _ H locs ls (Nat.le_refl _) (Or.inr rfl) (by omega) rfl (by omega) rfl rfl hw (lv_sub hl [3, 4, 5, 2, 1, 0] rfl)
set_option maxHeartbeats 4000000 in
set_option maxRecDepth 100000 in
theorem tM_readByte (l : Launch) (I : Nat → Int32) (F : Nat → Nat → Int32) (T : Nat → Int32) (n : Nat) (hT : tpM T n I F) (p : Nat) (h15 : I 15 = nI p) (hp : p < n) : MM l yM_readByte cM_readByte 1 none ({ frames := 2, cells := 0, slots := 0, locals := 45 }) [] I F (vR (fun I' F' => rkP I F (scC T n p) I' F')) := by
  refine MM.mk (by decide) (fun _ => Nat.le_of_ble_eq_true rfl) ?_
  intro z D cA h a pg en s m below meth c ls S hr hlk hA hw hl
  have hx := S.1
  have hb := S.2.1
  have hl : lv_has ls 1 [(0, .ref h)] := hl
  have hn := hT.2.1
  have hnx : nextT T n (p + 1) ≤ p + 3 := by unfold nextT; split <;> omega
  refine lv_aload_n hx hb dM_readByte_0 rfl (lv_at hl 0 rfl) ?_
  refine lv_aload_n hx hb dM_readByte_1 rfl (lv_at hl 0 rfl) ?_
  refine lv_aload_n hx hb dM_readByte_2 rfl (lv_at hl 0 rfl) ?_
  refine gM15 S hw dM_readByte_3 ?_
  refine kz_top (y := nI p) h15 ?_
  refine lv_iconst (v := 1) hx hb dM_readByte_6 (by decide) ?_
  refine lv_iadd hx hb dM_readByte_7 ?_
  refine kz_top (y := nI (p + 1)) (nI_add p 1) ?_
  refine lv_bipush (v := 39) hx hb dM_readByte_8 (by decide) ?_
  refine kcMi (rest := [.ref h]) S kM_134 rfl (tM_meaning l I F T n hT (p + 1) (by omega) 39) hw hA ⟨Nat.le_of_ble_eq_true rfl, Nat.le_of_ble_eq_true rfl⟩ rfl rfl ⟨Nat.zero_le _, Nat.zero_le _⟩ rfl hl.1 (Nat.le_of_ble_eq_true rfl) dM_readByte_10 (fun r I' F' H locs hq hw => ?_)
  obtain ⟨hr1, hr2, hr3⟩ := hq
  rw [hr2, hr3] at hw
  subst hr1
  refine pM18 S hw dM_readByte_13 (fun H locs hw => ?_)
  refine lv_aload_n hx hb dM_readByte_16 rfl (lv_at hl 0 rfl) ?_
  refine lv_aload_n hx hb dM_readByte_17 rfl (lv_at hl 0 rfl) ?_
  refine lv_aload_n hx hb dM_readByte_18 rfl (lv_at hl 0 rfl) ?_
  refine gM15 S hw dM_readByte_19 ?_
  refine kz_top (y := nI p) h15 ?_
  refine lv_iconst (v := 1) hx hb dM_readByte_22 (by decide) ?_
  refine lv_iadd hx hb dM_readByte_23 ?_
  refine kz_top (y := nI (p + 1)) (nI_add p 1) ?_
  refine kcMi (rest := [.ref h]) S kM_138 rfl (tM_next l (upd I 18 (meanT T n (p + 1) 39)) F T n hT (p + 1) (by omega)) hw hA ⟨Nat.le_of_ble_eq_true rfl, Nat.le_of_ble_eq_true rfl⟩ rfl rfl ⟨Nat.zero_le _, Nat.zero_le _⟩ rfl hl.1 (Nat.le_of_ble_eq_true rfl) dM_readByte_24 (fun r I' F' H locs hq hw => ?_)
  obtain ⟨hr1, hr2, hr3⟩ := hq
  rw [hr2, hr3] at hw
  subst hr1
  refine lv_iconst (v := 1) hx hb dM_readByte_27 (by decide) ?_
  refine lv_iadd hx hb dM_readByte_28 ?_
  refine kz_top (y := nI (nextT T n (p + 1) + 1)) (nI_add (nextT T n (p + 1)) 1) ?_
  refine pM19 S hw dM_readByte_29 (fun H locs hw => ?_)
  refine lv_aload_n hx hb dM_readByte_32 rfl (lv_at hl 0 rfl) ?_
  refine lv_aload_n hx hb dM_readByte_33 rfl (lv_at hl 0 rfl) ?_
  refine gM18 S hw dM_readByte_34 ?_
  refine kz_top (y := meanT T n (p + 1) 39) rfl ?_
  refine lv_if_lt (tgt := 59) hx hb dM_readByte_37 (by decide) (fun c37 => ?_) (fun c37 => ?_)
  · skip
    refine lv_bipush (v := 6) hx hb dM_readByte_59 (by decide) ?_
    refine pM17 S hw dM_readByte_61 (fun H locs hw => ?_)
    exact MM.vret S hr hlk hw dM_readByte_64 ⟨rfl, rkP.bad (by unfold scC; rw [if_neg (fun q => mean_nn q.1 c37)]) (fun k a b c => by simp [upd, a, b, c]) rfl⟩
  · skip
    refine lv_aload_n hx hb dM_readByte_40 rfl (lv_at hl 0 rfl) ?_
    refine lv_aload_n hx hb dM_readByte_41 rfl (lv_at hl 0 rfl) ?_
    refine gM19 S hw dM_readByte_42 ?_
    refine kz_top (y := nI (nextT T n (p + 1) + 1)) rfl ?_
    refine lv_iconst (v := 1) hx hb dM_readByte_45 (by decide) ?_
    refine lv_isub hx hb dM_readByte_46 ?_
    refine kz_top (y := nI (nextT T n (p + 1))) (nI_pred _) ?_
    refine kcMi (rest := [.ref h]) S kM_74 rfl (tM_see l (upd (upd I 18 (meanT T n (p + 1) 39)) 19 (nI (nextT T n (p + 1) + 1))) F T n hT (nextT T n (p + 1)) (by omega)) hw hA ⟨Nat.le_of_ble_eq_true rfl, Nat.le_of_ble_eq_true rfl⟩ rfl rfl ⟨Nat.zero_le _, Nat.zero_le _⟩ rfl hl.1 (Nat.le_of_ble_eq_true rfl) dM_readByte_47 (fun r I' F' H locs hq hw => ?_)
    obtain ⟨hr1, hr2, hr3⟩ := hq
    rw [hr2, hr3] at hw
    subst hr1
    refine lv_bipush (v := 39) hx hb dM_readByte_50 (by decide) ?_
    refine lv_icmp_ne (tgt := 59) hx hb dM_readByte_52 (by decide) (fun c52 => ?_) (fun c52 => ?_)
    · skip
      refine lv_bipush (v := 6) hx hb dM_readByte_59 (by decide) ?_
      refine pM17 S hw dM_readByte_61 (fun H locs hw => ?_)
      exact MM.vret S hr hlk hw dM_readByte_64 ⟨rfl, rkP.bad (by unfold scC; rw [if_neg (fun q => c52 q.2)]) (fun k a b c => by simp [upd, a, b, c]) rfl⟩
    · skip
      refine lv_iconst (v := 1) hx hb dM_readByte_55 (by decide) ?_
      refine lv_goto (tgt := 61) hx hb dM_readByte_56 (by decide) ?_
      refine pM17 S hw dM_readByte_61 (fun H locs hw => ?_)
      exact MM.vret S hr hlk hw dM_readByte_64 ⟨rfl, rkP.ok (k := 1) (v := meanT T n (p + 1) 39) (b := nextT T n (p + 1) + 1) (tx := []) (by unfold scC; rw [if_pos ⟨fun q => c37 (by rw [q]; decide), c52⟩]) (by decide) (fun k a b c => by simp [upd, a, b, c]) rfl rfl (fun _ => rfl)⟩
end
section
set_option maxHeartbeats 4000000 in
set_option maxRecDepth 100000 in
theorem tM_readString (l : Launch) (I : Nat → Int32) (F : Nat → Nat → Int32) (T : Nat → Int32) (n : Nat) (hT : tpM T n I F) (p : Nat) (h15 : I 15 = nI p) (hp : p < n) : MM l yM_readString cM_readString 3 none ({ frames := 2, cells := 0, slots := 0, locals := 45 }) [] I F (vR (fun I' F' => rkP I F (scS T n p) I' F')) := by
  refine MM.mk (by decide) (fun _ => Nat.le_of_ble_eq_true rfl) ?_
  intro z D cA h a pg en s m below meth c ls S hr hlk hA hw hl
  have hx := S.1
  have hb := S.2.1
  have hl : lv_has ls 3 [(0, .ref h)] := hl
  have hn := hT.2.1
  have cont : ∀ (k j : Nat) (H : Heap) (locs : List Loc) (ls : Array Slot), k ≤ n → j ≤ 1000 → (sSc T n (n - p) (p + 1)).2 = k → (sSc T n (n - p) (p + 1)).1.length = j → sM z D cA h a (AM h a s.heap.size) s H locs I F → lv_has ls 3 [(0, .ref h), (1, .int (nI k)), (2, .int (nI j))] → W pg l en ({ frames := 2, cells := 0, slots := 0, locals := 45 }) s m ([.ref h] : List Value).toArray below meth c H locs 0 0 (MQ below (QM z D cA h a s.heap.size (vR (fun I' F' => rkP I F (scS T n p) I' F'))) ([.ref h] : List Value).toArray s 0 0 (AM h a s.heap.size)) (F0 m 41 ls []) := by
    intro k j H locs ls hk hj hE hL hw hl
    refine lv_aload_n hx hb dM_readString_41 rfl (lv_at hl 0 rfl) ?_
    refine lv_iload_n hx hb dM_readString_42 rfl (lv_at hl 1 rfl) ?_
    refine lv_iconst (v := 1) hx hb dM_readString_43 (by decide) ?_
    refine lv_iadd hx hb dM_readString_44 ?_
    refine kz_top (y := nI (k + 1)) (nI_add k 1) ?_
    refine pM19 S hw dM_readString_45 (fun H locs hw => ?_)
    refine lv_aload_n hx hb dM_readString_48 rfl (lv_at hl 0 rfl) ?_
    refine lv_aload_n hx hb dM_readString_49 rfl (lv_at hl 0 rfl) ?_
    refine lv_iload_n hx hb dM_readString_50 rfl (lv_at hl 1 rfl) ?_
    refine kcMi (rest := [.ref h]) S kM_74 rfl (tM_see l (upd I 19 (nI (k + 1))) F T n hT k (by omega)) hw hA ⟨Nat.le_of_ble_eq_true rfl, Nat.le_of_ble_eq_true rfl⟩ rfl rfl ⟨Nat.zero_le _, Nat.zero_le _⟩ rfl hl.1 (Nat.le_of_ble_eq_true rfl) dM_readString_51 (fun r I' F' H locs hq hw => ?_)
    obtain ⟨hr1, hr2, hr3⟩ := hq
    rw [hr2, hr3] at hw
    subst hr1
    refine lv_bipush (v := 34) hx hb dM_readString_54 (by decide) ?_
    refine lv_icmp_ne (tgt := 66) hx hb dM_readString_56 (by decide) (fun c56 => ?_) (fun c56 => ?_)
    · skip
      refine lv_bipush (v := 6) hx hb dM_readString_66 (by decide) ?_
      refine lv_goto (tgt := 72) hx hb dM_readString_68 (by decide) ?_
      refine pM17 S hw dM_readString_72 (fun H locs hw => ?_)
      exact MM.vret S hr hlk hw dM_readString_75 ⟨rfl, rkP.bad (by unfold scS; rw [if_neg (fun q => c56 (by rw [← hE]; exact q.1))]) (fun k a b c => by simp [upd, a, b, c]) rfl⟩
    · skip
      refine lv_iload_n hx hb dM_readString_59 rfl (lv_at hl 2 rfl) ?_
      refine lv_sipush (v := 200) hx hb dM_readString_60 (by decide) ?_
      refine lv_icmp_le (tgt := 71) hx hb dM_readString_63 (by decide) (fun c63 => ?_) (fun c63 => ?_)
      · skip
        refine lv_iconst (v := 2) hx hb dM_readString_71 (by decide) ?_
        refine pM17 S hw dM_readString_72 (fun H locs hw => ?_)
        exact MM.vret S hr hlk hw dM_readString_75 ⟨rfl, rkP.ok (k := 2) (v := 0) (b := k + 1) (tx := (sSc T n (n - p) (p + 1)).1) (by unfold scS; rw [if_pos ⟨by rw [hE]; exact c56, by rw [hL]; exact (nI_leI (a := j) (b := 200) (by omega) (by decide)).mp c63⟩, hE]) (by decide) (fun k a b c => by simp [upd, a, b, c]) rfl rfl (fun q => absurd q (by decide))⟩
      · skip
        refine lv_bipush (v := 6) hx hb dM_readString_66 (by decide) ?_
        refine lv_goto (tgt := 72) hx hb dM_readString_68 (by decide) ?_
        refine pM17 S hw dM_readString_72 (fun H locs hw => ?_)
        exact MM.vret S hr hlk hw dM_readString_75 ⟨rfl, rkP.bad (by unfold scS; rw [if_neg (fun q => by have := q.2; rw [hL] at this; exact c63 (nI_le this (by decide)))]) (fun k a b c => by simp [upd, a, b, c]) rfl⟩
  have loop9 : ∀ (fu : Nat) (j k mm : Nat) (H : Heap) (locs : List Loc) (ls : Array Slot), j + (sSc T n mm k).1.length = (sSc T n (n - p) (p + 1)).1.length → p + 1 + j ≤ k → k ≤ n → n + 1 ≤ k + mm → n + 1 ≤ k + fu → (sSc T n (n - p) (p + 1)).2 = (sSc T n mm k).2 → sM z D cA h a (AM h a s.heap.size) s H locs I F → lv_has ls 3 [(0, .ref h), (1, .int (nI k)), (2, .int (nI j))] → W pg l en ({ frames := 2, cells := 0, slots := 0, locals := 45 }) s m ([.ref h] : List Value).toArray below meth c H locs 0 0 (MQ below (QM z D cA h a s.heap.size (vR (fun I' F' => rkP I F (scS T n p) I' F'))) ([.ref h] : List Value).toArray s 0 0 (AM h a s.heap.size)) (F0 m 9 ls []) := by
    intro fu
    induction fu with
    | zero => intro j k mm  H locs ls hj hk1 hk2 hm hf hE hw hl; omega
    | succ fu ih =>
      intro j k mm  H locs ls hj hk1 hk2 hm hf hE hw hl
      obtain ⟨m1, rfl⟩ : ∃ m1, mm = m1 + 1 := ⟨mm - 1, by omega⟩
      refine lv_aload_n hx hb dM_readString_9 rfl (lv_at hl 0 rfl) ?_
      refine lv_iload_n hx hb dM_readString_10 rfl (lv_at hl 1 rfl) ?_
      refine kcMi (rest := []) S kM_74 rfl (tM_see l I F T n hT k (by omega)) hw hA ⟨Nat.le_of_ble_eq_true rfl, Nat.le_of_ble_eq_true rfl⟩ rfl rfl ⟨Nat.zero_le _, Nat.zero_le _⟩ rfl hl.1 (Nat.le_of_ble_eq_true rfl) dM_readString_11 (fun r I' F' H locs hq hw => ?_)
      obtain ⟨hr1, hr2, hr3⟩ := hq
      rw [hr2, hr3] at hw
      subst hr1
      refine lv_bipush (v := 34) hx hb dM_readString_14 (by decide) ?_
      refine lv_icmp_eq (tgt := 41) hx hb dM_readString_16 (by decide) (fun c16 => ?_) (fun c16 => ?_)
      · skip
        have hbb : sSc T n (m1 + 1) k = ([], k) := sSc_q c16
        rw [hbb] at hj hE
        exact cont k j H locs ls hk2 (by omega) hE (by rw [← hj]; simp) hw (lv_sub hl [0, 1, 2] rfl)
      · skip
        refine lv_aload_n hx hb dM_readString_19 rfl (lv_at hl 0 rfl) ?_
        refine lv_iload_n hx hb dM_readString_20 rfl (lv_at hl 1 rfl) ?_
        refine lv_bipush (v := 34) hx hb dM_readString_21 (by decide) ?_
        refine kcMi (rest := []) S kM_134 rfl (tM_meaning l I F T n hT k (by omega) 34) hw hA ⟨Nat.le_of_ble_eq_true rfl, Nat.le_of_ble_eq_true rfl⟩ rfl rfl ⟨Nat.zero_le _, Nat.zero_le _⟩ rfl hl.1 (Nat.le_of_ble_eq_true rfl) dM_readString_23 (fun r I' F' H locs hq hw => ?_)
        obtain ⟨hr1, hr2, hr3⟩ := hq
        rw [hr2, hr3] at hw
        subst hr1
        refine lv_if_lt (tgt := 41) hx hb dM_readString_26 (by decide) (fun c26 => ?_) (fun c26 => ?_)
        · skip
          have hbb : sSc T n (m1 + 1) k = ([], k) := sSc_b c16 (by
            by_cases q : meanT T n k 34 = -1
            · exact q
            · exact absurd c26 (mean_nn q))
          rw [hbb] at hj hE
          exact cont k j H locs ls hk2 (by omega) hE (by rw [← hj]; simp) hw (lv_sub hl [0, 1, 2] rfl)
        · skip
          have hmn : ¬ meanT T n k 34 = -1 := fun q => c26 (by rw [q]; decide)
          refine lv_aload_n hx hb dM_readString_29 rfl (lv_at hl 0 rfl) ?_
          refine lv_iload_n hx hb dM_readString_30 rfl (lv_at hl 1 rfl) ?_
          refine kcMi (rest := []) S kM_138 rfl (tM_next l I F T n hT k (by omega)) hw hA ⟨Nat.le_of_ble_eq_true rfl, Nat.le_of_ble_eq_true rfl⟩ rfl rfl ⟨Nat.zero_le _, Nat.zero_le _⟩ rfl hl.1 (Nat.le_of_ble_eq_true rfl) dM_readString_31 (fun r I' F' H locs hq hw => ?_)
          obtain ⟨hr1, hr2, hr3⟩ := hq
          rw [hr2, hr3] at hw
          subst hr1
          refine lv_istore_n (lv' := [(1, .int (nI (nextT T n k))), (0, .ref h), (2, .int (nI j))]) hx hb dM_readString_34 rfl hl (by decide) rfl (fun ls hl => ?_)
          refine lv_iinc (v := nI (j + 1)) (lv' := [(2, .int (nI (j + 1))), (1, .int (nI (nextT T n k))), (0, .ref h)]) hx hb dM_readString_35 hl (k := 2) rfl (nI_1 j) (by decide) rfl (fun ls hl => ?_)
          refine lv_goto (tgt := 9) hx hb dM_readString_38 (by decide) ?_
          have hmi := mean_in hmn
          exact ih (j + 1) (nextT T n k) m1 H locs ls (by rw [← hj, sSc_go c16 hmn]; simp only [List.length_cons]; omega) (by omega) hmi.2.1 (by omega) (by omega) (by rw [hE, sSc_go c16 hmn]) hw (lv_sub hl [2, 1, 0] rfl)
  refine lv_aload_n hx hb dM_readString_0 rfl (lv_at hl 0 rfl) ?_
  refine gM15 S hw dM_readString_1 ?_
  refine kz_top (y := nI p) h15 ?_
  refine lv_iconst (v := 1) hx hb dM_readString_4 (by decide) ?_
  refine lv_iadd hx hb dM_readString_5 ?_
  refine kz_top (y := nI (p + 1)) (nI_add p 1) ?_
  refine lv_istore_n (lv' := [(1, .int (nI (p + 1))), (0, .ref h)]) hx hb dM_readString_6 rfl hl (by decide) rfl (fun ls hl => ?_)
  refine lv_iconst (v := 0) hx hb dM_readString_7 (by decide) ?_
  refine lv_istore_n (lv' := [(2, .int 0), (1, .int (nI (p + 1))), (0, .ref h)]) hx hb dM_readString_8 rfl hl (by decide) rfl (fun ls hl => ?_)
  exact loop9 (n + 1) 0 (p + 1) (n - p) s.heap [] ls (Nat.zero_add _) (by omega) (by omega) (by omega) (by omega) rfl hw (lv_sub hl [2, 1, 0] rfl)
set_option maxHeartbeats 4000000 in
set_option maxRecDepth 100000 in
theorem tM_readToken (l : Launch) (I : Nat → Int32) (F : Nat → Nat → Int32) (T : Nat → Int32) (n : Nat) (hT : tpM T n I F) (p : Nat) (h15 : I 15 = nI p) (hp : p < n) : MM l yM_readToken cM_readToken 2 none ({ frames := 4, cells := 0, slots := 0, locals := 81 }) [] I F (vR (fun I' F' => rkP I F (scT T n p) I' F')) := by
  refine MM.mk (by decide) (fun _ => Nat.le_of_ble_eq_true rfl) ?_
  intro z D cA h a pg en s m below meth c ls S hr hlk hA hw hl
  have hx := S.1
  have hb := S.2.1
  have hl : lv_has ls 2 [(0, .ref h)] := hl
  have hn := hT.2.1
  refine lv_aload_n hx hb dM_readToken_0 rfl (lv_at hl 0 rfl) ?_
  refine lv_aload_n hx hb dM_readToken_1 rfl (lv_at hl 0 rfl) ?_
  refine gM15 S hw dM_readToken_2 ?_
  refine kz_top (y := nI p) h15 ?_
  refine kcMi (rest := []) S kM_74 rfl (tM_see l I F T n hT p (by omega)) hw hA ⟨Nat.le_of_ble_eq_true rfl, Nat.le_of_ble_eq_true rfl⟩ rfl rfl ⟨Nat.zero_le _, Nat.zero_le _⟩ rfl hl.1 (Nat.le_of_ble_eq_true rfl) dM_readToken_5 (fun r I' F' H locs hq hw => ?_)
  obtain ⟨hr1, hr2, hr3⟩ := hq
  rw [hr2, hr3] at hw
  subst hr1
  refine kz_top (see_in hp) ?_
  refine lv_istore_n (lv' := [(1, .int (T p)), (0, .ref h)]) hx hb dM_readToken_8 rfl hl (by decide) rfl (fun ls hl => ?_)
  refine lv_aload_n hx hb dM_readToken_9 rfl (lv_at hl 1 rfl) ?_
  refine lv_iconst (v := 0) hx hb dM_readToken_10 (by decide) ?_
  refine pM18 S hw dM_readToken_11 (fun H locs hw => ?_)
  refine lv_iload_n hx hb dM_readToken_14 rfl (lv_at hl 0 rfl) ?_
  refine kcMS (rest := []) S kM_65 (tM_isLetter l z none (T p)) hw hA arNone ⟨Nat.le_of_ble_eq_true rfl, Nat.le_of_ble_eq_true rfl⟩ rfl rfl ⟨Nat.zero_le _, Nat.zero_le _⟩ rfl hl.1 (Nat.le_of_ble_eq_true rfl) dM_readToken_15 (fun r H locs hq hw => ?_)
  rcases bI hq with ⟨hB1, rfl⟩ | ⟨hB1, rfl⟩
  · skip
    refine lv_if_eq (tgt := 28) hx hb dM_readToken_18 (by decide) (fun c18 => absurd c18 (by decide)) (fun c18 => ?_)
    refine lv_aload_n hx hb dM_readToken_21 rfl (lv_at hl 1 rfl) ?_
    refine kcMv (rest := []) S kM_141 rfl (tM_readName l (upd I 18 0) F T n hT p h15 hp) hw hA ⟨Nat.le_of_ble_eq_true rfl, Nat.le_of_ble_eq_true rfl⟩ rfl rfl ⟨Nat.zero_le _, Nat.zero_le _⟩ rfl hl.1 (Nat.le_of_ble_eq_true rfl) dM_readToken_22 (fun I' F' H locs hq hw => ?_)
    refine lv_goto (tgt := 135) hx hb dM_readToken_25 (by decide) ?_
    exact MM.vret S hr hlk hw dM_readToken_135 ⟨rfl, hq.base (fun k a b c => by simp [upd, b]) (by unfold scT; rw [if_pos hB1])⟩
  · skip
    refine lv_if_eq (tgt := 28) hx hb dM_readToken_18 (by decide) (fun c18 => ?_) (fun c18 => absurd c18 (by decide))
    refine lv_iload_n hx hb dM_readToken_28 rfl (lv_at hl 0 rfl) ?_
    refine kcMS (rest := []) S kM_68 (tM_isDigit l z none (T p)) hw hA arNone ⟨Nat.le_of_ble_eq_true rfl, Nat.le_of_ble_eq_true rfl⟩ rfl rfl ⟨Nat.zero_le _, Nat.zero_le _⟩ rfl hl.1 (Nat.le_of_ble_eq_true rfl) dM_readToken_29 (fun r H locs hq hw => ?_)
    rcases bI hq with ⟨hB2, rfl⟩ | ⟨hB2, rfl⟩
    · skip
      refine lv_if_eq (tgt := 48) hx hb dM_readToken_32 (by decide) (fun c32 => absurd c32 (by decide)) (fun c32 => ?_)
      refine lv_aload_n hx hb dM_readToken_35 rfl (lv_at hl 1 rfl) ?_
      refine lv_aload_n hx hb dM_readToken_36 rfl (lv_at hl 1 rfl) ?_
      refine gM15 S hw dM_readToken_37 ?_
      refine kz_top (y := nI p) h15 ?_
      refine lv_bipush (v := 10) hx hb dM_readToken_40 (by decide) ?_
      refine kcMv (rest := []) S kM_144 rfl (tM_readDigits l (upd I 18 0) F T n hT p 10 (by omega) (by decide) (by decide)) hw hA ⟨Nat.le_of_ble_eq_true rfl, Nat.le_of_ble_eq_true rfl⟩ rfl rfl ⟨Nat.zero_le _, Nat.zero_le _⟩ rfl hl.1 (Nat.le_of_ble_eq_true rfl) dM_readToken_42 (fun I' F' H locs hq hw => ?_)
      refine lv_goto (tgt := 135) hx hb dM_readToken_45 (by decide) ?_
      exact MM.vret S hr hlk hw dM_readToken_135 ⟨rfl, hq.base (fun k a b c => by simp [upd, b]) (by unfold scT; rw [if_neg hB1, if_pos hB2])⟩
    · skip
      refine lv_if_eq (tgt := 48) hx hb dM_readToken_32 (by decide) (fun c32 => ?_) (fun c32 => absurd c32 (by decide))
      refine lv_iload_n hx hb dM_readToken_48 rfl (lv_at hl 0 rfl) ?_
      refine lv_bipush (v := 35) hx hb dM_readToken_49 (by decide) ?_
      refine lv_icmp_ne (tgt := 84) hx hb dM_readToken_51 (by decide) (fun c51 => ?_) (fun c51 => ?_)
      · skip
        refine lv_iload_n hx hb dM_readToken_84 rfl (lv_at hl 0 rfl) ?_
        refine lv_bipush (v := 35) hx hb dM_readToken_85 (by decide) ?_
        refine lv_icmp_ne (tgt := 105) hx hb dM_readToken_87 (by decide) (fun c87 => ?_) (fun c87 => absurd c87 c51)
        refine lv_iload_n hx hb dM_readToken_105 rfl (lv_at hl 0 rfl) ?_
        refine lv_bipush (v := 39) hx hb dM_readToken_106 (by decide) ?_
        refine lv_icmp_ne (tgt := 118) hx hb dM_readToken_108 (by decide) (fun c108 => ?_) (fun c108 => ?_)
        · skip
          refine lv_iload_n hx hb dM_readToken_118 rfl (lv_at hl 0 rfl) ?_
          refine lv_bipush (v := 34) hx hb dM_readToken_119 (by decide) ?_
          refine lv_icmp_ne (tgt := 131) hx hb dM_readToken_121 (by decide) (fun c121 => ?_) (fun c121 => ?_)
          · skip
            refine lv_aload_n hx hb dM_readToken_131 rfl (lv_at hl 1 rfl) ?_
            refine kcMv (rest := []) S kM_154 rfl (tM_readSign l (upd I 18 0) F T n hT p h15 hp) hw hA ⟨Nat.le_of_ble_eq_true rfl, Nat.le_of_ble_eq_true rfl⟩ rfl rfl ⟨Nat.zero_le _, Nat.zero_le _⟩ rfl hl.1 (Nat.le_of_ble_eq_true rfl) dM_readToken_132 (fun I' F' H locs hq hw => ?_)
            exact MM.vret S hr hlk hw dM_readToken_135 ⟨rfl, hq.base (fun k a b c => by simp [upd, b]) (by unfold scT; rw [if_neg hB1, if_neg hB2, if_neg c51, if_neg c108, if_neg c121])⟩
          · skip
            refine lv_aload_n hx hb dM_readToken_124 rfl (lv_at hl 1 rfl) ?_
            refine kcMv (rest := []) S kM_151 rfl (tM_readString l (upd I 18 0) F T n hT p h15 hp) hw hA ⟨Nat.le_of_ble_eq_true rfl, Nat.le_of_ble_eq_true rfl⟩ rfl rfl ⟨Nat.zero_le _, Nat.zero_le _⟩ rfl hl.1 (Nat.le_of_ble_eq_true rfl) dM_readToken_125 (fun I' F' H locs hq hw => ?_)
            refine lv_goto (tgt := 135) hx hb dM_readToken_128 (by decide) ?_
            exact MM.vret S hr hlk hw dM_readToken_135 ⟨rfl, hq.base (fun k a b c => by simp [upd, b]) (by unfold scT; rw [if_neg hB1, if_neg hB2, if_neg c51, if_neg c108, if_pos c121])⟩
        · skip
          refine lv_aload_n hx hb dM_readToken_111 rfl (lv_at hl 1 rfl) ?_
          refine kcMv (rest := []) S kM_148 rfl (tM_readByte l (upd I 18 0) F T n hT p h15 hp) hw hA ⟨Nat.le_of_ble_eq_true rfl, Nat.le_of_ble_eq_true rfl⟩ rfl rfl ⟨Nat.zero_le _, Nat.zero_le _⟩ rfl hl.1 (Nat.le_of_ble_eq_true rfl) dM_readToken_112 (fun I' F' H locs hq hw => ?_)
          refine lv_goto (tgt := 135) hx hb dM_readToken_115 (by decide) ?_
          exact MM.vret S hr hlk hw dM_readToken_135 ⟨rfl, hq.base (fun k a b c => by simp [upd, b]) (by unfold scT; rw [if_neg hB1, if_neg hB2, if_neg c51, if_pos c108])⟩
      · skip
        refine lv_aload_n hx hb dM_readToken_54 rfl (lv_at hl 1 rfl) ?_
        refine lv_aload_n hx hb dM_readToken_55 rfl (lv_at hl 1 rfl) ?_
        refine gM15 S hw dM_readToken_56 ?_
        refine kz_top (y := nI p) h15 ?_
        refine lv_iconst (v := 1) hx hb dM_readToken_59 (by decide) ?_
        refine lv_iadd hx hb dM_readToken_60 ?_
        refine kz_top (y := nI (p + 1)) (nI_add p 1) ?_
        refine kcMi (rest := []) S kM_74 rfl (tM_see l (upd I 18 0) F T n hT (p + 1) (by omega)) hw hA ⟨Nat.le_of_ble_eq_true rfl, Nat.le_of_ble_eq_true rfl⟩ rfl rfl ⟨Nat.zero_le _, Nat.zero_le _⟩ rfl hl.1 (Nat.le_of_ble_eq_true rfl) dM_readToken_61 (fun r I' F' H locs hq hw => ?_)
        obtain ⟨hr1, hr2, hr3⟩ := hq
        rw [hr2, hr3] at hw
        subst hr1
        refine lv_bipush (v := 88) hx hb dM_readToken_64 (by decide) ?_
        refine lv_icmp_ne (tgt := 84) hx hb dM_readToken_66 (by decide) (fun c66 => ?_) (fun c66 => ?_)
        · skip
          refine lv_iload_n hx hb dM_readToken_84 rfl (lv_at hl 0 rfl) ?_
          refine lv_bipush (v := 35) hx hb dM_readToken_85 (by decide) ?_
          refine lv_icmp_ne (tgt := 105) hx hb dM_readToken_87 (by decide) (fun c87 => absurd c51 c87) (fun c87 => ?_)
          refine lv_aload_n hx hb dM_readToken_90 rfl (lv_at hl 1 rfl) ?_
          refine lv_aload_n hx hb dM_readToken_91 rfl (lv_at hl 1 rfl) ?_
          refine gM15 S hw dM_readToken_92 ?_
          refine kz_top (y := nI p) h15 ?_
          refine lv_iconst (v := 1) hx hb dM_readToken_95 (by decide) ?_
          refine lv_iadd hx hb dM_readToken_96 ?_
          refine kz_top (y := nI (p + 1)) (nI_add p 1) ?_
          refine lv_bipush (v := 8) hx hb dM_readToken_97 (by decide) ?_
          refine kcMv (rest := []) S kM_144 rfl (tM_readDigits l (upd I 18 0) F T n hT (p + 1) 8 (by omega) (by decide) (by decide)) hw hA ⟨Nat.le_of_ble_eq_true rfl, Nat.le_of_ble_eq_true rfl⟩ rfl rfl ⟨Nat.zero_le _, Nat.zero_le _⟩ rfl hl.1 (Nat.le_of_ble_eq_true rfl) dM_readToken_99 (fun I' F' H locs hq hw => ?_)
          refine lv_goto (tgt := 135) hx hb dM_readToken_102 (by decide) ?_
          exact MM.vret S hr hlk hw dM_readToken_135 ⟨rfl, hq.base (fun k a b c => by simp [upd, b]) (by unfold scT; rw [if_neg hB1, if_neg hB2, if_pos c51, if_neg c66])⟩
        · skip
          refine lv_aload_n hx hb dM_readToken_69 rfl (lv_at hl 1 rfl) ?_
          refine lv_aload_n hx hb dM_readToken_70 rfl (lv_at hl 1 rfl) ?_
          refine gM15 S hw dM_readToken_71 ?_
          refine kz_top (y := nI p) h15 ?_
          refine lv_iconst (v := 2) hx hb dM_readToken_74 (by decide) ?_
          refine lv_iadd hx hb dM_readToken_75 ?_
          refine kz_top (y := nI (p + 2)) (nI_add p 2) ?_
          refine lv_bipush (v := 16) hx hb dM_readToken_76 (by decide) ?_
          refine kcMv (rest := []) S kM_144 rfl (tM_readDigits l (upd I 18 0) F T n hT (p + 2) 16 (by omega) (by decide) (by decide)) hw hA ⟨Nat.le_of_ble_eq_true rfl, Nat.le_of_ble_eq_true rfl⟩ rfl rfl ⟨Nat.zero_le _, Nat.zero_le _⟩ rfl hl.1 (Nat.le_of_ble_eq_true rfl) dM_readToken_78 (fun I' F' H locs hq hw => ?_)
          refine lv_goto (tgt := 135) hx hb dM_readToken_81 (by decide) ?_
          exact MM.vret S hr hlk hw dM_readToken_135 ⟨rfl, hq.base (fun k a b c => by simp [upd, b]) (by unfold scT; rw [if_neg hB1, if_neg hB2, if_pos c51, if_pos c66])⟩
end
